/-! locks by their bits -/
theorem x_lc_le {M : m_S} : ∀ {n d : Nat}, d ≤ n → x_lc M d ≤ x_lc M n
  | 0, d, h => by
    have e : d = 0 := by omega
    rw [e]; exact Nat.le_refl _
  | n + 1, d, h => by
    by_cases e : d = n + 1
    · subst e; exact Nat.le_refl _
    · have := x_lc_le (M := M) (n := n) (d := d) (by omega)
      show x_lc M d ≤ x_lc M n + _
      omega
theorem x_lc_lt {M : m_S} {n d : Nat} (h : d < n) (hc : ¬ M.2 6 d < 0) : x_lc M d < x_lc M n := by
  have h1 := x_lc_le (M := M) (n := n) (d := d + 1) (by omega)
  have h2 : x_lc M (d + 1) = x_lc M d + 1 := by simp only [x_lc]; rw [if_neg hc]
  omega
theorem x_lc_inj {M : m_S} {a b : Nat} (ha : ¬ M.2 6 a < 0) (hb : ¬ M.2 6 b < 0) (h : x_lc M a = x_lc M b) : a = b := by
  rcases Nat.lt_trichotomy a b with q | q | q
  · have := x_lc_lt q ha; omega
  · exact q
  · have := x_lc_lt q hb; omega
theorem x_lb_tb {M : m_S} {d : Nat} (hl : x_lc M d < 32) (i : Nat) : tb (x_lb M d) i = true ↔ ¬ M.2 6 d < 0 ∧ i = x_lc M d := by
  unfold x_lb
  by_cases h : M.2 6 d < 0
  · rw [if_pos h, tb_0]; simp [h]
  · rw [if_neg h, tb_bit hl]; simp [h]
theorem x_opL_iff {M : m_S} {S : Int32} {d : Nat} (hl : x_lc M d < 32) : x_opL M S d = true ↔ M.2 6 d < 0 ∨ tb S (x_lc M d) = true := by
  unfold x_opL
  rw [decide_eq_true_eq]
  constructor
  · intro h
    by_cases c : M.2 6 d < 0
    · exact Or.inl c
    · refine Or.inr ?_
      have h1 : tb (S &&& x_lb M d) (x_lc M d) = true := by rw [h]; exact (x_lb_tb hl _).mpr ⟨c, rfl⟩
      rw [tb_and, Bool.and_eq_true] at h1
      exact h1.1
  · intro h
    refine tb_ext fun i hi => ?_
    rw [tb_and]
    cases q : tb (x_lb M d) i with
    | false => exact Bool.and_false _
    | true =>
      obtain ⟨q1, q2⟩ := (x_lb_tb hl i).mp q
      rcases h with h | h
      · exact absurd h q1
      · rw [q2, h]; rfl
theorem x_ol_tb {M : m_S} : ∀ n, (x_lc M n ≤ 31) → ∀ i, tb (x_ol M n) i = true ↔ ∃ d, d < n ∧ x_op M d = true ∧ ¬ M.2 6 d < 0 ∧ i = x_lc M d
  | 0, _, i => by simp [x_ol, tb_0]
  | n + 1, hn, i => by
    have hm := x_lc_le (M := M) (n := n + 1) (d := n) (by omega)
    have ih := x_ol_tb (M := M) n (by omega) i
    by_cases o : x_op M n = true
    · have e : x_ol M (n + 1) = x_ol M n ||| x_lb M n := by simp only [x_ol]; rw [if_pos o]
      rw [e, tb_or, Bool.or_eq_true, ih, x_lb_tb (by omega)]
      constructor
      · rintro (⟨d, h1, h2, h3, h4⟩ | ⟨h1, h2⟩)
        · exact ⟨d, by omega, h2, h3, h4⟩
        · exact ⟨n, by omega, o, h1, h2⟩
      · rintro ⟨d, h1, h2, h3, h4⟩
        by_cases q : d = n
        · subst q; exact Or.inr ⟨h3, h4⟩
        · exact Or.inl ⟨d, by omega, h2, h3, h4⟩
    · have e : x_ol M (n + 1) = x_ol M n := by simp only [x_ol]; rw [if_neg o]
      rw [e, ih]
      constructor
      · rintro ⟨d, h1, h2, h3, h4⟩; exact ⟨d, by omega, h2, h3, h4⟩
      · rintro ⟨d, h1, h2, h3, h4⟩
        by_cases q : d = n
        · subst q; exact absurd h2 o
        · exact ⟨d, by omega, h2, h3, h4⟩
theorem m_I.lc {nR nD nK nG : Nat} {M : m_S} (hI : m_I nR nD nK nG M) : x_lc M nD ≤ 10 := hI.2.2.2.2.2.1
theorem m_I.lcd {nR nD nK nG : Nat} {M : m_S} (hI : m_I nR nD nK nG M) {d : Nat} (hd : d < nD) : x_lc M d ≤ 10 := Nat.le_trans (x_lc_le (by omega)) hI.lc
theorem x_op_iff {M : m_S} {d : Nat} : x_op M d = true ↔ ¬ M.2 8 d < 0 := by unfold x_op; simp
theorem m_I.plain {nR nD nK nG : Nat} {M : m_S} (hI : m_I nR nD nK nG M) {d : Nat} (hd : d < nD) (hc : M.2 6 d < 0) : x_op M d = true := by
  rcases (hI.2.2.1 d hd).2.2 with ⟨-, -, h8⟩ | ⟨⟨x, hx, h6⟩, -⟩
  · rw [x_op_iff, h8]; decide
  · rw [h6] at hc; exact absurd hc (nI_pos (by omega))
theorem x_ol_door {nR nD nK nG : Nat} {M : m_S} (hI : m_I nR nD nK nG M) {d : Nat} (hd : d < nD) (hc : ¬ M.2 6 d < 0) : tb (x_ol M nD) (x_lc M d) = true ↔ x_op M d = true := by
  have h10 := hI.lc
  rw [x_ol_tb nD (by omega)]
  constructor
  · rintro ⟨d', h1, h2, h3, h4⟩
    rw [x_lc_inj hc h3 h4]; exact h2
  · intro h; exact ⟨d, hd, h, hc, rfl⟩
theorem x_opL_ol {nR nD nK nG : Nat} {M : m_S} (hI : m_I nR nD nK nG M) {d : Nat} (hd : d < nD) : x_opL M (x_ol M nD) d = true ↔ x_op M d = true := by
  have h10 := hI.lcd hd
  rw [x_opL_iff (by omega)]
  by_cases hc : M.2 6 d < 0
  · exact ⟨fun _ => hI.plain hd hc, fun _ => Or.inl hc⟩
  · rw [x_ol_door hI hd hc]
    exact ⟨fun h => h.resolve_left hc, Or.inr⟩
theorem x_reach0 {nR nD nK nG : Nat} {M : m_S} (hI : m_I nR nD nK nG M) {r : Nat} (hr : r < 32) : g_bits (m_Rch M nD (x_opL M (x_ol M nD)) (fun q => tb (x_bit (nI r)) q = true)) 32 = g_bits (m_Rch M nD (fun d => !(decide (M.2 8 d < 0))) (fun q => q = r)) 32 := by
  have hs : ∀ q, tb (x_bit (nI r)) q = true ↔ q = r := fun q => by rw [tb_bit hr]; simp
  refine g_bits_congr fun i _ => ⟨fun h => h.mono (fun x q => (hs x).mp q) (fun d hd q => ?_), fun h => h.mono (fun x q => (hs x).mpr q) (fun d hd q => ?_)⟩
  · exact (x_opL_ol hI hd).mp q
  · exact (x_opL_ol hI hd).mpr q

