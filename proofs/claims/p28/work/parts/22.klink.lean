/-! the reference's numbers of locks, read as sets of doors -/
theorem m_sum_s {f : Nat → Int32} {f' : Nat → Nat} : ∀ {n : Nat}, (∀ k, k < n → f k = nI (f' k)) → m_sum f n = nI (k_s f' n)
  | 0, _ => rfl
  | n + 1, h => by
    show m_sum f n + f n = nI (k_s f' n + f' n)
    rw [m_sum_s (n := n) (fun k hk => h k (by omega)), h n (by omega), nI_add]
theorem k_re {M : m_S} {g f : Nat → Nat} : ∀ {n : Nat}, (∀ d, d < n → x_op M d = false → g (k_ci M d) = f d) → k_s g (k_ci M n) = k_s (fun d => if x_op M d = false then f d else 0) n
  | 0, _ => rfl
  | n + 1, h => by
    have ih := k_re (M := M) (g := g) (f := f) (n := n) (fun d hd => h d (by omega))
    show _ = k_s (fun d => if x_op M d = false then f d else 0) n + (if x_op M n = false then f n else 0)
    cases o : x_op M n with
    | true => rw [k_ci_o o, ih]; simp
    | false =>
      rw [k_ci_s o]
      show k_s g (k_ci M n) + g (k_ci M n) = _
      rw [ih, h n (by omega) o]; simp
theorem nI_sub_pos {a b : Nat} (ha : a < 2 ^ 30) (hb : b < 2 ^ 30) : decide (0 < nI a - nI b) = decide (b < a) := by
  have h1 : (nI a - nI b).toInt = (a : Int) - (b : Int) := by
    rw [Int32.toInt_sub, nI_toInt (by omega), nI_toInt (by omega), Int.bmod_eq_of_le (by omega) (by omega)]
  have h2 : (0 < nI a - nI b) ↔ b < a := by
    rw [Int32.lt_iff_toInt_lt, h1]
    show (0 : Int) < _ ↔ _
    omega
  by_cases c : b < a
  · rw [decide_eq_true c, decide_eq_true (h2.mpr c)]
  · rw [decide_eq_false c, decide_eq_false (fun q => c (h2.mp q))]
section KL
variable {nR nD nK nG r0 : Nat} {M M1 : m_S} {g : Int32}
theorem k_lay.h23 (hI : m_I nR nD nK nG M) (h : k_lay M M1 nD) {k : Nat} (hk : k < k_ci M nD) : vp_in (M1.2 23 k) 16 := by
  obtain ⟨d, h1, h2, rfl⟩ := k_ci_ex hk
  have := hI.1.2.1.2
  rw [h.2.2 d h1 h2]; exact vp_in_nI (by omega) (by omega)
theorem k_C_t {ix : Nat → Nat} {s d : Nat} (hd : d < nD) (ho : x_op M d = false) : k_C M nD ix s d = s.testBit (ix d) := by
  unfold k_C; rw [ho]; simp [hd]
theorem k_C_f {ix : Nat → Nat} {s d : Nat} (h : k_C M nD ix s d = true) : d < nD ∧ x_op M d = false := by
  unfold k_C at h
  simp only [Bool.and_eq_true, Bool.not_eq_true', decide_eq_true_eq] at h
  exact h.1
theorem k_near_Q (hQ : m_Q M M1) (y : Int32) (k : Nat) : k_near M1 g y k = k_near M g y k := by
  unfold k_near m_ho
  rw [hQ.2 11 (by decide), hQ.2 12 (by decide)]
theorem F_left1_eq (hQ : m_Q M M1) (y c : Int32) : F_left1 M1 g y c nK = nI (k_keys M nK g y c) := by
  unfold F_left1 k_keys
  rw [m_cnt_n]
  congr 1
  refine k_n_congr fun k _ => ?_
  rw [k_near_Q hQ, hQ.2 10 (by decide)]
theorem F_left2_eq (hI : m_I nR nD nK nG M) (h : k_lay M M1 nD) {s : Nat} (hs : s < 2 ^ 31) (c : Int32) : F_left2 M1 (nI s) c (k_ci M nD) = nI (k_used M nD (k_C M nD (k_ci M) s) c) := by
  have h16 := hI.1.2.1.2
  have hL := k_ci10 hI
  unfold F_left2 k_used
  rw [m_cnt_n, k_n_s, k_n_s]
  congr 1
  rw [k_re (f := fun d => if (s.testBit (k_ci M d) && decide (M.2 6 d = c)) = true then 1 else 0) (fun d hd ho => ?_)]
  · refine k_s_congr fun d hd => ?_
    cases o : x_op M d with
    | true => simp
    | false => rw [k_C_t hd o]; simp
  · have hk := k_ci_lt hd ho
    rw [m_has_nI hs (by omega), h.2.2 d hd ho, nI_clamp (by omega), h.1.2 6 (by decide)]
theorem F_cost_eq (hI : m_I nR nD nK nG M) (h : k_lay M M1 nD) {s : Nat} (hs : s < 2 ^ 31) : F_cost M1 (nI s) (k_ci M nD) = nI (k_s (fun x => if k_C M nD (k_ci M) s x = true then k_u M x else 0) nD) := by
  have h16 := hI.1.2.1.2
  have hL := k_ci10 hI
  unfold F_cost
  rw [m_sum_s (f' := fun k => if s.testBit k = true then (M1.2 7 (M1.2 23 k).toNatClampNeg).toNatClampNeg else 0) (fun k hk => ?_)]
  · rw [k_re (f := fun d => if s.testBit (k_ci M d) = true then k_u M d else 0) (fun d hd ho => ?_)]
    · congr 1
      refine k_s_congr fun d hd => ?_
      cases o : x_op M d with
      | true =>
        have : k_C M nD (k_ci M) s d = false := by
          cases q : k_C M nD (k_ci M) s d with
          | false => rfl
          | true => rw [(k_C_f q).2] at o; cases o
        rw [this]; simp
      | false => rw [k_C_t hd o]; simp
    · rw [h.2.2 d hd ho, nI_clamp (by omega), h.1.2 7 (by decide)]; rfl
  · obtain ⟨d, h1, h2, rfl⟩ := k_ci_ex hk
    obtain ⟨-, -, u, u1, u2, e⟩ := hI.closed h1 h2
    rw [m_has_nI hs (by omega), h.2.2 d h1 h2, nI_clamp (by omega), h.1.2 7 (by decide), e, nI_clamp (by omega)]
    split <;> rfl
theorem F_sset_eq (hI : m_I nR nD nK nG M) {s : Nat} (hs : s < 2 ^ 31) : F_sset (nI s) (k_ci M nD) = nI (k_n (k_C M nD (k_ci M) s) nD) := by
  have hL := k_ci10 hI
  unfold F_sset
  rw [m_cnt_n, k_n_s, k_n_s]
  congr 1
  rw [k_re (f := fun d => if (s.testBit (k_ci M d)) = true then 1 else 0) (fun d hd ho => ?_)]
  · refine k_s_congr fun d hd => ?_
    cases o : x_op M d with
    | true =>
      have : k_C M nD (k_ci M) s d = false := by
        cases q : k_C M nD (k_ci M) s d with
        | false => rfl
        | true => rw [(k_C_f q).2] at o; cases o
      rw [this]; simp
    | false => rw [k_C_t hd o]; simp
  · have hk := k_ci_lt hd ho
    rw [m_has_nI hs (by omega)]
theorem F_canAdd_eq (hI : m_I nR nD nK nG M) (h : k_lay M M1 nD) {s d : Nat} (hs : s < 1024) (hd : d < nD) (ho : x_op M d = false) (hr : M1.2 25 s = k_R M nD r0 (k_C M nD (k_ci M) s)) : F_canAdd M1 nK (k_ci M nD) g (nI s) (k_ci M d) d = k_cA M nD nK r0 g (k_C M nD (k_ci M) s) d := by
  have hk := k_ci_lt hd ho
  have hL := k_ci10 hI
  have hK := hI.1.2.2.1.2
  have h16 := hI.1.2.1.2
  have e1 := k_n_le (fun k => decide (M.2 10 k = M.2 6 d) && k_near M g (k_R M nD r0 (k_C M nD (k_ci M) s)) k) nK
  have e2 := k_n_le (fun x => !(x_op M x) && k_C M nD (k_ci M) s x && decide (M.2 6 x = M.2 6 d)) nD
  unfold F_canAdd k_cA
  rw [nI_clamp (by omega), hr, h.1.2 3 (by decide), h.1.2 4 (by decide), h.1.2 6 (by decide), m_hasL hI hd, m_hasH hI hd, F_left1_eq h.1, F_left2_eq hI h (by omega), nI_sub_pos (by unfold k_keys; omega) (by unfold k_used; omega), m_has_nI (by omega) (by omega), ho, k_C_t hd ho]
  simp [hd]
theorem k_esc_eq (h : k_lay M M1 nD) {s : Nat} (hs : s < 1024) (hr : M1.2 25 s = k_R M nD r0 (k_C M nD (k_ci M) s)) : (!(decide (M1.1 1 < 0)) && m_has (M1.2 25 (nI s).toNatClampNeg) (M1.1 1)) = k_esc M nD r0 (k_C M nD (k_ci M) s) := by
  rw [nI_clamp (by omega), hr, h.1.1 1 (by decide)]; rfl
end KL

