section FIN
variable {nR nD nK nG r0 : Nat} {M M1 : m_S} {g : Int32} {cA : (Nat → Bool) → Nat → Bool} {esc : (Nat → Bool) → Bool} {u : Nat → Nat}
/-- the reference's rows for the first s numbers -/
def k_scA (M : m_S) (nD r0 s : Nat) (M1 : m_S) : Prop := k_lay M M1 nD ∧ (∀ t, t < s → M1.2 25 t = k_R M nD r0 (k_C M nD (k_ci M) t)) ∧ ∀ t, t < s → z_is (M1.2 26 t) (t = 0)
def k_dI (M : m_S) (nD s k : Nat) (x : Int32) : Prop := ∀ d, tb x d = true ↔ d < nD ∧ x_op M d = false ∧ k_ci M d < k ∧ s.testBit (k_ci M d) = true
theorem k_dI.zero {s : Nat} : k_dI M nD s 0 0 := fun d => by rw [tb_0]; simp
theorem k_dI.no (hI : m_I nR nD nK nG M) {s e : Nat} {x : Int32} (h : k_dI M nD s (k_ci M e) x) (he : e < nD) (ho : x_op M e = false) (hb : s.testBit (k_ci M e) = false) : k_dI M nD s (k_ci M e + 1) (x ||| 0) := fun d => by
  rw [tb_or, tb_0, Bool.or_false, h d]
  constructor
  · rintro ⟨h1, h2, h3, h4⟩; exact ⟨h1, h2, by omega, h4⟩
  · rintro ⟨h1, h2, h3, h4⟩
    refine ⟨h1, h2, ?_, h4⟩
    have : k_ci M d ≠ k_ci M e := fun q => by rw [q, hb] at h4; cases h4
    omega
theorem k_dI.yes (hI : m_I nR nD nK nG M) {s e : Nat} {x : Int32} (h : k_dI M nD s (k_ci M e) x) (he : e < nD) (ho : x_op M e = false) (hb : s.testBit (k_ci M e) = true) : k_dI M nD s (k_ci M e + 1) (x ||| x_bit (nI e)) := fun d => by
  have h16 := hI.1.2.1.2
  rw [tb_or, tb_bit (by omega), Bool.or_eq_true, h d, decide_eq_true_eq]
  constructor
  · rintro (⟨h1, h2, h3, h4⟩ | q)
    · exact ⟨h1, h2, by omega, h4⟩
    · subst q; exact ⟨he, ho, by omega, hb⟩
  · rintro ⟨h1, h2, h3, h4⟩
    by_cases q : k_ci M d = k_ci M e
    · exact Or.inr ((k_X_ci hI).1 d e h1 he h2 ho q)
    · exact Or.inl ⟨h1, h2, by omega, h4⟩
theorem k_reach_eq (hI : m_I nR nD nK nG M) (hQ : m_Q M M1) {s : Nat} {x : Int32} (h : k_dI M nD s (k_ci M nD) x) : g_bits (m_Rch M1 nD (m_opS M1 x) (fun q => q = r0)) 32 = k_R M nD r0 (k_C M nD (k_ci M) s) := by
  have h16 := hI.1.2.1.2
  have e1 : m_lo M1 = m_lo M := by funext d; unfold m_lo; rw [hQ.2 3 (by decide)]
  have e2 : m_hi M1 = m_hi M := by funext d; unfold m_hi; rw [hQ.2 4 (by decide)]
  have key : ∀ d, d < nD → (m_opS M1 x d = true ↔ (x_op M d || k_C M nD (k_ci M) s d) = true) := fun d hd => by
    unfold m_opS
    rw [hQ.2 8 (by decide), m_has_tb (by omega)]
    show (x_op M d || tb x d) = true ↔ _
    rw [Bool.or_eq_true, Bool.or_eq_true, h d]
    cases o : x_op M d with
    | true => simp
    | false =>
      have := k_ci_lt hd o
      rw [k_C_t hd o]
      simp [hd, this]
  unfold k_R m_Rch
  rw [e1, e2]
  exact g_bits_congr fun i _ => ⟨fun w => w.mono (fun _ q => q) (fun d hd q => (key d hd).mp q), fun w => w.mono (fun _ q => q) (fun d hd q => (key d hd).mpr q)⟩
theorem k_scA.inner {s : Nat} (h : k_scA M nD r0 s M1) {v : Int32} : k_scA M nD r0 s (m_sA M1 24 s v) :=
  ⟨⟨m_sA_Q h.1.1 (by omega), h.1.2.1, fun d hd ho => by rw [m_sA_arr (by decide)]; exact h.1.2.2 d hd ho⟩, fun t ht => by rw [m_sA_arr (by decide)]; exact h.2.1 t ht, fun t ht => by rw [m_sA_arr (by decide)]; exact h.2.2 t ht⟩
theorem k_scA.next {s : Nat} (h : k_scA M nD r0 s M1) {y v : Int32} (hy : y = k_R M nD r0 (k_C M nD (k_ci M) s)) (hv : z_is v (s = 0)) : k_scA M nD r0 (s + 1) (m_sA (m_sA M1 25 s y) 26 s v) := by
  refine ⟨⟨m_sA_Q (m_sA_Q h.1.1 (by omega)) (by omega), h.1.2.1, fun d hd ho => by rw [m_sA_arr (by decide), m_sA_arr (by decide)]; exact h.1.2.2 d hd ho⟩, fun t ht => ?_, fun t ht => ?_⟩
  · rw [m_sA_arr (by decide)]
    by_cases e : t = s
    · rw [e, m_sA_at, hy]
    · rw [m_sA_ix e]; exact h.2.1 t (by omega)
  · by_cases e : t = s
    · rw [e, m_sA_at]; exact hv
    · rw [m_sA_ix e, m_sA_arr (by decide)]; exact h.2.2 t (by omega)
theorem q_B.start {t : Nat} : (t = 0) ↔ q_B M nD cA 0 0 t := ⟨Or.inl, fun h => by
  rcases h with h | ⟨s', d, h0, -⟩
  · exact h
  · omega⟩
theorem q_B.zero (hA : q_A M nD cA) {s t : Nat} : q_B M nD cA s 0 t ↔ q_B M nD cA s 0 t := Iff.rfl
theorem q_B.fin (hI : m_I nR nD nK nG M) (hA : q_A M nD cA) {s t : Nat} (h : t < s) : q_B M nD cA s 0 t ↔ q_Met M nD cA t := by
  constructor
  · rintro (q | ⟨s', d, -, h1, h2, h3⟩)
    · rw [q]; exact q_Met.zero
    · rw [h3]; exact h1.step hI hA h2
  · intro q
    rcases (q_Met_iff hI hA).mp q with w | ⟨s', d, h0, h1⟩
    · exact Or.inl w
    · exact Or.inr ⟨s', d, by omega, h1⟩
theorem k_fin_none (hI : m_I nR nD nK nG M) (hA : q_A M nD cA) {x y : Int32} (h : q_best M nD cA esc u (2 ^ k_ci M nD) x y) (hx : x < 0) : x = -6 ∧ p_best cA esc u = none := by
  rcases h with ⟨h1, -, h3⟩ | ⟨c, m, hc, hm, h1, -⟩
  · refine ⟨h1, p_best_none fun p hp => ?_⟩
    have := h3 _ (q_Met.lt hI hA ⟨p, hp.1, rfl⟩) ⟨p, hp.1, rfl⟩
    rw [q_C hI hA hp.1, hp.2] at this
    cases this
  · rw [h1] at hx; exact absurd hx (nI_pos (by omega))
theorem k_fin_some {out : (Nat → Bool) → Nat → Bool} (hI : m_I nR nD nK nG M) (hA : q_A M nD cA) (hH : p_H nD cA esc out u) {x y : Int32} (h : q_best M nD cA esc u (2 ^ k_ci M nD) x y) (hx : ¬ x < 0) : ∃ c m, c < 2 ^ 20 ∧ m ≤ 10 ∧ x = nI c ∧ y = nI m ∧ q_Ld M nD cA esc u c m 0 ∧ ∀ pre, q_pre M nD cA esc u c m pre → pre.length = m → p_best cA esc u = some pre ∧ p_cost u pre = c := by
  rcases h with ⟨h1, -, -⟩ | ⟨c, m, hc, hm, h1, h2, ⟨t, t1, t2, t3, t4, t5⟩, h4⟩
  · rw [h1] at hx; exact absurd (by decide) hx
  · obtain ⟨ds, hF, rfl⟩ := t2
    have hnd : ∀ {ds : List Nat}, p_F cA ds → ds.Nodup := fun h => p_F.nodup hH h
    have hT : q_T M nD cA esc u c m (p_num 0 (k_ci M) ds) := ⟨⟨ds, hF, rfl⟩, t3, t4, t5⟩
    have hL : q_Ld M nD cA esc u c m 0 := q_ld_of hI hA (ds := []) (as := ds) (by simpa using hF) (by simpa using q_Ld.base hT)
    refine ⟨c, m, hc, ?_, h1, h2, hL, fun pre hp hl => ?_⟩
    · rw [← t5]; exact Nat.le_trans q_size_ci (k_ci10 hI)
    · obtain ⟨b1, b2⟩ := hp.best hI hA hnd hl (fun t q w => h4 t (q.lt hI hA) q w)
      exact ⟨p_best_some hH b1, b2⟩
end FIN
noncomputable def k_best (M : m_S) (nD nK : Nat) (g : Int32) : Option (List Nat) := p_best (k_cA M nD nK (m_r0 M g) g) (k_esc M nD (m_r0 M g)) (k_u M)
/-- what the reference keeps of the best plan -/
def k_kept (M : m_S) (nD nK : Nat) (g : Int32) (M2 : m_S) : Prop := m_Q M M2 ∧ ((M2.1 28 = -6 ∧ k_best M nD nK g = none) ∨ ∃ p, k_best M nD nK g = some p ∧ M2.1 28 = nI (p_cost (k_u M) p) ∧ M2.1 29 = nI p.length ∧ p.length ≤ 10 ∧ p_cost (k_u M) p < 2 ^ 20 ∧ ∀ i, i < p.length → M2.2 30 i = nI (p_at p i))
theorem F_cost_q {nR nD nK nG : Nat} {M M1 : m_S} (hI : m_I nR nD nK nG M) (h : k_lay M M1 nD) {s : Nat} (hs : s < 2 ^ 31) : F_cost M1 (nI s) (k_ci M nD) = nI (q_cost M nD (k_u M) s) := F_cost_eq hI h hs
theorem F_sset_q {nR nD nK nG : Nat} {M : m_S} (hI : m_I nR nD nK nG M) {s : Nat} (hs : s < 2 ^ 31) : F_sset (nI s) (k_ci M nD) = nI (q_size M nD s) := F_sset_eq hI hs

