section XKEYS
variable {G : z_G} {ad : Nat → Nat → Nat} {nR nD nK nG : Nat} {M : m_S} {T : x_T} {H H' : Heap}
theorem x_R.useUp (h : x_R G ad nR nD nK nG M T H) {k : Nat} {d : Int32} (hk : k < nK) (hz : M.2 11 k = 1) (hU : z_U G (ad 2 k) (.inr (3, [.int (nI k), .int (M.2 10 k), va_rf (x_kr ad M k), .int (M.2 13 k), va_rf none, .ref (ad 1 d.toNatClampNeg)])) H H') : x_R G ad nR nD nK nG (m_sA (m_sA M 11 k 2) 12 k d) T H' := by
  have e : x_kr ad M k = none := by unfold x_kr; rw [hz]; exact if_neg (by decide)
  rw [e] at hU
  exact h.put0 (z := 2) (a := d) hk hU
theorem x_R.takeIt (h : x_R G ad nR nD nK nG M T H) {k : Nat} {g : Int32} (hk : k < nK) (hz : M.2 11 k = 0) (hU : z_U G (ad 2 k) (.inr (3, [.int (nI k), .int (M.2 10 k), va_rf none, .int (M.2 13 k), .ref (ad 3 g.toNatClampNeg), va_rf (x_ku ad M k)])) H H') : x_R G ad nR nD nK nG (m_sA (m_sA M 11 k 1) 12 k g) T H' := by
  have e : x_ku ad M k = none := by unfold x_ku; rw [hz]; exact if_neg (by decide)
  rw [e] at hU
  exact h.put0 (z := 1) (a := g) hk hU
theorem x_R.lay (h : x_R G ad nR nD nK nG M T H) {k : Nat} {r t : Int32} (hk : k < nK) (hz : M.2 11 k = 1) (hU : z_U G (ad 2 k) (.inr (3, [.int (nI k), .int (M.2 10 k), .ref (ad 0 r.toNatClampNeg), .int t, va_rf none, va_rf (x_ku ad M k)])) H H') : x_R G ad nR nD nK nG (m_sA (m_sA (m_sA M 11 k 0) 12 k r) 13 k t) T H' := by
  have e : x_ku ad M k = none := by unfold x_ku; rw [hz]; exact if_neg (by decide)
  rw [e] at hU
  exact h.put (z := 0) (a := r) hk hU
theorem x_R.overIt (h : x_R G ad nR nD nK nG M T H) {k : Nat} {g : Int32} (hk : k < nK) (hz : M.2 11 k = 1) (hU : z_U G (ad 2 k) (.inr (3, [.int (nI k), .int (M.2 10 k), va_rf none, .int (M.2 13 k), .ref (ad 3 g.toNatClampNeg), va_rf (x_ku ad M k)])) H H') : x_R G ad nR nD nK nG (m_sA M 12 k g) T H' := by
  have e : x_ku ad M k = none := by unfold x_ku; rw [hz]; exact if_neg (by decide)
  rw [e] at hU
  exact h.put1 hk hz hU
theorem m_ho_1 {g : Int32} {k : Nat} (hk : k < 2 ^ 31) (h : m_ho M g (nI k) = true) : M.2 11 k = 1 := by
  unfold m_ho at h
  rw [nI_clamp hk] at h
  simp only [Bool.and_eq_true, decide_eq_true_eq] at h
  exact h.1
theorem x_fk_some {g c0 : Int32} {a : Nat} (hK : nK ≤ 16) (h : x_fk ad M nK g c0 = some a) : ¬ m_kf M nK g c0 < 0 ∧ ∃ k, k < nK ∧ a = ad 2 k ∧ m_kf M nK g c0 = nI k ∧ M.2 11 k = 1 := by
  unfold x_fk at h
  by_cases q : m_kf M nK g c0 < 0
  · rw [if_pos q] at h; cases h
  · rw [if_neg q] at h
    obtain ⟨k, h1, h2, -, h4⟩ := m_kf_in hK q
    refine ⟨q, k, h1, ?_, h4, m_ho_1 (by omega) h2⟩
    rw [h4, nI_clamp (by omega)] at h
    exact (Option.some.inj h).symm
theorem x_fk_null {g c0 : Int32} (h : x_fk ad M nK g c0 = none) : m_kf M nK g c0 < 0 := by
  unfold x_fk at h
  by_cases q : m_kf M nK g c0 < 0
  · exact q
  · rw [if_neg q] at h; cases h
theorem m_over_12 {X Y : m_S} {g o : Int32} (h11 : X.2 11 = Y.2 11) (h12 : X.2 12 = Y.2 12) : ∀ n, (m_over X g o n).2 12 = (m_over Y g o n).2 12
  | 0 => h12
  | n + 1 => by
    have ih := m_over_12 h11 h12 (g := g) (o := o) n
    simp only [m_over]
    have e11 : (m_over X g o n).2 11 = (m_over Y g o n).2 11 := by rw [m_over_arr (by omega), m_over_arr (by omega), h11]
    have eh : m_ho (m_over X g o n) g (nI n) = m_ho (m_over Y g o n) g (nI n) := by unfold m_ho; rw [ih, e11]
    rw [m_sA2r, m_sA2r, if_pos rfl, if_pos rfl, ih, eh]
/-- the class hands the keys over first, the reference last: the same state -/
theorem m_join_comm {g o : Int32} {n : Nat} (hne : g.toNatClampNeg ≠ o.toNatClampNeg) {MO : m_S} (eMO : MO = m_over M g o n) :
    m_sA (m_sA (m_sA (m_sA (m_sA MO 15 o.toNatClampNeg (M.2 15 o.toNatClampNeg + M.2 15 g.toNatClampNeg)) 17 o.toNatClampNeg (m_later (M.2 17 o.toNatClampNeg) (M.2 17 g.toNatClampNeg))) 18 o.toNatClampNeg (M.2 18 o.toNatClampNeg + M.2 18 g.toNatClampNeg)) 15 g.toNatClampNeg 0) 19 g.toNatClampNeg 2 = m_over (m_join M g o) g o n := by
  refine Prod.ext ?_ (funext fun j => ?_)
  · rw [m_over_fst]
    show MO.1 = M.1
    rw [eMO, m_over_fst]
  · by_cases e12 : j = 12
    · subst e12
      rw [m_sA_arr (by omega), m_sA_arr (by omega), m_sA_arr (by omega), m_sA_arr (by omega), m_sA_arr (by omega), eMO]
      refine m_over_12 ?_ ?_ n
      · unfold m_join; dsimp only; rw [m_sA_arr (by omega), m_sA_arr (by omega), m_sA_arr (by omega), m_sA_arr (by omega), m_sA_arr (by omega)]
      · unfold m_join; dsimp only; rw [m_sA_arr (by omega), m_sA_arr (by omega), m_sA_arr (by omega), m_sA_arr (by omega), m_sA_arr (by omega)]
    · rw [m_over_arr e12]
      funext i
      have eJ : MO.2 j i = M.2 j i := by rw [eMO, m_over_arr e12]
      unfold m_join; dsimp only
      simp only [m_sA2]
      by_cases a15 : j = 15
      · subst a15
        simp only [eJ, if_true, show ¬ (15 : Nat) = 19 by decide, show ¬ (15 : Nat) = 18 by decide, show ¬ (15 : Nat) = 17 by decide, if_false]
      · by_cases a17 : j = 17
        · subst a17
          simp only [show ¬ (17 : Nat) = 19 by decide, show ¬ (17 : Nat) = 18 by decide, show ¬ (17 : Nat) = 15 by decide, if_false, if_true]
          rw [eMO, m_over_arr (by omega)]
        · by_cases a18 : j = 18
          · subst a18
            simp only [show ¬ (18 : Nat) = 19 by decide, show ¬ (18 : Nat) = 17 by decide, show ¬ (18 : Nat) = 15 by decide, if_false, if_true]
            rw [eMO, m_over_arr (by omega)]
          · by_cases a19 : j = 19
            · subst a19
              simp only [show ¬ (19 : Nat) = 18 by decide, show ¬ (19 : Nat) = 17 by decide, show ¬ (19 : Nat) = 15 by decide, if_false, if_true]
              rw [eMO, m_over_arr (by omega)]
            · simp only [a15, a17, a18, a19, if_false, eJ]
end XKEYS

