/-! the reference's rows while it looks for a plan -/
section KSC
variable {nR nD nK nG r0 : Nat} {M M1 : m_S} {g : Int32} {c m : Nat}
def k_sc (M : m_S) (nD r0 : Nat) (M1 : m_S) : Prop := k_lay M M1 nD ∧ ∀ t, t < 2 ^ k_ci M nD → M1.2 25 t = k_R M nD r0 (k_C M nD (k_ci M) t)
def k_D (M : m_S) (nD nK r0 : Nat) (g : Int32) (c m : Nat) (M1 : m_S) : Prop := k_sc M nD r0 M1 ∧ (∀ t, t < 2 ^ k_ci M nD → z_is (M1.2 26 t) (q_Met M nD (k_cA M nD nK r0 g) t)) ∧ M1.1 28 = nI c ∧ M1.1 29 = nI m
theorem k_hA : q_A M nD (k_cA M nD nK r0 g) := fun S d h => by
  obtain ⟨h1, h2, h3, -⟩ := k_cA_iff.mp h
  exact ⟨h1, h2, h3⟩
theorem k_hH (hI : m_I nR nD nK nG M) : ∀ {ds : List Nat}, p_F (k_cA M nD nK r0 g) ds → ds.Nodup := fun h => p_F.nodup (k_H (nK := nK) (r0 := r0) (g := g) hI) h
theorem k_sc.arr (h : k_sc M nD r0 M1) {k i : Nat} {v : Int32} (hk : 25 < k) : k_sc M nD r0 (m_sA M1 k i v) :=
  ⟨⟨m_sA_Q h.1.1 (by omega), h.1.2.1, fun d hd ho => by rw [m_sA_arr (by omega)]; exact h.1.2.2 d hd ho⟩, fun t ht => by rw [m_sA_arr (by omega)]; exact h.2 t ht⟩
theorem k_sc.scal (h : k_sc M nD r0 M1) {k : Nat} {v : Int32} (hk : 22 < k) : k_sc M nD r0 (m_sS M1 k v) :=
  ⟨⟨m_sS_Q h.1.1 (by omega), by rw [m_sS1, if_neg (by omega)]; exact h.1.2.1, h.1.2.2⟩, h.2⟩
theorem k_D.arr (h : k_D M nD nK r0 g c m M1) {k i : Nat} {v : Int32} (hk : 26 < k) : k_D M nD nK r0 g c m (m_sA M1 k i v) :=
  ⟨h.1.arr (by omega), fun t ht => by rw [m_sA_arr (by omega)]; exact h.2.1 t ht, h.2.2⟩
theorem q_size_ci {t : Nat} : q_size M nD t ≤ k_ci M nD := k_n_mono fun i _ h => by
  rw [(k_C_f h).2]; rfl
theorem pow1024 (hI : m_I nR nD nK nG M) : 2 ^ k_ci M nD ≤ 1024 := pow10 (k_ci10 hI)
theorem nI_pre1 {s : Nat} : nI (s + 1) - 1 = nI s := by
  rw [← nI_1 s]
  exact Int32.add_sub_cancel (nI s) (Int32.ofInt 1)
theorem z_dec (s : Nat) : nI s + Int32.ofInt (-1) = nI s - 1 := by
  rw [Int32.sub_eq_add_neg]; rfl
theorem z_neg {j : Nat} (hj : j ≤ 1024) (h : nI j - 1 < 0) : j = 0 := by
  rw [Int32.lt_iff_toInt_lt, z_sub1 (by omega)] at h
  have : (0 : Int32).toInt = 0 := rfl
  omega
theorem z_pos {j : Nat} (hj : j ≤ 1024) (h : ¬ nI j - 1 < 0) : ∃ s, j = s + 1 := by
  cases j with
  | zero => exact absurd (by decide) h
  | succ s => exact ⟨s, rfl⟩
theorem p_at_add {pre : List Nat} {e : Nat} {M3 : m_S} (hpl : ∀ i, i < pre.length → M3.2 30 i = nI (p_at pre i)) : ∀ i, i < (e :: pre).length → (m_sA M3 30 pre.length (nI e)).2 30 i = nI (p_at (e :: pre) i) := fun i hi => by
  unfold p_at
  by_cases q : i = pre.length
  · rw [if_pos q, q, m_sA_at]
  · rw [if_neg q, m_sA_ix q]
    exact hpl i (by simp only [List.length_cons] at hi; omega)
theorem q_min2 {cA : (Nat → Bool) → Nat → Bool} (hI : m_I nR nD nK nG M) (hA : q_A M nD cA) {S e : Nat} {P : Nat → Prop} (he : e < nD) (hoe : x_op M e = false) (hmin : ∀ d, cA (k_C M nD (k_ci M) S) d = true → P d → k_ci M e ≤ k_ci M d) (hn : cA (k_C M nD (k_ci M) S) e = true → P e → False) : ∀ d, cA (k_C M nD (k_ci M) S) d = true → P d → k_ci M e + 1 ≤ k_ci M d := fun d h1 h2 => by
  have h3 := hmin d h1 h2
  by_cases q : k_ci M e = k_ci M d
  · have := (k_X_ci hI).1 e d he (hA _ _ h1).1 hoe (hA _ _ h1).2.1 q
    subst this
    exact absurd (hn h1 h2) id
  · omega
theorem k_or_lt (hI : m_I nR nD nK nG M) {s d : Nat} (hs : s < 2 ^ k_ci M nD) (hd : d < nD) (ho : x_op M d = false) : s ||| 2 ^ k_ci M d < 2 ^ k_ci M nD := or_lt hs (k_ci_lt hd ho)
end KSC

