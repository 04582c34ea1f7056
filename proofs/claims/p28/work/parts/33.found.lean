section FOUND
variable {nR nD nK nG r0 : Nat} {M : m_S} {g : Int32} {T : x_T} {s : Nat}
theorem d_B.pass (hI : m_I nR nD nK nG M) (h : d_B M nD nK r0 g s T) (hn : ∀ q, p_RF (k_cA M nD nK r0 g) (k_esc M nD r0) (k_out M nD r0) q → k_esc M nD r0 (p_mem q) = true → d_n M nD q = s → False) : d_B M nD nK r0 g (s + 1) T := by
  have key : ∀ q, p_RF (k_cA M nD nK r0 g) (k_esc M nD r0) (k_out M nD r0) q → k_esc M nD r0 (p_mem q) = true → d_n M nD q < s + 1 → d_n M nD q < s := fun q h1 h2 h3 => by
    have : d_n M nD q ≠ s := fun z => hn q h1 h2 z
    omega
  rcases h with ⟨h1, h2⟩ | ⟨h1, p, h2, h3, h4, h5, h6, h7⟩
  · exact Or.inl ⟨h1, fun q a b c => h2 q a b (key q a b c)⟩
  · exact Or.inr ⟨h1, p, h2, h3, h4, h5, h6, fun q a b c => h7 q a b (key q a b c)⟩
theorem d_B.same (h : d_B M nD nK r0 g s T) {T' : x_T} (hE : x_E T T') : d_B M nD nK r0 g s T' := by
  unfold d_B at *
  rw [hE.2.2.1, hE.2.2.2]; exact h
/-- a state that reaches the exit -/
theorem d_B.keep (hI : m_I nR nD nK nG M) (h : d_B M nD nK r0 g s T) {ds0 : List Nat} (h0 : p_RF (k_cA M nD nK r0 g) (k_esc M nD r0) (k_out M nD r0) ds0) (hs : d_n M nD ds0 = s) (he : k_esc M nD r0 (p_mem ds0) = true) (hmin : ∀ ds', p_RF (k_cA M nD nK r0 g) (k_esc M nD r0) (k_out M nD r0) ds' → d_n M nD ds' = s → p_enc ds0 ≤ p_enc ds') : d_B M nD nK r0 g (s + 1) (x_keep T (nI (p_cost (k_u M) ds0)) (nI ds0.length) (Int64.ofNat (p_enc ds0))) := by
  have hsame : ∀ q, p_RF (k_cA M nD nK r0 g) (k_esc M nD r0) (k_out M nD r0) q → d_n M nD q = s → p_le (k_u M) ds0 q := fun q a b => by
    have em : p_mem q = p_mem ds0 := by rw [← d_C hI a.feas, ← d_C hI h0.feas, hs, b]
    have c1 := p_cost_set (u := k_u M) (k_hH hI a.feas) (fun x hx => (a.feas.ok k_hA x hx).1)
    have c2 := p_cost_set (u := k_u M) (k_hH hI h0.feas) (fun x hx => (h0.feas.ok k_hA x hx).1)
    have l1 := p_len_set (k_hH hI a.feas) (fun x hx => (a.feas.ok k_hA x hx).1)
    have l2 := p_len_set (k_hH hI h0.feas) (fun x hx => (h0.feas.ok k_hA x hx).1)
    rw [em] at c1 l1
    have := hmin q a b
    unfold p_le
    omega
  have hpart : ∀ q, d_n M nD q < s + 1 → d_n M nD q < s ∨ d_n M nD q = s := fun q c => by omega
  unfold x_keep
  rcases h with ⟨h1, h2⟩ | ⟨h1, p, h2, h3, h4, h5, h6, h7⟩
  · rw [if_pos (Or.inl h1)]
    refine Or.inr ⟨rfl, ds0, h0, he, rfl, rfl, rfl, fun q a b c => ?_⟩
    rcases hpart q c with z | z
    · exact absurd (h2 q a b z) id
    · exact hsame q a z
  · obtain ⟨b1, b2⟩ := d_better hI (q := ds0) h2.feas h0.feas h4 h5 h6
    cases hb : x_better T (nI (p_cost (k_u M) ds0)) (nI ds0.length) (Int64.ofNat (p_enc ds0)) with
    | true =>
      rw [if_pos (Or.inr rfl)]
      refine Or.inr ⟨rfl, ds0, h0, he, rfl, rfl, rfl, fun q a b c => ?_⟩
      rcases hpart q c with z | z
      · exact p_le_trans (b1 hb) (h7 q a b z)
      · exact hsame q a z
    | false =>
      rw [if_neg (fun z => z.elim (fun y => by rw [h1] at y; exact absurd y (by decide)) (fun y => by cases y))]
      refine Or.inr ⟨h1, p, h2, h3, h4, h5, h6, fun q a b c => ?_⟩
      rcases hpart q c with z | z
      · exact h7 q a b z
      · exact p_le_trans (b2 hb) (hsame q a z)
end FOUND
/-- what the search leaves -/
def x_found (M : m_S) (nD nK : Nat) (g : Int32) (T : x_T) : Prop := (T.2.2.1 1 = 0 ∧ k_best M nD nK g = none) ∨ (T.2.2.1 1 = 1 ∧ ∃ p, k_best M nD nK g = some p ∧ T.2.2.1 2 = nI (p_cost (k_u M) p) ∧ T.2.2.1 3 = nI p.length ∧ T.2.2.2.1 = Int64.ofNat (p_enc p) ∧ p.length ≤ 10 ∧ ∀ x, x ∈ p → x < 16)
theorem d_B.found {nR nD nK nG : Nat} {M : m_S} {g : Int32} {T : x_T} (hI : m_I nR nD nK nG M) (h : d_B M nD nK (m_r0 M g) g (2 ^ x_lc M nD) T) : x_found M nD nK g T := by
  have h16 := hI.1.2.1.2
  rcases h with ⟨h1, h2⟩ | ⟨h1, p, h2, h3, h4, h5, h6, h7⟩
  · exact Or.inl ⟨h1, p_RB.no (k_H hI) (fun p a b => h2 p a b (d_n_lt hI a.feas))⟩
  · refine Or.inr ⟨h1, p, p_RB.is (k_H hI) ⟨⟨h2, h3⟩, fun q a b => h7 q a b (d_n_lt hI a.feas)⟩, h4, h5, h6, p_RF.len hI h2.feas, fun x hx => ?_⟩
    have := (h2.feas.ok k_hA x hx).1
    omega

