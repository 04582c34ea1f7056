theorem nI_subN {a b : Nat} (hab : b ≤ a) : nI a - nI b = nI (a - b) := by
  have h : nI a = nI (a - b) + nI b := by
    rw [nI_add]
    exact congrArg nI (by omega)
  rw [h]
  exact Int32.add_sub_cancel _ _
theorem c_fin {A B : Nat} : (!(decide (A - B = 0))) = decide (B < A) := by
  by_cases h : B < A
  · have h2 : ¬ A - B = 0 := by omega
    rw [decide_eq_true h, decide_eq_false h2]; rfl
  · have h2 : A - B = 0 := by omega
    rw [decide_eq_false h, decide_eq_true h2]; rfl
theorem c_left {a b : Nat → Nat} (hb : ∀ c, c < 6 → b c ≤ a c ∧ a c ≤ 16) {c : Nat} (hc : c < 6) : c_dig (nI (c_six a) - nI (c_six b)) (nI c) = decide (b c < a c) := by
  obtain ⟨h1, h2, h3⟩ := c_dig6 hb hc
  rw [nI_subN h1, c_dig_nI h2 hc, h3, c_fin]
section KL3
variable {nR nD nK nG r0 : Nat} {M : m_S} {g : Int32}
/-- one number holds the keys left of all colors -/
theorem x_left (hI : m_I nR nD nK nG M) {ds : List Nat} (h : p_F (k_cA M nD nK r0 g) ds) {d : Nat} (hd : d < nD) (ho : x_op M d = false) : c_dig (x_kl M nK g (k_R M nD r0 (p_mem ds)) nK - x_kd M (p_mem ds) nD) (M.2 6 d) = decide (k_used M nD (p_mem ds) (M.2 6 d) < k_keys M nK g (k_R M nD r0 (p_mem ds)) (M.2 6 d)) := by
  obtain ⟨-, ⟨c, hc5, ec⟩, -⟩ := hI.closed hd ho
  have hK := hI.1.2.2.1.2
  have hb : ∀ c, c < 6 → k_used M nD (p_mem ds) (nI c) ≤ k_keys M nK g (k_R M nD r0 (p_mem ds)) (nI c) ∧ k_keys M nK g (k_R M nD r0 (p_mem ds)) (nI c) ≤ 16 := fun c _ => ⟨k_used_le hI h _, by unfold k_keys; exact Nat.le_trans (k_n_le _ _) hK⟩
  rw [x_kl_eq hI, x_kd_eq hI (fun x hx => h.ok k_hA x (p_mem_t.mp hx)), ec]
  exact c_left (a := fun c => k_keys M nK g (k_R M nD r0 (p_mem ds)) (nI c)) (b := fun c => k_used M nD (p_mem ds) (nI c)) hb (by omega)
end KL3

