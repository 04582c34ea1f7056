section KL2
variable {nR nD nK nG r0 : Nat} {M : m_S} {g : Int32}
theorem x_kl_eq (hI : m_I nR nD nK nG M) {y : Int32} : x_kl M nK g y nK = nI (c_six (fun c => k_keys M nK g y (nI c))) := by
  unfold x_kl
  rw [m_sum_s (f' := fun k => if (decide (k < nK) && k_near M g y k) = true then 32 ^ (M.2 10 k).toNatClampNeg else 0) (fun k hk => ?_)]
  · rw [c_sum (p := fun k => decide (k < nK) && k_near M g y k) (col := fun k => (M.2 10 k).toNatClampNeg) (fun k q => ?_)]
    · congr 1
      refine c_six_congr fun c hc => ?_
      unfold k_keys
      refine k_n_congr fun k hk => ?_
      obtain ⟨x, hx, e⟩ := k_col hI hk
      have : decide (nI x = nI c) = decide (x = c) := by
        by_cases q : x = c
        · rw [q]; simp
        · rw [decide_eq_false q, decide_eq_false (fun w => q ((nI_inj (by omega) (by omega)).mp w))]
      show ((decide (k < nK) && k_near M g y k) && decide ((M.2 10 k).toNatClampNeg = c)) = (decide (M.2 10 k = nI c) && k_near M g y k)
      rw [e, nI_clamp (by omega), this, decide_eq_true hk, Bool.true_and, Bool.and_comm]
    · simp only [Bool.and_eq_true, decide_eq_true_eq] at q
      obtain ⟨x, hx, e⟩ := k_col hI q.1
      show (M.2 10 k).toNatClampNeg < 6
      rw [e, nI_clamp (by omega)]; exact hx
  · obtain ⟨x, hx, e⟩ := k_col hI hk
    rw [e, c_pk_nI x hx, nI_clamp (by omega)]
    by_cases q : k_near M g y k = true
    · rw [if_pos q, if_pos (by rw [q, decide_eq_true hk]; rfl)]
    · rw [if_neg q, if_neg (fun w => q (by rw [Bool.and_eq_true] at w; exact w.2))]; rfl
theorem x_kd_eq (hI : m_I nR nD nK nG M) {S : Nat → Bool} (hS : ∀ x, S x = true → x < nD ∧ x_op M x = false) : x_kd M S nD = nI (c_six (fun c => k_used M nD S (nI c))) := by
  have hc : ∀ x, S x = true → ∃ c, c < 6 ∧ M.2 6 x = nI c := fun x hx => by
    obtain ⟨h1, h2⟩ := hS x hx
    obtain ⟨-, ⟨c, h5, e⟩, -⟩ := hI.closed h1 h2
    exact ⟨c, by omega, e⟩
  unfold x_kd
  rw [m_sum_s (f' := fun k => if S k = true then 32 ^ (M.2 6 k).toNatClampNeg else 0) (fun k hk => ?_)]
  · rw [c_sum (p := S) (col := fun k => (M.2 6 k).toNatClampNeg) (fun k q => ?_)]
    · congr 1
      refine c_six_congr fun c hcc => ?_
      unfold k_used
      refine k_n_congr fun k hk => ?_
      show (S k && decide ((M.2 6 k).toNatClampNeg = c)) = (!(x_op M k) && S k && decide (M.2 6 k = nI c))
      cases q : S k with
      | false => simp
      | true =>
        obtain ⟨x, hx, e⟩ := hc k q
        have : decide (nI x = nI c) = decide (x = c) := by
          by_cases q : x = c
          · rw [q]; simp
          · rw [decide_eq_false q, decide_eq_false (fun w => q ((nI_inj (by omega) (by omega)).mp w))]
        rw [e, nI_clamp (by omega), this, (hS k q).2]; simp
    · obtain ⟨x, hx, e⟩ := hc k q
      show (M.2 6 k).toNatClampNeg < 6
      rw [e, nI_clamp (by omega)]; exact hx
  · by_cases q : S k = true
    · obtain ⟨x, hx, e⟩ := hc k q
      rw [if_pos q, if_pos q, e, c_pk_nI x hx, nI_clamp (by omega)]
    · rw [if_neg q, if_neg q]; rfl
end KL2

