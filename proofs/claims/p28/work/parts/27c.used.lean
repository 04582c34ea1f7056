section KL2
variable {nR nD nK nG r0 : Nat} {M : m_S} {g : Int32}
def x_kl (M : m_S) (nK : Nat) (g y : Int32) (n : Nat) : Int32 := m_sum (fun k => if k_near M g y k = true then c_pk (M.2 10 k) else 0) n
def x_kd (M : m_S) (S : Nat → Bool) (n : Nat) : Int32 := m_sum (fun d => if S d = true then c_pk (M.2 6 d) else 0) n
theorem k_used_le (hI : m_I nR nD nK nG M) : ∀ {ds : List Nat}, p_F (k_cA M nD nK r0 g) ds → ∀ c, k_used M nD (p_mem ds) c ≤ k_keys M nK g (k_R M nD r0 (p_mem ds)) c
  | [], _, c => by
    have : k_used M nD (p_mem []) c = 0 := by
      unfold k_used
      have : ∀ n, k_n (fun x => !(x_op M x) && p_mem [] x && decide (M.2 6 x = c)) n = 0 := by
        intro n
        induction n with
        | zero => rfl
        | succ n ih => unfold k_n; rw [ih]; simp [p_mem]
      exact this nD
    omega
  | d :: ds, h, c => by
    have ih := k_used_le hI h.1 c
    obtain ⟨h1, h2, h3, h4, h5⟩ := k_cA_iff.mp h.2
    have hr12 := hI.1.1.2
    have hmono : ∀ c, k_keys M nK g (k_R M nD r0 (p_mem ds)) c ≤ k_keys M nK g (k_R M nD r0 (p_mem (d :: ds))) c := fun c => by
      refine k_n_mono fun k hk q => ?_
      simp only [Bool.and_eq_true] at q ⊢
      refine ⟨q.1, ?_⟩
      have q2 := q.2
      unfold k_near at q2 ⊢
      rw [Bool.or_eq_true] at q2 ⊢
      refine q2.imp (fun w => ?_) id
      rw [Bool.and_eq_true] at w ⊢
      refine ⟨w.1, ?_⟩
      have w1 := w.1
      rw [decide_eq_true_eq] at w1
      rcases (hI.2.2.2.1 k hk).2.1 with ⟨-, r, hr, e⟩ | ⟨z, -⟩ | ⟨z, -⟩
      · have w2 := w.2
        rw [e, m_has_tb (by omega)] at w2 ⊢
        exact k_R_mono (fun x hx => by rw [p_mem_t] at hx ⊢; exact List.mem_cons_of_mem _ hx) (by omega) w2
      · rw [z] at w1; exact absurd w1 (by decide)
      · rw [z] at w1; exact absurd w1 (by decide)
    have e : k_used M nD (p_mem (d :: ds)) c = k_used M nD (p_mem ds) c + (if M.2 6 d = c then 1 else 0) := by
      unfold k_used
      rw [k_n_s, k_n_s]
      rw [k_s_add (f := fun x => if (!(x_op M x) && p_mem ds x && decide (M.2 6 x = c)) = true then 1 else 0) (d := d) (v := if M.2 6 d = c then 1 else 0) (fun i hi => by simp [p_mem, hi]) (by rw [h2, h3]; simp [p_mem]) nD, if_pos h1]
    have hm := hmono c
    rw [e]
    by_cases q : M.2 6 d = c
    · rw [if_pos q]; rw [q] at h5; omega
    · rw [if_neg q]; omega
theorem k_col (hI : m_I nR nD nK nG M) {k : Nat} (hk : k < nK) : ∃ x, x < 6 ∧ M.2 10 k = nI x := by
  obtain ⟨x, hx, e⟩ := (hI.2.2.2.1 k hk).1
  exact ⟨x, by omega, e⟩
end KL2

