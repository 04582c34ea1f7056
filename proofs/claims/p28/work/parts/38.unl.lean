section UNL
variable {nR nD nK nG : Nat} {M : m_S}
theorem x_unl_bits : ∀ n, x_lc M n ≤ 10 → k_n (fun j => (x_oN M n).testBit j) 10 = k_n (fun d => !(decide (M.2 6 d < 0)) && !(decide (M.2 8 d < 0))) n
  | 0, _ => by
    have : ∀ n, k_n (fun j => (x_oN M 0).testBit j) n = 0 := by
      intro n
      induction n with
      | zero => rfl
      | succ n ih => unfold k_n; rw [ih]; simp [x_oN]
    exact this 10
  | n + 1, h => by
    have ih := x_unl_bits n (Nat.le_trans (x_lc_le (by omega)) h)
    have e0 : k_n (fun d => !(decide (M.2 6 d < 0)) && !(decide (M.2 8 d < 0))) (n + 1) = k_n (fun d => !(decide (M.2 6 d < 0)) && !(decide (M.2 8 d < 0))) n + (if (!(decide (M.2 6 n < 0)) && !(decide (M.2 8 n < 0))) = true then 1 else 0) := rfl
    by_cases c : x_op M n = true ∧ ¬ M.2 6 n < 0
    · have e : x_oN M (n + 1) = x_oN M n ||| 2 ^ x_lc M n := if_pos c
      have hl : x_lc M n < x_lc M (n + 1) := x_lc_lt (by omega) c.2
      have hb : (x_oN M n).testBit (x_lc M n) = false := Nat.testBit_lt_two_pow (x_oN_lt n)
      have f3 := k_s_add (f := fun j => if (x_oN M n).testBit j = true then 1 else 0) (g := fun j => if (x_oN M n ||| 2 ^ x_lc M n).testBit j = true then 1 else 0) (d := x_lc M n) (v := 1) (fun i hi => by
        have : ¬ x_lc M n = i := fun q => hi q.symm
        rw [Nat.testBit_or, testBit_pow, decide_eq_false this, Bool.or_false]) (by rw [Nat.testBit_or, testBit_pow, hb]; simp) 10
      rw [if_pos (by omega), ← k_n_s, ← k_n_s, ih] at f3
      rw [e, f3, e0, if_pos (by rw [decide_eq_false c.2, decide_eq_false (x_op_t c.1)]; rfl)]
    · have e : x_oN M (n + 1) = x_oN M n := if_neg c
      rw [e, ih, e0, if_neg (fun q => c (by
        rw [Bool.and_eq_true] at q
        exact ⟨q.2, by simpa using q.1⟩))]
      rfl
theorem x_unl (hI : m_I nR nD nK nG M) : z_bc (x_ol M nD) = m_unl M nD := by
  have h1 := x_oN_lt (M := M) nD
  have h2 := pow10 hI.lc
  rw [x_ol_oN hI, z_bc_nI _ (by omega), x_unl_bits nD hI.lc]
  unfold m_unl
  rw [m_cnt_n]
end UNL

