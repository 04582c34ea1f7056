def x_keep (T : x_T) (wc wd : Int32) (w : Int64) : x_T := if T.2.2.1 1 = 0 ∨ x_better T wc wd w = true then t_q (t_i (t_i (t_i T 1 1) 2 wc) 3 wd) w else T
section KEEP
variable {nR nD nK nG r0 : Nat} {M : m_S} {g : Int32} {T : x_T} {s : Nat}
/-- the doors of a state, counted by bits -/
theorem d_cnt (hI : m_I nR nD nK nG M) : ∀ {ds : List Nat}, p_F (k_cA M nD nK r0 g) ds → k_n (fun j => (d_n M nD ds).testBit j && !((x_oN M nD).testBit j)) 10 = ds.length
  | [], _ => by
    have e : d_n M nD [] = x_oN M nD := rfl
    rw [e]
    have : ∀ n, k_n (fun j => (x_oN M nD).testBit j && !((x_oN M nD).testBit j)) n = 0 := by
      intro n
      induction n with
      | zero => rfl
      | succ n ih =>
        unfold k_n
        rw [ih]
        cases (x_oN M nD).testBit n <;> rfl
    exact this 10
  | d :: ds, h => by
    have ih := d_cnt hI h.1
    obtain ⟨h1, h2, h3⟩ := k_hA _ _ h.2
    have hb : (d_n M nD ds).testBit (x_lc M d) = false := by rw [← d_C hI h.1, k_C_t h1 h2] at h3; exact h3
    have ho := ((k_X_lc hI).2.1 d h1 h2).1
    have hl := ((k_X_lc hI).2.1 d h1 h2).2
    have h10 := hI.lc
    have e : d_n M nD (d :: ds) = d_n M nD ds ||| 2 ^ x_lc M d := rfl
    have f1 : ∀ i, i ≠ x_lc M d → (if (((d_n M nD ds ||| 2 ^ x_lc M d).testBit i) && !((x_oN M nD).testBit i)) = true then 1 else 0) = (if ((d_n M nD ds).testBit i && !((x_oN M nD).testBit i)) = true then 1 else 0) := fun i hi => by
      have : ¬ x_lc M d = i := fun q => hi q.symm
      rw [Nat.testBit_or, testBit_pow, decide_eq_false this, Bool.or_false]
    have f2 : (if (((d_n M nD ds ||| 2 ^ x_lc M d).testBit (x_lc M d)) && !((x_oN M nD).testBit (x_lc M d))) = true then 1 else 0) = (if ((d_n M nD ds).testBit (x_lc M d) && !((x_oN M nD).testBit (x_lc M d))) = true then 1 else 0) + 1 := by
      rw [Nat.testBit_or, testBit_pow, hb, ho]; simp
    have f3 := k_s_add (f := fun j => if ((d_n M nD ds).testBit j && !((x_oN M nD).testBit j)) = true then 1 else 0) (g := fun j => if (((d_n M nD ds ||| 2 ^ x_lc M d).testBit j) && !((x_oN M nD).testBit j)) = true then 1 else 0) (d := x_lc M d) (v := 1) f1 f2 10
    rw [if_pos (by omega), ← k_n_s, ← k_n_s, ih] at f3
    rw [e, f3]; rfl
theorem d_bits (hI : m_I nR nD nK nG M) {ds : List Nat} (h : p_F (k_cA M nD nK r0 g) ds) : z_bc (nI (d_n M nD ds) &&& (x_ol M nD ^^^ (-1))) = nI ds.length := by
  have hl := d_n_lt hI h
  have hp := pow10 hI.lc
  have ho := x_oN_lt (M := M) nD
  have hx : ∀ i, i < 32 → tb (x_ol M nD ^^^ (-1)) i = !(tb (x_ol M nD) i) := fun i hi => by
    unfold tb
    rw [Int32.toBitVec_xor, BitVec.getLsbD_xor]
    have : ((-1 : Int32).toBitVec).getLsbD i = true := by
      have : (-1 : Int32).toBitVec = BitVec.allOnes 32 := by decide
      rw [this, BitVec.getLsbD_allOnes]; simp [hi]
    rw [this]; simp
  have hlt : d_n M nD ds &&& (1023 ^^^ x_oN M nD) < 1024 := Nat.lt_of_le_of_lt Nat.and_le_left (by omega)
  have hbit : ∀ i, i < 10 → (d_n M nD ds &&& (1023 ^^^ x_oN M nD)).testBit i = ((d_n M nD ds).testBit i && !((x_oN M nD).testBit i)) := fun i hi => by
    have e : (1023 : Nat).testBit i = true := by
      have : (1023 : Nat) = 2 ^ 10 - 1 := by decide
      rw [this, Nat.testBit_two_pow_sub_one]; simp [hi]
    rw [Nat.testBit_and, Nat.testBit_xor, e]; simp
  have e : nI (d_n M nD ds) &&& (x_ol M nD ^^^ (-1)) = nI (d_n M nD ds &&& (1023 ^^^ x_oN M nD)) := by
    refine tb_ext fun i hi => ?_
    rw [tb_and, hx i hi, tb_nI (by omega) hi, tb_nI (by omega) hi, x_ol_oN hI, tb_nI (by omega) hi]
    by_cases q : i < 10
    · rw [hbit i q]
    · have z : (d_n M nD ds).testBit i = false := Nat.testBit_lt_two_pow (Nat.lt_of_lt_of_le hl (Nat.le_trans hp (by rw [show (1024 : Nat) = 2 ^ 10 from rfl]; exact Nat.pow_le_pow_right (by omega) (by omega))))
      rw [Nat.testBit_and, z]; rfl
  rw [e, z_bc_nI _ hlt, k_n_congr hbit, d_cnt hI h]
/-- the best plan found so far -/
def d_B (M : m_S) (nD nK r0 : Nat) (g : Int32) (s : Nat) (T : x_T) : Prop :=
  (T.2.2.1 1 = 0 ∧ ∀ q, p_RF (k_cA M nD nK r0 g) (k_esc M nD r0) (k_out M nD r0) q → k_esc M nD r0 (p_mem q) = true → d_n M nD q < s → False) ∨
  (T.2.2.1 1 = 1 ∧ ∃ p, p_RF (k_cA M nD nK r0 g) (k_esc M nD r0) (k_out M nD r0) p ∧ k_esc M nD r0 (p_mem p) = true ∧ T.2.2.1 2 = nI (p_cost (k_u M) p) ∧ T.2.2.1 3 = nI p.length ∧ T.2.2.2.1 = Int64.ofNat (p_enc p) ∧ ∀ q, p_RF (k_cA M nD nK r0 g) (k_esc M nD r0) (k_out M nD r0) q → k_esc M nD r0 (p_mem q) = true → d_n M nD q < s → p_le (k_u M) p q)
theorem d_cost (hI : m_I nR nD nK nG M) {ds : List Nat} (h : p_F (k_cA M nD nK r0 g) ds) : x_cost M (p_mem ds) nD = nI (p_cost (k_u M) ds) ∧ p_cost (k_u M) ds < 2 ^ 20 := by
  have e := p_cost_set (u := k_u M) (k_hH hI h) (fun x hx => (h.ok k_hA x hx).1)
  refine ⟨by rw [x_cost_eq hI, e], ?_⟩
  have := q_cost_le hI (t := p_num 0 (k_ci M) ds)
  rw [q_Met.cost (nK := nK) hI k_hA (k_hH hI) h] at this
  exact this
/-- better, by the machine's numbers, is less in the order of plans -/
theorem d_better (hI : m_I nR nD nK nG M) {p q : List Nat} (hp : p_F (k_cA M nD nK r0 g) p) (hq : p_F (k_cA M nD nK r0 g) q) (e1 : T.2.2.1 2 = nI (p_cost (k_u M) p)) (e2 : T.2.2.1 3 = nI p.length) (e3 : T.2.2.2.1 = Int64.ofNat (p_enc p)) : (x_better T (nI (p_cost (k_u M) q)) (nI q.length) (Int64.ofNat (p_enc q)) = true → p_le (k_u M) q p) ∧ (x_better T (nI (p_cost (k_u M) q)) (nI q.length) (Int64.ofNat (p_enc q)) = false → p_le (k_u M) p q) := by
  have c1 := (d_cost hI hp).2
  have c2 := (d_cost hI hq).2
  have l1 := p_RF.len hI hp
  have l2 := p_RF.len hI hq
  have n1 := nI_inj (a := p_cost (k_u M) q) (b := p_cost (k_u M) p) (by omega) (by omega)
  have n2 := nI_inj (a := q.length) (b := p.length) (by omega) (by omega)
  have n3 := nI_ltI (a := p_cost (k_u M) q) (b := p_cost (k_u M) p) (by omega) (by omega)
  have n4 := nI_ltI (a := q.length) (b := p.length) (by omega) (by omega)
  have n5 := i64_lt (d_enc hI hq) (d_enc hI hp)
  unfold x_better p_le
  rw [e1, e2, e3]
  by_cases a : p_cost (k_u M) q = p_cost (k_u M) p
  · rw [if_pos (n1.mpr a)]
    by_cases b : q.length = p.length
    · rw [if_pos (n2.mpr b), decide_eq_true_eq, decide_eq_false_iff_not, n5]; omega
    · rw [if_neg (fun z => b (n2.mp z)), decide_eq_true_eq, decide_eq_false_iff_not, n4]; omega
  · rw [if_neg (fun z => a (n1.mp z)), decide_eq_true_eq, decide_eq_false_iff_not, n3]; omega
end KEEP

