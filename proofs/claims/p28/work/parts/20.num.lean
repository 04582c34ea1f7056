/-! sets of doors as numbers: o the bits that are always there, ix the bit of a door -/
def p_num (o : Nat) (ix : Nat → Nat) : List Nat → Nat
  | [] => o
  | d :: ds => p_num o ix ds ||| 2 ^ ix d
def k_C (M : m_S) (nD : Nat) (ix : Nat → Nat) (t : Nat) : Nat → Bool := fun d => decide (d < nD) && !(x_op M d) && t.testBit (ix d)
/-- ix tells the closed doors apart, in L bits that o has not -/
def k_X (M : m_S) (nD L o : Nat) (ix : Nat → Nat) : Prop := (∀ a b, a < nD → b < nD → x_op M a = false → x_op M b = false → ix a = ix b → a = b) ∧ (∀ d, d < nD → x_op M d = false → o.testBit (ix d) = false ∧ ix d < L) ∧ o < 2 ^ L ∧ L ≤ 10
theorem testBit_pow {i j : Nat} : (2 ^ i).testBit j = decide (i = j) := by
  rw [Nat.testBit_two_pow]
theorem or_lt {a k L : Nat} (ha : a < 2 ^ L) (hk : k < L) : a ||| 2 ^ k < 2 ^ L := Nat.or_lt_two_pow ha (Nat.pow_lt_pow_right (by omega) hk)
theorem lt_or {a k : Nat} (h : a.testBit k = false) : a < a ||| 2 ^ k := by
  refine Nat.lt_of_le_of_ne Nat.left_le_or (fun e => ?_)
  have h1 : (a ||| 2 ^ k).testBit k = true := by rw [Nat.testBit_or, testBit_pow]; simp
  rw [← e, h] at h1; cases h1
theorem pow10 {L : Nat} (h : L ≤ 10) : 2 ^ L ≤ 1024 := Nat.pow_le_pow_right (n := 2) (by omega) h
section NUM
variable {M : m_S} {nD L o : Nat} {ix : Nat → Nat}
theorem p_num_lt : ∀ {ds : List Nat}, k_X M nD L o ix → (∀ x, x ∈ ds → x < nD ∧ x_op M x = false) → p_num o ix ds < 2 ^ L
  | [], h, _ => h.2.2.1
  | d :: ds, h, hl => or_lt (p_num_lt h (fun x hx => hl x (List.mem_cons_of_mem _ hx))) (h.2.1 d (hl d (List.mem_cons_self ..)).1 (hl d (List.mem_cons_self ..)).2).2
theorem p_num_bit : ∀ {ds : List Nat} (j : Nat), (p_num o ix ds).testBit j = true ↔ o.testBit j = true ∨ ∃ d, d ∈ ds ∧ ix d = j
  | [], j => by simp [p_num]
  | d :: ds, j => by
    show (p_num o ix ds ||| 2 ^ ix d).testBit j = true ↔ _
    rw [Nat.testBit_or, Bool.or_eq_true, p_num_bit j, testBit_pow, decide_eq_true_eq]
    constructor
    · rintro ((h | ⟨e, h1, h2⟩) | h)
      · exact Or.inl h
      · exact Or.inr ⟨e, List.mem_cons_of_mem _ h1, h2⟩
      · exact Or.inr ⟨d, List.mem_cons_self .., h⟩
    · rintro (h | ⟨e, h1, h2⟩)
      · exact Or.inl (Or.inl h)
      · rcases List.mem_cons.mp h1 with q | q
        · subst q; exact Or.inr h2
        · exact Or.inl (Or.inr ⟨e, q, h2⟩)
theorem k_C_num (h : k_X M nD L o ix) {ds : List Nat} (hl : ∀ x, x ∈ ds → x < nD ∧ x_op M x = false) : k_C M nD ix (p_num o ix ds) = p_mem ds := by
  funext d
  unfold k_C
  by_cases hd : d < nD ∧ x_op M d = false
  · rw [hd.2]
    simp only [hd.1, decide_true, Bool.not_false, Bool.true_and]
    cases q : p_mem ds d with
    | true => exact (p_num_bit _).mpr (Or.inr ⟨d, p_mem_t.mp q, rfl⟩)
    | false =>
      cases w : (p_num o ix ds).testBit (ix d) with
      | false => rfl
      | true =>
        rcases (p_num_bit _).mp w with z | ⟨e, z1, z2⟩
        · rw [(h.2.1 d hd.1 hd.2).1] at z; cases z
        · rw [h.1 e d (hl e z1).1 hd.1 (hl e z1).2 hd.2 z2] at z1
          rw [p_mem_f] at q
          exact absurd z1 q
  · have q : p_mem ds d = false := by
      rw [p_mem_f]
      intro q
      exact hd (hl d q)
    rw [q]
    by_cases c : d < nD
    · have : x_op M d = true := by
        cases w : x_op M d with
        | true => rfl
        | false => exact absurd ⟨c, w⟩ hd
      rw [this]; simp
    · simp [c]
/-- a set with one door more -/
theorem k_C_or (h : k_X M nD L o ix) {t d : Nat} (hd : d < nD) (ho : x_op M d = false) : k_C M nD ix (t ||| 2 ^ ix d) = fun x => k_C M nD ix t x || decide (x = d) := by
  funext x
  unfold k_C
  rw [Nat.testBit_or, testBit_pow]
  by_cases hx : x < nD ∧ x_op M x = false
  · rw [hx.2]
    have : decide (ix d = ix x) = decide (x = d) := by
      by_cases e : x = d
      · subst e; simp
      · have : ¬ ix d = ix x := fun q => e (h.1 x d hx.1 hd hx.2 ho q.symm)
        simp [e, this]
    rw [this]
    simp [hx.1]
  · have hne : ¬ x = d := fun e => hx (by rw [e]; exact ⟨hd, ho⟩)
    by_cases c : x < nD
    · have : x_op M x = true := by
        cases w : x_op M x with
        | true => rfl
        | false => exact absurd ⟨c, w⟩ hx
      rw [this]; simp [hne]
    · simp [c, hne]
end NUM
/-! the machine's numbers -/
theorem tb_nI {t i : Nat} (ht : t < 2 ^ 31) (hi : i < 32) : tb (nI t) i = t.testBit i := by
  unfold tb
  have e : (nI t).toBitVec = BitVec.ofNat 32 t := rfl
  rw [e, BitVec.getLsbD_ofNat]
  simp [hi]
theorem tb_nI' {t i : Nat} (ht : t < 2 ^ 31) : tb (nI t) i = t.testBit i := by
  by_cases hi : i < 32
  · exact tb_nI ht hi
  · rw [tb_big (by omega), Nat.testBit_lt_two_pow (Nat.lt_of_lt_of_le ht (Nat.pow_le_pow_right (by omega) (by omega)))]
theorem nI_or {a j : Nat} (ha : a < 2 ^ 31) (hj : j < 31) : nI a ||| x_bit (nI j) = nI (a ||| 2 ^ j) := by
  refine tb_ext fun i hi => ?_
  have hb : a ||| 2 ^ j < 2 ^ 31 := or_lt ha hj
  rw [tb_or, tb_bit (by omega), tb_nI ha hi, tb_nI hb hi, Nat.testBit_or, testBit_pow]
  by_cases e : i = j
  · subst e; simp
  · have : ¬ j = i := fun q => e q.symm
    simp [e, this]
theorem m_has_nI {t k : Nat} (ht : t < 2 ^ 31) (hk : k < 32) : m_has (nI t) (nI k) = t.testBit k := by rw [m_has_tb hk, tb_nI ht hk]
theorem x_bit_nI {j : Nat} (hj : j < 31) : x_bit (nI j) = nI (2 ^ j) := by
  have h := nI_or (a := 0) (j := j) (by omega) hj
  rw [Nat.zero_or] at h
  rw [← h]
  refine tb_ext fun i hi => ?_
  have e : (nI 0 : Int32) = 0 := rfl
  rw [tb_or, e, tb_0, Bool.false_or]

