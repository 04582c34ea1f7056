/-! sets of rooms as bits; what can be reached -/
def tb (x : Int32) (i : Nat) : Bool := x.toBitVec.getLsbD i
theorem tb_or (x y : Int32) (i : Nat) : tb (x ||| y) i = (tb x i || tb y i) := by simp [tb]
theorem tb_and (x y : Int32) (i : Nat) : tb (x &&& y) i = (tb x i && tb y i) := by simp [tb]
theorem tb_0 (i : Nat) : tb 0 i = false := by simp [tb]
theorem tb_big {x : Int32} {i : Nat} (h : 32 ≤ i) : tb x i = false := BitVec.getLsbD_of_ge _ _ h
theorem tb_ext {x y : Int32} (h : ∀ i, i < 32 → tb x i = tb y i) : x = y := by
  apply Int32.toBitVec_inj.mp
  apply BitVec.eq_of_getLsbD_eq
  intro i hi
  exact h i hi
theorem x_bit_bv : ∀ j, j < 32 → (x_bit (nI j)).toBitVec = BitVec.twoPow 32 j := by decide +kernel
theorem tb_bit {j : Nat} (hj : j < 32) (i : Nat) : tb (x_bit (nI j)) i = decide (i = j) := by
  unfold tb
  rw [x_bit_bv j hj, BitVec.getLsbD_twoPow]
  by_cases e : j = i
  · subst e; simp [hj]
  · have e2 : ¬ i = j := fun q => e q.symm
    simp [e, e2]
def m_has (x k : Int32) : Bool := decide (((x >>> (k &&& 31)) &&& 1) = 1)
theorem m_has_sh : ∀ j, j < 32 → ((nI j &&& 31).toBitVec.smod 32).toNat = j := by decide +kernel
theorem m_has_tb {x : Int32} {j : Nat} (hj : j < 32) : m_has x (nI j) = tb x j := by
  unfold m_has tb
  have h1 : ((x >>> (nI j &&& 31)) &&& 1).toBitVec = (x.toBitVec.sshiftRight j) &&& 1#32 := by
    rw [Int32.toBitVec_and, Int32.toBitVec_shiftRight]
    show x.toBitVec.sshiftRight ((nI j &&& 31).toBitVec.smod 32).toNat &&& 1#32 = _
    rw [m_has_sh j hj]
  have h2 : ∀ (y : BitVec 32), (y &&& 1#32 = 1#32) ↔ y.getLsbD 0 = true := by
    intro y
    constructor
    · intro h
      have h3 : (y &&& 1#32).getLsbD 0 = true := by rw [h]; decide
      simpa using h3
    · intro h
      apply BitVec.eq_of_getLsbD_eq
      intro i hi
      by_cases e : i = 0
      · subst e; simp [h]
      · simp [e]
  have h4 : ((x >>> (nI j &&& 31)) &&& 1 = 1) ↔ x.toBitVec.getLsbD j = true := by
    rw [← Int32.toBitVec_inj, h1]
    show (x.toBitVec.sshiftRight j &&& 1#32 = 1#32) ↔ _
    rw [h2, BitVec.getLsbD_sshiftRight]
    simp [hj]
  by_cases e : x.toBitVec.getLsbD j = true
  · rw [e, decide_eq_true (h4.mpr e)]
  · have e2 : x.toBitVec.getLsbD j = false := by simpa using e
    rw [e2, decide_eq_false (fun q => e (h4.mp q))]
/-- the bits of a set of places -/
noncomputable def g_bits (P : Nat → Prop) : Nat → Int32
  | 0 => 0
  | n + 1 => @ite _ (P n) (Classical.propDecidable _) (g_bits P n ||| x_bit (nI n)) (g_bits P n)
theorem g_bits_lt (P : Nat → Prop) : ∀ n, n ≤ 32 → ∀ i, tb (g_bits P n) i = true ↔ i < n ∧ P i
  | 0, _, i => by simp [g_bits, tb_0]
  | n + 1, hn, i => by
    have ih := g_bits_lt P n (by omega) i
    unfold g_bits
    by_cases c : P n
    · rw [if_pos c, tb_or, tb_bit (by omega), Bool.or_eq_true, ih, decide_eq_true_eq]
      constructor
      · rintro (⟨h1, h2⟩ | h)
        · exact ⟨by omega, h2⟩
        · subst h; exact ⟨by omega, c⟩
      · rintro ⟨h1, h2⟩
        by_cases e : i = n
        · exact Or.inr e
        · exact Or.inl ⟨by omega, h2⟩
    · rw [if_neg c, ih]
      constructor
      · rintro ⟨h1, h2⟩; exact ⟨by omega, h2⟩
      · rintro ⟨h1, h2⟩
        refine ⟨?_, h2⟩
        have : i ≠ n := fun e => c (e ▸ h2)
        omega
theorem g_bits_tb {P : Nat → Prop} {i : Nat} (hi : i < 32) : tb (g_bits P 32) i = true ↔ P i := by
  rw [g_bits_lt P 32 (Nat.le_refl _) i]; exact ⟨fun h => h.2, fun h => ⟨hi, h⟩⟩
theorem g_bits_eq {P : Nat → Prop} {x : Int32} (h : ∀ i, i < 32 → (tb x i = true ↔ P i)) : x = g_bits P 32 := by
  refine tb_ext fun i hi => ?_
  have h1 := h i hi
  have h2 := g_bits_tb (P := P) hi
  cases a : tb x i <;> cases b : tb (g_bits P 32) i <;> simp_all
theorem g_bits_congr {P Q : Nat → Prop} (h : ∀ i, i < 32 → (P i ↔ Q i)) : g_bits P 32 = g_bits Q 32 := g_bits_eq fun i hi => (g_bits_tb hi).trans (h i hi)
/-- what can be reached from S through the first nD doors that are open -/
def g_R (nD : Nat) (lo hi : Nat → Nat) (op : Nat → Bool) (S : Nat → Prop) (r : Nat) : Prop := ∀ P : Nat → Prop, (∀ x, S x → P x) → (∀ d, d < nD → op d = true → (P (lo d) ↔ P (hi d))) → P r
theorem g_R.start {nD : Nat} {lo hi : Nat → Nat} {op : Nat → Bool} {S : Nat → Prop} {r : Nat} (h : S r) : g_R nD lo hi op S r := fun _ h1 _ => h1 r h
theorem g_R.step {nD : Nat} {lo hi : Nat → Nat} {op : Nat → Bool} {S : Nat → Prop} {d : Nat} (hd : d < nD) (ho : op d = true) : g_R nD lo hi op S (lo d) ↔ g_R nD lo hi op S (hi d) :=
  ⟨fun h P h1 h2 => (h2 d hd ho).mp (h P h1 h2), fun h P h1 h2 => (h2 d hd ho).mpr (h P h1 h2)⟩
theorem g_R.mono {nD : Nat} {lo hi : Nat → Nat} {op op2 : Nat → Bool} {S S2 : Nat → Prop} {r : Nat} (hS : ∀ x, S x → S2 x) (ho : ∀ d, d < nD → op d = true → op2 d = true) (h : g_R nD lo hi op S r) : g_R nD lo hi op2 S2 r :=
  fun P h1 h2 => h P (fun x hx => h1 x (hS x hx)) (fun d hd q => h2 d hd (ho d hd q))
theorem g_R.trans {nD : Nat} {lo hi : Nat → Nat} {op : Nat → Bool} {S S2 : Nat → Prop} {r : Nat} (hS : ∀ x, S x → g_R nD lo hi op S2 x) (h : g_R nD lo hi op S r) : g_R nD lo hi op S2 r :=
  fun P h1 h2 => h P (fun x hx => hS x hx P h1 h2) h2
theorem g_R.lt {nD n : Nat} {lo hi : Nat → Nat} {op : Nat → Bool} {S : Nat → Prop} {r : Nat} (hS : ∀ x, S x → x < n) (hl : ∀ d, d < nD → lo d < n ∧ hi d < n) (h : g_R nD lo hi op S r) : r < n :=
  h (fun x => x < n) hS (fun d hd _ => ⟨fun _ => (hl d hd).2, fun _ => (hl d hd).1⟩)
/-- how many of the first n places lack -/
def g_miss (x : Int32) : Nat → Nat
  | 0 => 0
  | n + 1 => g_miss x n + (if tb x n = true then 0 else 1)
theorem g_miss_le (x : Int32) : ∀ n, g_miss x n ≤ n
  | 0 => Nat.le_refl _
  | n + 1 => by
    have := g_miss_le x n
    unfold g_miss
    split <;> omega
theorem g_miss_mono {x y : Int32} (h : ∀ i, tb x i = true → tb y i = true) : ∀ n, g_miss y n ≤ g_miss x n
  | 0 => Nat.le_refl _
  | n + 1 => by
    have ih := g_miss_mono h n
    unfold g_miss
    by_cases c : tb x n = true
    · rw [if_pos c, if_pos (h n c)]; omega
    · rw [if_neg c]; split <;> omega
theorem g_miss_lt {x y : Int32} (h : ∀ i, tb x i = true → tb y i = true) {k : Nat} (hx : tb x k = false) (hy : tb y k = true) : ∀ n, k < n → g_miss y n < g_miss x n
  | 0, hk => absurd hk (by omega)
  | n + 1, hk => by
    unfold g_miss
    by_cases e : k = n
    · subst e
      have := g_miss_mono h k
      rw [if_pos hy, if_neg (by rw [hx]; decide)]; omega
    · have ih := g_miss_lt h hx hy n (by omega)
      by_cases c : tb x n = true
      · rw [if_pos c, if_pos (h n c)]; omega
      · rw [if_neg c]; split <;> omega
theorem g_miss_one {x : Int32} {k : Nat} (hx : tb x k = true) : ∀ n, k < n → g_miss x n + 1 ≤ n
  | 0, hk => absurd hk (by omega)
  | n + 1, hk => by
    unfold g_miss
    by_cases e : k = n
    · subst e
      have := g_miss_le x k
      rw [if_pos hx]; omega
    · have ih := g_miss_one hx n (by omega)
      split <;> omega
theorem z_b_eq {a b : Bool} : z_b a = z_b b ↔ a = b := by cases a <;> cases b <;> decide
/-- a set that holds the start, is closed, and holds only what can be reached, is what can be reached -/
theorem g_R_done {nD : Nat} {lo hi : Nat → Nat} {op : Nat → Bool} {S : Nat → Prop} {x : Int32} (h1 : ∀ r, S r → tb x r = true) (h2 : ∀ d, d < nD → op d = true → tb x (lo d) = tb x (hi d)) (h3 : ∀ r, tb x r = true → g_R nD lo hi op S r) : x = g_bits (g_R nD lo hi op S) 32 :=
  g_bits_eq fun i _ => ⟨h3 i, fun h => h (fun r => tb x r = true) h1 (fun d hd ho => by rw [h2 d hd ho])⟩
/-- one door is crossed -/
theorem g_R_cross {nD : Nat} {lo hi : Nat → Nat} {op : Nat → Bool} {S : Nat → Prop} {x : Int32} {d : Nat} (hd : d < nD) (hl : lo d < 32) (hh : hi d < 32) (ho : op d = true) (hne : tb x (lo d) ≠ tb x (hi d)) (h3 : ∀ r, tb x r = true → g_R nD lo hi op S r) :
    (∀ r, tb (x ||| (x_bit (nI (lo d)) ||| x_bit (nI (hi d)))) r = true → g_R nD lo hi op S r) ∧ (∀ i, tb x i = true → tb (x ||| (x_bit (nI (lo d)) ||| x_bit (nI (hi d)))) i = true) ∧ ∃ k, (k = lo d ∨ k = hi d) ∧ tb x k = false ∧ tb (x ||| (x_bit (nI (lo d)) ||| x_bit (nI (hi d)))) k = true := by
  have hx : g_R nD lo hi op S (lo d) ∧ g_R nD lo hi op S (hi d) := by
    cases a : tb x (lo d) with
    | true => exact ⟨h3 _ a, (g_R.step hd ho).mp (h3 _ a)⟩
    | false =>
      have b : tb x (hi d) = true := by
        cases b : tb x (hi d) with
        | true => rfl
        | false => rw [a, b] at hne; exact absurd rfl hne
      exact ⟨(g_R.step hd ho).mpr (h3 _ b), h3 _ b⟩
  refine ⟨fun r hr => ?_, fun i hi => by rw [tb_or, hi]; rfl, ?_⟩
  · rw [tb_or, tb_or, tb_bit hl, tb_bit hh] at hr
    simp only [Bool.or_eq_true, decide_eq_true_eq] at hr
    rcases hr with q | q | q
    · exact h3 r q
    · rw [q]; exact hx.1
    · rw [q]; exact hx.2
  · cases a : tb x (lo d) with
    | false => exact ⟨lo d, Or.inl rfl, a, by rw [tb_or, tb_or, tb_bit hl]; simp⟩
    | true =>
      have b : tb x (hi d) = false := by
        cases b : tb x (hi d) with
        | false => rfl
        | true => rw [a, b] at hne; exact absurd rfl hne
      exact ⟨hi d, Or.inr rfl, b, by rw [tb_or, tb_or, tb_bit hh]; simp⟩
/-- a door between two different rooms leads out of a set if just one of them is in it -/
theorem x_leads {x : Int32} {a b : Nat} (ha : a < 32) (hb : b < 32) (hab : a ≠ b) : (!(decide (x &&& (x_bit (nI a) ||| x_bit (nI b)) = 0)) && !(decide (x &&& (x_bit (nI a) ||| x_bit (nI b)) = (x_bit (nI a) ||| x_bit (nI b))))) = !(decide (tb x a = tb x b)) := by
  have h0 : (x &&& (x_bit (nI a) ||| x_bit (nI b)) = 0) ↔ tb x a = false ∧ tb x b = false := by
    constructor
    · intro h
      have e1 : tb (x &&& (x_bit (nI a) ||| x_bit (nI b))) a = false := by rw [h]; exact tb_0 a
      have e2 : tb (x &&& (x_bit (nI a) ||| x_bit (nI b))) b = false := by rw [h]; exact tb_0 b
      rw [tb_and, tb_or, tb_bit ha] at e1
      rw [tb_and, tb_or, tb_bit ha, tb_bit hb] at e2
      simp at e1 e2
      exact ⟨e1, e2⟩
    · rintro ⟨e1, e2⟩
      refine tb_ext fun i hi => ?_
      rw [tb_and, tb_or, tb_bit ha, tb_bit hb, tb_0]
      by_cases q1 : i = a
      · subst q1; simp [e1]
      · by_cases q2 : i = b
        · subst q2; simp [e2]
        · simp [q1, q2]
  have h1 : (x &&& (x_bit (nI a) ||| x_bit (nI b)) = (x_bit (nI a) ||| x_bit (nI b))) ↔ tb x a = true ∧ tb x b = true := by
    constructor
    · intro h
      have e1 : tb (x &&& (x_bit (nI a) ||| x_bit (nI b))) a = true := by rw [h, tb_or, tb_bit ha]; simp
      have e2 : tb (x &&& (x_bit (nI a) ||| x_bit (nI b))) b = true := by rw [h, tb_or, tb_bit hb]; simp
      rw [tb_and] at e1 e2
      simp at e1 e2
      exact ⟨e1.1, e2.1⟩
    · rintro ⟨e1, e2⟩
      refine tb_ext fun i hi => ?_
      rw [tb_and, tb_or, tb_bit ha, tb_bit hb]
      by_cases q1 : i = a
      · subst q1; simp [e1]
      · by_cases q2 : i = b
        · subst q2; simp [e2]
        · simp [q1, q2]
  cases p : tb x a <;> cases q : tb x b <;> simp [h0, h1, p, q]

