/-! keys counted by color, five bits a color -/
def c_pk (c : Int32) : Int32 := (1 : Int32) <<< ((5 * c) &&& 31)
theorem c_pk_nI : ∀ c, c < 6 → c_pk (nI c) = nI (32 ^ c) := by decide
theorem c_sh : ∀ c, c < 6 → (((5 * nI c) &&& 31).toBitVec.smod 32).toNat = 5 * c := by decide
def c_dig (x c : Int32) : Bool := !(decide ((x >>> ((5 * c) &&& 31)) &&& 31 = 0))
theorem c_dig_nI {z c : Nat} (hz : z < 2 ^ 30) (hc : c < 6) : c_dig (nI z) (nI c) = !(decide (z / 32 ^ c % 32 = 0)) := by
  have hp : (32 : Nat) ^ c = 2 ^ (5 * c) := by rw [show (32 : Nat) = 2 ^ 5 from rfl, ← Nat.pow_mul]
  have h1 : (nI z >>> ((5 * nI c) &&& 31)).toBitVec = (nI z).toBitVec.sshiftRight (5 * c) := by
    rw [Int32.toBitVec_shiftRight]
    show (nI z).toBitVec.sshiftRight (((5 * nI c) &&& 31).toBitVec.smod 32).toNat = _
    rw [c_sh c hc]
  have hzb : (nI z).toBitVec.toNat = z := by
    show (BitVec.ofNat 32 z).toNat = z
    rw [BitVec.toNat_ofNat]; exact Nat.mod_eq_of_lt (by omega)
  have hm : (nI z).toBitVec.msb = false := by
    rw [BitVec.msb_eq_false_iff_two_mul_lt, hzb]; omega
  have h2 : ((nI z >>> ((5 * nI c) &&& 31)) &&& 31).toBitVec.toNat = z / 32 ^ c % 32 := by
    rw [Int32.toBitVec_and, h1, BitVec.sshiftRight_eq_of_msb_false hm, BitVec.toNat_and, BitVec.toNat_ushiftRight, hzb, Nat.shiftRight_eq_div_pow, hp]
    show _ &&& 31 = _
    exact Nat.and_two_pow_sub_one_eq_mod (n := 5) _
  have h3 : ((nI z >>> ((5 * nI c) &&& 31)) &&& 31 = 0) ↔ z / 32 ^ c % 32 = 0 := by
    rw [← h2]
    constructor
    · intro h; rw [h]; rfl
    · intro h
      apply Int32.toBitVec_inj.mp
      apply BitVec.eq_of_toNat_eq
      rw [h]; rfl
  unfold c_dig
  by_cases q : z / 32 ^ c % 32 = 0
  · rw [decide_eq_true q, decide_eq_true (h3.mpr q)]
  · rw [decide_eq_false q, decide_eq_false (fun w => q (h3.mp w))]
/-- a sum by colors -/
def c_six (a : Nat → Nat) : Nat := a 0 + a 1 * 32 + a 2 * 32 ^ 2 + a 3 * 32 ^ 3 + a 4 * 32 ^ 4 + a 5 * 32 ^ 5
theorem c_six_congr {a b : Nat → Nat} (h : ∀ c, c < 6 → a c = b c) : c_six a = c_six b := by
  unfold c_six
  rw [h 0 (by omega), h 1 (by omega), h 2 (by omega), h 3 (by omega), h 4 (by omega), h 5 (by omega)]
theorem c_six_one (a b : Nat → Nat) {x : Nat} (hx : x < 6) (h : ∀ c, b c = a c + (if c = x then 1 else 0)) : c_six b = c_six a + 32 ^ x := by
  have h0 := h 0
  have h1 := h 1
  have h2 := h 2
  have h3 := h 3
  have h4 := h 4
  have h5 := h 5
  unfold c_six
  have : x = 0 ∨ x = 1 ∨ x = 2 ∨ x = 3 ∨ x = 4 ∨ x = 5 := by omega
  rcases this with e | e | e | e | e | e
  all_goals (subst e; simp at h0 h1 h2 h3 h4 h5; rw [h0, h1, h2, h3, h4, h5]; omega)
theorem c_sum {p : Nat → Bool} {col : Nat → Nat} (hc : ∀ k, p k = true → col k < 6) : ∀ n, k_s (fun k => if p k = true then 32 ^ col k else 0) n = c_six (fun c => k_n (fun k => p k && decide (col k = c)) n)
  | 0 => by simp [c_six, k_s, k_n]
  | n + 1 => by
    have ih := c_sum hc n
    have e1 : k_s (fun k => if p k = true then 32 ^ col k else 0) (n + 1) = k_s (fun k => if p k = true then 32 ^ col k else 0) n + (if p n = true then 32 ^ col n else 0) := rfl
    by_cases q : p n = true
    · have e2 := c_six_one (fun c => k_n (fun k => p k && decide (col k = c)) n) (fun c => k_n (fun k => p k && decide (col k = c)) (n + 1)) (hc n q) (fun c => by
        show k_n (fun k => p k && decide (col k = c)) n + (if (p n && decide (col n = c)) = true then 1 else 0) = _
        by_cases w : c = col n
        · rw [q, w]; simp
        · have w2 : ¬ col n = c := fun z => w z.symm
          rw [q, if_neg w, decide_eq_false w2]; simp)
      rw [e1, if_pos q, e2, ih]
    · have e2 : c_six (fun c => k_n (fun k => p k && decide (col k = c)) (n + 1)) = c_six (fun c => k_n (fun k => p k && decide (col k = c)) n) := c_six_congr fun c _ => by
        show k_n (fun k => p k && decide (col k = c)) n + (if (p n && decide (col n = c)) = true then 1 else 0) = _
        have q2 : p n = false := by simpa using q
        rw [q2]; simp
      rw [e1, if_neg q, e2, ih, Nat.add_zero]
theorem c_dig6 {a b : Nat → Nat} (hb : ∀ c, c < 6 → b c ≤ a c ∧ a c ≤ 16) {c : Nat} (hc : c < 6) : c_six b ≤ c_six a ∧ c_six a - c_six b < 2 ^ 30 ∧ (c_six a - c_six b) / 32 ^ c % 32 = a c - b c := by
  have h0 := hb 0 (by omega)
  have h1 := hb 1 (by omega)
  have h2 := hb 2 (by omega)
  have h3 := hb 3 (by omega)
  have h4 := hb 4 (by omega)
  have h5 := hb 5 (by omega)
  unfold c_six
  have : c = 0 ∨ c = 1 ∨ c = 2 ∨ c = 3 ∨ c = 4 ∨ c = 5 := by omega
  rcases this with rfl | rfl | rfl | rfl | rfl | rfl
  all_goals (refine ⟨by omega, by omega, ?_⟩; simp only [Nat.pow_zero, Nat.reducePow]; omega)

