theorem p_at_digit : ∀ {p : List Nat} {i : Nat}, (∀ x, x ∈ p → x < 16) → i < p.length → p_enc p / 16 ^ (p.length - 1 - i) % 16 = p_at p i
  | [], i, _, h => absurd h (by simp)
  | d :: ds, i, hx, h => by
    have hd := hx d (List.mem_cons_self ..)
    have h2 : i < ds.length + 1 := h
    have e : p_enc (d :: ds) = p_enc ds * 16 + d := rfl
    have el : (d :: ds).length = ds.length + 1 := rfl
    unfold p_at
    rw [e, el]
    by_cases q : i = ds.length
    · have : ds.length + 1 - 1 - i = 0 := by omega
      rw [if_pos q, this, Nat.pow_zero, Nat.div_one]; omega
    · have ih := p_at_digit (p := ds) (i := i) (fun x hx' => hx x (List.mem_cons_of_mem _ hx')) (by omega)
      have : ds.length + 1 - 1 - i = (ds.length - 1 - i) + 1 := by omega
      rw [if_neg q, this, Nat.pow_succ, Nat.mul_comm (16 ^ _) 16, ← Nat.div_div_eq_div_mul]
      have e3 : (p_enc ds * 16 + d) / 16 = p_enc ds := by omega
      rw [e3]; exact ih
theorem i64_sh : ∀ k, k < 10 → (((nI (4 * k)).toInt64 &&& 63).toBitVec.smod 64).toNat = 4 * k := by decide
def x_digit (x : Int64) (c i : Int32) : Int32 := (x >>> ((4 * (c - 1 - i)).toInt64 &&& 63)).toInt32 &&& 15
theorem x_digit_eq {p : List Nat} {i : Nat} (hx : ∀ x, x ∈ p → x < 16) (hl : p.length ≤ 10) (hi : i < p.length) : x_digit (Int64.ofNat (p_enc p)) (nI p.length) (nI i) = nI (p_at p i) := by
  have h1 : (4 : Int32) * (nI p.length - 1 - nI i) = nI (4 * (p.length - 1 - i)) := by
    rw [show (1 : Int32) = nI 1 from rfl, show (4 : Int32) = nI 4 from rfl, nI_subN (by omega), nI_subN (by omega), nI_mulN]
  have hk : p.length - 1 - i < 10 := by omega
  have hs := i64_sh _ hk
  have hb : p_enc p < 2 ^ 40 := by
    have h2 := p_enc_lt hx
    have h3 : 16 ^ p.length ≤ 16 ^ 10 := Nat.pow_le_pow_right (by omega) hl
    have h4 : (16 : Nat) ^ 10 = 2 ^ 40 := by decide
    omega
  have e1 : (Int64.ofNat (p_enc p)).toBitVec.toNat = p_enc p := by
    show (BitVec.ofNat 64 (p_enc p)).toNat = p_enc p
    rw [BitVec.toNat_ofNat]; exact Nat.mod_eq_of_lt (by omega)
  have hm : (Int64.ofNat (p_enc p)).toBitVec.msb = false := by
    rw [BitVec.msb_eq_false_iff_two_mul_lt, e1]; omega
  have h5 : (Int64.ofNat (p_enc p) >>> ((4 * (nI p.length - 1 - nI i)).toInt64 &&& 63)).toBitVec = (Int64.ofNat (p_enc p)).toBitVec >>> (4 * (p.length - 1 - i)) := by
    rw [h1, Int64.toBitVec_shiftRight]
    show (Int64.ofNat (p_enc p)).toBitVec.sshiftRight (((nI (4 * (p.length - 1 - i))).toInt64 &&& 63).toBitVec.smod 64).toNat = _
    rw [hs, BitVec.sshiftRight_eq_of_msb_false hm]
  have hdig := p_at_digit hx hi
  have hp : (16 : Nat) ^ (p.length - 1 - i) = 2 ^ (4 * (p.length - 1 - i)) := by rw [show (16 : Nat) = 2 ^ 4 from rfl, ← Nat.pow_mul]
  have hat : p_at p i < 16 := by rw [← hdig]; exact Nat.mod_lt _ (by omega)
  unfold x_digit
  apply Int32.toBitVec_inj.mp
  apply BitVec.eq_of_toNat_eq
  have e2 : (nI (p_at p i)).toBitVec.toNat = p_at p i := by
    show (BitVec.ofNat 32 (p_at p i)).toNat = p_at p i
    rw [BitVec.toNat_ofNat]; exact Nat.mod_eq_of_lt (by omega)
  rw [e2, Int32.toBitVec_and, BitVec.toNat_and]
  have e3 : (Int64.ofNat (p_enc p) >>> ((4 * (nI p.length - 1 - nI i)).toInt64 &&& 63)).toInt32.toBitVec.toNat = p_enc p / 16 ^ (p.length - 1 - i) % 2 ^ 32 := by
    show (BitVec.signExtend 32 (Int64.ofNat (p_enc p) >>> ((4 * (nI p.length - 1 - nI i)).toInt64 &&& 63)).toBitVec).toNat = _
    rw [h5, BitVec.signExtend_eq_setWidth_of_le _ (by omega), BitVec.toNat_setWidth, BitVec.toNat_ushiftRight, e1, Nat.shiftRight_eq_div_pow, hp]
  rw [e3]
  have e4 : (15 : Int32).toBitVec.toNat = 15 := rfl
  rw [e4, show (15 : Nat) = 2 ^ 4 - 1 from rfl, Nat.and_two_pow_sub_one_eq_mod, ← hdig]
  omega

