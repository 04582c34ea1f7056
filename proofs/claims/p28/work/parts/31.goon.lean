/-- the search's rows alone differ -/
def x_E (T T' : x_T) : Prop := T'.1 = T.1 ∧ T'.2.1 = T.2.1 ∧ T'.2.2.1 = T.2.2.1 ∧ T'.2.2.2.1 = T.2.2.2.1
theorem x_E.refl {T : x_T} : x_E T T := ⟨rfl, rfl, rfl, rfl⟩
theorem x_E.trans {T T' T'' : x_T} (h : x_E T T') (h2 : x_E T' T'') : x_E T T'' := ⟨h2.1.trans h.1, h2.2.1.trans h.2.1, h2.2.2.1.trans h.2.2.1, h2.2.2.2.trans h.2.2.2⟩
theorem x_E.come {M : m_S} {nD t : Nat} {T : x_T} {y : Int32} {w : Int64} : x_E T (x_come M nD T t y w) := by
  unfold x_come
  split
  · exact ⟨rfl, rfl, rfl, rfl⟩
  · split
    · exact ⟨rfl, rfl, rfl, rfl⟩
    · exact x_E.refl
theorem x_E.W {ad : Nat → Nat → Nat} {M : m_S} {nD g : Nat} {T T' : x_T} (h : x_E T T') (hW : x_W ad M nD g T) : x_W ad M nD g T' := by
  unfold x_W at *
  rw [h.2.1, h.2.2.1]; exact hW
theorem i64_nI {i : Nat} (hi : i < 2 ^ 31) : (nI i).toInt64 = Int64.ofNat i := by
  apply Int64.toInt_inj.mp
  rw [Int32.toInt_toInt64, nI_toInt hi, Int64.toInt_ofNat_of_lt (by omega)]
theorem i64_shl {a i : Nat} (ha : a < 2 ^ 40) (hi : i < 16) : (Int64.ofNat a <<< ((4 : Int32).toInt64 &&& 63)) ||| (nI i).toInt64 = Int64.ofNat (a * 16 + i) := by
  rw [i64_nI (by omega)]
  apply Int64.toBitVec_inj.mp
  apply BitVec.eq_of_toNat_eq
  have e4 : (((4 : Int32).toInt64 &&& 63).toBitVec.smod 64).toNat = 4 := by decide
  rw [Int64.toBitVec_or, Int64.toBitVec_shiftLeft, BitVec.toNat_or, BitVec.shiftLeft_eq', BitVec.toNat_shiftLeft]
  have e1 : (Int64.ofNat a).toBitVec.toNat = a := by
    show (BitVec.ofNat 64 a).toNat = a
    rw [BitVec.toNat_ofNat]; exact Nat.mod_eq_of_lt (by omega)
  have e2 : (Int64.ofNat i).toBitVec.toNat = i := by
    show (BitVec.ofNat 64 i).toNat = i
    rw [BitVec.toNat_ofNat]; exact Nat.mod_eq_of_lt (by omega)
  have e3 : (Int64.ofNat (a * 16 + i)).toBitVec.toNat = a * 16 + i := by
    show (BitVec.ofNat 64 (a * 16 + i)).toNat = _
    rw [BitVec.toNat_ofNat]; exact Nat.mod_eq_of_lt (by omega)
  have e5 : ((((4 : Int32).toInt64 &&& 63).toBitVec.smod 64)).toNat = 4 := e4
  rw [e1, e2, e3]
  have e6 : a <<< 4 % 2 ^ 64 = 2 ^ 4 * a := by
    rw [Nat.shiftLeft_eq, Nat.mod_eq_of_lt (by omega)]; omega
  first
    | rw [e5, e6, ← Nat.two_pow_add_eq_or_of_lt (i := 4) (by omega)]; omega
    | (simp only [e5]; rw [e6, ← Nat.two_pow_add_eq_or_of_lt (i := 4) (by omega)]; omega)
section GO
variable {nR nD nK nG r0 : Nat} {M : m_S} {g : Int32} {s e : Nat}
theorem d_hy (hI : m_I nR nD nK nG M) {ds0 : List Nat} (hc : k_cA M nD nK r0 g (p_mem ds0) e = true) : ∀ r, tb (k_R M nD r0 (p_mem ds0) ||| (x_bit (M.2 3 e) ||| x_bit (M.2 4 e))) r = true → m_Rch M nD (fun d => x_op M d || p_mem (e :: ds0) d) (fun q => q = r0) r := fun r hr => by
  obtain ⟨h1, h2, h3, h4, -⟩ := k_cA_iff.mp hc
  have hl := m_lo12 hI h1
  have hh := m_hi12 hI h1
  have h12 := hI.1.1.2
  have hm : ∀ i, i < 32 → tb (k_R M nD r0 (p_mem ds0)) i = true → m_Rch M nD (fun d => x_op M d || p_mem (e :: ds0) d) (fun q => q = r0) i := fun i hi q => by
    rw [k_R_tb hi] at q
    refine q.mono (fun _ z => z) (fun d _ z => ?_)
    rw [Bool.or_eq_true] at z ⊢
    exact z.imp id (fun w => by rw [p_mem_t] at w ⊢; exact List.mem_cons_of_mem _ w)
  have hop : (fun d => x_op M d || p_mem (e :: ds0) d) e = true := by
    show (x_op M e || p_mem (e :: ds0) e) = true
    rw [Bool.or_eq_true]; exact Or.inr (p_mem_t.mpr (List.mem_cons_self ..))
  have hb : m_Rch M nD (fun d => x_op M d || p_mem (e :: ds0) d) (fun q => q = r0) (m_lo M e) ∧ m_Rch M nD (fun d => x_op M d || p_mem (e :: ds0) d) (fun q => q = r0) (m_hi M e) := by
    rcases h4 with q | q
    · have := hm _ (by omega) q
      exact ⟨this, (g_R.step h1 hop).mp this⟩
    · have := hm _ (by omega) q
      exact ⟨(g_R.step h1 hop).mpr this, this⟩
  rw [m_bits hI h1, tb_or, tb_or, tb_bit (by omega), tb_bit (by omega)] at hr
  simp only [Bool.or_eq_true, decide_eq_true_eq] at hr
  rcases hr with q | q | q
  · by_cases hi : r < 32
    · exact hm r hi q
    · rw [tb_big (by omega)] at q; cases q
  · rw [q]; exact hb.1
  · rw [q]; exact hb.2
/-- a list that goes on through e from s, by the set of s -/
theorem d_from (hI : m_I nR nD nK nG M) {ds0 : List Nat} (h0 : p_RF (k_cA M nD nK r0 g) (k_esc M nD r0) (k_out M nD r0) ds0) (hs : d_n M nD ds0 = s) {ds' : List Nat} (h : p_RF (k_cA M nD nK r0 g) (k_esc M nD r0) (k_out M nD r0) (e :: ds')) (hs' : d_n M nD ds' = s) : k_cA M nD nK r0 g (p_mem ds0) e = true ∧ k_out M nD r0 (p_mem ds0) e = true ∧ k_esc M nD r0 (p_mem ds0) = false := by
  have : p_mem ds' = p_mem ds0 := by rw [← d_C hI h.1.feas, ← d_C hI h0.feas, hs, hs']
  rw [← this]
  exact ⟨h.2.2.1, h.2.2.2, h.2.1⟩
end GO

