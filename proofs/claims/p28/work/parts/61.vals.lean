/-! what the class tells, by places -/
def y_w (M : m_S) (d : Nat) : Nat := (M.2 5 d).toNatClampNeg
section YV
variable {nR nD nK nG d k g r : Nat} {M : m_S}
theorem y_nor (hI : m_I nR nD nK nG M) (h : r < nR) : m_no (nI r) (M.1 0) = false := by rw [hI.1.1.1]; exact (m_no_iff (by have := hI.1.1.2; omega)).mpr ⟨r, h, rfl⟩
theorem y_nod (hI : m_I nR nD nK nG M) (h : d < nD) : m_no (nI d) (M.1 2) = false := by rw [hI.1.2.1.1]; exact (m_no_iff (by have := hI.1.2.1.2; omega)).mpr ⟨d, h, rfl⟩
theorem y_nok (hI : m_I nR nD nK nG M) (h : k < nK) : m_no (nI k) (M.1 9) = false := by rw [hI.1.2.2.1.1]; exact (m_no_iff (by have := hI.1.2.2.1.2; omega)).mpr ⟨k, h, rfl⟩
theorem y_nog (hI : m_I nR nD nK nG M) (h : g < nG) : m_no (nI g) (M.1 14) = false := by rw [hI.1.2.2.2.1]; exact (m_no_iff (by have := hI.1.2.2.2.2; omega)).mpr ⟨g, h, rfl⟩
theorem y_nor' (hI : m_I nR nD nK nG M) (h : nR ≤ r) (h2 : r < 2 ^ 31) : m_no (nI r) (M.1 0) = true := by
  have h12 := hI.1.1.2
  cases q : m_no (nI r) (M.1 0) with
  | true => rfl
  | false =>
    rw [hI.1.1.1] at q
    obtain ⟨j, hj, e⟩ := (m_no_iff (by omega)).mp q
    have := (nI_inj h2 (by omega)).mp e
    omega
theorem y_nog' (hI : m_I nR nD nK nG M) (h : nG ≤ r) (h2 : r < 2 ^ 31) : m_no (nI r) (M.1 14) = true := by
  have h12 := hI.1.2.2.2.2
  cases q : m_no (nI r) (M.1 14) with
  | true => rfl
  | false =>
    rw [hI.1.2.2.2.1] at q
    obtain ⟨j, hj, e⟩ := (m_no_iff (by omega)).mp q
    have := (nI_inj h2 (by omega)).mp e
    omega
theorem y_nod' (hI : m_I nR nD nK nG M) (h : nD ≤ r) (h2 : r < 2 ^ 31) : m_no (nI r) (M.1 2) = true := by
  have h12 := hI.1.2.1.2
  cases q : m_no (nI r) (M.1 2) with
  | true => rfl
  | false =>
    rw [hI.1.2.1.1] at q
    obtain ⟨j, hj, e⟩ := (m_no_iff (by omega)).mp q
    have := (nI_inj h2 (by omega)).mp e
    omega
theorem y_nok' (hI : m_I nR nD nK nG M) (h : nK ≤ r) (h2 : r < 2 ^ 31) : m_no (nI r) (M.1 9) = true := by
  have h12 := hI.1.2.2.1.2
  cases q : m_no (nI r) (M.1 9) with
  | true => rfl
  | false =>
    rw [hI.1.2.2.1.1] at q
    obtain ⟨j, hj, e⟩ := (m_no_iff (by omega)).mp q
    have := (nI_inj h2 (by omega)).mp e
    omega
theorem y_cd (hI : m_I nR nD nK nG M) (h : d < nD) : (nI d).toNatClampNeg = d := nI_clamp (by have := hI.1.2.1.2; omega)
theorem y_ck (hI : m_I nR nD nK nG M) (h : k < nK) : (nI k).toNatClampNeg = k := nI_clamp (by have := hI.1.2.2.1.2; omega)
theorem y_cg (hI : m_I nR nD nK nG M) (h : g < nG) : (nI g).toNatClampNeg = g := nI_clamp (by have := hI.1.2.2.2.2; omega)
theorem y_cr (hI : m_I nR nD nK nG M) (h : r < nR) : (nI r).toNatClampNeg = r := nI_clamp (by have := hI.1.1.2; omega)
theorem y_lo (hI : m_I nR nD nK nG M) (h : d < nD) : M.2 3 d = nI (m_lo M d) := by
  obtain ⟨lo, hi, h1, h2, e1, e2⟩ := hI.lohi h
  have := hI.1.1.2
  unfold m_lo
  rw [e1, nI_clamp (by omega)]
theorem y_hi (hI : m_I nR nD nK nG M) (h : d < nD) : M.2 4 d = nI (m_hi M d) := by
  obtain ⟨lo, hi, h1, h2, e1, e2⟩ := hI.lohi h
  have := hI.1.1.2
  unfold m_hi
  rw [e2, nI_clamp (by omega)]
theorem y_lohi (hI : m_I nR nD nK nG M) (h : d < nD) : m_lo M d < m_hi M d ∧ m_hi M d < nR := by
  obtain ⟨lo, hi, h1, h2, e1, e2⟩ := hI.lohi h
  have := hI.1.1.2
  unfold m_lo m_hi
  rw [e1, e2, nI_clamp (by omega), nI_clamp (by omega)]
  exact ⟨h1, h2⟩
theorem y_wt (hI : m_I nR nD nK nG M) (h : d < nD) : M.2 5 d = nI (y_w M d) ∧ 1 ≤ y_w M d ∧ y_w M d ≤ 30 := by
  obtain ⟨w, h1, h2, e⟩ := hI.wt h
  unfold y_w
  rw [e, nI_clamp (by omega)]
  exact ⟨rfl, h1, h2⟩
theorem y_ut (hI : m_I nR nD nK nG M) (h : d < nD) : M.2 7 d = nI (k_u M d) ∧ k_u M d ≤ 60 := by
  obtain ⟨w, h2, e⟩ := hI.ut h
  unfold k_u
  rw [e, nI_clamp (by omega)]
  exact ⟨rfl, h2⟩
/-- groups' rooms and times -/
def y_rm (M : m_S) (g : Nat) : Nat := (M.2 16 g).toNatClampNeg
def y_tm (M : m_S) (g : Nat) : Nat := (M.2 17 g).toNatClampNeg
theorem y_rmE (hI : m_I nR nD nK nG M) (h : g < nG) : M.2 16 g = nI (y_rm M g) ∧ y_rm M g < nR := by
  obtain ⟨w, h2, e⟩ := hI.room h
  have := hI.1.1.2
  unfold y_rm
  rw [e, nI_clamp (by omega)]
  exact ⟨rfl, h2⟩
theorem y_tmE (hI : m_I nR nD nK nG M) (h : g < nG) : M.2 17 g = nI (y_tm M g) ∧ y_tm M g ≤ 100000 := by
  obtain ⟨w, h2, e⟩ := hI.time h
  unfold y_tm
  rw [e, nI_clamp (by omega)]
  exact ⟨rfl, h2⟩
theorem y_d0 (hI : m_I nR nD nK nG M) (h : d < nD) : F_door M (nI d) 0 = nI (m_lo M d) := by simp [F_door, y_nod hI h, y_cd hI h, y_lo hI h]
theorem y_d1 (hI : m_I nR nD nK nG M) (h : d < nD) : F_door M (nI d) 1 = nI (m_hi M d) := by simp [F_door, y_nod hI h, y_cd hI h, y_hi hI h]
theorem y_d2 (hI : m_I nR nD nK nG M) (h : d < nD) : F_door M (nI d) 2 = M.2 5 d := by simp [F_door, y_nod hI h, y_cd hI h]
theorem y_d3 (hI : m_I nR nD nK nG M) (h : d < nD) : F_door M (nI d) 3 = M.2 6 d := by simp [F_door, y_nod hI h, y_cd hI h]
theorem y_d4 (hI : m_I nR nD nK nG M) (h : d < nD) : F_door M (nI d) 4 = M.2 7 d := by simp [F_door, y_nod hI h, y_cd hI h]
theorem y_d5 (hI : m_I nR nD nK nG M) (h : d < nD) : F_door M (nI d) 5 = M.2 8 d := by simp [F_door, y_nod hI h, y_cd hI h]
theorem y_d6 (hI : m_I nR nD nK nG M) (h : d < nD) : F_door M (nI d) 6 = -2 := by simp [F_door, y_nod hI h]
theorem y_k0 (hI : m_I nR nD nK nG M) (h : k < nK) : F_key M (nI k) 0 = M.2 10 k := by simp [F_key, y_nok hI h, y_ck hI h]
theorem y_k1 (hI : m_I nR nD nK nG M) (h : k < nK) : F_key M (nI k) 1 = M.2 11 k := by simp [F_key, y_nok hI h, y_ck hI h]
theorem y_k2 (hI : m_I nR nD nK nG M) (h : k < nK) : F_key M (nI k) 2 = if M.2 11 k = 0 then M.2 12 k else -6 := by simp [F_key, y_nok hI h, y_ck hI h]
theorem y_k3 (hI : m_I nR nD nK nG M) (h : k < nK) : F_key M (nI k) 3 = if M.2 11 k = 1 then M.2 12 k else -6 := by simp [F_key, y_nok hI h, y_ck hI h]
theorem y_k4 (hI : m_I nR nD nK nG M) (h : k < nK) : F_key M (nI k) 4 = if M.2 11 k = 2 then M.2 12 k else -6 := by simp [F_key, y_nok hI h, y_ck hI h]
theorem y_k5 (hI : m_I nR nD nK nG M) (h : k < nK) : F_key M (nI k) 5 = -2 := by simp [F_key, y_nok hI h]
theorem y_g0 (hI : m_I nR nD nK nG M) (h : g < nG) : F_group M nK (nI g) 0 = M.2 15 g := by simp [F_group, y_nog hI h, y_cg hI h]
theorem y_g1 (hI : m_I nR nD nK nG M) (h : g < nG) : F_group M nK (nI g) 1 = M.2 16 g := by simp [F_group, y_nog hI h, y_cg hI h]
theorem y_g2 (hI : m_I nR nD nK nG M) (h : g < nG) : F_group M nK (nI g) 2 = M.2 17 g := by simp [F_group, y_nog hI h, y_cg hI h]
theorem y_g3 (hI : m_I nR nD nK nG M) (h : g < nG) : F_group M nK (nI g) 3 = m_held M nK (nI g) := by simp [F_group, y_nog hI h]
theorem y_g4 (hI : m_I nR nD nK nG M) (h : g < nG) : F_group M nK (nI g) 4 = M.2 18 g := by simp [F_group, y_nog hI h, y_cg hI h]
theorem y_g5 (hI : m_I nR nD nK nG M) (h : g < nG) : F_group M nK (nI g) 5 = M.2 19 g := by simp [F_group, y_nog hI h, y_cg hI h]
theorem y_g6 (hI : m_I nR nD nK nG M) (h : g < nG) : F_group M nK (nI g) 6 = -2 := by simp [F_group, y_nog hI h]
theorem y_c0 (hI : m_I nR nD nK nG M) : F_count M nD nK nG 0 = nI nR := by simp [F_count, hI.1.1.1]
theorem y_c1 (hI : m_I nR nD nK nG M) : F_count M nD nK nG 1 = nI nD := by simp [F_count, hI.1.2.1.1]
theorem y_c2 (hI : m_I nR nD nK nG M) : F_count M nD nK nG 2 = nI nK := by simp [F_count, hI.1.2.2.1.1]
theorem y_c3 (hI : m_I nR nD nK nG M) : F_count M nD nK nG 3 = nI nG := by simp [F_count, hI.1.2.2.2.1]
theorem y_c4 (hI : m_I nR nD nK nG M) : F_count M nD nK nG 4 = M.1 1 := by simp [F_count]
theorem y_c5 (hI : m_I nR nD nK nG M) : F_count M nD nK nG 5 = m_unl M nD := by simp [F_count]
theorem y_c6 (hI : m_I nR nD nK nG M) : F_count M nD nK nG 6 = m_sizes M nG 1 := by simp [F_count]
theorem y_c7 (hI : m_I nR nD nK nG M) : F_count M nD nK nG 7 = m_sizes M nG 0 := by simp [F_count]
theorem y_c8 (hI : m_I nR nD nK nG M) : F_count M nD nK nG 8 = m_late M nG := by simp [F_count]
theorem y_c9 (hI : m_I nR nD nK nG M) : F_count M nD nK nG 9 = m_hints M nG := by simp [F_count]
theorem y_c10 (hI : m_I nR nD nK nG M) : F_count M nD nK nG 10 = F_dead M nD nK nG := by simp [F_count]
theorem y_c11 (hI : m_I nR nD nK nG M) : F_count M nD nK nG 11 = -2 := by simp [F_count]
end YV
/-! what can be reached, as the law counts it -/
theorem g_miss_ge {x : Int32} {n : Nat} (h : ∀ i, tb x i = true → i < n) : ∀ m, m ≤ g_miss x m + n
  | 0 => Nat.zero_le _
  | m + 1 => by
    have ih := g_miss_ge h m
    unfold g_miss
    by_cases c : tb x m = true
    · have := h m c
      rw [if_pos c]; omega
    · rw [if_neg c]; omega
section YR
variable {nD nR : Nat} {lo hi : Nat → Nat} {op : Nat → Bool} {S : Nat → Prop} {x y : Int32} {i j : Nat} {mi : Bool}
/-- after j rounds of the law -/
def y_RO (nD : Nat) (lo hi : Nat → Nat) (op : Nat → Bool) (S : Nat → Prop) (x : Int32) (j : Nat) : Prop := r_S nD lo hi op S x ∧ ((∀ d, d < nD → op d = true → tb x (lo d) = tb x (hi d)) ∨ g_miss x 12 + j ≤ 11)
def y_RI (nD : Nat) (lo hi : Nat → Nat) (op : Nat → Bool) (S : Nat → Prop) (x : Int32) (i : Nat) (y : Int32) : Prop := ∃ mi, r_I nD lo hi op S x i y mi
theorem y_RO.zero {r0 : Nat} (h : r0 < 12) : y_RO nD lo hi op (fun q => q = r0) (x_bit (nI r0)) 0 :=
  ⟨r_start (by omega), Or.inr (by have := g_miss_one (x := x_bit (nI r0)) (k := r0) (by rw [tb_bit (by omega)]; simp) 12 h; omega)⟩
theorem y_RI.zero (h : y_RO nD lo hi op S x j) : y_RI nD lo hi op S x 0 x := ⟨false, h.1, fun _ q => q, fun _ => ⟨rfl, fun d hd => absurd hd (by omega)⟩, fun q => by cases q⟩
def y_both (lo hi : Nat → Nat) (i : Nat) : Int32 := x_bit (nI (lo i)) ||| x_bit (nI (hi i))
def y_add (lo hi : Nat → Nat) (op : Nat → Bool) (i : Nat) (y : Int32) : Int32 := if op i = true ∧ ¬ y &&& y_both lo hi i = 0 then y_both lo hi i else 0
theorem y_RI.next (h : y_RI nD lo hi op S x i y) (hd : i < nD) (hl : lo i < 12) (hh : hi i < 12) (hne : lo i ≠ hi i) : y_RI nD lo hi op S x (i + 1) (y ||| y_add lo hi op i y) := by
  obtain ⟨mi, h⟩ := h
  have or0 : y ||| 0 = y := tb_ext fun q _ => by rw [tb_or, tb_0, Bool.or_false]
  cases ho : op i with
  | false =>
    have e : y_add lo hi op i y = 0 := by unfold y_add; rw [if_neg (by rw [ho]; simp)]
    rw [e, or0]
    exact ⟨mi, h.skip ho⟩
  | true =>
    by_cases hs : tb y (lo i) = tb y (hi i)
    · have e : y ||| y_add lo hi op i y = y := by
        unfold y_add
        by_cases c : y &&& y_both lo hi i = 0
        · rw [if_neg (fun q => q.2 c), or0]
        · rw [if_pos ⟨ho, c⟩]
          have hb : tb y (lo i) = true ∧ tb y (hi i) = true := by
            cases a : tb y (lo i) with
            | true => exact ⟨rfl, by rw [← hs, a]⟩
            | false =>
              have b : tb y (hi i) = false := by rw [← hs, a]
              refine absurd (tb_ext fun q _ => ?_) c
              unfold y_both
              rw [tb_and, tb_or, tb_bit (by omega), tb_bit (by omega), tb_0]
              by_cases q1 : q = lo i
              · subst q1; simp [a]
              · by_cases q2 : q = hi i
                · subst q2; simp [b]
                · simp [q1, q2]
          refine tb_ext fun q _ => ?_
          unfold y_both
          rw [tb_or, tb_or, tb_bit (by omega), tb_bit (by omega)]
          by_cases q1 : q = lo i
          · subst q1; simp [hb.1]
          · by_cases q2 : q = hi i
            · subst q2; simp [hb.2]
            · simp [q1, q2]
      rw [e]
      exact ⟨mi, h.same hs⟩
    · have e : y_add lo hi op i y = y_both lo hi i := by
        unfold y_add
        refine if_pos ⟨ho, fun c => ?_⟩
        have k1 : tb (y &&& y_both lo hi i) (lo i) = tb y (lo i) := by
          unfold y_both
          rw [tb_and, tb_or, tb_bit (by omega)]; simp
        have k2 : tb (y &&& y_both lo hi i) (hi i) = tb y (hi i) := by
          unfold y_both
          rw [tb_and, tb_or, tb_bit (j := hi i) (by omega)]; simp
        rw [c, tb_0] at k1 k2
        exact hs (k1.symm.trans k2)
      rw [e]
      exact ⟨true, h.cross hd hl hh ho hs⟩
theorem y_RI.out (h : y_RI nD lo hi op S x nD y) (hx : y_RO nD lo hi op S x j) : y_RO nD lo hi op S y (j + 1) := by
  obtain ⟨mi, h⟩ := h
  refine ⟨h.1, ?_⟩
  cases mi with
  | false => exact Or.inl (h.out.2 rfl)
  | true =>
    have h1 := h.2.2.2 rfl
    rcases hx.2 with q | q
    · have e : x = g_bits (g_R nD lo hi op S) 32 := g_R_done hx.1.1 q hx.1.2
      have h2 : g_miss x 12 ≤ g_miss y 12 := g_miss_mono (fun i hi => by
        by_cases c : i < 32
        · rw [e, g_bits_tb c]; exact h.1.2 i hi
        · rw [tb_big (by omega)] at hi; cases hi) 12
      omega
    · exact Or.inr (by omega)
theorem y_RO.done (h : y_RO nD lo hi op S x nR) (hS : ∀ r, S r → r < nR) (hl : ∀ d, d < nD → lo d < nR ∧ hi d < nR) : x = g_bits (g_R nD lo hi op S) 32 := by
  refine g_R_done h.1.1 ?_ h.1.2
  rcases h.2 with q | q
  · exact q
  · have h1 := g_miss_ge (x := x) (n := nR) (fun i hi => (h.1.2 i hi).lt hS hl) 12
    omega
end YR
