theorem x_inG {M : m_S} {nR nD nK nG : Nat} (hN : m_N M nR nD nK nG) {r : Int32} (h : m_no r (M.1 14) = false) : vp_in r nG := m_no_vp (n := nG) (by have := hN.2.2.2.2; omega) (hN.2.2.2.1 ▸ h)
theorem x_inD {M : m_S} {nR nD nK nG : Nat} (hN : m_N M nR nD nK nG) {r : Int32} (h : m_no r (M.1 2) = false) : vp_in r nD := m_no_vp (n := nD) (by have := hN.2.1.2; omega) (hN.2.1.1 ▸ h)
theorem x_inK {M : m_S} {nR nD nK nG : Nat} (hN : m_N M nR nD nK nG) {r : Int32} (h : m_no r (M.1 9) = false) : vp_in r nK := m_no_vp (n := nK) (by have := hN.2.2.1.2; omega) (hN.2.2.1.1 ▸ h)
theorem x_inR {M : m_S} {nR nD nK nG : Nat} (hN : m_N M nR nD nK nG) {r : Int32} (h : m_no r (M.1 0) = false) : vp_in r nR := m_no_vp (n := nR) (by have := hN.1.2; omega) (hN.1.1 ▸ h)
theorem m_I.rm {nR nD nK nG : Nat} {M : m_S} (h : m_I nR nD nK nG M) {g : Nat} (hg : g < nG) : (M.2 16 g).toNatClampNeg < nR := by
  obtain ⟨⟨r, h1, h2⟩, -⟩ := h.2.2.2.2.1 g hg
  have := h.1.1.2
  rw [h2, nI_clamp (by omega)]; exact h1
theorem m_I.lo {nR nD nK nG : Nat} {M : m_S} (h : m_I nR nD nK nG M) {d : Nat} (hd : d < nD) : (M.2 3 d).toNatClampNeg < nR := by
  obtain ⟨⟨lo, hi, h1, h2, h3, h4⟩, -⟩ := h.2.2.1 d hd
  have := h.1.1.2
  rw [h3, nI_clamp (by omega)]; omega
theorem m_I.hi {nR nD nK nG : Nat} {M : m_S} (h : m_I nR nD nK nG M) {d : Nat} (hd : d < nD) : (M.2 4 d).toNatClampNeg < nR := by
  obtain ⟨⟨lo, hi, h1, h2, h3, h4⟩, -⟩ := h.2.2.1 d hd
  have := h.1.1.2
  rw [h4, nI_clamp (by omega)]; omega
theorem x_ref0 {nR nD nK nG i j : Nat} {ad : Nat → Nat → Nat} (h : x_inj ad nR nD nK nG) (hi : i < nR) (hj : j < nR) : ad 0 i = ad 0 j ↔ i = j := ⟨fun e => (h 0 i 0 j (by unfold x_in; omega) (by unfold x_in; omega) e).2, fun e => by rw [e]⟩
theorem x_ref1 {nR nD nK nG i j : Nat} {ad : Nat → Nat → Nat} (h : x_inj ad nR nD nK nG) (hi : i < nD) (hj : j < nD) : ad 1 i = ad 1 j ↔ i = j := ⟨fun e => (h 1 i 1 j (by unfold x_in; omega) (by unfold x_in; omega) e).2, fun e => by rw [e]⟩
theorem x_ref3 {nR nD nK nG i j : Nat} {ad : Nat → Nat → Nat} (h : x_inj ad nR nD nK nG) (hi : i < nG) (hj : j < nG) : ad 3 i = ad 3 j ↔ i = j := ⟨fun e => (h 3 i 3 j (by unfold x_in; omega) (by unfold x_in; omega) e).2, fun e => by rw [e]⟩
theorem nI_inj {a b : Nat} (ha : a < 2 ^ 31) (hb : b < 2 ^ 31) : nI a = nI b ↔ a = b := nI_eq ha hb
/-- who holds a key: the holder's address against the reference's row -/
theorem x_kh_iff {nR nD nK nG k g : Nat} {M : m_S} {ad : Nat → Nat → Nat} (hI : m_I nR nD nK nG M) (h : x_inj ad nR nD nK nG) (hk : k < nK) (hg : g < nG) : x_kh ad M k = some (ad 3 g) ↔ m_ho M (nI g) (nI k) = true := by
  have h16 := hI.1.2.2.1.2
  have h6 := hI.1.2.2.2.2
  have ek : (nI k).toNatClampNeg = k := nI_clamp (by omega)
  unfold x_kh m_ho
  rw [ek]
  by_cases q : M.2 11 k = 1
  · rcases (hI.2.2.2.1 k hk).2.1 with ⟨z, -⟩ | ⟨z, x, hx, e⟩ | ⟨z, -⟩
    · rw [q] at z; exact absurd z (by decide)
    · rw [if_pos q, e, nI_clamp (by omega)]
      simp only [q, decide_true, Bool.true_and, decide_eq_true_eq]
      rw [nI_inj (by omega) (by omega)]
      exact ⟨fun w => (x_ref3 h hx hg).mp (Option.some.inj w), fun w => by rw [w]⟩
    · rw [q] at z; exact absurd z (by decide)
  · rw [if_neg q]
    simp [q]

set_option maxHeartbeats 4000000 in
set_option maxRecDepth 100000 in
theorem c_X5_isBetween (l : Launch) (G : z_G) (v lo hi : Int32) : z_MR l yX5_isBetween cX5_isBetween 3 (some .boolean) 0 [.int v, .int lo, .int hi] G (fun H => True) (.int (z_b (m_in v lo hi))) := by
  refine z_M.of (by decide +kernel) (Nat.le_of_ble_eq_true rfl) ?_
  intro p e s m below meth c C hP
  refine z_iload_n C dX5_isBetween_0 rfl ?_
  refine z_iload_n C dX5_isBetween_1 rfl ?_
  refine z_icmp_lt C 14 dX5_isBetween_2 (by decide) (fun h2 => ?_) (fun h2 => ?_)
  · refine z_iconst (v := 0) C dX5_isBetween_14 (by decide) ?_
    exact z_bret C (by omega) (by omega) dX5_isBetween_15 (by rfl) (by exact ⟨congrArg (fun z => some (Value.int z)) (by simp [z_b, m_in, *]), rfl⟩)
  · refine z_iload_n C dX5_isBetween_5 rfl ?_
    refine z_iload_n C dX5_isBetween_6 rfl ?_
    refine z_icmp_gt C 14 dX5_isBetween_7 (by decide) (fun h7 => ?_) (fun h7 => ?_)
    · refine z_iconst (v := 0) C dX5_isBetween_14 (by decide) ?_
      exact z_bret C (by omega) (by omega) dX5_isBetween_15 (by rfl) (by exact ⟨congrArg (fun z => some (Value.int z)) (by simp [z_b, m_in, *]), rfl⟩)
    · refine z_iconst (v := 1) C dX5_isBetween_10 (by decide) ?_
      refine z_goto C 15 dX5_isBetween_11 (by decide) ?_
      exact z_bret C (by omega) (by omega) dX5_isBetween_15 (by rfl) (by exact ⟨congrArg (fun z => some (Value.int z)) (by simp [z_b, m_in, *]), rfl⟩)

set_option maxHeartbeats 4000000 in
set_option maxRecDepth 100000 in
theorem c_X5_isColor (l : Launch) (G : z_G) (v : Int32) : z_MR l yX5_isColor cX5_isColor 1 (some .boolean) 1 [.int v] G (fun H => True) (.int (z_b (m_in v 0 5))) := by
  refine z_M.of (by decide +kernel) (Nat.le_of_ble_eq_true rfl) ?_
  intro p e s m below meth c C hP
  refine z_iload_n C dX5_isColor_0 rfl ?_
  refine z_iconst (v := 0) C dX5_isColor_1 (by decide) ?_
  refine z_iconst (v := 5) C dX5_isColor_2 (by decide) ?_
  refine z_callSR (As := [.int _, .int _, .int _]) C (c_X5_isBetween _ _ _ _ _) kc_X5_isBetween wb_240 ⟨by decide, by decide⟩ (trivial) ⟨Nat.zero_le _, Nat.zero_le _⟩ (Nat.le_of_ble_eq_true rfl) dX5_isColor_3 ?_
  exact z_bret C (by omega) (by omega) dX5_isColor_6 (by exact z_b_bool _) (by exact ⟨rfl, rfl⟩)

set_option maxHeartbeats 4000000 in
set_option maxRecDepth 100000 in
theorem c_X5_isRoom (l : Launch) (G : z_G) (ad : Nat → Nat → Nat) (M : m_S) (T : x_T) {nR nD nK nG : Nat} (hI : m_I nR nD nK nG M) (r : Int32) : z_MR l yX5_isRoom cX5_isRoom 2 (some .boolean) 1 [.ref (ad 4 0), .int r] G (fun H => x_R G ad nR nD nK nG M T H) (.int (z_b (!(m_no r (M.1 0))))) := by
  refine z_M.of (by decide +kernel) (Nat.le_of_ble_eq_true rfl) ?_
  intro p e s m below meth c C hP
  have hX : x_R G ad nR nD nK nG M T s.heap := hP
  have hN := hI.1
  have hR12 := hN.1.2; have hD16 := hN.2.1.2; have hK16 := hN.2.2.1.2; have hG6 := hN.2.2.2.2
  refine z_iload_n C dX5_isRoom_0 rfl ?_
  refine z_if_lt C 19 dX5_isRoom_1 (by decide) (fun h1 => ?_) (fun h1 => ?_)
  · refine z_iconst (v := 0) C dX5_isRoom_19 (by decide) ?_
    exact z_bret C (by omega) (by omega) dX5_isRoom_20 (by rfl) (by rw [hN.1.1, m_no_eq (by omega)]; exact ⟨congrArg (fun z => some (Value.int z)) (by simp [z_b, *]), rfl⟩)
  · refine z_iload_n C dX5_isRoom_4 rfl ?_
    refine z_aload_n C dX5_isRoom_5 rfl ?_
    refine z_get C (by first | exact hX.1.1 | exact hX.1.2.1 | exact hX.1.2.2.1 | exact hX.1.2.2.2 | exact hX.2.1.1 _ (by first | assumption | exact vp_in_clamp (x_inG hN (by assumption)) | exact vp_in_clamp (x_inD hN (by assumption)) | exact vp_in_clamp (x_inK hN (by assumption)) | exact vp_in_clamp (x_inR hN (by assumption)) | exact hI.rm (by first | assumption | exact vp_in_clamp (x_inG hN (by assumption))) | exact hI.lo (by first | assumption | exact vp_in_clamp (x_inD hN (by assumption))) | exact hI.hi (by first | assumption | exact vp_in_clamp (x_inD hN (by assumption)))) | exact hX.2.1.2.1 _ (by first | assumption | exact vp_in_clamp (x_inD hN (by assumption))) | exact hX.2.1.2.2.1 _ (by first | assumption | exact vp_in_clamp (x_inK hN (by assumption))) | exact hX.2.1.2.2.2 _ (by first | assumption | exact vp_in_clamp (x_inG hN (by assumption)))) z_cls6 hu_X5 0 (by decide) wb_94 rfl rfl dX5_isRoom_6 ?_
    refine k_size C (by first | exact hX.2.2.1.1 | exact hX.2.2.1.2.1 | exact hX.2.2.1.2.2.1 | exact hX.2.2.1.2.2.2) wb_129 ⟨by decide, by decide⟩ ⟨Nat.zero_le _, Nat.zero_le _⟩ (Nat.le_of_ble_eq_true rfl) dX5_isRoom_9 ?_
    refine z_icmp_ge C 19 dX5_isRoom_12 (by decide) (fun h12 => ?_) (fun h12 => ?_)
    · refine z_iconst (v := 0) C dX5_isRoom_19 (by decide) ?_
      exact z_bret C (by omega) (by omega) dX5_isRoom_20 (by rfl) (by rw [hN.1.1, m_no_eq (by omega)]; exact ⟨congrArg (fun z => some (Value.int z)) (by simp [z_b, *]), rfl⟩)
    · refine z_iconst (v := 1) C dX5_isRoom_15 (by decide) ?_
      refine z_goto C 20 dX5_isRoom_16 (by decide) ?_
      exact z_bret C (by omega) (by omega) dX5_isRoom_20 (by rfl) (by rw [hN.1.1, m_no_eq (by omega)]; exact ⟨congrArg (fun z => some (Value.int z)) (by simp [z_b, *]), rfl⟩)

set_option maxHeartbeats 4000000 in
set_option maxRecDepth 100000 in
theorem c_X5_isDoor (l : Launch) (G : z_G) (ad : Nat → Nat → Nat) (M : m_S) (T : x_T) {nR nD nK nG : Nat} (hI : m_I nR nD nK nG M) (r : Int32) : z_MR l yX5_isDoor cX5_isDoor 2 (some .boolean) 1 [.ref (ad 4 0), .int r] G (fun H => x_R G ad nR nD nK nG M T H) (.int (z_b (!(m_no r (M.1 2))))) := by
  refine z_M.of (by decide +kernel) (Nat.le_of_ble_eq_true rfl) ?_
  intro p e s m below meth c C hP
  have hX : x_R G ad nR nD nK nG M T s.heap := hP
  have hN := hI.1
  have hR12 := hN.1.2; have hD16 := hN.2.1.2; have hK16 := hN.2.2.1.2; have hG6 := hN.2.2.2.2
  refine z_iload_n C dX5_isDoor_0 rfl ?_
  refine z_if_lt C 19 dX5_isDoor_1 (by decide) (fun h1 => ?_) (fun h1 => ?_)
  · refine z_iconst (v := 0) C dX5_isDoor_19 (by decide) ?_
    exact z_bret C (by omega) (by omega) dX5_isDoor_20 (by rfl) (by rw [hN.2.1.1, m_no_eq (by omega)]; exact ⟨congrArg (fun z => some (Value.int z)) (by simp [z_b, *]), rfl⟩)
  · refine z_iload_n C dX5_isDoor_4 rfl ?_
    refine z_aload_n C dX5_isDoor_5 rfl ?_
    refine z_get C (by first | exact hX.1.1 | exact hX.1.2.1 | exact hX.1.2.2.1 | exact hX.1.2.2.2 | exact hX.2.1.1 _ (by first | assumption | exact vp_in_clamp (x_inG hN (by assumption)) | exact vp_in_clamp (x_inD hN (by assumption)) | exact vp_in_clamp (x_inK hN (by assumption)) | exact vp_in_clamp (x_inR hN (by assumption)) | exact hI.rm (by first | assumption | exact vp_in_clamp (x_inG hN (by assumption))) | exact hI.lo (by first | assumption | exact vp_in_clamp (x_inD hN (by assumption))) | exact hI.hi (by first | assumption | exact vp_in_clamp (x_inD hN (by assumption)))) | exact hX.2.1.2.1 _ (by first | assumption | exact vp_in_clamp (x_inD hN (by assumption))) | exact hX.2.1.2.2.1 _ (by first | assumption | exact vp_in_clamp (x_inK hN (by assumption))) | exact hX.2.1.2.2.2 _ (by first | assumption | exact vp_in_clamp (x_inG hN (by assumption)))) z_cls6 hu_X5 1 (by decide) wb_95 rfl rfl dX5_isDoor_6 ?_
    refine k_size C (by first | exact hX.2.2.1.1 | exact hX.2.2.1.2.1 | exact hX.2.2.1.2.2.1 | exact hX.2.2.1.2.2.2) wb_129 ⟨by decide, by decide⟩ ⟨Nat.zero_le _, Nat.zero_le _⟩ (Nat.le_of_ble_eq_true rfl) dX5_isDoor_9 ?_
    refine z_icmp_ge C 19 dX5_isDoor_12 (by decide) (fun h12 => ?_) (fun h12 => ?_)
    · refine z_iconst (v := 0) C dX5_isDoor_19 (by decide) ?_
      exact z_bret C (by omega) (by omega) dX5_isDoor_20 (by rfl) (by rw [hN.2.1.1, m_no_eq (by omega)]; exact ⟨congrArg (fun z => some (Value.int z)) (by simp [z_b, *]), rfl⟩)
    · refine z_iconst (v := 1) C dX5_isDoor_15 (by decide) ?_
      refine z_goto C 20 dX5_isDoor_16 (by decide) ?_
      exact z_bret C (by omega) (by omega) dX5_isDoor_20 (by rfl) (by rw [hN.2.1.1, m_no_eq (by omega)]; exact ⟨congrArg (fun z => some (Value.int z)) (by simp [z_b, *]), rfl⟩)

set_option maxHeartbeats 4000000 in
set_option maxRecDepth 100000 in
theorem c_X5_isKey (l : Launch) (G : z_G) (ad : Nat → Nat → Nat) (M : m_S) (T : x_T) {nR nD nK nG : Nat} (hI : m_I nR nD nK nG M) (r : Int32) : z_MR l yX5_isKey cX5_isKey 2 (some .boolean) 1 [.ref (ad 4 0), .int r] G (fun H => x_R G ad nR nD nK nG M T H) (.int (z_b (!(m_no r (M.1 9))))) := by
  refine z_M.of (by decide +kernel) (Nat.le_of_ble_eq_true rfl) ?_
  intro p e s m below meth c C hP
  have hX : x_R G ad nR nD nK nG M T s.heap := hP
  have hN := hI.1
  have hR12 := hN.1.2; have hD16 := hN.2.1.2; have hK16 := hN.2.2.1.2; have hG6 := hN.2.2.2.2
  refine z_iload_n C dX5_isKey_0 rfl ?_
  refine z_if_lt C 19 dX5_isKey_1 (by decide) (fun h1 => ?_) (fun h1 => ?_)
  · refine z_iconst (v := 0) C dX5_isKey_19 (by decide) ?_
    exact z_bret C (by omega) (by omega) dX5_isKey_20 (by rfl) (by rw [hN.2.2.1.1, m_no_eq (by omega)]; exact ⟨congrArg (fun z => some (Value.int z)) (by simp [z_b, *]), rfl⟩)
  · refine z_iload_n C dX5_isKey_4 rfl ?_
    refine z_aload_n C dX5_isKey_5 rfl ?_
    refine z_get C (by first | exact hX.1.1 | exact hX.1.2.1 | exact hX.1.2.2.1 | exact hX.1.2.2.2 | exact hX.2.1.1 _ (by first | assumption | exact vp_in_clamp (x_inG hN (by assumption)) | exact vp_in_clamp (x_inD hN (by assumption)) | exact vp_in_clamp (x_inK hN (by assumption)) | exact vp_in_clamp (x_inR hN (by assumption)) | exact hI.rm (by first | assumption | exact vp_in_clamp (x_inG hN (by assumption))) | exact hI.lo (by first | assumption | exact vp_in_clamp (x_inD hN (by assumption))) | exact hI.hi (by first | assumption | exact vp_in_clamp (x_inD hN (by assumption)))) | exact hX.2.1.2.1 _ (by first | assumption | exact vp_in_clamp (x_inD hN (by assumption))) | exact hX.2.1.2.2.1 _ (by first | assumption | exact vp_in_clamp (x_inK hN (by assumption))) | exact hX.2.1.2.2.2 _ (by first | assumption | exact vp_in_clamp (x_inG hN (by assumption)))) z_cls6 hu_X5 2 (by decide) wb_96 rfl rfl dX5_isKey_6 ?_
    refine k_size C (by first | exact hX.2.2.1.1 | exact hX.2.2.1.2.1 | exact hX.2.2.1.2.2.1 | exact hX.2.2.1.2.2.2) wb_129 ⟨by decide, by decide⟩ ⟨Nat.zero_le _, Nat.zero_le _⟩ (Nat.le_of_ble_eq_true rfl) dX5_isKey_9 ?_
    refine z_icmp_ge C 19 dX5_isKey_12 (by decide) (fun h12 => ?_) (fun h12 => ?_)
    · refine z_iconst (v := 0) C dX5_isKey_19 (by decide) ?_
      exact z_bret C (by omega) (by omega) dX5_isKey_20 (by rfl) (by rw [hN.2.2.1.1, m_no_eq (by omega)]; exact ⟨congrArg (fun z => some (Value.int z)) (by simp [z_b, *]), rfl⟩)
    · refine z_iconst (v := 1) C dX5_isKey_15 (by decide) ?_
      refine z_goto C 20 dX5_isKey_16 (by decide) ?_
      exact z_bret C (by omega) (by omega) dX5_isKey_20 (by rfl) (by rw [hN.2.2.1.1, m_no_eq (by omega)]; exact ⟨congrArg (fun z => some (Value.int z)) (by simp [z_b, *]), rfl⟩)

set_option maxHeartbeats 4000000 in
set_option maxRecDepth 100000 in
theorem c_X5_isGroup (l : Launch) (G : z_G) (ad : Nat → Nat → Nat) (M : m_S) (T : x_T) {nR nD nK nG : Nat} (hI : m_I nR nD nK nG M) (r : Int32) : z_MR l yX5_isGroup cX5_isGroup 2 (some .boolean) 1 [.ref (ad 4 0), .int r] G (fun H => x_R G ad nR nD nK nG M T H) (.int (z_b (!(m_no r (M.1 14))))) := by
  refine z_M.of (by decide +kernel) (Nat.le_of_ble_eq_true rfl) ?_
  intro p e s m below meth c C hP
  have hX : x_R G ad nR nD nK nG M T s.heap := hP
  have hN := hI.1
  have hR12 := hN.1.2; have hD16 := hN.2.1.2; have hK16 := hN.2.2.1.2; have hG6 := hN.2.2.2.2
  refine z_iload_n C dX5_isGroup_0 rfl ?_
  refine z_if_lt C 19 dX5_isGroup_1 (by decide) (fun h1 => ?_) (fun h1 => ?_)
  · refine z_iconst (v := 0) C dX5_isGroup_19 (by decide) ?_
    exact z_bret C (by omega) (by omega) dX5_isGroup_20 (by rfl) (by rw [hN.2.2.2.1, m_no_eq (by omega)]; exact ⟨congrArg (fun z => some (Value.int z)) (by simp [z_b, *]), rfl⟩)
  · refine z_iload_n C dX5_isGroup_4 rfl ?_
    refine z_aload_n C dX5_isGroup_5 rfl ?_
    refine z_get C (by first | exact hX.1.1 | exact hX.1.2.1 | exact hX.1.2.2.1 | exact hX.1.2.2.2 | exact hX.2.1.1 _ (by first | assumption | exact vp_in_clamp (x_inG hN (by assumption)) | exact vp_in_clamp (x_inD hN (by assumption)) | exact vp_in_clamp (x_inK hN (by assumption)) | exact vp_in_clamp (x_inR hN (by assumption)) | exact hI.rm (by first | assumption | exact vp_in_clamp (x_inG hN (by assumption))) | exact hI.lo (by first | assumption | exact vp_in_clamp (x_inD hN (by assumption))) | exact hI.hi (by first | assumption | exact vp_in_clamp (x_inD hN (by assumption)))) | exact hX.2.1.2.1 _ (by first | assumption | exact vp_in_clamp (x_inD hN (by assumption))) | exact hX.2.1.2.2.1 _ (by first | assumption | exact vp_in_clamp (x_inK hN (by assumption))) | exact hX.2.1.2.2.2 _ (by first | assumption | exact vp_in_clamp (x_inG hN (by assumption)))) z_cls6 hu_X5 3 (by decide) wb_97 rfl rfl dX5_isGroup_6 ?_
    refine k_size C (by first | exact hX.2.2.1.1 | exact hX.2.2.1.2.1 | exact hX.2.2.1.2.2.1 | exact hX.2.2.1.2.2.2) wb_129 ⟨by decide, by decide⟩ ⟨Nat.zero_le _, Nat.zero_le _⟩ (Nat.le_of_ble_eq_true rfl) dX5_isGroup_9 ?_
    refine z_icmp_ge C 19 dX5_isGroup_12 (by decide) (fun h12 => ?_) (fun h12 => ?_)
    · refine z_iconst (v := 0) C dX5_isGroup_19 (by decide) ?_
      exact z_bret C (by omega) (by omega) dX5_isGroup_20 (by rfl) (by rw [hN.2.2.2.1, m_no_eq (by omega)]; exact ⟨congrArg (fun z => some (Value.int z)) (by simp [z_b, *]), rfl⟩)
    · refine z_iconst (v := 1) C dX5_isGroup_15 (by decide) ?_
      refine z_goto C 20 dX5_isGroup_16 (by decide) ?_
      exact z_bret C (by omega) (by omega) dX5_isGroup_20 (by rfl) (by rw [hN.2.2.2.1, m_no_eq (by omega)]; exact ⟨congrArg (fun z => some (Value.int z)) (by simp [z_b, *]), rfl⟩)

theorem x_ex_none {nR nD nK nG : Nat} {M : m_S} {ad : Nat → Nat → Nat} (hI : m_I nR nD nK nG M) (h : x_ex ad M = none) : M.1 1 = -6 := by
  rcases hI.2.1 with q | ⟨x, hx, e⟩
  · exact q
  · have := hI.1.1.2
    unfold x_ex at h
    rw [e, if_neg (nI_pos (by omega))] at h
    cases h
theorem x_ex_some {nR nD nK nG a : Nat} {M : m_S} {ad : Nat → Nat → Nat} (hI : m_I nR nD nK nG M) (h : x_ex ad M = some a) : ∃ q0, (q0 < nR ∧ a = ad 0 q0) ∧ M.1 1 = nI q0 := by
  rcases hI.2.1 with q | ⟨x, hx, e⟩
  · unfold x_ex at h
    rw [q, if_pos (by decide)] at h
    cases h
  · have := hI.1.1.2
    unfold x_ex at h
    rw [e, if_neg (nI_pos (by omega)), nI_clamp (by omega)] at h
    exact ⟨x, ⟨hx, (Option.some.inj h).symm⟩, e⟩
set_option maxHeartbeats 4000000 in
set_option maxRecDepth 100000 in
theorem c_X5_exitNumber (l : Launch) (G : z_G) (ad : Nat → Nat → Nat) (M : m_S) (T : x_T) {nR nD nK nG : Nat} (hI : m_I nR nD nK nG M)  : z_MR l yX5_exitNumber cX5_exitNumber 1 (some .int) 0 [.ref (ad 4 0)] G (fun H => x_R G ad nR nD nK nG M T H) (.int (M.1 1)) := by
  refine z_M.of (by decide +kernel) (Nat.le_of_ble_eq_true rfl) ?_
  intro p e s m below meth c C hP
  have hX : x_R G ad nR nD nK nG M T s.heap := hP
  have hN := hI.1
  have hR12 := hN.1.2; have hD16 := hN.2.1.2; have hK16 := hN.2.2.1.2; have hG6 := hN.2.2.2.2
  refine z_aload_n C dX5_exitNumber_0 rfl ?_
  refine z_get C (by first | exact hX.1.1 | exact hX.1.2.1 | exact hX.1.2.2.1 | exact hX.1.2.2.2 | exact hX.2.1.1 _ (by first | assumption | exact vp_in_clamp (x_inG hN (by assumption)) | exact vp_in_clamp (x_inD hN (by assumption)) | exact vp_in_clamp (x_inK hN (by assumption)) | exact vp_in_clamp (x_inR hN (by assumption)) | exact hI.rm (by first | assumption | exact vp_in_clamp (x_inG hN (by assumption))) | exact hI.lo (by first | assumption | exact vp_in_clamp (x_inD hN (by assumption))) | exact hI.hi (by first | assumption | exact vp_in_clamp (x_inD hN (by assumption)))) | exact hX.2.1.2.1 _ (by first | assumption | exact vp_in_clamp (x_inD hN (by assumption))) | exact hX.2.1.2.2.1 _ (by first | assumption | exact vp_in_clamp (x_inK hN (by assumption))) | exact hX.2.1.2.2.2 _ (by first | assumption | exact vp_in_clamp (x_inG hN (by assumption)))) z_cls6 hu_X5 5 (by decide) wb_99 rfl rfl dX5_exitNumber_1 ?_
  refine z_ifnonnull C 12 dX5_exitNumber_4 (by decide) (fun a4 h4 => ?_) (fun h4 => ?_)
  · obtain ⟨q0, ⟨q1, rfl⟩, q2⟩ := x_ex_some hI h4
    refine z_aload_n C dX5_exitNumber_12 rfl ?_
    refine z_get C (by first | exact hX.1.1 | exact hX.1.2.1 | exact hX.1.2.2.1 | exact hX.1.2.2.2 | exact hX.2.1.1 _ (by first | assumption | exact vp_in_clamp (x_inG hN (by assumption)) | exact vp_in_clamp (x_inD hN (by assumption)) | exact vp_in_clamp (x_inK hN (by assumption)) | exact vp_in_clamp (x_inR hN (by assumption)) | exact hI.rm (by first | assumption | exact vp_in_clamp (x_inG hN (by assumption))) | exact hI.lo (by first | assumption | exact vp_in_clamp (x_inD hN (by assumption))) | exact hI.hi (by first | assumption | exact vp_in_clamp (x_inD hN (by assumption)))) | exact hX.2.1.2.1 _ (by first | assumption | exact vp_in_clamp (x_inD hN (by assumption))) | exact hX.2.1.2.2.1 _ (by first | assumption | exact vp_in_clamp (x_inK hN (by assumption))) | exact hX.2.1.2.2.2 _ (by first | assumption | exact vp_in_clamp (x_inG hN (by assumption)))) z_cls6 hu_X5 5 (by decide) wb_99 rfl rfl dX5_exitNumber_13 ?_
    rw [h4]
    refine z_get C (by first | exact hX.1.1 | exact hX.1.2.1 | exact hX.1.2.2.1 | exact hX.1.2.2.2 | exact hX.2.1.1 _ (by first | assumption | exact vp_in_clamp (x_inG hN (by assumption)) | exact vp_in_clamp (x_inD hN (by assumption)) | exact vp_in_clamp (x_inK hN (by assumption)) | exact vp_in_clamp (x_inR hN (by assumption)) | exact hI.rm (by first | assumption | exact vp_in_clamp (x_inG hN (by assumption))) | exact hI.lo (by first | assumption | exact vp_in_clamp (x_inD hN (by assumption))) | exact hI.hi (by first | assumption | exact vp_in_clamp (x_inD hN (by assumption)))) | exact hX.2.1.2.1 _ (by first | assumption | exact vp_in_clamp (x_inD hN (by assumption))) | exact hX.2.1.2.2.1 _ (by first | assumption | exact vp_in_clamp (x_inK hN (by assumption))) | exact hX.2.1.2.2.2 _ (by first | assumption | exact vp_in_clamp (x_inG hN (by assumption)))) z_cls5 hu_X4 0 (by decide) wb_140 rfl rfl dX5_exitNumber_16 ?_
    exact z_iret C (by omega) (by omega) dX5_exitNumber_19 (by first | exact ⟨congrArg (fun z => some (Value.int z)) q3.symm, rfl⟩ | exact ⟨congrArg (fun z => some (Value.int z)) q2.symm, rfl⟩)
  · have q3 := x_ex_none hI h4
    refine z_bipush (v := (-6)) C dX5_exitNumber_7 (by decide) ?_
    refine z_goto C 19 dX5_exitNumber_9 (by decide) ?_
    exact z_iret C (by omega) (by omega) dX5_exitNumber_19 (by first | exact ⟨congrArg (fun z => some (Value.int z)) q3.symm, rfl⟩ | exact ⟨congrArg (fun z => some (Value.int z)) q2.symm, rfl⟩)

set_option maxHeartbeats 4000000 in
set_option maxRecDepth 100000 in
theorem c_X5_playersThat (l : Launch) (G : z_G) (ad : Nat → Nat → Nat) (M : m_S) (T : x_T) {nR nD nK nG : Nat} (hI : m_I nR nD nK nG M) (z : Int32) : z_MR l yX5_playersThat cX5_playersThat 5 (some .int) 3 [.ref (ad 4 0), .int z] G (fun H => x_R G ad nR nD nK nG M T H) (.int (m_sizes M nG z)) := by
  refine z_M.of (by decide +kernel) (Nat.le_of_ble_eq_true rfl) ?_
  intro p e s m below meth c C hP
  have hX : x_R G ad nR nD nK nG M T s.heap := hP
  have hN := hI.1
  have hR12 := hN.1.2; have hD16 := hN.2.1.2; have hK16 := hN.2.2.1.2; have hG6 := hN.2.2.2.2
  refine z_iconst (v := 0) C dX5_playersThat_0 (by decide) ?_
  refine z_istore_n C dX5_playersThat_1 (by decide) ?_
  refine z_iconst (v := 0) C dX5_playersThat_2 (by decide) ?_
  refine z_istore_n C dX5_playersThat_3 (by decide) ?_
  refine z_loopN (fun i => [(0, .ref (ad 4 0)), (1, .int z), (2, .int (m_sizes M i z)), (3, .int (nI i))]) nG ⟨rfl, rfl, rfl, rfl, trivial⟩ (fun i hi ihi => ?_)
  refine z_iload_n C dX5_playersThat_4 rfl ?_
  refine z_aload_n C dX5_playersThat_5 rfl ?_
  refine z_get C (by first | exact hX.1.1 | exact hX.1.2.1 | exact hX.1.2.2.1 | exact hX.1.2.2.2 | exact hX.2.1.1 _ (by first | assumption | exact vp_in_clamp (x_inG hN (by assumption)) | exact vp_in_clamp (x_inD hN (by assumption)) | exact vp_in_clamp (x_inK hN (by assumption)) | exact vp_in_clamp (x_inR hN (by assumption)) | exact hI.rm (by first | assumption | exact vp_in_clamp (x_inG hN (by assumption))) | exact hI.lo (by first | assumption | exact vp_in_clamp (x_inD hN (by assumption))) | exact hI.hi (by first | assumption | exact vp_in_clamp (x_inD hN (by assumption)))) | exact hX.2.1.2.1 _ (by first | assumption | exact vp_in_clamp (x_inD hN (by assumption))) | exact hX.2.1.2.2.1 _ (by first | assumption | exact vp_in_clamp (x_inK hN (by assumption))) | exact hX.2.1.2.2.2 _ (by first | assumption | exact vp_in_clamp (x_inG hN (by assumption)))) z_cls6 hu_X5 3 (by decide) wb_97 rfl rfl dX5_playersThat_6 ?_
  refine k_size C (by first | exact hX.2.2.1.1 | exact hX.2.2.1.2.1 | exact hX.2.2.1.2.2.1 | exact hX.2.2.1.2.2.2) wb_129 ⟨by decide, by decide⟩ ⟨Nat.zero_le _, Nat.zero_le _⟩ (Nat.le_of_ble_eq_true rfl) dX5_playersThat_9 ?_
  refine z_icmp_ge C 51 dX5_playersThat_12 (by decide) (fun h12 => ?_) (fun h12 => ?_)
  · obtain rfl := z_ge (rfl : nI nG = nI nG) (by omega) hi h12
    refine z_iload_n C dX5_playersThat_51 rfl ?_
    exact z_iret C (by omega) (by omega) dX5_playersThat_52 (by exact ⟨rfl, rfl⟩)
  · have hlti := z_lt (rfl : nI nG = nI nG) (by omega) hi h12
    have hini : vp_in (nI i) nG := vp_in_nI hlti (by omega)
    have hcli : (nI i).toNatClampNeg = i := nI_clamp (by omega)
    refine z_aload_n C dX5_playersThat_15 rfl ?_
    refine z_get C (by first | exact hX.1.1 | exact hX.1.2.1 | exact hX.1.2.2.1 | exact hX.1.2.2.2 | exact hX.2.1.1 _ (by first | assumption | exact vp_in_clamp (x_inG hN (by assumption)) | exact vp_in_clamp (x_inD hN (by assumption)) | exact vp_in_clamp (x_inK hN (by assumption)) | exact vp_in_clamp (x_inR hN (by assumption)) | exact hI.rm (by first | assumption | exact vp_in_clamp (x_inG hN (by assumption))) | exact hI.lo (by first | assumption | exact vp_in_clamp (x_inD hN (by assumption))) | exact hI.hi (by first | assumption | exact vp_in_clamp (x_inD hN (by assumption)))) | exact hX.2.1.2.1 _ (by first | assumption | exact vp_in_clamp (x_inD hN (by assumption))) | exact hX.2.1.2.2.1 _ (by first | assumption | exact vp_in_clamp (x_inK hN (by assumption))) | exact hX.2.1.2.2.2 _ (by first | assumption | exact vp_in_clamp (x_inG hN (by assumption)))) z_cls6 hu_X5 3 (by decide) wb_97 rfl rfl dX5_playersThat_16 ?_
    refine z_iload_n C dX5_playersThat_19 rfl ?_
    refine k_get C (by first | exact hX.2.2.1.1 | exact hX.2.2.1.2.1 | exact hX.2.2.1.2.2.1 | exact hX.2.2.1.2.2.2) (by first | assumption | exact x_inG hN (by assumption) | exact x_inD hN (by assumption) | exact x_inK hN (by assumption) | exact x_inR hN (by assumption)) (by omega) (by first | exact hcli | rfl) wb_222 ⟨by decide, by decide⟩ ⟨Nat.zero_le _, Nat.zero_le _⟩ (Nat.le_of_ble_eq_true rfl) dX5_playersThat_20 ?_
    refine z_cast (q := (RX1, TX1, 6)) C (by first | exact hX.1.1 | exact hX.1.2.1 | exact hX.1.2.2.1 | exact hX.1.2.2.2 | exact hX.2.1.1 _ (by first | assumption | exact vp_in_clamp (x_inG hN (by assumption)) | exact vp_in_clamp (x_inD hN (by assumption)) | exact vp_in_clamp (x_inK hN (by assumption)) | exact vp_in_clamp (x_inR hN (by assumption)) | exact hI.rm (by first | assumption | exact vp_in_clamp (x_inG hN (by assumption))) | exact hI.lo (by first | assumption | exact vp_in_clamp (x_inD hN (by assumption))) | exact hI.hi (by first | assumption | exact vp_in_clamp (x_inD hN (by assumption)))) | exact hX.2.1.2.1 _ (by first | assumption | exact vp_in_clamp (x_inD hN (by assumption))) | exact hX.2.1.2.2.1 _ (by first | assumption | exact vp_in_clamp (x_inK hN (by assumption))) | exact hX.2.1.2.2.2 _ (by first | assumption | exact vp_in_clamp (x_inG hN (by assumption)))) rfl wb_360 dX5_playersThat_23 ?_
    refine z_astore C dX5_playersThat_26 (by decide) ?_
    refine z_aload C dX5_playersThat_28 rfl ?_
    refine z_get C (by first | exact hX.1.1 | exact hX.1.2.1 | exact hX.1.2.2.1 | exact hX.1.2.2.2 | exact hX.2.1.1 _ (by first | assumption | exact vp_in_clamp (x_inG hN (by assumption)) | exact vp_in_clamp (x_inD hN (by assumption)) | exact vp_in_clamp (x_inK hN (by assumption)) | exact vp_in_clamp (x_inR hN (by assumption)) | exact hI.rm (by first | assumption | exact vp_in_clamp (x_inG hN (by assumption))) | exact hI.lo (by first | assumption | exact vp_in_clamp (x_inD hN (by assumption))) | exact hI.hi (by first | assumption | exact vp_in_clamp (x_inD hN (by assumption)))) | exact hX.2.1.2.1 _ (by first | assumption | exact vp_in_clamp (x_inD hN (by assumption))) | exact hX.2.1.2.2.1 _ (by first | assumption | exact vp_in_clamp (x_inK hN (by assumption))) | exact hX.2.1.2.2.2 _ (by first | assumption | exact vp_in_clamp (x_inG hN (by assumption)))) z_cls2 hu_X1 5 (by decide) wb_377 rfl rfl dX5_playersThat_30 ?_
    refine z_iload_n C dX5_playersThat_33 rfl ?_
    refine z_icmp_ne C 45 dX5_playersThat_34 (by decide) (fun h34 => ?_) (fun h34 => ?_)
    · refine z_iinc C dX5_playersThat_45 rfl rfl (by decide) ?_
      refine z_goto C 4 dX5_playersThat_48 (by decide) ?_
      exact ihi hlti _ ⟨rfl, rfl, z_lgI rfl (by simp [m_sizes, m_sum, *]), z_lgI rfl (z_inc i), trivial⟩
    · refine z_iload_n C dX5_playersThat_37 rfl ?_
      refine z_aload C dX5_playersThat_38 rfl ?_
      refine z_get C (by first | exact hX.1.1 | exact hX.1.2.1 | exact hX.1.2.2.1 | exact hX.1.2.2.2 | exact hX.2.1.1 _ (by first | assumption | exact vp_in_clamp (x_inG hN (by assumption)) | exact vp_in_clamp (x_inD hN (by assumption)) | exact vp_in_clamp (x_inK hN (by assumption)) | exact vp_in_clamp (x_inR hN (by assumption)) | exact hI.rm (by first | assumption | exact vp_in_clamp (x_inG hN (by assumption))) | exact hI.lo (by first | assumption | exact vp_in_clamp (x_inD hN (by assumption))) | exact hI.hi (by first | assumption | exact vp_in_clamp (x_inD hN (by assumption)))) | exact hX.2.1.2.1 _ (by first | assumption | exact vp_in_clamp (x_inD hN (by assumption))) | exact hX.2.1.2.2.1 _ (by first | assumption | exact vp_in_clamp (x_inK hN (by assumption))) | exact hX.2.1.2.2.2 _ (by first | assumption | exact vp_in_clamp (x_inG hN (by assumption)))) z_cls2 hu_X1 1 (by decide) wb_369 rfl rfl dX5_playersThat_40 ?_
      refine z_iadd C dX5_playersThat_43 ?_
      refine z_istore_n C dX5_playersThat_44 (by decide) ?_
      refine z_iinc C dX5_playersThat_45 rfl rfl (by decide) ?_
      refine z_goto C 4 dX5_playersThat_48 (by decide) ?_
      exact ihi hlti _ ⟨rfl, rfl, z_lgI rfl (by simp [m_sizes, m_sum, *]), z_lgI rfl (z_inc i), trivial⟩

set_option maxHeartbeats 4000000 in
set_option maxRecDepth 100000 in
theorem c_X5_latestEscape (l : Launch) (G : z_G) (ad : Nat → Nat → Nat) (M : m_S) (T : x_T) {nR nD nK nG : Nat} (hI : m_I nR nD nK nG M)  : z_MR l yX5_latestEscape cX5_latestEscape 4 (some .int) 3 [.ref (ad 4 0)] G (fun H => x_R G ad nR nD nK nG M T H) (.int (m_late M nG)) := by
  refine z_M.of (by decide +kernel) (Nat.le_of_ble_eq_true rfl) ?_
  intro p e s m below meth c C hP
  have hX : x_R G ad nR nD nK nG M T s.heap := hP
  have hN := hI.1
  have hR12 := hN.1.2; have hD16 := hN.2.1.2; have hK16 := hN.2.2.1.2; have hG6 := hN.2.2.2.2
  refine z_bipush (v := (-6)) C dX5_latestEscape_0 (by decide) ?_
  refine z_istore_n C dX5_latestEscape_2 (by decide) ?_
  refine z_iconst (v := 0) C dX5_latestEscape_3 (by decide) ?_
  refine z_istore_n C dX5_latestEscape_4 (by decide) ?_
  refine z_loopN (fun i => [(0, .ref (ad 4 0)), (1, .int (m_late M i)), (2, .int (nI i))]) nG ⟨rfl, rfl, rfl, trivial⟩ (fun i hi ihi => ?_)
  refine z_iload_n C dX5_latestEscape_5 rfl ?_
  refine z_aload_n C dX5_latestEscape_6 rfl ?_
  refine z_get C (by first | exact hX.1.1 | exact hX.1.2.1 | exact hX.1.2.2.1 | exact hX.1.2.2.2 | exact hX.2.1.1 _ (by first | assumption | exact vp_in_clamp (x_inG hN (by assumption)) | exact vp_in_clamp (x_inD hN (by assumption)) | exact vp_in_clamp (x_inK hN (by assumption)) | exact vp_in_clamp (x_inR hN (by assumption)) | exact hI.rm (by first | assumption | exact vp_in_clamp (x_inG hN (by assumption))) | exact hI.lo (by first | assumption | exact vp_in_clamp (x_inD hN (by assumption))) | exact hI.hi (by first | assumption | exact vp_in_clamp (x_inD hN (by assumption)))) | exact hX.2.1.2.1 _ (by first | assumption | exact vp_in_clamp (x_inD hN (by assumption))) | exact hX.2.1.2.2.1 _ (by first | assumption | exact vp_in_clamp (x_inK hN (by assumption))) | exact hX.2.1.2.2.2 _ (by first | assumption | exact vp_in_clamp (x_inG hN (by assumption)))) z_cls6 hu_X5 3 (by decide) wb_97 rfl rfl dX5_latestEscape_7 ?_
  refine k_size C (by first | exact hX.2.2.1.1 | exact hX.2.2.1.2.1 | exact hX.2.2.1.2.2.1 | exact hX.2.2.1.2.2.2) wb_129 ⟨by decide, by decide⟩ ⟨Nat.zero_le _, Nat.zero_le _⟩ (Nat.le_of_ble_eq_true rfl) dX5_latestEscape_10 ?_
  refine z_icmp_ge C 51 dX5_latestEscape_13 (by decide) (fun h13 => ?_) (fun h13 => ?_)
  · obtain rfl := z_ge (rfl : nI nG = nI nG) (by omega) hi h13
    refine z_iload_n C dX5_latestEscape_51 rfl ?_
    exact z_iret C (by omega) (by omega) dX5_latestEscape_52 (by exact ⟨rfl, rfl⟩)
  · have hlti := z_lt (rfl : nI nG = nI nG) (by omega) hi h13
    have hini : vp_in (nI i) nG := vp_in_nI hlti (by omega)
    have hcli : (nI i).toNatClampNeg = i := nI_clamp (by omega)
    refine z_aload_n C dX5_latestEscape_16 rfl ?_
    refine z_get C (by first | exact hX.1.1 | exact hX.1.2.1 | exact hX.1.2.2.1 | exact hX.1.2.2.2 | exact hX.2.1.1 _ (by first | assumption | exact vp_in_clamp (x_inG hN (by assumption)) | exact vp_in_clamp (x_inD hN (by assumption)) | exact vp_in_clamp (x_inK hN (by assumption)) | exact vp_in_clamp (x_inR hN (by assumption)) | exact hI.rm (by first | assumption | exact vp_in_clamp (x_inG hN (by assumption))) | exact hI.lo (by first | assumption | exact vp_in_clamp (x_inD hN (by assumption))) | exact hI.hi (by first | assumption | exact vp_in_clamp (x_inD hN (by assumption)))) | exact hX.2.1.2.1 _ (by first | assumption | exact vp_in_clamp (x_inD hN (by assumption))) | exact hX.2.1.2.2.1 _ (by first | assumption | exact vp_in_clamp (x_inK hN (by assumption))) | exact hX.2.1.2.2.2 _ (by first | assumption | exact vp_in_clamp (x_inG hN (by assumption)))) z_cls6 hu_X5 3 (by decide) wb_97 rfl rfl dX5_latestEscape_17 ?_
    refine z_iload_n C dX5_latestEscape_20 rfl ?_
    refine k_get C (by first | exact hX.2.2.1.1 | exact hX.2.2.1.2.1 | exact hX.2.2.1.2.2.1 | exact hX.2.2.1.2.2.2) (by first | assumption | exact x_inG hN (by assumption) | exact x_inD hN (by assumption) | exact x_inK hN (by assumption) | exact x_inR hN (by assumption)) (by omega) (by first | exact hcli | rfl) wb_222 ⟨by decide, by decide⟩ ⟨Nat.zero_le _, Nat.zero_le _⟩ (Nat.le_of_ble_eq_true rfl) dX5_latestEscape_21 ?_
    refine z_cast (q := (RX1, TX1, 6)) C (by first | exact hX.1.1 | exact hX.1.2.1 | exact hX.1.2.2.1 | exact hX.1.2.2.2 | exact hX.2.1.1 _ (by first | assumption | exact vp_in_clamp (x_inG hN (by assumption)) | exact vp_in_clamp (x_inD hN (by assumption)) | exact vp_in_clamp (x_inK hN (by assumption)) | exact vp_in_clamp (x_inR hN (by assumption)) | exact hI.rm (by first | assumption | exact vp_in_clamp (x_inG hN (by assumption))) | exact hI.lo (by first | assumption | exact vp_in_clamp (x_inD hN (by assumption))) | exact hI.hi (by first | assumption | exact vp_in_clamp (x_inD hN (by assumption)))) | exact hX.2.1.2.1 _ (by first | assumption | exact vp_in_clamp (x_inD hN (by assumption))) | exact hX.2.1.2.2.1 _ (by first | assumption | exact vp_in_clamp (x_inK hN (by assumption))) | exact hX.2.1.2.2.2 _ (by first | assumption | exact vp_in_clamp (x_inG hN (by assumption)))) rfl wb_360 dX5_latestEscape_24 ?_
    refine z_astore_n C dX5_latestEscape_27 (by decide) ?_
    refine z_aload_n C dX5_latestEscape_28 rfl ?_
    refine z_get C (by first | exact hX.1.1 | exact hX.1.2.1 | exact hX.1.2.2.1 | exact hX.1.2.2.2 | exact hX.2.1.1 _ (by first | assumption | exact vp_in_clamp (x_inG hN (by assumption)) | exact vp_in_clamp (x_inD hN (by assumption)) | exact vp_in_clamp (x_inK hN (by assumption)) | exact vp_in_clamp (x_inR hN (by assumption)) | exact hI.rm (by first | assumption | exact vp_in_clamp (x_inG hN (by assumption))) | exact hI.lo (by first | assumption | exact vp_in_clamp (x_inD hN (by assumption))) | exact hI.hi (by first | assumption | exact vp_in_clamp (x_inD hN (by assumption)))) | exact hX.2.1.2.1 _ (by first | assumption | exact vp_in_clamp (x_inD hN (by assumption))) | exact hX.2.1.2.2.1 _ (by first | assumption | exact vp_in_clamp (x_inK hN (by assumption))) | exact hX.2.1.2.2.2 _ (by first | assumption | exact vp_in_clamp (x_inG hN (by assumption)))) z_cls2 hu_X1 5 (by decide) wb_377 rfl rfl dX5_latestEscape_29 ?_
    refine z_iconst (v := 1) C dX5_latestEscape_32 (by decide) ?_
    refine z_icmp_ne C 45 dX5_latestEscape_33 (by decide) (fun h33 => ?_) (fun h33 => ?_)
    · refine z_iinc C dX5_latestEscape_45 rfl rfl (by decide) ?_
      refine z_goto C 5 dX5_latestEscape_48 (by decide) ?_
      exact ihi hlti _ ⟨rfl, z_lgI rfl (by simp [m_late, *]), z_lgI rfl (z_inc i), trivial⟩
    · refine z_iload_n C dX5_latestEscape_36 rfl ?_
      refine z_aload_n C dX5_latestEscape_37 rfl ?_
      refine z_get C (by first | exact hX.1.1 | exact hX.1.2.1 | exact hX.1.2.2.1 | exact hX.1.2.2.2 | exact hX.2.1.1 _ (by first | assumption | exact vp_in_clamp (x_inG hN (by assumption)) | exact vp_in_clamp (x_inD hN (by assumption)) | exact vp_in_clamp (x_inK hN (by assumption)) | exact vp_in_clamp (x_inR hN (by assumption)) | exact hI.rm (by first | assumption | exact vp_in_clamp (x_inG hN (by assumption))) | exact hI.lo (by first | assumption | exact vp_in_clamp (x_inD hN (by assumption))) | exact hI.hi (by first | assumption | exact vp_in_clamp (x_inD hN (by assumption)))) | exact hX.2.1.2.1 _ (by first | assumption | exact vp_in_clamp (x_inD hN (by assumption))) | exact hX.2.1.2.2.1 _ (by first | assumption | exact vp_in_clamp (x_inK hN (by assumption))) | exact hX.2.1.2.2.2 _ (by first | assumption | exact vp_in_clamp (x_inG hN (by assumption)))) z_cls2 hu_X1 3 (by decide) wb_374 rfl rfl dX5_latestEscape_38 ?_
      refine z_mmax C wb_254 wb_175 wb_9 wb_176 (by decide) (Nat.le_of_ble_eq_true rfl) (Nat.zero_le _) (Nat.zero_le _) dX5_latestEscape_41 ?_
      refine z_istore_n C dX5_latestEscape_44 (by decide) ?_
      refine z_iinc C dX5_latestEscape_45 rfl rfl (by decide) ?_
      refine z_goto C 5 dX5_latestEscape_48 (by decide) ?_
      exact ihi hlti _ ⟨rfl, z_lgI rfl (by simp [m_late, *]), z_lgI rfl (z_inc i), trivial⟩

set_option maxHeartbeats 4000000 in
set_option maxRecDepth 100000 in
theorem c_X5_keysHeldBy (l : Launch) (G : z_G) (ad : Nat → Nat → Nat) (M : m_S) (T : x_T) {nR nD nK nG : Nat} (hI : m_I nR nD nK nG M) (g : Nat) (hg : g < nG) : z_MR l yX5_keysHeldBy cX5_keysHeldBy 4 (some .int) 3 [.ref (ad 4 0), .ref (ad 3 g)] G (fun H => x_R G ad nR nD nK nG M T H) (.int (m_held M nK (nI g))) := by
  refine z_M.of (by decide +kernel) (Nat.le_of_ble_eq_true rfl) ?_
  intro p e s m below meth c C hP
  have hX : x_R G ad nR nD nK nG M T s.heap := hP
  have hN := hI.1
  have hR12 := hN.1.2; have hD16 := hN.2.1.2; have hK16 := hN.2.2.1.2; have hG6 := hN.2.2.2.2
  refine z_iconst (v := 0) C dX5_keysHeldBy_0 (by decide) ?_
  refine z_istore_n C dX5_keysHeldBy_1 (by decide) ?_
  refine z_iconst (v := 0) C dX5_keysHeldBy_2 (by decide) ?_
  refine z_istore_n C dX5_keysHeldBy_3 (by decide) ?_
  refine z_loopN (fun i => [(0, .ref (ad 4 0)), (1, .ref (ad 3 g)), (2, .int (m_held M i (nI g))), (3, .int (nI i))]) nK ⟨rfl, rfl, rfl, rfl, trivial⟩ (fun i hi ihi => ?_)
  refine z_iload_n C dX5_keysHeldBy_4 rfl ?_
  refine z_aload_n C dX5_keysHeldBy_5 rfl ?_
  refine z_get C (by first | exact hX.1.1 | exact hX.1.2.1 | exact hX.1.2.2.1 | exact hX.1.2.2.2 | exact hX.2.1.1 _ (by first | assumption | exact vp_in_clamp (x_inG hN (by assumption)) | exact vp_in_clamp (x_inD hN (by assumption)) | exact vp_in_clamp (x_inK hN (by assumption)) | exact vp_in_clamp (x_inR hN (by assumption)) | exact hI.rm (by first | assumption | exact vp_in_clamp (x_inG hN (by assumption))) | exact hI.lo (by first | assumption | exact vp_in_clamp (x_inD hN (by assumption))) | exact hI.hi (by first | assumption | exact vp_in_clamp (x_inD hN (by assumption)))) | exact hX.2.1.2.1 _ (by first | assumption | exact vp_in_clamp (x_inD hN (by assumption))) | exact hX.2.1.2.2.1 _ (by first | assumption | exact vp_in_clamp (x_inK hN (by assumption))) | exact hX.2.1.2.2.2 _ (by first | assumption | exact vp_in_clamp (x_inG hN (by assumption)))) z_cls6 hu_X5 2 (by decide) wb_96 rfl rfl dX5_keysHeldBy_6 ?_
  refine k_size C (by first | exact hX.2.2.1.1 | exact hX.2.2.1.2.1 | exact hX.2.2.1.2.2.1 | exact hX.2.2.1.2.2.2) wb_129 ⟨by decide, by decide⟩ ⟨Nat.zero_le _, Nat.zero_le _⟩ (Nat.le_of_ble_eq_true rfl) dX5_keysHeldBy_9 ?_
  refine z_icmp_ge C 42 dX5_keysHeldBy_12 (by decide) (fun h12 => ?_) (fun h12 => ?_)
  · obtain rfl := z_ge (rfl : nI nK = nI nK) (by omega) hi h12
    refine z_iload_n C dX5_keysHeldBy_42 rfl ?_
    exact z_iret C (by omega) (by omega) dX5_keysHeldBy_43 (by exact ⟨rfl, rfl⟩)
  · have hlti := z_lt (rfl : nI nK = nI nK) (by omega) hi h12
    have hini : vp_in (nI i) nK := vp_in_nI hlti (by omega)
    have hcli : (nI i).toNatClampNeg = i := nI_clamp (by omega)
    refine z_aload_n C dX5_keysHeldBy_15 rfl ?_
    refine z_get C (by first | exact hX.1.1 | exact hX.1.2.1 | exact hX.1.2.2.1 | exact hX.1.2.2.2 | exact hX.2.1.1 _ (by first | assumption | exact vp_in_clamp (x_inG hN (by assumption)) | exact vp_in_clamp (x_inD hN (by assumption)) | exact vp_in_clamp (x_inK hN (by assumption)) | exact vp_in_clamp (x_inR hN (by assumption)) | exact hI.rm (by first | assumption | exact vp_in_clamp (x_inG hN (by assumption))) | exact hI.lo (by first | assumption | exact vp_in_clamp (x_inD hN (by assumption))) | exact hI.hi (by first | assumption | exact vp_in_clamp (x_inD hN (by assumption)))) | exact hX.2.1.2.1 _ (by first | assumption | exact vp_in_clamp (x_inD hN (by assumption))) | exact hX.2.1.2.2.1 _ (by first | assumption | exact vp_in_clamp (x_inK hN (by assumption))) | exact hX.2.1.2.2.2 _ (by first | assumption | exact vp_in_clamp (x_inG hN (by assumption)))) z_cls6 hu_X5 2 (by decide) wb_96 rfl rfl dX5_keysHeldBy_16 ?_
    refine z_iload_n C dX5_keysHeldBy_19 rfl ?_
    refine k_get C (by first | exact hX.2.2.1.1 | exact hX.2.2.1.2.1 | exact hX.2.2.1.2.2.1 | exact hX.2.2.1.2.2.2) (by first | assumption | exact x_inG hN (by assumption) | exact x_inD hN (by assumption) | exact x_inK hN (by assumption) | exact x_inR hN (by assumption)) (by omega) (by first | exact hcli | rfl) wb_222 ⟨by decide, by decide⟩ ⟨Nat.zero_le _, Nat.zero_le _⟩ (Nat.le_of_ble_eq_true rfl) dX5_keysHeldBy_20 ?_
    refine z_cast (q := (RX2, TX2, 6)) C (by first | exact hX.1.1 | exact hX.1.2.1 | exact hX.1.2.2.1 | exact hX.1.2.2.2 | exact hX.2.1.1 _ (by first | assumption | exact vp_in_clamp (x_inG hN (by assumption)) | exact vp_in_clamp (x_inD hN (by assumption)) | exact vp_in_clamp (x_inK hN (by assumption)) | exact vp_in_clamp (x_inR hN (by assumption)) | exact hI.rm (by first | assumption | exact vp_in_clamp (x_inG hN (by assumption))) | exact hI.lo (by first | assumption | exact vp_in_clamp (x_inD hN (by assumption))) | exact hI.hi (by first | assumption | exact vp_in_clamp (x_inD hN (by assumption)))) | exact hX.2.1.2.1 _ (by first | assumption | exact vp_in_clamp (x_inD hN (by assumption))) | exact hX.2.1.2.2.1 _ (by first | assumption | exact vp_in_clamp (x_inK hN (by assumption))) | exact hX.2.1.2.2.2 _ (by first | assumption | exact vp_in_clamp (x_inG hN (by assumption)))) rfl wb_320 dX5_keysHeldBy_23 ?_
    refine z_get C (by first | exact hX.1.1 | exact hX.1.2.1 | exact hX.1.2.2.1 | exact hX.1.2.2.2 | exact hX.2.1.1 _ (by first | assumption | exact vp_in_clamp (x_inG hN (by assumption)) | exact vp_in_clamp (x_inD hN (by assumption)) | exact vp_in_clamp (x_inK hN (by assumption)) | exact vp_in_clamp (x_inR hN (by assumption)) | exact hI.rm (by first | assumption | exact vp_in_clamp (x_inG hN (by assumption))) | exact hI.lo (by first | assumption | exact vp_in_clamp (x_inD hN (by assumption))) | exact hI.hi (by first | assumption | exact vp_in_clamp (x_inD hN (by assumption)))) | exact hX.2.1.2.1 _ (by first | assumption | exact vp_in_clamp (x_inD hN (by assumption))) | exact hX.2.1.2.2.1 _ (by first | assumption | exact vp_in_clamp (x_inK hN (by assumption))) | exact hX.2.1.2.2.2 _ (by first | assumption | exact vp_in_clamp (x_inG hN (by assumption)))) z_cls3 hu_X2 4 (by decide) wb_336 rfl rfl dX5_keysHeldBy_26 ?_
    refine z_aload_n C dX5_keysHeldBy_29 rfl ?_
    refine z_acmp_ne_rq C 36 dX5_keysHeldBy_30 (by decide) (fun h30 => ?_) (fun h30 => ?_)
    · have hho : m_ho M (nI g) (nI i) = false := by
        cases hz : m_ho M (nI g) (nI i) with
        | false => rfl
        | true => exact absurd ((x_kh_iff hI hX.2.2.2 hlti hg).mpr hz) h30
      refine z_iinc C dX5_keysHeldBy_36 rfl rfl (by decide) ?_
      refine z_goto C 4 dX5_keysHeldBy_39 (by decide) ?_
      exact ihi hlti _ ⟨rfl, rfl, z_lgI rfl (by simp [m_held, m_cnt, m_sum, m_c, *]), z_lgI rfl (z_inc i), trivial⟩
    · have hho := (x_kh_iff hI hX.2.2.2 hlti hg).mp h30
      refine z_iinc C dX5_keysHeldBy_33 rfl rfl (by decide) ?_
      refine z_iinc C dX5_keysHeldBy_36 rfl rfl (by decide) ?_
      refine z_goto C 4 dX5_keysHeldBy_39 (by decide) ?_
      exact ihi hlti _ ⟨rfl, rfl, z_lgI rfl (by simp [m_held, m_cnt, m_sum, m_c, *]), z_lgI rfl (z_inc i), trivial⟩

/-- the key that an unlocking uses up, null if there is none -/
def x_fk (ad : Nat → Nat → Nat) (M : m_S) (nK : Nat) (g c0 : Int32) : Option Nat := if m_kf M nK g c0 < 0 then none else some (ad 2 (m_kf M nK g c0).toNatClampNeg)
theorem x_fk_hit {ad : Nat → Nat → Nat} {M : m_S} {nK i : Nat} {g c0 : Int32} (hK : nK ≤ 16) (hi : i < nK) (h : m_kf M nK g c0 = nI i) : va_rf (x_fk ad M nK g c0) = .ref (ad 2 i) := by
  unfold x_fk
  rw [h, if_neg (nI_pos (by omega)), nI_clamp (by omega)]; rfl
theorem x_fk_no {ad : Nat → Nat → Nat} {M : m_S} {nK : Nat} {g c0 : Int32} (h : m_kf M nK g c0 = -6) : va_rf (x_fk ad M nK g c0) = va_rf none := by
  unfold x_fk
  rw [h, if_pos (by decide)]
set_option maxHeartbeats 4000000 in
set_option maxRecDepth 100000 in
theorem c_X5_lowestHeldKey (l : Launch) (G : z_G) (ad : Nat → Nat → Nat) (M : m_S) (T : x_T) {nR nD nK nG : Nat} (hI : m_I nR nD nK nG M) (g : Nat) (hg : g < nG) (c0 : Int32) : z_MR l yX5_lowestHeldKey cX5_lowestHeldKey 5 (some (.object "EscapeRooms$Key")) 3 [.ref (ad 4 0), .ref (ad 3 g), .int c0] G (fun H => x_R G ad nR nD nK nG M T H) (va_rf (x_fk ad M nK (nI g) c0)) := by
  refine z_M.of (by decide +kernel) (Nat.le_of_ble_eq_true rfl) ?_
  intro p e s m below meth c C hP
  have hX : x_R G ad nR nD nK nG M T s.heap := hP
  have hN := hI.1
  have hR12 := hN.1.2; have hD16 := hN.2.1.2; have hK16 := hN.2.2.1.2; have hG6 := hN.2.2.2.2
  refine z_iconst (v := 0) C dX5_lowestHeldKey_0 (by decide) ?_
  refine z_istore_n C dX5_lowestHeldKey_1 (by decide) ?_
  refine z_loopI (fun i => m_ff (fun k => m_ho M (nI g) (nI k) && decide (M.2 10 k = c0)) nK 0 = m_ff (fun k => m_ho M (nI g) (nI k) && decide (M.2 10 k = c0)) (nK - i) i) rfl (fun i => [(0, .ref (ad 4 0)), (1, .ref (ad 3 g)), (2, .int c0), (3, .int (nI i))]) nK ⟨rfl, rfl, rfl, rfl, trivial⟩ (fun i hi hinv ihi => ?_)
  refine z_iload_n C dX5_lowestHeldKey_2 rfl ?_
  refine z_aload_n C dX5_lowestHeldKey_3 rfl ?_
  refine z_get C (by first | exact hX.1.1 | exact hX.1.2.1 | exact hX.1.2.2.1 | exact hX.1.2.2.2 | exact hX.2.1.1 _ (by first | assumption | exact vp_in_clamp (x_inG hN (by assumption)) | exact vp_in_clamp (x_inD hN (by assumption)) | exact vp_in_clamp (x_inK hN (by assumption)) | exact vp_in_clamp (x_inR hN (by assumption)) | exact hI.rm (by first | assumption | exact vp_in_clamp (x_inG hN (by assumption))) | exact hI.lo (by first | assumption | exact vp_in_clamp (x_inD hN (by assumption))) | exact hI.hi (by first | assumption | exact vp_in_clamp (x_inD hN (by assumption)))) | exact hX.2.1.2.1 _ (by first | assumption | exact vp_in_clamp (x_inD hN (by assumption))) | exact hX.2.1.2.2.1 _ (by first | assumption | exact vp_in_clamp (x_inK hN (by assumption))) | exact hX.2.1.2.2.2 _ (by first | assumption | exact vp_in_clamp (x_inG hN (by assumption)))) z_cls6 hu_X5 2 (by decide) wb_96 rfl rfl dX5_lowestHeldKey_4 ?_
  refine k_size C (by first | exact hX.2.2.1.1 | exact hX.2.2.1.2.1 | exact hX.2.2.1.2.2.1 | exact hX.2.2.1.2.2.2) wb_129 ⟨by decide, by decide⟩ ⟨Nat.zero_le _, Nat.zero_le _⟩ (Nat.le_of_ble_eq_true rfl) dX5_lowestHeldKey_7 ?_
  refine z_icmp_ge C 53 dX5_lowestHeldKey_10 (by decide) (fun h10 => ?_) (fun h10 => ?_)
  · obtain rfl := z_ge (rfl : nI nK = nI nK) (by omega) hi h10
    refine z_nullq C dX5_lowestHeldKey_53 ?_
    exact z_aretq C (by first | exact Or.inl ⟨_, rfl⟩ | exact Or.inr ⟨_, rfl⟩) (by omega) (by omega) dX5_lowestHeldKey_54 (by exact ⟨congrArg some (x_fk_no (hinv.trans (by rw [Nat.sub_self]; rfl))).symm, rfl⟩)
  · have hlti := z_lt (rfl : nI nK = nI nK) (by omega) hi h10
    have hini : vp_in (nI i) nK := vp_in_nI hlti (by omega)
    have hcli : (nI i).toNatClampNeg = i := nI_clamp (by omega)
    refine z_aload_n C dX5_lowestHeldKey_13 rfl ?_
    refine z_get C (by first | exact hX.1.1 | exact hX.1.2.1 | exact hX.1.2.2.1 | exact hX.1.2.2.2 | exact hX.2.1.1 _ (by first | assumption | exact vp_in_clamp (x_inG hN (by assumption)) | exact vp_in_clamp (x_inD hN (by assumption)) | exact vp_in_clamp (x_inK hN (by assumption)) | exact vp_in_clamp (x_inR hN (by assumption)) | exact hI.rm (by first | assumption | exact vp_in_clamp (x_inG hN (by assumption))) | exact hI.lo (by first | assumption | exact vp_in_clamp (x_inD hN (by assumption))) | exact hI.hi (by first | assumption | exact vp_in_clamp (x_inD hN (by assumption)))) | exact hX.2.1.2.1 _ (by first | assumption | exact vp_in_clamp (x_inD hN (by assumption))) | exact hX.2.1.2.2.1 _ (by first | assumption | exact vp_in_clamp (x_inK hN (by assumption))) | exact hX.2.1.2.2.2 _ (by first | assumption | exact vp_in_clamp (x_inG hN (by assumption)))) z_cls6 hu_X5 2 (by decide) wb_96 rfl rfl dX5_lowestHeldKey_14 ?_
    refine z_iload_n C dX5_lowestHeldKey_17 rfl ?_
    refine k_get C (by first | exact hX.2.2.1.1 | exact hX.2.2.1.2.1 | exact hX.2.2.1.2.2.1 | exact hX.2.2.1.2.2.2) (by first | assumption | exact x_inG hN (by assumption) | exact x_inD hN (by assumption) | exact x_inK hN (by assumption) | exact x_inR hN (by assumption)) (by omega) (by first | exact hcli | rfl) wb_222 ⟨by decide, by decide⟩ ⟨Nat.zero_le _, Nat.zero_le _⟩ (Nat.le_of_ble_eq_true rfl) dX5_lowestHeldKey_18 ?_
    refine z_cast (q := (RX2, TX2, 6)) C (by first | exact hX.1.1 | exact hX.1.2.1 | exact hX.1.2.2.1 | exact hX.1.2.2.2 | exact hX.2.1.1 _ (by first | assumption | exact vp_in_clamp (x_inG hN (by assumption)) | exact vp_in_clamp (x_inD hN (by assumption)) | exact vp_in_clamp (x_inK hN (by assumption)) | exact vp_in_clamp (x_inR hN (by assumption)) | exact hI.rm (by first | assumption | exact vp_in_clamp (x_inG hN (by assumption))) | exact hI.lo (by first | assumption | exact vp_in_clamp (x_inD hN (by assumption))) | exact hI.hi (by first | assumption | exact vp_in_clamp (x_inD hN (by assumption)))) | exact hX.2.1.2.1 _ (by first | assumption | exact vp_in_clamp (x_inD hN (by assumption))) | exact hX.2.1.2.2.1 _ (by first | assumption | exact vp_in_clamp (x_inK hN (by assumption))) | exact hX.2.1.2.2.2 _ (by first | assumption | exact vp_in_clamp (x_inG hN (by assumption)))) rfl wb_320 dX5_lowestHeldKey_21 ?_
    refine z_astore C dX5_lowestHeldKey_24 (by decide) ?_
    refine z_aload C dX5_lowestHeldKey_26 rfl ?_
    refine z_get C (by first | exact hX.1.1 | exact hX.1.2.1 | exact hX.1.2.2.1 | exact hX.1.2.2.2 | exact hX.2.1.1 _ (by first | assumption | exact vp_in_clamp (x_inG hN (by assumption)) | exact vp_in_clamp (x_inD hN (by assumption)) | exact vp_in_clamp (x_inK hN (by assumption)) | exact vp_in_clamp (x_inR hN (by assumption)) | exact hI.rm (by first | assumption | exact vp_in_clamp (x_inG hN (by assumption))) | exact hI.lo (by first | assumption | exact vp_in_clamp (x_inD hN (by assumption))) | exact hI.hi (by first | assumption | exact vp_in_clamp (x_inD hN (by assumption)))) | exact hX.2.1.2.1 _ (by first | assumption | exact vp_in_clamp (x_inD hN (by assumption))) | exact hX.2.1.2.2.1 _ (by first | assumption | exact vp_in_clamp (x_inK hN (by assumption))) | exact hX.2.1.2.2.2 _ (by first | assumption | exact vp_in_clamp (x_inG hN (by assumption)))) z_cls3 hu_X2 4 (by decide) wb_336 rfl rfl dX5_lowestHeldKey_28 ?_
    refine z_aload_n C dX5_lowestHeldKey_31 rfl ?_
    refine z_acmp_ne_rq C 47 dX5_lowestHeldKey_32 (by decide) (fun h32 => ?_) (fun h32 => ?_)
    · have hho : m_ho M (nI g) (nI i) = false := by
        cases hz : m_ho M (nI g) (nI i) with
        | false => rfl
        | true => exact absurd ((x_kh_iff hI hX.2.2.2 hlti hg).mpr hz) h32
      refine z_iinc C dX5_lowestHeldKey_47 rfl rfl (by decide) ?_
      refine z_goto C 2 dX5_lowestHeldKey_50 (by decide) ?_
      exact ihi hlti (hinv.trans (m_ff_step hlti (by simp [*]))) _ ⟨rfl, rfl, rfl, z_lgI rfl (z_inc i), trivial⟩
    · have hho := (x_kh_iff hI hX.2.2.2 hlti hg).mp h32
      refine z_aload C dX5_lowestHeldKey_35 rfl ?_
      refine z_get C (by first | exact hX.1.1 | exact hX.1.2.1 | exact hX.1.2.2.1 | exact hX.1.2.2.2 | exact hX.2.1.1 _ (by first | assumption | exact vp_in_clamp (x_inG hN (by assumption)) | exact vp_in_clamp (x_inD hN (by assumption)) | exact vp_in_clamp (x_inK hN (by assumption)) | exact vp_in_clamp (x_inR hN (by assumption)) | exact hI.rm (by first | assumption | exact vp_in_clamp (x_inG hN (by assumption))) | exact hI.lo (by first | assumption | exact vp_in_clamp (x_inD hN (by assumption))) | exact hI.hi (by first | assumption | exact vp_in_clamp (x_inD hN (by assumption)))) | exact hX.2.1.2.1 _ (by first | assumption | exact vp_in_clamp (x_inD hN (by assumption))) | exact hX.2.1.2.2.1 _ (by first | assumption | exact vp_in_clamp (x_inK hN (by assumption))) | exact hX.2.1.2.2.2 _ (by first | assumption | exact vp_in_clamp (x_inG hN (by assumption)))) z_cls3 hu_X2 1 (by decide) wb_330 rfl rfl dX5_lowestHeldKey_37 ?_
      refine z_iload_n C dX5_lowestHeldKey_40 rfl ?_
      refine z_icmp_ne C 47 dX5_lowestHeldKey_41 (by decide) (fun h41 => ?_) (fun h41 => ?_)
      · refine z_iinc C dX5_lowestHeldKey_47 rfl rfl (by decide) ?_
        refine z_goto C 2 dX5_lowestHeldKey_50 (by decide) ?_
        exact ihi hlti (hinv.trans (m_ff_step hlti (by simp [*]))) _ ⟨rfl, rfl, rfl, z_lgI rfl (z_inc i), trivial⟩
      · refine z_aload C dX5_lowestHeldKey_44 rfl ?_
        exact z_aret C (by first | exact Or.inl ⟨_, rfl⟩ | exact Or.inr ⟨_, rfl⟩) (by omega) (by omega) dX5_lowestHeldKey_46 (by exact ⟨congrArg some (x_fk_hit (by omega) hlti (hinv.trans (m_ff_hit hlti (by simp [*])))).symm, rfl⟩)

set_option maxHeartbeats 4000000 in
set_option maxRecDepth 100000 in
theorem c_X5_closedLocksOf (l : Launch) (G : z_G) (ad : Nat → Nat → Nat) (M : m_S) (T : x_T) {nR nD nK nG : Nat} (hI : m_I nR nD nK nG M) (c0 : Int32) : z_MR l yX5_closedLocksOf cX5_closedLocksOf 5 (some .int) 3 [.ref (ad 4 0), .int c0] G (fun H => x_R G ad nR nD nK nG M T H) (.int (m_cnt (fun d => decide (M.2 6 d = c0) && decide (M.2 8 d < 0)) nD)) := by
  refine z_M.of (by decide +kernel) (Nat.le_of_ble_eq_true rfl) ?_
  intro p e s m below meth c C hP
  have hX : x_R G ad nR nD nK nG M T s.heap := hP
  have hN := hI.1
  have hR12 := hN.1.2; have hD16 := hN.2.1.2; have hK16 := hN.2.2.1.2; have hG6 := hN.2.2.2.2
  refine z_iconst (v := 0) C dX5_closedLocksOf_0 (by decide) ?_
  refine z_istore_n C dX5_closedLocksOf_1 (by decide) ?_
  refine z_iconst (v := 0) C dX5_closedLocksOf_2 (by decide) ?_
  refine z_istore_n C dX5_closedLocksOf_3 (by decide) ?_
  refine z_loopN (fun i => [(0, .ref (ad 4 0)), (1, .int c0), (2, .int (m_cnt (fun d => decide (M.2 6 d = c0) && decide (M.2 8 d < 0)) i)), (3, .int (nI i))]) nD ⟨rfl, rfl, rfl, rfl, trivial⟩ (fun i hi ihi => ?_)
  refine z_iload_n C dX5_closedLocksOf_4 rfl ?_
  refine z_aload_n C dX5_closedLocksOf_5 rfl ?_
  refine z_get C (by first | exact hX.1.1 | exact hX.1.2.1 | exact hX.1.2.2.1 | exact hX.1.2.2.2 | exact hX.2.1.1 _ (by first | assumption | exact vp_in_clamp (x_inG hN (by assumption)) | exact vp_in_clamp (x_inD hN (by assumption)) | exact vp_in_clamp (x_inK hN (by assumption)) | exact vp_in_clamp (x_inR hN (by assumption)) | exact hI.rm (by first | assumption | exact vp_in_clamp (x_inG hN (by assumption))) | exact hI.lo (by first | assumption | exact vp_in_clamp (x_inD hN (by assumption))) | exact hI.hi (by first | assumption | exact vp_in_clamp (x_inD hN (by assumption)))) | exact hX.2.1.2.1 _ (by first | assumption | exact vp_in_clamp (x_inD hN (by assumption))) | exact hX.2.1.2.2.1 _ (by first | assumption | exact vp_in_clamp (x_inK hN (by assumption))) | exact hX.2.1.2.2.2 _ (by first | assumption | exact vp_in_clamp (x_inG hN (by assumption)))) z_cls6 hu_X5 1 (by decide) wb_95 rfl rfl dX5_closedLocksOf_6 ?_
  refine k_size C (by first | exact hX.2.2.1.1 | exact hX.2.2.1.2.1 | exact hX.2.2.1.2.2.1 | exact hX.2.2.1.2.2.2) wb_129 ⟨by decide, by decide⟩ ⟨Nat.zero_le _, Nat.zero_le _⟩ (Nat.le_of_ble_eq_true rfl) dX5_closedLocksOf_9 ?_
  refine z_icmp_ge C 54 dX5_closedLocksOf_12 (by decide) (fun h12 => ?_) (fun h12 => ?_)
  · obtain rfl := z_ge (rfl : nI nD = nI nD) (by omega) hi h12
    refine z_iload_n C dX5_closedLocksOf_54 rfl ?_
    exact z_iret C (by omega) (by omega) dX5_closedLocksOf_55 (by exact ⟨rfl, rfl⟩)
  · have hlti := z_lt (rfl : nI nD = nI nD) (by omega) hi h12
    have hini : vp_in (nI i) nD := vp_in_nI hlti (by omega)
    have hcli : (nI i).toNatClampNeg = i := nI_clamp (by omega)
    refine z_aload_n C dX5_closedLocksOf_15 rfl ?_
    refine z_get C (by first | exact hX.1.1 | exact hX.1.2.1 | exact hX.1.2.2.1 | exact hX.1.2.2.2 | exact hX.2.1.1 _ (by first | assumption | exact vp_in_clamp (x_inG hN (by assumption)) | exact vp_in_clamp (x_inD hN (by assumption)) | exact vp_in_clamp (x_inK hN (by assumption)) | exact vp_in_clamp (x_inR hN (by assumption)) | exact hI.rm (by first | assumption | exact vp_in_clamp (x_inG hN (by assumption))) | exact hI.lo (by first | assumption | exact vp_in_clamp (x_inD hN (by assumption))) | exact hI.hi (by first | assumption | exact vp_in_clamp (x_inD hN (by assumption)))) | exact hX.2.1.2.1 _ (by first | assumption | exact vp_in_clamp (x_inD hN (by assumption))) | exact hX.2.1.2.2.1 _ (by first | assumption | exact vp_in_clamp (x_inK hN (by assumption))) | exact hX.2.1.2.2.2 _ (by first | assumption | exact vp_in_clamp (x_inG hN (by assumption)))) z_cls6 hu_X5 1 (by decide) wb_95 rfl rfl dX5_closedLocksOf_16 ?_
    refine z_iload_n C dX5_closedLocksOf_19 rfl ?_
    refine k_get C (by first | exact hX.2.2.1.1 | exact hX.2.2.1.2.1 | exact hX.2.2.1.2.2.1 | exact hX.2.2.1.2.2.2) (by first | assumption | exact x_inG hN (by assumption) | exact x_inD hN (by assumption) | exact x_inK hN (by assumption) | exact x_inR hN (by assumption)) (by omega) (by first | exact hcli | rfl) wb_222 ⟨by decide, by decide⟩ ⟨Nat.zero_le _, Nat.zero_le _⟩ (Nat.le_of_ble_eq_true rfl) dX5_closedLocksOf_20 ?_
    refine z_cast (q := (RX0, TX0, 10)) C (by first | exact hX.1.1 | exact hX.1.2.1 | exact hX.1.2.2.1 | exact hX.1.2.2.2 | exact hX.2.1.1 _ (by first | assumption | exact vp_in_clamp (x_inG hN (by assumption)) | exact vp_in_clamp (x_inD hN (by assumption)) | exact vp_in_clamp (x_inK hN (by assumption)) | exact vp_in_clamp (x_inR hN (by assumption)) | exact hI.rm (by first | assumption | exact vp_in_clamp (x_inG hN (by assumption))) | exact hI.lo (by first | assumption | exact vp_in_clamp (x_inD hN (by assumption))) | exact hI.hi (by first | assumption | exact vp_in_clamp (x_inD hN (by assumption)))) | exact hX.2.1.2.1 _ (by first | assumption | exact vp_in_clamp (x_inD hN (by assumption))) | exact hX.2.1.2.2.1 _ (by first | assumption | exact vp_in_clamp (x_inK hN (by assumption))) | exact hX.2.1.2.2.2 _ (by first | assumption | exact vp_in_clamp (x_inG hN (by assumption)))) rfl wb_243 dX5_closedLocksOf_23 ?_
    refine z_astore C dX5_closedLocksOf_26 (by decide) ?_
    refine z_aload C dX5_closedLocksOf_28 rfl ?_
    refine z_get C (by first | exact hX.1.1 | exact hX.1.2.1 | exact hX.1.2.2.1 | exact hX.1.2.2.2 | exact hX.2.1.1 _ (by first | assumption | exact vp_in_clamp (x_inG hN (by assumption)) | exact vp_in_clamp (x_inD hN (by assumption)) | exact vp_in_clamp (x_inK hN (by assumption)) | exact vp_in_clamp (x_inR hN (by assumption)) | exact hI.rm (by first | assumption | exact vp_in_clamp (x_inG hN (by assumption))) | exact hI.lo (by first | assumption | exact vp_in_clamp (x_inD hN (by assumption))) | exact hI.hi (by first | assumption | exact vp_in_clamp (x_inD hN (by assumption)))) | exact hX.2.1.2.1 _ (by first | assumption | exact vp_in_clamp (x_inD hN (by assumption))) | exact hX.2.1.2.2.1 _ (by first | assumption | exact vp_in_clamp (x_inK hN (by assumption))) | exact hX.2.1.2.2.2 _ (by first | assumption | exact vp_in_clamp (x_inG hN (by assumption)))) z_cls1 hu_X0 5 (by decide) wb_273 rfl rfl dX5_closedLocksOf_30 ?_
    refine z_iload_n C dX5_closedLocksOf_33 rfl ?_
    refine z_icmp_ne C 48 dX5_closedLocksOf_34 (by decide) (fun h34 => ?_) (fun h34 => ?_)
    · refine z_iinc C dX5_closedLocksOf_48 rfl rfl (by decide) ?_
      refine z_goto C 4 dX5_closedLocksOf_51 (by decide) ?_
      exact ihi hlti _ ⟨rfl, rfl, z_lgI rfl (by simp [m_cnt, m_sum, m_c, *]), z_lgI rfl (z_inc i), trivial⟩
    · refine z_aload C dX5_closedLocksOf_37 rfl ?_
      refine z_get C (by first | exact hX.1.1 | exact hX.1.2.1 | exact hX.1.2.2.1 | exact hX.1.2.2.2 | exact hX.2.1.1 _ (by first | assumption | exact vp_in_clamp (x_inG hN (by assumption)) | exact vp_in_clamp (x_inD hN (by assumption)) | exact vp_in_clamp (x_inK hN (by assumption)) | exact vp_in_clamp (x_inR hN (by assumption)) | exact hI.rm (by first | assumption | exact vp_in_clamp (x_inG hN (by assumption))) | exact hI.lo (by first | assumption | exact vp_in_clamp (x_inD hN (by assumption))) | exact hI.hi (by first | assumption | exact vp_in_clamp (x_inD hN (by assumption)))) | exact hX.2.1.2.1 _ (by first | assumption | exact vp_in_clamp (x_inD hN (by assumption))) | exact hX.2.1.2.2.1 _ (by first | assumption | exact vp_in_clamp (x_inK hN (by assumption))) | exact hX.2.1.2.2.2 _ (by first | assumption | exact vp_in_clamp (x_inG hN (by assumption)))) z_cls1 hu_X0 8 (by decide) wb_281 rfl rfl dX5_closedLocksOf_39 ?_
      refine z_ifb_ne C 48 dX5_closedLocksOf_42 (by decide) (fun h42 => ?_) (fun h42 => ?_)
      · have hop : ¬ M.2 8 i < 0 := by simpa [x_op] using h42
        refine z_iinc C dX5_closedLocksOf_48 rfl rfl (by decide) ?_
        refine z_goto C 4 dX5_closedLocksOf_51 (by decide) ?_
        exact ihi hlti _ ⟨rfl, rfl, z_lgI rfl (by simp [m_cnt, m_sum, m_c, *]), z_lgI rfl (z_inc i), trivial⟩
      · have hop : M.2 8 i < 0 := by simpa [x_op] using h42
        refine z_iinc C dX5_closedLocksOf_45 rfl rfl (by decide) ?_
        refine z_iinc C dX5_closedLocksOf_48 rfl rfl (by decide) ?_
        refine z_goto C 4 dX5_closedLocksOf_51 (by decide) ?_
        exact ihi hlti _ ⟨rfl, rfl, z_lgI rfl (by simp [m_cnt, m_sum, m_c, *]), z_lgI rfl (z_inc i), trivial⟩

theorem x_state {nR nD nK nG k : Nat} {M : m_S} {ad : Nat → Nat → Nat} (hI : m_I nR nD nK nG M) (hk : k < nK) : (if x_kr ad M k = none then (if x_kh ad M k = none then 2 else 1) else 0 : Int32) = M.2 11 k := by
  unfold x_kr x_kh
  rcases (hI.2.2.2.1 k hk).2.1 with ⟨z, -⟩ | ⟨z, -⟩ | ⟨z, -⟩
  · simp [z]
  · simp [z]
  · simp [z]
set_option maxHeartbeats 4000000 in
set_option maxRecDepth 100000 in
theorem c_X5_keysLeftOf (l : Launch) (G : z_G) (ad : Nat → Nat → Nat) (M : m_S) (T : x_T) {nR nD nK nG : Nat} (hI : m_I nR nD nK nG M) (c0 : Int32) : z_MR l yX5_keysLeftOf cX5_keysLeftOf 5 (some .int) 3 [.ref (ad 4 0), .int c0] G (fun H => x_R G ad nR nD nK nG M T H) (.int (m_cnt (fun k => decide (M.2 10 k = c0) && !(decide (M.2 11 k = 2))) nK)) := by
  refine z_M.of (by decide +kernel) (Nat.le_of_ble_eq_true rfl) ?_
  intro p e s m below meth c C hP
  have hX : x_R G ad nR nD nK nG M T s.heap := hP
  have hN := hI.1
  have hR12 := hN.1.2; have hD16 := hN.2.1.2; have hK16 := hN.2.2.1.2; have hG6 := hN.2.2.2.2
  refine z_iconst (v := 0) C dX5_keysLeftOf_0 (by decide) ?_
  refine z_istore_n C dX5_keysLeftOf_1 (by decide) ?_
  refine z_iconst (v := 0) C dX5_keysLeftOf_2 (by decide) ?_
  refine z_istore_n C dX5_keysLeftOf_3 (by decide) ?_
  refine z_loopN (fun i => [(0, .ref (ad 4 0)), (1, .int c0), (2, .int (m_cnt (fun k => decide (M.2 10 k = c0) && !(decide (M.2 11 k = 2))) i)), (3, .int (nI i))]) nK ⟨rfl, rfl, rfl, rfl, trivial⟩ (fun i hi ihi => ?_)
  refine z_iload_n C dX5_keysLeftOf_4 rfl ?_
  refine z_aload_n C dX5_keysLeftOf_5 rfl ?_
  refine z_get C (by first | exact hX.1.1 | exact hX.1.2.1 | exact hX.1.2.2.1 | exact hX.1.2.2.2 | exact hX.2.1.1 _ (by first | assumption | exact vp_in_clamp (x_inG hN (by assumption)) | exact vp_in_clamp (x_inD hN (by assumption)) | exact vp_in_clamp (x_inK hN (by assumption)) | exact vp_in_clamp (x_inR hN (by assumption)) | exact hI.rm (by first | assumption | exact vp_in_clamp (x_inG hN (by assumption))) | exact hI.lo (by first | assumption | exact vp_in_clamp (x_inD hN (by assumption))) | exact hI.hi (by first | assumption | exact vp_in_clamp (x_inD hN (by assumption)))) | exact hX.2.1.2.1 _ (by first | assumption | exact vp_in_clamp (x_inD hN (by assumption))) | exact hX.2.1.2.2.1 _ (by first | assumption | exact vp_in_clamp (x_inK hN (by assumption))) | exact hX.2.1.2.2.2 _ (by first | assumption | exact vp_in_clamp (x_inG hN (by assumption)))) z_cls6 hu_X5 2 (by decide) wb_96 rfl rfl dX5_keysLeftOf_6 ?_
  refine k_size C (by first | exact hX.2.2.1.1 | exact hX.2.2.1.2.1 | exact hX.2.2.1.2.2.1 | exact hX.2.2.1.2.2.2) wb_129 ⟨by decide, by decide⟩ ⟨Nat.zero_le _, Nat.zero_le _⟩ (Nat.le_of_ble_eq_true rfl) dX5_keysLeftOf_9 ?_
  refine z_icmp_ge C 55 dX5_keysLeftOf_12 (by decide) (fun h12 => ?_) (fun h12 => ?_)
  · obtain rfl := z_ge (rfl : nI nK = nI nK) (by omega) hi h12
    refine z_iload_n C dX5_keysLeftOf_55 rfl ?_
    exact z_iret C (by omega) (by omega) dX5_keysLeftOf_56 (by exact ⟨rfl, rfl⟩)
  · have hlti := z_lt (rfl : nI nK = nI nK) (by omega) hi h12
    have hini : vp_in (nI i) nK := vp_in_nI hlti (by omega)
    have hcli : (nI i).toNatClampNeg = i := nI_clamp (by omega)
    refine z_aload_n C dX5_keysLeftOf_15 rfl ?_
    refine z_get C (by first | exact hX.1.1 | exact hX.1.2.1 | exact hX.1.2.2.1 | exact hX.1.2.2.2 | exact hX.2.1.1 _ (by first | assumption | exact vp_in_clamp (x_inG hN (by assumption)) | exact vp_in_clamp (x_inD hN (by assumption)) | exact vp_in_clamp (x_inK hN (by assumption)) | exact vp_in_clamp (x_inR hN (by assumption)) | exact hI.rm (by first | assumption | exact vp_in_clamp (x_inG hN (by assumption))) | exact hI.lo (by first | assumption | exact vp_in_clamp (x_inD hN (by assumption))) | exact hI.hi (by first | assumption | exact vp_in_clamp (x_inD hN (by assumption)))) | exact hX.2.1.2.1 _ (by first | assumption | exact vp_in_clamp (x_inD hN (by assumption))) | exact hX.2.1.2.2.1 _ (by first | assumption | exact vp_in_clamp (x_inK hN (by assumption))) | exact hX.2.1.2.2.2 _ (by first | assumption | exact vp_in_clamp (x_inG hN (by assumption)))) z_cls6 hu_X5 2 (by decide) wb_96 rfl rfl dX5_keysLeftOf_16 ?_
    refine z_iload_n C dX5_keysLeftOf_19 rfl ?_
    refine k_get C (by first | exact hX.2.2.1.1 | exact hX.2.2.1.2.1 | exact hX.2.2.1.2.2.1 | exact hX.2.2.1.2.2.2) (by first | assumption | exact x_inG hN (by assumption) | exact x_inD hN (by assumption) | exact x_inK hN (by assumption) | exact x_inR hN (by assumption)) (by omega) (by first | exact hcli | rfl) wb_222 ⟨by decide, by decide⟩ ⟨Nat.zero_le _, Nat.zero_le _⟩ (Nat.le_of_ble_eq_true rfl) dX5_keysLeftOf_20 ?_
    refine z_cast (q := (RX2, TX2, 6)) C (by first | exact hX.1.1 | exact hX.1.2.1 | exact hX.1.2.2.1 | exact hX.1.2.2.2 | exact hX.2.1.1 _ (by first | assumption | exact vp_in_clamp (x_inG hN (by assumption)) | exact vp_in_clamp (x_inD hN (by assumption)) | exact vp_in_clamp (x_inK hN (by assumption)) | exact vp_in_clamp (x_inR hN (by assumption)) | exact hI.rm (by first | assumption | exact vp_in_clamp (x_inG hN (by assumption))) | exact hI.lo (by first | assumption | exact vp_in_clamp (x_inD hN (by assumption))) | exact hI.hi (by first | assumption | exact vp_in_clamp (x_inD hN (by assumption)))) | exact hX.2.1.2.1 _ (by first | assumption | exact vp_in_clamp (x_inD hN (by assumption))) | exact hX.2.1.2.2.1 _ (by first | assumption | exact vp_in_clamp (x_inK hN (by assumption))) | exact hX.2.1.2.2.2 _ (by first | assumption | exact vp_in_clamp (x_inG hN (by assumption)))) rfl wb_320 dX5_keysLeftOf_23 ?_
    refine z_astore C dX5_keysLeftOf_26 (by decide) ?_
    refine z_aload C dX5_keysLeftOf_28 rfl ?_
    refine z_get C (by first | exact hX.1.1 | exact hX.1.2.1 | exact hX.1.2.2.1 | exact hX.1.2.2.2 | exact hX.2.1.1 _ (by first | assumption | exact vp_in_clamp (x_inG hN (by assumption)) | exact vp_in_clamp (x_inD hN (by assumption)) | exact vp_in_clamp (x_inK hN (by assumption)) | exact vp_in_clamp (x_inR hN (by assumption)) | exact hI.rm (by first | assumption | exact vp_in_clamp (x_inG hN (by assumption))) | exact hI.lo (by first | assumption | exact vp_in_clamp (x_inD hN (by assumption))) | exact hI.hi (by first | assumption | exact vp_in_clamp (x_inD hN (by assumption)))) | exact hX.2.1.2.1 _ (by first | assumption | exact vp_in_clamp (x_inD hN (by assumption))) | exact hX.2.1.2.2.1 _ (by first | assumption | exact vp_in_clamp (x_inK hN (by assumption))) | exact hX.2.1.2.2.2 _ (by first | assumption | exact vp_in_clamp (x_inG hN (by assumption)))) z_cls3 hu_X2 1 (by decide) wb_330 rfl rfl dX5_keysLeftOf_30 ?_
    refine z_iload_n C dX5_keysLeftOf_33 rfl ?_
    refine z_icmp_ne C 49 dX5_keysLeftOf_34 (by decide) (fun h34 => ?_) (fun h34 => ?_)
    · refine z_iinc C dX5_keysLeftOf_49 rfl rfl (by decide) ?_
      refine z_goto C 4 dX5_keysLeftOf_52 (by decide) ?_
      exact ihi hlti _ ⟨rfl, rfl, z_lgI rfl (by simp [m_cnt, m_sum, m_c, *]), z_lgI rfl (z_inc i), trivial⟩
    · refine z_aload C dX5_keysLeftOf_37 rfl ?_
      refine z_callVR (As := []) C (c_X2_state _ _ _ _ _ _ _ _ _) kc_X2_state wb_596 ⟨by decide, by decide⟩ (by first | exact hX.1.1 | exact hX.1.2.1 | exact hX.1.2.2.1 | exact hX.1.2.2.2 | exact hX.2.1.1 _ (by first | assumption | exact vp_in_clamp (x_inG hN (by assumption)) | exact vp_in_clamp (x_inD hN (by assumption)) | exact vp_in_clamp (x_inK hN (by assumption)) | exact vp_in_clamp (x_inR hN (by assumption)) | exact hI.rm (by first | assumption | exact vp_in_clamp (x_inG hN (by assumption))) | exact hI.lo (by first | assumption | exact vp_in_clamp (x_inD hN (by assumption))) | exact hI.hi (by first | assumption | exact vp_in_clamp (x_inD hN (by assumption)))) | exact hX.2.1.2.1 _ (by first | assumption | exact vp_in_clamp (x_inD hN (by assumption))) | exact hX.2.1.2.2.1 _ (by first | assumption | exact vp_in_clamp (x_inK hN (by assumption))) | exact hX.2.1.2.2.2 _ (by first | assumption | exact vp_in_clamp (x_inG hN (by assumption)))) rfl (hX.2.1.2.2.1 _ (by first | assumption | exact vp_in_clamp (x_inK hN (by assumption)))) ⟨Nat.zero_le _, Nat.zero_le _⟩ (Nat.le_of_ble_eq_true rfl) dX5_keysLeftOf_39 ?_
      rw [x_state hI hlti]
      refine z_iconst (v := 2) C dX5_keysLeftOf_42 (by decide) ?_
      refine z_icmp_eq C 49 dX5_keysLeftOf_43 (by decide) (fun h43 => ?_) (fun h43 => ?_)
      · refine z_iinc C dX5_keysLeftOf_49 rfl rfl (by decide) ?_
        refine z_goto C 4 dX5_keysLeftOf_52 (by decide) ?_
        exact ihi hlti _ ⟨rfl, rfl, z_lgI rfl (by simp [m_cnt, m_sum, m_c, *]), z_lgI rfl (z_inc i), trivial⟩
      · refine z_iinc C dX5_keysLeftOf_46 rfl rfl (by decide) ?_
        refine z_iinc C dX5_keysLeftOf_49 rfl rfl (by decide) ?_
        refine z_goto C 4 dX5_keysLeftOf_52 (by decide) ?_
        exact ihi hlti _ ⟨rfl, rfl, z_lgI rfl (by simp [m_cnt, m_sum, m_c, *]), z_lgI rfl (z_inc i), trivial⟩

/-- the bits of the locks of the first n doors that are open -/
def x_ol (M : m_S) : Nat → Int32
  | 0 => 0
  | n + 1 => if x_op M n then x_ol M n ||| x_lb M n else x_ol M n
set_option maxHeartbeats 4000000 in
set_option maxRecDepth 100000 in
theorem c_X5_openLocks (l : Launch) (G : z_G) (ad : Nat → Nat → Nat) (M : m_S) (T : x_T) {nR nD nK nG : Nat} (hI : m_I nR nD nK nG M) : z_MR l yX5_openLocks cX5_openLocks 4 (some .int) 3 [.ref (ad 4 2)] G (fun H => x_R G ad nR nD nK nG M T H) (.int (x_ol M nD)) := by
  refine z_M.of (by decide +kernel) (Nat.le_of_ble_eq_true rfl) ?_
  intro p e s m below meth c C hP
  have hX : x_R G ad nR nD nK nG M T s.heap := hP
  have hN := hI.1
  have hR12 := hN.1.2; have hD16 := hN.2.1.2; have hK16 := hN.2.2.1.2; have hG6 := hN.2.2.2.2
  refine z_iconst (v := 0) C dX5_openLocks_0 (by decide) ?_
  refine z_istore_n C dX5_openLocks_1 (by decide) ?_
  refine z_iconst (v := 0) C dX5_openLocks_2 (by decide) ?_
  refine z_istore_n C dX5_openLocks_3 (by decide) ?_
  refine z_loopN (fun i => [(0, .ref (ad 4 2)), (1, .int (x_ol M i)), (2, .int (nI i))]) nD ⟨rfl, rfl, rfl, trivial⟩ (fun i hi ihi => ?_)
  refine z_iload_n C dX5_openLocks_4 rfl ?_
  refine z_aload_n C dX5_openLocks_5 rfl ?_
  refine k_size C (by first | exact hX.2.2.1.1 | exact hX.2.2.1.2.1 | exact hX.2.2.1.2.2.1 | exact hX.2.2.1.2.2.2) wb_129 ⟨by decide, by decide⟩ ⟨Nat.zero_le _, Nat.zero_le _⟩ (Nat.le_of_ble_eq_true rfl) dX5_openLocks_6 ?_
  refine z_icmp_ge C 41 dX5_openLocks_9 (by decide) (fun h9 => ?_) (fun h9 => ?_)
  · obtain rfl := z_ge (rfl : nI nD = nI nD) (by omega) hi h9
    refine z_iload_n C dX5_openLocks_41 rfl ?_
    exact z_iret C (by omega) (by omega) dX5_openLocks_42 (by exact ⟨rfl, rfl⟩)
  · have hlti := z_lt (rfl : nI nD = nI nD) (by omega) hi h9
    have hini : vp_in (nI i) nD := vp_in_nI hlti (by omega)
    have hcli : (nI i).toNatClampNeg = i := nI_clamp (by omega)
    refine z_aload_n C dX5_openLocks_12 rfl ?_
    refine z_iload_n C dX5_openLocks_13 rfl ?_
    refine k_get C (by first | exact hX.2.2.1.1 | exact hX.2.2.1.2.1 | exact hX.2.2.1.2.2.1 | exact hX.2.2.1.2.2.2) (by first | assumption | exact x_inG hN (by assumption) | exact x_inD hN (by assumption) | exact x_inK hN (by assumption) | exact x_inR hN (by assumption)) (by omega) (by first | exact hcli | rfl) wb_222 ⟨by decide, by decide⟩ ⟨Nat.zero_le _, Nat.zero_le _⟩ (Nat.le_of_ble_eq_true rfl) dX5_openLocks_14 ?_
    refine z_cast (q := (RX0, TX0, 10)) C (by first | exact hX.1.1 | exact hX.1.2.1 | exact hX.1.2.2.1 | exact hX.1.2.2.2 | exact hX.2.1.1 _ (by first | assumption | exact vp_in_clamp (x_inG hN (by assumption)) | exact vp_in_clamp (x_inD hN (by assumption)) | exact vp_in_clamp (x_inK hN (by assumption)) | exact vp_in_clamp (x_inR hN (by assumption)) | exact hI.rm (by first | assumption | exact vp_in_clamp (x_inG hN (by assumption))) | exact hI.lo (by first | assumption | exact vp_in_clamp (x_inD hN (by assumption))) | exact hI.hi (by first | assumption | exact vp_in_clamp (x_inD hN (by assumption)))) | exact hX.2.1.2.1 _ (by first | assumption | exact vp_in_clamp (x_inD hN (by assumption))) | exact hX.2.1.2.2.1 _ (by first | assumption | exact vp_in_clamp (x_inK hN (by assumption))) | exact hX.2.1.2.2.2 _ (by first | assumption | exact vp_in_clamp (x_inG hN (by assumption)))) rfl wb_243 dX5_openLocks_17 ?_
    refine z_astore_n C dX5_openLocks_20 (by decide) ?_
    refine z_aload_n C dX5_openLocks_21 rfl ?_
    refine z_get C (by first | exact hX.1.1 | exact hX.1.2.1 | exact hX.1.2.2.1 | exact hX.1.2.2.2 | exact hX.2.1.1 _ (by first | assumption | exact vp_in_clamp (x_inG hN (by assumption)) | exact vp_in_clamp (x_inD hN (by assumption)) | exact vp_in_clamp (x_inK hN (by assumption)) | exact vp_in_clamp (x_inR hN (by assumption)) | exact hI.rm (by first | assumption | exact vp_in_clamp (x_inG hN (by assumption))) | exact hI.lo (by first | assumption | exact vp_in_clamp (x_inD hN (by assumption))) | exact hI.hi (by first | assumption | exact vp_in_clamp (x_inD hN (by assumption)))) | exact hX.2.1.2.1 _ (by first | assumption | exact vp_in_clamp (x_inD hN (by assumption))) | exact hX.2.1.2.2.1 _ (by first | assumption | exact vp_in_clamp (x_inK hN (by assumption))) | exact hX.2.1.2.2.2 _ (by first | assumption | exact vp_in_clamp (x_inG hN (by assumption)))) z_cls1 hu_X0 8 (by decide) wb_281 rfl rfl dX5_openLocks_22 ?_
    refine z_ifb_eq C 35 dX5_openLocks_25 (by decide) (fun h25 => ?_) (fun h25 => ?_)
    · refine z_iinc C dX5_openLocks_35 rfl rfl (by decide) ?_
      refine z_goto C 4 dX5_openLocks_38 (by decide) ?_
      exact ihi hlti _ ⟨rfl, z_lgI rfl (by simp [x_ol, *]), z_lgI rfl (z_inc i), trivial⟩
    · refine z_iload_n C dX5_openLocks_28 rfl ?_
      refine z_aload_n C dX5_openLocks_29 rfl ?_
      refine z_get C (by first | exact hX.1.1 | exact hX.1.2.1 | exact hX.1.2.2.1 | exact hX.1.2.2.2 | exact hX.2.1.1 _ (by first | assumption | exact vp_in_clamp (x_inG hN (by assumption)) | exact vp_in_clamp (x_inD hN (by assumption)) | exact vp_in_clamp (x_inK hN (by assumption)) | exact vp_in_clamp (x_inR hN (by assumption)) | exact hI.rm (by first | assumption | exact vp_in_clamp (x_inG hN (by assumption))) | exact hI.lo (by first | assumption | exact vp_in_clamp (x_inD hN (by assumption))) | exact hI.hi (by first | assumption | exact vp_in_clamp (x_inD hN (by assumption)))) | exact hX.2.1.2.1 _ (by first | assumption | exact vp_in_clamp (x_inD hN (by assumption))) | exact hX.2.1.2.2.1 _ (by first | assumption | exact vp_in_clamp (x_inK hN (by assumption))) | exact hX.2.1.2.2.2 _ (by first | assumption | exact vp_in_clamp (x_inG hN (by assumption)))) z_cls1 hu_X0 7 (by decide) wb_279 rfl rfl dX5_openLocks_30 ?_
      refine z_ior C dX5_openLocks_33 ?_
      refine z_istore_n C dX5_openLocks_34 (by decide) ?_
      refine z_iinc C dX5_openLocks_35 rfl rfl (by decide) ?_
      refine z_goto C 4 dX5_openLocks_38 (by decide) ?_
      exact ihi hlti _ ⟨rfl, z_lgI rfl (by simp [x_ol, *]), z_lgI rfl (z_inc i), trivial⟩

set_option maxHeartbeats 4000000 in
set_option maxRecDepth 100000 in
theorem c_X5_lowerRoom (l : Launch) (G : z_G) (ad : Nat → Nat → Nat) (M : m_S) (T : x_T) {nR nD nK nG : Nat} (hI : m_I nR nD nK nG M) (a b : Int32) (ha : vp_in a nR) (hb : vp_in b nR) : z_MR l yX5_lowerRoom cX5_lowerRoom 3 (some (.object "EscapeRooms$Room")) 3 [.ref (ad 4 0), .int a, .int b] G (fun H => x_R G ad nR nD nK nG M T H) (.ref (ad 0 (if b < a then b else a).toNatClampNeg)) := by
  refine z_M.of (by decide +kernel) (Nat.le_of_ble_eq_true rfl) ?_
  intro p e s m below meth c C hP
  have hX : x_R G ad nR nD nK nG M T s.heap := hP
  have hN := hI.1
  have hR12 := hN.1.2; have hD16 := hN.2.1.2; have hK16 := hN.2.2.1.2; have hG6 := hN.2.2.2.2
  have hab : vp_in (if b < a then b else a) nR := by split <;> assumption
  have hlt := vp_in_clamp hab
  refine z_aload_n C dX5_lowerRoom_0 rfl ?_
  refine z_get C (by first | exact hX.1.1 | exact hX.1.2.1 | exact hX.1.2.2.1 | exact hX.1.2.2.2 | exact hX.2.1.1 _ (by first | assumption | exact vp_in_clamp (x_inG hN (by assumption)) | exact vp_in_clamp (x_inD hN (by assumption)) | exact vp_in_clamp (x_inK hN (by assumption)) | exact vp_in_clamp (x_inR hN (by assumption)) | exact hI.rm (by first | assumption | exact vp_in_clamp (x_inG hN (by assumption))) | exact hI.lo (by first | assumption | exact vp_in_clamp (x_inD hN (by assumption))) | exact hI.hi (by first | assumption | exact vp_in_clamp (x_inD hN (by assumption)))) | exact hX.2.1.2.1 _ (by first | assumption | exact vp_in_clamp (x_inD hN (by assumption))) | exact hX.2.1.2.2.1 _ (by first | assumption | exact vp_in_clamp (x_inK hN (by assumption))) | exact hX.2.1.2.2.2 _ (by first | assumption | exact vp_in_clamp (x_inG hN (by assumption)))) z_cls6 hu_X5 0 (by decide) wb_94 rfl rfl dX5_lowerRoom_1 ?_
  refine z_iload_n C dX5_lowerRoom_4 rfl ?_
  refine z_iload_n C dX5_lowerRoom_5 rfl ?_
  refine z_mmin C wb_249 wb_203 wb_9 wb_204 (by decide) (Nat.le_of_ble_eq_true rfl) (Nat.zero_le _) (Nat.zero_le _) dX5_lowerRoom_6 ?_
  refine k_get C (by first | exact hX.2.2.1.1 | exact hX.2.2.1.2.1 | exact hX.2.2.1.2.2.1 | exact hX.2.2.1.2.2.2) (by first | assumption | exact x_inG hN (by assumption) | exact x_inD hN (by assumption) | exact x_inK hN (by assumption) | exact x_inR hN (by assumption)) (by omega) (by first | exact hcli | rfl) wb_222 ⟨by decide, by decide⟩ ⟨Nat.zero_le _, Nat.zero_le _⟩ (Nat.le_of_ble_eq_true rfl) dX5_lowerRoom_9 ?_
  refine z_cast (q := (RX4, TX4, 3)) C (by first | exact hX.1.1 | exact hX.1.2.1 | exact hX.1.2.2.1 | exact hX.1.2.2.2 | exact hX.2.1.1 _ (by first | assumption | exact vp_in_clamp (x_inG hN (by assumption)) | exact vp_in_clamp (x_inD hN (by assumption)) | exact vp_in_clamp (x_inK hN (by assumption)) | exact vp_in_clamp (x_inR hN (by assumption)) | exact hI.rm (by first | assumption | exact vp_in_clamp (x_inG hN (by assumption))) | exact hI.lo (by first | assumption | exact vp_in_clamp (x_inD hN (by assumption))) | exact hI.hi (by first | assumption | exact vp_in_clamp (x_inD hN (by assumption)))) | exact hX.2.1.2.1 _ (by first | assumption | exact vp_in_clamp (x_inD hN (by assumption))) | exact hX.2.1.2.2.1 _ (by first | assumption | exact vp_in_clamp (x_inK hN (by assumption))) | exact hX.2.1.2.2.2 _ (by first | assumption | exact vp_in_clamp (x_inG hN (by assumption)))) rfl wb_133 dX5_lowerRoom_12 ?_
  exact z_aret C (by first | exact Or.inl ⟨_, rfl⟩ | exact Or.inr ⟨_, rfl⟩) (by omega) (by omega) dX5_lowerRoom_15 (by exact ⟨rfl, rfl⟩)

set_option maxHeartbeats 4000000 in
set_option maxRecDepth 100000 in
theorem c_X5_higherRoom (l : Launch) (G : z_G) (ad : Nat → Nat → Nat) (M : m_S) (T : x_T) {nR nD nK nG : Nat} (hI : m_I nR nD nK nG M) (a b : Int32) (ha : vp_in a nR) (hb : vp_in b nR) : z_MR l yX5_higherRoom cX5_higherRoom 3 (some (.object "EscapeRooms$Room")) 3 [.ref (ad 4 0), .int a, .int b] G (fun H => x_R G ad nR nD nK nG M T H) (.ref (ad 0 (if a < b then b else a).toNatClampNeg)) := by
  refine z_M.of (by decide +kernel) (Nat.le_of_ble_eq_true rfl) ?_
  intro p e s m below meth c C hP
  have hX : x_R G ad nR nD nK nG M T s.heap := hP
  have hN := hI.1
  have hR12 := hN.1.2; have hD16 := hN.2.1.2; have hK16 := hN.2.2.1.2; have hG6 := hN.2.2.2.2
  have hab : vp_in (if a < b then b else a) nR := by split <;> assumption
  have hlt := vp_in_clamp hab
  refine z_aload_n C dX5_higherRoom_0 rfl ?_
  refine z_get C (by first | exact hX.1.1 | exact hX.1.2.1 | exact hX.1.2.2.1 | exact hX.1.2.2.2 | exact hX.2.1.1 _ (by first | assumption | exact vp_in_clamp (x_inG hN (by assumption)) | exact vp_in_clamp (x_inD hN (by assumption)) | exact vp_in_clamp (x_inK hN (by assumption)) | exact vp_in_clamp (x_inR hN (by assumption)) | exact hI.rm (by first | assumption | exact vp_in_clamp (x_inG hN (by assumption))) | exact hI.lo (by first | assumption | exact vp_in_clamp (x_inD hN (by assumption))) | exact hI.hi (by first | assumption | exact vp_in_clamp (x_inD hN (by assumption)))) | exact hX.2.1.2.1 _ (by first | assumption | exact vp_in_clamp (x_inD hN (by assumption))) | exact hX.2.1.2.2.1 _ (by first | assumption | exact vp_in_clamp (x_inK hN (by assumption))) | exact hX.2.1.2.2.2 _ (by first | assumption | exact vp_in_clamp (x_inG hN (by assumption)))) z_cls6 hu_X5 0 (by decide) wb_94 rfl rfl dX5_higherRoom_1 ?_
  refine z_iload_n C dX5_higherRoom_4 rfl ?_
  refine z_iload_n C dX5_higherRoom_5 rfl ?_
  refine z_mmax C wb_254 wb_175 wb_9 wb_176 (by decide) (Nat.le_of_ble_eq_true rfl) (Nat.zero_le _) (Nat.zero_le _) dX5_higherRoom_6 ?_
  refine k_get C (by first | exact hX.2.2.1.1 | exact hX.2.2.1.2.1 | exact hX.2.2.1.2.2.1 | exact hX.2.2.1.2.2.2) (by first | assumption | exact x_inG hN (by assumption) | exact x_inD hN (by assumption) | exact x_inK hN (by assumption) | exact x_inR hN (by assumption)) (by omega) (by first | exact hcli | rfl) wb_222 ⟨by decide, by decide⟩ ⟨Nat.zero_le _, Nat.zero_le _⟩ (Nat.le_of_ble_eq_true rfl) dX5_higherRoom_9 ?_
  refine z_cast (q := (RX4, TX4, 3)) C (by first | exact hX.1.1 | exact hX.1.2.1 | exact hX.1.2.2.1 | exact hX.1.2.2.2 | exact hX.2.1.1 _ (by first | assumption | exact vp_in_clamp (x_inG hN (by assumption)) | exact vp_in_clamp (x_inD hN (by assumption)) | exact vp_in_clamp (x_inK hN (by assumption)) | exact vp_in_clamp (x_inR hN (by assumption)) | exact hI.rm (by first | assumption | exact vp_in_clamp (x_inG hN (by assumption))) | exact hI.lo (by first | assumption | exact vp_in_clamp (x_inD hN (by assumption))) | exact hI.hi (by first | assumption | exact vp_in_clamp (x_inD hN (by assumption)))) | exact hX.2.1.2.1 _ (by first | assumption | exact vp_in_clamp (x_inD hN (by assumption))) | exact hX.2.1.2.2.1 _ (by first | assumption | exact vp_in_clamp (x_inK hN (by assumption))) | exact hX.2.1.2.2.2 _ (by first | assumption | exact vp_in_clamp (x_inG hN (by assumption)))) rfl wb_133 dX5_higherRoom_12 ?_
  exact z_aret C (by first | exact Or.inl ⟨_, rfl⟩ | exact Or.inr ⟨_, rfl⟩) (by omega) (by omega) dX5_higherRoom_15 (by exact ⟨rfl, rfl⟩)

