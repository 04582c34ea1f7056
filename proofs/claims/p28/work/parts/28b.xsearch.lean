set_option maxHeartbeats 4000000 in
set_option maxRecDepth 100000 in
theorem c_X3_isOpenedByPlan (l : Launch) (G : z_G) (ad : Nat → Nat → Nat) (M : m_S) (T : x_T) {nR nD nK nG : Nat} (hI : m_I nR nD nK nG M) {g : Nat} (hg : g < nG) (hW : x_W ad M nD g T) (d s0 : Nat) (hd : d < nD) (hs0 : s0 < 2 ^ 31) : z_MR l yX3_isOpenedByPlan cX3_isOpenedByPlan 3 (some .boolean) 0 [.ref (ad 4 9), .ref (ad 1 d), .int (nI s0)] G (fun H => x_R G ad nR nD nK nG M T H) (.int (z_b (k_C M nD (x_lc M) s0 d))) := by
  refine z_M.of (by decide +kernel) (Nat.le_of_ble_eq_true rfl) ?_
  intro p e s m below meth c C hP
  have hX : x_R G ad nR nD nK nG M T s.heap := hP
  have hN := hI.1
  have hR12 := hN.1.2; have hD16 := hN.2.1.2; have hK16 := hN.2.2.1.2; have hG6 := hN.2.2.2.2
  obtain ⟨hW0, hW1, hW2, hW3⟩ := hW
  refine z_iload_n C dX3_isOpenedByPlan_0 rfl ?_
  refine z_aload_n C dX3_isOpenedByPlan_1 rfl ?_
  refine z_get C (by first | exact hX.1.1 | exact hX.1.2.1 | exact hX.1.2.2.1 | exact hX.1.2.2.2 | exact hX.2.1.1 _ (by first | assumption | exact vp_in_clamp (x_inG hN (by assumption)) | exact vp_in_clamp (x_inD hN (by assumption)) | exact vp_in_clamp (x_inK hN (by assumption)) | exact vp_in_clamp (x_inR hN (by assumption)) | exact hI.rm (by first | assumption | exact vp_in_clamp (x_inG hN (by assumption))) | exact hI.lo (by first | assumption | exact vp_in_clamp (x_inD hN (by assumption))) | exact hI.hi (by first | assumption | exact vp_in_clamp (x_inD hN (by assumption)))) | exact hX.2.1.2.1 _ (by first | assumption | exact vp_in_clamp (x_inD hN (by assumption))) | exact hX.2.1.2.2.1 _ (by first | assumption | exact vp_in_clamp (x_inK hN (by assumption))) | exact hX.2.1.2.2.2 _ (by first | assumption | exact vp_in_clamp (x_inG hN (by assumption)))) z_cls4 hu_X3 5 (by decide) wb_63 rfl rfl dX3_isOpenedByPlan_2 ?_
  rw [hW3]
  refine z_iconst (v := (-1)) C dX3_isOpenedByPlan_5 (by decide) ?_
  refine z_ixor C dX3_isOpenedByPlan_6 ?_
  refine z_iand C dX3_isOpenedByPlan_7 ?_
  refine z_aload_n C dX3_isOpenedByPlan_8 rfl ?_
  refine z_get C (by first | exact hX.1.1 | exact hX.1.2.1 | exact hX.1.2.2.1 | exact hX.1.2.2.2 | exact hX.2.1.1 _ (by first | assumption | exact vp_in_clamp (x_inG hN (by assumption)) | exact vp_in_clamp (x_inD hN (by assumption)) | exact vp_in_clamp (x_inK hN (by assumption)) | exact vp_in_clamp (x_inR hN (by assumption)) | exact hI.rm (by first | assumption | exact vp_in_clamp (x_inG hN (by assumption))) | exact hI.lo (by first | assumption | exact vp_in_clamp (x_inD hN (by assumption))) | exact hI.hi (by first | assumption | exact vp_in_clamp (x_inD hN (by assumption)))) | exact hX.2.1.2.1 _ (by first | assumption | exact vp_in_clamp (x_inD hN (by assumption))) | exact hX.2.1.2.2.1 _ (by first | assumption | exact vp_in_clamp (x_inK hN (by assumption))) | exact hX.2.1.2.2.2 _ (by first | assumption | exact vp_in_clamp (x_inG hN (by assumption)))) z_cls1 hu_X0 7 (by decide) wb_278 rfl rfl dX3_isOpenedByPlan_9 ?_
  refine z_iand C dX3_isOpenedByPlan_12 ?_
  refine z_if_eq C 20 dX3_isOpenedByPlan_13 (by decide) (fun h13 => ?_) (fun h13 => ?_)
  · refine z_iconst (v := 0) C dX3_isOpenedByPlan_20 (by decide) ?_
    exact z_bret C (by omega) (by omega) dX3_isOpenedByPlan_21 (by rfl) (by exact ⟨congrArg (fun z => some (Value.int z)) (by rw [← x_byPlan hI hd hs0]; first | (rw [decide_eq_true h13]; rfl) | (rw [decide_eq_false h13]; rfl)), rfl⟩)
  · refine z_iconst (v := 1) C dX3_isOpenedByPlan_16 (by decide) ?_
    refine z_goto C 21 dX3_isOpenedByPlan_17 (by decide) ?_
    exact z_bret C (by omega) (by omega) dX3_isOpenedByPlan_21 (by rfl) (by exact ⟨congrArg (fun z => some (Value.int z)) (by rw [← x_byPlan hI hd hs0]; first | (rw [decide_eq_true h13]; rfl) | (rw [decide_eq_false h13]; rfl)), rfl⟩)

set_option maxHeartbeats 4000000 in
set_option maxRecDepth 100000 in
theorem c_X3_hasOne (l : Launch) (G : z_G) (x c0 : Int32) : z_MR l yX3_hasOne cX3_hasOne 2 (some .boolean) 0 [.int x, .int c0] G (fun H => True) (.int (z_b (c_dig x c0))) := by
  refine z_M.of (by decide +kernel) (Nat.le_of_ble_eq_true rfl) ?_
  intro p e s m below meth c C hP
  refine z_iload_n C dX3_hasOne_0 rfl ?_
  refine z_iconst (v := 5) C dX3_hasOne_1 (by decide) ?_
  refine z_iload_n C dX3_hasOne_2 rfl ?_
  refine z_imul C dX3_hasOne_3 ?_
  refine z_ishr C dX3_hasOne_4 ?_
  refine z_bipush (v := 31) C dX3_hasOne_5 (by decide) ?_
  refine z_iand C dX3_hasOne_7 ?_
  refine z_if_eq C 15 dX3_hasOne_8 (by decide) (fun h8 => ?_) (fun h8 => ?_)
  · refine z_iconst (v := 0) C dX3_hasOne_15 (by decide) ?_
    exact z_bret C (by omega) (by omega) dX3_hasOne_16 (by rfl) (by exact ⟨congrArg (fun z => some (Value.int z)) (by simp [z_b, c_dig, *]), rfl⟩)
  · refine z_iconst (v := 1) C dX3_hasOne_11 (by decide) ?_
    refine z_goto C 16 dX3_hasOne_12 (by decide) ?_
    exact z_bret C (by omega) (by omega) dX3_hasOne_16 (by rfl) (by exact ⟨congrArg (fun z => some (Value.int z)) (by simp [z_b, c_dig, *]), rfl⟩)

set_option maxHeartbeats 4000000 in
set_option maxRecDepth 100000 in
theorem c_X3_keysLeft (l : Launch) (G : z_G) (ad : Nat → Nat → Nat) (M : m_S) (T : x_T) {nR nD nK nG : Nat} (hI : m_I nR nD nK nG M) {g : Nat} (hg : g < nG) (hW : x_W ad M nD g T) (s0 : Nat) (hs0 : s0 < 2 ^ 31) (y : Int32) : z_MR l yX3_keysLeft cX3_keysLeft 6 (some .int) 3 [.ref (ad 4 9), .int (nI s0), .int y] G (fun H => x_R G ad nR nD nK nG M T H) (.int (x_kl M nK (nI g) y nK - x_kd M (k_C M nD (x_lc M) s0) nD)) := by
  refine z_M.of (by decide +kernel) (Nat.le_of_ble_eq_true rfl) ?_
  intro p e s m below meth c C hP
  have hX : x_R G ad nR nD nK nG M T s.heap := hP
  have hN := hI.1
  have hR12 := hN.1.2; have hD16 := hN.2.1.2; have hK16 := hN.2.2.1.2; have hG6 := hN.2.2.2.2
  obtain ⟨hW0, hW1, hW2, hW3⟩ := hW
  have hW : x_W ad M nD g T := ⟨hW0, hW1, hW2, hW3⟩
  refine z_iconst (v := 0) C dX3_keysLeft_0 (by decide) ?_
  refine z_istore_n C dX3_keysLeft_1 (by decide) ?_
  refine z_iconst (v := 0) C dX3_keysLeft_2 (by decide) ?_
  refine z_istore C dX3_keysLeft_3 (by decide) ?_
  refine z_loopN (fun i => [(0, .ref (ad 4 9)), (1, .int (nI s0)), (2, .int y), (3, .int (x_kl M nK (nI g) y i)), (4, .int (nI i))]) nK ⟨rfl, rfl, rfl, rfl, rfl, trivial⟩ (fun i hi ihi => ?_)
  refine z_iload C dX3_keysLeft_5 rfl ?_
  refine z_aload_n C dX3_keysLeft_7 rfl ?_
  refine z_get C (by first | exact hX.1.1 | exact hX.1.2.1 | exact hX.1.2.2.1 | exact hX.1.2.2.2 | exact hX.2.1.1 _ (by first | assumption | exact vp_in_clamp (x_inG hN (by assumption)) | exact vp_in_clamp (x_inD hN (by assumption)) | exact vp_in_clamp (x_inK hN (by assumption)) | exact vp_in_clamp (x_inR hN (by assumption)) | exact hI.rm (by first | assumption | exact vp_in_clamp (x_inG hN (by assumption))) | exact hI.lo (by first | assumption | exact vp_in_clamp (x_inD hN (by assumption))) | exact hI.hi (by first | assumption | exact vp_in_clamp (x_inD hN (by assumption)))) | exact hX.2.1.2.1 _ (by first | assumption | exact vp_in_clamp (x_inD hN (by assumption))) | exact hX.2.1.2.2.1 _ (by first | assumption | exact vp_in_clamp (x_inK hN (by assumption))) | exact hX.2.1.2.2.2 _ (by first | assumption | exact vp_in_clamp (x_inG hN (by assumption)))) z_cls4 hu_X3 4 (by decide) wb_62 rfl rfl dX3_keysLeft_8 ?_
  rw [hW2]
  refine k_size C (by first | exact hX.2.2.1.1 | exact hX.2.2.1.2.1 | exact hX.2.2.1.2.2.1 | exact hX.2.2.1.2.2.2) wb_520 ⟨by decide, by decide⟩ ⟨Nat.zero_le _, Nat.zero_le _⟩ (Nat.le_of_ble_eq_true rfl) dX3_keysLeft_11 ?_
  refine z_icmp_ge C 62 dX3_keysLeft_14 (by decide) (fun h14 => ?_) (fun h14 => ?_)
  · obtain rfl := Eq.symm <| z_ge (rfl : nI nK = nI nK) (by omega) hi h14
    refine z_iconst (v := 0) C dX3_keysLeft_62 (by decide) ?_
    refine z_istore C dX3_keysLeft_63 (by decide) ?_
    refine z_loopN (fun i => [(0, .ref (ad 4 9)), (1, .int (nI s0)), (2, .int y), (3, .int (x_kl M nK (nI g) y nK - x_kd M (k_C M nD (x_lc M) s0) i)), (4, .int (nI i))]) nD ⟨rfl, rfl, rfl, z_lgI rfl (Int32.sub_zero _).symm, rfl, trivial⟩ (fun i hi ihi => ?_)
    refine z_iload C dX3_keysLeft_65 rfl ?_
    refine z_aload_n C dX3_keysLeft_67 rfl ?_
    refine z_get C (by first | exact hX.1.1 | exact hX.1.2.1 | exact hX.1.2.2.1 | exact hX.1.2.2.2 | exact hX.2.1.1 _ (by first | assumption | exact vp_in_clamp (x_inG hN (by assumption)) | exact vp_in_clamp (x_inD hN (by assumption)) | exact vp_in_clamp (x_inK hN (by assumption)) | exact vp_in_clamp (x_inR hN (by assumption)) | exact hI.rm (by first | assumption | exact vp_in_clamp (x_inG hN (by assumption))) | exact hI.lo (by first | assumption | exact vp_in_clamp (x_inD hN (by assumption))) | exact hI.hi (by first | assumption | exact vp_in_clamp (x_inD hN (by assumption)))) | exact hX.2.1.2.1 _ (by first | assumption | exact vp_in_clamp (x_inD hN (by assumption))) | exact hX.2.1.2.2.1 _ (by first | assumption | exact vp_in_clamp (x_inK hN (by assumption))) | exact hX.2.1.2.2.2 _ (by first | assumption | exact vp_in_clamp (x_inG hN (by assumption)))) z_cls4 hu_X3 3 (by decide) wb_61 rfl rfl dX3_keysLeft_68 ?_
    rw [hW1]
    refine k_size C (by first | exact hX.2.2.1.1 | exact hX.2.2.1.2.1 | exact hX.2.2.1.2.2.1 | exact hX.2.2.1.2.2.2) wb_520 ⟨by decide, by decide⟩ ⟨Nat.zero_le _, Nat.zero_le _⟩ (Nat.le_of_ble_eq_true rfl) dX3_keysLeft_71 ?_
    refine z_icmp_ge C 119 dX3_keysLeft_74 (by decide) (fun h74 => ?_) (fun h74 => ?_)
    · obtain rfl := Eq.symm <| z_ge (rfl : nI nD = nI nD) (by omega) hi h74
      refine z_iload_n C dX3_keysLeft_119 rfl ?_
      exact z_iret C (by omega) (by omega) dX3_keysLeft_120 (by exact ⟨rfl, rfl⟩)
    · have hlti := z_lt (rfl : nI nD = nI nD) (by omega) hi h74
      have hini : vp_in (nI i) nD := vp_in_nI hlti (by omega)
      have hcli : (nI i).toNatClampNeg = i := nI_clamp (by omega)
      refine z_aload_n C dX3_keysLeft_77 rfl ?_
      refine z_get C (by first | exact hX.1.1 | exact hX.1.2.1 | exact hX.1.2.2.1 | exact hX.1.2.2.2 | exact hX.2.1.1 _ (by first | assumption | exact vp_in_clamp (x_inG hN (by assumption)) | exact vp_in_clamp (x_inD hN (by assumption)) | exact vp_in_clamp (x_inK hN (by assumption)) | exact vp_in_clamp (x_inR hN (by assumption)) | exact hI.rm (by first | assumption | exact vp_in_clamp (x_inG hN (by assumption))) | exact hI.lo (by first | assumption | exact vp_in_clamp (x_inD hN (by assumption))) | exact hI.hi (by first | assumption | exact vp_in_clamp (x_inD hN (by assumption)))) | exact hX.2.1.2.1 _ (by first | assumption | exact vp_in_clamp (x_inD hN (by assumption))) | exact hX.2.1.2.2.1 _ (by first | assumption | exact vp_in_clamp (x_inK hN (by assumption))) | exact hX.2.1.2.2.2 _ (by first | assumption | exact vp_in_clamp (x_inG hN (by assumption)))) z_cls4 hu_X3 3 (by decide) wb_61 rfl rfl dX3_keysLeft_78 ?_
      rw [hW1]
      refine z_iload C dX3_keysLeft_81 rfl ?_
      refine k_get C (by first | exact hX.2.2.1.1 | exact hX.2.2.1.2.1 | exact hX.2.2.1.2.2.1 | exact hX.2.2.1.2.2.2) (by first | assumption | exact x_inG hN (by assumption) | exact x_inD hN (by assumption) | exact x_inK hN (by assumption) | exact x_inR hN (by assumption)) (by omega) (by first | exact hcli | rfl) wb_521 ⟨by decide, by decide⟩ ⟨Nat.zero_le _, Nat.zero_le _⟩ (Nat.le_of_ble_eq_true rfl) dX3_keysLeft_83 ?_
      refine z_cast (q := (RX0, TX0, 10)) C (by first | exact hX.1.1 | exact hX.1.2.1 | exact hX.1.2.2.1 | exact hX.1.2.2.2 | exact hX.2.1.1 _ (by first | assumption | exact vp_in_clamp (x_inG hN (by assumption)) | exact vp_in_clamp (x_inD hN (by assumption)) | exact vp_in_clamp (x_inK hN (by assumption)) | exact vp_in_clamp (x_inR hN (by assumption)) | exact hI.rm (by first | assumption | exact vp_in_clamp (x_inG hN (by assumption))) | exact hI.lo (by first | assumption | exact vp_in_clamp (x_inD hN (by assumption))) | exact hI.hi (by first | assumption | exact vp_in_clamp (x_inD hN (by assumption)))) | exact hX.2.1.2.1 _ (by first | assumption | exact vp_in_clamp (x_inD hN (by assumption))) | exact hX.2.1.2.2.1 _ (by first | assumption | exact vp_in_clamp (x_inK hN (by assumption))) | exact hX.2.1.2.2.2 _ (by first | assumption | exact vp_in_clamp (x_inG hN (by assumption)))) rfl wb_522 dX3_keysLeft_86 ?_
      refine z_astore C dX3_keysLeft_89 (by decide) ?_
      refine z_aload_n C dX3_keysLeft_91 rfl ?_
      refine z_aload C dX3_keysLeft_92 rfl ?_
      refine z_iload_n C dX3_keysLeft_94 rfl ?_
      refine z_callVR (As := [.ref _, .int _]) C (c_X3_isOpenedByPlan _ _ ad M T hI hg hW i s0 hlti hs0) kc_X3_isOpenedByPlan wb_523 ⟨by decide, by decide⟩ (by first | exact hX.1.1 | exact hX.1.2.1 | exact hX.1.2.2.1 | exact hX.1.2.2.2 | exact hX.2.1.1 _ (by first | assumption | exact vp_in_clamp (x_inG hN (by assumption)) | exact vp_in_clamp (x_inD hN (by assumption)) | exact vp_in_clamp (x_inK hN (by assumption)) | exact vp_in_clamp (x_inR hN (by assumption)) | exact hI.rm (by first | assumption | exact vp_in_clamp (x_inG hN (by assumption))) | exact hI.lo (by first | assumption | exact vp_in_clamp (x_inD hN (by assumption))) | exact hI.hi (by first | assumption | exact vp_in_clamp (x_inD hN (by assumption)))) | exact hX.2.1.2.1 _ (by first | assumption | exact vp_in_clamp (x_inD hN (by assumption))) | exact hX.2.1.2.2.1 _ (by first | assumption | exact vp_in_clamp (x_inK hN (by assumption))) | exact hX.2.1.2.2.2 _ (by first | assumption | exact vp_in_clamp (x_inG hN (by assumption)))) rfl (hX) ⟨Nat.zero_le _, Nat.zero_le _⟩ (Nat.le_of_ble_eq_true rfl) dX3_keysLeft_95 ?_
      refine z_ifb_eq C 113 dX3_keysLeft_98 (by decide) (fun h98 => ?_) (fun h98 => ?_)
      · refine z_iinc C dX3_keysLeft_113 rfl rfl (by decide) ?_
        refine z_goto C 65 dX3_keysLeft_116 (by decide) ?_
        exact ihi hlti _ ⟨rfl, rfl, rfl, z_lgI rfl (by simp [x_kd, m_sum, c_pk, Int32.sub_sub, *]), z_lgI rfl (z_inc i), trivial⟩
      · refine z_iload_n C dX3_keysLeft_101 rfl ?_
        refine z_iconst (v := 1) C dX3_keysLeft_102 (by decide) ?_
        refine z_iconst (v := 5) C dX3_keysLeft_103 (by decide) ?_
        refine z_aload C dX3_keysLeft_104 rfl ?_
        refine z_get C (by first | exact hX.1.1 | exact hX.1.2.1 | exact hX.1.2.2.1 | exact hX.1.2.2.2 | exact hX.2.1.1 _ (by first | assumption | exact vp_in_clamp (x_inG hN (by assumption)) | exact vp_in_clamp (x_inD hN (by assumption)) | exact vp_in_clamp (x_inK hN (by assumption)) | exact vp_in_clamp (x_inR hN (by assumption)) | exact hI.rm (by first | assumption | exact vp_in_clamp (x_inG hN (by assumption))) | exact hI.lo (by first | assumption | exact vp_in_clamp (x_inD hN (by assumption))) | exact hI.hi (by first | assumption | exact vp_in_clamp (x_inD hN (by assumption)))) | exact hX.2.1.2.1 _ (by first | assumption | exact vp_in_clamp (x_inD hN (by assumption))) | exact hX.2.1.2.2.1 _ (by first | assumption | exact vp_in_clamp (x_inK hN (by assumption))) | exact hX.2.1.2.2.2 _ (by first | assumption | exact vp_in_clamp (x_inG hN (by assumption)))) z_cls1 hu_X0 5 (by decide) wb_272 rfl rfl dX3_keysLeft_106 ?_
        refine z_imul C dX3_keysLeft_109 ?_
        refine z_ishl C dX3_keysLeft_110 ?_
        refine z_isub C dX3_keysLeft_111 ?_
        refine z_istore_n C dX3_keysLeft_112 (by decide) ?_
        refine z_iinc C dX3_keysLeft_113 rfl rfl (by decide) ?_
        refine z_goto C 65 dX3_keysLeft_116 (by decide) ?_
        exact ihi hlti _ ⟨rfl, rfl, rfl, z_lgI rfl (by simp [x_kd, m_sum, c_pk, Int32.sub_sub, *]), z_lgI rfl (z_inc i), trivial⟩
  · have hlti := z_lt (rfl : nI nK = nI nK) (by omega) hi h14
    have hini : vp_in (nI i) nK := vp_in_nI hlti (by omega)
    have hcli : (nI i).toNatClampNeg = i := nI_clamp (by omega)
    refine z_aload_n C dX3_keysLeft_17 rfl ?_
    refine z_get C (by first | exact hX.1.1 | exact hX.1.2.1 | exact hX.1.2.2.1 | exact hX.1.2.2.2 | exact hX.2.1.1 _ (by first | assumption | exact vp_in_clamp (x_inG hN (by assumption)) | exact vp_in_clamp (x_inD hN (by assumption)) | exact vp_in_clamp (x_inK hN (by assumption)) | exact vp_in_clamp (x_inR hN (by assumption)) | exact hI.rm (by first | assumption | exact vp_in_clamp (x_inG hN (by assumption))) | exact hI.lo (by first | assumption | exact vp_in_clamp (x_inD hN (by assumption))) | exact hI.hi (by first | assumption | exact vp_in_clamp (x_inD hN (by assumption)))) | exact hX.2.1.2.1 _ (by first | assumption | exact vp_in_clamp (x_inD hN (by assumption))) | exact hX.2.1.2.2.1 _ (by first | assumption | exact vp_in_clamp (x_inK hN (by assumption))) | exact hX.2.1.2.2.2 _ (by first | assumption | exact vp_in_clamp (x_inG hN (by assumption)))) z_cls4 hu_X3 4 (by decide) wb_62 rfl rfl dX3_keysLeft_18 ?_
    rw [hW2]
    refine z_iload C dX3_keysLeft_21 rfl ?_
    refine k_get C (by first | exact hX.2.2.1.1 | exact hX.2.2.1.2.1 | exact hX.2.2.1.2.2.1 | exact hX.2.2.1.2.2.2) (by first | assumption | exact x_inG hN (by assumption) | exact x_inD hN (by assumption) | exact x_inK hN (by assumption) | exact x_inR hN (by assumption)) (by omega) (by first | exact hcli | rfl) wb_521 ⟨by decide, by decide⟩ ⟨Nat.zero_le _, Nat.zero_le _⟩ (Nat.le_of_ble_eq_true rfl) dX3_keysLeft_23 ?_
    refine z_cast (q := (RX2, TX2, 6)) C (by first | exact hX.1.1 | exact hX.1.2.1 | exact hX.1.2.2.1 | exact hX.1.2.2.2 | exact hX.2.1.1 _ (by first | assumption | exact vp_in_clamp (x_inG hN (by assumption)) | exact vp_in_clamp (x_inD hN (by assumption)) | exact vp_in_clamp (x_inK hN (by assumption)) | exact vp_in_clamp (x_inR hN (by assumption)) | exact hI.rm (by first | assumption | exact vp_in_clamp (x_inG hN (by assumption))) | exact hI.lo (by first | assumption | exact vp_in_clamp (x_inD hN (by assumption))) | exact hI.hi (by first | assumption | exact vp_in_clamp (x_inD hN (by assumption)))) | exact hX.2.1.2.1 _ (by first | assumption | exact vp_in_clamp (x_inD hN (by assumption))) | exact hX.2.1.2.2.1 _ (by first | assumption | exact vp_in_clamp (x_inK hN (by assumption))) | exact hX.2.1.2.2.2 _ (by first | assumption | exact vp_in_clamp (x_inG hN (by assumption)))) rfl wb_545 dX3_keysLeft_26 ?_
    refine z_astore C dX3_keysLeft_29 (by decide) ?_
    refine z_aload C dX3_keysLeft_31 rfl ?_
    refine z_aload_n C dX3_keysLeft_33 rfl ?_
    refine z_get C (by first | exact hX.1.1 | exact hX.1.2.1 | exact hX.1.2.2.1 | exact hX.1.2.2.2 | exact hX.2.1.1 _ (by first | assumption | exact vp_in_clamp (x_inG hN (by assumption)) | exact vp_in_clamp (x_inD hN (by assumption)) | exact vp_in_clamp (x_inK hN (by assumption)) | exact vp_in_clamp (x_inR hN (by assumption)) | exact hI.rm (by first | assumption | exact vp_in_clamp (x_inG hN (by assumption))) | exact hI.lo (by first | assumption | exact vp_in_clamp (x_inD hN (by assumption))) | exact hI.hi (by first | assumption | exact vp_in_clamp (x_inD hN (by assumption)))) | exact hX.2.1.2.1 _ (by first | assumption | exact vp_in_clamp (x_inD hN (by assumption))) | exact hX.2.1.2.2.1 _ (by first | assumption | exact vp_in_clamp (x_inK hN (by assumption))) | exact hX.2.1.2.2.2 _ (by first | assumption | exact vp_in_clamp (x_inG hN (by assumption)))) z_cls4 hu_X3 2 (by decide) wb_60 rfl rfl dX3_keysLeft_34 ?_
    rw [hW0]
    refine z_iload_n C dX3_keysLeft_37 rfl ?_
    refine z_callVR (As := [.ref _, .int _]) C (c_X2_isWithin _ _ (ad 2 i) (ad 3 g) (x_bit (M.2 12 i)) _ _ _ _ _ _ _) kc_X2_isWithin wb_546 ⟨by decide, by decide⟩ (hX.2.1.2.2.1 i hlti) rfl (⟨hX.2.1.2.2.1 i hlti, fun r hr => by obtain ⟨-, r1, hr1, rfl, e12⟩ := x_kr_some hI hlti hr; rw [e12]; exact ⟨_, _, hX.2.1.1 r1 hr1⟩⟩) ⟨Nat.zero_le _, Nat.zero_le _⟩ (Nat.le_of_ble_eq_true rfl) dX3_keysLeft_38 ?_
    rw [x_within hI hX.2.2.2 hlti hg]
    refine z_ifb_eq C 56 dX3_keysLeft_41 (by decide) (fun h41 => ?_) (fun h41 => ?_)
    · refine z_iinc C dX3_keysLeft_56 rfl rfl (by decide) ?_
      refine z_goto C 5 dX3_keysLeft_59 (by decide) ?_
      exact ihi hlti _ ⟨rfl, rfl, rfl, z_lgI rfl (by simp [x_kl, m_sum, c_pk, *]), z_lgI rfl (z_inc i), trivial⟩
    · refine z_iload_n C dX3_keysLeft_44 rfl ?_
      refine z_iconst (v := 1) C dX3_keysLeft_45 (by decide) ?_
      refine z_iconst (v := 5) C dX3_keysLeft_46 (by decide) ?_
      refine z_aload C dX3_keysLeft_47 rfl ?_
      refine z_get C (by first | exact hX.1.1 | exact hX.1.2.1 | exact hX.1.2.2.1 | exact hX.1.2.2.2 | exact hX.2.1.1 _ (by first | assumption | exact vp_in_clamp (x_inG hN (by assumption)) | exact vp_in_clamp (x_inD hN (by assumption)) | exact vp_in_clamp (x_inK hN (by assumption)) | exact vp_in_clamp (x_inR hN (by assumption)) | exact hI.rm (by first | assumption | exact vp_in_clamp (x_inG hN (by assumption))) | exact hI.lo (by first | assumption | exact vp_in_clamp (x_inD hN (by assumption))) | exact hI.hi (by first | assumption | exact vp_in_clamp (x_inD hN (by assumption)))) | exact hX.2.1.2.1 _ (by first | assumption | exact vp_in_clamp (x_inD hN (by assumption))) | exact hX.2.1.2.2.1 _ (by first | assumption | exact vp_in_clamp (x_inK hN (by assumption))) | exact hX.2.1.2.2.2 _ (by first | assumption | exact vp_in_clamp (x_inG hN (by assumption)))) z_cls3 hu_X2 1 (by decide) wb_329 rfl rfl dX3_keysLeft_49 ?_
      refine z_imul C dX3_keysLeft_52 ?_
      refine z_ishl C dX3_keysLeft_53 ?_
      refine z_iadd C dX3_keysLeft_54 ?_
      refine z_istore_n C dX3_keysLeft_55 (by decide) ?_
      refine z_iinc C dX3_keysLeft_56 rfl rfl (by decide) ?_
      refine z_goto C 5 dX3_keysLeft_59 (by decide) ?_
      exact ihi hlti _ ⟨rfl, rfl, rfl, z_lgI rfl (by simp [x_kl, m_sum, c_pk, *]), z_lgI rfl (z_inc i), trivial⟩

set_option maxHeartbeats 4000000 in
set_option maxRecDepth 100000 in
theorem c_X3_costOf (l : Launch) (G : z_G) (ad : Nat → Nat → Nat) (M : m_S) (T : x_T) {nR nD nK nG : Nat} (hI : m_I nR nD nK nG M) {g : Nat} (hg : g < nG) (hW : x_W ad M nD g T) (s0 : Nat) (hs0 : s0 < 2 ^ 31) : z_MR l yX3_costOf cX3_costOf 5 (some .int) 3 [.ref (ad 4 9), .int (nI s0)] G (fun H => x_R G ad nR nD nK nG M T H) (.int (x_cost M (k_C M nD (x_lc M) s0) nD)) := by
  refine z_M.of (by decide +kernel) (Nat.le_of_ble_eq_true rfl) ?_
  intro p e s m below meth c C hP
  have hX : x_R G ad nR nD nK nG M T s.heap := hP
  have hN := hI.1
  have hR12 := hN.1.2; have hD16 := hN.2.1.2; have hK16 := hN.2.2.1.2; have hG6 := hN.2.2.2.2
  obtain ⟨hW0, hW1, hW2, hW3⟩ := hW
  have hW : x_W ad M nD g T := ⟨hW0, hW1, hW2, hW3⟩
  refine z_iconst (v := 0) C dX3_costOf_0 (by decide) ?_
  refine z_istore_n C dX3_costOf_1 (by decide) ?_
  refine z_iconst (v := 0) C dX3_costOf_2 (by decide) ?_
  refine z_istore_n C dX3_costOf_3 (by decide) ?_
  refine z_loopN (fun i => [(0, .ref (ad 4 9)), (1, .int (nI s0)), (2, .int (x_cost M (k_C M nD (x_lc M) s0) i)), (3, .int (nI i))]) nD ⟨rfl, rfl, rfl, rfl, trivial⟩ (fun i hi ihi => ?_)
  refine z_iload_n C dX3_costOf_4 rfl ?_
  refine z_aload_n C dX3_costOf_5 rfl ?_
  refine z_get C (by first | exact hX.1.1 | exact hX.1.2.1 | exact hX.1.2.2.1 | exact hX.1.2.2.2 | exact hX.2.1.1 _ (by first | assumption | exact vp_in_clamp (x_inG hN (by assumption)) | exact vp_in_clamp (x_inD hN (by assumption)) | exact vp_in_clamp (x_inK hN (by assumption)) | exact vp_in_clamp (x_inR hN (by assumption)) | exact hI.rm (by first | assumption | exact vp_in_clamp (x_inG hN (by assumption))) | exact hI.lo (by first | assumption | exact vp_in_clamp (x_inD hN (by assumption))) | exact hI.hi (by first | assumption | exact vp_in_clamp (x_inD hN (by assumption)))) | exact hX.2.1.2.1 _ (by first | assumption | exact vp_in_clamp (x_inD hN (by assumption))) | exact hX.2.1.2.2.1 _ (by first | assumption | exact vp_in_clamp (x_inK hN (by assumption))) | exact hX.2.1.2.2.2 _ (by first | assumption | exact vp_in_clamp (x_inG hN (by assumption)))) z_cls4 hu_X3 3 (by decide) wb_61 rfl rfl dX3_costOf_6 ?_
  rw [hW1]
  refine k_size C (by first | exact hX.2.2.1.1 | exact hX.2.2.1.2.1 | exact hX.2.2.1.2.2.1 | exact hX.2.2.1.2.2.2) wb_520 ⟨by decide, by decide⟩ ⟨Nat.zero_le _, Nat.zero_le _⟩ (Nat.le_of_ble_eq_true rfl) dX3_costOf_9 ?_
  refine z_icmp_ge C 52 dX3_costOf_12 (by decide) (fun h12 => ?_) (fun h12 => ?_)
  · obtain rfl := Eq.symm <| z_ge (rfl : nI nD = nI nD) (by omega) hi h12
    refine z_iload_n C dX3_costOf_52 rfl ?_
    exact z_iret C (by omega) (by omega) dX3_costOf_53 (by exact ⟨rfl, rfl⟩)
  · have hlti := z_lt (rfl : nI nD = nI nD) (by omega) hi h12
    have hini : vp_in (nI i) nD := vp_in_nI hlti (by omega)
    have hcli : (nI i).toNatClampNeg = i := nI_clamp (by omega)
    refine z_aload_n C dX3_costOf_15 rfl ?_
    refine z_get C (by first | exact hX.1.1 | exact hX.1.2.1 | exact hX.1.2.2.1 | exact hX.1.2.2.2 | exact hX.2.1.1 _ (by first | assumption | exact vp_in_clamp (x_inG hN (by assumption)) | exact vp_in_clamp (x_inD hN (by assumption)) | exact vp_in_clamp (x_inK hN (by assumption)) | exact vp_in_clamp (x_inR hN (by assumption)) | exact hI.rm (by first | assumption | exact vp_in_clamp (x_inG hN (by assumption))) | exact hI.lo (by first | assumption | exact vp_in_clamp (x_inD hN (by assumption))) | exact hI.hi (by first | assumption | exact vp_in_clamp (x_inD hN (by assumption)))) | exact hX.2.1.2.1 _ (by first | assumption | exact vp_in_clamp (x_inD hN (by assumption))) | exact hX.2.1.2.2.1 _ (by first | assumption | exact vp_in_clamp (x_inK hN (by assumption))) | exact hX.2.1.2.2.2 _ (by first | assumption | exact vp_in_clamp (x_inG hN (by assumption)))) z_cls4 hu_X3 3 (by decide) wb_61 rfl rfl dX3_costOf_16 ?_
    rw [hW1]
    refine z_iload_n C dX3_costOf_19 rfl ?_
    refine k_get C (by first | exact hX.2.2.1.1 | exact hX.2.2.1.2.1 | exact hX.2.2.1.2.2.1 | exact hX.2.2.1.2.2.2) (by first | assumption | exact x_inG hN (by assumption) | exact x_inD hN (by assumption) | exact x_inK hN (by assumption) | exact x_inR hN (by assumption)) (by omega) (by first | exact hcli | rfl) wb_521 ⟨by decide, by decide⟩ ⟨Nat.zero_le _, Nat.zero_le _⟩ (Nat.le_of_ble_eq_true rfl) dX3_costOf_20 ?_
    refine z_cast (q := (RX0, TX0, 10)) C (by first | exact hX.1.1 | exact hX.1.2.1 | exact hX.1.2.2.1 | exact hX.1.2.2.2 | exact hX.2.1.1 _ (by first | assumption | exact vp_in_clamp (x_inG hN (by assumption)) | exact vp_in_clamp (x_inD hN (by assumption)) | exact vp_in_clamp (x_inK hN (by assumption)) | exact vp_in_clamp (x_inR hN (by assumption)) | exact hI.rm (by first | assumption | exact vp_in_clamp (x_inG hN (by assumption))) | exact hI.lo (by first | assumption | exact vp_in_clamp (x_inD hN (by assumption))) | exact hI.hi (by first | assumption | exact vp_in_clamp (x_inD hN (by assumption)))) | exact hX.2.1.2.1 _ (by first | assumption | exact vp_in_clamp (x_inD hN (by assumption))) | exact hX.2.1.2.2.1 _ (by first | assumption | exact vp_in_clamp (x_inK hN (by assumption))) | exact hX.2.1.2.2.2 _ (by first | assumption | exact vp_in_clamp (x_inG hN (by assumption)))) rfl wb_522 dX3_costOf_23 ?_
    refine z_astore C dX3_costOf_26 (by decide) ?_
    refine z_aload_n C dX3_costOf_28 rfl ?_
    refine z_aload C dX3_costOf_29 rfl ?_
    refine z_iload_n C dX3_costOf_31 rfl ?_
    refine z_callVR (As := [.ref _, .int _]) C (c_X3_isOpenedByPlan _ _ ad M T hI hg hW i s0 hlti hs0) kc_X3_isOpenedByPlan wb_523 ⟨by decide, by decide⟩ (by first | exact hX.1.1 | exact hX.1.2.1 | exact hX.1.2.2.1 | exact hX.1.2.2.2 | exact hX.2.1.1 _ (by first | assumption | exact vp_in_clamp (x_inG hN (by assumption)) | exact vp_in_clamp (x_inD hN (by assumption)) | exact vp_in_clamp (x_inK hN (by assumption)) | exact vp_in_clamp (x_inR hN (by assumption)) | exact hI.rm (by first | assumption | exact vp_in_clamp (x_inG hN (by assumption))) | exact hI.lo (by first | assumption | exact vp_in_clamp (x_inD hN (by assumption))) | exact hI.hi (by first | assumption | exact vp_in_clamp (x_inD hN (by assumption)))) | exact hX.2.1.2.1 _ (by first | assumption | exact vp_in_clamp (x_inD hN (by assumption))) | exact hX.2.1.2.2.1 _ (by first | assumption | exact vp_in_clamp (x_inK hN (by assumption))) | exact hX.2.1.2.2.2 _ (by first | assumption | exact vp_in_clamp (x_inG hN (by assumption)))) rfl (hX) ⟨Nat.zero_le _, Nat.zero_le _⟩ (Nat.le_of_ble_eq_true rfl) dX3_costOf_32 ?_
    refine z_ifb_eq C 46 dX3_costOf_35 (by decide) (fun h35 => ?_) (fun h35 => ?_)
    · refine z_iinc C dX3_costOf_46 rfl rfl (by decide) ?_
      refine z_goto C 4 dX3_costOf_49 (by decide) ?_
      exact ihi hlti _ ⟨rfl, rfl, z_lgI rfl (by simp [x_cost, m_sum, *]), z_lgI rfl (z_inc i), trivial⟩
    · refine z_iload_n C dX3_costOf_38 rfl ?_
      refine z_aload C dX3_costOf_39 rfl ?_
      refine z_get C (by first | exact hX.1.1 | exact hX.1.2.1 | exact hX.1.2.2.1 | exact hX.1.2.2.2 | exact hX.2.1.1 _ (by first | assumption | exact vp_in_clamp (x_inG hN (by assumption)) | exact vp_in_clamp (x_inD hN (by assumption)) | exact vp_in_clamp (x_inK hN (by assumption)) | exact vp_in_clamp (x_inR hN (by assumption)) | exact hI.rm (by first | assumption | exact vp_in_clamp (x_inG hN (by assumption))) | exact hI.lo (by first | assumption | exact vp_in_clamp (x_inD hN (by assumption))) | exact hI.hi (by first | assumption | exact vp_in_clamp (x_inD hN (by assumption)))) | exact hX.2.1.2.1 _ (by first | assumption | exact vp_in_clamp (x_inD hN (by assumption))) | exact hX.2.1.2.2.1 _ (by first | assumption | exact vp_in_clamp (x_inK hN (by assumption))) | exact hX.2.1.2.2.2 _ (by first | assumption | exact vp_in_clamp (x_inG hN (by assumption)))) z_cls1 hu_X0 6 (by decide) wb_276 rfl rfl dX3_costOf_41 ?_
      refine z_iadd C dX3_costOf_44 ?_
      refine z_istore_n C dX3_costOf_45 (by decide) ?_
      refine z_iinc C dX3_costOf_46 rfl rfl (by decide) ?_
      refine z_goto C 4 dX3_costOf_49 (by decide) ?_
      exact ihi hlti _ ⟨rfl, rfl, z_lgI rfl (by simp [x_cost, m_sum, *]), z_lgI rfl (z_inc i), trivial⟩

set_option maxHeartbeats 4000000 in
set_option maxRecDepth 100000 in
theorem c_X3_isBetter (l : Launch) (G : z_G) (ad : Nat → Nat → Nat) (M : m_S) (T : x_T) {nR nD nK nG : Nat} (hI : m_I nR nD nK nG M) (wc wd : Int32) (way : Int64) : z_MR l yX3_isBetter cX3_isBetter 5 (some .boolean) 0 [.ref (ad 4 9), .int wc, .int wd, .long way] G (fun H => x_R G ad nR nD nK nG M T H) (.int (z_b (x_better T wc wd way))) := by
  refine z_M.of (by decide +kernel) (Nat.le_of_ble_eq_true rfl) ?_
  intro p e s m below meth c C hP
  have hX : x_R G ad nR nD nK nG M T s.heap := hP
  have hN := hI.1
  have hR12 := hN.1.2; have hD16 := hN.2.1.2; have hK16 := hN.2.2.1.2; have hG6 := hN.2.2.2.2
  refine z_iload_n C dX3_isBetter_0 rfl ?_
  refine z_aload_n C dX3_isBetter_1 rfl ?_
  refine z_get C (by first | exact hX.1.1 | exact hX.1.2.1 | exact hX.1.2.2.1 | exact hX.1.2.2.2 | exact hX.2.1.1 _ (by first | assumption | exact vp_in_clamp (x_inG hN (by assumption)) | exact vp_in_clamp (x_inD hN (by assumption)) | exact vp_in_clamp (x_inK hN (by assumption)) | exact vp_in_clamp (x_inR hN (by assumption)) | exact hI.rm (by first | assumption | exact vp_in_clamp (x_inG hN (by assumption))) | exact hI.lo (by first | assumption | exact vp_in_clamp (x_inD hN (by assumption))) | exact hI.hi (by first | assumption | exact vp_in_clamp (x_inD hN (by assumption)))) | exact hX.2.1.2.1 _ (by first | assumption | exact vp_in_clamp (x_inD hN (by assumption))) | exact hX.2.1.2.2.1 _ (by first | assumption | exact vp_in_clamp (x_inK hN (by assumption))) | exact hX.2.1.2.2.2 _ (by first | assumption | exact vp_in_clamp (x_inG hN (by assumption)))) z_cls4 hu_X3 7 (by decide) wb_66 rfl rfl dX3_isBetter_2 ?_
  refine z_icmp_eq C 22 dX3_isBetter_5 (by decide) (fun h5 => ?_) (fun h5 => ?_)
  · refine z_iload_n C dX3_isBetter_22 rfl ?_
    refine z_aload_n C dX3_isBetter_23 rfl ?_
    refine z_get C (by first | exact hX.1.1 | exact hX.1.2.1 | exact hX.1.2.2.1 | exact hX.1.2.2.2 | exact hX.2.1.1 _ (by first | assumption | exact vp_in_clamp (x_inG hN (by assumption)) | exact vp_in_clamp (x_inD hN (by assumption)) | exact vp_in_clamp (x_inK hN (by assumption)) | exact vp_in_clamp (x_inR hN (by assumption)) | exact hI.rm (by first | assumption | exact vp_in_clamp (x_inG hN (by assumption))) | exact hI.lo (by first | assumption | exact vp_in_clamp (x_inD hN (by assumption))) | exact hI.hi (by first | assumption | exact vp_in_clamp (x_inD hN (by assumption)))) | exact hX.2.1.2.1 _ (by first | assumption | exact vp_in_clamp (x_inD hN (by assumption))) | exact hX.2.1.2.2.1 _ (by first | assumption | exact vp_in_clamp (x_inK hN (by assumption))) | exact hX.2.1.2.2.2 _ (by first | assumption | exact vp_in_clamp (x_inG hN (by assumption)))) z_cls4 hu_X3 8 (by decide) wb_68 rfl rfl dX3_isBetter_24 ?_
    refine z_icmp_eq C 44 dX3_isBetter_27 (by decide) (fun h27 => ?_) (fun h27 => ?_)
    · refine z_lload_n C dX3_isBetter_44 rfl ?_
      refine z_aload_n C dX3_isBetter_45 rfl ?_
      refine z_get C (by first | exact hX.1.1 | exact hX.1.2.1 | exact hX.1.2.2.1 | exact hX.1.2.2.2 | exact hX.2.1.1 _ (by first | assumption | exact vp_in_clamp (x_inG hN (by assumption)) | exact vp_in_clamp (x_inD hN (by assumption)) | exact vp_in_clamp (x_inK hN (by assumption)) | exact vp_in_clamp (x_inR hN (by assumption)) | exact hI.rm (by first | assumption | exact vp_in_clamp (x_inG hN (by assumption))) | exact hI.lo (by first | assumption | exact vp_in_clamp (x_inD hN (by assumption))) | exact hI.hi (by first | assumption | exact vp_in_clamp (x_inD hN (by assumption)))) | exact hX.2.1.2.1 _ (by first | assumption | exact vp_in_clamp (x_inD hN (by assumption))) | exact hX.2.1.2.2.1 _ (by first | assumption | exact vp_in_clamp (x_inK hN (by assumption))) | exact hX.2.1.2.2.2 _ (by first | assumption | exact vp_in_clamp (x_inG hN (by assumption)))) z_cls4 hu_X3 9 (by decide) wb_70 rfl rfl dX3_isBetter_46 ?_
      refine z_lcmp C dX3_isBetter_49 ?_
      refine z_if_ge C 57 dX3_isBetter_50 (by decide) (fun h50 => ?_) (fun h50 => ?_)
      · have hlt : ¬ way < T.2.2.2.1 := fun q => h50 (lg_lt.mpr q)
        refine z_iconst (v := 0) C dX3_isBetter_57 (by decide) ?_
        exact z_bret C (by omega) (by omega) dX3_isBetter_58 (by rfl) (by exact ⟨congrArg (fun z => some (Value.int z)) (by simp [z_b, x_better, *]), rfl⟩)
      · have hlt : way < T.2.2.2.1 := lg_lt.mp h50
        refine z_iconst (v := 1) C dX3_isBetter_53 (by decide) ?_
        refine z_goto C 58 dX3_isBetter_54 (by decide) ?_
        exact z_bret C (by omega) (by omega) dX3_isBetter_58 (by rfl) (by exact ⟨congrArg (fun z => some (Value.int z)) (by simp [z_b, x_better, *]), rfl⟩)
    · refine z_iload_n C dX3_isBetter_30 rfl ?_
      refine z_aload_n C dX3_isBetter_31 rfl ?_
      refine z_get C (by first | exact hX.1.1 | exact hX.1.2.1 | exact hX.1.2.2.1 | exact hX.1.2.2.2 | exact hX.2.1.1 _ (by first | assumption | exact vp_in_clamp (x_inG hN (by assumption)) | exact vp_in_clamp (x_inD hN (by assumption)) | exact vp_in_clamp (x_inK hN (by assumption)) | exact vp_in_clamp (x_inR hN (by assumption)) | exact hI.rm (by first | assumption | exact vp_in_clamp (x_inG hN (by assumption))) | exact hI.lo (by first | assumption | exact vp_in_clamp (x_inD hN (by assumption))) | exact hI.hi (by first | assumption | exact vp_in_clamp (x_inD hN (by assumption)))) | exact hX.2.1.2.1 _ (by first | assumption | exact vp_in_clamp (x_inD hN (by assumption))) | exact hX.2.1.2.2.1 _ (by first | assumption | exact vp_in_clamp (x_inK hN (by assumption))) | exact hX.2.1.2.2.2 _ (by first | assumption | exact vp_in_clamp (x_inG hN (by assumption)))) z_cls4 hu_X3 8 (by decide) wb_68 rfl rfl dX3_isBetter_32 ?_
      refine z_icmp_ge C 42 dX3_isBetter_35 (by decide) (fun h35 => ?_) (fun h35 => ?_)
      · refine z_iconst (v := 0) C dX3_isBetter_42 (by decide) ?_
        exact z_bret C (by omega) (by omega) dX3_isBetter_43 (by rfl) (by exact ⟨congrArg (fun z => some (Value.int z)) (by simp [z_b, x_better, *]), rfl⟩)
      · refine z_iconst (v := 1) C dX3_isBetter_38 (by decide) ?_
        refine z_goto C 43 dX3_isBetter_39 (by decide) ?_
        exact z_bret C (by omega) (by omega) dX3_isBetter_43 (by rfl) (by exact ⟨congrArg (fun z => some (Value.int z)) (by simp [z_b, x_better, *]), rfl⟩)
  · refine z_iload_n C dX3_isBetter_8 rfl ?_
    refine z_aload_n C dX3_isBetter_9 rfl ?_
    refine z_get C (by first | exact hX.1.1 | exact hX.1.2.1 | exact hX.1.2.2.1 | exact hX.1.2.2.2 | exact hX.2.1.1 _ (by first | assumption | exact vp_in_clamp (x_inG hN (by assumption)) | exact vp_in_clamp (x_inD hN (by assumption)) | exact vp_in_clamp (x_inK hN (by assumption)) | exact vp_in_clamp (x_inR hN (by assumption)) | exact hI.rm (by first | assumption | exact vp_in_clamp (x_inG hN (by assumption))) | exact hI.lo (by first | assumption | exact vp_in_clamp (x_inD hN (by assumption))) | exact hI.hi (by first | assumption | exact vp_in_clamp (x_inD hN (by assumption)))) | exact hX.2.1.2.1 _ (by first | assumption | exact vp_in_clamp (x_inD hN (by assumption))) | exact hX.2.1.2.2.1 _ (by first | assumption | exact vp_in_clamp (x_inK hN (by assumption))) | exact hX.2.1.2.2.2 _ (by first | assumption | exact vp_in_clamp (x_inG hN (by assumption)))) z_cls4 hu_X3 7 (by decide) wb_66 rfl rfl dX3_isBetter_10 ?_
    refine z_icmp_ge C 20 dX3_isBetter_13 (by decide) (fun h13 => ?_) (fun h13 => ?_)
    · refine z_iconst (v := 0) C dX3_isBetter_20 (by decide) ?_
      exact z_bret C (by omega) (by omega) dX3_isBetter_21 (by rfl) (by exact ⟨congrArg (fun z => some (Value.int z)) (by simp [z_b, x_better, *]), rfl⟩)
    · refine z_iconst (v := 1) C dX3_isBetter_16 (by decide) ?_
      refine z_goto C 21 dX3_isBetter_17 (by decide) ?_
      exact z_bret C (by omega) (by omega) dX3_isBetter_21 (by rfl) (by exact ⟨congrArg (fun z => some (Value.int z)) (by simp [z_b, x_better, *]), rfl⟩)

