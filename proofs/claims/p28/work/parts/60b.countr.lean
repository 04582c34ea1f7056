set_option maxHeartbeats 4000000 in
set_option maxRecDepth 100000 in
theorem c_X5_countR (l : Launch) (G : z_G) (ad : Nat → Nat → Nat) (M : m_S) (T : x_T) {nR nD nK nG : Nat} (hI : m_I nR nD nK nG M) (w : Int32) (hw : w ≠ 10) (hT4 : w = 9 → T.2.2.1 4 = m_hints M nG) : z_MR l yX5_count cX5_count 2 (some .int) 4 [.ref (ad 4 0), .int w] G (fun H => x_R G ad nR nD nK nG M T H) (.int (F_count M nD nK nG w)) := by
  refine z_M.of (by decide +kernel) (Nat.le_of_ble_eq_true rfl) ?_
  intro p e s m below meth c C hP
  have hX : x_R G ad nR nD nK nG M T s.heap := hP
  have hN := hI.1
  have hR12 := hN.1.2; have hD16 := hN.2.1.2; have hK16 := hN.2.2.1.2; have hG6 := hN.2.2.2.2
  refine z_iload_n C dX5_count_0 rfl ?_
  by_cases hsw_0 : w = 0
  · subst hsw_0
    refine z_tableIn C 60 dX5_count_1 (by decide) (by decide) (by rfl) (by decide) ?_
    refine z_aload_n C dX5_count_60 rfl ?_
    refine z_get C (by first | exact hX.1.1 | exact hX.1.2.1 | exact hX.1.2.2.1 | exact hX.1.2.2.2 | exact hX.2.1.1 _ (by first | assumption | exact vp_in_clamp (x_inG hN (by assumption)) | exact vp_in_clamp (x_inD hN (by assumption)) | exact vp_in_clamp (x_inK hN (by assumption)) | exact vp_in_clamp (x_inR hN (by assumption)) | exact hI.rm (by first | assumption | exact vp_in_clamp (x_inG hN (by assumption))) | exact hI.lo (by first | assumption | exact vp_in_clamp (x_inD hN (by assumption))) | exact hI.hi (by first | assumption | exact vp_in_clamp (x_inD hN (by assumption)))) | exact hX.2.1.2.1 _ (by first | assumption | exact vp_in_clamp (x_inD hN (by assumption))) | exact hX.2.1.2.2.1 _ (by first | assumption | exact vp_in_clamp (x_inK hN (by assumption))) | exact hX.2.1.2.2.2 _ (by first | assumption | exact vp_in_clamp (x_inG hN (by assumption)))) z_cls6 hu_X5 0 (by decide) wb_94 rfl rfl dX5_count_61 ?_
    refine k_size C (by first | exact hX.2.2.1.1 | exact hX.2.2.1.2.1 | exact hX.2.2.1.2.2.1 | exact hX.2.2.1.2.2.2) wb_129 ⟨by decide, by decide⟩ ⟨Nat.zero_le _, Nat.zero_le _⟩ (Nat.le_of_ble_eq_true rfl) dX5_count_64 ?_
    rw [← hN.1.1]
    exact z_iret C (by omega) (by omega) dX5_count_67 (by exact ⟨congrArg (fun z => some (Value.int z)) (by simp [F_count, *]), rfl⟩)
  by_cases hsw_1 : w = 1
  · subst hsw_1
    refine z_tableIn C 68 dX5_count_1 (by decide) (by decide) (by rfl) (by decide) ?_
    refine z_aload_n C dX5_count_68 rfl ?_
    refine z_get C (by first | exact hX.1.1 | exact hX.1.2.1 | exact hX.1.2.2.1 | exact hX.1.2.2.2 | exact hX.2.1.1 _ (by first | assumption | exact vp_in_clamp (x_inG hN (by assumption)) | exact vp_in_clamp (x_inD hN (by assumption)) | exact vp_in_clamp (x_inK hN (by assumption)) | exact vp_in_clamp (x_inR hN (by assumption)) | exact hI.rm (by first | assumption | exact vp_in_clamp (x_inG hN (by assumption))) | exact hI.lo (by first | assumption | exact vp_in_clamp (x_inD hN (by assumption))) | exact hI.hi (by first | assumption | exact vp_in_clamp (x_inD hN (by assumption)))) | exact hX.2.1.2.1 _ (by first | assumption | exact vp_in_clamp (x_inD hN (by assumption))) | exact hX.2.1.2.2.1 _ (by first | assumption | exact vp_in_clamp (x_inK hN (by assumption))) | exact hX.2.1.2.2.2 _ (by first | assumption | exact vp_in_clamp (x_inG hN (by assumption)))) z_cls6 hu_X5 1 (by decide) wb_95 rfl rfl dX5_count_69 ?_
    refine k_size C (by first | exact hX.2.2.1.1 | exact hX.2.2.1.2.1 | exact hX.2.2.1.2.2.1 | exact hX.2.2.1.2.2.2) wb_129 ⟨by decide, by decide⟩ ⟨Nat.zero_le _, Nat.zero_le _⟩ (Nat.le_of_ble_eq_true rfl) dX5_count_72 ?_
    rw [← hN.2.1.1]
    exact z_iret C (by omega) (by omega) dX5_count_75 (by exact ⟨congrArg (fun z => some (Value.int z)) (by simp [F_count, *]), rfl⟩)
  by_cases hsw_2 : w = 2
  · subst hsw_2
    refine z_tableIn C 76 dX5_count_1 (by decide) (by decide) (by rfl) (by decide) ?_
    refine z_aload_n C dX5_count_76 rfl ?_
    refine z_get C (by first | exact hX.1.1 | exact hX.1.2.1 | exact hX.1.2.2.1 | exact hX.1.2.2.2 | exact hX.2.1.1 _ (by first | assumption | exact vp_in_clamp (x_inG hN (by assumption)) | exact vp_in_clamp (x_inD hN (by assumption)) | exact vp_in_clamp (x_inK hN (by assumption)) | exact vp_in_clamp (x_inR hN (by assumption)) | exact hI.rm (by first | assumption | exact vp_in_clamp (x_inG hN (by assumption))) | exact hI.lo (by first | assumption | exact vp_in_clamp (x_inD hN (by assumption))) | exact hI.hi (by first | assumption | exact vp_in_clamp (x_inD hN (by assumption)))) | exact hX.2.1.2.1 _ (by first | assumption | exact vp_in_clamp (x_inD hN (by assumption))) | exact hX.2.1.2.2.1 _ (by first | assumption | exact vp_in_clamp (x_inK hN (by assumption))) | exact hX.2.1.2.2.2 _ (by first | assumption | exact vp_in_clamp (x_inG hN (by assumption)))) z_cls6 hu_X5 2 (by decide) wb_96 rfl rfl dX5_count_77 ?_
    refine k_size C (by first | exact hX.2.2.1.1 | exact hX.2.2.1.2.1 | exact hX.2.2.1.2.2.1 | exact hX.2.2.1.2.2.2) wb_129 ⟨by decide, by decide⟩ ⟨Nat.zero_le _, Nat.zero_le _⟩ (Nat.le_of_ble_eq_true rfl) dX5_count_80 ?_
    rw [← hN.2.2.1.1]
    exact z_iret C (by omega) (by omega) dX5_count_83 (by exact ⟨congrArg (fun z => some (Value.int z)) (by simp [F_count, *]), rfl⟩)
  by_cases hsw_3 : w = 3
  · subst hsw_3
    refine z_tableIn C 84 dX5_count_1 (by decide) (by decide) (by rfl) (by decide) ?_
    refine z_aload_n C dX5_count_84 rfl ?_
    refine z_get C (by first | exact hX.1.1 | exact hX.1.2.1 | exact hX.1.2.2.1 | exact hX.1.2.2.2 | exact hX.2.1.1 _ (by first | assumption | exact vp_in_clamp (x_inG hN (by assumption)) | exact vp_in_clamp (x_inD hN (by assumption)) | exact vp_in_clamp (x_inK hN (by assumption)) | exact vp_in_clamp (x_inR hN (by assumption)) | exact hI.rm (by first | assumption | exact vp_in_clamp (x_inG hN (by assumption))) | exact hI.lo (by first | assumption | exact vp_in_clamp (x_inD hN (by assumption))) | exact hI.hi (by first | assumption | exact vp_in_clamp (x_inD hN (by assumption)))) | exact hX.2.1.2.1 _ (by first | assumption | exact vp_in_clamp (x_inD hN (by assumption))) | exact hX.2.1.2.2.1 _ (by first | assumption | exact vp_in_clamp (x_inK hN (by assumption))) | exact hX.2.1.2.2.2 _ (by first | assumption | exact vp_in_clamp (x_inG hN (by assumption)))) z_cls6 hu_X5 3 (by decide) wb_97 rfl rfl dX5_count_85 ?_
    refine k_size C (by first | exact hX.2.2.1.1 | exact hX.2.2.1.2.1 | exact hX.2.2.1.2.2.1 | exact hX.2.2.1.2.2.2) wb_129 ⟨by decide, by decide⟩ ⟨Nat.zero_le _, Nat.zero_le _⟩ (Nat.le_of_ble_eq_true rfl) dX5_count_88 ?_
    rw [← hN.2.2.2.1]
    exact z_iret C (by omega) (by omega) dX5_count_91 (by exact ⟨congrArg (fun z => some (Value.int z)) (by simp [F_count, *]), rfl⟩)
  by_cases hsw_4 : w = 4
  · subst hsw_4
    refine z_tableIn C 92 dX5_count_1 (by decide) (by decide) (by rfl) (by decide) ?_
    refine z_aload_n C dX5_count_92 rfl ?_
    refine z_callVR (As := []) C (c_X5_exitNumber _ _ ad M T hI) kc_X5_exitNumber wb_218 ⟨by decide, by decide⟩ (by first | exact hX.1.1 | exact hX.1.2.1 | exact hX.1.2.2.1 | exact hX.1.2.2.2 | exact hX.2.1.1 _ (by first | assumption | exact vp_in_clamp (x_inG hN (by assumption)) | exact vp_in_clamp (x_inD hN (by assumption)) | exact vp_in_clamp (x_inK hN (by assumption)) | exact vp_in_clamp (x_inR hN (by assumption)) | exact hI.rm (by first | assumption | exact vp_in_clamp (x_inG hN (by assumption))) | exact hI.lo (by first | assumption | exact vp_in_clamp (x_inD hN (by assumption))) | exact hI.hi (by first | assumption | exact vp_in_clamp (x_inD hN (by assumption)))) | exact hX.2.1.2.1 _ (by first | assumption | exact vp_in_clamp (x_inD hN (by assumption))) | exact hX.2.1.2.2.1 _ (by first | assumption | exact vp_in_clamp (x_inK hN (by assumption))) | exact hX.2.1.2.2.2 _ (by first | assumption | exact vp_in_clamp (x_inG hN (by assumption)))) rfl (hX) ⟨Nat.zero_le _, Nat.zero_le _⟩ (Nat.le_of_ble_eq_true rfl) dX5_count_93 ?_
    exact z_iret C (by omega) (by omega) dX5_count_96 (by exact ⟨congrArg (fun z => some (Value.int z)) (by simp [F_count, *]), rfl⟩)
  by_cases hsw_5 : w = 5
  · subst hsw_5
    refine z_tableIn C 97 dX5_count_1 (by decide) (by decide) (by rfl) (by decide) ?_
    refine z_aload_n C dX5_count_97 rfl ?_
    refine z_get C (by first | exact hX.1.1 | exact hX.1.2.1 | exact hX.1.2.2.1 | exact hX.1.2.2.2 | exact hX.2.1.1 _ (by first | assumption | exact vp_in_clamp (x_inG hN (by assumption)) | exact vp_in_clamp (x_inD hN (by assumption)) | exact vp_in_clamp (x_inK hN (by assumption)) | exact vp_in_clamp (x_inR hN (by assumption)) | exact hI.rm (by first | assumption | exact vp_in_clamp (x_inG hN (by assumption))) | exact hI.lo (by first | assumption | exact vp_in_clamp (x_inD hN (by assumption))) | exact hI.hi (by first | assumption | exact vp_in_clamp (x_inD hN (by assumption)))) | exact hX.2.1.2.1 _ (by first | assumption | exact vp_in_clamp (x_inD hN (by assumption))) | exact hX.2.1.2.2.1 _ (by first | assumption | exact vp_in_clamp (x_inK hN (by assumption))) | exact hX.2.1.2.2.2 _ (by first | assumption | exact vp_in_clamp (x_inG hN (by assumption)))) z_cls6 hu_X5 1 (by decide) wb_95 rfl rfl dX5_count_98 ?_
    refine z_callSR (As := [.ref _]) C (c_X5_openLocks _ _ ad M T hI) kc_X5_openLocks wb_586 ⟨by decide, by decide⟩ (hX) ⟨Nat.zero_le _, Nat.zero_le _⟩ (Nat.le_of_ble_eq_true rfl) dX5_count_101 ?_
    refine z_callSR (As := [.int _]) C (c_J6_bitCount_0f7a4 _ _ _) kc_J6_bitCount_0f7a4 wb_620 ⟨by decide, by decide⟩ (trivial) ⟨Nat.zero_le _, Nat.zero_le _⟩ (Nat.le_of_ble_eq_true rfl) dX5_count_104 ?_
    rw [x_unl hI]
    exact z_iret C (by omega) (by omega) dX5_count_107 (by exact ⟨congrArg (fun z => some (Value.int z)) (by simp [F_count, *]), rfl⟩)
  by_cases hsw_6 : w = 6
  · subst hsw_6
    refine z_tableIn C 108 dX5_count_1 (by decide) (by decide) (by rfl) (by decide) ?_
    refine z_aload_n C dX5_count_108 rfl ?_
    refine z_iconst (v := 1) C dX5_count_109 (by decide) ?_
    refine z_callVR (As := [.int _]) C (c_X5_playersThat _ _ ad M T hI _) kc_X5_playersThat wb_356 ⟨by decide, by decide⟩ (by first | exact hX.1.1 | exact hX.1.2.1 | exact hX.1.2.2.1 | exact hX.1.2.2.2 | exact hX.2.1.1 _ (by first | assumption | exact vp_in_clamp (x_inG hN (by assumption)) | exact vp_in_clamp (x_inD hN (by assumption)) | exact vp_in_clamp (x_inK hN (by assumption)) | exact vp_in_clamp (x_inR hN (by assumption)) | exact hI.rm (by first | assumption | exact vp_in_clamp (x_inG hN (by assumption))) | exact hI.lo (by first | assumption | exact vp_in_clamp (x_inD hN (by assumption))) | exact hI.hi (by first | assumption | exact vp_in_clamp (x_inD hN (by assumption)))) | exact hX.2.1.2.1 _ (by first | assumption | exact vp_in_clamp (x_inD hN (by assumption))) | exact hX.2.1.2.2.1 _ (by first | assumption | exact vp_in_clamp (x_inK hN (by assumption))) | exact hX.2.1.2.2.2 _ (by first | assumption | exact vp_in_clamp (x_inG hN (by assumption)))) rfl (hX) ⟨Nat.zero_le _, Nat.zero_le _⟩ (Nat.le_of_ble_eq_true rfl) dX5_count_110 ?_
    exact z_iret C (by omega) (by omega) dX5_count_113 (by exact ⟨congrArg (fun z => some (Value.int z)) (by simp [F_count, *]), rfl⟩)
  by_cases hsw_7 : w = 7
  · subst hsw_7
    refine z_tableIn C 114 dX5_count_1 (by decide) (by decide) (by rfl) (by decide) ?_
    refine z_aload_n C dX5_count_114 rfl ?_
    refine z_iconst (v := 0) C dX5_count_115 (by decide) ?_
    refine z_callVR (As := [.int _]) C (c_X5_playersThat _ _ ad M T hI _) kc_X5_playersThat wb_356 ⟨by decide, by decide⟩ (by first | exact hX.1.1 | exact hX.1.2.1 | exact hX.1.2.2.1 | exact hX.1.2.2.2 | exact hX.2.1.1 _ (by first | assumption | exact vp_in_clamp (x_inG hN (by assumption)) | exact vp_in_clamp (x_inD hN (by assumption)) | exact vp_in_clamp (x_inK hN (by assumption)) | exact vp_in_clamp (x_inR hN (by assumption)) | exact hI.rm (by first | assumption | exact vp_in_clamp (x_inG hN (by assumption))) | exact hI.lo (by first | assumption | exact vp_in_clamp (x_inD hN (by assumption))) | exact hI.hi (by first | assumption | exact vp_in_clamp (x_inD hN (by assumption)))) | exact hX.2.1.2.1 _ (by first | assumption | exact vp_in_clamp (x_inD hN (by assumption))) | exact hX.2.1.2.2.1 _ (by first | assumption | exact vp_in_clamp (x_inK hN (by assumption))) | exact hX.2.1.2.2.2 _ (by first | assumption | exact vp_in_clamp (x_inG hN (by assumption)))) rfl (hX) ⟨Nat.zero_le _, Nat.zero_le _⟩ (Nat.le_of_ble_eq_true rfl) dX5_count_116 ?_
    exact z_iret C (by omega) (by omega) dX5_count_119 (by exact ⟨congrArg (fun z => some (Value.int z)) (by simp [F_count, *]), rfl⟩)
  by_cases hsw_8 : w = 8
  · subst hsw_8
    refine z_tableIn C 120 dX5_count_1 (by decide) (by decide) (by rfl) (by decide) ?_
    refine z_aload_n C dX5_count_120 rfl ?_
    refine z_callVR (As := []) C (c_X5_latestEscape _ _ ad M T hI) kc_X5_latestEscape wb_621 ⟨by decide, by decide⟩ (by first | exact hX.1.1 | exact hX.1.2.1 | exact hX.1.2.2.1 | exact hX.1.2.2.2 | exact hX.2.1.1 _ (by first | assumption | exact vp_in_clamp (x_inG hN (by assumption)) | exact vp_in_clamp (x_inD hN (by assumption)) | exact vp_in_clamp (x_inK hN (by assumption)) | exact vp_in_clamp (x_inR hN (by assumption)) | exact hI.rm (by first | assumption | exact vp_in_clamp (x_inG hN (by assumption))) | exact hI.lo (by first | assumption | exact vp_in_clamp (x_inD hN (by assumption))) | exact hI.hi (by first | assumption | exact vp_in_clamp (x_inD hN (by assumption)))) | exact hX.2.1.2.1 _ (by first | assumption | exact vp_in_clamp (x_inD hN (by assumption))) | exact hX.2.1.2.2.1 _ (by first | assumption | exact vp_in_clamp (x_inK hN (by assumption))) | exact hX.2.1.2.2.2 _ (by first | assumption | exact vp_in_clamp (x_inG hN (by assumption)))) rfl (hX) ⟨Nat.zero_le _, Nat.zero_le _⟩ (Nat.le_of_ble_eq_true rfl) dX5_count_121 ?_
    exact z_iret C (by omega) (by omega) dX5_count_124 (by exact ⟨congrArg (fun z => some (Value.int z)) (by simp [F_count, *]), rfl⟩)
  by_cases hsw_9 : w = 9
  · subst hsw_9
    refine z_tableIn C 125 dX5_count_1 (by decide) (by decide) (by rfl) (by decide) ?_
    refine z_aload_n C dX5_count_125 rfl ?_
    refine z_get C (by first | exact hX.1.1 | exact hX.1.2.1 | exact hX.1.2.2.1 | exact hX.1.2.2.2 | exact hX.2.1.1 _ (by first | assumption | exact vp_in_clamp (x_inG hN (by assumption)) | exact vp_in_clamp (x_inD hN (by assumption)) | exact vp_in_clamp (x_inK hN (by assumption)) | exact vp_in_clamp (x_inR hN (by assumption)) | exact hI.rm (by first | assumption | exact vp_in_clamp (x_inG hN (by assumption))) | exact hI.lo (by first | assumption | exact vp_in_clamp (x_inD hN (by assumption))) | exact hI.hi (by first | assumption | exact vp_in_clamp (x_inD hN (by assumption)))) | exact hX.2.1.2.1 _ (by first | assumption | exact vp_in_clamp (x_inD hN (by assumption))) | exact hX.2.1.2.2.1 _ (by first | assumption | exact vp_in_clamp (x_inK hN (by assumption))) | exact hX.2.1.2.2.2 _ (by first | assumption | exact vp_in_clamp (x_inG hN (by assumption)))) z_cls6 hu_X5 9 (by decide) wb_103 rfl rfl dX5_count_126 ?_
    exact z_iret C (by omega) (by omega) dX5_count_129 (by exact ⟨congrArg (fun z => some (Value.int z)) (by rw [hT4 rfl]; simp [F_count]), rfl⟩)
  have hsw_10 := hw
  have hsq_0 : w.toInt ≠ 0 := fun q => hsw_0 (Int32.toInt_inj.mp q)
  have hsq_1 : w.toInt ≠ 1 := fun q => hsw_1 (Int32.toInt_inj.mp q)
  have hsq_2 : w.toInt ≠ 2 := fun q => hsw_2 (Int32.toInt_inj.mp q)
  have hsq_3 : w.toInt ≠ 3 := fun q => hsw_3 (Int32.toInt_inj.mp q)
  have hsq_4 : w.toInt ≠ 4 := fun q => hsw_4 (Int32.toInt_inj.mp q)
  have hsq_5 : w.toInt ≠ 5 := fun q => hsw_5 (Int32.toInt_inj.mp q)
  have hsq_6 : w.toInt ≠ 6 := fun q => hsw_6 (Int32.toInt_inj.mp q)
  have hsq_7 : w.toInt ≠ 7 := fun q => hsw_7 (Int32.toInt_inj.mp q)
  have hsq_8 : w.toInt ≠ 8 := fun q => hsw_8 (Int32.toInt_inj.mp q)
  have hsq_9 : w.toInt ≠ 9 := fun q => hsw_9 (Int32.toInt_inj.mp q)
  have hsq_10 : w.toInt ≠ 10 := fun q => hsw_10 (Int32.toInt_inj.mp q)
  refine z_tableOut C 135 dX5_count_1 (by omega) (by decide) ?_
  refine z_bipush (v := (-2)) C dX5_count_135 (by decide) ?_
  exact z_iret C (by omega) (by omega) dX5_count_137 (by exact ⟨congrArg (fun z => some (Value.int z)) (by simp [F_count, *]), rfl⟩)

