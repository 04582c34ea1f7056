set_option maxHeartbeats 4000000 in
set_option maxRecDepth 100000 in
theorem c_X6_deadEnds (l : Launch) (G : z_G) (ad : Nat → Nat) (M : m_S) {nR nD nK nG : Nat} (hI : m_I nR nD nK nG M) : z_M l yX6_deadEnds cX6_deadEnds 3 (some .int) 4 0 0 [.ref (ad 0)] G (fun H => m_R G ad M H) (m_A ad) ((fun v _ H => v = some (.int (F_dead M nD nK nG)) ∧ ∃ M', m_Q M M' ∧ m_R G ad M' H)) := by
  refine z_M.of (by decide +kernel) (Nat.le_of_ble_eq_true rfl) ?_
  intro p e s m below meth c C hP
  have hM : m_R G ad M s.heap := hP
  have hN := hI.1
  have hR12 := hN.1.2; have hD16 := hN.2.1.2; have hK16 := hN.2.2.1.2; have hG6 := hN.2.2.2.2
  refine z_iconst (v := 0) C dX6_deadEnds_0 (by decide) ?_
  refine z_istore_n C dX6_deadEnds_1 (by decide) ?_
  refine z_iconst (v := 0) C dX6_deadEnds_2 (by decide) ?_
  refine z_istore_n C dX6_deadEnds_3 (by decide) ?_
  refine z_loopS (fun q : Nat × m_S => nG - q.1) (fun q H1 => m_R G ad q.2 H1 ∧ q.1 ≤ nG ∧ m_Q M q.2) (fun q => [(0, .ref (ad 0)), (1, .int (m_cnt (fun g => m_pl M (nI g) && (k_best M nD nK (nI g)).isNone) q.1)), (2, .int (nI q.1))]) (0, M) ⟨hM, Nat.zero_le _, m_Q.refl⟩ ⟨rfl, rfl, rfl, trivial⟩ (fun q H1 hI1 ihi => ?_)
  obtain ⟨i, M2⟩ := q
  obtain ⟨hM, hi, hQ⟩ := hI1
  dsimp only at hM hi hQ ihi ⊢
  refine z_iload_n C dX6_deadEnds_4 rfl ?_
  refine z_aload_n C dX6_deadEnds_5 rfl ?_
  refine z_get C (by first | exact hM.1 | exact hM.2.1 _ rfl | exact hM.2.2.1 _ rfl) z_cls7 hu_X6 14 (by decide) wb_649 rfl rfl dX6_deadEnds_6 ?_
  rw [hQ.1 14 (by decide)]
  refine z_icmp_ge C 46 dX6_deadEnds_9 (by decide) (fun h9 => ?_) (fun h9 => ?_)
  · obtain rfl := Eq.symm <| z_ge hN.2.2.2.1 (by omega) hi h9
    refine z_iload_n C dX6_deadEnds_46 rfl ?_
    exact z_iret C (by omega) (by omega) dX6_deadEnds_47 (by exact ⟨rfl, M2, hQ, hM⟩)
  · have hlti := z_lt hN.2.2.2.1 (by omega) hi h9
    have hin6 : vp_in (nI i) 6 := vp_in_nI (by omega) (by omega)
    have hcli : (nI i).toNatClampNeg = i := nI_clamp (by omega)
    refine z_aload_n C dX6_deadEnds_12 rfl ?_
    refine z_iload_n C dX6_deadEnds_13 rfl ?_
    refine z_callVR (As := [.int _]) C (c_X6_plays _ _ ad M2 _ hin6) kc_X6_plays wb_796 ⟨by decide, by decide⟩ hM.1 rfl (hM) ⟨Nat.zero_le _, Nat.zero_le _⟩ (Nat.le_of_ble_eq_true rfl) dX6_deadEnds_14 ?_
    rw [show m_pl M2 (nI i) = m_pl M (nI i) by unfold m_pl; rw [hQ.2 19 (by decide)]]
    refine z_ifb_eq C 40 dX6_deadEnds_17 (by decide) (fun h17 => ?_) (fun h17 => ?_)
    · refine z_iinc C dX6_deadEnds_40 rfl rfl (by decide) ?_
      refine z_goto C 4 dX6_deadEnds_43 (by decide) ?_
      first | exact ihi (i + 1, M2) _ _ ⟨hM, hlti, hQ⟩ (by dsimp only; omega) ⟨rfl, z_lgI rfl (by simp [m_cnt, m_sum, m_c, *]), z_lgI rfl (z_inc i), trivial⟩ | exact ihi (i + 1, M3) _ _ ⟨hM, hlti, hQ3⟩ (by dsimp only; omega) ⟨rfl, z_lgI rfl (by simp [m_cnt, m_sum, m_c, *]), z_lgI rfl (z_inc i), trivial⟩
    · refine z_aload_n C dX6_deadEnds_20 rfl ?_
      refine z_iload_n C dX6_deadEnds_21 rfl ?_
      refine z_callV (As := [.int _]) C (c_X6_findPlan _ _ ad M2 (hI.scratch hQ) _ hin6 (by rw [hcli]; exact hlti)) kc_X6_findPlan wb_853 ⟨by decide, by decide⟩ hM.1 rfl (hM) (fun _ h => h) ⟨Nat.zero_le _, Nat.zero_le _⟩ (Nat.le_of_ble_eq_true rfl) dX6_deadEnds_22 (fun v H22 hq _ _ => ?_)
      obtain ⟨rfl, M3, hk, hM⟩ := hq
      have hQ3 := hQ.trans hk.1
      have hbe := hQ.best (nD := nD) (nK := nK) (g := nI i)
      refine z_iload_n C dX6_deadEnds_25 rfl ?_
      refine z_aload_n C dX6_deadEnds_26 rfl ?_
      refine z_get C (by first | exact hM.1 | exact hM.2.1 _ rfl | exact hM.2.2.1 _ rfl) z_cls7 hu_X6 28 (by decide) wb_663 rfl rfl dX6_deadEnds_27 ?_
      refine z_if_ge C 37 dX6_deadEnds_30 (by decide) (fun h30 => ?_) (fun h30 => ?_)
      · obtain ⟨p0, hp0, -⟩ := hk.yes h30
        rw [hbe] at hp0
        refine z_iconst (v := 0) C dX6_deadEnds_37 (by decide) ?_
        refine z_iadd C dX6_deadEnds_38 ?_
        refine z_istore_n C dX6_deadEnds_39 (by decide) ?_
        refine z_iinc C dX6_deadEnds_40 rfl rfl (by decide) ?_
        refine z_goto C 4 dX6_deadEnds_43 (by decide) ?_
        first | exact ihi (i + 1, M2) _ _ ⟨hM, hlti, hQ⟩ (by dsimp only; omega) ⟨rfl, z_lgI rfl (by simp [m_cnt, m_sum, m_c, *]), z_lgI rfl (z_inc i), trivial⟩ | exact ihi (i + 1, M3) _ _ ⟨hM, hlti, hQ3⟩ (by dsimp only; omega) ⟨rfl, z_lgI rfl (by simp [m_cnt, m_sum, m_c, *]), z_lgI rfl (z_inc i), trivial⟩
      · have hno : k_best M nD nK (nI i) = none := by rw [← hbe]; exact hk.no h30
        refine z_iconst (v := 1) C dX6_deadEnds_33 (by decide) ?_
        refine z_goto C 38 dX6_deadEnds_34 (by decide) ?_
        refine z_iadd C dX6_deadEnds_38 ?_
        refine z_istore_n C dX6_deadEnds_39 (by decide) ?_
        refine z_iinc C dX6_deadEnds_40 rfl rfl (by decide) ?_
        refine z_goto C 4 dX6_deadEnds_43 (by decide) ?_
        first | exact ihi (i + 1, M2) _ _ ⟨hM, hlti, hQ⟩ (by dsimp only; omega) ⟨rfl, z_lgI rfl (by simp [m_cnt, m_sum, m_c, *]), z_lgI rfl (z_inc i), trivial⟩ | exact ihi (i + 1, M3) _ _ ⟨hM, hlti, hQ3⟩ (by dsimp only; omega) ⟨rfl, z_lgI rfl (by simp [m_cnt, m_sum, m_c, *]), z_lgI rfl (z_inc i), trivial⟩

set_option maxHeartbeats 4000000 in
set_option maxRecDepth 100000 in
theorem c_X6_count (l : Launch) (G : z_G) (ad : Nat → Nat) (M : m_S) {nR nD nK nG : Nat} (hI : m_I nR nD nK nG M) (w : Int32) : z_M l yX6_count cX6_count 2 (some .int) 5 0 0 [.ref (ad 0), .int w] G (fun H => m_R G ad M H) (m_A ad) ((fun v _ H => v = some (.int (F_count M nD nK nG w)) ∧ ∃ M', m_Q M M' ∧ m_R G ad M' H)) := by
  refine z_M.of (by decide +kernel) (Nat.le_of_ble_eq_true rfl) ?_
  intro p e s m below meth c C hP
  have hM : m_R G ad M s.heap := hP
  have hN := hI.1
  have hR12 := hN.1.2; have hD16 := hN.2.1.2; have hK16 := hN.2.2.1.2; have hG6 := hN.2.2.2.2
  refine z_iload_n C dX6_count_0 rfl ?_
  by_cases hsw_0 : w = 0
  · subst hsw_0
    refine z_tableIn C 60 dX6_count_1 (by decide) (by decide) (by rfl) (by decide) ?_
    refine z_aload_n C dX6_count_60 rfl ?_
    refine z_get C (by first | exact hM.1 | exact hM.2.1 _ rfl | exact hM.2.2.1 _ rfl) z_cls7 hu_X6 0 (by decide) wb_635 rfl rfl dX6_count_61 ?_
    exact z_iret C (by omega) (by omega) dX6_count_64 (by exact ⟨by simp [F_count, *], M, m_Q.refl, hM⟩)
  by_cases hsw_1 : w = 1
  · subst hsw_1
    refine z_tableIn C 65 dX6_count_1 (by decide) (by decide) (by rfl) (by decide) ?_
    refine z_aload_n C dX6_count_65 rfl ?_
    refine z_get C (by first | exact hM.1 | exact hM.2.1 _ rfl | exact hM.2.2.1 _ rfl) z_cls7 hu_X6 2 (by decide) wb_637 rfl rfl dX6_count_66 ?_
    exact z_iret C (by omega) (by omega) dX6_count_69 (by exact ⟨by simp [F_count, *], M, m_Q.refl, hM⟩)
  by_cases hsw_2 : w = 2
  · subst hsw_2
    refine z_tableIn C 70 dX6_count_1 (by decide) (by decide) (by rfl) (by decide) ?_
    refine z_aload_n C dX6_count_70 rfl ?_
    refine z_get C (by first | exact hM.1 | exact hM.2.1 _ rfl | exact hM.2.2.1 _ rfl) z_cls7 hu_X6 9 (by decide) wb_644 rfl rfl dX6_count_71 ?_
    exact z_iret C (by omega) (by omega) dX6_count_74 (by exact ⟨by simp [F_count, *], M, m_Q.refl, hM⟩)
  by_cases hsw_3 : w = 3
  · subst hsw_3
    refine z_tableIn C 75 dX6_count_1 (by decide) (by decide) (by rfl) (by decide) ?_
    refine z_aload_n C dX6_count_75 rfl ?_
    refine z_get C (by first | exact hM.1 | exact hM.2.1 _ rfl | exact hM.2.2.1 _ rfl) z_cls7 hu_X6 14 (by decide) wb_649 rfl rfl dX6_count_76 ?_
    exact z_iret C (by omega) (by omega) dX6_count_79 (by exact ⟨by simp [F_count, *], M, m_Q.refl, hM⟩)
  by_cases hsw_4 : w = 4
  · subst hsw_4
    refine z_tableIn C 80 dX6_count_1 (by decide) (by decide) (by rfl) (by decide) ?_
    refine z_aload_n C dX6_count_80 rfl ?_
    refine z_get C (by first | exact hM.1 | exact hM.2.1 _ rfl | exact hM.2.2.1 _ rfl) z_cls7 hu_X6 1 (by decide) wb_636 rfl rfl dX6_count_81 ?_
    exact z_iret C (by omega) (by omega) dX6_count_84 (by exact ⟨by simp [F_count, *], M, m_Q.refl, hM⟩)
  by_cases hsw_5 : w = 5
  · subst hsw_5
    refine z_tableIn C 85 dX6_count_1 (by decide) (by decide) (by rfl) (by decide) ?_
    refine z_aload_n C dX6_count_85 rfl ?_
    refine z_callVR (As := []) C (c_X6_unlocked _ _ ad M hN) kc_X6_unlocked wb_929 ⟨by decide, by decide⟩ hM.1 rfl (hM) ⟨Nat.zero_le _, Nat.zero_le _⟩ (Nat.le_of_ble_eq_true rfl) dX6_count_86 ?_
    exact z_iret C (by omega) (by omega) dX6_count_89 (by exact ⟨by simp [F_count, *], M, m_Q.refl, hM⟩)
  by_cases hsw_6 : w = 6
  · subst hsw_6
    refine z_tableIn C 90 dX6_count_1 (by decide) (by decide) (by rfl) (by decide) ?_
    refine z_aload_n C dX6_count_90 rfl ?_
    refine z_iconst (v := 1) C dX6_count_91 (by decide) ?_
    refine z_callVR (As := [.int _]) C (c_X6_sizes _ _ ad M hN _) kc_X6_sizes wb_933 ⟨by decide, by decide⟩ hM.1 rfl (hM) ⟨Nat.zero_le _, Nat.zero_le _⟩ (Nat.le_of_ble_eq_true rfl) dX6_count_92 ?_
    exact z_iret C (by omega) (by omega) dX6_count_95 (by exact ⟨by simp [F_count, *], M, m_Q.refl, hM⟩)
  by_cases hsw_7 : w = 7
  · subst hsw_7
    refine z_tableIn C 96 dX6_count_1 (by decide) (by decide) (by rfl) (by decide) ?_
    refine z_aload_n C dX6_count_96 rfl ?_
    refine z_iconst (v := 0) C dX6_count_97 (by decide) ?_
    refine z_callVR (As := [.int _]) C (c_X6_sizes _ _ ad M hN _) kc_X6_sizes wb_933 ⟨by decide, by decide⟩ hM.1 rfl (hM) ⟨Nat.zero_le _, Nat.zero_le _⟩ (Nat.le_of_ble_eq_true rfl) dX6_count_98 ?_
    exact z_iret C (by omega) (by omega) dX6_count_101 (by exact ⟨by simp [F_count, *], M, m_Q.refl, hM⟩)
  by_cases hsw_8 : w = 8
  · subst hsw_8
    refine z_tableIn C 102 dX6_count_1 (by decide) (by decide) (by rfl) (by decide) ?_
    refine z_aload_n C dX6_count_102 rfl ?_
    refine z_callVR (As := []) C (c_X6_latest _ _ ad M hN) kc_X6_latest wb_937 ⟨by decide, by decide⟩ hM.1 rfl (hM) ⟨Nat.zero_le _, Nat.zero_le _⟩ (Nat.le_of_ble_eq_true rfl) dX6_count_103 ?_
    exact z_iret C (by omega) (by omega) dX6_count_106 (by exact ⟨by simp [F_count, *], M, m_Q.refl, hM⟩)
  by_cases hsw_9 : w = 9
  · subst hsw_9
    refine z_tableIn C 107 dX6_count_1 (by decide) (by decide) (by rfl) (by decide) ?_
    refine z_aload_n C dX6_count_107 rfl ?_
    refine z_callVR (As := []) C (c_X6_hints _ _ ad M hN) kc_X6_hints wb_941 ⟨by decide, by decide⟩ hM.1 rfl (hM) ⟨Nat.zero_le _, Nat.zero_le _⟩ (Nat.le_of_ble_eq_true rfl) dX6_count_108 ?_
    exact z_iret C (by omega) (by omega) dX6_count_111 (by exact ⟨by simp [F_count, *], M, m_Q.refl, hM⟩)
  by_cases hsw_10 : w = 10
  · subst hsw_10
    refine z_tableIn C 112 dX6_count_1 (by decide) (by decide) (by rfl) (by decide) ?_
    refine z_aload_n C dX6_count_112 rfl ?_
    refine z_callV (As := []) C (c_X6_deadEnds _ _ ad M hI) kc_X6_deadEnds wb_945 ⟨by decide, by decide⟩ hM.1 rfl (hM) (fun _ h => h) ⟨Nat.zero_le _, Nat.zero_le _⟩ (Nat.le_of_ble_eq_true rfl) dX6_count_113 (fun v H113 hq _ _ => ?_)
    obtain ⟨rfl, M2, hQ2, hM⟩ := hq
    exact z_iret C (by omega) (by omega) dX6_count_116 (by exact ⟨by simp [F_count], M2, hQ2, hM⟩)
  have hsq_0 : w.toInt ≠ 0 := fun q => hsw_0 (Int32.toInt_inj.mp q)
  have hsq_1 : w.toInt ≠ 1 := fun q => hsw_1 (Int32.toInt_inj.mp q)
  have hsq_2 : w.toInt ≠ 2 := fun q => hsw_2 (Int32.toInt_inj.mp q)
  have hsq_3 : w.toInt ≠ 3 := fun q => hsw_3 (Int32.toInt_inj.mp q)
  have hsq_4 : w.toInt ≠ 4 := fun q => hsw_4 (Int32.toInt_inj.mp q)
  have hsq_5 : w.toInt ≠ 5 := fun q => hsw_5 (Int32.toInt_inj.mp q)
  have hsq_6 : w.toInt ≠ 6 := fun q => hsw_6 (Int32.toInt_inj.mp q)
  have hsq_7 : w.toInt ≠ 7 := fun q => hsw_7 (Int32.toInt_inj.mp q)
  have hsq_8 : w.toInt ≠ 8 := fun q => hsw_8 (Int32.toInt_inj.mp q)
  have hsq_9 : w.toInt ≠ 9 := fun q => hsw_9 (Int32.toInt_inj.mp q)
  have hsq_10 : w.toInt ≠ 10 := fun q => hsw_10 (Int32.toInt_inj.mp q)
  refine z_tableOut C 117 dX6_count_1 (by omega) (by decide) ?_
  refine z_bipush (v := (-2)) C dX6_count_117 (by decide) ?_
  exact z_iret C (by omega) (by omega) dX6_count_119 (by exact ⟨by simp [F_count, *], M, m_Q.refl, hM⟩)
