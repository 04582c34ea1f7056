set_option maxHeartbeats 4000000 in
set_option maxRecDepth 100000 in
theorem c_X6_layLocks (l : Launch) (G : z_G) (ad : Nat → Nat) (M : m_S) {nR nD nK nG : Nat} (hI : m_I nR nD nK nG M) : z_M l yX6_layLocks cX6_layLocks 2 none 0 0 0 [.ref (ad 0)] G (fun H => m_R G ad M H) (m_A ad) ((fun v _ H => v = none ∧ ∃ M1, k_lay M M1 nD ∧ m_R G ad M1 H)) := by
  refine z_M.of (by decide +kernel) (Nat.le_of_ble_eq_true rfl) ?_
  intro p e s m below meth c C hP
  have hM : m_R G ad M s.heap := hP
  have hN := hI.1
  have hR12 := hN.1.2; have hD16 := hN.2.1.2; have hK16 := hN.2.2.1.2; have hG6 := hN.2.2.2.2
  refine z_aload_n C dX6_layLocks_0 rfl ?_
  refine z_iconst (v := 0) C dX6_layLocks_1 (by decide) ?_
  refine z_put C (by first | exact hM.1 | exact hM.2.1 _ rfl | exact hM.2.2.1 _ rfl) z_cls7 hu_X6 (by exact ⟨_, rfl, rfl⟩) 22 (by decide) wb_657 rfl rfl (by rfl) (by rfl) (Nat.le_of_ble_eq_true rfl) dX6_layLocks_2 (fun H2 hU2 => ?_)
  have hM := hM.sS hU2 rfl
  refine z_iconst (v := 0) C dX6_layLocks_5 (by decide) ?_
  refine z_istore_n C dX6_layLocks_6 (by decide) ?_
  refine z_loopS (fun q : Nat × m_S => nD - q.1) (fun q H1 => m_R G ad q.2 H1 ∧ q.1 ≤ nD ∧ k_lay M q.2 q.1) (fun q => [(0, .ref (ad 0)), (1, .int (nI q.1))]) (0, m_sS M 22 0) ⟨hM, Nat.zero_le _, k_lay.start⟩ ⟨rfl, rfl, trivial⟩ (fun q H1 hI1 ihi => ?_)
  obtain ⟨i, M1⟩ := q
  obtain ⟨hM, hi, hL⟩ := hI1
  dsimp only at hM hi hL ihi ⊢
  have hQ := hL.1
  refine z_iload_n C dX6_layLocks_7 rfl ?_
  refine z_aload_n C dX6_layLocks_8 rfl ?_
  refine z_get C (by first | exact hM.1 | exact hM.2.1 _ rfl | exact hM.2.2.1 _ rfl) z_cls7 hu_X6 2 (by decide) wb_637 rfl rfl dX6_layLocks_9 ?_
  rw [hQ.1 2 (by decide)]
  refine z_icmp_ge C 50 dX6_layLocks_12 (by decide) (fun h12 => ?_) (fun h12 => ?_)
  · have hend := z_ge hN.2.1.1 (by omega) hi h12
    rw [hend] at hL
    exact z_vret C (by omega) (by omega) dX6_layLocks_50 (by exact ⟨rfl, _, hL, hM⟩)
  · have hlti := z_lt hN.2.1.1 (by omega) hi h12
    have hin : vp_in (nI i) 16 := vp_in_nI (by omega) (by omega)
    have hcli : (nI i).toNatClampNeg = i := nI_clamp (by omega)
    refine z_aload_n C dX6_layLocks_15 rfl ?_
    refine z_get C (by first | exact hM.1 | exact hM.2.1 _ rfl | exact hM.2.2.1 _ rfl) z_cls7 hu_X6 8 (by decide) wb_643 rfl rfl dX6_layLocks_16 ?_
    refine z_iload_n C dX6_layLocks_19 rfl ?_
    refine z_iald C (by first | exact hM.1 | exact hM.2.1 _ rfl | exact hM.2.2.1 _ rfl) (by first | assumption) (by first | exact hcli | rfl) dX6_layLocks_20 ?_
    rw [hQ.2 8 (by decide)]
    refine z_if_ge C 44 dX6_layLocks_21 (by decide) (fun h21 => ?_) (fun h21 => ?_)
    · have hK := hL.skip (x_op_iff.mpr h21)
      refine z_iinc C dX6_layLocks_44 rfl rfl (by decide) ?_
      refine z_goto C 7 dX6_layLocks_47 (by decide) ?_
      exact ihi (i + 1, _) _ _ ⟨hM, hlti, hK⟩ (by dsimp only; omega) ⟨rfl, z_lgI rfl (z_inc i), trivial⟩
    · have hop : x_op M i = false := by
        cases q : x_op M i with
        | false => rfl
        | true => exact absurd h21 (x_op_iff.mp q)
      have hK := hL.put hop
      have h10 := k_ci10 hI
      have hlt10 := k_ci_lt hlti hop
      have hv10 : vp_in (nI (k_ci M i)) 10 := vp_in_nI (by omega) (by omega)
      refine z_aload_n C dX6_layLocks_24 rfl ?_
      refine z_get C (by first | exact hM.1 | exact hM.2.1 _ rfl | exact hM.2.2.1 _ rfl) z_cls7 hu_X6 23 (by decide) wb_658 rfl rfl dX6_layLocks_25 ?_
      refine z_aload_n C dX6_layLocks_28 rfl ?_
      refine z_get C (by first | exact hM.1 | exact hM.2.1 _ rfl | exact hM.2.2.1 _ rfl) z_cls7 hu_X6 22 (by decide) wb_657 rfl rfl dX6_layLocks_29 ?_
      rw [hL.2.1]
      refine z_iload_n C dX6_layLocks_32 rfl ?_
      refine z_iast C (by first | exact hM.1 | exact hM.2.1 _ rfl | exact hM.2.2.1 _ rfl) (by exact ⟨_, rfl, rfl⟩) (by first | assumption) (by exact nI_clamp (by omega)) dX6_layLocks_33 (fun H33 hU33 => ?_)
      have hM := hM.sI hU33 rfl
      refine z_aload_n C dX6_layLocks_34 rfl ?_
      refine z_dup C dX6_layLocks_35 rfl ?_
      refine z_get C (by first | exact hM.1 | exact hM.2.1 _ rfl | exact hM.2.2.1 _ rfl) z_cls7 hu_X6 22 (by decide) wb_657 rfl rfl dX6_layLocks_36 ?_
      rw [show (m_sA M1 23 (k_ci M i) (nI i)).1 22 = nI (k_ci M i) from hL.2.1]
      refine z_iconst (v := 1) C dX6_layLocks_39 (by decide) ?_
      refine z_iadd C dX6_layLocks_40 ?_
      refine z_put C (by first | exact hM.1 | exact hM.2.1 _ rfl | exact hM.2.2.1 _ rfl) z_cls7 hu_X6 (by exact ⟨_, rfl, rfl⟩) 22 (by decide) wb_657 rfl rfl (by rfl) (by rfl) (Nat.le_of_ble_eq_true rfl) dX6_layLocks_41 (fun H41 hU41 => ?_)
      have hM := hM.sS hU41 rfl
      refine z_iinc C dX6_layLocks_44 rfl rfl (by decide) ?_
      refine z_goto C 7 dX6_layLocks_47 (by decide) ?_
      exact ihi (i + 1, _) _ _ ⟨hM, hlti, hK⟩ (by dsimp only; omega) ⟨rfl, z_lgI rfl (z_inc i), trivial⟩

set_option maxHeartbeats 4000000 in
set_option maxRecDepth 100000 in
theorem c_X6_costOf (l : Launch) (G : z_G) (ad : Nat → Nat) (M : m_S) {nL : Nat} (hL : M.1 22 = nI nL) (h10 : nL ≤ 10) (h23 : ∀ k, k < nL → vp_in (M.2 23 k) 16) (z : Int32) : z_MR l yX6_costOf cX6_costOf 4 (some .int) 1 [.ref (ad 0), .int z] G (fun H => m_R G ad M H) (.int (F_cost M z nL)) := by
  refine z_M.of (by decide +kernel) (Nat.le_of_ble_eq_true rfl) ?_
  intro p e s m below meth c C hP
  have hM : m_R G ad M s.heap := hP
  refine z_iconst (v := 0) C dX6_costOf_0 (by decide) ?_
  refine z_istore_n C dX6_costOf_1 (by decide) ?_
  refine z_iconst (v := 0) C dX6_costOf_2 (by decide) ?_
  refine z_istore_n C dX6_costOf_3 (by decide) ?_
  refine z_loopN (fun i => [(0, .ref (ad 0)), (1, .int z), (2, .int (F_cost M z i)), (3, .int (nI i))]) nL ⟨rfl, rfl, rfl, rfl, trivial⟩ (fun i hi ihi => ?_)
  refine z_iload_n C dX6_costOf_4 rfl ?_
  refine z_aload_n C dX6_costOf_5 rfl ?_
  refine z_get C (by first | exact hM.1 | exact hM.2.1 _ rfl | exact hM.2.2.1 _ rfl) z_cls7 hu_X6 22 (by decide) wb_657 rfl rfl dX6_costOf_6 ?_
  refine z_icmp_ge C 44 dX6_costOf_9 (by decide) (fun h9 => ?_) (fun h9 => ?_)
  · obtain rfl := z_ge hL (by omega) hi h9
    refine z_iload_n C dX6_costOf_44 rfl ?_
    exact z_iret C (by omega) (by omega) dX6_costOf_45 (by exact ⟨rfl, rfl⟩)
  · have hlti := z_lt hL (by omega) hi h9
    have hini : vp_in (nI i) 10 := vp_in_nI (by omega) (by omega)
    have hcli : (nI i).toNatClampNeg = i := nI_clamp (by omega)
    refine z_iload_n C dX6_costOf_12 rfl ?_
    refine z_iload_n C dX6_costOf_13 rfl ?_
    refine z_iload_n C dX6_costOf_14 rfl ?_
    refine z_callSR (As := [.int _, .int _]) C (c_X6_has _ _ _ _) kc_X6_has wb_861 ⟨by decide, by decide⟩ (trivial) ⟨Nat.zero_le _, Nat.zero_le _⟩ (Nat.le_of_ble_eq_true rfl) dX6_costOf_15 ?_
    refine z_ifb_eq C 35 dX6_costOf_18 (by decide) (fun h18 => ?_) (fun h18 => ?_)
    · refine z_iconst (v := 0) C dX6_costOf_35 (by decide) ?_
      refine z_iadd C dX6_costOf_36 ?_
      refine z_istore_n C dX6_costOf_37 (by decide) ?_
      refine z_iinc C dX6_costOf_38 rfl rfl (by decide) ?_
      refine z_goto C 4 dX6_costOf_41 (by decide) ?_
      exact ihi hlti _ ⟨rfl, rfl, z_lgI rfl (by simp [F_cost, m_sum, *]), z_lgI rfl (z_inc i), trivial⟩
    · refine z_aload_n C dX6_costOf_21 rfl ?_
      refine z_get C (by first | exact hM.1 | exact hM.2.1 _ rfl | exact hM.2.2.1 _ rfl) z_cls7 hu_X6 7 (by decide) wb_642 rfl rfl dX6_costOf_22 ?_
      refine z_aload_n C dX6_costOf_25 rfl ?_
      refine z_get C (by first | exact hM.1 | exact hM.2.1 _ rfl | exact hM.2.2.1 _ rfl) z_cls7 hu_X6 23 (by decide) wb_658 rfl rfl dX6_costOf_26 ?_
      refine z_iload_n C dX6_costOf_29 rfl ?_
      refine z_iald C (by first | exact hM.1 | exact hM.2.1 _ rfl | exact hM.2.2.1 _ rfl) (by first | assumption | exact h23 _ (by assumption)) (by first | exact hcli | rfl) dX6_costOf_30 ?_
      refine z_iald C (by first | exact hM.1 | exact hM.2.1 _ rfl | exact hM.2.2.1 _ rfl) (by first | assumption | exact h23 _ (by assumption)) (by first | exact hcli | rfl) dX6_costOf_31 ?_
      refine z_goto C 36 dX6_costOf_32 (by decide) ?_
      refine z_iadd C dX6_costOf_36 ?_
      refine z_istore_n C dX6_costOf_37 (by decide) ?_
      refine z_iinc C dX6_costOf_38 rfl rfl (by decide) ?_
      refine z_goto C 4 dX6_costOf_41 (by decide) ?_
      exact ihi hlti _ ⟨rfl, rfl, z_lgI rfl (by simp [F_cost, m_sum, *]), z_lgI rfl (z_inc i), trivial⟩

set_option maxHeartbeats 4000000 in
set_option maxRecDepth 100000 in
theorem c_X6_sizeOfSet (l : Launch) (G : z_G) (ad : Nat → Nat) (M : m_S) {nL : Nat} (hL : M.1 22 = nI nL) (h10 : nL ≤ 10) (z : Int32) : z_MR l yX6_sizeOfSet cX6_sizeOfSet 4 (some .int) 1 [.ref (ad 0), .int z] G (fun H => m_R G ad M H) (.int (F_sset z nL)) := by
  refine z_M.of (by decide +kernel) (Nat.le_of_ble_eq_true rfl) ?_
  intro p e s m below meth c C hP
  have hM : m_R G ad M s.heap := hP
  refine z_iconst (v := 0) C dX6_sizeOfSet_0 (by decide) ?_
  refine z_istore_n C dX6_sizeOfSet_1 (by decide) ?_
  refine z_iconst (v := 0) C dX6_sizeOfSet_2 (by decide) ?_
  refine z_istore_n C dX6_sizeOfSet_3 (by decide) ?_
  refine z_loopN (fun i => [(0, .ref (ad 0)), (1, .int z), (2, .int (F_sset z i)), (3, .int (nI i))]) nL ⟨rfl, rfl, rfl, rfl, trivial⟩ (fun i hi ihi => ?_)
  refine z_iload_n C dX6_sizeOfSet_4 rfl ?_
  refine z_aload_n C dX6_sizeOfSet_5 rfl ?_
  refine z_get C (by first | exact hM.1 | exact hM.2.1 _ rfl | exact hM.2.2.1 _ rfl) z_cls7 hu_X6 22 (by decide) wb_657 rfl rfl dX6_sizeOfSet_6 ?_
  refine z_icmp_ge C 34 dX6_sizeOfSet_9 (by decide) (fun h9 => ?_) (fun h9 => ?_)
  · obtain rfl := z_ge hL (by omega) hi h9
    refine z_iload_n C dX6_sizeOfSet_34 rfl ?_
    exact z_iret C (by omega) (by omega) dX6_sizeOfSet_35 (by exact ⟨rfl, rfl⟩)
  · have hlti := z_lt hL (by omega) hi h9
    have hini : vp_in (nI i) 10 := vp_in_nI (by omega) (by omega)
    have hcli : (nI i).toNatClampNeg = i := nI_clamp (by omega)
    refine z_iload_n C dX6_sizeOfSet_12 rfl ?_
    refine z_iload_n C dX6_sizeOfSet_13 rfl ?_
    refine z_iload_n C dX6_sizeOfSet_14 rfl ?_
    refine z_callSR (As := [.int _, .int _]) C (c_X6_has _ _ _ _) kc_X6_has wb_861 ⟨by decide, by decide⟩ (trivial) ⟨Nat.zero_le _, Nat.zero_le _⟩ (Nat.le_of_ble_eq_true rfl) dX6_sizeOfSet_15 ?_
    refine z_ifb_eq C 25 dX6_sizeOfSet_18 (by decide) (fun h18 => ?_) (fun h18 => ?_)
    · refine z_iconst (v := 0) C dX6_sizeOfSet_25 (by decide) ?_
      refine z_iadd C dX6_sizeOfSet_26 ?_
      refine z_istore_n C dX6_sizeOfSet_27 (by decide) ?_
      refine z_iinc C dX6_sizeOfSet_28 rfl rfl (by decide) ?_
      refine z_goto C 4 dX6_sizeOfSet_31 (by decide) ?_
      exact ihi hlti _ ⟨rfl, rfl, z_lgI rfl (by simp [F_sset, m_cnt, m_sum, m_c, *]), z_lgI rfl (z_inc i), trivial⟩
    · refine z_iconst (v := 1) C dX6_sizeOfSet_21 (by decide) ?_
      refine z_goto C 26 dX6_sizeOfSet_22 (by decide) ?_
      refine z_iadd C dX6_sizeOfSet_26 ?_
      refine z_istore_n C dX6_sizeOfSet_27 (by decide) ?_
      refine z_iinc C dX6_sizeOfSet_28 rfl rfl (by decide) ?_
      refine z_goto C 4 dX6_sizeOfSet_31 (by decide) ?_
      exact ihi hlti _ ⟨rfl, rfl, z_lgI rfl (by simp [F_sset, m_cnt, m_sum, m_c, *]), z_lgI rfl (z_inc i), trivial⟩

set_option maxHeartbeats 4000000 in
set_option maxRecDepth 100000 in
theorem c_X6_escapes (l : Launch) (G : z_G) (ad : Nat → Nat) (M : m_S) (z : Int32) (hz : vp_in z 1024) : z_MR l yX6_escapes cX6_escapes 2 (some .boolean) 1 [.ref (ad 0), .int z] G (fun H => m_R G ad M H) (.int (z_b (!(decide (M.1 1 < 0)) && m_has (M.2 25 z.toNatClampNeg) (M.1 1)))) := by
  refine z_M.of (by decide +kernel) (Nat.le_of_ble_eq_true rfl) ?_
  intro p e s m below meth c C hP
  have hM : m_R G ad M s.heap := hP
  refine z_aload_n C dX6_escapes_0 rfl ?_
  refine z_get C (by first | exact hM.1 | exact hM.2.1 _ rfl | exact hM.2.2.1 _ rfl) z_cls7 hu_X6 1 (by decide) wb_636 rfl rfl dX6_escapes_1 ?_
  refine z_if_lt C 27 dX6_escapes_4 (by decide) (fun h4 => ?_) (fun h4 => ?_)
  · refine z_iconst (v := 0) C dX6_escapes_27 (by decide) ?_
    exact z_bret C (by omega) (by omega) dX6_escapes_28 (by rfl) (by exact ⟨congrArg (fun z => some (Value.int z)) (by simp [z_b, z_b, *]), rfl⟩)
  · refine z_aload_n C dX6_escapes_7 rfl ?_
    refine z_get C (by first | exact hM.1 | exact hM.2.1 _ rfl | exact hM.2.2.1 _ rfl) z_cls7 hu_X6 25 (by decide) wb_660 rfl rfl dX6_escapes_8 ?_
    refine z_iload_n C dX6_escapes_11 rfl ?_
    refine z_iald C (by first | exact hM.1 | exact hM.2.1 _ rfl | exact hM.2.2.1 _ rfl) (by exact hz) (by rfl) dX6_escapes_12 ?_
    refine z_aload_n C dX6_escapes_13 rfl ?_
    refine z_get C (by first | exact hM.1 | exact hM.2.1 _ rfl | exact hM.2.2.1 _ rfl) z_cls7 hu_X6 1 (by decide) wb_636 rfl rfl dX6_escapes_14 ?_
    refine z_callSR (As := [.int _, .int _]) C (c_X6_has _ _ _ _) kc_X6_has wb_861 ⟨by decide, by decide⟩ (trivial) ⟨Nat.zero_le _, Nat.zero_le _⟩ (Nat.le_of_ble_eq_true rfl) dX6_escapes_17 ?_
    refine z_ifb_eq C 27 dX6_escapes_20 (by decide) (fun h20 => ?_) (fun h20 => ?_)
    · refine z_iconst (v := 0) C dX6_escapes_27 (by decide) ?_
      exact z_bret C (by omega) (by omega) dX6_escapes_28 (by rfl) (by exact ⟨congrArg (fun z => some (Value.int z)) (by simp [z_b, z_b, *]), rfl⟩)
    · refine z_iconst (v := 1) C dX6_escapes_23 (by decide) ?_
      refine z_goto C 28 dX6_escapes_24 (by decide) ?_
      exact z_bret C (by omega) (by omega) dX6_escapes_28 (by rfl) (by exact ⟨congrArg (fun z => some (Value.int z)) (by simp [z_b, z_b, *]), rfl⟩)
