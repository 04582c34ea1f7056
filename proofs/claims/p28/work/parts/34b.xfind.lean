set_option maxHeartbeats 4000000 in
set_option maxRecDepth 100000 in
theorem c_X3_find0 (l : Launch) (G : z_G) (ad : Nat → Nat → Nat) (M : m_S) (T : x_T) {nR nD nK nG : Nat} (hI : m_I nR nD nK nG M) (g : Nat) (hg : g < nG) (hxe : x_ex ad M = none) : z_M l yX3_find cX3_find 8 none 6 0 0 [.ref (ad 4 9), .ref (ad 3 g), va_rf none, .ref (ad 4 2), .ref (ad 4 3), .int (nI (x_lc M nD))] G (fun H => x_R G ad nR nD nK nG M T H) (x_A ad nR nD nK nG) ((fun v _ H => v = none ∧ ∃ T2, x_R G ad nR nD nK nG M T2 H ∧ T2.2.2.1 4 = T.2.2.1 4 ∧ x_found M nD nK (nI g) T2)) := by
  refine z_M.of (by decide +kernel) (Nat.le_of_ble_eq_true rfl) ?_
  intro p e s m below meth c C hP
  have hX : x_R G ad nR nD nK nG M T s.heap := hP
  have hN := hI.1
  have hR12 := hN.1.2; have hD16 := hN.2.1.2; have hK16 := hN.2.2.1.2; have hG6 := hN.2.2.2.2
  have hlc := hI.lc
  have hp10 := pow10 hlc
  have hoN := x_oN_lt (M := M) nD
  have hgc : (nI g).toNatClampNeg = g := nI_clamp (by omega)
  have hrr : (M.2 16 g).toNatClampNeg = (m_r0 M (nI g)) := by unfold m_r0; rw [hgc]
  have hr12 : (m_r0 M (nI g)) < 12 := by have := hI.rm hg; omega
  have hrm := hI.rm hg
  have hm1 : ¬ nI 1024 < nI 1024 := fun q => absurd ((nI_ltI (a := 1024) (b := 1024) (by omega) (by omega)).mp q) (by omega)
  have hm2 : ¬ nI 1024 < nI (2 ^ x_lc M nD) := fun q => absurd ((nI_ltI (a := 1024) (b := 2 ^ x_lc M nD) (by omega) (by omega)).mp q) (by omega)
  have hex := x_ex_none hI hxe
  refine z_aload_n C dX3_find_0 rfl ?_
  refine z_iconst (v := 0) C dX3_find_1 (by decide) ?_
  refine z_put C (by first | exact hX.1.1 | exact hX.1.2.1 | exact hX.1.2.2.1 | exact hX.1.2.2.2 | exact hX.2.1.1 _ (by first | assumption | exact vp_in_clamp (x_inG hN (by assumption)) | exact vp_in_clamp (x_inD hN (by assumption)) | exact vp_in_clamp (x_inK hN (by assumption)) | exact vp_in_clamp (x_inR hN (by assumption)) | exact hI.rm (by first | assumption | exact vp_in_clamp (x_inG hN (by assumption))) | exact hI.lo (by first | assumption | exact vp_in_clamp (x_inD hN (by assumption))) | exact hI.hi (by first | assumption | exact vp_in_clamp (x_inD hN (by assumption)))) | exact hX.2.1.2.1 _ (by first | assumption | exact vp_in_clamp (x_inD hN (by assumption))) | exact hX.2.1.2.2.1 _ (by first | assumption | exact vp_in_clamp (x_inK hN (by assumption))) | exact hX.2.1.2.2.2 _ (by first | assumption | exact vp_in_clamp (x_inG hN (by assumption)))) z_cls4 hu_X3 (by exact ⟨_, _, by unfold x_in; omega, rfl⟩) 6 (by decide) wb_64 rfl rfl (by rfl) (by rfl) (Nat.le_of_ble_eq_true rfl) dX3_find_2 (fun H2 hU2 => ?_)
  have hX := hX.sI1 hU2
  refine z_aload_nq (x := none) C dX3_find_5 rfl ?_
  refine z_ifnonnull C 10 dX3_find_6 (by decide) (fun a6 h6 => ?_) (fun h6 => ?_)
  · cases h6
  · exact z_vret C (by omega) (by omega) dX3_find_9 (by exact ⟨rfl, t_i T 1 0, hX, rfl, Or.inl ⟨rfl, d_none hI hex⟩⟩)

set_option maxHeartbeats 4000000 in
set_option maxRecDepth 100000 in
theorem c_X3_find1 (l : Launch) (G : z_G) (ad : Nat → Nat → Nat) (M : m_S) (T : x_T) {nR nD nK nG : Nat} (hI : m_I nR nD nK nG M) (g : Nat) (hg : g < nG) (q0 : Nat) (hq0 : q0 < nR) (hex : M.1 1 = nI q0) : z_M l yX3_find cX3_find 8 none 6 0 0 [.ref (ad 4 9), .ref (ad 3 g), va_rf (some (ad 0 q0)), .ref (ad 4 2), .ref (ad 4 3), .int (nI (x_lc M nD))] G (fun H => x_R G ad nR nD nK nG M T H) (x_A ad nR nD nK nG) ((fun v _ H => v = none ∧ ∃ T2, x_R G ad nR nD nK nG M T2 H ∧ T2.2.2.1 4 = T.2.2.1 4 ∧ x_found M nD nK (nI g) T2)) := by
  refine z_M.of (by decide +kernel) (Nat.le_of_ble_eq_true rfl) ?_
  intro p e s m below meth c C hP
  have hX : x_R G ad nR nD nK nG M T s.heap := hP
  have hN := hI.1
  have hR12 := hN.1.2; have hD16 := hN.2.1.2; have hK16 := hN.2.2.1.2; have hG6 := hN.2.2.2.2
  have hlc := hI.lc
  have hp10 := pow10 hlc
  have hoN := x_oN_lt (M := M) nD
  have hgc : (nI g).toNatClampNeg = g := nI_clamp (by omega)
  have hrr : (M.2 16 g).toNatClampNeg = (m_r0 M (nI g)) := by unfold m_r0; rw [hgc]
  have hr12 : (m_r0 M (nI g)) < 12 := by have := hI.rm hg; omega
  have hrm := hI.rm hg
  have hm1 : ¬ nI 1024 < nI 1024 := fun q => absurd ((nI_ltI (a := 1024) (b := 1024) (by omega) (by omega)).mp q) (by omega)
  have hm2 : ¬ nI 1024 < nI (2 ^ x_lc M nD) := fun q => absurd ((nI_ltI (a := 1024) (b := 2 ^ x_lc M nD) (by omega) (by omega)).mp q) (by omega)
  refine z_aload_n C dX3_find_0 rfl ?_
  refine z_iconst (v := 0) C dX3_find_1 (by decide) ?_
  refine z_put C (by first | exact hX.1.1 | exact hX.1.2.1 | exact hX.1.2.2.1 | exact hX.1.2.2.2 | exact hX.2.1.1 _ (by first | assumption | exact vp_in_clamp (x_inG hN (by assumption)) | exact vp_in_clamp (x_inD hN (by assumption)) | exact vp_in_clamp (x_inK hN (by assumption)) | exact vp_in_clamp (x_inR hN (by assumption)) | exact hI.rm (by first | assumption | exact vp_in_clamp (x_inG hN (by assumption))) | exact hI.lo (by first | assumption | exact vp_in_clamp (x_inD hN (by assumption))) | exact hI.hi (by first | assumption | exact vp_in_clamp (x_inD hN (by assumption)))) | exact hX.2.1.2.1 _ (by first | assumption | exact vp_in_clamp (x_inD hN (by assumption))) | exact hX.2.1.2.2.1 _ (by first | assumption | exact vp_in_clamp (x_inK hN (by assumption))) | exact hX.2.1.2.2.2 _ (by first | assumption | exact vp_in_clamp (x_inG hN (by assumption)))) z_cls4 hu_X3 (by exact ⟨_, _, by unfold x_in; omega, rfl⟩) 6 (by decide) wb_64 rfl rfl (by rfl) (by rfl) (Nat.le_of_ble_eq_true rfl) dX3_find_2 (fun H2 hU2 => ?_)
  have hX := hX.sI1 hU2
  refine z_aload_nq (x := some (ad 0 q0)) C dX3_find_5 rfl ?_
  refine z_ifnonnull C 10 dX3_find_6 (by decide) (fun a6 h6 => ?_) (fun h6 => ?_)
  · clear h6
    refine z_aload_n C dX3_find_10 rfl ?_
    refine z_aload_n C dX3_find_11 rfl ?_
    refine z_put C (by first | exact hX.1.1 | exact hX.1.2.1 | exact hX.1.2.2.1 | exact hX.1.2.2.2 | exact hX.2.1.1 _ (by first | assumption | exact vp_in_clamp (x_inG hN (by assumption)) | exact vp_in_clamp (x_inD hN (by assumption)) | exact vp_in_clamp (x_inK hN (by assumption)) | exact vp_in_clamp (x_inR hN (by assumption)) | exact hI.rm (by first | assumption | exact vp_in_clamp (x_inG hN (by assumption))) | exact hI.lo (by first | assumption | exact vp_in_clamp (x_inD hN (by assumption))) | exact hI.hi (by first | assumption | exact vp_in_clamp (x_inD hN (by assumption)))) | exact hX.2.1.2.1 _ (by first | assumption | exact vp_in_clamp (x_inD hN (by assumption))) | exact hX.2.1.2.2.1 _ (by first | assumption | exact vp_in_clamp (x_inK hN (by assumption))) | exact hX.2.1.2.2.2 _ (by first | assumption | exact vp_in_clamp (x_inG hN (by assumption)))) z_cls4 hu_X3 (by exact ⟨_, _, by unfold x_in; omega, rfl⟩) 2 (by decide) wb_60 rfl rfl (by rfl) (by rfl) (Nat.le_of_ble_eq_true rfl) dX3_find_12 (fun H12 hU12 => ?_)
    have hX := hX.sO0 (v := some (ad 3 g)) hU12
    refine z_aload_n C dX3_find_15 rfl ?_
    refine z_aload_n C dX3_find_16 rfl ?_
    refine z_put C (by first | exact hX.1.1 | exact hX.1.2.1 | exact hX.1.2.2.1 | exact hX.1.2.2.2 | exact hX.2.1.1 _ (by first | assumption | exact vp_in_clamp (x_inG hN (by assumption)) | exact vp_in_clamp (x_inD hN (by assumption)) | exact vp_in_clamp (x_inK hN (by assumption)) | exact vp_in_clamp (x_inR hN (by assumption)) | exact hI.rm (by first | assumption | exact vp_in_clamp (x_inG hN (by assumption))) | exact hI.lo (by first | assumption | exact vp_in_clamp (x_inD hN (by assumption))) | exact hI.hi (by first | assumption | exact vp_in_clamp (x_inD hN (by assumption)))) | exact hX.2.1.2.1 _ (by first | assumption | exact vp_in_clamp (x_inD hN (by assumption))) | exact hX.2.1.2.2.1 _ (by first | assumption | exact vp_in_clamp (x_inK hN (by assumption))) | exact hX.2.1.2.2.2 _ (by first | assumption | exact vp_in_clamp (x_inG hN (by assumption)))) z_cls4 hu_X3 (by exact ⟨_, _, by unfold x_in; omega, rfl⟩) 3 (by decide) wb_61 rfl rfl (by rfl) (by rfl) (Nat.le_of_ble_eq_true rfl) dX3_find_17 (fun H17 hU17 => ?_)
    have hX := hX.sO1 (v := some (ad 4 2)) hU17
    refine z_aload_n C dX3_find_20 rfl ?_
    refine z_aload C dX3_find_21 rfl ?_
    refine z_put C (by first | exact hX.1.1 | exact hX.1.2.1 | exact hX.1.2.2.1 | exact hX.1.2.2.2 | exact hX.2.1.1 _ (by first | assumption | exact vp_in_clamp (x_inG hN (by assumption)) | exact vp_in_clamp (x_inD hN (by assumption)) | exact vp_in_clamp (x_inK hN (by assumption)) | exact vp_in_clamp (x_inR hN (by assumption)) | exact hI.rm (by first | assumption | exact vp_in_clamp (x_inG hN (by assumption))) | exact hI.lo (by first | assumption | exact vp_in_clamp (x_inD hN (by assumption))) | exact hI.hi (by first | assumption | exact vp_in_clamp (x_inD hN (by assumption)))) | exact hX.2.1.2.1 _ (by first | assumption | exact vp_in_clamp (x_inD hN (by assumption))) | exact hX.2.1.2.2.1 _ (by first | assumption | exact vp_in_clamp (x_inK hN (by assumption))) | exact hX.2.1.2.2.2 _ (by first | assumption | exact vp_in_clamp (x_inG hN (by assumption)))) z_cls4 hu_X3 (by exact ⟨_, _, by unfold x_in; omega, rfl⟩) 4 (by decide) wb_62 rfl rfl (by rfl) (by rfl) (Nat.le_of_ble_eq_true rfl) dX3_find_23 (fun H23 hU23 => ?_)
    have hX := hX.sO2 (v := some (ad 4 3)) hU23
    refine z_aload_n C dX3_find_26 rfl ?_
    refine z_aload_n C dX3_find_27 rfl ?_
    refine z_callSNR (As := [.ref _]) C (c_X5_openLocks _ _ ad M _ hI) kc_X5_openLocks C.2.2.2.2.2.2.1.2.2.1 ⟨by decide, by decide⟩ (hX) ⟨Nat.zero_le _, Nat.zero_le _⟩ (Nat.le_of_ble_eq_true rfl) dX3_find_28 ?_
    refine z_put C (by first | exact hX.1.1 | exact hX.1.2.1 | exact hX.1.2.2.1 | exact hX.1.2.2.2 | exact hX.2.1.1 _ (by first | assumption | exact vp_in_clamp (x_inG hN (by assumption)) | exact vp_in_clamp (x_inD hN (by assumption)) | exact vp_in_clamp (x_inK hN (by assumption)) | exact vp_in_clamp (x_inR hN (by assumption)) | exact hI.rm (by first | assumption | exact vp_in_clamp (x_inG hN (by assumption))) | exact hI.lo (by first | assumption | exact vp_in_clamp (x_inD hN (by assumption))) | exact hI.hi (by first | assumption | exact vp_in_clamp (x_inD hN (by assumption)))) | exact hX.2.1.2.1 _ (by first | assumption | exact vp_in_clamp (x_inD hN (by assumption))) | exact hX.2.1.2.2.1 _ (by first | assumption | exact vp_in_clamp (x_inK hN (by assumption))) | exact hX.2.1.2.2.2 _ (by first | assumption | exact vp_in_clamp (x_inG hN (by assumption)))) z_cls4 hu_X3 (by exact ⟨_, _, by unfold x_in; omega, rfl⟩) 5 (by decide) wb_63 rfl rfl (by rfl) (by rfl) (Nat.le_of_ble_eq_true rfl) dX3_find_31 (fun H31 hU31 => ?_)
    have hX := hX.sI0 hU31
    refine z_iconst (v := 1) C dX3_find_34 (by decide) ?_
    refine z_iload C dX3_find_35 rfl ?_
    refine z_ishl C dX3_find_37 ?_
    rw [show (1 : Int32) <<< (nI (x_lc M nD) &&& 31) = x_bit (nI (x_lc M nD)) from rfl, x_bit_nI (by omega)]
    refine z_aload_n C dX3_find_38 rfl ?_
    refine z_get C (by first | exact hX.1.1 | exact hX.1.2.1 | exact hX.1.2.2.1 | exact hX.1.2.2.2 | exact hX.2.1.1 _ (by first | assumption | exact vp_in_clamp (x_inG hN (by assumption)) | exact vp_in_clamp (x_inD hN (by assumption)) | exact vp_in_clamp (x_inK hN (by assumption)) | exact vp_in_clamp (x_inR hN (by assumption)) | exact hI.rm (by first | assumption | exact vp_in_clamp (x_inG hN (by assumption))) | exact hI.lo (by first | assumption | exact vp_in_clamp (x_inD hN (by assumption))) | exact hI.hi (by first | assumption | exact vp_in_clamp (x_inD hN (by assumption)))) | exact hX.2.1.2.1 _ (by first | assumption | exact vp_in_clamp (x_inD hN (by assumption))) | exact hX.2.1.2.2.1 _ (by first | assumption | exact vp_in_clamp (x_inK hN (by assumption))) | exact hX.2.1.2.2.2 _ (by first | assumption | exact vp_in_clamp (x_inG hN (by assumption)))) z_cls4 hu_X3 0 (by decide) wb_58 rfl rfl dX3_find_39 ?_
    refine z_alen C (by first | exact hX.1.1 | exact hX.1.2.1 | exact hX.1.2.2.1 | exact hX.1.2.2.2 | exact hX.2.1.1 _ (by first | assumption | exact vp_in_clamp (x_inG hN (by assumption)) | exact vp_in_clamp (x_inD hN (by assumption)) | exact vp_in_clamp (x_inK hN (by assumption)) | exact vp_in_clamp (x_inR hN (by assumption)) | exact hI.rm (by first | assumption | exact vp_in_clamp (x_inG hN (by assumption))) | exact hI.lo (by first | assumption | exact vp_in_clamp (x_inD hN (by assumption))) | exact hI.hi (by first | assumption | exact vp_in_clamp (x_inD hN (by assumption)))) | exact hX.2.1.2.1 _ (by first | assumption | exact vp_in_clamp (x_inD hN (by assumption))) | exact hX.2.1.2.2.1 _ (by first | assumption | exact vp_in_clamp (x_inK hN (by assumption))) | exact hX.2.1.2.2.2 _ (by first | assumption | exact vp_in_clamp (x_inG hN (by assumption)))) (t := 0) rfl dX3_find_42 ?_
    refine z_aload_n C dX3_find_43 rfl ?_
    refine z_get C (by first | exact hX.1.1 | exact hX.1.2.1 | exact hX.1.2.2.1 | exact hX.1.2.2.2 | exact hX.2.1.1 _ (by first | assumption | exact vp_in_clamp (x_inG hN (by assumption)) | exact vp_in_clamp (x_inD hN (by assumption)) | exact vp_in_clamp (x_inK hN (by assumption)) | exact vp_in_clamp (x_inR hN (by assumption)) | exact hI.rm (by first | assumption | exact vp_in_clamp (x_inG hN (by assumption))) | exact hI.lo (by first | assumption | exact vp_in_clamp (x_inD hN (by assumption))) | exact hI.hi (by first | assumption | exact vp_in_clamp (x_inD hN (by assumption)))) | exact hX.2.1.2.1 _ (by first | assumption | exact vp_in_clamp (x_inD hN (by assumption))) | exact hX.2.1.2.2.1 _ (by first | assumption | exact vp_in_clamp (x_inK hN (by assumption))) | exact hX.2.1.2.2.2 _ (by first | assumption | exact vp_in_clamp (x_inG hN (by assumption)))) z_cls4 hu_X3 1 (by decide) wb_59 rfl rfl dX3_find_44 ?_
    refine z_alen C (by first | exact hX.1.1 | exact hX.1.2.1 | exact hX.1.2.2.1 | exact hX.1.2.2.2 | exact hX.2.1.1 _ (by first | assumption | exact vp_in_clamp (x_inG hN (by assumption)) | exact vp_in_clamp (x_inD hN (by assumption)) | exact vp_in_clamp (x_inK hN (by assumption)) | exact vp_in_clamp (x_inR hN (by assumption)) | exact hI.rm (by first | assumption | exact vp_in_clamp (x_inG hN (by assumption))) | exact hI.lo (by first | assumption | exact vp_in_clamp (x_inD hN (by assumption))) | exact hI.hi (by first | assumption | exact vp_in_clamp (x_inD hN (by assumption)))) | exact hX.2.1.2.1 _ (by first | assumption | exact vp_in_clamp (x_inD hN (by assumption))) | exact hX.2.1.2.2.1 _ (by first | assumption | exact vp_in_clamp (x_inK hN (by assumption))) | exact hX.2.1.2.2.2 _ (by first | assumption | exact vp_in_clamp (x_inG hN (by assumption)))) (t := 1) rfl dX3_find_47 ?_
    refine z_mmin C wb_496 wb_203 wb_9 wb_204 (by decide) (Nat.le_of_ble_eq_true rfl) (Nat.zero_le _) (Nat.zero_le _) dX3_find_48 ?_
    refine z_eqst (congrArg (fun z => [Value.int z, Value.int (nI (2 ^ x_lc M nD))]) (if_neg hm1)) ?_
    refine z_mmin C wb_496 wb_203 wb_9 wb_204 (by decide) (Nat.le_of_ble_eq_true rfl) (Nat.zero_le _) (Nat.zero_le _) dX3_find_51 ?_
    refine z_eqst (congrArg (fun z => [Value.int z]) (if_neg hm2)) ?_
    refine z_istore C dX3_find_54 (by decide) ?_
    refine z_iconst (v := 0) C dX3_find_56 (by decide) ?_
    refine z_istore C dX3_find_57 (by decide) ?_
    refine z_loopS (fun q : Nat × x_T => 2 ^ x_lc M nD - q.1) (fun q H1 => q.1 ≤ 2 ^ x_lc M nD ∧ x_R G ad nR nD nK nG M q.2 H1 ∧ x_E (t_i (t_o (t_o (t_o (t_i T 1 0) 0 (some (ad 3 g))) 1 (some (ad 4 2))) 2 (some (ad 4 3))) 0 (x_ol M nD)) q.2 ∧ ∀ t, t < q.1 → q.2.2.2.2.2.1 t = 0) (fun q => [(0, .ref (ad 4 9)), (1, .ref (ad 3 g)), (2, va_rf (some (ad 0 q0))), (6, .int (nI (2 ^ x_lc M nD))), (7, .int (nI q.1))]) (0, (t_i (t_o (t_o (t_o (t_i T 1 0) 0 (some (ad 3 g))) 1 (some (ad 4 2))) 2 (some (ad 4 3))) 0 (x_ol M nD))) ⟨Nat.zero_le _, hX, x_E.refl, fun t ht => absurd ht (Nat.not_lt_zero t)⟩ ⟨rfl, rfl, rfl, rfl, rfl, trivial⟩ (fun q H1 hI1 ihi => ?_)
    obtain ⟨s0, T1⟩ := q
    obtain ⟨hs, hX, hE, hz⟩ := hI1
    dsimp only at hs hX hE hz ihi ⊢
    refine z_iload C dX3_find_59 rfl ?_
    refine z_iload C dX3_find_61 rfl ?_
    refine z_icmp_ge C 80 dX3_find_63 (by decide) (fun h63 => ?_) (fun h63 => ?_)
    · have hend := z_ge (rfl : nI (2 ^ x_lc M nD) = nI (2 ^ x_lc M nD)) (by omega) hs h63
      rw [hend] at hz
      have hW1 : x_W ad M nD g T1 := hE.W (T := (t_i (t_o (t_o (t_o (t_i T 1 0) 0 (some (ad 3 g))) 1 (some (ad 4 2))) 2 (some (ad 4 3))) 0 (x_ol M nD))) ⟨rfl, rfl, rfl, rfl⟩
      refine z_aload_n C dX3_find_80 rfl ?_
      refine z_aload_n C dX3_find_81 rfl ?_
      refine z_get C (by first | exact hX.1.1 | exact hX.1.2.1 | exact hX.1.2.2.1 | exact hX.1.2.2.2 | exact hX.2.1.1 _ (by first | assumption | exact vp_in_clamp (x_inG hN (by assumption)) | exact vp_in_clamp (x_inD hN (by assumption)) | exact vp_in_clamp (x_inK hN (by assumption)) | exact vp_in_clamp (x_inR hN (by assumption)) | exact hI.rm (by first | assumption | exact vp_in_clamp (x_inG hN (by assumption))) | exact hI.lo (by first | assumption | exact vp_in_clamp (x_inD hN (by assumption))) | exact hI.hi (by first | assumption | exact vp_in_clamp (x_inD hN (by assumption)))) | exact hX.2.1.2.1 _ (by first | assumption | exact vp_in_clamp (x_inD hN (by assumption))) | exact hX.2.1.2.2.1 _ (by first | assumption | exact vp_in_clamp (x_inK hN (by assumption))) | exact hX.2.1.2.2.2 _ (by first | assumption | exact vp_in_clamp (x_inG hN (by assumption)))) z_cls4 hu_X3 5 (by decide) wb_63 rfl rfl dX3_find_82 ?_
      rw [hW1.2.2.2, x_ol_oN hI]
      refine z_aload_n C dX3_find_85 rfl ?_
      refine z_get C (by first | exact hX.1.1 | exact hX.1.2.1 | exact hX.1.2.2.1 | exact hX.1.2.2.2 | exact hX.2.1.1 _ (by first | assumption | exact vp_in_clamp (x_inG hN (by assumption)) | exact vp_in_clamp (x_inD hN (by assumption)) | exact vp_in_clamp (x_inK hN (by assumption)) | exact vp_in_clamp (x_inR hN (by assumption)) | exact hI.rm (by first | assumption | exact vp_in_clamp (x_inG hN (by assumption))) | exact hI.lo (by first | assumption | exact vp_in_clamp (x_inD hN (by assumption))) | exact hI.hi (by first | assumption | exact vp_in_clamp (x_inD hN (by assumption)))) | exact hX.2.1.2.1 _ (by first | assumption | exact vp_in_clamp (x_inD hN (by assumption))) | exact hX.2.1.2.2.1 _ (by first | assumption | exact vp_in_clamp (x_inK hN (by assumption))) | exact hX.2.1.2.2.2 _ (by first | assumption | exact vp_in_clamp (x_inG hN (by assumption)))) z_cls2 hu_X1 2 (by decide) wb_371 rfl rfl dX3_find_86 ?_
      refine z_get C (by first | exact hX.1.1 | exact hX.1.2.1 | exact hX.1.2.2.1 | exact hX.1.2.2.2 | exact hX.2.1.1 _ (by first | assumption | exact vp_in_clamp (x_inG hN (by assumption)) | exact vp_in_clamp (x_inD hN (by assumption)) | exact vp_in_clamp (x_inK hN (by assumption)) | exact vp_in_clamp (x_inR hN (by assumption)) | exact hI.rm (by first | assumption | exact vp_in_clamp (x_inG hN (by assumption))) | exact hI.lo (by first | assumption | exact vp_in_clamp (x_inD hN (by assumption))) | exact hI.hi (by first | assumption | exact vp_in_clamp (x_inD hN (by assumption)))) | exact hX.2.1.2.1 _ (by first | assumption | exact vp_in_clamp (x_inD hN (by assumption))) | exact hX.2.1.2.2.1 _ (by first | assumption | exact vp_in_clamp (x_inK hN (by assumption))) | exact hX.2.1.2.2.2 _ (by first | assumption | exact vp_in_clamp (x_inG hN (by assumption)))) z_cls5 hu_X4 1 (by decide) wb_143 rfl rfl dX3_find_89 ?_
      refine z_lconst (v := 0) C dX3_find_92 (by decide) ?_
      refine z_callV (As := [.int _, .int _, .long _]) C (c_X3_comeTo _ _ ad M T1 hI hg hW1 (x_oN M nD) (by omega) _ _ (m_r0 M (nI g)) hr12 (by rw [hrr, tb_bit (by omega)]; simp)) kc_X3_comeTo wb_497 ⟨by decide, by decide⟩ hX.1.2.1 rfl (hX) (fun _ h => h) ⟨Nat.zero_le _, Nat.zero_le _⟩ (Nat.le_of_ble_eq_true rfl) dX3_find_93 (fun v H93 hq _ _ => ?_)
      obtain ⟨rfl, hX⟩ := hq
      rw [hrr] at hX
      have hT0 := d_T.init (nK := nK) (g := nI g) hI hr12 hz
      have hE1 := x_E.come (M := M) (nD := nD) (T := T1) (t := x_oN M nD) (y := x_bit (nI (m_r0 M (nI g)))) (w := 0)
      have h4 : (x_come M nD T1 (x_oN M nD) (x_bit (nI (m_r0 M (nI g)))) 0).2.2.1 4 = T.2.2.1 4 := by rw [hE1.2.2.1, hE.2.2.1]; rfl
      have hB0 : d_B M nD nK (m_r0 M (nI g)) (nI g) 0 (x_come M nD T1 (x_oN M nD) (x_bit (nI (m_r0 M (nI g)))) 0) := d_B.init (by rw [hE1.2.2.1, hE.2.2.1]; rfl)
      refine z_iconst (v := 0) C dX3_find_96 (by decide) ?_
      refine z_istore C dX3_find_97 (by decide) ?_
      refine z_loopS (fun q : Nat × x_T => 2 ^ x_lc M nD - q.1) (fun q H1 => q.1 ≤ 2 ^ x_lc M nD ∧ x_R G ad nR nD nK nG M q.2 H1 ∧ x_W ad M nD g q.2 ∧ q.2.2.2.1 4 = T.2.2.1 4 ∧ d_T M nD nK (m_r0 M (nI g)) (nI g) (d_Q q.1 0) q.2 ∧ d_B M nD nK (m_r0 M (nI g)) (nI g) q.1 q.2) (fun q => [(0, .ref (ad 4 9)), (1, .ref (ad 3 g)), (2, va_rf (some (ad 0 q0))), (6, .int (nI (2 ^ x_lc M nD))), (7, .int (nI q.1))]) (0, x_come M nD T1 (x_oN M nD) (x_bit (nI (m_r0 M (nI g)))) 0) ⟨Nat.zero_le _, hX, hE1.W hW1, h4, hT0, hB0⟩ ⟨rfl, rfl, rfl, rfl, rfl, trivial⟩ (fun q H1 hI1 ihs => ?_)
      obtain ⟨s0, T2⟩ := q
      obtain ⟨hs, hX, hW2, h4, hT, hB⟩ := hI1
      dsimp only at hs hX hW2 h4 hT hB ihs ⊢
      refine z_iload C dX3_find_99 rfl ?_
      refine z_iload C dX3_find_101 rfl ?_
      refine z_icmp_ge C 173 dX3_find_103 (by decide) (fun h103 => ?_) (fun h103 => ?_)
      · have hend := z_ge (rfl : nI (2 ^ x_lc M nD) = nI (2 ^ x_lc M nD)) (by omega) hs h103
        rw [hend] at hB
        exact z_vret C (by omega) (by omega) dX3_find_173 (by exact ⟨rfl, T2, hX, h4, hB.found hI⟩)
      · have hsL : s0 < 2 ^ x_lc M nD := z_lt (rfl : nI (2 ^ x_lc M nD) = nI (2 ^ x_lc M nD)) (by omega) hs h103
        have hsv : vp_in (nI s0) 1024 := vp_in_nI (by omega) (by omega)
        have hcls : (nI s0).toNatClampNeg = s0 := nI_clamp (by omega)
        refine z_aload_n C dX3_find_106 rfl ?_
        refine z_get C (by first | exact hX.1.1 | exact hX.1.2.1 | exact hX.1.2.2.1 | exact hX.1.2.2.2 | exact hX.2.1.1 _ (by first | assumption | exact vp_in_clamp (x_inG hN (by assumption)) | exact vp_in_clamp (x_inD hN (by assumption)) | exact vp_in_clamp (x_inK hN (by assumption)) | exact vp_in_clamp (x_inR hN (by assumption)) | exact hI.rm (by first | assumption | exact vp_in_clamp (x_inG hN (by assumption))) | exact hI.lo (by first | assumption | exact vp_in_clamp (x_inD hN (by assumption))) | exact hI.hi (by first | assumption | exact vp_in_clamp (x_inD hN (by assumption)))) | exact hX.2.1.2.1 _ (by first | assumption | exact vp_in_clamp (x_inD hN (by assumption))) | exact hX.2.1.2.2.1 _ (by first | assumption | exact vp_in_clamp (x_inK hN (by assumption))) | exact hX.2.1.2.2.2 _ (by first | assumption | exact vp_in_clamp (x_inG hN (by assumption)))) z_cls4 hu_X3 0 (by decide) wb_58 rfl rfl dX3_find_107 ?_
        refine z_iload C dX3_find_110 rfl ?_
        refine z_iald C (by first | exact hX.1.1 | exact hX.1.2.1 | exact hX.1.2.2.1 | exact hX.1.2.2.2 | exact hX.2.1.1 _ (by first | assumption | exact vp_in_clamp (x_inG hN (by assumption)) | exact vp_in_clamp (x_inD hN (by assumption)) | exact vp_in_clamp (x_inK hN (by assumption)) | exact vp_in_clamp (x_inR hN (by assumption)) | exact hI.rm (by first | assumption | exact vp_in_clamp (x_inG hN (by assumption))) | exact hI.lo (by first | assumption | exact vp_in_clamp (x_inD hN (by assumption))) | exact hI.hi (by first | assumption | exact vp_in_clamp (x_inD hN (by assumption)))) | exact hX.2.1.2.1 _ (by first | assumption | exact vp_in_clamp (x_inD hN (by assumption))) | exact hX.2.1.2.2.1 _ (by first | assumption | exact vp_in_clamp (x_inK hN (by assumption))) | exact hX.2.1.2.2.2 _ (by first | assumption | exact vp_in_clamp (x_inG hN (by assumption)))) (by first | exact hsv | first | assumption | exact x_inG hN (by assumption) | exact x_inD hN (by assumption) | exact x_inK hN (by assumption) | exact x_inR hN (by assumption)) (by first | exact hcls | rfl) dX3_find_112 ?_
        refine z_aload_n C dX3_find_113 rfl ?_
        refine z_get C (by first | exact hX.1.1 | exact hX.1.2.1 | exact hX.1.2.2.1 | exact hX.1.2.2.2 | exact hX.2.1.1 _ (by first | assumption | exact vp_in_clamp (x_inG hN (by assumption)) | exact vp_in_clamp (x_inD hN (by assumption)) | exact vp_in_clamp (x_inK hN (by assumption)) | exact vp_in_clamp (x_inR hN (by assumption)) | exact hI.rm (by first | assumption | exact vp_in_clamp (x_inG hN (by assumption))) | exact hI.lo (by first | assumption | exact vp_in_clamp (x_inD hN (by assumption))) | exact hI.hi (by first | assumption | exact vp_in_clamp (x_inD hN (by assumption)))) | exact hX.2.1.2.1 _ (by first | assumption | exact vp_in_clamp (x_inD hN (by assumption))) | exact hX.2.1.2.2.1 _ (by first | assumption | exact vp_in_clamp (x_inK hN (by assumption))) | exact hX.2.1.2.2.2 _ (by first | assumption | exact vp_in_clamp (x_inG hN (by assumption)))) z_cls5 hu_X4 1 (by decide) wb_143 rfl rfl dX3_find_114 ?_
        refine z_iand C dX3_find_117 ?_
        refine z_if_eq C 137 dX3_find_118 (by decide) (fun h118 => ?_) (fun h118 => ?_)
        · refine z_aload_n C dX3_find_137 rfl ?_
          refine z_get C (by first | exact hX.1.1 | exact hX.1.2.1 | exact hX.1.2.2.1 | exact hX.1.2.2.2 | exact hX.2.1.1 _ (by first | assumption | exact vp_in_clamp (x_inG hN (by assumption)) | exact vp_in_clamp (x_inD hN (by assumption)) | exact vp_in_clamp (x_inK hN (by assumption)) | exact vp_in_clamp (x_inR hN (by assumption)) | exact hI.rm (by first | assumption | exact vp_in_clamp (x_inG hN (by assumption))) | exact hI.lo (by first | assumption | exact vp_in_clamp (x_inD hN (by assumption))) | exact hI.hi (by first | assumption | exact vp_in_clamp (x_inD hN (by assumption)))) | exact hX.2.1.2.1 _ (by first | assumption | exact vp_in_clamp (x_inD hN (by assumption))) | exact hX.2.1.2.2.1 _ (by first | assumption | exact vp_in_clamp (x_inK hN (by assumption))) | exact hX.2.1.2.2.2 _ (by first | assumption | exact vp_in_clamp (x_inG hN (by assumption)))) z_cls4 hu_X3 0 (by decide) wb_58 rfl rfl dX3_find_138 ?_
          refine z_iload C dX3_find_141 rfl ?_
          refine z_iald C (by first | exact hX.1.1 | exact hX.1.2.1 | exact hX.1.2.2.1 | exact hX.1.2.2.2 | exact hX.2.1.1 _ (by first | assumption | exact vp_in_clamp (x_inG hN (by assumption)) | exact vp_in_clamp (x_inD hN (by assumption)) | exact vp_in_clamp (x_inK hN (by assumption)) | exact vp_in_clamp (x_inR hN (by assumption)) | exact hI.rm (by first | assumption | exact vp_in_clamp (x_inG hN (by assumption))) | exact hI.lo (by first | assumption | exact vp_in_clamp (x_inD hN (by assumption))) | exact hI.hi (by first | assumption | exact vp_in_clamp (x_inD hN (by assumption)))) | exact hX.2.1.2.1 _ (by first | assumption | exact vp_in_clamp (x_inD hN (by assumption))) | exact hX.2.1.2.2.1 _ (by first | assumption | exact vp_in_clamp (x_inK hN (by assumption))) | exact hX.2.1.2.2.2 _ (by first | assumption | exact vp_in_clamp (x_inG hN (by assumption)))) (by first | exact hsv | first | assumption | exact x_inG hN (by assumption) | exact x_inD hN (by assumption) | exact x_inK hN (by assumption) | exact x_inR hN (by assumption)) (by first | exact hcls | rfl) dX3_find_143 ?_
          refine z_if_eq C 167 dX3_find_144 (by decide) (fun h144 => ?_) (fun h144 => ?_)
          · have hnn : ∀ ds', p_RF (k_cA M nD nK (m_r0 M (nI g)) (nI g)) (k_esc M nD (m_r0 M (nI g))) (k_out M nD (m_r0 M (nI g))) ds' → d_n M nD ds' = s0 → False := fun ds' a b => by
              rcases hT s0 hsL with ⟨-, z⟩ | ⟨ds1, -, z, -⟩
              · exact z ds' (d_K_any hI a b)
              · rw [h144] at z; exact k_R_ne0 (by omega) z.symm
            have hWn := hW2
            have h4n := h4
            have hTn := hT.skip (fun e ds' q1 q2 => hnn ds' q1.1 q2)
            have hBn := hB.pass hI (fun q a _ c => hnn q a c)
            refine z_iinc C dX3_find_167 rfl rfl (by decide) ?_
            refine z_goto C 99 dX3_find_170 (by decide) ?_
            exact ihs (s0 + 1, _) _ _ ⟨hsL, hX, hWn, h4n, hTn, hBn⟩ (by dsimp only; omega) ⟨rfl, rfl, rfl, rfl, z_lgI rfl (z_inc s0), trivial⟩
          · obtain ⟨ds0, hK, hrow, hseq, hmin0⟩ := (hT s0 hsL).resolve_left (fun z => h144 z.1)
            have hRF := hK.1
            have hs0 := hK.2.1
            have hmin : ∀ ds', p_RF (k_cA M nD nK (m_r0 M (nI g)) (nI g)) (k_esc M nD (m_r0 M (nI g))) (k_out M nD (m_r0 M (nI g))) ds' → d_n M nD ds' = s0 → p_enc ds0 ≤ p_enc ds' := fun ds' a b => hmin0 ds' (d_K_any hI a b)
            have hCs : k_C M nD (x_lc M) s0 = p_mem ds0 := by rw [← hs0]; exact d_C hI hRF.feas
            have hbits := d_bits hI hRF.feas
            rw [hs0] at hbits
            rw [hrow] at h118
            have hesc : k_esc M nD (m_r0 M (nI g)) (p_mem ds0) = false := (d_esc hI hq0 hex).mp h118
            refine z_aload_n C dX3_find_147 rfl ?_
            refine z_iload C dX3_find_148 rfl ?_
            refine z_aload_n C dX3_find_150 rfl ?_
            refine z_get C (by first | exact hX.1.1 | exact hX.1.2.1 | exact hX.1.2.2.1 | exact hX.1.2.2.2 | exact hX.2.1.1 _ (by first | assumption | exact vp_in_clamp (x_inG hN (by assumption)) | exact vp_in_clamp (x_inD hN (by assumption)) | exact vp_in_clamp (x_inK hN (by assumption)) | exact vp_in_clamp (x_inR hN (by assumption)) | exact hI.rm (by first | assumption | exact vp_in_clamp (x_inG hN (by assumption))) | exact hI.lo (by first | assumption | exact vp_in_clamp (x_inD hN (by assumption))) | exact hI.hi (by first | assumption | exact vp_in_clamp (x_inD hN (by assumption)))) | exact hX.2.1.2.1 _ (by first | assumption | exact vp_in_clamp (x_inD hN (by assumption))) | exact hX.2.1.2.2.1 _ (by first | assumption | exact vp_in_clamp (x_inK hN (by assumption))) | exact hX.2.1.2.2.2 _ (by first | assumption | exact vp_in_clamp (x_inG hN (by assumption)))) z_cls4 hu_X3 0 (by decide) wb_58 rfl rfl dX3_find_151 ?_
            refine z_iload C dX3_find_154 rfl ?_
            refine z_iald C (by first | exact hX.1.1 | exact hX.1.2.1 | exact hX.1.2.2.1 | exact hX.1.2.2.2 | exact hX.2.1.1 _ (by first | assumption | exact vp_in_clamp (x_inG hN (by assumption)) | exact vp_in_clamp (x_inD hN (by assumption)) | exact vp_in_clamp (x_inK hN (by assumption)) | exact vp_in_clamp (x_inR hN (by assumption)) | exact hI.rm (by first | assumption | exact vp_in_clamp (x_inG hN (by assumption))) | exact hI.lo (by first | assumption | exact vp_in_clamp (x_inD hN (by assumption))) | exact hI.hi (by first | assumption | exact vp_in_clamp (x_inD hN (by assumption)))) | exact hX.2.1.2.1 _ (by first | assumption | exact vp_in_clamp (x_inD hN (by assumption))) | exact hX.2.1.2.2.1 _ (by first | assumption | exact vp_in_clamp (x_inK hN (by assumption))) | exact hX.2.1.2.2.2 _ (by first | assumption | exact vp_in_clamp (x_inG hN (by assumption)))) (by first | exact hsv | first | assumption | exact x_inG hN (by assumption) | exact x_inD hN (by assumption) | exact x_inK hN (by assumption) | exact x_inR hN (by assumption)) (by first | exact hcls | rfl) dX3_find_156 ?_
            rw [hrow]
            refine z_aload_n C dX3_find_157 rfl ?_
            refine z_get C (by first | exact hX.1.1 | exact hX.1.2.1 | exact hX.1.2.2.1 | exact hX.1.2.2.2 | exact hX.2.1.1 _ (by first | assumption | exact vp_in_clamp (x_inG hN (by assumption)) | exact vp_in_clamp (x_inD hN (by assumption)) | exact vp_in_clamp (x_inK hN (by assumption)) | exact vp_in_clamp (x_inR hN (by assumption)) | exact hI.rm (by first | assumption | exact vp_in_clamp (x_inG hN (by assumption))) | exact hI.lo (by first | assumption | exact vp_in_clamp (x_inD hN (by assumption))) | exact hI.hi (by first | assumption | exact vp_in_clamp (x_inD hN (by assumption)))) | exact hX.2.1.2.1 _ (by first | assumption | exact vp_in_clamp (x_inD hN (by assumption))) | exact hX.2.1.2.2.1 _ (by first | assumption | exact vp_in_clamp (x_inK hN (by assumption))) | exact hX.2.1.2.2.2 _ (by first | assumption | exact vp_in_clamp (x_inG hN (by assumption)))) z_cls4 hu_X3 1 (by decide) wb_59 rfl rfl dX3_find_158 ?_
            refine z_iload C dX3_find_161 rfl ?_
            refine z_lald C (by first | exact hX.1.1 | exact hX.1.2.1 | exact hX.1.2.2.1 | exact hX.1.2.2.2 | exact hX.2.1.1 _ (by first | assumption | exact vp_in_clamp (x_inG hN (by assumption)) | exact vp_in_clamp (x_inD hN (by assumption)) | exact vp_in_clamp (x_inK hN (by assumption)) | exact vp_in_clamp (x_inR hN (by assumption)) | exact hI.rm (by first | assumption | exact vp_in_clamp (x_inG hN (by assumption))) | exact hI.lo (by first | assumption | exact vp_in_clamp (x_inD hN (by assumption))) | exact hI.hi (by first | assumption | exact vp_in_clamp (x_inD hN (by assumption)))) | exact hX.2.1.2.1 _ (by first | assumption | exact vp_in_clamp (x_inD hN (by assumption))) | exact hX.2.1.2.2.1 _ (by first | assumption | exact vp_in_clamp (x_inK hN (by assumption))) | exact hX.2.1.2.2.2 _ (by first | assumption | exact vp_in_clamp (x_inG hN (by assumption)))) (by first | exact hsv | first | assumption | exact x_inG hN (by assumption) | exact x_inD hN (by assumption) | exact x_inK hN (by assumption) | exact x_inR hN (by assumption)) (by first | exact hcls | rfl) dX3_find_163 ?_
            rw [hseq]
            refine z_callV (As := [.int _, .int _, .long _]) C (c_X3_goOnFrom _ _ ad M T2 hI hg hW2 s0 hsL ds0 hRF hs0 hmin hesc hT) kc_X3_goOnFrom wb_537 ⟨by decide, by decide⟩ hX.1.2.1 rfl (hX) (fun _ h => h) ⟨Nat.zero_le _, Nat.zero_le _⟩ (Nat.le_of_ble_eq_true rfl) dX3_find_164 (fun v H164 hq _ _ => ?_)
            obtain ⟨rfl, T3, hX, hE3, hT3⟩ := hq
            have hWn := hE3.W hW2
            have h4n : T3.2.2.1 4 = T.2.2.1 4 := by rw [hE3.2.2.1]; exact h4
            have hTn := hT3.full
            have hBn := (hB.pass hI (fun q a b c => by
              have em : p_mem q = p_mem ds0 := by rw [← d_C hI a.feas, ← d_C hI hRF.feas, hs0, c]
              rw [em, hesc] at b; cases b)).same hE3
            refine z_iinc C dX3_find_167 rfl rfl (by decide) ?_
            refine z_goto C 99 dX3_find_170 (by decide) ?_
            exact ihs (s0 + 1, _) _ _ ⟨hsL, hX, hWn, h4n, hTn, hBn⟩ (by dsimp only; omega) ⟨rfl, rfl, rfl, rfl, z_lgI rfl (z_inc s0), trivial⟩
        · obtain ⟨ds0, hK, hrow, hseq, hmin0⟩ := (hT s0 hsL).resolve_left (fun z => h118 (by rw [z.1]; exact z_and0 _))
          have hRF := hK.1
          have hs0 := hK.2.1
          have hmin : ∀ ds', p_RF (k_cA M nD nK (m_r0 M (nI g)) (nI g)) (k_esc M nD (m_r0 M (nI g))) (k_out M nD (m_r0 M (nI g))) ds' → d_n M nD ds' = s0 → p_enc ds0 ≤ p_enc ds' := fun ds' a b => hmin0 ds' (d_K_any hI a b)
          have hCs : k_C M nD (x_lc M) s0 = p_mem ds0 := by rw [← hs0]; exact d_C hI hRF.feas
          have hbits := d_bits hI hRF.feas
          rw [hs0] at hbits
          rw [hrow] at h118
          have hesc : k_esc M nD (m_r0 M (nI g)) (p_mem ds0) = true := by
            cases q : k_esc M nD (m_r0 M (nI g)) (p_mem ds0) with
            | true => rfl
            | false => exact absurd ((d_esc hI hq0 hex).mpr q) h118
          refine z_aload_n C dX3_find_121 rfl ?_
          refine z_iload C dX3_find_122 rfl ?_
          refine z_aload_n C dX3_find_124 rfl ?_
          refine z_get C (by first | exact hX.1.1 | exact hX.1.2.1 | exact hX.1.2.2.1 | exact hX.1.2.2.2 | exact hX.2.1.1 _ (by first | assumption | exact vp_in_clamp (x_inG hN (by assumption)) | exact vp_in_clamp (x_inD hN (by assumption)) | exact vp_in_clamp (x_inK hN (by assumption)) | exact vp_in_clamp (x_inR hN (by assumption)) | exact hI.rm (by first | assumption | exact vp_in_clamp (x_inG hN (by assumption))) | exact hI.lo (by first | assumption | exact vp_in_clamp (x_inD hN (by assumption))) | exact hI.hi (by first | assumption | exact vp_in_clamp (x_inD hN (by assumption)))) | exact hX.2.1.2.1 _ (by first | assumption | exact vp_in_clamp (x_inD hN (by assumption))) | exact hX.2.1.2.2.1 _ (by first | assumption | exact vp_in_clamp (x_inK hN (by assumption))) | exact hX.2.1.2.2.2 _ (by first | assumption | exact vp_in_clamp (x_inG hN (by assumption)))) z_cls4 hu_X3 1 (by decide) wb_59 rfl rfl dX3_find_125 ?_
          refine z_iload C dX3_find_128 rfl ?_
          refine z_lald C (by first | exact hX.1.1 | exact hX.1.2.1 | exact hX.1.2.2.1 | exact hX.1.2.2.2 | exact hX.2.1.1 _ (by first | assumption | exact vp_in_clamp (x_inG hN (by assumption)) | exact vp_in_clamp (x_inD hN (by assumption)) | exact vp_in_clamp (x_inK hN (by assumption)) | exact vp_in_clamp (x_inR hN (by assumption)) | exact hI.rm (by first | assumption | exact vp_in_clamp (x_inG hN (by assumption))) | exact hI.lo (by first | assumption | exact vp_in_clamp (x_inD hN (by assumption))) | exact hI.hi (by first | assumption | exact vp_in_clamp (x_inD hN (by assumption)))) | exact hX.2.1.2.1 _ (by first | assumption | exact vp_in_clamp (x_inD hN (by assumption))) | exact hX.2.1.2.2.1 _ (by first | assumption | exact vp_in_clamp (x_inK hN (by assumption))) | exact hX.2.1.2.2.2 _ (by first | assumption | exact vp_in_clamp (x_inG hN (by assumption)))) (by first | exact hsv | first | assumption | exact x_inG hN (by assumption) | exact x_inD hN (by assumption) | exact x_inK hN (by assumption) | exact x_inR hN (by assumption)) (by first | exact hcls | rfl) dX3_find_130 ?_
          rw [hseq]
          refine z_callV (As := [.int _, .long _]) C (c_X3_keepIfBetter _ _ ad M T2 hI hg hW2 s0 (by omega) _) kc_X3_keepIfBetter wb_512 ⟨by decide, by decide⟩ hX.1.2.1 rfl (hX) (fun _ h => h) ⟨Nat.zero_le _, Nat.zero_le _⟩ (Nat.le_of_ble_eq_true rfl) dX3_find_131 (fun v H131 hq _ _ => ?_)
          obtain ⟨rfl, hX⟩ := hq
          rw [hCs, (d_cost hI hRF.feas).1, hbits] at hX
          have hWn := x_keep_W (a := nI (p_cost (k_u M) ds0)) (b := nI ds0.length) (w := Int64.ofNat (p_enc ds0)) hW2
          have h4n := (x_keep_4 (T := T2) (a := nI (p_cost (k_u M) ds0)) (b := nI ds0.length) (w := Int64.ofNat (p_enc ds0))).trans h4
          have hTn := (hT.skip (fun e ds' q1 q2 => by
            obtain ⟨-, -, c⟩ := d_from hI hRF hs0 q1 q2
            rw [hesc] at c; cases c)).keepT (a := nI (p_cost (k_u M) ds0)) (b := nI ds0.length) (w := Int64.ofNat (p_enc ds0))
          have hBn := hB.keep hI hRF hs0 hesc hmin
          refine z_goto C 167 dX3_find_134 (by decide) ?_
          refine z_iinc C dX3_find_167 rfl rfl (by decide) ?_
          refine z_goto C 99 dX3_find_170 (by decide) ?_
          exact ihs (s0 + 1, _) _ _ ⟨hsL, hX, hWn, h4n, hTn, hBn⟩ (by dsimp only; omega) ⟨rfl, rfl, rfl, rfl, z_lgI rfl (z_inc s0), trivial⟩
    · have hsL : s0 < 2 ^ x_lc M nD := z_lt (rfl : nI (2 ^ x_lc M nD) = nI (2 ^ x_lc M nD)) (by omega) hs h63
      have hsv : vp_in (nI s0) 1024 := vp_in_nI (by omega) (by omega)
      have hcls : (nI s0).toNatClampNeg = s0 := nI_clamp (by omega)
      refine z_aload_n C dX3_find_66 rfl ?_
      refine z_get C (by first | exact hX.1.1 | exact hX.1.2.1 | exact hX.1.2.2.1 | exact hX.1.2.2.2 | exact hX.2.1.1 _ (by first | assumption | exact vp_in_clamp (x_inG hN (by assumption)) | exact vp_in_clamp (x_inD hN (by assumption)) | exact vp_in_clamp (x_inK hN (by assumption)) | exact vp_in_clamp (x_inR hN (by assumption)) | exact hI.rm (by first | assumption | exact vp_in_clamp (x_inG hN (by assumption))) | exact hI.lo (by first | assumption | exact vp_in_clamp (x_inD hN (by assumption))) | exact hI.hi (by first | assumption | exact vp_in_clamp (x_inD hN (by assumption)))) | exact hX.2.1.2.1 _ (by first | assumption | exact vp_in_clamp (x_inD hN (by assumption))) | exact hX.2.1.2.2.1 _ (by first | assumption | exact vp_in_clamp (x_inK hN (by assumption))) | exact hX.2.1.2.2.2 _ (by first | assumption | exact vp_in_clamp (x_inG hN (by assumption)))) z_cls4 hu_X3 0 (by decide) wb_58 rfl rfl dX3_find_67 ?_
      refine z_iload C dX3_find_70 rfl ?_
      refine z_iconst (v := 0) C dX3_find_72 (by decide) ?_
      refine z_iast C (by first | exact hX.1.1 | exact hX.1.2.1 | exact hX.1.2.2.1 | exact hX.1.2.2.2 | exact hX.2.1.1 _ (by first | assumption | exact vp_in_clamp (x_inG hN (by assumption)) | exact vp_in_clamp (x_inD hN (by assumption)) | exact vp_in_clamp (x_inK hN (by assumption)) | exact vp_in_clamp (x_inR hN (by assumption)) | exact hI.rm (by first | assumption | exact vp_in_clamp (x_inG hN (by assumption))) | exact hI.lo (by first | assumption | exact vp_in_clamp (x_inD hN (by assumption))) | exact hI.hi (by first | assumption | exact vp_in_clamp (x_inD hN (by assumption)))) | exact hX.2.1.2.1 _ (by first | assumption | exact vp_in_clamp (x_inD hN (by assumption))) | exact hX.2.1.2.2.1 _ (by first | assumption | exact vp_in_clamp (x_inK hN (by assumption))) | exact hX.2.1.2.2.2 _ (by first | assumption | exact vp_in_clamp (x_inG hN (by assumption)))) (by exact ⟨_, _, by unfold x_in; omega, rfl⟩) (by first | exact hsv | first | assumption | exact x_inG hN (by assumption) | exact x_inD hN (by assumption) | exact x_inK hN (by assumption) | exact x_inR hN (by assumption)) (by first | exact hcls | rfl) dX3_find_73 (fun H73 hU73 => ?_)
      have hX := x_row10 hX hU73
      have hz2 : ∀ t, t < s0 + 1 → (t_r T1 s0 0).2.2.2.2.1 t = 0 := fun t ht => by
        show upd T1.2.2.2.2.1 s0 0 t = 0
        by_cases q : t = s0
        · subst q; simp [upd]
        · simp only [upd, if_neg q]; exact hz t (by omega)
      refine z_iinc C dX3_find_74 rfl rfl (by decide) ?_
      refine z_goto C 59 dX3_find_77 (by decide) ?_
      exact ihi (s0 + 1, t_r T1 s0 0) _ _ ⟨hsL, hX, hE.trans ⟨rfl, rfl, rfl, rfl⟩, hz2⟩ (by dsimp only; omega) ⟨rfl, rfl, rfl, rfl, z_lgI rfl (z_inc s0), trivial⟩
  · cases h6

