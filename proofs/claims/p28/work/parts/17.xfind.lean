set_option maxHeartbeats 4000000 in
set_option maxRecDepth 100000 in
theorem c_X5_findArrivals (l : Launch) (G : z_G) (ad : Nat → Nat → Nat) (M : m_S) (T : x_T) {nR nD nK nG : Nat} (hI : m_I nR nD nK nG M) (g : Nat) (hg : g < nG) : z_M l yX5_findArrivals cX5_findArrivals 6 none 3 0 0 [.ref (ad 4 0), .ref (ad 3 g)] G (fun H => x_R G ad nR nD nK nG M T H) (x_A ad nR nD nK nG) ((fun v _ H => v = none ∧ ∃ a, w_A nD (m_lo M) (m_hi M) (x_op M) (m_f M) (M.2 16 g).toNatClampNeg (M.2 17 g).toNatClampNeg 1000000 a ∧ w_Q nD (m_lo M) (m_hi M) (x_op M) (m_f M) a ∧ x_R G ad nR nD nK nG M (x_arr T nR a) H)) := by
  refine z_M.of (by decide +kernel) (Nat.le_of_ble_eq_true rfl) ?_
  intro p e s m below meth c C hP
  have hX : x_R G ad nR nD nK nG M T s.heap := hP
  have hN := hI.1
  have hR12 := hN.1.2; have hD16 := hN.2.1.2; have hK16 := hN.2.2.1.2; have hG6 := hN.2.2.2.2
  refine z_iconst (v := 0) C dX5_findArrivals_0 (by decide) ?_
  refine z_istore_n C dX5_findArrivals_1 (by decide) ?_
  refine z_loopS (fun i : Nat => nR - i) (fun i H1 => i ≤ nR ∧ x_R G ad nR nD nK nG M (x_arr T i (fun _ => 1000000)) H1) (fun i => [(0, .ref (ad 4 0)), (1, .ref (ad 3 g)), (2, .int (nI i))]) 0 ⟨Nat.zero_le _, by rw [x_arr_0]; exact hX⟩ ⟨rfl, rfl, rfl, trivial⟩ (fun i H1 hI1 ihi => ?_)
  obtain ⟨hi, hX⟩ := hI1
  refine z_iload_n C dX5_findArrivals_2 rfl ?_
  refine z_aload_n C dX5_findArrivals_3 rfl ?_
  refine z_get C (by first | exact hX.1.1 | exact hX.1.2.1 | exact hX.1.2.2.1 | exact hX.1.2.2.2 | exact hX.2.1.1 _ (by first | assumption | exact vp_in_clamp (x_inG hN (by assumption)) | exact vp_in_clamp (x_inD hN (by assumption)) | exact vp_in_clamp (x_inK hN (by assumption)) | exact vp_in_clamp (x_inR hN (by assumption)) | exact hI.rm (by first | assumption | exact vp_in_clamp (x_inG hN (by assumption))) | exact hI.lo (by first | assumption | exact vp_in_clamp (x_inD hN (by assumption))) | exact hI.hi (by first | assumption | exact vp_in_clamp (x_inD hN (by assumption)))) | exact hX.2.1.2.1 _ (by first | assumption | exact vp_in_clamp (x_inD hN (by assumption))) | exact hX.2.1.2.2.1 _ (by first | assumption | exact vp_in_clamp (x_inK hN (by assumption))) | exact hX.2.1.2.2.2 _ (by first | assumption | exact vp_in_clamp (x_inG hN (by assumption)))) z_cls6 hu_X5 0 (by decide) wb_94 rfl rfl dX5_findArrivals_4 ?_
  refine k_size C (by first | exact hX.2.2.1.1 | exact hX.2.2.1.2.1 | exact hX.2.2.1.2.2.1 | exact hX.2.2.1.2.2.2) wb_129 ⟨by decide, by decide⟩ ⟨Nat.zero_le _, Nat.zero_le _⟩ (Nat.le_of_ble_eq_true rfl) dX5_findArrivals_7 ?_
  refine z_icmp_ge C 35 dX5_findArrivals_10 (by decide) (fun h10 => ?_) (fun h10 => ?_)
  · have hend := z_ge (rfl : nI nR = nI nR) (by omega) hi h10
    rw [hend] at hX
    refine z_aload_n C dX5_findArrivals_35 rfl ?_
    refine z_get C (by first | exact hX.1.1 | exact hX.1.2.1 | exact hX.1.2.2.1 | exact hX.1.2.2.2 | exact hX.2.1.1 _ (by first | assumption | exact vp_in_clamp (x_inG hN (by assumption)) | exact vp_in_clamp (x_inD hN (by assumption)) | exact vp_in_clamp (x_inK hN (by assumption)) | exact vp_in_clamp (x_inR hN (by assumption)) | exact hI.rm (by first | assumption | exact vp_in_clamp (x_inG hN (by assumption))) | exact hI.lo (by first | assumption | exact vp_in_clamp (x_inD hN (by assumption))) | exact hI.hi (by first | assumption | exact vp_in_clamp (x_inD hN (by assumption)))) | exact hX.2.1.2.1 _ (by first | assumption | exact vp_in_clamp (x_inD hN (by assumption))) | exact hX.2.1.2.2.1 _ (by first | assumption | exact vp_in_clamp (x_inK hN (by assumption))) | exact hX.2.1.2.2.2 _ (by first | assumption | exact vp_in_clamp (x_inG hN (by assumption)))) z_cls2 hu_X1 2 (by decide) wb_372 rfl rfl dX5_findArrivals_36 ?_
    have hrm := hI.rm hg
    obtain ⟨t0, ht0, et0⟩ := hI.time hg
    have e17 : M.2 17 g = nI (M.2 17 g).toNatClampNeg := by rw [et0, nI_clamp (by omega)]
    have ht1 : (M.2 17 g).toNatClampNeg ≤ 100000 := by rw [et0, nI_clamp (by omega)]; exact ht0
    refine z_aload_n C dX5_findArrivals_39 rfl ?_
    refine z_get C (by first | exact hX.1.1 | exact hX.1.2.1 | exact hX.1.2.2.1 | exact hX.1.2.2.2 | exact hX.2.1.1 _ (by first | assumption | exact vp_in_clamp (x_inG hN (by assumption)) | exact vp_in_clamp (x_inD hN (by assumption)) | exact vp_in_clamp (x_inK hN (by assumption)) | exact vp_in_clamp (x_inR hN (by assumption)) | exact hI.rm (by first | assumption | exact vp_in_clamp (x_inG hN (by assumption))) | exact hI.lo (by first | assumption | exact vp_in_clamp (x_inD hN (by assumption))) | exact hI.hi (by first | assumption | exact vp_in_clamp (x_inD hN (by assumption)))) | exact hX.2.1.2.1 _ (by first | assumption | exact vp_in_clamp (x_inD hN (by assumption))) | exact hX.2.1.2.2.1 _ (by first | assumption | exact vp_in_clamp (x_inK hN (by assumption))) | exact hX.2.1.2.2.2 _ (by first | assumption | exact vp_in_clamp (x_inG hN (by assumption)))) z_cls2 hu_X1 3 (by decide) wb_374 rfl rfl dX5_findArrivals_40 ?_
    refine z_eqst (congrArg (fun z => [Value.int z, Value.ref (ad 0 (M.2 16 g).toNatClampNeg)]) e17) ?_
    refine z_put C (by first | exact hX.1.1 | exact hX.1.2.1 | exact hX.1.2.2.1 | exact hX.1.2.2.2 | exact hX.2.1.1 _ (by first | assumption | exact vp_in_clamp (x_inG hN (by assumption)) | exact vp_in_clamp (x_inD hN (by assumption)) | exact vp_in_clamp (x_inK hN (by assumption)) | exact vp_in_clamp (x_inR hN (by assumption)) | exact hI.rm (by first | assumption | exact vp_in_clamp (x_inG hN (by assumption))) | exact hI.lo (by first | assumption | exact vp_in_clamp (x_inD hN (by assumption))) | exact hI.hi (by first | assumption | exact vp_in_clamp (x_inD hN (by assumption)))) | exact hX.2.1.2.1 _ (by first | assumption | exact vp_in_clamp (x_inD hN (by assumption))) | exact hX.2.1.2.2.1 _ (by first | assumption | exact vp_in_clamp (x_inK hN (by assumption))) | exact hX.2.1.2.2.2 _ (by first | assumption | exact vp_in_clamp (x_inG hN (by assumption)))) z_cls5 hu_X4 (by exact ⟨_, _, by unfold x_in; omega, rfl⟩) 2 (by decide) wb_147 rfl rfl (by rfl) (by rfl) (Nat.le_of_ble_eq_true rfl) dX5_findArrivals_43 (fun H43 hU43 => ?_)
    have hX := hX.arrPut hrm hU43
    have hA0 : w_A nD (m_lo M) (m_hi M) (x_op M) (m_f M) (M.2 16 g).toNatClampNeg (M.2 17 g).toNatClampNeg 1000000 (w_a0 1000000 (M.2 16 g).toNatClampNeg (M.2 17 g).toNatClampNeg) := w_a0_A (by omega) ht1 (by omega)
    refine z_iconst (v := 1) C dX5_findArrivals_46 (by decide) ?_
    refine z_istore_n C dX5_findArrivals_47 (by decide) ?_
    refine z_iconst (v := 0) C dX5_findArrivals_48 (by decide) ?_
    refine z_istore_n C dX5_findArrivals_49 (by decide) ?_
    refine z_loopS (fun q : (Nat → Nat) × Bool × Nat => 13 - q.2.2) (fun q H1 => x_R G ad nR nD nK nG M (x_arr T nR q.1) H1 ∧ w_O nD (m_lo M) (m_hi M) (x_op M) (m_f M) (M.2 16 g).toNatClampNeg (M.2 17 g).toNatClampNeg 1000000 q.1 q.2.1 ∧ q.2.2 ≤ 12 ∧ (q.2.1 = true → w_un nD (m_lo M) (m_hi M) (x_op M) (m_f M) (M.2 16 g).toNatClampNeg (M.2 17 g).toNatClampNeg q.1 + q.2.2 ≤ 11)) (fun q => [(0, .ref (ad 4 0)), (1, .ref (ad 3 g)), (2, .int (z_b q.2.1)), (3, .int (nI q.2.2))]) (w_a0 1000000 (M.2 16 g).toNatClampNeg (M.2 17 g).toNatClampNeg, true, 0) ⟨hX, ⟨hA0, (fun q => by cases q)⟩, Nat.zero_le _, fun _ => by have := w_un_start hA0 (m_wF hI) w_u_at (by omega); dsimp only; omega⟩ ⟨rfl, rfl, rfl, rfl, trivial⟩ (fun q H1 hI1 ihO => ?_)
    obtain ⟨x, mo, rd⟩ := q
    obtain ⟨hX, hO, hrd, hcnt⟩ := hI1
    dsimp only at hX hO hrd hcnt ihO ⊢
    refine z_iload_n C dX5_findArrivals_50 rfl ?_
    refine z_ifb_eq C 149 dX5_findArrivals_51 (by decide) (fun h51 => ?_) (fun h51 => ?_)
    · subst h51
      exact z_vret C (by omega) (by omega) dX5_findArrivals_149 (by first | (exfalso; have := hcnt rfl; omega) | exact ⟨rfl, _, hO.1, hO.2 rfl, hX⟩)
    · subst h51
      refine z_iload_n C dX5_findArrivals_54 rfl ?_
      refine z_bipush (v := 12) C dX5_findArrivals_55 (by decide) ?_
      refine z_icmp_ge C 149 dX5_findArrivals_57 (by decide) (fun h57 => ?_) (fun h57 => ?_)
      · have hrd12 : rd = 12 := z_ge (n := 12) rfl (by omega) hrd h57
        exact z_vret C (by omega) (by omega) dX5_findArrivals_149 (by first | (exfalso; have := hcnt rfl; omega) | exact ⟨rfl, _, hO.1, hO.2 rfl, hX⟩)
      · have hrdlt : rd < 12 := z_lt (n := 12) rfl (by omega) hrd h57
        refine z_iconst (v := 0) C dX5_findArrivals_60 (by decide) ?_
        refine z_istore_n C dX5_findArrivals_61 (by decide) ?_
        refine z_iconst (v := 0) C dX5_findArrivals_62 (by decide) ?_
        refine z_istore C dX5_findArrivals_63 (by decide) ?_
        refine z_loopS (fun q : Nat × (Nat → Nat) × Bool => nD - q.1) (fun q H1 => x_R G ad nR nD nK nG M (x_arr T nR q.2.1) H1 ∧ q.1 ≤ nD ∧ w_I nD (m_lo M) (m_hi M) (x_op M) (m_f M) (M.2 16 g).toNatClampNeg (M.2 17 g).toNatClampNeg 1000000 x q.1 q.2.1 q.2.2) (fun q => [(0, .ref (ad 4 0)), (1, .ref (ad 3 g)), (2, .int (z_b q.2.2)), (3, .int (nI rd)), (4, .int (nI q.1))]) (0, x, false) ⟨hX, Nat.zero_le _, w_I.zero hO⟩ ⟨rfl, rfl, rfl, rfl, rfl, trivial⟩ (fun q H2 hI2 ihI => ?_)
        obtain ⟨i, y, mi⟩ := q
        obtain ⟨hX, hi, hJ⟩ := hI2
        dsimp only at hX hi hJ ihI ⊢
        refine z_iload C dX5_findArrivals_65 rfl ?_
        refine z_aload_n C dX5_findArrivals_67 rfl ?_
        refine z_get C (by first | exact hX.1.1 | exact hX.1.2.1 | exact hX.1.2.2.1 | exact hX.1.2.2.2 | exact hX.2.1.1 _ (by first | assumption | exact vp_in_clamp (x_inG hN (by assumption)) | exact vp_in_clamp (x_inD hN (by assumption)) | exact vp_in_clamp (x_inK hN (by assumption)) | exact vp_in_clamp (x_inR hN (by assumption)) | exact hI.rm (by first | assumption | exact vp_in_clamp (x_inG hN (by assumption))) | exact hI.lo (by first | assumption | exact vp_in_clamp (x_inD hN (by assumption))) | exact hI.hi (by first | assumption | exact vp_in_clamp (x_inD hN (by assumption)))) | exact hX.2.1.2.1 _ (by first | assumption | exact vp_in_clamp (x_inD hN (by assumption))) | exact hX.2.1.2.2.1 _ (by first | assumption | exact vp_in_clamp (x_inK hN (by assumption))) | exact hX.2.1.2.2.2 _ (by first | assumption | exact vp_in_clamp (x_inG hN (by assumption)))) z_cls6 hu_X5 1 (by decide) wb_95 rfl rfl dX5_findArrivals_68 ?_
        refine k_size C (by first | exact hX.2.2.1.1 | exact hX.2.2.1.2.1 | exact hX.2.2.1.2.2.1 | exact hX.2.2.1.2.2.2) wb_129 ⟨by decide, by decide⟩ ⟨Nat.zero_le _, Nat.zero_le _⟩ (Nat.le_of_ble_eq_true rfl) dX5_findArrivals_71 ?_
        refine z_icmp_ge C 143 dX5_findArrivals_74 (by decide) (fun h74 => ?_) (fun h74 => ?_)
        · have hend := z_ge (rfl : nI nD = nI nD) (by omega) hi h74
          rw [hend] at hJ
          refine z_iinc C dX5_findArrivals_143 rfl rfl (by decide) ?_
          refine z_goto C 50 dX5_findArrivals_146 (by decide) ?_
          exact ihO (y, mi, rd + 1) _ _ ⟨hX, hJ.out, (by dsimp only; omega), fun q => by dsimp only at q; subst q; have h1 := w_settle (m_wF hI) hO.1 hJ.1 hJ.2.1 (fun d r r2 hE => hJ.2.2.2.2 d r r2 hE.1 hE) (hJ.2.2.2.1 rfl) (by omega) (m_l12 hI); have h2 := hcnt rfl; dsimp only; omega⟩ (by dsimp only; omega) ⟨rfl, rfl, rfl, z_lgI rfl (z_inc rd), trivial⟩
        · have hlti := z_lt (rfl : nI nD = nI nD) (by omega) hi h74
          have hini : vp_in (nI i) nD := vp_in_nI (by omega) (by omega)
          have hcli : (nI i).toNatClampNeg = i := nI_clamp (by omega)
          refine z_aload_n C dX5_findArrivals_77 rfl ?_
          refine z_get C (by first | exact hX.1.1 | exact hX.1.2.1 | exact hX.1.2.2.1 | exact hX.1.2.2.2 | exact hX.2.1.1 _ (by first | assumption | exact vp_in_clamp (x_inG hN (by assumption)) | exact vp_in_clamp (x_inD hN (by assumption)) | exact vp_in_clamp (x_inK hN (by assumption)) | exact vp_in_clamp (x_inR hN (by assumption)) | exact hI.rm (by first | assumption | exact vp_in_clamp (x_inG hN (by assumption))) | exact hI.lo (by first | assumption | exact vp_in_clamp (x_inD hN (by assumption))) | exact hI.hi (by first | assumption | exact vp_in_clamp (x_inD hN (by assumption)))) | exact hX.2.1.2.1 _ (by first | assumption | exact vp_in_clamp (x_inD hN (by assumption))) | exact hX.2.1.2.2.1 _ (by first | assumption | exact vp_in_clamp (x_inK hN (by assumption))) | exact hX.2.1.2.2.2 _ (by first | assumption | exact vp_in_clamp (x_inG hN (by assumption)))) z_cls6 hu_X5 1 (by decide) wb_95 rfl rfl dX5_findArrivals_78 ?_
          refine z_iload C dX5_findArrivals_81 rfl ?_
          refine k_get C (by first | exact hX.2.2.1.1 | exact hX.2.2.1.2.1 | exact hX.2.2.1.2.2.1 | exact hX.2.2.1.2.2.2) (by first | assumption | exact x_inG hN (by assumption) | exact x_inD hN (by assumption) | exact x_inK hN (by assumption) | exact x_inR hN (by assumption)) (by omega) (by first | exact hcli | rfl) wb_222 ⟨by decide, by decide⟩ ⟨Nat.zero_le _, Nat.zero_le _⟩ (Nat.le_of_ble_eq_true rfl) dX5_findArrivals_83 ?_
          refine z_cast (q := (RX0, TX0, 10)) C (by first | exact hX.1.1 | exact hX.1.2.1 | exact hX.1.2.2.1 | exact hX.1.2.2.2 | exact hX.2.1.1 _ (by first | assumption | exact vp_in_clamp (x_inG hN (by assumption)) | exact vp_in_clamp (x_inD hN (by assumption)) | exact vp_in_clamp (x_inK hN (by assumption)) | exact vp_in_clamp (x_inR hN (by assumption)) | exact hI.rm (by first | assumption | exact vp_in_clamp (x_inG hN (by assumption))) | exact hI.lo (by first | assumption | exact vp_in_clamp (x_inD hN (by assumption))) | exact hI.hi (by first | assumption | exact vp_in_clamp (x_inD hN (by assumption)))) | exact hX.2.1.2.1 _ (by first | assumption | exact vp_in_clamp (x_inD hN (by assumption))) | exact hX.2.1.2.2.1 _ (by first | assumption | exact vp_in_clamp (x_inK hN (by assumption))) | exact hX.2.1.2.2.2 _ (by first | assumption | exact vp_in_clamp (x_inG hN (by assumption)))) rfl wb_243 dX5_findArrivals_86 ?_
          refine z_astore C dX5_findArrivals_89 (by decide) ?_
          refine z_aload C dX5_findArrivals_91 rfl ?_
          refine z_get C (by first | exact hX.1.1 | exact hX.1.2.1 | exact hX.1.2.2.1 | exact hX.1.2.2.2 | exact hX.2.1.1 _ (by first | assumption | exact vp_in_clamp (x_inG hN (by assumption)) | exact vp_in_clamp (x_inD hN (by assumption)) | exact vp_in_clamp (x_inK hN (by assumption)) | exact vp_in_clamp (x_inR hN (by assumption)) | exact hI.rm (by first | assumption | exact vp_in_clamp (x_inG hN (by assumption))) | exact hI.lo (by first | assumption | exact vp_in_clamp (x_inD hN (by assumption))) | exact hI.hi (by first | assumption | exact vp_in_clamp (x_inD hN (by assumption)))) | exact hX.2.1.2.1 _ (by first | assumption | exact vp_in_clamp (x_inD hN (by assumption))) | exact hX.2.1.2.2.1 _ (by first | assumption | exact vp_in_clamp (x_inK hN (by assumption))) | exact hX.2.1.2.2.2 _ (by first | assumption | exact vp_in_clamp (x_inG hN (by assumption)))) z_cls1 hu_X0 8 (by decide) wb_281 rfl rfl dX5_findArrivals_93 ?_
          refine z_ifb_eq C 137 dX5_findArrivals_96 (by decide) (fun h96 => ?_) (fun h96 => ?_)
          · have hK := hJ.skip (m_wF hI) h96
            refine z_iinc C dX5_findArrivals_137 rfl rfl (by decide) ?_
            refine z_goto C 65 dX5_findArrivals_140 (by decide) ?_
            exact ihI (i + 1, _, _) _ _ ⟨hX, hlti, hK⟩ (by dsimp only; omega) ⟨rfl, rfl, rfl, rfl, z_lgI rfl (z_inc i), trivial⟩
          · have hop : x_op M i = true := h96
            have hrl : m_lo M i < nR := m_lo12 hI hlti
            have hrh : m_hi M i < nR := m_hi12 hI hlti
            refine z_aload C dX5_findArrivals_99 rfl ?_
            refine z_aload C dX5_findArrivals_101 rfl ?_
            refine z_get C (by first | exact hX.1.1 | exact hX.1.2.1 | exact hX.1.2.2.1 | exact hX.1.2.2.2 | exact hX.2.1.1 _ (by first | assumption | exact vp_in_clamp (x_inG hN (by assumption)) | exact vp_in_clamp (x_inD hN (by assumption)) | exact vp_in_clamp (x_inK hN (by assumption)) | exact vp_in_clamp (x_inR hN (by assumption)) | exact hI.rm (by first | assumption | exact vp_in_clamp (x_inG hN (by assumption))) | exact hI.lo (by first | assumption | exact vp_in_clamp (x_inD hN (by assumption))) | exact hI.hi (by first | assumption | exact vp_in_clamp (x_inD hN (by assumption)))) | exact hX.2.1.2.1 _ (by first | assumption | exact vp_in_clamp (x_inD hN (by assumption))) | exact hX.2.1.2.2.1 _ (by first | assumption | exact vp_in_clamp (x_inK hN (by assumption))) | exact hX.2.1.2.2.2 _ (by first | assumption | exact vp_in_clamp (x_inG hN (by assumption)))) z_cls1 hu_X0 1 (by decide) wb_263 rfl rfl dX5_findArrivals_103 ?_
            refine z_aload C dX5_findArrivals_106 rfl ?_
            refine z_get C (by first | exact hX.1.1 | exact hX.1.2.1 | exact hX.1.2.2.1 | exact hX.1.2.2.2 | exact hX.2.1.1 _ (by first | assumption | exact vp_in_clamp (x_inG hN (by assumption)) | exact vp_in_clamp (x_inD hN (by assumption)) | exact vp_in_clamp (x_inK hN (by assumption)) | exact vp_in_clamp (x_inR hN (by assumption)) | exact hI.rm (by first | assumption | exact vp_in_clamp (x_inG hN (by assumption))) | exact hI.lo (by first | assumption | exact vp_in_clamp (x_inD hN (by assumption))) | exact hI.hi (by first | assumption | exact vp_in_clamp (x_inD hN (by assumption)))) | exact hX.2.1.2.1 _ (by first | assumption | exact vp_in_clamp (x_inD hN (by assumption))) | exact hX.2.1.2.2.1 _ (by first | assumption | exact vp_in_clamp (x_inK hN (by assumption))) | exact hX.2.1.2.2.2 _ (by first | assumption | exact vp_in_clamp (x_inG hN (by assumption)))) z_cls1 hu_X0 2 (by decide) wb_265 rfl rfl dX5_findArrivals_108 ?_
            refine z_callV (As := [.ref _, .ref _]) C (c_X0_speedsUp _ _ (ad 1 i) _ _ _ _ _ _ _ _ _ _ _ _ _ _ _ _ _ _) kc_X0_speedsUp wb_576 ⟨by decide, by decide⟩ (hX.2.1.2.1 i hlti) rfl (⟨hX.2.1.2.1 i hlti, hX.2.1.1 _ hrl, hX.2.1.1 _ hrh⟩) (fun q hq => by subst hq; exact ⟨_, _, by unfold x_in; unfold m_lo at hrl; unfold m_hi at hrh; omega, rfl⟩) ⟨Nat.zero_le _, Nat.zero_le _⟩ (Nat.le_of_ble_eq_true rfl) dX5_findArrivals_111 (fun v H111 hq _ _ => ?_)
            obtain ⟨rfl, hX⟩ := x_speed hX hI hlti hop hrl hrh hJ.1.1 hq
            refine z_ifb_ne C 135 dX5_findArrivals_114 (by decide) (fun h114 => ?_) (fun h114 => ?_)
            · have hK := hJ.one (m_wF hI) hlti hop (m_l12 hI i hlti) h114
              refine z_iconst (v := 1) C dX5_findArrivals_135 (by decide) ?_
              refine z_istore_n C dX5_findArrivals_136 (by decide) ?_
              refine z_iinc C dX5_findArrivals_137 rfl rfl (by decide) ?_
              refine z_goto C 65 dX5_findArrivals_140 (by decide) ?_
              exact ihI (i + 1, _, _) _ _ ⟨hX, hlti, hK⟩ (by dsimp only; omega) ⟨rfl, rfl, rfl, rfl, z_lgI rfl (z_inc i), trivial⟩
            · have h114 : w_s (m_f M) 1000000 y i (m_lo M i) (m_hi M i) = false := h114
              rw [w_v_no h114] at hX
              refine z_aload C dX5_findArrivals_117 rfl ?_
              refine z_aload C dX5_findArrivals_119 rfl ?_
              refine z_get C (by first | exact hX.1.1 | exact hX.1.2.1 | exact hX.1.2.2.1 | exact hX.1.2.2.2 | exact hX.2.1.1 _ (by first | assumption | exact vp_in_clamp (x_inG hN (by assumption)) | exact vp_in_clamp (x_inD hN (by assumption)) | exact vp_in_clamp (x_inK hN (by assumption)) | exact vp_in_clamp (x_inR hN (by assumption)) | exact hI.rm (by first | assumption | exact vp_in_clamp (x_inG hN (by assumption))) | exact hI.lo (by first | assumption | exact vp_in_clamp (x_inD hN (by assumption))) | exact hI.hi (by first | assumption | exact vp_in_clamp (x_inD hN (by assumption)))) | exact hX.2.1.2.1 _ (by first | assumption | exact vp_in_clamp (x_inD hN (by assumption))) | exact hX.2.1.2.2.1 _ (by first | assumption | exact vp_in_clamp (x_inK hN (by assumption))) | exact hX.2.1.2.2.2 _ (by first | assumption | exact vp_in_clamp (x_inG hN (by assumption)))) z_cls1 hu_X0 2 (by decide) wb_265 rfl rfl dX5_findArrivals_121 ?_
              refine z_aload C dX5_findArrivals_124 rfl ?_
              refine z_get C (by first | exact hX.1.1 | exact hX.1.2.1 | exact hX.1.2.2.1 | exact hX.1.2.2.2 | exact hX.2.1.1 _ (by first | assumption | exact vp_in_clamp (x_inG hN (by assumption)) | exact vp_in_clamp (x_inD hN (by assumption)) | exact vp_in_clamp (x_inK hN (by assumption)) | exact vp_in_clamp (x_inR hN (by assumption)) | exact hI.rm (by first | assumption | exact vp_in_clamp (x_inG hN (by assumption))) | exact hI.lo (by first | assumption | exact vp_in_clamp (x_inD hN (by assumption))) | exact hI.hi (by first | assumption | exact vp_in_clamp (x_inD hN (by assumption)))) | exact hX.2.1.2.1 _ (by first | assumption | exact vp_in_clamp (x_inD hN (by assumption))) | exact hX.2.1.2.2.1 _ (by first | assumption | exact vp_in_clamp (x_inK hN (by assumption))) | exact hX.2.1.2.2.2 _ (by first | assumption | exact vp_in_clamp (x_inG hN (by assumption)))) z_cls1 hu_X0 1 (by decide) wb_263 rfl rfl dX5_findArrivals_126 ?_
              refine z_callV (As := [.ref _, .ref _]) C (c_X0_speedsUp _ _ (ad 1 i) _ _ _ _ _ _ _ _ _ _ _ _ _ _ _ _ _ _) kc_X0_speedsUp wb_576 ⟨by decide, by decide⟩ (hX.2.1.2.1 i hlti) rfl (⟨hX.2.1.2.1 i hlti, hX.2.1.1 _ hrh, hX.2.1.1 _ hrl⟩) (fun q hq => by subst hq; exact ⟨_, _, by unfold x_in; unfold m_lo at hrl; unfold m_hi at hrh; omega, rfl⟩) ⟨Nat.zero_le _, Nat.zero_le _⟩ (Nat.le_of_ble_eq_true rfl) dX5_findArrivals_129 (fun v H129 hq _ _ => ?_)
              obtain ⟨rfl, hX⟩ := x_speed hX hI hlti hop hrh hrl hJ.1.1 hq
              refine z_ifb_eq C 137 dX5_findArrivals_132 (by decide) (fun h132 => ?_) (fun h132 => ?_)
              · have hK := hJ.two (m_wF hI) hlti hop (m_l12 hI i hlti) h114
                rw [h132] at hK
                refine z_iinc C dX5_findArrivals_137 rfl rfl (by decide) ?_
                refine z_goto C 65 dX5_findArrivals_140 (by decide) ?_
                exact ihI (i + 1, _, _) _ _ ⟨hX, hlti, hK⟩ (by dsimp only; omega) ⟨rfl, rfl, rfl, rfl, z_lgI rfl (z_inc i), trivial⟩
              · have hK := hJ.two (m_wF hI) hlti hop (m_l12 hI i hlti) h114
                rw [h132] at hK
                refine z_iconst (v := 1) C dX5_findArrivals_135 (by decide) ?_
                refine z_istore_n C dX5_findArrivals_136 (by decide) ?_
                refine z_iinc C dX5_findArrivals_137 rfl rfl (by decide) ?_
                refine z_goto C 65 dX5_findArrivals_140 (by decide) ?_
                exact ihI (i + 1, _, _) _ _ ⟨hX, hlti, hK⟩ (by dsimp only; omega) ⟨rfl, rfl, rfl, rfl, z_lgI rfl (z_inc i), trivial⟩
  · have hlti := z_lt (rfl : nI nR = nI nR) (by omega) hi h10
    have hini : vp_in (nI i) nR := vp_in_nI (by omega) (by omega)
    have hcli : (nI i).toNatClampNeg = i := nI_clamp (by omega)
    refine z_aload_n C dX5_findArrivals_13 rfl ?_
    refine z_get C (by first | exact hX.1.1 | exact hX.1.2.1 | exact hX.1.2.2.1 | exact hX.1.2.2.2 | exact hX.2.1.1 _ (by first | assumption | exact vp_in_clamp (x_inG hN (by assumption)) | exact vp_in_clamp (x_inD hN (by assumption)) | exact vp_in_clamp (x_inK hN (by assumption)) | exact vp_in_clamp (x_inR hN (by assumption)) | exact hI.rm (by first | assumption | exact vp_in_clamp (x_inG hN (by assumption))) | exact hI.lo (by first | assumption | exact vp_in_clamp (x_inD hN (by assumption))) | exact hI.hi (by first | assumption | exact vp_in_clamp (x_inD hN (by assumption)))) | exact hX.2.1.2.1 _ (by first | assumption | exact vp_in_clamp (x_inD hN (by assumption))) | exact hX.2.1.2.2.1 _ (by first | assumption | exact vp_in_clamp (x_inK hN (by assumption))) | exact hX.2.1.2.2.2 _ (by first | assumption | exact vp_in_clamp (x_inG hN (by assumption)))) z_cls6 hu_X5 0 (by decide) wb_94 rfl rfl dX5_findArrivals_14 ?_
    refine z_iload_n C dX5_findArrivals_17 rfl ?_
    refine k_get C (by first | exact hX.2.2.1.1 | exact hX.2.2.1.2.1 | exact hX.2.2.1.2.2.1 | exact hX.2.2.1.2.2.2) (by first | assumption | exact x_inG hN (by assumption) | exact x_inD hN (by assumption) | exact x_inK hN (by assumption) | exact x_inR hN (by assumption)) (by omega) (by first | exact hcli | rfl) wb_222 ⟨by decide, by decide⟩ ⟨Nat.zero_le _, Nat.zero_le _⟩ (Nat.le_of_ble_eq_true rfl) dX5_findArrivals_18 ?_
    refine z_cast (q := (RX4, TX4, 3)) C (by first | exact hX.1.1 | exact hX.1.2.1 | exact hX.1.2.2.1 | exact hX.1.2.2.2 | exact hX.2.1.1 _ (by first | assumption | exact vp_in_clamp (x_inG hN (by assumption)) | exact vp_in_clamp (x_inD hN (by assumption)) | exact vp_in_clamp (x_inK hN (by assumption)) | exact vp_in_clamp (x_inR hN (by assumption)) | exact hI.rm (by first | assumption | exact vp_in_clamp (x_inG hN (by assumption))) | exact hI.lo (by first | assumption | exact vp_in_clamp (x_inD hN (by assumption))) | exact hI.hi (by first | assumption | exact vp_in_clamp (x_inD hN (by assumption)))) | exact hX.2.1.2.1 _ (by first | assumption | exact vp_in_clamp (x_inD hN (by assumption))) | exact hX.2.1.2.2.1 _ (by first | assumption | exact vp_in_clamp (x_inK hN (by assumption))) | exact hX.2.1.2.2.2 _ (by first | assumption | exact vp_in_clamp (x_inG hN (by assumption)))) rfl wb_133 dX5_findArrivals_21 ?_
    refine z_ldc C wb_575 dX5_findArrivals_24 ?_
    refine z_put C (by first | exact hX.1.1 | exact hX.1.2.1 | exact hX.1.2.2.1 | exact hX.1.2.2.2 | exact hX.2.1.1 _ (by first | assumption | exact vp_in_clamp (x_inG hN (by assumption)) | exact vp_in_clamp (x_inD hN (by assumption)) | exact vp_in_clamp (x_inK hN (by assumption)) | exact vp_in_clamp (x_inR hN (by assumption)) | exact hI.rm (by first | assumption | exact vp_in_clamp (x_inG hN (by assumption))) | exact hI.lo (by first | assumption | exact vp_in_clamp (x_inD hN (by assumption))) | exact hI.hi (by first | assumption | exact vp_in_clamp (x_inD hN (by assumption)))) | exact hX.2.1.2.1 _ (by first | assumption | exact vp_in_clamp (x_inD hN (by assumption))) | exact hX.2.1.2.2.1 _ (by first | assumption | exact vp_in_clamp (x_inK hN (by assumption))) | exact hX.2.1.2.2.2 _ (by first | assumption | exact vp_in_clamp (x_inG hN (by assumption)))) z_cls5 hu_X4 (by exact ⟨_, _, by unfold x_in; omega, rfl⟩) 2 (by decide) wb_147 rfl rfl (by rfl) (by rfl) (Nat.le_of_ble_eq_true rfl) dX5_findArrivals_26 (fun H26 hU26 => ?_)
    have hX := hX.fill hlti hU26 rfl
    refine z_iinc C dX5_findArrivals_29 rfl rfl (by decide) ?_
    refine z_goto C 2 dX5_findArrivals_32 (by decide) ?_
    exact ihi (i + 1) _ _ ⟨hlti, hX⟩ (by omega) ⟨rfl, rfl, z_lgI rfl (z_inc i), trivial⟩

