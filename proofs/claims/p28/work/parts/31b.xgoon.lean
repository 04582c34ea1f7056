set_option maxHeartbeats 4000000 in
set_option maxRecDepth 100000 in
theorem c_X3_goOnFrom (l : Launch) (G : z_G) (ad : Nat → Nat → Nat) (M : m_S) (T : x_T) {nR nD nK nG : Nat} (hI : m_I nR nD nK nG M) {g : Nat} (hg : g < nG) (hW : x_W ad M nD g T) (s0 : Nat) (hsL : s0 < 2 ^ x_lc M nD) (ds0 : List Nat) (hRF : p_RF (k_cA M nD nK (m_r0 M (nI g)) (nI g)) (k_esc M nD (m_r0 M (nI g))) (k_out M nD (m_r0 M (nI g))) ds0) (hs0 : d_n M nD ds0 = s0) (hmin : ∀ ds', p_RF (k_cA M nD nK (m_r0 M (nI g)) (nI g)) (k_esc M nD (m_r0 M (nI g))) (k_out M nD (m_r0 M (nI g))) ds' → d_n M nD ds' = s0 → p_enc ds0 ≤ p_enc ds') (hesc : k_esc M nD (m_r0 M (nI g)) (p_mem ds0) = false) (hT : d_T M nD nK (m_r0 M (nI g)) (nI g) (d_Q s0 0) T) : z_M l yX3_goOnFrom cX3_goOnFrom 8 none 5 0 0 [.ref (ad 4 9), .int (nI s0), .int (k_R M nD (m_r0 M (nI g)) (p_mem ds0)), .long (Int64.ofNat (p_enc ds0))] G (fun H => x_R G ad nR nD nK nG M T H) (x_A ad nR nD nK nG) ((fun v _ H => v = none ∧ ∃ T2, x_R G ad nR nD nK nG M T2 H ∧ x_E T T2 ∧ d_T M nD nK (m_r0 M (nI g)) (nI g) (d_Q s0 nD) T2)) := by
  refine z_M.of (by decide +kernel) (Nat.le_of_ble_eq_true rfl) ?_
  intro p e s m below meth c C hP
  have hX : x_R G ad nR nD nK nG M T s.heap := hP
  have hN := hI.1
  have hR12 := hN.1.2; have hD16 := hN.2.1.2; have hK16 := hN.2.2.1.2; have hG6 := hN.2.2.2.2
  have hW00 := hW
  obtain ⟨hV0, hV1, hV2, hV3⟩ := hW00
  have hlc := hI.lc
  have hp10 := pow10 hlc
  have hs31 : s0 < 2 ^ 31 := by omega
  have hF := hRF.feas
  have hCs : k_C M nD (x_lc M) s0 = p_mem ds0 := by rw [← hs0]; exact d_C hI hF
  have hgc : (nI g).toNatClampNeg = g := nI_clamp (by omega)
  have hr12 : (m_r0 M (nI g)) < 12 := by have := hI.rm hg; unfold m_r0; rw [hgc]; omega
  refine z_aload_n C dX3_goOnFrom_0 rfl ?_
  refine z_iload_n C dX3_goOnFrom_1 rfl ?_
  refine z_iload_n C dX3_goOnFrom_2 rfl ?_
  refine z_callVR (As := [.int _, .int _]) C (c_X3_keysLeft _ _ ad M T hI hg hW s0 hs31 _) kc_X3_keysLeft wb_541 ⟨by decide, by decide⟩ (by first | exact hX.1.1 | exact hX.1.2.1 | exact hX.1.2.2.1 | exact hX.1.2.2.2 | exact hX.2.1.1 _ (by first | assumption | exact vp_in_clamp (x_inG hN (by assumption)) | exact vp_in_clamp (x_inD hN (by assumption)) | exact vp_in_clamp (x_inK hN (by assumption)) | exact vp_in_clamp (x_inR hN (by assumption)) | exact hI.rm (by first | assumption | exact vp_in_clamp (x_inG hN (by assumption))) | exact hI.lo (by first | assumption | exact vp_in_clamp (x_inD hN (by assumption))) | exact hI.hi (by first | assumption | exact vp_in_clamp (x_inD hN (by assumption)))) | exact hX.2.1.2.1 _ (by first | assumption | exact vp_in_clamp (x_inD hN (by assumption))) | exact hX.2.1.2.2.1 _ (by first | assumption | exact vp_in_clamp (x_inK hN (by assumption))) | exact hX.2.1.2.2.2 _ (by first | assumption | exact vp_in_clamp (x_inG hN (by assumption)))) rfl (hX) ⟨Nat.zero_le _, Nat.zero_le _⟩ (Nat.le_of_ble_eq_true rfl) dX3_goOnFrom_3 ?_
  rw [hCs]
  refine z_istore C dX3_goOnFrom_6 (by decide) ?_
  refine z_iconst (v := 0) C dX3_goOnFrom_8 (by decide) ?_
  refine z_istore C dX3_goOnFrom_9 (by decide) ?_
  refine z_loopS (fun q : Nat × x_T => nD - q.1) (fun q H1 => q.1 ≤ nD ∧ x_R G ad nR nD nK nG M q.2 H1 ∧ x_E T q.2 ∧ d_T M nD nK (m_r0 M (nI g)) (nI g) (d_Q s0 q.1) q.2) (fun q => [(0, .ref (ad 4 9)), (1, .int (nI s0)), (2, .int (k_R M nD (m_r0 M (nI g)) (p_mem ds0))), (3, .long (Int64.ofNat (p_enc ds0))), (5, .int (x_kl M nK (nI g) (k_R M nD (m_r0 M (nI g)) (p_mem ds0)) nK - x_kd M (p_mem ds0) nD)), (6, .int (nI q.1))]) (0, T) ⟨Nat.zero_le _, hX, x_E.refl, hT⟩ ⟨rfl, rfl, rfl, rfl, rfl, rfl, trivial⟩ (fun q H1 hI1 ihi => ?_)
  obtain ⟨i, T1⟩ := q
  obtain ⟨hi, hX, hE, hT1⟩ := hI1
  dsimp only at hi hX hE hT1 ihi ⊢
  obtain ⟨hW0, hW1, hW2x, hW3⟩ := hE.W hW
  have hW2 := hE.W hW
  refine z_iload C dX3_goOnFrom_11 rfl ?_
  refine z_aload_n C dX3_goOnFrom_13 rfl ?_
  refine z_get C (by first | exact hX.1.1 | exact hX.1.2.1 | exact hX.1.2.2.1 | exact hX.1.2.2.2 | exact hX.2.1.1 _ (by first | assumption | exact vp_in_clamp (x_inG hN (by assumption)) | exact vp_in_clamp (x_inD hN (by assumption)) | exact vp_in_clamp (x_inK hN (by assumption)) | exact vp_in_clamp (x_inR hN (by assumption)) | exact hI.rm (by first | assumption | exact vp_in_clamp (x_inG hN (by assumption))) | exact hI.lo (by first | assumption | exact vp_in_clamp (x_inD hN (by assumption))) | exact hI.hi (by first | assumption | exact vp_in_clamp (x_inD hN (by assumption)))) | exact hX.2.1.2.1 _ (by first | assumption | exact vp_in_clamp (x_inD hN (by assumption))) | exact hX.2.1.2.2.1 _ (by first | assumption | exact vp_in_clamp (x_inK hN (by assumption))) | exact hX.2.1.2.2.2 _ (by first | assumption | exact vp_in_clamp (x_inG hN (by assumption)))) z_cls4 hu_X3 3 (by decide) wb_61 rfl rfl dX3_goOnFrom_14 ?_
  rw [hW1]
  refine k_size C (by first | exact hX.2.2.1.1 | exact hX.2.2.1.2.1 | exact hX.2.2.1.2.2.1 | exact hX.2.2.1.2.2.2) wb_520 ⟨by decide, by decide⟩ ⟨Nat.zero_le _, Nat.zero_le _⟩ (Nat.le_of_ble_eq_true rfl) dX3_goOnFrom_17 ?_
  refine z_icmp_ge C 102 dX3_goOnFrom_20 (by decide) (fun h20 => ?_) (fun h20 => ?_)
  · have hend := z_ge (rfl : nI nD = nI nD) (by omega) hi h20
    rw [hend] at hT1
    exact z_vret C (by omega) (by omega) dX3_goOnFrom_102 (by exact ⟨rfl, T1, hX, hE, hT1⟩)
  · have hlti := z_lt (rfl : nI nD = nI nD) (by omega) hi h20
    have hini : vp_in (nI i) nD := vp_in_nI (by omega) (by omega)
    have hcli : (nI i).toNatClampNeg = i := nI_clamp (by omega)
    have hl12 := m_lo12 hI hlti
    have hh12 := m_hi12 hI hlti
    have hop := d_op hI hF hlti
    rw [hs0] at hop
    refine z_aload_n C dX3_goOnFrom_23 rfl ?_
    refine z_get C (by first | exact hX.1.1 | exact hX.1.2.1 | exact hX.1.2.2.1 | exact hX.1.2.2.2 | exact hX.2.1.1 _ (by first | assumption | exact vp_in_clamp (x_inG hN (by assumption)) | exact vp_in_clamp (x_inD hN (by assumption)) | exact vp_in_clamp (x_inK hN (by assumption)) | exact vp_in_clamp (x_inR hN (by assumption)) | exact hI.rm (by first | assumption | exact vp_in_clamp (x_inG hN (by assumption))) | exact hI.lo (by first | assumption | exact vp_in_clamp (x_inD hN (by assumption))) | exact hI.hi (by first | assumption | exact vp_in_clamp (x_inD hN (by assumption)))) | exact hX.2.1.2.1 _ (by first | assumption | exact vp_in_clamp (x_inD hN (by assumption))) | exact hX.2.1.2.2.1 _ (by first | assumption | exact vp_in_clamp (x_inK hN (by assumption))) | exact hX.2.1.2.2.2 _ (by first | assumption | exact vp_in_clamp (x_inG hN (by assumption)))) z_cls4 hu_X3 3 (by decide) wb_61 rfl rfl dX3_goOnFrom_24 ?_
    rw [hW1]
    refine z_iload C dX3_goOnFrom_27 rfl ?_
    refine k_get C (by first | exact hX.2.2.1.1 | exact hX.2.2.1.2.1 | exact hX.2.2.1.2.2.1 | exact hX.2.2.1.2.2.2) (by first | assumption | exact x_inG hN (by assumption) | exact x_inD hN (by assumption) | exact x_inK hN (by assumption) | exact x_inR hN (by assumption)) (by omega) (by first | exact hcli | rfl) wb_521 ⟨by decide, by decide⟩ ⟨Nat.zero_le _, Nat.zero_le _⟩ (Nat.le_of_ble_eq_true rfl) dX3_goOnFrom_29 ?_
    refine z_cast (q := (RX0, TX0, 10)) C (by first | exact hX.1.1 | exact hX.1.2.1 | exact hX.1.2.2.1 | exact hX.1.2.2.2 | exact hX.2.1.1 _ (by first | assumption | exact vp_in_clamp (x_inG hN (by assumption)) | exact vp_in_clamp (x_inD hN (by assumption)) | exact vp_in_clamp (x_inK hN (by assumption)) | exact vp_in_clamp (x_inR hN (by assumption)) | exact hI.rm (by first | assumption | exact vp_in_clamp (x_inG hN (by assumption))) | exact hI.lo (by first | assumption | exact vp_in_clamp (x_inD hN (by assumption))) | exact hI.hi (by first | assumption | exact vp_in_clamp (x_inD hN (by assumption)))) | exact hX.2.1.2.1 _ (by first | assumption | exact vp_in_clamp (x_inD hN (by assumption))) | exact hX.2.1.2.2.1 _ (by first | assumption | exact vp_in_clamp (x_inK hN (by assumption))) | exact hX.2.1.2.2.2 _ (by first | assumption | exact vp_in_clamp (x_inG hN (by assumption)))) rfl wb_522 dX3_goOnFrom_32 ?_
    refine z_astore C dX3_goOnFrom_35 (by decide) ?_
    refine z_aload C dX3_goOnFrom_37 rfl ?_
    refine z_iload_n C dX3_goOnFrom_39 rfl ?_
    refine z_callVR (As := [.int _]) C (c_X0_isPassable _ _ _ _ _ _ _ _ _ _ _ _ _ _) kc_X0_isPassable wb_550 ⟨by decide, by decide⟩ (by first | exact hX.1.1 | exact hX.1.2.1 | exact hX.1.2.2.1 | exact hX.1.2.2.2 | exact hX.2.1.1 _ (by first | assumption | exact vp_in_clamp (x_inG hN (by assumption)) | exact vp_in_clamp (x_inD hN (by assumption)) | exact vp_in_clamp (x_inK hN (by assumption)) | exact vp_in_clamp (x_inR hN (by assumption)) | exact hI.rm (by first | assumption | exact vp_in_clamp (x_inG hN (by assumption))) | exact hI.lo (by first | assumption | exact vp_in_clamp (x_inD hN (by assumption))) | exact hI.hi (by first | assumption | exact vp_in_clamp (x_inD hN (by assumption)))) | exact hX.2.1.2.1 _ (by first | assumption | exact vp_in_clamp (x_inD hN (by assumption))) | exact hX.2.1.2.2.1 _ (by first | assumption | exact vp_in_clamp (x_inK hN (by assumption))) | exact hX.2.1.2.2.2 _ (by first | assumption | exact vp_in_clamp (x_inG hN (by assumption)))) rfl (by first | exact hX.1.1 | exact hX.1.2.1 | exact hX.1.2.2.1 | exact hX.1.2.2.2 | exact hX.2.1.1 _ (by first | assumption | exact vp_in_clamp (x_inG hN (by assumption)) | exact vp_in_clamp (x_inD hN (by assumption)) | exact vp_in_clamp (x_inK hN (by assumption)) | exact vp_in_clamp (x_inR hN (by assumption)) | exact hI.rm (by first | assumption | exact vp_in_clamp (x_inG hN (by assumption))) | exact hI.lo (by first | assumption | exact vp_in_clamp (x_inD hN (by assumption))) | exact hI.hi (by first | assumption | exact vp_in_clamp (x_inD hN (by assumption)))) | exact hX.2.1.2.1 _ (by first | assumption | exact vp_in_clamp (x_inD hN (by assumption))) | exact hX.2.1.2.2.1 _ (by first | assumption | exact vp_in_clamp (x_inK hN (by assumption))) | exact hX.2.1.2.2.2 _ (by first | assumption | exact vp_in_clamp (x_inG hN (by assumption)))) ⟨Nat.zero_le _, Nat.zero_le _⟩ (Nat.le_of_ble_eq_true rfl) dX3_goOnFrom_40 ?_
    rw [show decide (nI s0 &&& x_lb M i = x_lb M i) = (x_op M i || p_mem ds0 i) from hop]
    refine z_ifb_ne C 96 dX3_goOnFrom_43 (by decide) (fun h43 => ?_) (fun h43 => ?_)
    · have hT2 := hT1.stay (fun ds' q1 q2 => by
        obtain ⟨c1, -⟩ := d_from hI hRF hs0 q1 q2
        obtain ⟨-, c2, c3, -⟩ := k_cA_iff.mp c1
        rw [c2, c3] at h43; cases h43)
      have hE2 := hE
      refine z_iinc C dX3_goOnFrom_96 rfl rfl (by decide) ?_
      refine z_goto C 11 dX3_goOnFrom_99 (by decide) ?_
      exact ihi (i + 1, _) _ _ ⟨hlti, hX, hE2, hT2⟩ (by dsimp only; omega) ⟨rfl, rfl, rfl, rfl, rfl, z_lgI rfl (z_inc i), trivial⟩
    · have hop0 : x_op M i = false := (Bool.or_eq_false_iff.mp h43).1
      have hmem0 : p_mem ds0 i = false := (Bool.or_eq_false_iff.mp h43).2
      refine z_aload C dX3_goOnFrom_46 rfl ?_
      refine z_iload_n C dX3_goOnFrom_48 rfl ?_
      refine z_callVR (As := [.int _]) C (c_X0_leadsOutOf _ _ _ _ _ _ _ _ _ _ _ _ _ _) kc_X0_leadsOutOf wb_551 ⟨by decide, by decide⟩ (by first | exact hX.1.1 | exact hX.1.2.1 | exact hX.1.2.2.1 | exact hX.1.2.2.2 | exact hX.2.1.1 _ (by first | assumption | exact vp_in_clamp (x_inG hN (by assumption)) | exact vp_in_clamp (x_inD hN (by assumption)) | exact vp_in_clamp (x_inK hN (by assumption)) | exact vp_in_clamp (x_inR hN (by assumption)) | exact hI.rm (by first | assumption | exact vp_in_clamp (x_inG hN (by assumption))) | exact hI.lo (by first | assumption | exact vp_in_clamp (x_inD hN (by assumption))) | exact hI.hi (by first | assumption | exact vp_in_clamp (x_inD hN (by assumption)))) | exact hX.2.1.2.1 _ (by first | assumption | exact vp_in_clamp (x_inD hN (by assumption))) | exact hX.2.1.2.2.1 _ (by first | assumption | exact vp_in_clamp (x_inK hN (by assumption))) | exact hX.2.1.2.2.2 _ (by first | assumption | exact vp_in_clamp (x_inG hN (by assumption)))) rfl (by first | exact hX.1.1 | exact hX.1.2.1 | exact hX.1.2.2.1 | exact hX.1.2.2.2 | exact hX.2.1.1 _ (by first | assumption | exact vp_in_clamp (x_inG hN (by assumption)) | exact vp_in_clamp (x_inD hN (by assumption)) | exact vp_in_clamp (x_inK hN (by assumption)) | exact vp_in_clamp (x_inR hN (by assumption)) | exact hI.rm (by first | assumption | exact vp_in_clamp (x_inG hN (by assumption))) | exact hI.lo (by first | assumption | exact vp_in_clamp (x_inD hN (by assumption))) | exact hI.hi (by first | assumption | exact vp_in_clamp (x_inD hN (by assumption)))) | exact hX.2.1.2.1 _ (by first | assumption | exact vp_in_clamp (x_inD hN (by assumption))) | exact hX.2.1.2.2.1 _ (by first | assumption | exact vp_in_clamp (x_inK hN (by assumption))) | exact hX.2.1.2.2.2 _ (by first | assumption | exact vp_in_clamp (x_inG hN (by assumption)))) ⟨Nat.zero_le _, Nat.zero_le _⟩ (Nat.le_of_ble_eq_true rfl) dX3_goOnFrom_49 ?_
      rw [m_bits hI hlti, x_leads (by omega) (by omega) (m_lohi_ne hI hlti), show (!(decide (tb (k_R M nD (m_r0 M (nI g)) (p_mem ds0)) (m_lo M i) = tb (k_R M nD (m_r0 M (nI g)) (p_mem ds0)) (m_hi M i)))) = k_out M nD (m_r0 M (nI g)) (p_mem ds0) i from rfl]
      refine z_ifb_eq C 96 dX3_goOnFrom_52 (by decide) (fun h52 => ?_) (fun h52 => ?_)
      · have hT2 := hT1.stay (fun ds' q1 q2 => by
          obtain ⟨-, c1, -⟩ := d_from hI hRF hs0 q1 q2
          rw [h52] at c1; cases c1)
        have hE2 := hE
        refine z_iinc C dX3_goOnFrom_96 rfl rfl (by decide) ?_
        refine z_goto C 11 dX3_goOnFrom_99 (by decide) ?_
        exact ihi (i + 1, _) _ _ ⟨hlti, hX, hE2, hT2⟩ (by dsimp only; omega) ⟨rfl, rfl, rfl, rfl, rfl, z_lgI rfl (z_inc i), trivial⟩
      · refine z_iload C dX3_goOnFrom_55 rfl ?_
        refine z_aload C dX3_goOnFrom_57 rfl ?_
        refine z_get C (by first | exact hX.1.1 | exact hX.1.2.1 | exact hX.1.2.2.1 | exact hX.1.2.2.2 | exact hX.2.1.1 _ (by first | assumption | exact vp_in_clamp (x_inG hN (by assumption)) | exact vp_in_clamp (x_inD hN (by assumption)) | exact vp_in_clamp (x_inK hN (by assumption)) | exact vp_in_clamp (x_inR hN (by assumption)) | exact hI.rm (by first | assumption | exact vp_in_clamp (x_inG hN (by assumption))) | exact hI.lo (by first | assumption | exact vp_in_clamp (x_inD hN (by assumption))) | exact hI.hi (by first | assumption | exact vp_in_clamp (x_inD hN (by assumption)))) | exact hX.2.1.2.1 _ (by first | assumption | exact vp_in_clamp (x_inD hN (by assumption))) | exact hX.2.1.2.2.1 _ (by first | assumption | exact vp_in_clamp (x_inK hN (by assumption))) | exact hX.2.1.2.2.2 _ (by first | assumption | exact vp_in_clamp (x_inG hN (by assumption)))) z_cls1 hu_X0 5 (by decide) wb_272 rfl rfl dX3_goOnFrom_59 ?_
        refine z_callSR (As := [.int _, .int _]) C (c_X3_hasOne _ _ _ _) kc_X3_hasOne wb_552 ⟨by decide, by decide⟩ (trivial) ⟨Nat.zero_le _, Nat.zero_le _⟩ (Nat.le_of_ble_eq_true rfl) dX3_goOnFrom_62 ?_
        rw [x_left hI hF hlti hop0]
        refine z_ifb_eq C 96 dX3_goOnFrom_65 (by decide) (fun h65 => ?_) (fun h65 => ?_)
        · have hT2 := hT1.stay (fun ds' q1 q2 => by
            obtain ⟨c1, -⟩ := d_from hI hRF hs0 q1 q2
            obtain ⟨-, -, -, -, c2⟩ := k_cA_iff.mp c1
            rw [decide_eq_false_iff_not] at h65; exact h65 c2)
          have hE2 := hE
          refine z_iinc C dX3_goOnFrom_96 rfl rfl (by decide) ?_
          refine z_goto C 11 dX3_goOnFrom_99 (by decide) ?_
          exact ihi (i + 1, _) _ _ ⟨hlti, hX, hE2, hT2⟩ (by dsimp only; omega) ⟨rfl, rfl, rfl, rfl, rfl, z_lgI rfl (z_inc i), trivial⟩
        · have hne : ¬ tb (k_R M nD (m_r0 M (nI g)) (p_mem ds0)) (m_lo M i) = tb (k_R M nD (m_r0 M (nI g)) (p_mem ds0)) (m_hi M i) := by
            unfold k_out at h52; simpa using h52
          have hcA : k_cA M nD nK (m_r0 M (nI g)) (nI g) (p_mem ds0) i = true := k_cA_iff.mpr ⟨hlti, hop0, hmem0, by
            cases a : tb (k_R M nD (m_r0 M (nI g)) (p_mem ds0)) (m_lo M i) with
            | true => exact Or.inl rfl
            | false => exact Or.inr (by cases b : tb (k_R M nD (m_r0 M (nI g)) (p_mem ds0)) (m_hi M i) with
              | true => rfl
              | false => exact absurd (a.trans b.symm) hne), of_decide_eq_true h65⟩
          have hRFi : p_RF (k_cA M nD nK (m_r0 M (nI g)) (nI g)) (k_esc M nD (m_r0 M (nI g))) (k_out M nD (m_r0 M (nI g))) (i :: ds0) := ⟨hRF, hesc, hcA, h52⟩
          have hcol := hI.colored hlti hop0
          have hlci := hI.lcd hlti
          have hnew := d_n_lt hI hRFi.feas
          rw [show d_n M nD (i :: ds0) = d_n M nD ds0 ||| 2 ^ x_lc M i from rfl, hs0] at hnew
          have ht1 : s0 ||| 2 ^ x_lc M i < 1024 := by omega
          have hf1 : tb ((k_R M nD (m_r0 M (nI g)) (p_mem ds0)) ||| (x_bit (M.2 3 i) ||| x_bit (M.2 4 i))) (m_r0 M (nI g)) = true := by rw [tb_or, k_R_r0 (by omega)]; rfl
          have hT2 := hT1.add hI hr12 hs0 hmin hRFi hf1 (d_hy hI hcA)
          have hE2 := hE.trans (x_E.come (M := M) (nD := nD) (t := s0 ||| 2 ^ x_lc M i) (y := (k_R M nD (m_r0 M (nI g)) (p_mem ds0)) ||| (x_bit (M.2 3 i) ||| x_bit (M.2 4 i))) (w := Int64.ofNat (p_enc (i :: ds0))))
          refine z_aload_n C dX3_goOnFrom_68 rfl ?_
          refine z_iload_n C dX3_goOnFrom_69 rfl ?_
          refine z_aload C dX3_goOnFrom_70 rfl ?_
          refine z_get C (by first | exact hX.1.1 | exact hX.1.2.1 | exact hX.1.2.2.1 | exact hX.1.2.2.2 | exact hX.2.1.1 _ (by first | assumption | exact vp_in_clamp (x_inG hN (by assumption)) | exact vp_in_clamp (x_inD hN (by assumption)) | exact vp_in_clamp (x_inK hN (by assumption)) | exact vp_in_clamp (x_inR hN (by assumption)) | exact hI.rm (by first | assumption | exact vp_in_clamp (x_inG hN (by assumption))) | exact hI.lo (by first | assumption | exact vp_in_clamp (x_inD hN (by assumption))) | exact hI.hi (by first | assumption | exact vp_in_clamp (x_inD hN (by assumption)))) | exact hX.2.1.2.1 _ (by first | assumption | exact vp_in_clamp (x_inD hN (by assumption))) | exact hX.2.1.2.2.1 _ (by first | assumption | exact vp_in_clamp (x_inK hN (by assumption))) | exact hX.2.1.2.2.2 _ (by first | assumption | exact vp_in_clamp (x_inG hN (by assumption)))) z_cls1 hu_X0 7 (by decide) wb_278 rfl rfl dX3_goOnFrom_72 ?_
          refine z_ior C dX3_goOnFrom_75 ?_
          rw [show x_lb M i = x_bit (nI (x_lc M i)) from if_neg hcol, nI_or (by omega) (by omega)]
          refine z_iload_n C dX3_goOnFrom_76 rfl ?_
          refine z_aload C dX3_goOnFrom_77 rfl ?_
          refine z_get C (by first | exact hX.1.1 | exact hX.1.2.1 | exact hX.1.2.2.1 | exact hX.1.2.2.2 | exact hX.2.1.1 _ (by first | assumption | exact vp_in_clamp (x_inG hN (by assumption)) | exact vp_in_clamp (x_inD hN (by assumption)) | exact vp_in_clamp (x_inK hN (by assumption)) | exact vp_in_clamp (x_inR hN (by assumption)) | exact hI.rm (by first | assumption | exact vp_in_clamp (x_inG hN (by assumption))) | exact hI.lo (by first | assumption | exact vp_in_clamp (x_inD hN (by assumption))) | exact hI.hi (by first | assumption | exact vp_in_clamp (x_inD hN (by assumption)))) | exact hX.2.1.2.1 _ (by first | assumption | exact vp_in_clamp (x_inD hN (by assumption))) | exact hX.2.1.2.2.1 _ (by first | assumption | exact vp_in_clamp (x_inK hN (by assumption))) | exact hX.2.1.2.2.2 _ (by first | assumption | exact vp_in_clamp (x_inG hN (by assumption)))) z_cls1 hu_X0 4 (by decide) wb_269 rfl rfl dX3_goOnFrom_79 ?_
          refine z_ior C dX3_goOnFrom_82 ?_
          refine z_lload_n C dX3_goOnFrom_83 rfl ?_
          refine z_iconst (v := 4) C dX3_goOnFrom_84 (by decide) ?_
          refine z_lshl C dX3_goOnFrom_85 ?_
          refine z_aload C dX3_goOnFrom_86 rfl ?_
          refine z_get C (by first | exact hX.1.1 | exact hX.1.2.1 | exact hX.1.2.2.1 | exact hX.1.2.2.2 | exact hX.2.1.1 _ (by first | assumption | exact vp_in_clamp (x_inG hN (by assumption)) | exact vp_in_clamp (x_inD hN (by assumption)) | exact vp_in_clamp (x_inK hN (by assumption)) | exact vp_in_clamp (x_inR hN (by assumption)) | exact hI.rm (by first | assumption | exact vp_in_clamp (x_inG hN (by assumption))) | exact hI.lo (by first | assumption | exact vp_in_clamp (x_inD hN (by assumption))) | exact hI.hi (by first | assumption | exact vp_in_clamp (x_inD hN (by assumption)))) | exact hX.2.1.2.1 _ (by first | assumption | exact vp_in_clamp (x_inD hN (by assumption))) | exact hX.2.1.2.2.1 _ (by first | assumption | exact vp_in_clamp (x_inK hN (by assumption))) | exact hX.2.1.2.2.2 _ (by first | assumption | exact vp_in_clamp (x_inG hN (by assumption)))) z_cls1 hu_X0 0 (by decide) wb_260 rfl rfl dX3_goOnFrom_88 ?_
          refine z_i2l C dX3_goOnFrom_91 ?_
          refine z_lor C dX3_goOnFrom_92 ?_
          rw [i64_shl (d_enc hI hF) (by omega), show p_enc ds0 * 16 + i = p_enc (i :: ds0) from rfl]
          refine z_callV (As := [.int _, .int _, .long _]) C (c_X3_comeTo _ _ ad M T1 hI hg hW2 (s0 ||| 2 ^ x_lc M i) ht1 _ _ (m_r0 M (nI g)) hr12 hf1) kc_X3_comeTo wb_497 ⟨by decide, by decide⟩ hX.1.2.1 rfl (hX) (fun _ h => h) ⟨Nat.zero_le _, Nat.zero_le _⟩ (Nat.le_of_ble_eq_true rfl) dX3_goOnFrom_93 (fun v H93 hq _ _ => ?_)
          obtain ⟨rfl, hX⟩ := hq
          refine z_iinc C dX3_goOnFrom_96 rfl rfl (by decide) ?_
          refine z_goto C 11 dX3_goOnFrom_99 (by decide) ?_
          exact ihi (i + 1, _) _ _ ⟨hlti, hX, hE2, hT2⟩ (by dsimp only; omega) ⟨rfl, rfl, rfl, rfl, rfl, z_lgI rfl (z_inc i), trivial⟩

