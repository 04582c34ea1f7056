set_option maxHeartbeats 4000000 in
set_option maxRecDepth 100000 in
theorem c_X6_findPlan (l : Launch) (G : z_G) (ad : Nat → Nat) (M : m_S) {nR nD nK nG : Nat} (hI : m_I nR nD nK nG M) (g : Int32) (hg : vp_in g 6) (hgl : g.toNatClampNeg < nG) : z_M l yX6_findPlan cX6_findPlan 6 none 3 0 0 [.ref (ad 0), .int g] G (fun H => m_R G ad M H) (m_A ad) ((fun v _ H => v = none ∧ ∃ M2, k_kept M nD nK g M2 ∧ m_R G ad M2 H)) := by
  refine z_M.of (by decide +kernel) (Nat.le_of_ble_eq_true rfl) ?_
  intro p e s m below meth c C hP
  have hM : m_R G ad M s.heap := hP
  have hN := hI.1
  have hR12 := hN.1.2; have hD16 := hN.2.1.2; have hK16 := hN.2.2.1.2; have hG6 := hN.2.2.2.2
  have h10 := k_ci10 hI
  have h1024 := pow1024 hI
  have hr32 : (m_r0 M g) < 32 := by have := hI.rm hgl; unfold m_r0; omega
  refine z_aload_n C dX6_findPlan_0 rfl ?_
  refine z_callV (As := []) C (c_X6_layLocks _ _ ad M hI) kc_X6_layLocks wb_857 ⟨by decide, by decide⟩ hM.1 rfl (hM) (fun _ h => h) ⟨Nat.zero_le _, Nat.zero_le _⟩ (Nat.le_of_ble_eq_true rfl) dX6_findPlan_1 (fun v H1 hq _ _ => ?_)
  obtain ⟨rfl, M1, hL, hM⟩ := hq
  refine z_iconst (v := 1) C dX6_findPlan_4 (by decide) ?_
  refine z_aload_n C dX6_findPlan_5 rfl ?_
  refine z_get C (by first | exact hM.1 | exact hM.2.1 _ rfl | exact hM.2.2.1 _ rfl) z_cls7 hu_X6 22 (by decide) wb_657 rfl rfl dX6_findPlan_6 ?_
  rw [hL.2.1]
  refine z_ishl C dX6_findPlan_9 ?_
  rw [show (1 : Int32) <<< (nI (k_ci M nD) &&& 31) = x_bit (nI (k_ci M nD)) from rfl, x_bit_nI (by omega)]
  refine z_istore_n C dX6_findPlan_10 (by decide) ?_
  refine z_iconst (v := 0) C dX6_findPlan_11 (by decide) ?_
  refine z_istore_n C dX6_findPlan_12 (by decide) ?_
  refine z_loopS (fun q : Nat × m_S => 2 ^ k_ci M nD - q.1) (fun q H1 => m_R G ad q.2 H1 ∧ q.1 ≤ 2 ^ k_ci M nD ∧ k_scA M nD (m_r0 M g) q.1 q.2) (fun q => [(0, .ref (ad 0)), (1, .int g), (2, .int (nI (2 ^ k_ci M nD))), (3, .int (nI q.1))]) (0, M1) ⟨hM, Nat.zero_le _, hL, fun t ht => absurd ht (Nat.not_lt_zero t), fun t ht => absurd ht (Nat.not_lt_zero t)⟩ ⟨rfl, rfl, rfl, rfl, trivial⟩ (fun q H1 hI1 ihO => ?_)
  obtain ⟨s, M2⟩ := q
  obtain ⟨hM, hs, hS⟩ := hI1
  dsimp only at hM hs hS ihO ⊢
  refine z_iload_n C dX6_findPlan_13 rfl ?_
  refine z_iload_n C dX6_findPlan_14 rfl ?_
  refine z_icmp_ge C 117 dX6_findPlan_15 (by decide) (fun h15 => ?_) (fun h15 => ?_)
  · have hend := z_ge (rfl : nI (2 ^ k_ci M nD) = nI (2 ^ k_ci M nD)) (by omega) hs h15
    rw [hend] at hS
    have hsc0 : k_sc M nD (m_r0 M g) (m_sS (m_sS M2 28 (-6)) 29 0) := k_sc.scal (k_sc.scal ⟨hS.1, hS.2.1⟩ (by omega)) (by omega)
    refine z_aload_n C dX6_findPlan_117 rfl ?_
    refine z_bipush (v := (-6)) C dX6_findPlan_118 (by decide) ?_
    refine z_put C (by first | exact hM.1 | exact hM.2.1 _ rfl | exact hM.2.2.1 _ rfl) z_cls7 hu_X6 (by exact ⟨_, rfl, rfl⟩) 28 (by decide) wb_663 rfl rfl (by rfl) (by rfl) (Nat.le_of_ble_eq_true rfl) dX6_findPlan_120 (fun H120 hU120 => ?_)
    have hM := hM.sS hU120 rfl
    refine z_aload_n C dX6_findPlan_123 rfl ?_
    refine z_iconst (v := 0) C dX6_findPlan_124 (by decide) ?_
    refine z_put C (by first | exact hM.1 | exact hM.2.1 _ rfl | exact hM.2.2.1 _ rfl) z_cls7 hu_X6 (by exact ⟨_, rfl, rfl⟩) 29 (by decide) wb_664 rfl rfl (by rfl) (by rfl) (Nat.le_of_ble_eq_true rfl) dX6_findPlan_125 (fun H125 hU125 => ?_)
    have hM := hM.sS hU125 rfl
    refine z_iconst (v := 0) C dX6_findPlan_128 (by decide) ?_
    refine z_istore_n C dX6_findPlan_129 (by decide) ?_
    refine z_loopS (fun q : Nat × m_S => 2 ^ k_ci M nD - q.1) (fun q H1 => m_R G ad q.2 H1 ∧ q.1 ≤ 2 ^ k_ci M nD ∧ k_sc M nD (m_r0 M g) q.2 ∧ (∀ t, t < 2 ^ k_ci M nD → z_is (q.2.2 26 t) (q_B M nD (k_cA M nD nK (m_r0 M g) g) q.1 0 t)) ∧ q_best M nD (k_cA M nD nK (m_r0 M g) g) (k_esc M nD (m_r0 M g)) (k_u M) q.1 (q.2.1 28) (q.2.1 29)) (fun q => [(0, .ref (ad 0)), (1, .int g), (2, .int (nI (2 ^ k_ci M nD))), (3, .int (nI q.1))]) (0, m_sS (m_sS M2 28 (-6)) 29 0) ⟨hM, Nat.zero_le _, hsc0, fun t ht => (hS.2.2 t ht).iff q_B.start, q_best.zero⟩ ⟨rfl, rfl, rfl, rfl, trivial⟩ (fun q H1 hI1 ihO => ?_)
    obtain ⟨s, M3⟩ := q
    obtain ⟨hM, hs, hsc, hrow, hb⟩ := hI1
    dsimp only at hM hs hsc hrow hb ihO ⊢
    refine z_iload_n C dX6_findPlan_130 rfl ?_
    refine z_iload_n C dX6_findPlan_131 rfl ?_
    refine z_icmp_ge C 270 dX6_findPlan_132 (by decide) (fun h132 => ?_) (fun h132 => ?_)
    · have hend := z_ge (rfl : nI (2 ^ k_ci M nD) = nI (2 ^ k_ci M nD)) (by omega) hs h132
      rw [hend] at hrow hb
      refine z_aload_n C dX6_findPlan_270 rfl ?_
      refine z_get C (by first | exact hM.1 | exact hM.2.1 _ rfl | exact hM.2.2.1 _ rfl) z_cls7 hu_X6 28 (by decide) wb_663 rfl rfl dX6_findPlan_271 ?_
      refine z_if_lt C 283 dX6_findPlan_274 (by decide) (fun h274 => ?_) (fun h274 => ?_)
      · exact z_vret C (by omega) (by omega) dX6_findPlan_283 (by first | exact ⟨rfl, M3, ⟨hsc.1.1, Or.inl (k_fin_none hI k_hA hb h274)⟩, hM⟩ | exact ⟨rfl, M5, ⟨hQ5, Or.inr ⟨pre, hp1, by rw [hp2]; exact e28, by rw [hlen]; exact e29, by omega, by rw [hp2]; exact hc0, fun i hi => hpl i (by omega)⟩⟩, hM⟩)
      · obtain ⟨c0, m0, hc0, hm0, hx, hy, hLd, hfin⟩ := k_fin_some hI k_hA (k_H hI) hb h274
        refine z_aload_n C dX6_findPlan_277 rfl ?_
        refine z_iload_n C dX6_findPlan_278 rfl ?_
        refine z_iload_n C dX6_findPlan_279 rfl ?_
        refine z_callV (As := [.int _, .int _]) C (c_X6_findDoors _ _ ad M M3 hI g c0 m0 hc0 hm0 ⟨hsc, fun t ht => (hrow t ht).iff (q_B.fin hI k_hA ht), hx, hy⟩ hLd) kc_X6_findDoors wb_884 ⟨by decide, by decide⟩ hM.1 rfl (hM) (fun _ h => h) ⟨Nat.zero_le _, Nat.zero_le _⟩ (Nat.le_of_ble_eq_true rfl) dX6_findPlan_280 (fun v H280 hq _ _ => ?_)
        obtain ⟨rfl, M5, hQ5, e28, e29, ⟨pre, hpre, hlen, hpl⟩, hM⟩ := hq
        obtain ⟨hp1, hp2⟩ := hfin pre hpre hlen
        exact z_vret C (by omega) (by omega) dX6_findPlan_283 (by first | exact ⟨rfl, M3, ⟨hsc.1.1, Or.inl (k_fin_none hI k_hA hb h274)⟩, hM⟩ | exact ⟨rfl, M5, ⟨hQ5, Or.inr ⟨pre, hp1, by rw [hp2]; exact e28, by rw [hlen]; exact e29, by omega, by rw [hp2]; exact hc0, fun i hi => hpl i (by omega)⟩⟩, hM⟩)
    · have hsL : s < 2 ^ k_ci M nD := z_lt (rfl : nI (2 ^ k_ci M nD) = nI (2 ^ k_ci M nD)) (by omega) hs h132
      have hs1 : s < 1024 := by omega
      have hsv : vp_in (nI s) 1024 := vp_in_nI hs1 (by omega)
      have hcls : (nI s).toNatClampNeg = s := nI_clamp (by omega)
      refine z_aload_n C dX6_findPlan_135 rfl ?_
      refine z_get C (by first | exact hM.1 | exact hM.2.1 _ rfl | exact hM.2.2.1 _ rfl) z_cls7 hu_X6 26 (by decide) wb_661 rfl rfl dX6_findPlan_136 ?_
      refine z_iload_n C dX6_findPlan_139 rfl ?_
      refine z_zald C (by first | exact hM.1 | exact hM.2.1 _ rfl | exact hM.2.2.1 _ rfl) (by first | assumption) (by first | exact hcls | exact hclk | exact hclo | rfl) dX6_findPlan_140 ?_
      refine z_if_eq C 264 dX6_findPlan_141 (by decide) (fun h141 => ?_) (fun h141 => ?_)
      · have hn := ((hrow s hsL).iff (q_B.met hI k_hA)).no h141
        have hrowN : ∀ t, t < 2 ^ k_ci M nD → z_is (M3.2 26 t) (q_B M nD (k_cA M nD nK (m_r0 M g) g) (s + 1) 0 t) := fun t ht => (hrow t ht).iff (q_B.pass hn).symm
        have hbN := hb.pass (fun q => absurd q hn)
        refine z_iinc C dX6_findPlan_264 rfl rfl (by decide) ?_
        refine z_goto C 130 dX6_findPlan_267 (by decide) ?_
        exact ihO (s + 1, _) _ _ ⟨hM, hsL, hsc, hrowN, hbN⟩ (by dsimp only; omega) ⟨rfl, rfl, rfl, z_lgI rfl (z_inc s), trivial⟩
      · have hmet := ((hrow s hsL).iff (q_B.met hI k_hA)).yes h141
        refine z_iconst (v := 0) C dX6_findPlan_144 (by decide) ?_
        refine z_istore C dX6_findPlan_145 (by decide) ?_
        refine z_loopS (fun q : Nat × m_S => k_ci M nD - q.1) (fun q H1 => m_R G ad q.2 H1 ∧ q.1 ≤ k_ci M nD ∧ k_sc M nD (m_r0 M g) q.2 ∧ (∀ t, t < 2 ^ k_ci M nD → z_is (q.2.2 26 t) (q_B M nD (k_cA M nD nK (m_r0 M g) g) s q.1 t)) ∧ q_best M nD (k_cA M nD nK (m_r0 M g) g) (k_esc M nD (m_r0 M g)) (k_u M) s (q.2.1 28) (q.2.1 29)) (fun q => [(0, .ref (ad 0)), (1, .int g), (2, .int (nI (2 ^ k_ci M nD))), (3, .int (nI s)), (4, .int (nI q.1))]) (0, M3) ⟨hM, Nat.zero_le _, hsc, hrow, hb⟩ ⟨rfl, rfl, rfl, rfl, rfl, trivial⟩ (fun q H2 hI2 ihI => ?_)
        obtain ⟨k, M4⟩ := q
        obtain ⟨hM, hk, hsc, hrow, hb⟩ := hI2
        dsimp only at hM hk hsc hrow hb ihI ⊢
        refine z_iload C dX6_findPlan_147 rfl ?_
        refine z_aload_n C dX6_findPlan_149 rfl ?_
        refine z_get C (by first | exact hM.1 | exact hM.2.1 _ rfl | exact hM.2.2.1 _ rfl) z_cls7 hu_X6 22 (by decide) wb_657 rfl rfl dX6_findPlan_150 ?_
        refine z_icmp_ge C 185 dX6_findPlan_153 (by decide) (fun h153 => ?_) (fun h153 => ?_)
        · have hend := z_ge hsc.1.2.1 (by omega) hk h153
          rw [hend] at hrow
          have hrowN : ∀ t, t < 2 ^ k_ci M nD → z_is (M4.2 26 t) (q_B M nD (k_cA M nD nK (m_r0 M g) g) (s + 1) 0 t) := fun t ht => (hrow t ht).iff (q_B.full k_hA).symm
          refine z_aload_n C dX6_findPlan_185 rfl ?_
          refine z_iload_n C dX6_findPlan_186 rfl ?_
          refine z_callVR (As := [.int _]) C (c_X6_costOf _ _ ad _ hsc.1.2.1 h10 (fun k hk => hsc.1.h23 hI hk) _) kc_X6_costOf wb_872 ⟨by decide, by decide⟩ hM.1 rfl (hM) ⟨Nat.zero_le _, Nat.zero_le _⟩ (Nat.le_of_ble_eq_true rfl) dX6_findPlan_187 ?_
          rw [F_cost_q hI hsc.1 (by omega)]
          refine z_istore C dX6_findPlan_190 (by decide) ?_
          refine z_aload_n C dX6_findPlan_192 rfl ?_
          refine z_get C (by first | exact hM.1 | exact hM.2.1 _ rfl | exact hM.2.2.1 _ rfl) z_cls7 hu_X6 28 (by decide) wb_663 rfl rfl dX6_findPlan_193 ?_
          refine z_if_lt C 229 dX6_findPlan_196 (by decide) (fun h196 => ?_) (fun h196 => ?_)
          · refine z_iconst (v := 1) C dX6_findPlan_229 (by decide) ?_
            refine z_goto C 234 dX6_findPlan_230 (by decide) ?_
            refine z_istore C dX6_findPlan_234 (by decide) ?_
            refine z_aload_n C dX6_findPlan_236 rfl ?_
            refine z_iload_n C dX6_findPlan_237 rfl ?_
            refine z_callVR (As := [.int _]) C (c_X6_escapes _ _ ad _ _ hsv) kc_X6_escapes wb_880 ⟨by decide, by decide⟩ hM.1 rfl (hM) ⟨Nat.zero_le _, Nat.zero_le _⟩ (Nat.le_of_ble_eq_true rfl) dX6_findPlan_238 ?_
            rw [k_esc_eq hsc.1 hs1 (hsc.2 s hsL)]
            refine z_ifb_eq C 264 dX6_findPlan_241 (by decide) (fun h241 => ?_) (fun h241 => ?_)
            · have hbN := hb.pass (fun _ => h241)
              refine z_iinc C dX6_findPlan_264 rfl rfl (by decide) ?_
              refine z_goto C 130 dX6_findPlan_267 (by decide) ?_
              exact ihO (s + 1, _) _ _ ⟨hM, hsL, hsc, hrowN, hbN⟩ (by dsimp only; omega) ⟨rfl, rfl, rfl, z_lgI rfl (z_inc s), trivial⟩
            · refine z_iload C dX6_findPlan_244 rfl ?_
              refine z_if_eq C 264 dX6_findPlan_246 (by decide) (fun h246 => ?_) (fun h246 => ?_)
              · have hbN := hb.keep hD16 (q_cost_le hI) (by first | exact absurd h246 (by decide) | simp [q_better, *])
                refine z_iinc C dX6_findPlan_264 rfl rfl (by decide) ?_
                refine z_goto C 130 dX6_findPlan_267 (by decide) ?_
                exact ihO (s + 1, _) _ _ ⟨hM, hsL, hsc, hrowN, hbN⟩ (by dsimp only; omega) ⟨rfl, rfl, rfl, z_lgI rfl (z_inc s), trivial⟩
              · refine z_aload_n C dX6_findPlan_249 rfl ?_
                refine z_iload C dX6_findPlan_250 rfl ?_
                refine z_put C (by first | exact hM.1 | exact hM.2.1 _ rfl | exact hM.2.2.1 _ rfl) z_cls7 hu_X6 (by exact ⟨_, rfl, rfl⟩) 28 (by decide) wb_663 rfl rfl (by rfl) (by rfl) (Nat.le_of_ble_eq_true rfl) dX6_findPlan_252 (fun H252 hU252 => ?_)
                have hM := hM.sS hU252 rfl
                have hsc := hsc.scal (k := 28) (v := nI (q_cost M nD (k_u M) s)) (by omega)
                refine z_aload_n C dX6_findPlan_255 rfl ?_
                refine z_aload_n C dX6_findPlan_256 rfl ?_
                refine z_iload_n C dX6_findPlan_257 rfl ?_
                refine z_callVR (As := [.int _]) C (c_X6_sizeOfSet _ _ ad _ hsc.1.2.1 h10 _) kc_X6_sizeOfSet wb_876 ⟨by decide, by decide⟩ hM.1 rfl (hM) ⟨Nat.zero_le _, Nat.zero_le _⟩ (Nat.le_of_ble_eq_true rfl) dX6_findPlan_258 ?_
                rw [F_sset_q hI (by omega)]
                refine z_put C (by first | exact hM.1 | exact hM.2.1 _ rfl | exact hM.2.2.1 _ rfl) z_cls7 hu_X6 (by exact ⟨_, rfl, rfl⟩) 29 (by decide) wb_664 rfl rfl (by rfl) (by rfl) (Nat.le_of_ble_eq_true rfl) dX6_findPlan_261 (fun H261 hU261 => ?_)
                have hM := hM.sS hU261 rfl
                have hsc := hsc.scal (k := 29) (v := nI (q_size M nD s)) (by omega)
                have hbN := hb.take hD16 (q_cost_le hI) hmet h241 (by first | exact absurd rfl h246 | simp [q_better, *])
                refine z_iinc C dX6_findPlan_264 rfl rfl (by decide) ?_
                refine z_goto C 130 dX6_findPlan_267 (by decide) ?_
                exact ihO (s + 1, _) _ _ ⟨hM, hsL, hsc, hrowN, hbN⟩ (by dsimp only; omega) ⟨rfl, rfl, rfl, z_lgI rfl (z_inc s), trivial⟩
          · refine z_iload C dX6_findPlan_199 rfl ?_
            refine z_aload_n C dX6_findPlan_201 rfl ?_
            refine z_get C (by first | exact hM.1 | exact hM.2.1 _ rfl | exact hM.2.2.1 _ rfl) z_cls7 hu_X6 28 (by decide) wb_663 rfl rfl dX6_findPlan_202 ?_
            refine z_icmp_lt C 229 dX6_findPlan_205 (by decide) (fun h205 => ?_) (fun h205 => ?_)
            · refine z_iconst (v := 1) C dX6_findPlan_229 (by decide) ?_
              refine z_goto C 234 dX6_findPlan_230 (by decide) ?_
              refine z_istore C dX6_findPlan_234 (by decide) ?_
              refine z_aload_n C dX6_findPlan_236 rfl ?_
              refine z_iload_n C dX6_findPlan_237 rfl ?_
              refine z_callVR (As := [.int _]) C (c_X6_escapes _ _ ad _ _ hsv) kc_X6_escapes wb_880 ⟨by decide, by decide⟩ hM.1 rfl (hM) ⟨Nat.zero_le _, Nat.zero_le _⟩ (Nat.le_of_ble_eq_true rfl) dX6_findPlan_238 ?_
              rw [k_esc_eq hsc.1 hs1 (hsc.2 s hsL)]
              refine z_ifb_eq C 264 dX6_findPlan_241 (by decide) (fun h241 => ?_) (fun h241 => ?_)
              · have hbN := hb.pass (fun _ => h241)
                refine z_iinc C dX6_findPlan_264 rfl rfl (by decide) ?_
                refine z_goto C 130 dX6_findPlan_267 (by decide) ?_
                exact ihO (s + 1, _) _ _ ⟨hM, hsL, hsc, hrowN, hbN⟩ (by dsimp only; omega) ⟨rfl, rfl, rfl, z_lgI rfl (z_inc s), trivial⟩
              · refine z_iload C dX6_findPlan_244 rfl ?_
                refine z_if_eq C 264 dX6_findPlan_246 (by decide) (fun h246 => ?_) (fun h246 => ?_)
                · have hbN := hb.keep hD16 (q_cost_le hI) (by first | exact absurd h246 (by decide) | simp [q_better, *])
                  refine z_iinc C dX6_findPlan_264 rfl rfl (by decide) ?_
                  refine z_goto C 130 dX6_findPlan_267 (by decide) ?_
                  exact ihO (s + 1, _) _ _ ⟨hM, hsL, hsc, hrowN, hbN⟩ (by dsimp only; omega) ⟨rfl, rfl, rfl, z_lgI rfl (z_inc s), trivial⟩
                · refine z_aload_n C dX6_findPlan_249 rfl ?_
                  refine z_iload C dX6_findPlan_250 rfl ?_
                  refine z_put C (by first | exact hM.1 | exact hM.2.1 _ rfl | exact hM.2.2.1 _ rfl) z_cls7 hu_X6 (by exact ⟨_, rfl, rfl⟩) 28 (by decide) wb_663 rfl rfl (by rfl) (by rfl) (Nat.le_of_ble_eq_true rfl) dX6_findPlan_252 (fun H252 hU252 => ?_)
                  have hM := hM.sS hU252 rfl
                  have hsc := hsc.scal (k := 28) (v := nI (q_cost M nD (k_u M) s)) (by omega)
                  refine z_aload_n C dX6_findPlan_255 rfl ?_
                  refine z_aload_n C dX6_findPlan_256 rfl ?_
                  refine z_iload_n C dX6_findPlan_257 rfl ?_
                  refine z_callVR (As := [.int _]) C (c_X6_sizeOfSet _ _ ad _ hsc.1.2.1 h10 _) kc_X6_sizeOfSet wb_876 ⟨by decide, by decide⟩ hM.1 rfl (hM) ⟨Nat.zero_le _, Nat.zero_le _⟩ (Nat.le_of_ble_eq_true rfl) dX6_findPlan_258 ?_
                  rw [F_sset_q hI (by omega)]
                  refine z_put C (by first | exact hM.1 | exact hM.2.1 _ rfl | exact hM.2.2.1 _ rfl) z_cls7 hu_X6 (by exact ⟨_, rfl, rfl⟩) 29 (by decide) wb_664 rfl rfl (by rfl) (by rfl) (Nat.le_of_ble_eq_true rfl) dX6_findPlan_261 (fun H261 hU261 => ?_)
                  have hM := hM.sS hU261 rfl
                  have hsc := hsc.scal (k := 29) (v := nI (q_size M nD s)) (by omega)
                  have hbN := hb.take hD16 (q_cost_le hI) hmet h241 (by first | exact absurd rfl h246 | simp [q_better, *])
                  refine z_iinc C dX6_findPlan_264 rfl rfl (by decide) ?_
                  refine z_goto C 130 dX6_findPlan_267 (by decide) ?_
                  exact ihO (s + 1, _) _ _ ⟨hM, hsL, hsc, hrowN, hbN⟩ (by dsimp only; omega) ⟨rfl, rfl, rfl, z_lgI rfl (z_inc s), trivial⟩
            · refine z_iload C dX6_findPlan_208 rfl ?_
              refine z_aload_n C dX6_findPlan_210 rfl ?_
              refine z_get C (by first | exact hM.1 | exact hM.2.1 _ rfl | exact hM.2.2.1 _ rfl) z_cls7 hu_X6 28 (by decide) wb_663 rfl rfl dX6_findPlan_211 ?_
              refine z_icmp_ne C 233 dX6_findPlan_214 (by decide) (fun h214 => ?_) (fun h214 => ?_)
              · refine z_iconst (v := 0) C dX6_findPlan_233 (by decide) ?_
                refine z_istore C dX6_findPlan_234 (by decide) ?_
                refine z_aload_n C dX6_findPlan_236 rfl ?_
                refine z_iload_n C dX6_findPlan_237 rfl ?_
                refine z_callVR (As := [.int _]) C (c_X6_escapes _ _ ad _ _ hsv) kc_X6_escapes wb_880 ⟨by decide, by decide⟩ hM.1 rfl (hM) ⟨Nat.zero_le _, Nat.zero_le _⟩ (Nat.le_of_ble_eq_true rfl) dX6_findPlan_238 ?_
                rw [k_esc_eq hsc.1 hs1 (hsc.2 s hsL)]
                refine z_ifb_eq C 264 dX6_findPlan_241 (by decide) (fun h241 => ?_) (fun h241 => ?_)
                · have hbN := hb.pass (fun _ => h241)
                  refine z_iinc C dX6_findPlan_264 rfl rfl (by decide) ?_
                  refine z_goto C 130 dX6_findPlan_267 (by decide) ?_
                  exact ihO (s + 1, _) _ _ ⟨hM, hsL, hsc, hrowN, hbN⟩ (by dsimp only; omega) ⟨rfl, rfl, rfl, z_lgI rfl (z_inc s), trivial⟩
                · refine z_iload C dX6_findPlan_244 rfl ?_
                  refine z_if_eq C 264 dX6_findPlan_246 (by decide) (fun h246 => ?_) (fun h246 => ?_)
                  · have hbN := hb.keep hD16 (q_cost_le hI) (by first | exact absurd h246 (by decide) | simp [q_better, *])
                    refine z_iinc C dX6_findPlan_264 rfl rfl (by decide) ?_
                    refine z_goto C 130 dX6_findPlan_267 (by decide) ?_
                    exact ihO (s + 1, _) _ _ ⟨hM, hsL, hsc, hrowN, hbN⟩ (by dsimp only; omega) ⟨rfl, rfl, rfl, z_lgI rfl (z_inc s), trivial⟩
                  · refine z_aload_n C dX6_findPlan_249 rfl ?_
                    refine z_iload C dX6_findPlan_250 rfl ?_
                    refine z_put C (by first | exact hM.1 | exact hM.2.1 _ rfl | exact hM.2.2.1 _ rfl) z_cls7 hu_X6 (by exact ⟨_, rfl, rfl⟩) 28 (by decide) wb_663 rfl rfl (by rfl) (by rfl) (Nat.le_of_ble_eq_true rfl) dX6_findPlan_252 (fun H252 hU252 => ?_)
                    have hM := hM.sS hU252 rfl
                    have hsc := hsc.scal (k := 28) (v := nI (q_cost M nD (k_u M) s)) (by omega)
                    refine z_aload_n C dX6_findPlan_255 rfl ?_
                    refine z_aload_n C dX6_findPlan_256 rfl ?_
                    refine z_iload_n C dX6_findPlan_257 rfl ?_
                    refine z_callVR (As := [.int _]) C (c_X6_sizeOfSet _ _ ad _ hsc.1.2.1 h10 _) kc_X6_sizeOfSet wb_876 ⟨by decide, by decide⟩ hM.1 rfl (hM) ⟨Nat.zero_le _, Nat.zero_le _⟩ (Nat.le_of_ble_eq_true rfl) dX6_findPlan_258 ?_
                    rw [F_sset_q hI (by omega)]
                    refine z_put C (by first | exact hM.1 | exact hM.2.1 _ rfl | exact hM.2.2.1 _ rfl) z_cls7 hu_X6 (by exact ⟨_, rfl, rfl⟩) 29 (by decide) wb_664 rfl rfl (by rfl) (by rfl) (Nat.le_of_ble_eq_true rfl) dX6_findPlan_261 (fun H261 hU261 => ?_)
                    have hM := hM.sS hU261 rfl
                    have hsc := hsc.scal (k := 29) (v := nI (q_size M nD s)) (by omega)
                    have hbN := hb.take hD16 (q_cost_le hI) hmet h241 (by first | exact absurd rfl h246 | simp [q_better, *])
                    refine z_iinc C dX6_findPlan_264 rfl rfl (by decide) ?_
                    refine z_goto C 130 dX6_findPlan_267 (by decide) ?_
                    exact ihO (s + 1, _) _ _ ⟨hM, hsL, hsc, hrowN, hbN⟩ (by dsimp only; omega) ⟨rfl, rfl, rfl, z_lgI rfl (z_inc s), trivial⟩
              · refine z_aload_n C dX6_findPlan_217 rfl ?_
                refine z_iload_n C dX6_findPlan_218 rfl ?_
                refine z_callVR (As := [.int _]) C (c_X6_sizeOfSet _ _ ad _ hsc.1.2.1 h10 _) kc_X6_sizeOfSet wb_876 ⟨by decide, by decide⟩ hM.1 rfl (hM) ⟨Nat.zero_le _, Nat.zero_le _⟩ (Nat.le_of_ble_eq_true rfl) dX6_findPlan_219 ?_
                rw [F_sset_q hI (by omega)]
                refine z_aload_n C dX6_findPlan_222 rfl ?_
                refine z_get C (by first | exact hM.1 | exact hM.2.1 _ rfl | exact hM.2.2.1 _ rfl) z_cls7 hu_X6 29 (by decide) wb_664 rfl rfl dX6_findPlan_223 ?_
                refine z_icmp_ge C 233 dX6_findPlan_226 (by decide) (fun h226 => ?_) (fun h226 => ?_)
                · refine z_iconst (v := 0) C dX6_findPlan_233 (by decide) ?_
                  refine z_istore C dX6_findPlan_234 (by decide) ?_
                  refine z_aload_n C dX6_findPlan_236 rfl ?_
                  refine z_iload_n C dX6_findPlan_237 rfl ?_
                  refine z_callVR (As := [.int _]) C (c_X6_escapes _ _ ad _ _ hsv) kc_X6_escapes wb_880 ⟨by decide, by decide⟩ hM.1 rfl (hM) ⟨Nat.zero_le _, Nat.zero_le _⟩ (Nat.le_of_ble_eq_true rfl) dX6_findPlan_238 ?_
                  rw [k_esc_eq hsc.1 hs1 (hsc.2 s hsL)]
                  refine z_ifb_eq C 264 dX6_findPlan_241 (by decide) (fun h241 => ?_) (fun h241 => ?_)
                  · have hbN := hb.pass (fun _ => h241)
                    refine z_iinc C dX6_findPlan_264 rfl rfl (by decide) ?_
                    refine z_goto C 130 dX6_findPlan_267 (by decide) ?_
                    exact ihO (s + 1, _) _ _ ⟨hM, hsL, hsc, hrowN, hbN⟩ (by dsimp only; omega) ⟨rfl, rfl, rfl, z_lgI rfl (z_inc s), trivial⟩
                  · refine z_iload C dX6_findPlan_244 rfl ?_
                    refine z_if_eq C 264 dX6_findPlan_246 (by decide) (fun h246 => ?_) (fun h246 => ?_)
                    · have hbN := hb.keep hD16 (q_cost_le hI) (by first | exact absurd h246 (by decide) | simp [q_better, *])
                      refine z_iinc C dX6_findPlan_264 rfl rfl (by decide) ?_
                      refine z_goto C 130 dX6_findPlan_267 (by decide) ?_
                      exact ihO (s + 1, _) _ _ ⟨hM, hsL, hsc, hrowN, hbN⟩ (by dsimp only; omega) ⟨rfl, rfl, rfl, z_lgI rfl (z_inc s), trivial⟩
                    · refine z_aload_n C dX6_findPlan_249 rfl ?_
                      refine z_iload C dX6_findPlan_250 rfl ?_
                      refine z_put C (by first | exact hM.1 | exact hM.2.1 _ rfl | exact hM.2.2.1 _ rfl) z_cls7 hu_X6 (by exact ⟨_, rfl, rfl⟩) 28 (by decide) wb_663 rfl rfl (by rfl) (by rfl) (Nat.le_of_ble_eq_true rfl) dX6_findPlan_252 (fun H252 hU252 => ?_)
                      have hM := hM.sS hU252 rfl
                      have hsc := hsc.scal (k := 28) (v := nI (q_cost M nD (k_u M) s)) (by omega)
                      refine z_aload_n C dX6_findPlan_255 rfl ?_
                      refine z_aload_n C dX6_findPlan_256 rfl ?_
                      refine z_iload_n C dX6_findPlan_257 rfl ?_
                      refine z_callVR (As := [.int _]) C (c_X6_sizeOfSet _ _ ad _ hsc.1.2.1 h10 _) kc_X6_sizeOfSet wb_876 ⟨by decide, by decide⟩ hM.1 rfl (hM) ⟨Nat.zero_le _, Nat.zero_le _⟩ (Nat.le_of_ble_eq_true rfl) dX6_findPlan_258 ?_
                      rw [F_sset_q hI (by omega)]
                      refine z_put C (by first | exact hM.1 | exact hM.2.1 _ rfl | exact hM.2.2.1 _ rfl) z_cls7 hu_X6 (by exact ⟨_, rfl, rfl⟩) 29 (by decide) wb_664 rfl rfl (by rfl) (by rfl) (Nat.le_of_ble_eq_true rfl) dX6_findPlan_261 (fun H261 hU261 => ?_)
                      have hM := hM.sS hU261 rfl
                      have hsc := hsc.scal (k := 29) (v := nI (q_size M nD s)) (by omega)
                      have hbN := hb.take hD16 (q_cost_le hI) hmet h241 (by first | exact absurd rfl h246 | simp [q_better, *])
                      refine z_iinc C dX6_findPlan_264 rfl rfl (by decide) ?_
                      refine z_goto C 130 dX6_findPlan_267 (by decide) ?_
                      exact ihO (s + 1, _) _ _ ⟨hM, hsL, hsc, hrowN, hbN⟩ (by dsimp only; omega) ⟨rfl, rfl, rfl, z_lgI rfl (z_inc s), trivial⟩
                · refine z_iconst (v := 1) C dX6_findPlan_229 (by decide) ?_
                  refine z_goto C 234 dX6_findPlan_230 (by decide) ?_
                  refine z_istore C dX6_findPlan_234 (by decide) ?_
                  refine z_aload_n C dX6_findPlan_236 rfl ?_
                  refine z_iload_n C dX6_findPlan_237 rfl ?_
                  refine z_callVR (As := [.int _]) C (c_X6_escapes _ _ ad _ _ hsv) kc_X6_escapes wb_880 ⟨by decide, by decide⟩ hM.1 rfl (hM) ⟨Nat.zero_le _, Nat.zero_le _⟩ (Nat.le_of_ble_eq_true rfl) dX6_findPlan_238 ?_
                  rw [k_esc_eq hsc.1 hs1 (hsc.2 s hsL)]
                  refine z_ifb_eq C 264 dX6_findPlan_241 (by decide) (fun h241 => ?_) (fun h241 => ?_)
                  · have hbN := hb.pass (fun _ => h241)
                    refine z_iinc C dX6_findPlan_264 rfl rfl (by decide) ?_
                    refine z_goto C 130 dX6_findPlan_267 (by decide) ?_
                    exact ihO (s + 1, _) _ _ ⟨hM, hsL, hsc, hrowN, hbN⟩ (by dsimp only; omega) ⟨rfl, rfl, rfl, z_lgI rfl (z_inc s), trivial⟩
                  · refine z_iload C dX6_findPlan_244 rfl ?_
                    refine z_if_eq C 264 dX6_findPlan_246 (by decide) (fun h246 => ?_) (fun h246 => ?_)
                    · have hbN := hb.keep hD16 (q_cost_le hI) (by first | exact absurd h246 (by decide) | simp [q_better, *])
                      refine z_iinc C dX6_findPlan_264 rfl rfl (by decide) ?_
                      refine z_goto C 130 dX6_findPlan_267 (by decide) ?_
                      exact ihO (s + 1, _) _ _ ⟨hM, hsL, hsc, hrowN, hbN⟩ (by dsimp only; omega) ⟨rfl, rfl, rfl, z_lgI rfl (z_inc s), trivial⟩
                    · refine z_aload_n C dX6_findPlan_249 rfl ?_
                      refine z_iload C dX6_findPlan_250 rfl ?_
                      refine z_put C (by first | exact hM.1 | exact hM.2.1 _ rfl | exact hM.2.2.1 _ rfl) z_cls7 hu_X6 (by exact ⟨_, rfl, rfl⟩) 28 (by decide) wb_663 rfl rfl (by rfl) (by rfl) (Nat.le_of_ble_eq_true rfl) dX6_findPlan_252 (fun H252 hU252 => ?_)
                      have hM := hM.sS hU252 rfl
                      have hsc := hsc.scal (k := 28) (v := nI (q_cost M nD (k_u M) s)) (by omega)
                      refine z_aload_n C dX6_findPlan_255 rfl ?_
                      refine z_aload_n C dX6_findPlan_256 rfl ?_
                      refine z_iload_n C dX6_findPlan_257 rfl ?_
                      refine z_callVR (As := [.int _]) C (c_X6_sizeOfSet _ _ ad _ hsc.1.2.1 h10 _) kc_X6_sizeOfSet wb_876 ⟨by decide, by decide⟩ hM.1 rfl (hM) ⟨Nat.zero_le _, Nat.zero_le _⟩ (Nat.le_of_ble_eq_true rfl) dX6_findPlan_258 ?_
                      rw [F_sset_q hI (by omega)]
                      refine z_put C (by first | exact hM.1 | exact hM.2.1 _ rfl | exact hM.2.2.1 _ rfl) z_cls7 hu_X6 (by exact ⟨_, rfl, rfl⟩) 29 (by decide) wb_664 rfl rfl (by rfl) (by rfl) (Nat.le_of_ble_eq_true rfl) dX6_findPlan_261 (fun H261 hU261 => ?_)
                      have hM := hM.sS hU261 rfl
                      have hsc := hsc.scal (k := 29) (v := nI (q_size M nD s)) (by omega)
                      have hbN := hb.take hD16 (q_cost_le hI) hmet h241 (by first | exact absurd rfl h246 | simp [q_better, *])
                      refine z_iinc C dX6_findPlan_264 rfl rfl (by decide) ?_
                      refine z_goto C 130 dX6_findPlan_267 (by decide) ?_
                      exact ihO (s + 1, _) _ _ ⟨hM, hsL, hsc, hrowN, hbN⟩ (by dsimp only; omega) ⟨rfl, rfl, rfl, z_lgI rfl (z_inc s), trivial⟩
        · have hltk := z_lt hsc.1.2.1 (by omega) hk h153
          obtain ⟨e, he, hoe, rfl⟩ := k_ci_ex hltk
          have hcie := k_ci_lt he hoe
          have hkv : vp_in (nI (k_ci M e)) 10 := vp_in_nI (by omega) (by omega)
          have hclk : (nI (k_ci M e)).toNatClampNeg = k_ci M e := nI_clamp (by omega)
          have horL := k_or_lt hI hsL he hoe
          have hov : vp_in (nI (s ||| 2 ^ k_ci M e)) 1024 := vp_in_nI (by omega) (by omega)
          have hclo : (nI (s ||| 2 ^ k_ci M e)).toNatClampNeg = s ||| 2 ^ k_ci M e := nI_clamp (by omega)
          have hkn : M4.1 9 = nI nK := (hsc.1.1.1 9 (by decide)).trans hN.2.2.1.1
          refine z_aload_n C dX6_findPlan_156 rfl ?_
          refine z_iload_n C dX6_findPlan_157 rfl ?_
          refine z_iload_n C dX6_findPlan_158 rfl ?_
          refine z_iload C dX6_findPlan_159 rfl ?_
          refine z_callVR (As := [.int _, .int _, .int _]) C (c_X6_canAdd _ _ ad _ hsc.1.2.1 h10 (fun k hk => hsc.1.h23 hI hk) (nK := nK) hkn hK16 _ _ hsv (k_ci M e) e (by omega) (by omega) (hsc.1.2.2 e he hoe)) kc_X6_canAdd wb_868 ⟨by decide, by decide⟩ hM.1 rfl (hM) ⟨Nat.zero_le _, Nat.zero_le _⟩ (Nat.le_of_ble_eq_true rfl) dX6_findPlan_161 ?_
          rw [F_canAdd_eq (nK := nK) (g := g) hI hsc.1 hs1 he hoe (hsc.2 _ hsL)]
          refine z_ifb_eq C 179 dX6_findPlan_164 (by decide) (fun h164 => ?_) (fun h164 => ?_)
          · have hrow2 : ∀ t, t < 2 ^ k_ci M nD → z_is (M4.2 26 t) (q_B M nD (k_cA M nD nK (m_r0 M g) g) s (k_ci M e + 1) t) := fun t ht => (hrow t ht).iff ⟨fun q => (q_B.next hI k_hA he hoe hmet).mpr (Or.inl q), fun q => ((q_B.next hI k_hA he hoe hmet).mp q).resolve_right (fun w => by rw [h164] at w; exact absurd w.1 (by decide))⟩
            refine z_iinc C dX6_findPlan_179 rfl rfl (by decide) ?_
            refine z_goto C 147 dX6_findPlan_182 (by decide) ?_
            exact ihI (k_ci M e + 1, _) _ _ ⟨hM, hcie, hsc, hrow2, hb⟩ (by dsimp only; omega) ⟨rfl, rfl, rfl, rfl, z_lgI rfl (z_inc _), trivial⟩
          · refine z_aload_n C dX6_findPlan_167 rfl ?_
            refine z_get C (by first | exact hM.1 | exact hM.2.1 _ rfl | exact hM.2.2.1 _ rfl) z_cls7 hu_X6 26 (by decide) wb_661 rfl rfl dX6_findPlan_168 ?_
            refine z_iload_n C dX6_findPlan_171 rfl ?_
            refine z_iconst (v := 1) C dX6_findPlan_172 (by decide) ?_
            refine z_iload C dX6_findPlan_173 rfl ?_
            refine z_ishl C dX6_findPlan_175 ?_
            refine z_ior C dX6_findPlan_176 ?_
            rw [show (1 : Int32) <<< (nI (k_ci M e) &&& 31) = x_bit (nI (k_ci M e)) from rfl, nI_or (by omega) (by omega)]
            refine z_iconst (v := 1) C dX6_findPlan_177 (by decide) ?_
            refine z_zast C (by first | exact hM.1 | exact hM.2.1 _ rfl | exact hM.2.2.1 _ rfl) (by exact ⟨_, rfl, rfl⟩) (by first | assumption) (by first | exact hcls | exact hclk | exact hclo | rfl) dX6_findPlan_178 (fun H178 hU178 => ?_)
            have hM := hM.sZ hU178 rfl
            have hrow2 : ∀ t, t < 2 ^ k_ci M nD → z_is ((m_sA M4 26 (s ||| 2 ^ k_ci M e) (vp_nar .boolean 1)).2 26 t) (q_B M nD (k_cA M nD nK (m_r0 M g) g) s (k_ci M e + 1) t) := fun t ht => by
              by_cases e0 : t = s ||| 2 ^ k_ci M e
              · rw [e0, m_sA_at]; exact Or.inl ⟨rfl, (q_B.next hI k_hA he hoe hmet).mpr (Or.inr ⟨h164, rfl⟩)⟩
              · rw [m_sA_ix e0]; exact (hrow t ht).iff ⟨fun q => (q_B.next hI k_hA he hoe hmet).mpr (Or.inl q), fun q => ((q_B.next hI k_hA he hoe hmet).mp q).resolve_right (fun w => e0 w.2)⟩
            have hsc := hsc.arr (k := 26) (i := s ||| 2 ^ k_ci M e) (v := vp_nar .boolean 1) (by omega)
            refine z_iinc C dX6_findPlan_179 rfl rfl (by decide) ?_
            refine z_goto C 147 dX6_findPlan_182 (by decide) ?_
            exact ihI (k_ci M e + 1, _) _ _ ⟨hM, hcie, hsc, hrow2, hb⟩ (by dsimp only; omega) ⟨rfl, rfl, rfl, rfl, z_lgI rfl (z_inc _), trivial⟩
  · have hsL : s < 2 ^ k_ci M nD := z_lt (rfl : nI (2 ^ k_ci M nD) = nI (2 ^ k_ci M nD)) (by omega) hs h15
    have hs1 : s < 1024 := by omega
    have hsv : vp_in (nI s) 1024 := vp_in_nI hs1 (by omega)
    have hcls : (nI s).toNatClampNeg = s := nI_clamp (by omega)
    refine z_aload_n C dX6_findPlan_18 rfl ?_
    refine z_get C (by first | exact hM.1 | exact hM.2.1 _ rfl | exact hM.2.2.1 _ rfl) z_cls7 hu_X6 24 (by decide) wb_659 rfl rfl dX6_findPlan_19 ?_
    refine z_iload_n C dX6_findPlan_22 rfl ?_
    refine z_iconst (v := 0) C dX6_findPlan_23 (by decide) ?_
    refine z_iast C (by first | exact hM.1 | exact hM.2.1 _ rfl | exact hM.2.2.1 _ rfl) (by exact ⟨_, rfl, rfl⟩) (by first | assumption) (by first | exact hcls | exact hclk | exact hclo | rfl) dX6_findPlan_24 (fun H24 hU24 => ?_)
    have hM := hM.sI hU24 rfl
    refine z_iconst (v := 0) C dX6_findPlan_25 (by decide) ?_
    refine z_istore C dX6_findPlan_26 (by decide) ?_
    refine z_loopS (fun q : Nat × m_S => k_ci M nD - q.1) (fun q H1 => m_R G ad q.2 H1 ∧ q.1 ≤ k_ci M nD ∧ k_scA M nD (m_r0 M g) s q.2 ∧ k_dI M nD s q.1 (q.2.2 24 s)) (fun q => [(0, .ref (ad 0)), (1, .int g), (2, .int (nI (2 ^ k_ci M nD))), (3, .int (nI s)), (4, .int (nI q.1))]) (0, m_sA M2 24 s 0) ⟨hM, Nat.zero_le _, hS.inner, by rw [m_sA_at]; exact k_dI.zero⟩ ⟨rfl, rfl, rfl, rfl, rfl, trivial⟩ (fun q H2 hI2 ihI => ?_)
    obtain ⟨k, M3⟩ := q
    obtain ⟨hM, hk, hS, hdI⟩ := hI2
    dsimp only at hM hk hS hdI ihI ⊢
    refine z_iload C dX6_findPlan_28 rfl ?_
    refine z_aload_n C dX6_findPlan_30 rfl ?_
    refine z_get C (by first | exact hM.1 | exact hM.2.1 _ rfl | exact hM.2.2.1 _ rfl) z_cls7 hu_X6 22 (by decide) wb_657 rfl rfl dX6_findPlan_31 ?_
    refine z_icmp_ge C 74 dX6_findPlan_34 (by decide) (fun h34 => ?_) (fun h34 => ?_)
    · have hend := z_ge hS.1.2.1 (by omega) hk h34
      rw [hend] at hdI
      have e16 : M3.2 16 g.toNatClampNeg = nI (m_r0 M g) := by rw [hS.1.1.2 16 (by decide)]; exact (x_n16 hI hgl).symm
      refine z_aload_n C dX6_findPlan_74 rfl ?_
      refine z_get C (by first | exact hM.1 | exact hM.2.1 _ rfl | exact hM.2.2.1 _ rfl) z_cls7 hu_X6 25 (by decide) wb_660 rfl rfl dX6_findPlan_75 ?_
      refine z_iload_n C dX6_findPlan_78 rfl ?_
      refine z_aload_n C dX6_findPlan_79 rfl ?_
      refine z_aload_n C dX6_findPlan_80 rfl ?_
      refine z_get C (by first | exact hM.1 | exact hM.2.1 _ rfl | exact hM.2.2.1 _ rfl) z_cls7 hu_X6 16 (by decide) wb_651 rfl rfl dX6_findPlan_81 ?_
      refine z_iload_n C dX6_findPlan_84 rfl ?_
      refine z_iald C (by first | exact hM.1 | exact hM.2.1 _ rfl | exact hM.2.2.1 _ rfl) (by first | assumption) (by first | exact hcls | exact hclk | exact hclo | rfl) dX6_findPlan_85 ?_
      rw [e16]
      refine z_aload_n C dX6_findPlan_86 rfl ?_
      refine z_get C (by first | exact hM.1 | exact hM.2.1 _ rfl | exact hM.2.2.1 _ rfl) z_cls7 hu_X6 24 (by decide) wb_659 rfl rfl dX6_findPlan_87 ?_
      refine z_iload_n C dX6_findPlan_90 rfl ?_
      refine z_iald C (by first | exact hM.1 | exact hM.2.1 _ rfl | exact hM.2.2.1 _ rfl) (by first | assumption) (by first | exact hcls | exact hclk | exact hclo | rfl) dX6_findPlan_91 ?_
      refine z_callVR (As := [.int _, .int _]) C (c_X6_reachable _ _ ad M3 (hI.scratch hS.1.1) _ hr32 _) kc_X6_reachable wb_864 ⟨by decide, by decide⟩ hM.1 rfl (hM) ⟨Nat.zero_le _, Nat.zero_le _⟩ (Nat.le_of_ble_eq_true rfl) dX6_findPlan_92 ?_
      rw [k_reach_eq hI hS.1.1 hdI]
      refine z_iast C (by first | exact hM.1 | exact hM.2.1 _ rfl | exact hM.2.2.1 _ rfl) (by exact ⟨_, rfl, rfl⟩) (by first | assumption) (by first | exact hcls | exact hclk | exact hclo | rfl) dX6_findPlan_95 (fun H95 hU95 => ?_)
      have hM := hM.sI hU95 rfl
      refine z_aload_n C dX6_findPlan_96 rfl ?_
      refine z_get C (by first | exact hM.1 | exact hM.2.1 _ rfl | exact hM.2.2.1 _ rfl) z_cls7 hu_X6 26 (by decide) wb_661 rfl rfl dX6_findPlan_97 ?_
      refine z_iload_n C dX6_findPlan_100 rfl ?_
      refine z_iload_n C dX6_findPlan_101 rfl ?_
      refine z_if_ne C 109 dX6_findPlan_102 (by decide) (fun h102 => ?_) (fun h102 => ?_)
      · refine z_iconst (v := 0) C dX6_findPlan_109 (by decide) ?_
        refine z_zast C (by first | exact hM.1 | exact hM.2.1 _ rfl | exact hM.2.2.1 _ rfl) (by exact ⟨_, rfl, rfl⟩) (by first | assumption) (by first | exact hcls | exact hclk | exact hclo | rfl) dX6_findPlan_110 (fun H110 hU110 => ?_)
        have hM := hM.sZ hU110 rfl
        have hx : ∃ v, m_R G ad (m_sA (m_sA M3 25 s (k_R M nD (m_r0 M g) (k_C M nD (k_ci M) s))) 26 s v) H110 ∧ z_is v (s = 0) := by
          first | exact ⟨_, hM, Or.inl ⟨rfl, (nI_inj (a := s) (b := 0) (by omega) (by omega)).mp h102⟩⟩ | exact ⟨_, hM, Or.inr ⟨rfl, fun q => h102 (by rw [q]; rfl)⟩⟩
        obtain ⟨v, hM, hv⟩ := hx
        have hS2 := hS.next rfl hv
        refine z_iinc C dX6_findPlan_111 rfl rfl (by decide) ?_
        refine z_goto C 13 dX6_findPlan_114 (by decide) ?_
        exact ihO (s + 1, _) _ _ ⟨hM, hsL, hS2⟩ (by dsimp only; omega) ⟨rfl, rfl, rfl, z_lgI rfl (z_inc s), trivial⟩
      · refine z_iconst (v := 1) C dX6_findPlan_105 (by decide) ?_
        refine z_goto C 110 dX6_findPlan_106 (by decide) ?_
        refine z_zast C (by first | exact hM.1 | exact hM.2.1 _ rfl | exact hM.2.2.1 _ rfl) (by exact ⟨_, rfl, rfl⟩) (by first | assumption) (by first | exact hcls | exact hclk | exact hclo | rfl) dX6_findPlan_110 (fun H110 hU110 => ?_)
        have hM := hM.sZ hU110 rfl
        have hx : ∃ v, m_R G ad (m_sA (m_sA M3 25 s (k_R M nD (m_r0 M g) (k_C M nD (k_ci M) s))) 26 s v) H110 ∧ z_is v (s = 0) := by
          first | exact ⟨_, hM, Or.inl ⟨rfl, (nI_inj (a := s) (b := 0) (by omega) (by omega)).mp h102⟩⟩ | exact ⟨_, hM, Or.inr ⟨rfl, fun q => h102 (by rw [q]; rfl)⟩⟩
        obtain ⟨v, hM, hv⟩ := hx
        have hS2 := hS.next rfl hv
        refine z_iinc C dX6_findPlan_111 rfl rfl (by decide) ?_
        refine z_goto C 13 dX6_findPlan_114 (by decide) ?_
        exact ihO (s + 1, _) _ _ ⟨hM, hsL, hS2⟩ (by dsimp only; omega) ⟨rfl, rfl, rfl, z_lgI rfl (z_inc s), trivial⟩
    · have hltk := z_lt hS.1.2.1 (by omega) hk h34
      obtain ⟨e, he, hoe, rfl⟩ := k_ci_ex hltk
      have hcie := k_ci_lt he hoe
      have hkv : vp_in (nI (k_ci M e)) 10 := vp_in_nI (by omega) (by omega)
      have hclk : (nI (k_ci M e)).toNatClampNeg = k_ci M e := nI_clamp (by omega)
      refine z_aload_n C dX6_findPlan_37 rfl ?_
      refine z_get C (by first | exact hM.1 | exact hM.2.1 _ rfl | exact hM.2.2.1 _ rfl) z_cls7 hu_X6 24 (by decide) wb_659 rfl rfl dX6_findPlan_38 ?_
      refine z_iload_n C dX6_findPlan_41 rfl ?_
      refine z_dup2 C dX6_findPlan_42 rfl rfl ?_
      refine z_iald C (by first | exact hM.1 | exact hM.2.1 _ rfl | exact hM.2.2.1 _ rfl) (by first | assumption) (by first | exact hcls | exact hclk | exact hclo | rfl) dX6_findPlan_43 ?_
      refine z_iload_n C dX6_findPlan_44 rfl ?_
      refine z_iload C dX6_findPlan_45 rfl ?_
      refine z_callSR (As := [.int _, .int _]) C (c_X6_has _ _ _ _) kc_X6_has wb_861 ⟨by decide, by decide⟩ (trivial) ⟨Nat.zero_le _, Nat.zero_le _⟩ (Nat.le_of_ble_eq_true rfl) dX6_findPlan_47 ?_
      refine z_ifb_eq C 65 dX6_findPlan_50 (by decide) (fun h50 => ?_) (fun h50 => ?_)
      · refine z_iconst (v := 0) C dX6_findPlan_65 (by decide) ?_
        refine z_ior C dX6_findPlan_66 ?_
        refine z_iast C (by first | exact hM.1 | exact hM.2.1 _ rfl | exact hM.2.2.1 _ rfl) (by exact ⟨_, rfl, rfl⟩) (by first | assumption) (by first | exact hcls | exact hclk | exact hclo | rfl) dX6_findPlan_67 (fun H67 hU67 => ?_)
        have hM := hM.sI hU67 rfl
        have hx : ∃ v, m_R G ad (m_sA M3 24 s v) H67 ∧ k_dI M nD s (k_ci M e + 1) v := by
          rw [m_has_nI (by omega) (by omega)] at h50
          first | exact ⟨_, hM, hdI.no hI he hoe h50⟩ | exact ⟨_, hM, hdI.yes hI he hoe h50⟩
        obtain ⟨v, hM, hv⟩ := hx
        have hdI2 : k_dI M nD s (k_ci M e + 1) ((m_sA M3 24 s v).2 24 s) := by rw [m_sA_at]; exact hv
        refine z_iinc C dX6_findPlan_68 rfl rfl (by decide) ?_
        refine z_goto C 28 dX6_findPlan_71 (by decide) ?_
        exact ihI (k_ci M e + 1, _) _ _ ⟨hM, hcie, hS.inner, hdI2⟩ (by dsimp only; omega) ⟨rfl, rfl, rfl, rfl, z_lgI rfl (z_inc _), trivial⟩
      · refine z_iconst (v := 1) C dX6_findPlan_53 (by decide) ?_
        refine z_aload_n C dX6_findPlan_54 rfl ?_
        refine z_get C (by first | exact hM.1 | exact hM.2.1 _ rfl | exact hM.2.2.1 _ rfl) z_cls7 hu_X6 23 (by decide) wb_658 rfl rfl dX6_findPlan_55 ?_
        refine z_iload C dX6_findPlan_58 rfl ?_
        refine z_iald C (by first | exact hM.1 | exact hM.2.1 _ rfl | exact hM.2.2.1 _ rfl) (by first | assumption) (by first | exact hcls | exact hclk | exact hclo | rfl) dX6_findPlan_60 ?_
        rw [hS.1.2.2 e he hoe]
        refine z_ishl C dX6_findPlan_61 ?_
        refine z_goto C 66 dX6_findPlan_62 (by decide) ?_
        refine z_ior C dX6_findPlan_66 ?_
        refine z_iast C (by first | exact hM.1 | exact hM.2.1 _ rfl | exact hM.2.2.1 _ rfl) (by exact ⟨_, rfl, rfl⟩) (by first | assumption) (by first | exact hcls | exact hclk | exact hclo | rfl) dX6_findPlan_67 (fun H67 hU67 => ?_)
        have hM := hM.sI hU67 rfl
        have hx : ∃ v, m_R G ad (m_sA M3 24 s v) H67 ∧ k_dI M nD s (k_ci M e + 1) v := by
          rw [m_has_nI (by omega) (by omega)] at h50
          first | exact ⟨_, hM, hdI.no hI he hoe h50⟩ | exact ⟨_, hM, hdI.yes hI he hoe h50⟩
        obtain ⟨v, hM, hv⟩ := hx
        have hdI2 : k_dI M nD s (k_ci M e + 1) ((m_sA M3 24 s v).2 24 s) := by rw [m_sA_at]; exact hv
        refine z_iinc C dX6_findPlan_68 rfl rfl (by decide) ?_
        refine z_goto C 28 dX6_findPlan_71 (by decide) ?_
        exact ihI (k_ci M e + 1, _) _ _ ⟨hM, hcie, hS.inner, hdI2⟩ (by dsimp only; omega) ⟨rfl, rfl, rfl, rfl, z_lgI rfl (z_inc _), trivial⟩
