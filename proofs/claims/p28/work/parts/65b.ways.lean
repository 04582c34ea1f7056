/-! the law's ways -/
theorem y_way_no {nR nD nK nG g : Nat} {M : m_S} (hI : m_I nR nD nK nG M) (hg : g < nG) : F_way M nD (nI g) (nI nR) = -1 := by
  unfold F_way
  rw [y_nog hI hg, y_nor' hI (Nat.le_refl _) (by have := y_nsm hI; omega), if_pos (by decide)]
set_option maxHeartbeats 4000000 in
set_option maxRecDepth 100000 in
theorem c_L_ways (l : Launch) (G : z_G) (ad : Nat → Nat → Nat) (M : m_S) (t4 : Int32) {nR nD nK nG : Nat} (hI : m_I nR nD nK nG M) (g : Nat) (hg : g < nG) (hp : m_pl M (nI g) = true) : z_M l yL_ways cL_ways 11 (some .boolean) 6 0 0 [.ref (ad 4 0), .int (nI g)] G (fun H => y_X G ad nR nD nK nG M t4 H) (x_A ad nR nD nK nG) (fun v _ H => v = some (.int 1) ∧ y_X G ad nR nD nK nG M t4 H) := by
  refine z_M.of (by decide +kernel) (Nat.le_of_ble_eq_true rfl) ?_
  intro p e s m below meth c C hP
  have hX : y_X G ad nR nD nK nG M t4 s.heap := hP
  have hs := y_nsm hI
  obtain ⟨a, hW⟩ := y_Wa_ex (nD := nD) hI hg
  obtain ⟨hrm, hr0⟩ := y_rmE hI hg
  obtain ⟨htm, htl⟩ := y_tmE hI hg
  refine z_aload_n C dL_ways_0 rfl ?_
  refine z_iload_n C dL_ways_1 rfl ?_
  refine z_iconst (v := 2) C dL_ways_2 (by decide) ?_
  refine y_callR (As := [.int _, .int _]) C hX rfl (fun T _ => c_X5_group _ _ ad M T hI _ _) kc_X5_group wb_p410 ⟨by decide, by decide⟩ ⟨Nat.zero_le _, Nat.zero_le _⟩ (Nat.le_of_ble_eq_true rfl) dL_ways_3 ?_
  rw [y_g2 hI hg, htm]
  refine z_istore_n C dL_ways_6 (by decide) ?_
  refine z_aload_n C dL_ways_7 rfl ?_
  refine z_iload_n C dL_ways_8 rfl ?_
  refine y_callR (As := [.int _]) C hX rfl (fun T _ => c_X5_reach _ _ ad M T hI _) kc_X5_reach wb_p563 ⟨by decide, by decide⟩ ⟨Nat.zero_le _, Nat.zero_le _⟩ (Nat.le_of_ble_eq_true rfl) dL_ways_9 ?_
  refine z_istore_n C dL_ways_12 (by decide) ?_
  refine z_iload_n C dL_ways_13 rfl ?_
  refine z_aload_n C dL_ways_14 rfl ?_
  refine z_aload_n C dL_ways_15 rfl ?_
  refine z_iload_n C dL_ways_16 rfl ?_
  refine z_iconst (v := 1) C dL_ways_17 (by decide) ?_
  refine y_callR (As := [.int _, .int _]) C hX rfl (fun T _ => c_X5_group _ _ ad M T hI _ _) kc_X5_group wb_p410 ⟨by decide, by decide⟩ ⟨Nat.zero_le _, Nat.zero_le _⟩ (Nat.le_of_ble_eq_true rfl) dL_ways_18 ?_
  rw [y_g1 hI hg, hrm]
  refine z_iconst (v := 0) C dL_ways_21 (by decide) ?_
  refine z_callSR (As := [.ref _, .int _, .int _]) C (c_L_reach _ _ ad M t4 hI _ hr0 _ ) kc_L_reach wb_p541 ⟨by decide, by decide⟩ hX ⟨Nat.zero_le _, Nat.zero_le _⟩ (Nat.le_of_ble_eq_true rfl) dL_ways_22 ?_
  rw [y_reachE hI hg hp]
  refine z_icmp_ne C 56 dL_ways_25 (by decide) (fun h25 => ?_) (fun h25 => ?_)
  · exact absurd rfl h25
  · refine z_aload_n C dL_ways_28 rfl ?_
    refine z_iload_n C dL_ways_29 rfl ?_
    refine z_aload_n C dL_ways_30 rfl ?_
    refine z_iload_n C dL_ways_31 rfl ?_
    refine z_iconst (v := 1) C dL_ways_32 (by decide) ?_
    refine y_callR (As := [.int _, .int _]) C hX rfl (fun T _ => c_X5_group _ _ ad M T hI _ _) kc_X5_group wb_p410 ⟨by decide, by decide⟩ ⟨Nat.zero_le _, Nat.zero_le _⟩ (Nat.le_of_ble_eq_true rfl) dL_ways_33 ?_
    rw [y_g1 hI hg, hrm]
    refine y_callW (As := [.int _, .int _]) C hX rfl (fun T _ => c_X5_way _ _ ad M T hI _ _) (fun T v H' hT hq => y_qS hT hq) (fun q hq => hq) kc_X5_way wb_p568 ⟨by decide, by decide⟩ ⟨Nat.zero_le _, Nat.zero_le _⟩ (Nat.le_of_ble_eq_true rfl) dL_ways_36 (fun H36 hX36 hF36 => ?_)
    replace hX := hX36
    rw [y_way_eq hW hI hg hp hr0, (y_its_0 hW hI hg).mpr rfl]
    refine z_if_ne C 56 dL_ways_39 (by decide) (fun h39 => ?_) (fun h39 => ?_)
    · exact absurd rfl h39
    · refine z_aload_n C dL_ways_42 rfl ?_
      refine z_iload_n C dL_ways_43 rfl ?_
      refine z_aload_n C dL_ways_44 rfl ?_
      refine z_iconst (v := 0) C dL_ways_45 (by decide) ?_
      refine y_callR (As := [.int _]) C hX rfl (fun T hT4 => c_X5_countR _ _ ad M T hI _ (by decide) (fun h => absurd h (by decide))) kc_X5_count wb_p434 ⟨by decide, by decide⟩ ⟨Nat.zero_le _, Nat.zero_le _⟩ (Nat.le_of_ble_eq_true rfl) dL_ways_46 ?_
      rw [y_c0 hI]
      refine y_callW (As := [.int _, .int _]) C hX rfl (fun T _ => c_X5_way _ _ ad M T hI _ _) (fun T v H' hT hq => y_qS hT hq) (fun q hq => hq) kc_X5_way wb_p568 ⟨by decide, by decide⟩ ⟨Nat.zero_le _, Nat.zero_le _⟩ (Nat.le_of_ble_eq_true rfl) dL_ways_49 (fun H49 hX49 hF49 => ?_)
      replace hX := hX49
      rw [y_way_no hI hg]
      refine z_iconst (v := (-1)) C dL_ways_52 (by decide) ?_
      refine z_icmp_eq C 58 dL_ways_53 (by decide) (fun h53 => ?_) (fun h53 => ?_)
      · refine z_iconst (v := 0) C dL_ways_58 (by decide) ?_
        refine z_istore C dL_ways_59 (by decide) ?_
        refine z_loopS (fun q : Nat => nR - q) (fun q H1 => q ≤ nR ∧ y_X G ad nR nD nK nG M t4 H1) (fun q => [(0, .ref (ad 4 0)), (1, .int (nI g)), (2, .int (nI (y_tm M g))), (3, .int (F_reach M nD (nI g))), (4, .int (nI q))]) 0 ⟨Nat.zero_le _, hX⟩ ⟨rfl, rfl, rfl, rfl, rfl, trivial⟩ (fun r H1 hI1 ihO => ?_)
        obtain ⟨hr1, hX⟩ := hI1
        refine z_iload C dL_ways_61 rfl ?_
        refine z_aload_n C dL_ways_63 rfl ?_
        refine z_iconst (v := 0) C dL_ways_64 (by decide) ?_
        refine y_callR (As := [.int _]) C hX rfl (fun T hT4 => c_X5_countR _ _ ad M T hI _ (by decide) (fun h => absurd h (by decide))) kc_X5_count wb_p434 ⟨by decide, by decide⟩ ⟨Nat.zero_le _, Nat.zero_le _⟩ (Nat.le_of_ble_eq_true rfl) dL_ways_65 ?_
        rw [y_c0 hI]
        refine z_icmp_ge C 314 dL_ways_68 (by decide) (fun h68 => ?_) (fun h68 => ?_)
        · obtain rfl : r = nR := z_ge rfl (by omega) hr1 h68
          refine z_iconst (v := 1) C dL_ways_314 (by decide) ?_
          exact z_bret C (by omega) (by omega) dL_ways_315 (by rfl) (by exact ⟨rfl, hX⟩)
        · have hr : r < nR := z_lt rfl (by omega) hr1 h68
          refine z_aload_n C dL_ways_71 rfl ?_
          refine z_iload_n C dL_ways_72 rfl ?_
          refine z_iload C dL_ways_73 rfl ?_
          refine y_callW (As := [.int _, .int _]) C hX rfl (fun T _ => c_X5_way _ _ ad M T hI _ _) (fun T v H' hT hq => y_qS hT hq) (fun q hq => hq) kc_X5_way wb_p568 ⟨by decide, by decide⟩ ⟨Nat.zero_le _, Nat.zero_le _⟩ (Nat.le_of_ble_eq_true rfl) dL_ways_75 (fun H75 hX75 hF75 => ?_)
          replace hX := hX75
          rw [y_way_eq hW hI hg hp hr]
          refine z_istore C dL_ways_78 (by decide) ?_
          refine z_join 90 (z_b (decide (y_its a (y_tm M g) r = 0))) ?_ (fun kJ90 => ?_)
          · refine z_istore C dL_ways_90 (by decide) ?_
            refine z_join 102 (z_b (decide (y_its a (y_tm M g) r < 0))) ?_ (fun kJ102 => ?_)
            · refine z_join 116 (z_b (!(tb (F_reach M nD (nI g)) r))) ?_ (fun kJ116 => ?_)
              · refine z_icmp_ne C 131 dL_ways_116 (by decide) (fun h116 => ?_) (fun h116 => ?_)
                · exact absurd (by rw [y_setE hW hI hg hp hr]) h116
                · refine z_meet 133 (rest := []) ?_ (fun kJ133 => ?_)
                  · refine z_iconst (v := 0) C dL_ways_133 (by decide) ?_
                    refine z_istore C dL_ways_134 (by decide) ?_
                    refine z_loopS (fun q : Nat × Bool => nD - q.1) (fun q H1 => q.1 ≤ nD ∧ y_X G ad nR nD nK nG M t4 H1 ∧ y_Wm M nD g a r q.1 q.2) (fun q => [(0, .ref (ad 4 0)), (1, .int (nI g)), (2, .int (nI (y_tm M g))), (3, .int (F_reach M nD (nI g))), (4, .int (nI r)), (5, .int (y_its a (y_tm M g) r)), (6, .int (z_b q.2)), (7, .int (nI q.1))]) (0, decide (y_its a (y_tm M g) r = 0)) ⟨Nat.zero_le _, hX, y_Wm.zero hW hI hg⟩ ⟨rfl, rfl, rfl, rfl, rfl, rfl, rfl, rfl, trivial⟩ (fun q H2 hI2 ihI => ?_)
                    obtain ⟨d, mt⟩ := q
                    obtain ⟨hd1, hX, hM⟩ := hI2
                    dsimp only at hd1 hM ihI ⊢
                    refine z_iload C dL_ways_136 rfl ?_
                    refine z_aload_n C dL_ways_138 rfl ?_
                    refine z_iconst (v := 1) C dL_ways_139 (by decide) ?_
                    refine y_callR (As := [.int _]) C hX rfl (fun T hT4 => c_X5_countR _ _ ad M T hI _ (by decide) (fun h => absurd h (by decide))) kc_X5_count wb_p434 ⟨by decide, by decide⟩ ⟨Nat.zero_le _, Nat.zero_le _⟩ (Nat.le_of_ble_eq_true rfl) dL_ways_140 ?_
                    rw [y_c1 hI]
                    refine z_icmp_ge C 296 dL_ways_143 (by decide) (fun h143 => ?_) (fun h143 => ?_)
                    · obtain rfl : d = nD := z_ge rfl (by omega) hd1 h143
                      refine z_iload C dL_ways_296 rfl ?_
                      refine z_if_lt C 308 dL_ways_298 (by decide) (fun h298 => ?_) (fun h298 => ?_)
                      · refine z_iinc C dL_ways_308 rfl rfl (by decide) ?_
                        refine z_goto C 61 dL_ways_311 (by decide) ?_
                        exact ihO (r + 1) _ _ ⟨hr, hX⟩ (by omega) ⟨rfl, rfl, rfl, rfl, z_lgI rfl (z_inc r), trivial⟩
                      · refine z_iload C dL_ways_301 rfl ?_
                        refine z_ifb_ne C 308 dL_ways_303 (by decide) (fun h303 => ?_) (fun h303 => ?_)
                        · refine z_iinc C dL_ways_308 rfl rfl (by decide) ?_
                          refine z_goto C 61 dL_ways_311 (by decide) ?_
                          exact ihO (r + 1) _ _ ⟨hr, hX⟩ (by omega) ⟨rfl, rfl, rfl, rfl, z_lgI rfl (z_inc r), trivial⟩
                        · first | exact absurd h148 h298 | exact absurd (hM.done hW hI hg (by
                              by_cases q : a r < 1000000
                              · exact q
                              · exact absurd ((y_its_lt hW).mpr q) (by assumption))) (by rw [h303]; decide)
                    · have hd : d < nD := z_lt rfl (by omega) hd1 h143
                      have hld := y_lohi hI hd
                      refine z_iload C dL_ways_146 rfl ?_
                      refine z_if_lt C 296 dL_ways_148 (by decide) (fun h148 => ?_) (fun h148 => ?_)
                      · refine z_iload C dL_ways_296 rfl ?_
                        refine z_if_lt C 308 dL_ways_298 (by decide) (fun h298 => ?_) (fun h298 => ?_)
                        · refine z_iinc C dL_ways_308 rfl rfl (by decide) ?_
                          refine z_goto C 61 dL_ways_311 (by decide) ?_
                          exact ihO (r + 1) _ _ ⟨hr, hX⟩ (by omega) ⟨rfl, rfl, rfl, rfl, z_lgI rfl (z_inc r), trivial⟩
                        · refine z_iload C dL_ways_301 rfl ?_
                          refine z_ifb_ne C 308 dL_ways_303 (by decide) (fun h303 => ?_) (fun h303 => ?_)
                          · refine z_iinc C dL_ways_308 rfl rfl (by decide) ?_
                            refine z_goto C 61 dL_ways_311 (by decide) ?_
                            exact ihO (r + 1) _ _ ⟨hr, hX⟩ (by omega) ⟨rfl, rfl, rfl, rfl, z_lgI rfl (z_inc r), trivial⟩
                          · first | exact absurd h148 h298 | exact absurd (hM.done hW hI hg (by
                                by_cases q : a r < 1000000
                                · exact q
                                · exact absurd ((y_its_lt hW).mpr q) (by assumption))) (by rw [h303]; decide)
                      · refine z_join 196 (y_ot M r d) ?_ (fun kJ196 => ?_)
                        · refine z_istore C dL_ways_196 (by decide) ?_
                          refine z_iload C dL_ways_198 rfl ?_
                          refine z_if_lt C 290 dL_ways_200 (by decide) (fun h200 => ?_) (fun h200 => ?_)
                          · refine z_iinc C dL_ways_290 rfl rfl (by decide) ?_
                            refine z_goto C 136 dL_ways_293 (by decide) ?_
                            first
                              | exact ihI (d + 1, mt || decide (m_f M d (a x) = a r)) _ _ ⟨hd, hX, hM.take hI hE⟩ (by dsimp only; omega) ⟨rfl, rfl, rfl, rfl, rfl, rfl, rfl, z_lgI rfl (z_inc d), trivial⟩
                              | exact ihI (d + 1, mt) _ _ ⟨hd, hX, hM.skip (y_ot_neg hI hd h200)⟩ (by dsimp only; omega) ⟨rfl, rfl, rfl, rfl, rfl, rfl, rfl, z_lgI rfl (z_inc d), trivial⟩
                              | exact ihI (d + 1, mt) _ _ ⟨hd, hX, hM.skip (fun z hz => by have q := hz.2.1; unfold x_op at q; simp [h210] at q)⟩ (by dsimp only; omega) ⟨rfl, rfl, rfl, rfl, rfl, rfl, rfl, z_lgI rfl (z_inc d), trivial⟩
                          · obtain ⟨x, hxe, hxr⟩ := y_ot_pos h200
                            rw [hxe]
                            have hx : x < nR := by rcases hxr with ⟨e, -⟩ | ⟨e, -⟩ <;> rw [e] <;> omega
                            refine z_aload_n C dL_ways_203 rfl ?_
                            refine z_iload C dL_ways_204 rfl ?_
                            refine z_iconst (v := 5) C dL_ways_206 (by decide) ?_
                            refine y_callR (As := [.int _, .int _]) C hX rfl (fun T _ => c_X5_door _ _ ad M T hI _ _) kc_X5_door wb_p544 ⟨by decide, by decide⟩ ⟨Nat.zero_le _, Nat.zero_le _⟩ (Nat.le_of_ble_eq_true rfl) dL_ways_207 ?_
                            rw [y_d5 hI hd]
                            refine z_if_lt C 290 dL_ways_210 (by decide) (fun h210 => ?_) (fun h210 => ?_)
                            · refine z_iinc C dL_ways_290 rfl rfl (by decide) ?_
                              refine z_goto C 136 dL_ways_293 (by decide) ?_
                              first
                                | exact ihI (d + 1, mt || decide (m_f M d (a x) = a r)) _ _ ⟨hd, hX, hM.take hI hE⟩ (by dsimp only; omega) ⟨rfl, rfl, rfl, rfl, rfl, rfl, rfl, z_lgI rfl (z_inc d), trivial⟩
                                | exact ihI (d + 1, mt) _ _ ⟨hd, hX, hM.skip (y_ot_neg hI hd h200)⟩ (by dsimp only; omega) ⟨rfl, rfl, rfl, rfl, rfl, rfl, rfl, z_lgI rfl (z_inc d), trivial⟩
                                | exact ihI (d + 1, mt) _ _ ⟨hd, hX, hM.skip (fun z hz => by have q := hz.2.1; unfold x_op at q; simp [h210] at q)⟩ (by dsimp only; omega) ⟨rfl, rfl, rfl, rfl, rfl, rfl, rfl, z_lgI rfl (z_inc d), trivial⟩
                            · have hE : w_E nD (m_lo M) (m_hi M) (x_op M) d x r := ⟨hd, by unfold x_op; simp [Int32.not_lt.mp h210], hxr⟩
                              have har : a r < 1000000 := by
                                by_cases q : a r < 1000000
                                · exact q
                                · exact absurd ((y_its_lt hW).mpr q) h148
                              obtain ⟨hax, hle⟩ := hW.nb hI hg hE har
                              have hgx := hW.ge hI hax
                              have hgr := hW.ge hI har
                              have hlx := hW.le hax
                              have hlr := hW.le har
                              have hmf := m_f_nI hI hd hE.2.1 (t := a x) (by omega)
                              refine z_iload_n C dL_ways_213 rfl ?_
                              refine z_aload_n C dL_ways_214 rfl ?_
                              refine z_iload_n C dL_ways_215 rfl ?_
                              refine z_iload C dL_ways_216 rfl ?_
                              refine y_callW (As := [.int _, .int _]) C hX rfl (fun T _ => c_X5_way _ _ ad M T hI _ _) (fun T v H' hT hq => y_qS hT hq) (fun q hq => hq) kc_X5_way wb_p568 ⟨by decide, by decide⟩ ⟨Nat.zero_le _, Nat.zero_le _⟩ (Nat.le_of_ble_eq_true rfl) dL_ways_218 (fun H218 hX218 hF218 => ?_)
                              replace hX := hX218
                              rw [y_way_eq hW hI hg hp hx, y_its_yes hax]
                              refine z_iadd C dL_ways_221 ?_
                              refine z_eqst (st2 := [.int (nI (a x))]) (by rw [nI_add, Nat.add_sub_cancel' hgx]) ?_
                              refine z_istore C dL_ways_222 (by decide) ?_
                              refine z_join 248 (m_later (nI (a x)) (M.2 8 d)) ?_ (fun kJ248 => ?_)
                              · refine z_aload_n C dL_ways_248 rfl ?_
                                refine z_iload C dL_ways_249 rfl ?_
                                refine z_iconst (v := 2) C dL_ways_251 (by decide) ?_
                                refine y_callR (As := [.int _, .int _]) C hX rfl (fun T _ => c_X5_door _ _ ad M T hI _ _) kc_X5_door wb_p544 ⟨by decide, by decide⟩ ⟨Nat.zero_le _, Nat.zero_le _⟩ (Nat.le_of_ble_eq_true rfl) dL_ways_252 ?_
                                rw [y_d2 hI hd]
                                refine z_iadd C dL_ways_255 ?_
                                rw [hmf.1]
                                refine z_istore C dL_ways_256 (by decide) ?_
                                refine z_join 277 (z_b (mt || decide (m_f M d (a x) = a r))) ?_ (fun kJ277 => ?_)
                                · refine z_istore C dL_ways_277 (by decide) ?_
                                  refine z_iload C dL_ways_279 rfl ?_
                                  refine z_iload_n C dL_ways_281 rfl ?_
                                  refine z_iload C dL_ways_282 rfl ?_
                                  refine z_iadd C dL_ways_284 ?_
                                  refine z_eqst (st2 := [.int (nI (a r)), .int (nI (m_f M d (a x)))]) (by rw [y_its_yes har, nI_add, Nat.add_sub_cancel' hgr]) ?_
                                  refine z_icmp_ge C 290 dL_ways_285 (by decide) (fun h285 => ?_) (fun h285 => ?_)
                                  · refine z_iinc C dL_ways_290 rfl rfl (by decide) ?_
                                    refine z_goto C 136 dL_ways_293 (by decide) ?_
                                    first
                                      | exact ihI (d + 1, mt || decide (m_f M d (a x) = a r)) _ _ ⟨hd, hX, hM.take hI hE⟩ (by dsimp only; omega) ⟨rfl, rfl, rfl, rfl, rfl, rfl, rfl, z_lgI rfl (z_inc d), trivial⟩
                                      | exact ihI (d + 1, mt) _ _ ⟨hd, hX, hM.skip (y_ot_neg hI hd h200)⟩ (by dsimp only; omega) ⟨rfl, rfl, rfl, rfl, rfl, rfl, rfl, z_lgI rfl (z_inc d), trivial⟩
                                      | exact ihI (d + 1, mt) _ _ ⟨hd, hX, hM.skip (fun z hz => by have q := hz.2.1; unfold x_op at q; simp [h210] at q)⟩ (by dsimp only; omega) ⟨rfl, rfl, rfl, rfl, rfl, rfl, rfl, z_lgI rfl (z_inc d), trivial⟩
                                  · exact absurd ((nI_ltI hmf.2 (by omega)).mp h285) (by omega)
                                · refine z_iload C dL_ways_258 rfl ?_
                                  refine z_ifb_ne C 272 dL_ways_260 (by decide) (fun h260 => ?_) (fun h260 => ?_)
                                  · refine z_iconst (v := 1) C dL_ways_272 (by decide) ?_
                                    refine z_goto C 277 dL_ways_273 (by decide) ?_
                                    exact z_joinE kJ277 (by first | (rw [h260]; rfl) | (have q := (nI_inj (by omega) (by omega)).mp h269; rw [decide_eq_true q, Bool.or_true]; rfl) | (rw [h260, decide_eq_false (fun q => h269 (by rw [q]))]; rfl))
                                  · refine z_iload C dL_ways_263 rfl ?_
                                    refine z_iload_n C dL_ways_265 rfl ?_
                                    refine z_iload C dL_ways_266 rfl ?_
                                    refine z_iadd C dL_ways_268 ?_
                                    refine z_eqst (st2 := [.int (nI (a r)), .int (nI (m_f M d (a x)))]) (by rw [y_its_yes har, nI_add, Nat.add_sub_cancel' hgr]) ?_
                                    refine z_icmp_ne C 276 dL_ways_269 (by decide) (fun h269 => ?_) (fun h269 => ?_)
                                    · refine z_iconst (v := 0) C dL_ways_276 (by decide) ?_
                                      exact z_joinE kJ277 (by first | (rw [h260]; rfl) | (have q := (nI_inj (by omega) (by omega)).mp h269; rw [decide_eq_true q, Bool.or_true]; rfl) | (rw [h260, decide_eq_false (fun q => h269 (by rw [q]))]; rfl))
                                    · refine z_iconst (v := 1) C dL_ways_272 (by decide) ?_
                                      refine z_goto C 277 dL_ways_273 (by decide) ?_
                                      exact z_joinE kJ277 (by first | (rw [h260]; rfl) | (have q := (nI_inj (by omega) (by omega)).mp h269; rw [decide_eq_true q, Bool.or_true]; rfl) | (rw [h260, decide_eq_false (fun q => h269 (by rw [q]))]; rfl))
                              · refine z_iload C dL_ways_224 rfl ?_
                                refine z_aload_n C dL_ways_226 rfl ?_
                                refine z_iload C dL_ways_227 rfl ?_
                                refine z_iconst (v := 5) C dL_ways_229 (by decide) ?_
                                refine y_callR (As := [.int _, .int _]) C hX rfl (fun T _ => c_X5_door _ _ ad M T hI _ _) kc_X5_door wb_p544 ⟨by decide, by decide⟩ ⟨Nat.zero_le _, Nat.zero_le _⟩ (Nat.le_of_ble_eq_true rfl) dL_ways_230 ?_
                                rw [y_d5 hI hd]
                                refine z_icmp_ge C 246 dL_ways_233 (by decide) (fun h233 => ?_) (fun h233 => ?_)
                                · refine z_iload C dL_ways_246 rfl ?_
                                  exact z_joinE kJ248 (by simp [m_later, *])
                                · refine z_aload_n C dL_ways_236 rfl ?_
                                  refine z_iload C dL_ways_237 rfl ?_
                                  refine z_iconst (v := 5) C dL_ways_239 (by decide) ?_
                                  refine y_callR (As := [.int _, .int _]) C hX rfl (fun T _ => c_X5_door _ _ ad M T hI _ _) kc_X5_door wb_p544 ⟨by decide, by decide⟩ ⟨Nat.zero_le _, Nat.zero_le _⟩ (Nat.le_of_ble_eq_true rfl) dL_ways_240 ?_
                                  rw [y_d5 hI hd]
                                  refine z_goto C 248 dL_ways_243 (by decide) ?_
                                  exact z_joinE kJ248 (by simp [m_later, *])
                        · refine z_aload_n C dL_ways_151 rfl ?_
                          refine z_iload C dL_ways_152 rfl ?_
                          refine z_iconst (v := 0) C dL_ways_154 (by decide) ?_
                          refine y_callR (As := [.int _, .int _]) C hX rfl (fun T _ => c_X5_door _ _ ad M T hI _ _) kc_X5_door wb_p544 ⟨by decide, by decide⟩ ⟨Nat.zero_le _, Nat.zero_le _⟩ (Nat.le_of_ble_eq_true rfl) dL_ways_155 ?_
                          rw [y_d0 hI hd]
                          refine z_iload C dL_ways_158 rfl ?_
                          refine z_icmp_ne C 173 dL_ways_160 (by decide) (fun h160 => ?_) (fun h160 => ?_)
                          · have q160 : ¬ m_lo M d = r := fun q => h160 (by rw [q])
                            refine z_aload_n C dL_ways_173 rfl ?_
                            refine z_iload C dL_ways_174 rfl ?_
                            refine z_iconst (v := 1) C dL_ways_176 (by decide) ?_
                            refine y_callR (As := [.int _, .int _]) C hX rfl (fun T _ => c_X5_door _ _ ad M T hI _ _) kc_X5_door wb_p544 ⟨by decide, by decide⟩ ⟨Nat.zero_le _, Nat.zero_le _⟩ (Nat.le_of_ble_eq_true rfl) dL_ways_177 ?_
                            rw [y_d1 hI hd]
                            refine z_iload C dL_ways_180 rfl ?_
                            refine z_icmp_ne C 195 dL_ways_182 (by decide) (fun h182 => ?_) (fun h182 => ?_)
                            · have q182 : ¬ m_hi M d = r := fun q => h182 (by rw [q])
                              refine z_iconst (v := (-1)) C dL_ways_195 (by decide) ?_
                              exact z_joinE kJ196 (by simp [y_ot, *])
                            · have q182 : m_hi M d = r := (nI_inj (by omega) (by omega)).mp h182
                              refine z_aload_n C dL_ways_185 rfl ?_
                              refine z_iload C dL_ways_186 rfl ?_
                              refine z_iconst (v := 0) C dL_ways_188 (by decide) ?_
                              refine y_callR (As := [.int _, .int _]) C hX rfl (fun T _ => c_X5_door _ _ ad M T hI _ _) kc_X5_door wb_p544 ⟨by decide, by decide⟩ ⟨Nat.zero_le _, Nat.zero_le _⟩ (Nat.le_of_ble_eq_true rfl) dL_ways_189 ?_
                              rw [y_d0 hI hd]
                              refine z_goto C 196 dL_ways_192 (by decide) ?_
                              exact z_joinE kJ196 (by simp [y_ot, *])
                          · have q160 : m_lo M d = r := (nI_inj (by omega) (by omega)).mp h160
                            refine z_aload_n C dL_ways_163 rfl ?_
                            refine z_iload C dL_ways_164 rfl ?_
                            refine z_iconst (v := 1) C dL_ways_166 (by decide) ?_
                            refine y_callR (As := [.int _, .int _]) C hX rfl (fun T _ => c_X5_door _ _ ad M T hI _ _) kc_X5_door wb_p544 ⟨by decide, by decide⟩ ⟨Nat.zero_le _, Nat.zero_le _⟩ (Nat.le_of_ble_eq_true rfl) dL_ways_167 ?_
                            rw [y_d1 hI hd]
                            refine z_goto C 196 dL_ways_170 (by decide) ?_
                            exact z_joinE kJ196 (by simp [y_ot, *])
                  · refine z_iload C dL_ways_119 rfl ?_
                    refine z_if_ge C 133 dL_ways_121 (by decide) (fun h121 => ?_) (fun h121 => ?_)
                    · exact kJ133
                    · refine z_iload C dL_ways_124 rfl ?_
                      refine z_bipush (v := (-6)) C dL_ways_126 (by decide) ?_
                      refine z_icmp_eq C 133 dL_ways_128 (by decide) (fun h128 => ?_) (fun h128 => ?_)
                      · exact kJ133
                      · exact absurd (by have q := (y_its_lt hW).mp (by assumption); have q2 := hW.1.1 r; unfold y_its; rw [if_pos (by omega)]) h128
              · refine z_iload_n C dL_ways_102 rfl ?_
                refine z_iload C dL_ways_103 rfl ?_
                refine z_ishr C dL_ways_105 ?_
                refine z_iconst (v := 1) C dL_ways_106 (by decide) ?_
                refine z_iand C dL_ways_107 ?_
                refine z_if_ne C 115 dL_ways_108 (by decide) (fun h108 => ?_) (fun h108 => ?_)
                · refine z_iconst (v := 0) C dL_ways_115 (by decide) ?_
                  exact z_joinE kJ116 (by first | rw [(y_bit0 (by omega)).mp h108]; rfl | (cases q : tb (F_reach M nD (nI g)) r with | true => rfl | false => exact absurd ((y_bit0 (by omega)).mpr q) h108))
                · refine z_iconst (v := 1) C dL_ways_111 (by decide) ?_
                  refine z_goto C 116 dL_ways_112 (by decide) ?_
                  exact z_joinE kJ116 (by first | rw [(y_bit0 (by omega)).mp h108]; rfl | (cases q : tb (F_reach M nD (nI g)) r with | true => rfl | false => exact absurd ((y_bit0 (by omega)).mpr q) h108))
            · refine z_iload C dL_ways_92 rfl ?_
              refine z_if_ge C 101 dL_ways_94 (by decide) (fun h94 => ?_) (fun h94 => ?_)
              · refine z_iconst (v := 0) C dL_ways_101 (by decide) ?_
                exact z_joinE kJ102 (by simp [z_b, *])
              · refine z_iconst (v := 1) C dL_ways_97 (by decide) ?_
                refine z_goto C 102 dL_ways_98 (by decide) ?_
                exact z_joinE kJ102 (by simp [z_b, *])
          · refine z_iload C dL_ways_80 rfl ?_
            refine z_if_ne C 89 dL_ways_82 (by decide) (fun h82 => ?_) (fun h82 => ?_)
            · refine z_iconst (v := 0) C dL_ways_89 (by decide) ?_
              exact z_joinE kJ90 (by simp [z_b, *])
            · refine z_iconst (v := 1) C dL_ways_85 (by decide) ?_
              refine z_goto C 90 dL_ways_86 (by decide) ?_
              exact z_joinE kJ90 (by simp [z_b, *])
      · exact absurd rfl h53
