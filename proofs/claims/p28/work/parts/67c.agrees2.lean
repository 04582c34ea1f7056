/-! the law's agrees: groups -/
set_option maxHeartbeats 4000000 in
set_option maxRecDepth 100000 in
theorem c_L_agrees (l : Launch) (G : z_G) (b0 ax : Nat) (M : m_S) (t4 : Int32) {nR nD nK nG : Nat} (hI : m_I nR nD nK nG M) (hJ : y_J nD nK nG M) (h9 : t4 = m_hints M nG) (hR0 : 0 < nR) : z_M l yL_agrees cL_agrees 13 (some .boolean) 12 8 48 [.ref ax] G (fun H => y_S G b0 ax nR nD nK nG M t4 H) (fun q => b0 ≤ q) (fun v _ H => v = some (.int 1) ∧ y_S G b0 ax nR nD nK nG M t4 H) := by
  refine z_M.of (by decide +kernel) (Nat.le_of_ble_eq_true rfl) ?_
  intro p e s m below meth c C hP
  obtain ⟨ad, rfl, hX, hB⟩ := (hP : y_S G b0 ax nR nD nK nG M t4 s.heap)
  have hs := y_nsm hI
  refine z_iconst (v := 0) C dL_agrees_0 (by decide) ?_
  refine z_istore_n C dL_agrees_1 (by decide) ?_
  refine z_iconst (v := 0) C dL_agrees_2 (by decide) ?_
  refine z_istore_n C dL_agrees_3 (by decide) ?_
  refine z_iconst (v := 0) C dL_agrees_4 (by decide) ?_
  refine z_istore_n C dL_agrees_5 (by decide) ?_
  refine z_bipush (v := (-6)) C dL_agrees_6 (by decide) ?_
  refine z_istore C dL_agrees_8 (by decide) ?_
  refine z_iconst (v := 0) C dL_agrees_10 (by decide) ?_
  refine z_istore C dL_agrees_11 (by decide) ?_
  refine z_iconst (v := 0) C dL_agrees_13 (by decide) ?_
  refine z_istore C dL_agrees_14 (by decide) ?_
  refine z_loopG (fun q : Nat => (q, 6 * q)) (fun q => nG - q) (fun q H1 => q ≤ nG ∧ y_X G ad nR nD nK nG M t4 H1 ∧ y_B G b0 ad nR nD nK nG H1) (fun i => [(0, .ref (ad 4 0)), (1, .int (m_sizes M i 1)), (2, .int (m_sizes M i 0)), (3, .int (m_hints M i)), (4, .int (m_late M i)), (5, .int (F_dead M nD nK i)), (6, .int (nI i))]) 0 ⟨Nat.zero_le _, hX, hB⟩ ⟨rfl, rfl, rfl, rfl, rfl, rfl, rfl, trivial⟩ (fun i H1 hI1 ih => ?_)
  obtain ⟨hi1, hX, hB⟩ := hI1
  dsimp only at ih ⊢
  refine z_iload C dL_agrees_16 rfl ?_
  refine z_aload_n C dL_agrees_18 rfl ?_
  refine z_iconst (v := 3) C dL_agrees_19 (by decide) ?_
  refine y_callR (As := [.int _]) C hX rfl (fun T hT4 => c_X5_countR _ _ ad M T hI _ (by decide) (fun h => absurd h (by decide))) kc_X5_count wb_p434 ⟨by decide, by decide⟩ ⟨by show _ ≤ 8; omega, by show _ ≤ 48; omega⟩ (Nat.le_of_ble_eq_true rfl) dL_agrees_20 ?_
  rw [y_c3 hI]
  refine z_icmp_ge C 361 dL_agrees_23 (by decide) (fun h23 => ?_) (fun h23 => ?_)
  · obtain rfl : nG = i := (z_ge rfl (by omega) hi1 h23).symm
    refine z_widen (k2 := 6) (n2 := 36) (by omega) (by omega) ?_
    refine z_sub [(0, .ref (ad 4 0)), (1, .int (m_sizes M nG 1)), (2, .int (m_sizes M nG 0)), (3, .int (m_hints M nG)), (4, .int (m_late M nG)), (5, .int (F_dead M nD nK nG))] ⟨rfl, rfl, rfl, rfl, rfl, rfl, trivial⟩ (ag_D C hI hJ h9 hX hB (fun H' L' hX hB => ?_))
    refine z_iconst (v := 1) C dL_agrees_925 (by decide) ?_
    refine z_goto C 930 dL_agrees_926 (by decide) ?_
    exact z_bret C (by omega) (by omega) dL_agrees_930 (by rfl) (by exact ⟨rfl, y_S.of hX hB⟩)
  · have hg : i < nG := z_lt rfl (by omega) hi1 h23
    have hsz := y_size hJ hg
    obtain ⟨htm, htl⟩ := y_tmE hI hg
    refine z_aload_n C dL_agrees_26 rfl ?_
    refine z_iload C dL_agrees_27 rfl ?_
    refine z_iconst (v := 5) C dL_agrees_29 (by decide) ?_
    refine y_callR (As := [.int _, .int _]) C hX rfl (fun T _ => c_X5_group _ _ ad M T hI _ _) kc_X5_group wb_p410 ⟨by decide, by decide⟩ ⟨by show _ ≤ 8; omega, by show _ ≤ 48; omega⟩ (Nat.le_of_ble_eq_true rfl) dL_agrees_30 ?_
    rw [y_g5 hI hg]
    refine z_istore C dL_agrees_33 (by decide) ?_
    refine z_iconst (v := 0) C dL_agrees_35 (by decide) ?_
    refine z_istore C dL_agrees_36 (by decide) ?_
    refine z_iconst (v := 0) C dL_agrees_38 (by decide) ?_
    refine z_istore C dL_agrees_39 (by decide) ?_
    refine z_loopN (fun j => [(0, .ref (ad 4 0)), (1, .int (m_sizes M i 1)), (2, .int (m_sizes M i 0)), (3, .int (m_hints M i)), (4, .int (m_late M i)), (5, .int (F_dead M nD nK i)), (6, .int (nI i)), (7, .int (M.2 19 i)), (8, .int (nI (k_n (y_hp M (nI i)) j))), (9, .int (nI j))]) nK ⟨rfl, rfl, rfl, rfl, rfl, rfl, rfl, rfl, rfl, rfl, trivial⟩ (fun j hj1 ihI => ?_)
    refine z_iload C dL_agrees_41 rfl ?_
    refine z_aload_n C dL_agrees_43 rfl ?_
    refine z_iconst (v := 2) C dL_agrees_44 (by decide) ?_
    refine y_callR (As := [.int _]) C hX rfl (fun T hT4 => c_X5_countR _ _ ad M T hI _ (by decide) (fun h => absurd h (by decide))) kc_X5_count wb_p434 ⟨by decide, by decide⟩ ⟨by show _ ≤ 8; omega, by show _ ≤ 48; omega⟩ (Nat.le_of_ble_eq_true rfl) dL_agrees_45 ?_
    rw [y_c2 hI]
    refine z_icmp_ge C 79 dL_agrees_48 (by decide) (fun h48 => ?_) (fun h48 => ?_)
    · obtain rfl : nK = j := (z_ge rfl (by omega) hj1 h48).symm
      refine z_iload_n C dL_agrees_79 rfl ?_
      refine z_join 97 (if M.2 19 i = 1 then M.2 15 i else 0) ?_ (fun kJ97 => ?_)
      · refine z_iadd C dL_agrees_97 ?_
        refine z_eqst (st2 := [.int (m_sizes M (i + 1) 1)]) rfl ?_
        refine z_istore_n C dL_agrees_98 (by decide) ?_
        refine z_iload_n C dL_agrees_99 rfl ?_
        refine z_join 116 (if M.2 19 i = 0 then M.2 15 i else 0) ?_ (fun kJ116 => ?_)
        · refine z_iadd C dL_agrees_116 ?_
          refine z_eqst (st2 := [.int (m_sizes M (i + 1) 0)]) rfl ?_
          refine z_istore_n C dL_agrees_117 (by decide) ?_
          refine z_iload_n C dL_agrees_118 rfl ?_
          refine z_join 136 (if M.2 19 i = 2 then 0 else M.2 18 i) ?_ (fun kJ136 => ?_)
          · refine z_iadd C dL_agrees_136 ?_
            refine z_eqst (st2 := [.int (m_hints M (i + 1))]) rfl ?_
            refine z_istore_n C dL_agrees_137 (by decide) ?_
            refine z_join 168 (m_late M (i + 1)) ?_ (fun kJ168 => ?_)
            · refine z_istore C dL_agrees_168 (by decide) ?_
              refine z_aload_n C dL_agrees_170 rfl ?_
              refine z_iload C dL_agrees_171 rfl ?_
              refine z_iconst (v := 3) C dL_agrees_173 (by decide) ?_
              refine y_callR (As := [.int _, .int _]) C hX rfl (fun T _ => c_X5_group _ _ ad M T hI _ _) kc_X5_group wb_p410 ⟨by decide, by decide⟩ ⟨by show _ ≤ 8; omega, by show _ ≤ 48; omega⟩ (Nat.le_of_ble_eq_true rfl) dL_agrees_174 ?_
              rw [y_g3 hI hg, y_held hI]
              refine z_iload C dL_agrees_177 rfl ?_
              refine z_icmp_ne C 257 dL_agrees_179 (by decide) (fun h179 => ?_) (fun h179 => ?_)
              · exact absurd rfl h179
              · refine z_join 193 (z_b (decide (M.2 19 i = 2))) ?_ (fun kJ193 => ?_)
                · refine z_join 208 (z_b (decide (M.2 15 i = 0))) ?_ (fun kJ208 => ?_)
                  · refine z_icmp_ne C 257 dL_agrees_208 (by decide) (fun h208 => ?_) (fun h208 => ?_)
                    · exact absurd (congrArg z_b (decide_eq_decide.mpr hsz)) h208
                    · refine z_meet 222 (rest := []) ?_ (fun kJ222 => ?_)
                      · refine z_aload_n C dL_agrees_222 rfl ?_
                        refine z_iload C dL_agrees_223 rfl ?_
                        refine z_iconst (v := 2) C dL_agrees_225 (by decide) ?_
                        refine y_callR (As := [.int _, .int _]) C hX rfl (fun T _ => c_X5_group _ _ ad M T hI _ _) kc_X5_group wb_p410 ⟨by decide, by decide⟩ ⟨by show _ ≤ 8; omega, by show _ ≤ 48; omega⟩ (Nat.le_of_ble_eq_true rfl) dL_agrees_226 ?_
                        rw [y_g2 hI hg, htm]
                        refine z_if_lt C 257 dL_agrees_229 (by decide) (fun h229 => ?_) (fun h229 => ?_)
                        · exact absurd h229 (nI_pos (by omega))
                        · refine z_aload_n C dL_agrees_232 rfl ?_
                          refine z_iload C dL_agrees_233 rfl ?_
                          refine z_iconst (v := 2) C dL_agrees_235 (by decide) ?_
                          refine y_callR (As := [.int _, .int _]) C hX rfl (fun T _ => c_X5_group _ _ ad M T hI _ _) kc_X5_group wb_p410 ⟨by decide, by decide⟩ ⟨by show _ ≤ 8; omega, by show _ ≤ 48; omega⟩ (Nat.le_of_ble_eq_true rfl) dL_agrees_236 ?_
                          rw [y_g2 hI hg, htm]
                          refine z_ldc C wb_p533 dL_agrees_239 ?_
                          refine z_icmp_gt C 257 dL_agrees_241 (by decide) (fun h241 => ?_) (fun h241 => ?_)
                          · exact absurd h241 (nI_nlt (a := 100000) htl (by omega))
                          · refine z_aload_n C dL_agrees_244 rfl ?_
                            refine z_iload C dL_agrees_245 rfl ?_
                            refine z_bipush (v := 6) C dL_agrees_247 (by decide) ?_
                            refine y_callR (As := [.int _, .int _]) C hX rfl (fun T _ => c_X5_group _ _ ad M T hI _ _) kc_X5_group wb_p410 ⟨by decide, by decide⟩ ⟨by show _ ≤ 8; omega, by show _ ≤ 48; omega⟩ (Nat.le_of_ble_eq_true rfl) dL_agrees_249 ?_
                            rw [y_g6 hI hg]
                            refine z_bipush (v := (-2)) C dL_agrees_252 (by decide) ?_
                            refine z_icmp_eq C 259 dL_agrees_254 (by decide) (fun h254 => ?_) (fun h254 => ?_)
                            · refine z_iload C dL_agrees_259 rfl ?_
                              refine z_if_ne C 306 dL_agrees_261 (by decide) (fun h261 => ?_) (fun h261 => ?_)
                              · have hp : m_pl M (nI i) = false := by simp [m_pl, y_cg hI hg, h261]
                                refine z_aload_n C dL_agrees_306 rfl ?_
                                refine z_iload C dL_agrees_307 rfl ?_
                                refine z_iconst (v := 0) C dL_agrees_309 (by decide) ?_
                                refine y_callW (As := [.int _, .int _]) C hX rfl (fun T _ => c_X5_plan _ _ ad M T hI _ _) (fun T v H' hT hq => y_qS hT hq) hB.xA kc_X5_plan wb_p534 ⟨by decide, by decide⟩ ⟨by show _ ≤ 8; omega, by show _ ≤ 48; omega⟩ (Nat.le_of_ble_eq_true rfl) dL_agrees_310 (fun H310 hX310 hF310 => ?_)
                                replace hX := hX310
                                replace hB := hB.fr hF310
                                rw [y_plan4 hI hg hp]
                                refine z_bipush (v := (-4)) C dL_agrees_313 (by decide) ?_
                                refine z_icmp_ne C 353 dL_agrees_315 (by decide) (fun h315 => ?_) (fun h315 => ?_)
                                · exact absurd rfl h315
                                · refine z_aload_n C dL_agrees_318 rfl ?_
                                  refine z_iload C dL_agrees_319 rfl ?_
                                  refine y_callR (As := [.int _]) C hX rfl (fun T _ => c_X5_reach _ _ ad M T hI _) kc_X5_reach wb_p563 ⟨by decide, by decide⟩ ⟨by show _ ≤ 8; omega, by show _ ≤ 48; omega⟩ (Nat.le_of_ble_eq_true rfl) dL_agrees_321 ?_
                                  rw [y_reach4 hI hg hp]
                                  refine z_bipush (v := (-4)) C dL_agrees_324 (by decide) ?_
                                  refine z_icmp_ne C 353 dL_agrees_326 (by decide) (fun h326 => ?_) (fun h326 => ?_)
                                  · exact absurd rfl h326
                                  · refine z_aload_n C dL_agrees_329 rfl ?_
                                    refine z_iload C dL_agrees_330 rfl ?_
                                    refine z_iconst (v := 0) C dL_agrees_332 (by decide) ?_
                                    refine y_callW (As := [.int _, .int _]) C hX rfl (fun T _ => c_X5_way _ _ ad M T hI _ _) (fun T v H' hT hq => y_qS hT hq) hB.xA kc_X5_way wb_p568 ⟨by decide, by decide⟩ ⟨by show _ ≤ 8; omega, by show _ ≤ 48; omega⟩ (Nat.le_of_ble_eq_true rfl) dL_agrees_333 (fun H333 hX333 hF333 => ?_)
                                    replace hX := hX333
                                    replace hB := hB.fr hF333
                                    rw [y_way4 hI hg hp hR0]
                                    refine z_bipush (v := (-4)) C dL_agrees_336 (by decide) ?_
                                    refine z_icmp_ne C 353 dL_agrees_338 (by decide) (fun h338 => ?_) (fun h338 => ?_)
                                    · exact absurd rfl h338
                                    · refine z_aload_n C dL_agrees_341 rfl ?_
                                      refine z_iload C dL_agrees_342 rfl ?_
                                      refine z_iconst (v := 0) C dL_agrees_344 (by decide) ?_
                                      refine y_callW (As := [.int _, .int _]) C hX rfl (fun T _ => c_X5_planned _ _ ad M T hI _ _) (fun T v H' hT hq => y_qS hT hq) hB.xA kc_X5_planned wb_p552 ⟨by decide, by decide⟩ ⟨by show _ ≤ 8; omega, by show _ ≤ 48; omega⟩ (Nat.le_of_ble_eq_true rfl) dL_agrees_345 (fun H345 hX345 hF345 => ?_)
                                      replace hX := hX345
                                      replace hB := hB.fr hF345
                                      rw [y_planned4 hI hg hp]
                                      refine z_bipush (v := (-4)) C dL_agrees_348 (by decide) ?_
                                      refine z_icmp_eq C 355 dL_agrees_350 (by decide) (fun h350 => ?_) (fun h350 => ?_)
                                      · refine z_iinc C dL_agrees_355 rfl rfl (by decide) ?_
                                        refine z_goto C 16 dL_agrees_358 (by decide) ?_
                                        refine z_widen (k2 := i + 1) (n2 := 6 * (i + 1)) (by omega) (by omega) ?_
                                        first | exact ih (i + 1) _ _ ⟨hg, hX, hB⟩ (by omega) ⟨rfl, rfl, rfl, rfl, rfl, z_lgI rfl (y_dead_yes hI hg hp h275).symm, z_lgI rfl (z_inc i), trivial⟩ | exact ih (i + 1) _ _ ⟨hg, hX, hB⟩ (by omega) ⟨rfl, rfl, rfl, rfl, rfl, z_lgI rfl (y_dead_no hI hg hp h275).symm, z_lgI rfl (z_inc i), trivial⟩ | exact ih (i + 1) _ _ ⟨hg, hX, hB⟩ (by omega) ⟨rfl, rfl, rfl, rfl, rfl, z_lgI rfl (y_dead_out hp).symm, z_lgI rfl (z_inc i), trivial⟩
                                      · exact absurd rfl h350
                              · have hp : m_pl M (nI i) = true := by simp [m_pl, y_cg hI hg, h261]
                                refine z_iload C dL_agrees_264 rfl ?_
                                refine z_aload_n C dL_agrees_266 rfl ?_
                                refine z_iload C dL_agrees_267 rfl ?_
                                refine z_iconst (v := 0) C dL_agrees_269 (by decide) ?_
                                refine y_callW (As := [.int _, .int _]) C hX rfl (fun T _ => c_X5_plan _ _ ad M T hI _ _) (fun T v H' hT hq => y_qS hT hq) hB.xA kc_X5_plan wb_p534 ⟨by decide, by decide⟩ ⟨by show _ ≤ 8; omega, by show _ ≤ 48; omega⟩ (Nat.le_of_ble_eq_true rfl) dL_agrees_270 (fun H270 hX270 hF270 => ?_)
                                replace hX := hX270
                                replace hB := hB.fr hF270
                                refine z_bipush (v := (-6)) C dL_agrees_273 (by decide) ?_
                                refine z_icmp_ne C 282 dL_agrees_275 (by decide) (fun h275 => ?_) (fun h275 => ?_)
                                · refine z_iconst (v := 0) C dL_agrees_282 (by decide) ?_
                                  refine z_iadd C dL_agrees_283 ?_
                                  refine z_istore C dL_agrees_284 (by decide) ?_
                                  refine z_aload_n C dL_agrees_286 rfl ?_
                                  refine z_iload C dL_agrees_287 rfl ?_
                                  refine z_callS (As := [.ref _, .int _]) C (c_L_plans _ _ ad M t4 _ hI _ hg hp) kc_L_plans wb_p538 ⟨by decide, by decide⟩ ⟨rfl, hX⟩ (fun q hq => hq.elim (hB.xA q) (fun h4 => Nat.le_trans hB.2.2.2.2 h4)) ⟨by show _ ≤ 8; omega, by show _ ≤ 48; omega⟩ (Nat.le_of_ble_eq_true rfl) dL_agrees_289 (fun v H289 hq hz hf => ?_)
                                  obtain ⟨rfl, hX⟩ := hq
                                  replace hB := hB.fr ⟨hz, fun q h1 h2 => hf q h1 (fun h3 => h3.elim h2 (fun h4 => absurd h1 (Nat.not_lt.mpr h4)))⟩
                                  refine z_if_eq C 304 dL_agrees_292 (by decide) (fun h292 => ?_) (fun h292 => ?_)
                                  · exact absurd h292 (by decide)
                                  · refine z_aload_n C dL_agrees_295 rfl ?_
                                    refine z_iload C dL_agrees_296 rfl ?_
                                    refine z_callS (As := [.ref _, .int _]) C (c_L_ways _ _ ad M t4 hI _ hg hp) kc_L_ways wb_p560 ⟨by decide, by decide⟩ hX hB.xA ⟨by show _ ≤ 8; omega, by show _ ≤ 48; omega⟩ (Nat.le_of_ble_eq_true rfl) dL_agrees_298 (fun v H298 hq hz hf => ?_)
                                    obtain ⟨rfl, hX⟩ := hq
                                    replace hB := hB.fr ⟨hz, hf⟩
                                    refine z_if_ne C 355 dL_agrees_301 (by decide) (fun h301 => ?_) (fun h301 => ?_)
                                    · refine z_iinc C dL_agrees_355 rfl rfl (by decide) ?_
                                      refine z_goto C 16 dL_agrees_358 (by decide) ?_
                                      refine z_widen (k2 := i + 1) (n2 := 6 * (i + 1)) (by omega) (by omega) ?_
                                      first | exact ih (i + 1) _ _ ⟨hg, hX, hB⟩ (by omega) ⟨rfl, rfl, rfl, rfl, rfl, z_lgI rfl (y_dead_yes hI hg hp h275).symm, z_lgI rfl (z_inc i), trivial⟩ | exact ih (i + 1) _ _ ⟨hg, hX, hB⟩ (by omega) ⟨rfl, rfl, rfl, rfl, rfl, z_lgI rfl (y_dead_no hI hg hp h275).symm, z_lgI rfl (z_inc i), trivial⟩ | exact ih (i + 1) _ _ ⟨hg, hX, hB⟩ (by omega) ⟨rfl, rfl, rfl, rfl, rfl, z_lgI rfl (y_dead_out hp).symm, z_lgI rfl (z_inc i), trivial⟩
                                    · exact absurd h301 (by decide)
                                · refine z_iconst (v := 1) C dL_agrees_278 (by decide) ?_
                                  refine z_goto C 283 dL_agrees_279 (by decide) ?_
                                  refine z_iadd C dL_agrees_283 ?_
                                  refine z_istore C dL_agrees_284 (by decide) ?_
                                  refine z_aload_n C dL_agrees_286 rfl ?_
                                  refine z_iload C dL_agrees_287 rfl ?_
                                  refine z_callS (As := [.ref _, .int _]) C (c_L_plans _ _ ad M t4 _ hI _ hg hp) kc_L_plans wb_p538 ⟨by decide, by decide⟩ ⟨rfl, hX⟩ (fun q hq => hq.elim (hB.xA q) (fun h4 => Nat.le_trans hB.2.2.2.2 h4)) ⟨by show _ ≤ 8; omega, by show _ ≤ 48; omega⟩ (Nat.le_of_ble_eq_true rfl) dL_agrees_289 (fun v H289 hq hz hf => ?_)
                                  obtain ⟨rfl, hX⟩ := hq
                                  replace hB := hB.fr ⟨hz, fun q h1 h2 => hf q h1 (fun h3 => h3.elim h2 (fun h4 => absurd h1 (Nat.not_lt.mpr h4)))⟩
                                  refine z_if_eq C 304 dL_agrees_292 (by decide) (fun h292 => ?_) (fun h292 => ?_)
                                  · exact absurd h292 (by decide)
                                  · refine z_aload_n C dL_agrees_295 rfl ?_
                                    refine z_iload C dL_agrees_296 rfl ?_
                                    refine z_callS (As := [.ref _, .int _]) C (c_L_ways _ _ ad M t4 hI _ hg hp) kc_L_ways wb_p560 ⟨by decide, by decide⟩ hX hB.xA ⟨by show _ ≤ 8; omega, by show _ ≤ 48; omega⟩ (Nat.le_of_ble_eq_true rfl) dL_agrees_298 (fun v H298 hq hz hf => ?_)
                                    obtain ⟨rfl, hX⟩ := hq
                                    replace hB := hB.fr ⟨hz, hf⟩
                                    refine z_if_ne C 355 dL_agrees_301 (by decide) (fun h301 => ?_) (fun h301 => ?_)
                                    · refine z_iinc C dL_agrees_355 rfl rfl (by decide) ?_
                                      refine z_goto C 16 dL_agrees_358 (by decide) ?_
                                      refine z_widen (k2 := i + 1) (n2 := 6 * (i + 1)) (by omega) (by omega) ?_
                                      first | exact ih (i + 1) _ _ ⟨hg, hX, hB⟩ (by omega) ⟨rfl, rfl, rfl, rfl, rfl, z_lgI rfl (y_dead_yes hI hg hp h275).symm, z_lgI rfl (z_inc i), trivial⟩ | exact ih (i + 1) _ _ ⟨hg, hX, hB⟩ (by omega) ⟨rfl, rfl, rfl, rfl, rfl, z_lgI rfl (y_dead_no hI hg hp h275).symm, z_lgI rfl (z_inc i), trivial⟩ | exact ih (i + 1) _ _ ⟨hg, hX, hB⟩ (by omega) ⟨rfl, rfl, rfl, rfl, rfl, z_lgI rfl (y_dead_out hp).symm, z_lgI rfl (z_inc i), trivial⟩
                                    · exact absurd h301 (by decide)
                            · exact absurd rfl h254
                      · refine z_iload C dL_agrees_211 rfl ?_
                        refine z_iconst (v := 2) C dL_agrees_213 (by decide) ?_
                        refine z_icmp_ne C 222 dL_agrees_214 (by decide) (fun h214 => ?_) (fun h214 => ?_)
                        · exact kJ222
                        · refine z_iload C dL_agrees_217 rfl ?_
                          refine z_if_gt C 257 dL_agrees_219 (by decide) (fun h219 => ?_) (fun h219 => ?_)
                          · exact absurd h219 (by rw [y_held0 hI hJ hg h214]; decide)
                          · exact kJ222
                  · refine z_aload_n C dL_agrees_193 rfl ?_
                    refine z_iload C dL_agrees_194 rfl ?_
                    refine z_iconst (v := 0) C dL_agrees_196 (by decide) ?_
                    refine y_callR (As := [.int _, .int _]) C hX rfl (fun T _ => c_X5_group _ _ ad M T hI _ _) kc_X5_group wb_p410 ⟨by decide, by decide⟩ ⟨by show _ ≤ 8; omega, by show _ ≤ 48; omega⟩ (Nat.le_of_ble_eq_true rfl) dL_agrees_197 ?_
                    rw [y_g0 hI hg]
                    refine z_if_ne C 207 dL_agrees_200 (by decide) (fun h200 => ?_) (fun h200 => ?_)
                    · refine z_iconst (v := 0) C dL_agrees_207 (by decide) ?_
                      exact z_joinE kJ208 (by first | (rw [decide_eq_false h200]; rfl) | (rw [decide_eq_true h200]; rfl))
                    · refine z_iconst (v := 1) C dL_agrees_203 (by decide) ?_
                      refine z_goto C 208 dL_agrees_204 (by decide) ?_
                      exact z_joinE kJ208 (by first | (rw [decide_eq_false h200]; rfl) | (rw [decide_eq_true h200]; rfl))
                · refine z_iload C dL_agrees_182 rfl ?_
                  refine z_iconst (v := 2) C dL_agrees_184 (by decide) ?_
                  refine z_icmp_ne C 192 dL_agrees_185 (by decide) (fun h185 => ?_) (fun h185 => ?_)
                  · refine z_iconst (v := 0) C dL_agrees_192 (by decide) ?_
                    exact z_joinE kJ193 (by first | (rw [decide_eq_false h185]; rfl) | (rw [decide_eq_true h185]; rfl))
                  · refine z_iconst (v := 1) C dL_agrees_188 (by decide) ?_
                    refine z_goto C 193 dL_agrees_189 (by decide) ?_
                    exact z_joinE kJ193 (by first | (rw [decide_eq_false h185]; rfl) | (rw [decide_eq_true h185]; rfl))
            · refine z_iload C dL_agrees_138 rfl ?_
              refine z_iconst (v := 1) C dL_agrees_140 (by decide) ?_
              refine z_icmp_ne C 166 dL_agrees_141 (by decide) (fun h141 => ?_) (fun h141 => ?_)
              · refine z_iload C dL_agrees_166 rfl ?_
                exact z_joinE kJ168 (by show _ = (if M.2 19 i = 1 ∧ m_late M i < M.2 17 i then M.2 17 i else m_late M i); first | exact (if_pos (And.intro h141 h153)).symm | exact (if_neg (fun q => h153 q.2)).symm | exact (if_neg (fun q => h141 q.1)).symm)
              · refine z_aload_n C dL_agrees_144 rfl ?_
                refine z_iload C dL_agrees_145 rfl ?_
                refine z_iconst (v := 2) C dL_agrees_147 (by decide) ?_
                refine y_callR (As := [.int _, .int _]) C hX rfl (fun T _ => c_X5_group _ _ ad M T hI _ _) kc_X5_group wb_p410 ⟨by decide, by decide⟩ ⟨by show _ ≤ 8; omega, by show _ ≤ 48; omega⟩ (Nat.le_of_ble_eq_true rfl) dL_agrees_148 ?_
                rw [y_g2 hI hg]
                refine z_iload C dL_agrees_151 rfl ?_
                refine z_icmp_le C 166 dL_agrees_153 (by decide) (fun h153 => ?_) (fun h153 => ?_)
                · refine z_iload C dL_agrees_166 rfl ?_
                  exact z_joinE kJ168 (by show _ = (if M.2 19 i = 1 ∧ m_late M i < M.2 17 i then M.2 17 i else m_late M i); first | exact (if_pos (And.intro h141 h153)).symm | exact (if_neg (fun q => h153 q.2)).symm | exact (if_neg (fun q => h141 q.1)).symm)
                · refine z_aload_n C dL_agrees_156 rfl ?_
                  refine z_iload C dL_agrees_157 rfl ?_
                  refine z_iconst (v := 2) C dL_agrees_159 (by decide) ?_
                  refine y_callR (As := [.int _, .int _]) C hX rfl (fun T _ => c_X5_group _ _ ad M T hI _ _) kc_X5_group wb_p410 ⟨by decide, by decide⟩ ⟨by show _ ≤ 8; omega, by show _ ≤ 48; omega⟩ (Nat.le_of_ble_eq_true rfl) dL_agrees_160 ?_
                  rw [y_g2 hI hg]
                  refine z_goto C 168 dL_agrees_163 (by decide) ?_
                  exact z_joinE kJ168 (by show _ = (if M.2 19 i = 1 ∧ m_late M i < M.2 17 i then M.2 17 i else m_late M i); first | exact (if_pos (And.intro h141 h153)).symm | exact (if_neg (fun q => h153 q.2)).symm | exact (if_neg (fun q => h141 q.1)).symm)
          · refine z_iload C dL_agrees_119 rfl ?_
            refine z_iconst (v := 2) C dL_agrees_121 (by decide) ?_
            refine z_icmp_ne C 129 dL_agrees_122 (by decide) (fun h122 => ?_) (fun h122 => ?_)
            · refine z_aload_n C dL_agrees_129 rfl ?_
              refine z_iload C dL_agrees_130 rfl ?_
              refine z_iconst (v := 4) C dL_agrees_132 (by decide) ?_
              refine y_callR (As := [.int _, .int _]) C hX rfl (fun T _ => c_X5_group _ _ ad M T hI _ _) kc_X5_group wb_p410 ⟨by decide, by decide⟩ ⟨by show _ ≤ 8; omega, by show _ ≤ 48; omega⟩ (Nat.le_of_ble_eq_true rfl) dL_agrees_133 ?_
              rw [y_g4 hI hg]
              exact z_joinE kJ136 (by first | rw [if_pos h122] | rw [if_neg h122])
            · refine z_iconst (v := 0) C dL_agrees_125 (by decide) ?_
              refine z_goto C 136 dL_agrees_126 (by decide) ?_
              exact z_joinE kJ136 (by first | rw [if_pos h122] | rw [if_neg h122])
        · refine z_iload C dL_agrees_100 rfl ?_
          refine z_if_ne C 115 dL_agrees_102 (by decide) (fun h102 => ?_) (fun h102 => ?_)
          · refine z_iconst (v := 0) C dL_agrees_115 (by decide) ?_
            exact z_joinE kJ116 (by simp [*])
          · refine z_aload_n C dL_agrees_105 rfl ?_
            refine z_iload C dL_agrees_106 rfl ?_
            refine z_iconst (v := 0) C dL_agrees_108 (by decide) ?_
            refine y_callR (As := [.int _, .int _]) C hX rfl (fun T _ => c_X5_group _ _ ad M T hI _ _) kc_X5_group wb_p410 ⟨by decide, by decide⟩ ⟨by show _ ≤ 8; omega, by show _ ≤ 48; omega⟩ (Nat.le_of_ble_eq_true rfl) dL_agrees_109 ?_
            rw [y_g0 hI hg]
            refine z_goto C 116 dL_agrees_112 (by decide) ?_
            exact z_joinE kJ116 (by simp [*])
      · refine z_iload C dL_agrees_80 rfl ?_
        refine z_iconst (v := 1) C dL_agrees_82 (by decide) ?_
        refine z_icmp_ne C 96 dL_agrees_83 (by decide) (fun h83 => ?_) (fun h83 => ?_)
        · refine z_iconst (v := 0) C dL_agrees_96 (by decide) ?_
          exact z_joinE kJ97 (by simp [*])
        · refine z_aload_n C dL_agrees_86 rfl ?_
          refine z_iload C dL_agrees_87 rfl ?_
          refine z_iconst (v := 0) C dL_agrees_89 (by decide) ?_
          refine y_callR (As := [.int _, .int _]) C hX rfl (fun T _ => c_X5_group _ _ ad M T hI _ _) kc_X5_group wb_p410 ⟨by decide, by decide⟩ ⟨by show _ ≤ 8; omega, by show _ ≤ 48; omega⟩ (Nat.le_of_ble_eq_true rfl) dL_agrees_90 ?_
          rw [y_g0 hI hg]
          refine z_goto C 97 dL_agrees_93 (by decide) ?_
          exact z_joinE kJ97 (by simp [*])
    · have hk : j < nK := z_lt rfl (by omega) hj1 h48
      refine z_iload C dL_agrees_51 rfl ?_
      refine z_join 70 (z_b (y_hp M (nI i) j)) ?_ (fun kJ70 => ?_)
      · refine z_iadd C dL_agrees_70 ?_
        refine z_eqst (st2 := [.int (nI (k_n (y_hp M (nI i)) (j + 1)))]) (y_cntE _ _) ?_
        refine z_istore C dL_agrees_71 (by decide) ?_
        refine z_iinc C dL_agrees_73 rfl rfl (by decide) ?_
        refine z_goto C 41 dL_agrees_76 (by decide) ?_
        exact ihI hk _ ⟨rfl, rfl, rfl, rfl, rfl, rfl, rfl, rfl, rfl, z_lgI rfl (z_inc j), trivial⟩
      · refine z_aload_n C dL_agrees_53 rfl ?_
        refine z_iload C dL_agrees_54 rfl ?_
        refine z_iconst (v := 3) C dL_agrees_56 (by decide) ?_
        refine y_callR (As := [.int _, .int _]) C hX rfl (fun T _ => c_X5_key _ _ ad M T hI _ _) kc_X5_key wb_p525 ⟨by decide, by decide⟩ ⟨by show _ ≤ 8; omega, by show _ ≤ 48; omega⟩ (Nat.le_of_ble_eq_true rfl) dL_agrees_57 ?_
        rw [y_k3 hI hk]
        refine z_iload C dL_agrees_60 rfl ?_
        refine z_icmp_ne C 69 dL_agrees_62 (by decide) (fun h62 => ?_) (fun h62 => ?_)
        · refine z_iconst (v := 0) C dL_agrees_69 (by decide) ?_
          exact z_joinE kJ70 (by first | (rw [(y_hpI (by omega)).mp h62]; rfl) | (rw [Bool.eq_false_iff.mpr (fun q => h62 ((y_hpI (by omega)).mpr q))]; rfl))
        · refine z_iconst (v := 1) C dL_agrees_65 (by decide) ?_
          refine z_goto C 70 dL_agrees_66 (by decide) ?_
          exact z_joinE kJ70 (by first | (rw [(y_hpI (by omega)).mp h62]; rfl) | (rw [Bool.eq_false_iff.mpr (fun q => h62 ((y_hpI (by omega)).mpr q))]; rfl))
