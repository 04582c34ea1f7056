/-! the law's parts -/
section YPD
variable {nR nD nK nG g : Nat} {M : m_S} {z : Int32}
theorem y_pd1 (hI : m_I nR nD nK nG M) (hg : g < nG) (hz : m_in z 1 23 = true) (h : m_pl M (nI g) = false) : (-4 : Int32) = (F_part M (nI g) z).1 := by rw [y_part_eq hI hg hz, h]; rfl
theorem y_pd2 (hI : m_I nR nD nK nG M) (hg : g < nG) (hz : m_in z 1 23 = true) (h : m_pl M (nI g) = true) (h5 : ¬ z < M.2 15 g) : (-4 : Int32) = (F_part M (nI g) z).1 := by rw [y_part_eq hI hg hz, h, decide_eq_false h5]; rfl
theorem y_pd3 (hI : m_I nR nD nK nG M) (hg : g < nG) (hz : m_in z 1 23 = true) (h : m_pl M (nI g) = true) (h5 : z < M.2 15 g) (h6 : nI nG = 6) : (-3 : Int32) = (F_part M (nI g) z).1 := by rw [y_part_eq hI hg hz, h, decide_eq_true h5, if_neg (by decide), if_pos (hI.1.2.2.2.1.trans h6)]
theorem y_pd4 (hI : m_I nR nD nK nG M) (hg : g < nG) (hz : m_in z 1 23 = true) (h : m_pl M (nI g) = true) (h5 : z < M.2 15 g) (h6 : ¬ nI nG = 6) : nI nG = (F_part M (nI g) z).1 := by
  rw [y_part_eq hI hg hz, h, decide_eq_true h5, if_neg (by decide), if_neg (fun q => h6 (hI.1.2.2.2.1.symm.trans q))]
  show nI nG = M.1 14 + 1 - 1
  rw [hI.1.2.2.2.1]
  exact (Int32.add_sub_cancel _ 1).symm
end YPD
set_option maxHeartbeats 4000000 in
set_option maxRecDepth 100000 in
theorem c_L_parts (l : Launch) (G : z_G) (b0 ax : Nat) (M : m_S) (t4 : Int32) {nR nD nK nG n : Nat} (hI : m_I nR nD nK nG M) (hJ : y_J nD nK nG M) (hH : m_Hn M nG n) (ht : t4 = nI n) (g : Nat) (hg : g < nG) (hh : Int32) : z_M l yL_parts cL_parts 13 (some .boolean) 9 6 102 [.ref ax, .int (nI g), .int hh] G (fun H => y_S G b0 ax nR nD nK nG M t4 H) (fun q => b0 ≤ q) (fun v _ H => v = some (.int 1) ∧ y_End G b0 ax nR nD nK nG n (M.1 20) (M.1 21) H) := by
  refine z_M.of (by decide +kernel) (Nat.le_of_ble_eq_true rfl) ?_
  intro p e s m below meth c C hP
  obtain ⟨ad, hax, hX, hB⟩ := (hP : y_S G b0 ax nR nD nK nG M t4 s.heap)
  have hs := y_nsm hI
  refine z_aload_n C dL_parts_0 rfl ?_
  refine z_iconst (v := 3) C dL_parts_1 (by decide) ?_
  refine y_callR (As := [.int _]) C hX hax (fun T hT4 => c_X5_countR _ _ ad M T hI _ (by decide) (fun h => absurd h (by decide))) kc_X5_count wb_p434 ⟨by decide, by decide⟩ ⟨Nat.le_of_ble_eq_true rfl, Nat.le_of_ble_eq_true rfl⟩ (Nat.le_of_ble_eq_true rfl) dL_parts_2 ?_
  rw [y_c3 hI]
  refine z_istore_n C dL_parts_5 (by decide) ?_
  refine z_aload_n C dL_parts_6 rfl ?_
  refine z_iload_n C dL_parts_7 rfl ?_
  refine z_iconst (v := 0) C dL_parts_8 (by decide) ?_
  refine y_callR (As := [.int _, .int _]) C hX hax (fun T _ => c_X5_group _ _ ad M T hI _ _) kc_X5_group wb_p410 ⟨by decide, by decide⟩ ⟨Nat.le_of_ble_eq_true rfl, Nat.le_of_ble_eq_true rfl⟩ (Nat.le_of_ble_eq_true rfl) dL_parts_9 ?_
  rw [y_g0 hI hg]
  refine z_istore C dL_parts_12 (by decide) ?_
  refine z_iconst (v := 1) C dL_parts_14 (by decide) ?_
  refine z_iload_n C dL_parts_15 rfl ?_
  refine z_bipush (v := 6) C dL_parts_16 (by decide) ?_
  refine z_callSR (As := [.int _, .int _]) C (c_L_low _ _ _ _ (by decide)) kc_L_low wb_p518 ⟨by decide, by decide⟩ trivial ⟨Nat.le_of_ble_eq_true rfl, Nat.le_of_ble_eq_true rfl⟩ (Nat.le_of_ble_eq_true rfl) dL_parts_18 ?_
  obtain ⟨j, hj, ej⟩ := y_low_lt (v := hh) (n := 6) (by omega) (by omega)
  have hin : m_in (nI (1 + j)) 1 23 = true := m_in_iff.mpr ⟨nI_nlt (b := 1) (by omega) (by omega), nI_nlt (a := 23) (by omega) (by omega)⟩
  refine z_iadd C dL_parts_21 ?_
  refine z_eqst (st2 := [.int (nI (1 + j))]) (by rw [show y_low hh 6 = nI j from ej, ← nI_add]; rfl) ?_
  refine z_istore C dL_parts_22 (by decide) ?_
  refine z_join 38 (z_b (m_pl M (nI g))) ?_ (fun kJ38 => ?_)
  · refine z_istore C dL_parts_38 (by decide) ?_
    refine z_iload_n C dL_parts_40 rfl ?_
    refine z_iconst (v := 1) C dL_parts_41 (by decide) ?_
    refine z_iand C dL_parts_42 ?_
    refine z_if_ne C 217 dL_parts_43 (by decide) (fun h43 => ?_) (fun h43 => ?_)
    · refine z_iload_n C dL_parts_217 rfl ?_
      refine z_iconst (v := 1) C dL_parts_218 (by decide) ?_
      refine z_ishr C dL_parts_219 ?_
      refine z_iload_n C dL_parts_220 rfl ?_
      refine z_callSR (As := [.int _, .int _]) C (c_L_low _ _ _ _ (nI_ne0 (by omega) (by omega))) kc_L_low wb_p518 ⟨by decide, by decide⟩ trivial ⟨Nat.le_of_ble_eq_true rfl, Nat.le_of_ble_eq_true rfl⟩ (Nat.le_of_ble_eq_true rfl) dL_parts_221 ?_
      obtain ⟨o, ho, eo⟩ := y_low_lt (v := hh >>> (1 &&& 31)) (n := nG) (by omega) (by omega)
      rw [eo]
      refine z_istore C dL_parts_224 (by decide) ?_
      refine z_iload C dL_parts_226 rfl ?_
      refine z_iload_n C dL_parts_228 rfl ?_
      refine z_icmp_ne C 249 dL_parts_229 (by decide) (fun h229 => ?_) (fun h229 => ?_)
      · have hne : ¬ g = o := fun q => h229 (by rw [q])
        refine z_iload C dL_parts_249 rfl ?_
        refine z_aload_n C dL_parts_251 rfl ?_
        refine z_iload C dL_parts_252 rfl ?_
        refine z_iconst (v := 0) C dL_parts_254 (by decide) ?_
        refine y_callR (As := [.int _, .int _]) C hX hax (fun T _ => c_X5_group _ _ ad M T hI _ _) kc_X5_group wb_p410 ⟨by decide, by decide⟩ ⟨Nat.le_of_ble_eq_true rfl, Nat.le_of_ble_eq_true rfl⟩ (Nat.le_of_ble_eq_true rfl) dL_parts_255 ?_
        rw [y_g0 hI ho]
        refine z_iadd C dL_parts_258 ?_
        refine z_istore C dL_parts_259 (by decide) ?_
        refine z_join 293 (m_later (M.2 17 o) (M.2 17 g)) ?_ (fun kJ293 => ?_)
        · refine z_istore C dL_parts_293 (by decide) ?_
          refine z_aload_n C dL_parts_295 rfl ?_
          refine z_iload_n C dL_parts_296 rfl ?_
          refine z_iconst (v := 3) C dL_parts_297 (by decide) ?_
          refine y_callR (As := [.int _, .int _]) C hX hax (fun T _ => c_X5_group _ _ ad M T hI _ _) kc_X5_group wb_p410 ⟨by decide, by decide⟩ ⟨Nat.le_of_ble_eq_true rfl, Nat.le_of_ble_eq_true rfl⟩ (Nat.le_of_ble_eq_true rfl) dL_parts_298 ?_
          rw [y_g3 hI hg]
          refine z_aload_n C dL_parts_301 rfl ?_
          refine z_iload C dL_parts_302 rfl ?_
          refine z_iconst (v := 3) C dL_parts_304 (by decide) ?_
          refine y_callR (As := [.int _, .int _]) C hX hax (fun T _ => c_X5_group _ _ ad M T hI _ _) kc_X5_group wb_p410 ⟨by decide, by decide⟩ ⟨Nat.le_of_ble_eq_true rfl, Nat.le_of_ble_eq_true rfl⟩ (Nat.le_of_ble_eq_true rfl) dL_parts_305 ?_
          rw [y_g3 hI ho]
          refine z_iadd C dL_parts_308 ?_
          refine z_istore C dL_parts_309 (by decide) ?_
          refine z_aload_n C dL_parts_311 rfl ?_
          refine z_iload_n C dL_parts_312 rfl ?_
          refine z_iconst (v := 4) C dL_parts_313 (by decide) ?_
          refine y_callR (As := [.int _, .int _]) C hX hax (fun T _ => c_X5_group _ _ ad M T hI _ _) kc_X5_group wb_p410 ⟨by decide, by decide⟩ ⟨Nat.le_of_ble_eq_true rfl, Nat.le_of_ble_eq_true rfl⟩ (Nat.le_of_ble_eq_true rfl) dL_parts_314 ?_
          rw [y_g4 hI hg]
          refine z_aload_n C dL_parts_317 rfl ?_
          refine z_iload C dL_parts_318 rfl ?_
          refine z_iconst (v := 4) C dL_parts_320 (by decide) ?_
          refine y_callR (As := [.int _, .int _]) C hX hax (fun T _ => c_X5_group _ _ ad M T hI _ _) kc_X5_group wb_p410 ⟨by decide, by decide⟩ ⟨Nat.le_of_ble_eq_true rfl, Nat.le_of_ble_eq_true rfl⟩ (Nat.le_of_ble_eq_true rfl) dL_parts_321 ?_
          rw [y_g4 hI ho]
          refine z_iadd C dL_parts_324 ?_
          refine z_istore C dL_parts_325 (by decide) ?_
          refine z_join 363 (z_b (y_jnB M g o)) ?_ (fun kJ363 => ?_)
          · refine z_istore C dL_parts_363 (by decide) ?_
            refine z_aload_n C dL_parts_365 rfl ?_
            refine z_iload_n C dL_parts_366 rfl ?_
            refine z_iload C dL_parts_367 rfl ?_
            refine y_callW (As := [.int _, .int _]) C hX hax (fun T _ => c_X5_join _ _ ad M T hI _ _) (fun T v H' hT hq => y_qW hT hq) hB.xA kc_X5_join wb_p648 ⟨by decide, by decide⟩ ⟨Nat.le_of_ble_eq_true rfl, Nat.le_of_ble_eq_true rfl⟩ (Nat.le_of_ble_eq_true rfl) dL_parts_369 (fun H369 hX369 hF369 => ?_)
            replace hX := hX369
            replace hB := hB.fr hF369
            have hI2 := m_I_join hI (nI g) (nI o)
            refine z_iload C dL_parts_372 rfl ?_
            refine z_ifb_eq C 382 dL_parts_374 (by decide) (fun h374 => ?_) (fun h374 => ?_)
            · refine z_bipush (v := (-4)) C dL_parts_382 (by decide) ?_
              refine z_icmp_eq C 389 dL_parts_384 (by decide) (fun h384 => ?_) (fun h384 => ?_)
              · refine z_iload C dL_parts_389 rfl ?_
                refine z_ifb_eq C 449 dL_parts_391 (by decide) (fun h391 => ?_) (fun h391 => ?_)
                · refine z_iconst (v := 1) C dL_parts_449 (by decide) ?_
                  refine z_goto C 454 dL_parts_450 (by decide) ?_
                  exact z_bret C (by omega) (by omega) dL_parts_454 (by rfl) (by exact ⟨rfl, y_End.g ⟨ad, hax, hX, hB⟩ (m_I_join hI _ _) (y_Nx.of (m_I_join hI _ _) (y_J_join hI hJ hg ho)) (lw_hh hI (Nat.le_refl _) ht (hn_join hI hH).1 (hn_join (g := nI g) (o := nI o) hI hH).2) (by rw [b_join]) (by rw [b_join])⟩)
                · have hj2 : (F_join M nK (nI g) (nI o)).2 = y_jn M nK g o := by rw [y_join_eq hI hg ho hne, if_pos h391]
                  have hI3 := hI2
                  rw [hj2] at hI3
                  have hhl := y_jn_held hI hI3 hg ho hne
                  refine z_aload_n C dL_parts_394 rfl ?_
                  refine z_iload_n C dL_parts_395 rfl ?_
                  refine z_iconst (v := 5) C dL_parts_396 (by decide) ?_
                  refine y_callR (As := [.int _, .int _]) C hX hax (fun T _ => c_X5_group _ _ ad (F_join M nK (nI g) (nI o)).2 T hI2 _ _) kc_X5_group wb_p410 ⟨by decide, by decide⟩ ⟨Nat.le_of_ble_eq_true rfl, Nat.le_of_ble_eq_true rfl⟩ (Nat.le_of_ble_eq_true rfl) dL_parts_397 ?_
                  rw [y_g5 hI2 hg]
                  refine z_iconst (v := 2) C dL_parts_400 (by decide) ?_
                  refine z_icmp_ne C 453 dL_parts_401 (by decide) (fun h401 => ?_) (fun h401 => ?_)
                  · exact absurd (by rw [hj2, y_jn19 (by omega), if_pos rfl]) h401
                  · refine z_aload_n C dL_parts_404 rfl ?_
                    refine z_iload_n C dL_parts_405 rfl ?_
                    refine z_iconst (v := 3) C dL_parts_406 (by decide) ?_
                    refine y_callR (As := [.int _, .int _]) C hX hax (fun T _ => c_X5_group _ _ ad (F_join M nK (nI g) (nI o)).2 T hI2 _ _) kc_X5_group wb_p410 ⟨by decide, by decide⟩ ⟨Nat.le_of_ble_eq_true rfl, Nat.le_of_ble_eq_true rfl⟩ (Nat.le_of_ble_eq_true rfl) dL_parts_407 ?_
                    rw [y_g3 hI2 hg]
                    refine z_if_ne C 453 dL_parts_410 (by decide) (fun h410 => ?_) (fun h410 => ?_)
                    · exact absurd (by rw [hj2]; exact hhl.2) h410
                    · refine z_aload_n C dL_parts_413 rfl ?_
                      refine z_iload C dL_parts_414 rfl ?_
                      refine z_iconst (v := 2) C dL_parts_416 (by decide) ?_
                      refine y_callR (As := [.int _, .int _]) C hX hax (fun T _ => c_X5_group _ _ ad (F_join M nK (nI g) (nI o)).2 T hI2 _ _) kc_X5_group wb_p410 ⟨by decide, by decide⟩ ⟨Nat.le_of_ble_eq_true rfl, Nat.le_of_ble_eq_true rfl⟩ (Nat.le_of_ble_eq_true rfl) dL_parts_417 ?_
                      rw [y_g2 hI2 ho]
                      refine z_iload C dL_parts_420 rfl ?_
                      refine z_icmp_ne C 453 dL_parts_422 (by decide) (fun h422 => ?_) (fun h422 => ?_)
                      · exact absurd (by rw [hj2]; exact y_jn17 (by omega) (by omega)) h422
                      · refine z_aload_n C dL_parts_425 rfl ?_
                        refine z_iload C dL_parts_426 rfl ?_
                        refine z_iconst (v := 3) C dL_parts_428 (by decide) ?_
                        refine y_callR (As := [.int _, .int _]) C hX hax (fun T _ => c_X5_group _ _ ad (F_join M nK (nI g) (nI o)).2 T hI2 _ _) kc_X5_group wb_p410 ⟨by decide, by decide⟩ ⟨Nat.le_of_ble_eq_true rfl, Nat.le_of_ble_eq_true rfl⟩ (Nat.le_of_ble_eq_true rfl) dL_parts_429 ?_
                        rw [y_g3 hI2 ho]
                        refine z_iload C dL_parts_432 rfl ?_
                        refine z_icmp_ne C 453 dL_parts_434 (by decide) (fun h434 => ?_) (fun h434 => ?_)
                        · exact absurd (by rw [hj2]; exact hhl.1) h434
                        · refine z_aload_n C dL_parts_437 rfl ?_
                          refine z_iload C dL_parts_438 rfl ?_
                          refine z_iconst (v := 4) C dL_parts_440 (by decide) ?_
                          refine y_callR (As := [.int _, .int _]) C hX hax (fun T _ => c_X5_group _ _ ad (F_join M nK (nI g) (nI o)).2 T hI2 _ _) kc_X5_group wb_p410 ⟨by decide, by decide⟩ ⟨Nat.le_of_ble_eq_true rfl, Nat.le_of_ble_eq_true rfl⟩ (Nat.le_of_ble_eq_true rfl) dL_parts_441 ?_
                          rw [y_g4 hI2 ho]
                          refine z_iload C dL_parts_444 rfl ?_
                          refine z_icmp_ne C 453 dL_parts_446 (by decide) (fun h446 => ?_) (fun h446 => ?_)
                          · exact absurd (by rw [hj2, y_jn18 (by omega) (by omega)]; exact Int32.add_comm _ _) h446
                          · refine z_iconst (v := 1) C dL_parts_449 (by decide) ?_
                            refine z_goto C 454 dL_parts_450 (by decide) ?_
                            exact z_bret C (by omega) (by omega) dL_parts_454 (by rfl) (by exact ⟨rfl, y_End.g ⟨ad, hax, hX, hB⟩ (m_I_join hI _ _) (y_Nx.of (m_I_join hI _ _) (y_J_join hI hJ hg ho)) (lw_hh hI (Nat.le_refl _) ht (hn_join hI hH).1 (hn_join (g := nI g) (o := nI o) hI hH).2) (by rw [b_join]) (by rw [b_join])⟩)
              · first | exact absurd (by rw [y_join_eq hI hg ho hne, if_pos h374]; exact Int32.add_comm _ _) h384 | exact absurd (by rw [y_join_eq hI hg ho hne, if_neg (by rw [h374]; decide)]) h384
            · refine z_iload C dL_parts_377 rfl ?_
              refine z_goto C 384 dL_parts_379 (by decide) ?_
              refine z_icmp_eq C 389 dL_parts_384 (by decide) (fun h384 => ?_) (fun h384 => ?_)
              · refine z_iload C dL_parts_389 rfl ?_
                refine z_ifb_eq C 449 dL_parts_391 (by decide) (fun h391 => ?_) (fun h391 => ?_)
                · refine z_iconst (v := 1) C dL_parts_449 (by decide) ?_
                  refine z_goto C 454 dL_parts_450 (by decide) ?_
                  exact z_bret C (by omega) (by omega) dL_parts_454 (by rfl) (by exact ⟨rfl, y_End.g ⟨ad, hax, hX, hB⟩ (m_I_join hI _ _) (y_Nx.of (m_I_join hI _ _) (y_J_join hI hJ hg ho)) (lw_hh hI (Nat.le_refl _) ht (hn_join hI hH).1 (hn_join (g := nI g) (o := nI o) hI hH).2) (by rw [b_join]) (by rw [b_join])⟩)
                · have hj2 : (F_join M nK (nI g) (nI o)).2 = y_jn M nK g o := by rw [y_join_eq hI hg ho hne, if_pos h391]
                  have hI3 := hI2
                  rw [hj2] at hI3
                  have hhl := y_jn_held hI hI3 hg ho hne
                  refine z_aload_n C dL_parts_394 rfl ?_
                  refine z_iload_n C dL_parts_395 rfl ?_
                  refine z_iconst (v := 5) C dL_parts_396 (by decide) ?_
                  refine y_callR (As := [.int _, .int _]) C hX hax (fun T _ => c_X5_group _ _ ad (F_join M nK (nI g) (nI o)).2 T hI2 _ _) kc_X5_group wb_p410 ⟨by decide, by decide⟩ ⟨Nat.le_of_ble_eq_true rfl, Nat.le_of_ble_eq_true rfl⟩ (Nat.le_of_ble_eq_true rfl) dL_parts_397 ?_
                  rw [y_g5 hI2 hg]
                  refine z_iconst (v := 2) C dL_parts_400 (by decide) ?_
                  refine z_icmp_ne C 453 dL_parts_401 (by decide) (fun h401 => ?_) (fun h401 => ?_)
                  · exact absurd (by rw [hj2, y_jn19 (by omega), if_pos rfl]) h401
                  · refine z_aload_n C dL_parts_404 rfl ?_
                    refine z_iload_n C dL_parts_405 rfl ?_
                    refine z_iconst (v := 3) C dL_parts_406 (by decide) ?_
                    refine y_callR (As := [.int _, .int _]) C hX hax (fun T _ => c_X5_group _ _ ad (F_join M nK (nI g) (nI o)).2 T hI2 _ _) kc_X5_group wb_p410 ⟨by decide, by decide⟩ ⟨Nat.le_of_ble_eq_true rfl, Nat.le_of_ble_eq_true rfl⟩ (Nat.le_of_ble_eq_true rfl) dL_parts_407 ?_
                    rw [y_g3 hI2 hg]
                    refine z_if_ne C 453 dL_parts_410 (by decide) (fun h410 => ?_) (fun h410 => ?_)
                    · exact absurd (by rw [hj2]; exact hhl.2) h410
                    · refine z_aload_n C dL_parts_413 rfl ?_
                      refine z_iload C dL_parts_414 rfl ?_
                      refine z_iconst (v := 2) C dL_parts_416 (by decide) ?_
                      refine y_callR (As := [.int _, .int _]) C hX hax (fun T _ => c_X5_group _ _ ad (F_join M nK (nI g) (nI o)).2 T hI2 _ _) kc_X5_group wb_p410 ⟨by decide, by decide⟩ ⟨Nat.le_of_ble_eq_true rfl, Nat.le_of_ble_eq_true rfl⟩ (Nat.le_of_ble_eq_true rfl) dL_parts_417 ?_
                      rw [y_g2 hI2 ho]
                      refine z_iload C dL_parts_420 rfl ?_
                      refine z_icmp_ne C 453 dL_parts_422 (by decide) (fun h422 => ?_) (fun h422 => ?_)
                      · exact absurd (by rw [hj2]; exact y_jn17 (by omega) (by omega)) h422
                      · refine z_aload_n C dL_parts_425 rfl ?_
                        refine z_iload C dL_parts_426 rfl ?_
                        refine z_iconst (v := 3) C dL_parts_428 (by decide) ?_
                        refine y_callR (As := [.int _, .int _]) C hX hax (fun T _ => c_X5_group _ _ ad (F_join M nK (nI g) (nI o)).2 T hI2 _ _) kc_X5_group wb_p410 ⟨by decide, by decide⟩ ⟨Nat.le_of_ble_eq_true rfl, Nat.le_of_ble_eq_true rfl⟩ (Nat.le_of_ble_eq_true rfl) dL_parts_429 ?_
                        rw [y_g3 hI2 ho]
                        refine z_iload C dL_parts_432 rfl ?_
                        refine z_icmp_ne C 453 dL_parts_434 (by decide) (fun h434 => ?_) (fun h434 => ?_)
                        · exact absurd (by rw [hj2]; exact hhl.1) h434
                        · refine z_aload_n C dL_parts_437 rfl ?_
                          refine z_iload C dL_parts_438 rfl ?_
                          refine z_iconst (v := 4) C dL_parts_440 (by decide) ?_
                          refine y_callR (As := [.int _, .int _]) C hX hax (fun T _ => c_X5_group _ _ ad (F_join M nK (nI g) (nI o)).2 T hI2 _ _) kc_X5_group wb_p410 ⟨by decide, by decide⟩ ⟨Nat.le_of_ble_eq_true rfl, Nat.le_of_ble_eq_true rfl⟩ (Nat.le_of_ble_eq_true rfl) dL_parts_441 ?_
                          rw [y_g4 hI2 ho]
                          refine z_iload C dL_parts_444 rfl ?_
                          refine z_icmp_ne C 453 dL_parts_446 (by decide) (fun h446 => ?_) (fun h446 => ?_)
                          · exact absurd (by rw [hj2, y_jn18 (by omega) (by omega)]; exact Int32.add_comm _ _) h446
                          · refine z_iconst (v := 1) C dL_parts_449 (by decide) ?_
                            refine z_goto C 454 dL_parts_450 (by decide) ?_
                            exact z_bret C (by omega) (by omega) dL_parts_454 (by rfl) (by exact ⟨rfl, y_End.g ⟨ad, hax, hX, hB⟩ (m_I_join hI _ _) (y_Nx.of (m_I_join hI _ _) (y_J_join hI hJ hg ho)) (lw_hh hI (Nat.le_refl _) ht (hn_join hI hH).1 (hn_join (g := nI g) (o := nI o) hI hH).2) (by rw [b_join]) (by rw [b_join])⟩)
              · first | exact absurd (by rw [y_join_eq hI hg ho hne, if_pos h374]; exact Int32.add_comm _ _) h384 | exact absurd (by rw [y_join_eq hI hg ho hne, if_neg (by rw [h374]; decide)]) h384
          · refine z_iload C dL_parts_327 rfl ?_
            refine z_ifb_eq C 362 dL_parts_329 (by decide) (fun h329 => ?_) (fun h329 => ?_)
            · refine z_iconst (v := 0) C dL_parts_362 (by decide) ?_
              exact z_joinE kJ363 (by simp [z_b, y_jnB, *])
            · refine z_aload_n C dL_parts_332 rfl ?_
              refine z_iload C dL_parts_333 rfl ?_
              refine z_iconst (v := 5) C dL_parts_335 (by decide) ?_
              refine y_callR (As := [.int _, .int _]) C hX hax (fun T _ => c_X5_group _ _ ad M T hI _ _) kc_X5_group wb_p410 ⟨by decide, by decide⟩ ⟨Nat.le_of_ble_eq_true rfl, Nat.le_of_ble_eq_true rfl⟩ (Nat.le_of_ble_eq_true rfl) dL_parts_336 ?_
              rw [y_g5 hI ho]
              refine z_if_ne C 362 dL_parts_339 (by decide) (fun h339 => ?_) (fun h339 => ?_)
              · have q339 : m_pl M (nI o) = false := by simp [m_pl, y_cg hI ho, h339]
                refine z_iconst (v := 0) C dL_parts_362 (by decide) ?_
                exact z_joinE kJ363 (by simp [z_b, y_jnB, *])
              · have q339 : m_pl M (nI o) = true := by simp [m_pl, y_cg hI ho, h339]
                refine z_aload_n C dL_parts_342 rfl ?_
                refine z_iload_n C dL_parts_343 rfl ?_
                refine z_iconst (v := 1) C dL_parts_344 (by decide) ?_
                refine y_callR (As := [.int _, .int _]) C hX hax (fun T _ => c_X5_group _ _ ad M T hI _ _) kc_X5_group wb_p410 ⟨by decide, by decide⟩ ⟨Nat.le_of_ble_eq_true rfl, Nat.le_of_ble_eq_true rfl⟩ (Nat.le_of_ble_eq_true rfl) dL_parts_345 ?_
                rw [y_g1 hI hg]
                refine z_aload_n C dL_parts_348 rfl ?_
                refine z_iload C dL_parts_349 rfl ?_
                refine z_iconst (v := 1) C dL_parts_351 (by decide) ?_
                refine y_callR (As := [.int _, .int _]) C hX hax (fun T _ => c_X5_group _ _ ad M T hI _ _) kc_X5_group wb_p410 ⟨by decide, by decide⟩ ⟨Nat.le_of_ble_eq_true rfl, Nat.le_of_ble_eq_true rfl⟩ (Nat.le_of_ble_eq_true rfl) dL_parts_352 ?_
                rw [y_g1 hI ho]
                refine z_icmp_ne C 362 dL_parts_355 (by decide) (fun h355 => ?_) (fun h355 => ?_)
                · refine z_iconst (v := 0) C dL_parts_362 (by decide) ?_
                  exact z_joinE kJ363 (by simp [z_b, y_jnB, *])
                · refine z_iconst (v := 1) C dL_parts_358 (by decide) ?_
                  refine z_goto C 363 dL_parts_359 (by decide) ?_
                  exact z_joinE kJ363 (by simp [z_b, y_jnB, *])
        · refine z_aload_n C dL_parts_261 rfl ?_
          refine z_iload_n C dL_parts_262 rfl ?_
          refine z_iconst (v := 2) C dL_parts_263 (by decide) ?_
          refine y_callR (As := [.int _, .int _]) C hX hax (fun T _ => c_X5_group _ _ ad M T hI _ _) kc_X5_group wb_p410 ⟨by decide, by decide⟩ ⟨Nat.le_of_ble_eq_true rfl, Nat.le_of_ble_eq_true rfl⟩ (Nat.le_of_ble_eq_true rfl) dL_parts_264 ?_
          rw [y_g2 hI hg]
          refine z_aload_n C dL_parts_267 rfl ?_
          refine z_iload C dL_parts_268 rfl ?_
          refine z_iconst (v := 2) C dL_parts_270 (by decide) ?_
          refine y_callR (As := [.int _, .int _]) C hX hax (fun T _ => c_X5_group _ _ ad M T hI _ _) kc_X5_group wb_p410 ⟨by decide, by decide⟩ ⟨Nat.le_of_ble_eq_true rfl, Nat.le_of_ble_eq_true rfl⟩ (Nat.le_of_ble_eq_true rfl) dL_parts_271 ?_
          rw [y_g2 hI ho]
          refine z_icmp_le C 286 dL_parts_274 (by decide) (fun h274 => ?_) (fun h274 => ?_)
          · refine z_aload_n C dL_parts_286 rfl ?_
            refine z_iload C dL_parts_287 rfl ?_
            refine z_iconst (v := 2) C dL_parts_289 (by decide) ?_
            refine y_callR (As := [.int _, .int _]) C hX hax (fun T _ => c_X5_group _ _ ad M T hI _ _) kc_X5_group wb_p410 ⟨by decide, by decide⟩ ⟨Nat.le_of_ble_eq_true rfl, Nat.le_of_ble_eq_true rfl⟩ (Nat.le_of_ble_eq_true rfl) dL_parts_290 ?_
            rw [y_g2 hI ho]
            exact z_joinE kJ293 (by simp [m_later, *])
          · refine z_aload_n C dL_parts_277 rfl ?_
            refine z_iload_n C dL_parts_278 rfl ?_
            refine z_iconst (v := 2) C dL_parts_279 (by decide) ?_
            refine y_callR (As := [.int _, .int _]) C hX hax (fun T _ => c_X5_group _ _ ad M T hI _ _) kc_X5_group wb_p410 ⟨by decide, by decide⟩ ⟨Nat.le_of_ble_eq_true rfl, Nat.le_of_ble_eq_true rfl⟩ (Nat.le_of_ble_eq_true rfl) dL_parts_280 ?_
            rw [y_g2 hI hg]
            refine z_goto C 293 dL_parts_283 (by decide) ?_
            exact z_joinE kJ293 (by simp [m_later, *])
      · have hne : g = o := ((nI_inj (by omega) (by omega)).mp h229).symm
        subst hne
        refine z_aload_n C dL_parts_232 rfl ?_
        refine z_iload_n C dL_parts_233 rfl ?_
        refine z_iload_n C dL_parts_234 rfl ?_
        refine y_callW (As := [.int _, .int _]) C hX hax (fun T _ => c_X5_join _ _ ad M T hI _ _) (fun T v H' hT hq => y_qW hT hq) hB.xA kc_X5_join wb_p648 ⟨by decide, by decide⟩ ⟨Nat.le_of_ble_eq_true rfl, Nat.le_of_ble_eq_true rfl⟩ (Nat.le_of_ble_eq_true rfl) dL_parts_235 (fun H235 hX235 hF235 => ?_)
        replace hX := hX235
        replace hB := hB.fr hF235
        refine z_bipush (v := (-2)) C dL_parts_238 (by decide) ?_
        refine z_icmp_ne C 247 dL_parts_240 (by decide) (fun h240 => ?_) (fun h240 => ?_)
        · exact absurd (by rw [y_join_self hI hg]) h240
        · refine z_iconst (v := 1) C dL_parts_243 (by decide) ?_
          refine z_goto C 248 dL_parts_244 (by decide) ?_
          exact z_bret C (by omega) (by omega) dL_parts_248 (by rfl) (by exact ⟨rfl, y_End.g ⟨ad, hax, hX, hB⟩ (m_I_join hI _ _) (y_Nx.of (m_I_join hI _ _) (y_J_join hI hJ hg hg)) (lw_hh hI (Nat.le_refl _) ht (hn_join hI hH).1 (hn_join (g := nI g) (o := nI g) hI hH).2) (by rw [b_join]) (by rw [b_join])⟩)
    · refine z_join 75 ((F_part M (nI g) (nI (1 + j))).1) ?_ (fun kJ75 => ?_)
      · refine z_istore C dL_parts_75 (by decide) ?_
        refine z_aload_n C dL_parts_77 rfl ?_
        refine z_iload_n C dL_parts_78 rfl ?_
        refine z_iload C dL_parts_79 rfl ?_
        refine y_callG (As := [.int _, .int _]) C hX hax hB (fun T _ hO => c_X5_part _ _ ad M T hI _ hO (nI g) (nI (1 + j))) (fun q hq => hq) kc_X5_part wb_p644 ⟨by decide, by decide⟩ ⟨Nat.le_of_ble_eq_true rfl, Nat.le_of_ble_eq_true rfl⟩ (Nat.le_of_ble_eq_true rfl) dL_parts_81 (fun H81 ad nR2 nD2 nK2 nG2 hax hX hI2 hB => ?_)
        have hN := y_N_part hI hJ hg (j := 1 + j) (by omega) (by omega)
        obtain ⟨hJ2, e2, hD2, hK2, hG2⟩ := hN _ _ _ _ hI2
        have hg2 : g < nG2 := by omega
        have hs2 := y_nsm hI2
        refine z_iload C dL_parts_84 rfl ?_
        refine z_icmp_ne C 112 dL_parts_86 (by decide) (fun h86 => ?_) (fun h86 => ?_)
        · exact absurd rfl h86
        · refine z_aload_n C dL_parts_89 rfl ?_
          refine z_iload_n C dL_parts_90 rfl ?_
          refine z_iconst (v := 0) C dL_parts_91 (by decide) ?_
          refine y_callG0 (val := .int (-2)) (As := [.int _, .int _]) C hX hax hB hI2 (fun T _ hO => by have h := (fun sz : Nat => c_X5_part l G ad _ T hI2 sz hO (nI g) 0); simp only [y_part_no (z := 0) hI2 hg2 rfl] at h; exact h _) (fun q hq => hq) kc_X5_part wb_p644 ⟨by decide, by decide⟩ ⟨Nat.le_of_ble_eq_true rfl, Nat.le_of_ble_eq_true rfl⟩ (Nat.le_of_ble_eq_true rfl) dL_parts_92 (fun H92 ad hax hX hB => ?_)
          refine z_bipush (v := (-2)) C dL_parts_95 (by decide) ?_
          refine z_icmp_ne C 112 dL_parts_97 (by decide) (fun h97 => ?_) (fun h97 => ?_)
          · exact absurd rfl h97
          · refine z_aload_n C dL_parts_100 rfl ?_
            refine z_iload_n C dL_parts_101 rfl ?_
            refine z_bipush (v := 24) C dL_parts_102 (by decide) ?_
            refine y_callG0 (val := .int (-2)) (As := [.int _, .int _]) C hX hax hB hI2 (fun T _ hO => by have h := (fun sz : Nat => c_X5_part l G ad _ T hI2 sz hO (nI g) 24); simp only [y_part_no (z := 24) hI2 hg2 rfl] at h; exact h _) (fun q hq => hq) kc_X5_part wb_p644 ⟨by decide, by decide⟩ ⟨Nat.le_of_ble_eq_true rfl, Nat.le_of_ble_eq_true rfl⟩ (Nat.le_of_ble_eq_true rfl) dL_parts_104 (fun H104 ad hax hX hB => ?_)
            refine z_bipush (v := (-2)) C dL_parts_107 (by decide) ?_
            refine z_icmp_eq C 114 dL_parts_109 (by decide) (fun h109 => ?_) (fun h109 => ?_)
            · refine z_iload C dL_parts_114 rfl ?_
              refine z_if_ge C 138 dL_parts_116 (by decide) (fun h116 => ?_) (fun h116 => ?_)
              · have hpos := y_part_pos hI hg hin h116
                obtain ⟨p14, p15, p15n, p16, p17, p18, p11, p12⟩ := y_part_rows hI hg hpos
                have hnG : nG2 = nG + 1 := (nI_inj (by omega) (by omega)).mp (hI2.1.2.2.2.1.symm.trans p14)
                have hn2 : nG < nG2 := by omega
                have hnK : nK2 = nK := (nI_inj (by omega) (by omega)).mp (hI2.1.2.2.1.1.symm.trans ((by rw [hpos]; rfl : (F_part M (nI g) (nI (1 + j))).2.1 9 = M.1 9).trans hI.1.2.2.1.1))
                refine z_aload_n C dL_parts_138 rfl ?_
                refine z_iload_n C dL_parts_139 rfl ?_
                refine z_iconst (v := 0) C dL_parts_140 (by decide) ?_
                refine y_callR (As := [.int _, .int _]) C hX hax (fun T _ => c_X5_group _ _ ad (F_part M (nI g) (nI (1 + j))).2 T hI2 _ _) kc_X5_group wb_p410 ⟨by decide, by decide⟩ ⟨Nat.le_of_ble_eq_true rfl, Nat.le_of_ble_eq_true rfl⟩ (Nat.le_of_ble_eq_true rfl) dL_parts_141 ?_
                rw [y_g0 hI2 hg2]
                refine z_iload C dL_parts_144 rfl ?_
                refine z_iload C dL_parts_146 rfl ?_
                refine z_isub C dL_parts_148 ?_
                refine z_icmp_ne C 215 dL_parts_149 (by decide) (fun h149 => ?_) (fun h149 => ?_)
                · exact absurd p15 h149
                · refine z_aload_n C dL_parts_152 rfl ?_
                  refine z_iload_n C dL_parts_153 rfl ?_
                  refine z_iconst (v := 0) C dL_parts_154 (by decide) ?_
                  refine y_callR (As := [.int _, .int _]) C hX hax (fun T _ => c_X5_group _ _ ad (F_part M (nI g) (nI (1 + j))).2 T hI2 _ _) kc_X5_group wb_p410 ⟨by decide, by decide⟩ ⟨Nat.le_of_ble_eq_true rfl, Nat.le_of_ble_eq_true rfl⟩ (Nat.le_of_ble_eq_true rfl) dL_parts_155 ?_
                  rw [y_g0 hI2 hn2]
                  refine z_iload C dL_parts_158 rfl ?_
                  refine z_icmp_ne C 215 dL_parts_160 (by decide) (fun h160 => ?_) (fun h160 => ?_)
                  · exact absurd p15n h160
                  · refine z_aload_n C dL_parts_163 rfl ?_
                    refine z_iload_n C dL_parts_164 rfl ?_
                    refine z_iconst (v := 1) C dL_parts_165 (by decide) ?_
                    refine y_callR (As := [.int _, .int _]) C hX hax (fun T _ => c_X5_group _ _ ad (F_part M (nI g) (nI (1 + j))).2 T hI2 _ _) kc_X5_group wb_p410 ⟨by decide, by decide⟩ ⟨Nat.le_of_ble_eq_true rfl, Nat.le_of_ble_eq_true rfl⟩ (Nat.le_of_ble_eq_true rfl) dL_parts_166 ?_
                    rw [y_g1 hI2 hn2]
                    refine z_aload_n C dL_parts_169 rfl ?_
                    refine z_iload_n C dL_parts_170 rfl ?_
                    refine z_iconst (v := 1) C dL_parts_171 (by decide) ?_
                    refine y_callR (As := [.int _, .int _]) C hX hax (fun T _ => c_X5_group _ _ ad (F_part M (nI g) (nI (1 + j))).2 T hI2 _ _) kc_X5_group wb_p410 ⟨by decide, by decide⟩ ⟨Nat.le_of_ble_eq_true rfl, Nat.le_of_ble_eq_true rfl⟩ (Nat.le_of_ble_eq_true rfl) dL_parts_172 ?_
                    rw [y_g1 hI2 hg2]
                    refine z_icmp_ne C 215 dL_parts_175 (by decide) (fun h175 => ?_) (fun h175 => ?_)
                    · exact absurd p16 h175
                    · refine z_aload_n C dL_parts_178 rfl ?_
                      refine z_iload_n C dL_parts_179 rfl ?_
                      refine z_iconst (v := 2) C dL_parts_180 (by decide) ?_
                      refine y_callR (As := [.int _, .int _]) C hX hax (fun T _ => c_X5_group _ _ ad (F_part M (nI g) (nI (1 + j))).2 T hI2 _ _) kc_X5_group wb_p410 ⟨by decide, by decide⟩ ⟨Nat.le_of_ble_eq_true rfl, Nat.le_of_ble_eq_true rfl⟩ (Nat.le_of_ble_eq_true rfl) dL_parts_181 ?_
                      rw [y_g2 hI2 hn2]
                      refine z_aload_n C dL_parts_184 rfl ?_
                      refine z_iload_n C dL_parts_185 rfl ?_
                      refine z_iconst (v := 2) C dL_parts_186 (by decide) ?_
                      refine y_callR (As := [.int _, .int _]) C hX hax (fun T _ => c_X5_group _ _ ad (F_part M (nI g) (nI (1 + j))).2 T hI2 _ _) kc_X5_group wb_p410 ⟨by decide, by decide⟩ ⟨Nat.le_of_ble_eq_true rfl, Nat.le_of_ble_eq_true rfl⟩ (Nat.le_of_ble_eq_true rfl) dL_parts_187 ?_
                      rw [y_g2 hI2 hg2]
                      refine z_icmp_ne C 215 dL_parts_190 (by decide) (fun h190 => ?_) (fun h190 => ?_)
                      · exact absurd p17 h190
                      · refine z_aload_n C dL_parts_193 rfl ?_
                        refine z_iload_n C dL_parts_194 rfl ?_
                        refine z_iconst (v := 3) C dL_parts_195 (by decide) ?_
                        refine y_callR (As := [.int _, .int _]) C hX hax (fun T _ => c_X5_group _ _ ad (F_part M (nI g) (nI (1 + j))).2 T hI2 _ _) kc_X5_group wb_p410 ⟨by decide, by decide⟩ ⟨Nat.le_of_ble_eq_true rfl, Nat.le_of_ble_eq_true rfl⟩ (Nat.le_of_ble_eq_true rfl) dL_parts_196 ?_
                        rw [y_g3 hI2 hn2]
                        refine z_if_ne C 215 dL_parts_199 (by decide) (fun h199 => ?_) (fun h199 => ?_)
                        · exact absurd (y_held_new hI hI2 hnK p11 p12) h199
                        · refine z_aload_n C dL_parts_202 rfl ?_
                          refine z_iload_n C dL_parts_203 rfl ?_
                          refine z_iconst (v := 4) C dL_parts_204 (by decide) ?_
                          refine y_callR (As := [.int _, .int _]) C hX hax (fun T _ => c_X5_group _ _ ad (F_part M (nI g) (nI (1 + j))).2 T hI2 _ _) kc_X5_group wb_p410 ⟨by decide, by decide⟩ ⟨Nat.le_of_ble_eq_true rfl, Nat.le_of_ble_eq_true rfl⟩ (Nat.le_of_ble_eq_true rfl) dL_parts_205 ?_
                          rw [y_g4 hI2 hn2]
                          refine z_if_ne C 215 dL_parts_208 (by decide) (fun h208 => ?_) (fun h208 => ?_)
                          · exact absurd p18 h208
                          · refine z_iconst (v := 1) C dL_parts_211 (by decide) ?_
                            refine z_goto C 216 dL_parts_212 (by decide) ?_
                            exact z_bret C (by omega) (by omega) dL_parts_216 (by rfl) (by exact ⟨rfl, y_End.g ⟨ad, hax, hX, hB⟩ hI2 hN (hh_part hI hH (Nat.le_refl _) ht) (b_part (by omega)) (b_part (by omega))⟩)
              · refine z_aload_n C dL_parts_119 rfl ?_
                refine z_iload_n C dL_parts_120 rfl ?_
                refine z_iconst (v := 0) C dL_parts_121 (by decide) ?_
                refine y_callR (As := [.int _, .int _]) C hX hax (fun T _ => c_X5_group _ _ ad (F_part M (nI g) (nI (1 + j))).2 T hI2 _ _) kc_X5_group wb_p410 ⟨by decide, by decide⟩ ⟨Nat.le_of_ble_eq_true rfl, Nat.le_of_ble_eq_true rfl⟩ (Nat.le_of_ble_eq_true rfl) dL_parts_122 ?_
                rw [y_g0 hI2 hg2]
                refine z_iload C dL_parts_125 rfl ?_
                refine z_icmp_ne C 134 dL_parts_127 (by decide) (fun h127 => ?_) (fun h127 => ?_)
                · exact absurd (congrArg (fun z => z.2 15 g) (y_part_neg hI hg hin h116)) h127
                · refine z_iconst (v := 1) C dL_parts_130 (by decide) ?_
                  refine z_goto C 216 dL_parts_131 (by decide) ?_
                  exact z_bret C (by omega) (by omega) dL_parts_216 (by rfl) (by exact ⟨rfl, y_End.g ⟨ad, hax, hX, hB⟩ hI2 hN (hh_part hI hH (Nat.le_refl _) ht) (b_part (by omega)) (b_part (by omega))⟩)
            · exact absurd rfl h109
      · refine z_iload C dL_parts_46 rfl ?_
        refine z_ifb_eq C 58 dL_parts_48 (by decide) (fun h48 => ?_) (fun h48 => ?_)
        · refine z_bipush (v := (-4)) C dL_parts_58 (by decide) ?_
          refine z_goto C 75 dL_parts_60 (by decide) ?_
          exact z_joinE kJ75 (by first | exact y_pd1 hI hg hin h48 | exact y_pd2 hI hg hin h48 h55 | exact y_pd3 hI hg hin h48 h55 h66 | exact y_pd4 hI hg hin h48 h55 h66)
        · refine z_iload C dL_parts_51 rfl ?_
          refine z_iload C dL_parts_53 rfl ?_
          refine z_icmp_gt C 63 dL_parts_55 (by decide) (fun h55 => ?_) (fun h55 => ?_)
          · refine z_iload_n C dL_parts_63 rfl ?_
            refine z_bipush (v := 6) C dL_parts_64 (by decide) ?_
            refine z_icmp_ne C 74 dL_parts_66 (by decide) (fun h66 => ?_) (fun h66 => ?_)
            · refine z_iload_n C dL_parts_74 rfl ?_
              exact z_joinE kJ75 (by first | exact y_pd1 hI hg hin h48 | exact y_pd2 hI hg hin h48 h55 | exact y_pd3 hI hg hin h48 h55 h66 | exact y_pd4 hI hg hin h48 h55 h66)
            · refine z_bipush (v := (-3)) C dL_parts_69 (by decide) ?_
              refine z_goto C 75 dL_parts_71 (by decide) ?_
              exact z_joinE kJ75 (by first | exact y_pd1 hI hg hin h48 | exact y_pd2 hI hg hin h48 h55 | exact y_pd3 hI hg hin h48 h55 h66 | exact y_pd4 hI hg hin h48 h55 h66)
          · refine z_bipush (v := (-4)) C dL_parts_58 (by decide) ?_
            refine z_goto C 75 dL_parts_60 (by decide) ?_
            exact z_joinE kJ75 (by first | exact y_pd1 hI hg hin h48 | exact y_pd2 hI hg hin h48 h55 | exact y_pd3 hI hg hin h48 h55 h66 | exact y_pd4 hI hg hin h48 h55 h66)
  · refine z_aload_n C dL_parts_24 rfl ?_
    refine z_iload_n C dL_parts_25 rfl ?_
    refine z_iconst (v := 5) C dL_parts_26 (by decide) ?_
    refine y_callR (As := [.int _, .int _]) C hX hax (fun T _ => c_X5_group _ _ ad M T hI _ _) kc_X5_group wb_p410 ⟨by decide, by decide⟩ ⟨Nat.le_of_ble_eq_true rfl, Nat.le_of_ble_eq_true rfl⟩ (Nat.le_of_ble_eq_true rfl) dL_parts_27 ?_
    rw [y_g5 hI hg]
    refine z_if_ne C 37 dL_parts_30 (by decide) (fun h30 => ?_) (fun h30 => ?_)
    · refine z_iconst (v := 0) C dL_parts_37 (by decide) ?_
      exact z_joinE kJ38 (by simp [z_b, m_pl, y_cg hI hg, *])
    · refine z_iconst (v := 1) C dL_parts_33 (by decide) ?_
      refine z_goto C 38 dL_parts_34 (by decide) ?_
      exact z_joinE kJ38 (by simp [z_b, m_pl, y_cg hI hg, *])
