/-! the law's plans -/
set_option maxHeartbeats 4000000 in
set_option maxRecDepth 100000 in
theorem c_L_plansN (l : Launch) (G : z_G) (ad : Nat → Nat → Nat) (M : m_S) (t4 : Int32) (sz : Nat) {nR nD nK nG : Nat} (hI : m_I nR nD nK nG M) (g : Nat) (hg : g < nG) (hp : m_pl M (nI g) = true) (hb : k_best M nD nK (nI g) = none) : z_M l yL_plans cL_plans 16 (some .boolean) 8 1 6 [.ref (ad 4 0), .int (nI g)] G (fun H => H.size = sz ∧ y_X G ad nR nD nK nG M t4 H) (fun q => x_A ad nR nD nK nG q ∨ sz ≤ q) (fun v _ H => v = some (.int 1) ∧ y_X G ad nR nD nK nG M t4 H) := by
  refine z_M.of (by decide +kernel) (Nat.le_of_ble_eq_true rfl) ?_
  intro p e s m below meth c C hP
  obtain ⟨hsz, hX⟩ := (hP : s.heap.size = sz ∧ y_X G ad nR nD nK nG M t4 s.heap)
  have hs := y_nsm hI
  obtain ⟨hrm, hr0⟩ := y_rmE hI hg
  rw [← y_pR0 hI hg] at hr0
  refine z_aload_n C dL_plans_0 rfl ?_
  refine z_iconst (v := 4) C dL_plans_1 (by decide) ?_
  refine y_callR (As := [.int _]) C hX rfl (fun T hT4 => c_X5_countR _ _ ad M T hI _ (by decide) (fun h => absurd h (by decide))) kc_X5_count wb_p434 ⟨by decide, by decide⟩ ⟨Nat.le_of_ble_eq_true rfl, Nat.le_of_ble_eq_true rfl⟩ (Nat.le_of_ble_eq_true rfl) dL_plans_2 ?_
  rw [y_c4 hI]
  refine z_istore_n C dL_plans_5 (by decide) ?_
  refine z_aload_n C dL_plans_6 rfl ?_
  refine z_iload_n C dL_plans_7 rfl ?_
  refine z_iconst (v := 1) C dL_plans_8 (by decide) ?_
  refine y_callW (As := [.int _, .int _]) C hX rfl (fun T _ => c_X5_plan _ _ ad M T hI _ _) (fun T v H' hT hq => y_qS hT hq) (fun q hq => Or.inl hq) kc_X5_plan wb_p534 ⟨by decide, by decide⟩ ⟨Nat.le_of_ble_eq_true rfl, Nat.le_of_ble_eq_true rfl⟩ (Nat.le_of_ble_eq_true rfl) dL_plans_9 (fun H9 hX9 hF9 => ?_)
  replace hX := hX9
  rw [y_planN hI hg hp hb rfl]
  refine z_istore_n C dL_plans_12 (by decide) ?_
  refine z_iconst (v := 0) C dL_plans_13 (by decide) ?_
  refine z_istore C dL_plans_14 (by decide) ?_
  refine z_iconst (v := 0) C dL_plans_16 (by decide) ?_
  refine z_istore C dL_plans_17 (by decide) ?_
  refine z_aload_n C dL_plans_19 rfl ?_
  refine z_iload_n C dL_plans_20 rfl ?_
  refine z_iconst (v := 1) C dL_plans_21 (by decide) ?_
  refine y_callR (As := [.int _, .int _]) C hX rfl (fun T _ => c_X5_group _ _ ad M T hI _ _) kc_X5_group wb_p410 ⟨by decide, by decide⟩ ⟨Nat.le_of_ble_eq_true rfl, Nat.le_of_ble_eq_true rfl⟩ (Nat.le_of_ble_eq_true rfl) dL_plans_22 ?_
  rw [y_g1 hI hg, hrm, ← y_pR0 hI hg]
  refine z_istore C dL_plans_25 (by decide) ?_
  refine z_join 51 (z_b (k_esc M nD (m_r0 M (nI g)) (p_mem []))) ?_ (fun kJ51 => ?_)
  · refine z_istore C dL_plans_51 (by decide) ?_
    refine z_iload_n C dL_plans_53 rfl ?_
    refine z_if_ge C 96 dL_plans_54 (by decide) (fun h54 => ?_) (fun h54 => ?_)
    · exact absurd (by decide) h54
    · refine z_iload_n C dL_plans_57 rfl ?_
      refine z_bipush (v := (-6)) C dL_plans_58 (by decide) ?_
      refine z_icmp_ne C 94 dL_plans_60 (by decide) (fun h60 => ?_) (fun h60 => ?_)
      · exact absurd rfl h60
      · refine z_aload_n C dL_plans_63 rfl ?_
        refine z_iload_n C dL_plans_64 rfl ?_
        refine z_iconst (v := 0) C dL_plans_65 (by decide) ?_
        refine y_callW (As := [.int _, .int _]) C hX rfl (fun T _ => c_X5_plan _ _ ad M T hI _ _) (fun T v H' hT hq => y_qS hT hq) (fun q hq => Or.inl hq) kc_X5_plan wb_p534 ⟨by decide, by decide⟩ ⟨Nat.le_of_ble_eq_true rfl, Nat.le_of_ble_eq_true rfl⟩ (Nat.le_of_ble_eq_true rfl) dL_plans_66 (fun H66 hX66 hF66 => ?_)
        replace hX := hX66
        rw [y_planN hI hg hp hb rfl]
        refine z_bipush (v := (-6)) C dL_plans_69 (by decide) ?_
        refine z_icmp_ne C 94 dL_plans_71 (by decide) (fun h71 => ?_) (fun h71 => ?_)
        · exact absurd rfl h71
        · refine z_aload_n C dL_plans_74 rfl ?_
          refine z_iload_n C dL_plans_75 rfl ?_
          refine z_iconst (v := 0) C dL_plans_76 (by decide) ?_
          refine y_callW (As := [.int _, .int _]) C hX rfl (fun T _ => c_X5_planned _ _ ad M T hI _ _) (fun T v H' hT hq => y_qS hT hq) (fun q hq => Or.inl hq) kc_X5_planned wb_p552 ⟨by decide, by decide⟩ ⟨Nat.le_of_ble_eq_true rfl, Nat.le_of_ble_eq_true rfl⟩ (Nat.le_of_ble_eq_true rfl) dL_plans_77 (fun H77 hX77 hF77 => ?_)
          replace hX := hX77
          rw [y_plannedN hI hg hp hb]
          refine z_bipush (v := (-6)) C dL_plans_80 (by decide) ?_
          refine z_icmp_ne C 94 dL_plans_82 (by decide) (fun h82 => ?_) (fun h82 => ?_)
          · exact absurd rfl h82
          · refine z_iload C dL_plans_85 rfl ?_
            refine z_ifb_ne C 94 dL_plans_87 (by decide) (fun h87 => ?_) (fun h87 => ?_)
            · exact absurd (h87.symm.trans (y_plan_none hb)) (by decide)
            · refine z_iconst (v := 1) C dL_plans_90 (by decide) ?_
              refine z_goto C 95 dL_plans_91 (by decide) ?_
              exact z_bret C (by omega) (by omega) dL_plans_95 (by rfl) (by exact ⟨rfl, hX⟩)
  · refine z_iload_n C dL_plans_27 rfl ?_
    refine z_if_lt C 50 dL_plans_28 (by decide) (fun h28 => ?_) (fun h28 => ?_)
    · refine z_iconst (v := 0) C dL_plans_50 (by decide) ?_
      exact z_joinE kJ51 (by first | (rw [y_escE (by assumption), decide_eq_false (by assumption)]; rfl) | (rw [y_escE (by assumption), decide_eq_true (by assumption)]; rfl) | (unfold k_esc; rw [decide_eq_true (by assumption)]; rfl))
    · refine z_aload_n C dL_plans_31 rfl ?_
      refine z_iload C dL_plans_32 rfl ?_
      refine z_iconst (v := 0) C dL_plans_34 (by decide) ?_
      refine z_callSR (As := [.ref _, .int _, .int _]) C (c_L_reach _ _ ad M t4 hI _ hr0 _) kc_L_reach wb_p541 ⟨by decide, by decide⟩ hX ⟨Nat.le_of_ble_eq_true rfl, Nat.le_of_ble_eq_true rfl⟩ (Nat.le_of_ble_eq_true rfl) dL_plans_35 ?_
      rw [y_reachK hI y_dI.zero]
      refine z_iload_n C dL_plans_38 rfl ?_
      refine z_ishr C dL_plans_39 ?_
      refine z_iconst (v := 1) C dL_plans_40 (by decide) ?_
      refine z_iand C dL_plans_41 ?_
      refine z_iconst (v := 1) C dL_plans_42 (by decide) ?_
      refine z_icmp_ne C 50 dL_plans_43 (by decide) (fun h43 => ?_) (fun h43 => ?_)
      · refine z_iconst (v := 0) C dL_plans_50 (by decide) ?_
        exact z_joinE kJ51 (by first | (rw [y_escE (by assumption), decide_eq_false (by assumption)]; rfl) | (rw [y_escE (by assumption), decide_eq_true (by assumption)]; rfl) | (unfold k_esc; rw [decide_eq_true (by assumption)]; rfl))
      · refine z_iconst (v := 1) C dL_plans_46 (by decide) ?_
        refine z_goto C 51 dL_plans_47 (by decide) ?_
        exact z_joinE kJ51 (by first | (rw [y_escE (by assumption), decide_eq_false (by assumption)]; rfl) | (rw [y_escE (by assumption), decide_eq_true (by assumption)]; rfl) | (unfold k_esc; rw [decide_eq_true (by assumption)]; rfl))

theorem y_cntE (p : Nat → Bool) (i : Nat) : [Value.int (nI (k_n p i) + z_b (p i))] = [Value.int (nI (k_n p (i + 1)))] := by
  have e : k_n p (i + 1) = k_n p i + (if p i = true then 1 else 0) := rfl
  rw [e]
  cases p i with
  | true => rw [if_pos rfl]; exact congrArg (fun z => [Value.int z]) (z_inc _)
  | false => rw [if_neg (by decide)]; exact congrArg (fun z => [Value.int z]) (Int32.add_zero _)
set_option maxHeartbeats 4000000 in
set_option maxRecDepth 100000 in
theorem c_L_plansS (l : Launch) (G : z_G) (ad : Nat → Nat → Nat) (M : m_S) (t4 : Int32) (sz : Nat) {nR nD nK nG : Nat} (hI : m_I nR nD nK nG M) (g : Nat) (hg : g < nG) (hp : m_pl M (nI g) = true) {pl : List Nat} (hb : k_best M nD nK (nI g) = some pl) : z_M l yL_plans cL_plans 16 (some .boolean) 8 1 6 [.ref (ad 4 0), .int (nI g)] G (fun H => H.size = sz ∧ y_X G ad nR nD nK nG M t4 H) (fun q => x_A ad nR nD nK nG q ∨ sz ≤ q) (fun v _ H => v = some (.int 1) ∧ y_X G ad nR nD nK nG M t4 H) := by
  refine z_M.of (by decide +kernel) (Nat.le_of_ble_eq_true rfl) ?_
  intro p e s m below meth c C hP
  obtain ⟨hsz, hX⟩ := (hP : s.heap.size = sz ∧ y_X G ad nR nD nK nG M t4 s.heap)
  have hs := y_nsm hI
  obtain ⟨hrm, hr0⟩ := y_rmE hI hg
  rw [← y_pR0 hI hg] at hr0
  obtain ⟨hpl, hpc, hpm⟩ := y_best_len hI hb
  refine z_aload_n C dL_plans_0 rfl ?_
  refine z_iconst (v := 4) C dL_plans_1 (by decide) ?_
  refine y_callR (As := [.int _]) C hX rfl (fun T hT4 => c_X5_countR _ _ ad M T hI _ (by decide) (fun h => absurd h (by decide))) kc_X5_count wb_p434 ⟨by decide, by decide⟩ ⟨Nat.le_of_ble_eq_true rfl, Nat.le_of_ble_eq_true rfl⟩ (Nat.le_of_ble_eq_true rfl) dL_plans_2 ?_
  rw [y_c4 hI]
  refine z_istore_n C dL_plans_5 (by decide) ?_
  refine z_aload_n C dL_plans_6 rfl ?_
  refine z_iload_n C dL_plans_7 rfl ?_
  refine z_iconst (v := 1) C dL_plans_8 (by decide) ?_
  refine y_callW (As := [.int _, .int _]) C hX rfl (fun T _ => c_X5_plan _ _ ad M T hI _ _) (fun T v H' hT hq => y_qS hT hq) (fun q hq => Or.inl hq) kc_X5_plan wb_p534 ⟨by decide, by decide⟩ ⟨Nat.le_of_ble_eq_true rfl, Nat.le_of_ble_eq_true rfl⟩ (Nat.le_of_ble_eq_true rfl) dL_plans_9 (fun H9 hX9 hF9 => ?_)
  replace hX := hX9
  rw [y_plan1 hI hg hp hb]
  refine z_istore_n C dL_plans_12 (by decide) ?_
  refine z_iconst (v := 0) C dL_plans_13 (by decide) ?_
  refine z_istore C dL_plans_14 (by decide) ?_
  refine z_iconst (v := 0) C dL_plans_16 (by decide) ?_
  refine z_istore C dL_plans_17 (by decide) ?_
  refine z_aload_n C dL_plans_19 rfl ?_
  refine z_iload_n C dL_plans_20 rfl ?_
  refine z_iconst (v := 1) C dL_plans_21 (by decide) ?_
  refine y_callR (As := [.int _, .int _]) C hX rfl (fun T _ => c_X5_group _ _ ad M T hI _ _) kc_X5_group wb_p410 ⟨by decide, by decide⟩ ⟨Nat.le_of_ble_eq_true rfl, Nat.le_of_ble_eq_true rfl⟩ (Nat.le_of_ble_eq_true rfl) dL_plans_22 ?_
  rw [y_g1 hI hg, hrm, ← y_pR0 hI hg]
  refine z_istore C dL_plans_25 (by decide) ?_
  refine z_join 51 (z_b (k_esc M nD (m_r0 M (nI g)) (p_mem []))) ?_ (fun kJ51 => ?_)
  · refine z_istore C dL_plans_51 (by decide) ?_
    refine z_iload_n C dL_plans_53 rfl ?_
    refine z_if_ge C 96 dL_plans_54 (by decide) (fun h54 => ?_) (fun h54 => ?_)
    · refine z_iload_n C dL_plans_96 rfl ?_
      refine z_if_lt C 114 dL_plans_97 (by decide) (fun h97 => ?_) (fun h97 => ?_)
      · exact absurd h97 (y_plan_exit hb)
      · refine z_iload C dL_plans_100 rfl ?_
        refine z_join 111 (z_b (decide (pl.length = 0))) ?_ (fun kJ111 => ?_)
        · refine z_icmp_eq C 116 dL_plans_111 (by decide) (fun h111 => ?_) (fun h111 => ?_)
          · have hX116a := hX
            refine z_bipush (v := 6) C dL_plans_116 (by decide) ?_
            refine z_newaI C wb_92 6 (by decide) (by decide) (Nat.le_of_ble_eq_true rfl) (Nat.le_of_ble_eq_true rfl) (Nat.le_of_ble_eq_true rfl) dL_plans_118 (fun q118 H118 hN118 => ?_)
            have hX := hX.new hN118
            have hU := hN118.2.1
            have hqs : sz ≤ q118 := by have h1 := hN118.1; have h2 := hF9.1; omega
            have hqa : ¬ x_A ad nR nD nK nG q118 := fun q => by have h1 := hX116a.lt _ q; have := hN118.1; omega
            refine z_astore C dL_plans_120 (by decide) ?_
            refine z_iconst (v := 0) C dL_plans_122 (by decide) ?_
            refine z_istore C dL_plans_123 (by decide) ?_
            refine z_loopS (fun q : Nat × Int32 × (Nat → Int32) => pl.length - q.1) (fun q H1 => q.1 ≤ pl.length ∧ y_X G ad nR nD nK nG M t4 H1 ∧ va_at G.1 vwCl (q118, .inl (G.2 0, 6, .inl q.2.2)) H1 ∧ y_dI q.2.1 (p_mem (y_pre pl q.1)) ∧ y_uI M nD (y_pre pl q.1) q.2.2) (fun q => [(0, .ref (ad 4 0)), (1, .int (nI g)), (2, .int (M.1 1)), (3, .int (nI pl.length)), (4, .int (nI (p_cost (k_u M) (y_pre pl q.1)))), (5, .int q.2.1), (6, .int (nI (m_r0 M (nI g)))), (8, .ref q118), (9, .int (nI q.1))]) (0, 0, fun _ => 0) ⟨Nat.zero_le _, hX, hU, by rw [y_pre_0]; exact y_dI.zero, by rw [y_pre_0]; exact y_uI.zero⟩ ⟨rfl, rfl, rfl, rfl, (by rw [y_pre_0]; rfl), rfl, rfl, rfl, rfl, trivial⟩ (fun q H1 hI1 ihO => ?_)
            obtain ⟨k, x, f⟩ := q
            obtain ⟨hk1, hX, hU, hx, hu⟩ := hI1
            dsimp only at hk1 hU hx hu ihO ⊢
            refine z_iload C dL_plans_125 rfl ?_
            refine z_iload_n C dL_plans_127 rfl ?_
            refine z_icmp_ge C 380 dL_plans_128 (by decide) (fun h128 => ?_) (fun h128 => ?_)
            · obtain rfl : k = pl.length := z_ge rfl (by omega) hk1 h128
              rw [y_pre_all] at hx
              rw [y_pre_all]
              refine z_aload_n C dL_plans_380 rfl ?_
              refine z_iload C dL_plans_381 rfl ?_
              refine z_iload C dL_plans_383 rfl ?_
              refine z_callSR (As := [.ref _, .int _, .int _]) C (c_L_reach _ _ ad M t4 hI _ hr0 _) kc_L_reach wb_p541 ⟨by decide, by decide⟩ hX ⟨Nat.le_of_ble_eq_true rfl, Nat.le_of_ble_eq_true rfl⟩ (Nat.le_of_ble_eq_true rfl) dL_plans_385 ?_
              rw [y_reachK hI hx]
              refine z_iload_n C dL_plans_388 rfl ?_
              refine z_ishr C dL_plans_389 ?_
              refine z_iconst (v := 1) C dL_plans_390 (by decide) ?_
              refine z_iand C dL_plans_391 ?_
              refine z_iconst (v := 1) C dL_plans_392 (by decide) ?_
              refine z_icmp_ne C 444 dL_plans_393 (by decide) (fun h393 => ?_) (fun h393 => ?_)
              · exact absurd (of_decide_eq_true (by rw [← y_escE (y_plan_exit hb)]; exact y_plan_end hb)) h393
              · refine z_aload_n C dL_plans_396 rfl ?_
                refine z_iload_n C dL_plans_397 rfl ?_
                refine z_iconst (v := 0) C dL_plans_398 (by decide) ?_
                refine y_callW (As := [.int _, .int _]) C hX rfl (fun T _ => c_X5_plan _ _ ad M T hI _ _) (fun T v H' hT hq => y_qS hT hq) (fun q hq => Or.inl hq) kc_X5_plan wb_p534 ⟨by decide, by decide⟩ ⟨Nat.le_of_ble_eq_true rfl, Nat.le_of_ble_eq_true rfl⟩ (Nat.le_of_ble_eq_true rfl) dL_plans_399 (fun H399 hX399 hF399 => ?_)
                replace hX := hX399
                replace hU := hU.kept (hF399.2 _ hU.lt (fun q => hqa q))
                rw [y_plan0 hI hg hp hb]
                refine z_iload C dL_plans_402 rfl ?_
                refine z_icmp_ne C 444 dL_plans_404 (by decide) (fun h404 => ?_) (fun h404 => ?_)
                · exact absurd rfl h404
                · refine z_aload_n C dL_plans_407 rfl ?_
                  refine z_iload_n C dL_plans_408 rfl ?_
                  refine z_iload_n C dL_plans_409 rfl ?_
                  refine y_callW (As := [.int _, .int _]) C hX rfl (fun T _ => c_X5_planned _ _ ad M T hI _ _) (fun T v H' hT hq => y_qS hT hq) (fun q hq => Or.inl hq) kc_X5_planned wb_p552 ⟨by decide, by decide⟩ ⟨Nat.le_of_ble_eq_true rfl, Nat.le_of_ble_eq_true rfl⟩ (Nat.le_of_ble_eq_true rfl) dL_plans_410 (fun H410 hX410 hF410 => ?_)
                  replace hX := hX410
                  replace hU := hU.kept (hF410.2 _ hU.lt (fun q => hqa q))
                  rw [y_plannedE hI hg hp hb]
                  refine z_bipush (v := (-6)) C dL_plans_413 (by decide) ?_
                  refine z_icmp_ne C 444 dL_plans_415 (by decide) (fun h415 => ?_) (fun h415 => ?_)
                  · exact absurd rfl h415
                  · refine z_aload_n C dL_plans_418 rfl ?_
                    refine z_iload_n C dL_plans_419 rfl ?_
                    refine z_iconst (v := (-1)) C dL_plans_420 (by decide) ?_
                    refine y_callW (As := [.int _, .int _]) C hX rfl (fun T _ => c_X5_planned _ _ ad M T hI _ _) (fun T v H' hT hq => y_qS hT hq) (fun q hq => Or.inl hq) kc_X5_planned wb_p552 ⟨by decide, by decide⟩ ⟨Nat.le_of_ble_eq_true rfl, Nat.le_of_ble_eq_true rfl⟩ (Nat.le_of_ble_eq_true rfl) dL_plans_421 (fun H421 hX421 hF421 => ?_)
                    replace hX := hX421
                    replace hU := hU.kept (hF421.2 _ hU.lt (fun q => hqa q))
                    rw [y_plannedM hI hg]
                    refine z_bipush (v := (-2)) C dL_plans_424 (by decide) ?_
                    refine z_icmp_ne C 444 dL_plans_426 (by decide) (fun h426 => ?_) (fun h426 => ?_)
                    · exact absurd rfl h426
                    · refine z_aload_n C dL_plans_429 rfl ?_
                      refine z_iload_n C dL_plans_430 rfl ?_
                      refine z_iconst (v := 2) C dL_plans_431 (by decide) ?_
                      refine y_callW (As := [.int _, .int _]) C hX rfl (fun T _ => c_X5_plan _ _ ad M T hI _ _) (fun T v H' hT hq => y_qS hT hq) (fun q hq => Or.inl hq) kc_X5_plan wb_p534 ⟨by decide, by decide⟩ ⟨Nat.le_of_ble_eq_true rfl, Nat.le_of_ble_eq_true rfl⟩ (Nat.le_of_ble_eq_true rfl) dL_plans_432 (fun H432 hX432 hF432 => ?_)
                      replace hX := hX432
                      replace hU := hU.kept (hF432.2 _ hU.lt (fun q => hqa q))
                      rw [y_plan2 hI hg]
                      refine z_bipush (v := (-2)) C dL_plans_435 (by decide) ?_
                      refine z_icmp_ne C 444 dL_plans_437 (by decide) (fun h437 => ?_) (fun h437 => ?_)
                      · exact absurd rfl h437
                      · refine z_iconst (v := 1) C dL_plans_440 (by decide) ?_
                        refine z_goto C 445 dL_plans_441 (by decide) ?_
                        exact z_bret C (by omega) (by omega) dL_plans_445 (by rfl) (by exact ⟨rfl, hX⟩)
            · have hk : k < pl.length := z_lt rfl (by omega) hk1 h128
              obtain ⟨hesc, hd, hop, hnm, hthr, huk⟩ := y_plan_step hI hb hk
              obtain ⟨h8, c0, hc0, ec⟩ := y_closed hI hd hop
              rw [ec] at huk
              have hld := y_lohi hI hd
              refine z_aload_n C dL_plans_131 rfl ?_
              refine z_iload_n C dL_plans_132 rfl ?_
              refine z_iload C dL_plans_133 rfl ?_
              refine y_callW (As := [.int _, .int _]) C hX rfl (fun T _ => c_X5_planned _ _ ad M T hI _ _) (fun T v H' hT hq => y_qS hT hq) (fun q hq => Or.inl hq) kc_X5_planned wb_p552 ⟨by decide, by decide⟩ ⟨Nat.le_of_ble_eq_true rfl, Nat.le_of_ble_eq_true rfl⟩ (Nat.le_of_ble_eq_true rfl) dL_plans_135 (fun H135 hX135 hF135 => ?_)
              replace hX := hX135
              replace hU := hU.kept (hF135.2 _ hU.lt (fun q => hqa q))
              rw [y_plannedK hI hg hp hb hk]
              refine z_istore C dL_plans_138 (by decide) ?_
              refine z_aload_n C dL_plans_140 rfl ?_
              refine z_iload C dL_plans_141 rfl ?_
              refine z_iload C dL_plans_143 rfl ?_
              refine z_callSR (As := [.ref _, .int _, .int _]) C (c_L_reach _ _ ad M t4 hI _ hr0 _) kc_L_reach wb_p541 ⟨by decide, by decide⟩ hX ⟨Nat.le_of_ble_eq_true rfl, Nat.le_of_ble_eq_true rfl⟩ (Nat.le_of_ble_eq_true rfl) dL_plans_145 ?_
              rw [y_reachK hI hx]
              refine z_istore C dL_plans_148 (by decide) ?_
              refine z_aload_n C dL_plans_150 rfl ?_
              refine z_iload C dL_plans_151 rfl ?_
              refine z_iconst (v := 3) C dL_plans_153 (by decide) ?_
              refine y_callR (As := [.int _, .int _]) C hX rfl (fun T _ => c_X5_door _ _ ad M T hI _ _) kc_X5_door wb_p544 ⟨by decide, by decide⟩ ⟨Nat.le_of_ble_eq_true rfl, Nat.le_of_ble_eq_true rfl⟩ (Nat.le_of_ble_eq_true rfl) dL_plans_154 ?_
              rw [y_d3 hI hd, ec]
              refine z_istore C dL_plans_157 (by decide) ?_
              refine z_iconst (v := 0) C dL_plans_159 (by decide) ?_
              refine z_istore C dL_plans_160 (by decide) ?_
              refine z_iconst (v := 0) C dL_plans_162 (by decide) ?_
              refine z_istore C dL_plans_163 (by decide) ?_
              refine z_loopN (fun i => [(0, .ref (ad 4 0)), (1, .int (nI g)), (2, .int (M.1 1)), (3, .int (nI pl.length)), (4, .int (nI (p_cost (k_u M) (y_pre pl k)))), (5, .int x), (6, .int (nI (m_r0 M (nI g)))), (8, .ref q118), (9, .int (nI k)), (10, .int (nI (p_at pl k))), (11, .int (k_R M nD (m_r0 M (nI g)) (p_mem (y_pre pl k)))), (12, .int (nI c0)), (13, .int (nI (k_n (fun x => decide (M.2 10 x = nI c0) && k_near M (nI g) (k_R M nD (m_r0 M (nI g)) (p_mem (y_pre pl k))) x) i))), (14, .int (nI i))]) nK ⟨rfl, rfl, rfl, rfl, rfl, rfl, rfl, rfl, rfl, rfl, rfl, rfl, rfl, rfl, trivial⟩ (fun i hi1 ihI => ?_)
              refine z_iload C dL_plans_165 rfl ?_
              refine z_aload_n C dL_plans_167 rfl ?_
              refine z_iconst (v := 2) C dL_plans_168 (by decide) ?_
              refine y_callR (As := [.int _]) C hX rfl (fun T hT4 => c_X5_countR _ _ ad M T hI _ (by decide) (fun h => absurd h (by decide))) kc_X5_count wb_p434 ⟨by decide, by decide⟩ ⟨Nat.le_of_ble_eq_true rfl, Nat.le_of_ble_eq_true rfl⟩ (Nat.le_of_ble_eq_true rfl) dL_plans_169 ?_
              rw [y_c2 hI]
              refine z_icmp_ge C 252 dL_plans_172 (by decide) (fun h172 => ?_) (fun h172 => ?_)
              · obtain rfl : nK = i := (z_ge rfl (by omega) hi1 h172).symm
                refine z_join 289 (z_b (tb (k_R M nD (m_r0 M (nI g)) (p_mem (y_pre pl k))) (m_lo M (p_at pl k)) || tb (k_R M nD (m_r0 M (nI g)) (p_mem (y_pre pl k))) (m_hi M (p_at pl k)))) ?_ (fun kJ289 => ?_)
                · refine z_istore C dL_plans_289 (by decide) ?_
                  refine z_iload C dL_plans_291 rfl ?_
                  refine z_if_lt C 342 dL_plans_293 (by decide) (fun h293 => ?_) (fun h293 => ?_)
                  · exact absurd h293 (nI_pos (by omega))
                  · refine z_aload_n C dL_plans_296 rfl ?_
                    refine z_iload C dL_plans_297 rfl ?_
                    refine z_iconst (v := 5) C dL_plans_299 (by decide) ?_
                    refine y_callR (As := [.int _, .int _]) C hX rfl (fun T _ => c_X5_door _ _ ad M T hI _ _) kc_X5_door wb_p544 ⟨by decide, by decide⟩ ⟨Nat.le_of_ble_eq_true rfl, Nat.le_of_ble_eq_true rfl⟩ (Nat.le_of_ble_eq_true rfl) dL_plans_300 ?_
                    rw [y_d5 hI hd]
                    refine z_if_ge C 342 dL_plans_303 (by decide) (fun h303 => ?_) (fun h303 => ?_)
                    · exact absurd h8 h303
                    · refine z_iload C dL_plans_306 rfl ?_
                      refine z_iload C dL_plans_308 rfl ?_
                      refine z_ishr C dL_plans_310 ?_
                      refine z_iconst (v := 1) C dL_plans_311 (by decide) ?_
                      refine z_iand C dL_plans_312 ?_
                      refine z_iconst (v := 1) C dL_plans_313 (by decide) ?_
                      refine z_icmp_eq C 342 dL_plans_314 (by decide) (fun h314 => ?_) (fun h314 => ?_)
                      · exact absurd ((y_bit1 (by omega)).mp h314) (by rw [hx _ (by omega), hnm]; decide)
                      · refine z_iload C dL_plans_317 rfl ?_
                        refine z_ifb_eq C 342 dL_plans_319 (by decide) (fun h319 => ?_) (fun h319 => ?_)
                        · exact absurd (h319.symm.trans hthr) (by decide)
                        · refine z_iload C dL_plans_322 rfl ?_
                          refine z_aload C dL_plans_324 rfl ?_
                          refine z_iload C dL_plans_326 rfl ?_
                          refine z_iald C (by exact hU) (by exact vp_in_nI hc0 (by omega)) (by exact nI_clamp (by omega)) dL_plans_328 ?_
                          refine z_icmp_le C 342 dL_plans_329 (by decide) (fun h329 => ?_) (fun h329 => ?_)
                          · exact absurd (by rw [hu c0 hc0]; have := k_n_le (fun x => decide (M.2 10 x = nI c0) && k_near M (nI g) (k_R M nD (m_r0 M (nI g)) (p_mem (y_pre pl k))) x) nK; exact nI_lt huk (by omega)) h329
                          · refine z_iload C dL_plans_332 rfl ?_
                            refine z_iload_n C dL_plans_334 rfl ?_
                            refine z_ishr C dL_plans_335 ?_
                            refine z_iconst (v := 1) C dL_plans_336 (by decide) ?_
                            refine z_iand C dL_plans_337 ?_
                            refine z_iconst (v := 1) C dL_plans_338 (by decide) ?_
                            refine z_icmp_ne C 344 dL_plans_339 (by decide) (fun h339 => ?_) (fun h339 => ?_)
                            · refine z_aload C dL_plans_344 rfl ?_
                              refine z_iload C dL_plans_346 rfl ?_
                              refine z_dup2 C dL_plans_348 rfl rfl ?_
                              refine z_iald C (by exact hU) (by exact vp_in_nI hc0 (by omega)) (by exact nI_clamp (by omega)) dL_plans_349 ?_
                              refine z_iconst (v := 1) C dL_plans_350 (by decide) ?_
                              refine z_iadd C dL_plans_351 ?_
                              refine z_iast C (by exact hU) (by exact Or.inr hqs) (by exact vp_in_nI hc0 (by omega)) (by exact nI_clamp (by omega)) dL_plans_352 (fun H352 hU352 => ?_)
                              have hX := hX.put hU352 hqa
                              have hU := hU352.1
                              refine z_iload C dL_plans_353 rfl ?_
                              refine z_iconst (v := 1) C dL_plans_355 (by decide) ?_
                              refine z_iload C dL_plans_356 rfl ?_
                              refine z_ishl C dL_plans_358 ?_
                              refine z_ior C dL_plans_359 ?_
                              refine z_istore C dL_plans_360 (by decide) ?_
                              refine z_iload C dL_plans_362 rfl ?_
                              refine z_aload_n C dL_plans_364 rfl ?_
                              refine z_iload C dL_plans_365 rfl ?_
                              refine z_iconst (v := 4) C dL_plans_367 (by decide) ?_
                              refine y_callR (As := [.int _, .int _]) C hX rfl (fun T _ => c_X5_door _ _ ad M T hI _ _) kc_X5_door wb_p544 ⟨by decide, by decide⟩ ⟨Nat.le_of_ble_eq_true rfl, Nat.le_of_ble_eq_true rfl⟩ (Nat.le_of_ble_eq_true rfl) dL_plans_368 ?_
                              rw [y_d4 hI hd, (y_ut hI hd).1]
                              refine z_iadd C dL_plans_371 ?_
                              refine z_istore C dL_plans_372 (by decide) ?_
                              refine z_iinc C dL_plans_374 rfl rfl (by decide) ?_
                              refine z_goto C 125 dL_plans_377 (by decide) ?_
                              exact ihO (k + 1, x ||| x_bit (nI (p_at pl k)), upd f c0 (f c0 + 1)) _ _ ⟨hk, hX, hU, by rw [y_pre_succ hk]; exact hx.next (by omega), by rw [y_pre_succ hk]; exact hu.next hd hop hnm hc0 ec⟩ (by dsimp only; omega) ⟨rfl, rfl, rfl, rfl, (by rw [y_pre_succ hk]; exact z_lgI rfl (nI_add _ _)), rfl, rfl, rfl, z_lgI rfl (z_inc k), trivial⟩
                            · exact absurd (by rw [y_escE (y_plan_exit hb), decide_eq_true h339] at hesc; exact hesc) (by decide)
                · refine z_iload C dL_plans_252 rfl ?_
                  refine z_aload_n C dL_plans_254 rfl ?_
                  refine z_iload C dL_plans_255 rfl ?_
                  refine z_iconst (v := 0) C dL_plans_257 (by decide) ?_
                  refine y_callR (As := [.int _, .int _]) C hX rfl (fun T _ => c_X5_door _ _ ad M T hI _ _) kc_X5_door wb_p544 ⟨by decide, by decide⟩ ⟨Nat.le_of_ble_eq_true rfl, Nat.le_of_ble_eq_true rfl⟩ (Nat.le_of_ble_eq_true rfl) dL_plans_258 ?_
                  rw [y_d0 hI hd]
                  refine z_ishr C dL_plans_261 ?_
                  refine z_iconst (v := 1) C dL_plans_262 (by decide) ?_
                  refine z_iand C dL_plans_263 ?_
                  refine z_iconst (v := 1) C dL_plans_264 (by decide) ?_
                  refine z_icmp_eq C 284 dL_plans_265 (by decide) (fun h265 => ?_) (fun h265 => ?_)
                  · refine z_iconst (v := 1) C dL_plans_284 (by decide) ?_
                    refine z_goto C 289 dL_plans_285 (by decide) ?_
                    exact z_joinE kJ289 (by first | (rw [(y_bit1 (by omega)).mp h265]; rfl) | (rw [(y_bit1 (by omega)).mp h281, Bool.or_true]; rfl) | (rw [Bool.eq_false_iff.mpr (fun q => h265 ((y_bit1 (by omega)).mpr q)), Bool.eq_false_iff.mpr (fun q => h281 ((y_bit1 (by omega)).mpr q))]; rfl))
                  · refine z_iload C dL_plans_268 rfl ?_
                    refine z_aload_n C dL_plans_270 rfl ?_
                    refine z_iload C dL_plans_271 rfl ?_
                    refine z_iconst (v := 1) C dL_plans_273 (by decide) ?_
                    refine y_callR (As := [.int _, .int _]) C hX rfl (fun T _ => c_X5_door _ _ ad M T hI _ _) kc_X5_door wb_p544 ⟨by decide, by decide⟩ ⟨Nat.le_of_ble_eq_true rfl, Nat.le_of_ble_eq_true rfl⟩ (Nat.le_of_ble_eq_true rfl) dL_plans_274 ?_
                    rw [y_d1 hI hd]
                    refine z_ishr C dL_plans_277 ?_
                    refine z_iconst (v := 1) C dL_plans_278 (by decide) ?_
                    refine z_iand C dL_plans_279 ?_
                    refine z_iconst (v := 1) C dL_plans_280 (by decide) ?_
                    refine z_icmp_ne C 288 dL_plans_281 (by decide) (fun h281 => ?_) (fun h281 => ?_)
                    · refine z_iconst (v := 0) C dL_plans_288 (by decide) ?_
                      exact z_joinE kJ289 (by first | (rw [(y_bit1 (by omega)).mp h265]; rfl) | (rw [(y_bit1 (by omega)).mp h281, Bool.or_true]; rfl) | (rw [Bool.eq_false_iff.mpr (fun q => h265 ((y_bit1 (by omega)).mpr q)), Bool.eq_false_iff.mpr (fun q => h281 ((y_bit1 (by omega)).mpr q))]; rfl))
                    · refine z_iconst (v := 1) C dL_plans_284 (by decide) ?_
                      refine z_goto C 289 dL_plans_285 (by decide) ?_
                      exact z_joinE kJ289 (by first | (rw [(y_bit1 (by omega)).mp h265]; rfl) | (rw [(y_bit1 (by omega)).mp h281, Bool.or_true]; rfl) | (rw [Bool.eq_false_iff.mpr (fun q => h265 ((y_bit1 (by omega)).mpr q)), Bool.eq_false_iff.mpr (fun q => h281 ((y_bit1 (by omega)).mpr q))]; rfl))
              · have hi : i < nK := z_lt rfl (by omega) hi1 h172
                refine z_join 217 (z_b (k_near M (nI g) (k_R M nD (m_r0 M (nI g)) (p_mem (y_pre pl k))) i)) ?_ (fun kJ217 => ?_)
                · refine z_istore C dL_plans_217 (by decide) ?_
                  refine z_iload C dL_plans_219 rfl ?_
                  refine z_join 243 (z_b ((fun x => decide (M.2 10 x = nI c0) && k_near M (nI g) (k_R M nD (m_r0 M (nI g)) (p_mem (y_pre pl k))) x) i)) ?_ (fun kJ243 => ?_)
                  · refine z_iadd C dL_plans_243 ?_
                    refine z_eqst (st2 := [.int (nI (k_n (fun x => decide (M.2 10 x = nI c0) && k_near M (nI g) (k_R M nD (m_r0 M (nI g)) (p_mem (y_pre pl k))) x) (i + 1)))]) (y_cntE _ _) ?_
                    refine z_istore C dL_plans_244 (by decide) ?_
                    refine z_iinc C dL_plans_246 rfl rfl (by decide) ?_
                    refine z_goto C 165 dL_plans_249 (by decide) ?_
                    exact ihI hi _ ⟨rfl, rfl, rfl, rfl, rfl, rfl, rfl, rfl, rfl, rfl, rfl, rfl, rfl, z_lgI rfl (z_inc i), trivial⟩
                  · refine z_iload C dL_plans_221 rfl ?_
                    refine z_ifb_eq C 242 dL_plans_223 (by decide) (fun h223 => ?_) (fun h223 => ?_)
                    · refine z_iconst (v := 0) C dL_plans_242 (by decide) ?_
                      exact z_joinE kJ243 (by simp [z_b, *])
                    · refine z_aload_n C dL_plans_226 rfl ?_
                      refine z_iload C dL_plans_227 rfl ?_
                      refine z_iconst (v := 0) C dL_plans_229 (by decide) ?_
                      refine y_callR (As := [.int _, .int _]) C hX rfl (fun T _ => c_X5_key _ _ ad M T hI _ _) kc_X5_key wb_p525 ⟨by decide, by decide⟩ ⟨Nat.le_of_ble_eq_true rfl, Nat.le_of_ble_eq_true rfl⟩ (Nat.le_of_ble_eq_true rfl) dL_plans_230 ?_
                      rw [y_k0 hI hi]
                      refine z_iload C dL_plans_233 rfl ?_
                      refine z_icmp_ne C 242 dL_plans_235 (by decide) (fun h235 => ?_) (fun h235 => ?_)
                      · refine z_iconst (v := 0) C dL_plans_242 (by decide) ?_
                        exact z_joinE kJ243 (by simp [z_b, *])
                      · refine z_iconst (v := 1) C dL_plans_238 (by decide) ?_
                        refine z_goto C 243 dL_plans_239 (by decide) ?_
                        exact z_joinE kJ243 (by simp [z_b, *])
                · refine z_aload_n C dL_plans_175 rfl ?_
                  refine z_iload C dL_plans_176 rfl ?_
                  refine z_iconst (v := 3) C dL_plans_178 (by decide) ?_
                  refine y_callR (As := [.int _, .int _]) C hX rfl (fun T _ => c_X5_key _ _ ad M T hI _ _) kc_X5_key wb_p525 ⟨by decide, by decide⟩ ⟨Nat.le_of_ble_eq_true rfl, Nat.le_of_ble_eq_true rfl⟩ (Nat.le_of_ble_eq_true rfl) dL_plans_179 ?_
                  rw [y_k3 hI hi]
                  refine z_iload_n C dL_plans_182 rfl ?_
                  refine z_icmp_eq C 212 dL_plans_183 (by decide) (fun h183 => ?_) (fun h183 => ?_)
                  · have q183 : m_ho M (nI g) (nI i) = true := by rw [y_ho hI hi]; exact (y_hpI (by omega)).mp h183
                    refine z_iconst (v := 1) C dL_plans_212 (by decide) ?_
                    refine z_goto C 217 dL_plans_213 (by decide) ?_
                    exact z_joinE kJ217 (by simp [z_b, k_near, m_has, *])
                  · have q183 : m_ho M (nI g) (nI i) = false := by rw [y_ho hI hi]; exact Bool.eq_false_iff.mpr (fun q => h183 ((y_hpI (by omega)).mpr q))
                    refine z_aload_n C dL_plans_186 rfl ?_
                    refine z_iload C dL_plans_187 rfl ?_
                    refine z_iconst (v := 1) C dL_plans_189 (by decide) ?_
                    refine y_callR (As := [.int _, .int _]) C hX rfl (fun T _ => c_X5_key _ _ ad M T hI _ _) kc_X5_key wb_p525 ⟨by decide, by decide⟩ ⟨Nat.le_of_ble_eq_true rfl, Nat.le_of_ble_eq_true rfl⟩ (Nat.le_of_ble_eq_true rfl) dL_plans_190 ?_
                    rw [y_k1 hI hi]
                    refine z_if_ne C 216 dL_plans_193 (by decide) (fun h193 => ?_) (fun h193 => ?_)
                    · refine z_iconst (v := 0) C dL_plans_216 (by decide) ?_
                      exact z_joinE kJ217 (by simp [z_b, k_near, m_has, *])
                    · refine z_iload C dL_plans_196 rfl ?_
                      refine z_aload_n C dL_plans_198 rfl ?_
                      refine z_iload C dL_plans_199 rfl ?_
                      refine z_iconst (v := 2) C dL_plans_201 (by decide) ?_
                      refine y_callR (As := [.int _, .int _]) C hX rfl (fun T _ => c_X5_key _ _ ad M T hI _ _) kc_X5_key wb_p525 ⟨by decide, by decide⟩ ⟨Nat.le_of_ble_eq_true rfl, Nat.le_of_ble_eq_true rfl⟩ (Nat.le_of_ble_eq_true rfl) dL_plans_202 ?_
                      rw [y_k2 hI hi, if_pos h193]
                      refine z_ishr C dL_plans_205 ?_
                      refine z_iconst (v := 1) C dL_plans_206 (by decide) ?_
                      refine z_iand C dL_plans_207 ?_
                      refine z_iconst (v := 1) C dL_plans_208 (by decide) ?_
                      refine z_icmp_ne C 216 dL_plans_209 (by decide) (fun h209 => ?_) (fun h209 => ?_)
                      · refine z_iconst (v := 0) C dL_plans_216 (by decide) ?_
                        exact z_joinE kJ217 (by simp [z_b, k_near, m_has, *])
                      · refine z_iconst (v := 1) C dL_plans_212 (by decide) ?_
                        refine z_goto C 217 dL_plans_213 (by decide) ?_
                        exact z_joinE kJ217 (by simp [z_b, k_near, m_has, *])
          · exact absurd (by rw [y_plan_near hI hb]) h111
        · refine z_iload_n C dL_plans_102 rfl ?_
          refine z_if_ne C 110 dL_plans_103 (by decide) (fun h103 => ?_) (fun h103 => ?_)
          · refine z_iconst (v := 0) C dL_plans_110 (by decide) ?_
            exact z_joinE kJ111 (by first | (rw [decide_eq_false (fun q => h103 (by rw [q]; rfl))]; rfl) | (rw [decide_eq_true ((nI_inj (b := 0) (by omega) (by omega)).mp h103)]; rfl))
          · refine z_iconst (v := 1) C dL_plans_106 (by decide) ?_
            refine z_goto C 111 dL_plans_107 (by decide) ?_
            exact z_joinE kJ111 (by first | (rw [decide_eq_false (fun q => h103 (by rw [q]; rfl))]; rfl) | (rw [decide_eq_true ((nI_inj (b := 0) (by omega) (by omega)).mp h103)]; rfl))
    · exact absurd h54 (nI_pos (by omega))
  · refine z_iload_n C dL_plans_27 rfl ?_
    refine z_if_lt C 50 dL_plans_28 (by decide) (fun h28 => ?_) (fun h28 => ?_)
    · refine z_iconst (v := 0) C dL_plans_50 (by decide) ?_
      exact z_joinE kJ51 (by first | (rw [y_escE (by assumption), decide_eq_false (by assumption)]; rfl) | (rw [y_escE (by assumption), decide_eq_true (by assumption)]; rfl) | (unfold k_esc; rw [decide_eq_true (by assumption)]; rfl))
    · refine z_aload_n C dL_plans_31 rfl ?_
      refine z_iload C dL_plans_32 rfl ?_
      refine z_iconst (v := 0) C dL_plans_34 (by decide) ?_
      refine z_callSR (As := [.ref _, .int _, .int _]) C (c_L_reach _ _ ad M t4 hI _ hr0 _) kc_L_reach wb_p541 ⟨by decide, by decide⟩ hX ⟨Nat.le_of_ble_eq_true rfl, Nat.le_of_ble_eq_true rfl⟩ (Nat.le_of_ble_eq_true rfl) dL_plans_35 ?_
      rw [y_reachK hI y_dI.zero]
      refine z_iload_n C dL_plans_38 rfl ?_
      refine z_ishr C dL_plans_39 ?_
      refine z_iconst (v := 1) C dL_plans_40 (by decide) ?_
      refine z_iand C dL_plans_41 ?_
      refine z_iconst (v := 1) C dL_plans_42 (by decide) ?_
      refine z_icmp_ne C 50 dL_plans_43 (by decide) (fun h43 => ?_) (fun h43 => ?_)
      · refine z_iconst (v := 0) C dL_plans_50 (by decide) ?_
        exact z_joinE kJ51 (by first | (rw [y_escE (by assumption), decide_eq_false (by assumption)]; rfl) | (rw [y_escE (by assumption), decide_eq_true (by assumption)]; rfl) | (unfold k_esc; rw [decide_eq_true (by assumption)]; rfl))
      · refine z_iconst (v := 1) C dL_plans_46 (by decide) ?_
        refine z_goto C 51 dL_plans_47 (by decide) ?_
        exact z_joinE kJ51 (by first | (rw [y_escE (by assumption), decide_eq_false (by assumption)]; rfl) | (rw [y_escE (by assumption), decide_eq_true (by assumption)]; rfl) | (unfold k_esc; rw [decide_eq_true (by assumption)]; rfl))
