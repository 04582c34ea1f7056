set_option maxHeartbeats 4000000 in
set_option maxRecDepth 100000 in
theorem c_X6_plan (l : Launch) (G : z_G) (ad : Nat → Nat) (M : m_S) {nR nD nK nG : Nat} (hI : m_I nR nD nK nG M) (g w : Int32) : z_M l yX6_plan cX6_plan 3 (some .int) 4 0 0 [.ref (ad 0), .int g, .int w] G (fun H => m_R G ad M H) (m_A ad) ((fun v _ H => v = some (.int (F_plan M nD nK g w)) ∧ ∃ M', m_Q M M' ∧ m_R G ad M' H)) := by
  refine z_M.of (by decide +kernel) (Nat.le_of_ble_eq_true rfl) ?_
  intro p e s m below meth c C hP
  have hM : m_R G ad M s.heap := hP
  have hN := hI.1
  have hR12 := hN.1.2; have hD16 := hN.2.1.2; have hK16 := hN.2.2.1.2; have hG6 := hN.2.2.2.2
  refine z_aload_n C dX6_plan_0 rfl ?_
  refine z_iload_n C dX6_plan_1 rfl ?_
  refine z_callVR (As := [.int _]) C (c_X6_noGroup _ _ ad M _) kc_X6_noGroup wb_788 ⟨by decide, by decide⟩ hM.1 rfl (hM) ⟨Nat.zero_le _, Nat.zero_le _⟩ (Nat.le_of_ble_eq_true rfl) dX6_plan_2 ?_
  refine z_ifb_eq C 10 dX6_plan_5 (by decide) (fun h5 => ?_) (fun h5 => ?_)
  · refine z_iload_n C dX6_plan_10 rfl ?_
    refine z_iconst (v := 0) C dX6_plan_11 (by decide) ?_
    refine z_iconst (v := 1) C dX6_plan_12 (by decide) ?_
    refine z_callSR (As := [.int _, .int _, .int _]) C (c_X6_in _ _ _ _ _) kc_X6_in wb_745 ⟨by decide, by decide⟩ (trivial) ⟨Nat.zero_le _, Nat.zero_le _⟩ (Nat.le_of_ble_eq_true rfl) dX6_plan_13 ?_
    refine z_ifb_ne C 22 dX6_plan_16 (by decide) (fun h16 => ?_) (fun h16 => ?_)
    · refine z_aload_n C dX6_plan_22 rfl ?_
      refine z_iload_n C dX6_plan_23 rfl ?_
      refine z_callVR (As := [.int _]) C (c_X6_plays _ _ ad M _ (by first | assumption | exact m_noG hN (by assumption) | exact m_noD hN (by assumption) | exact m_noK hN (by assumption))) kc_X6_plays wb_796 ⟨by decide, by decide⟩ hM.1 rfl (hM) ⟨Nat.zero_le _, Nat.zero_le _⟩ (Nat.le_of_ble_eq_true rfl) dX6_plan_24 ?_
      refine z_ifb_ne C 33 dX6_plan_27 (by decide) (fun h27 => ?_) (fun h27 => ?_)
      · have hgv := x_inG hN (r := g) (by assumption)
        have hgl : g.toNatClampNeg < nG := vp_in_clamp hgv
        have hg6 : vp_in g 6 := m_noG hN (by assumption)
        refine z_aload_n C dX6_plan_33 rfl ?_
        refine z_iload_n C dX6_plan_34 rfl ?_
        refine z_callV (As := [.int _]) C (c_X6_findPlan _ _ ad M hI _ hg6 hgl) kc_X6_findPlan wb_853 ⟨by decide, by decide⟩ hM.1 rfl (hM) (fun _ h => h) ⟨Nat.zero_le _, Nat.zero_le _⟩ (Nat.le_of_ble_eq_true rfl) dX6_plan_35 (fun v H35 hq _ _ => ?_)
        obtain ⟨rfl, M2, hk, hM⟩ := hq
        refine z_aload_n C dX6_plan_38 rfl ?_
        refine z_get C (by first | exact hM.1 | exact hM.2.1 _ rfl | exact hM.2.2.1 _ rfl) z_cls7 hu_X6 28 (by decide) wb_663 rfl rfl dX6_plan_39 ?_
        refine z_if_ge C 50 dX6_plan_42 (by decide) (fun h42 => ?_) (fun h42 => ?_)
        · obtain ⟨p0, hp0, e28, e29, hl10, hc20, hpl⟩ := hk.yes h42
          refine z_iload_n C dX6_plan_50 rfl ?_
          refine z_if_ne C 61 dX6_plan_51 (by decide) (fun h51 => ?_) (fun h51 => ?_)
          · refine z_aload_n C dX6_plan_61 rfl ?_
            refine z_get C (by first | exact hM.1 | exact hM.2.1 _ rfl | exact hM.2.2.1 _ rfl) z_cls7 hu_X6 29 (by decide) wb_664 rfl rfl dX6_plan_62 ?_
            rw [e29]
            exact z_iret C (by omega) (by omega) dX6_plan_65 (by have hz : m_in 0 0 1 = true := rfl; exact ⟨by simp [F_plan, *], M2, hk.1, hM⟩)
          · refine z_aload_n C dX6_plan_54 rfl ?_
            refine z_get C (by first | exact hM.1 | exact hM.2.1 _ rfl | exact hM.2.2.1 _ rfl) z_cls7 hu_X6 28 (by decide) wb_663 rfl rfl dX6_plan_55 ?_
            rw [e28]
            refine z_goto C 65 dX6_plan_58 (by decide) ?_
            exact z_iret C (by omega) (by omega) dX6_plan_65 (by have hz : m_in 0 0 1 = true := rfl; exact ⟨by simp [F_plan, *], M2, hk.1, hM⟩)
        · have hno := hk.no (by first | exact h42 | exact Classical.not_not.mp h42)
          refine z_bipush (v := (-6)) C dX6_plan_45 (by decide) ?_
          refine z_goto C 65 dX6_plan_47 (by decide) ?_
          exact z_iret C (by omega) (by omega) dX6_plan_65 (by have hz : m_in 0 0 1 = true := rfl; exact ⟨by simp [F_plan, *], M2, hk.1, hM⟩)
      · refine z_bipush (v := (-4)) C dX6_plan_30 (by decide) ?_
        exact z_iret C (by omega) (by omega) dX6_plan_32 (by first | exact ⟨by simp [F_plan, *], M, m_Q.refl, hM⟩ | exact ⟨by simp [F_plan, *], M2, hk.1, hM⟩)
    · refine z_bipush (v := (-2)) C dX6_plan_19 (by decide) ?_
      exact z_iret C (by omega) (by omega) dX6_plan_21 (by first | exact ⟨by simp [F_plan, *], M, m_Q.refl, hM⟩ | exact ⟨by simp [F_plan, *], M2, hk.1, hM⟩)
  · refine z_iconst (v := (-1)) C dX6_plan_8 (by decide) ?_
    exact z_iret C (by omega) (by omega) dX6_plan_9 (by first | exact ⟨by simp [F_plan, *], M, m_Q.refl, hM⟩ | exact ⟨by simp [F_plan, *], M2, hk.1, hM⟩)

set_option maxHeartbeats 4000000 in
set_option maxRecDepth 100000 in
theorem c_X6_planned (l : Launch) (G : z_G) (ad : Nat → Nat) (M : m_S) {nR nD nK nG : Nat} (hI : m_I nR nD nK nG M) (g x : Int32) : z_M l yX6_planned cX6_planned 3 (some .int) 4 0 0 [.ref (ad 0), .int g, .int x] G (fun H => m_R G ad M H) (m_A ad) ((fun v _ H => v = some (.int (F_planned M nD nK g x)) ∧ ∃ M', m_Q M M' ∧ m_R G ad M' H)) := by
  refine z_M.of (by decide +kernel) (Nat.le_of_ble_eq_true rfl) ?_
  intro p e s m below meth c C hP
  have hM : m_R G ad M s.heap := hP
  have hN := hI.1
  have hR12 := hN.1.2; have hD16 := hN.2.1.2; have hK16 := hN.2.2.1.2; have hG6 := hN.2.2.2.2
  refine z_aload_n C dX6_planned_0 rfl ?_
  refine z_iload_n C dX6_planned_1 rfl ?_
  refine z_callVR (As := [.int _]) C (c_X6_noGroup _ _ ad M _) kc_X6_noGroup wb_788 ⟨by decide, by decide⟩ hM.1 rfl (hM) ⟨Nat.zero_le _, Nat.zero_le _⟩ (Nat.le_of_ble_eq_true rfl) dX6_planned_2 ?_
  refine z_ifb_eq C 10 dX6_planned_5 (by decide) (fun h5 => ?_) (fun h5 => ?_)
  · refine z_iload_n C dX6_planned_10 rfl ?_
    refine z_if_ge C 17 dX6_planned_11 (by decide) (fun h11 => ?_) (fun h11 => ?_)
    · refine z_aload_n C dX6_planned_17 rfl ?_
      refine z_iload_n C dX6_planned_18 rfl ?_
      refine z_callVR (As := [.int _]) C (c_X6_plays _ _ ad M _ (by first | assumption | exact m_noG hN (by assumption) | exact m_noD hN (by assumption) | exact m_noK hN (by assumption))) kc_X6_plays wb_796 ⟨by decide, by decide⟩ hM.1 rfl (hM) ⟨Nat.zero_le _, Nat.zero_le _⟩ (Nat.le_of_ble_eq_true rfl) dX6_planned_19 ?_
      refine z_ifb_ne C 28 dX6_planned_22 (by decide) (fun h22 => ?_) (fun h22 => ?_)
      · have hgv := x_inG hN (r := g) (by assumption)
        have hgl : g.toNatClampNeg < nG := vp_in_clamp hgv
        have hg6 : vp_in g 6 := m_noG hN (by assumption)
        refine z_aload_n C dX6_planned_28 rfl ?_
        refine z_iload_n C dX6_planned_29 rfl ?_
        refine z_callV (As := [.int _]) C (c_X6_findPlan _ _ ad M hI _ hg6 hgl) kc_X6_findPlan wb_853 ⟨by decide, by decide⟩ hM.1 rfl (hM) (fun _ h => h) ⟨Nat.zero_le _, Nat.zero_le _⟩ (Nat.le_of_ble_eq_true rfl) dX6_planned_30 (fun v H30 hq _ _ => ?_)
        obtain ⟨rfl, M2, hk, hM⟩ := hq
        refine z_aload_n C dX6_planned_33 rfl ?_
        refine z_get C (by first | exact hM.1 | exact hM.2.1 _ rfl | exact hM.2.2.1 _ rfl) z_cls7 hu_X6 28 (by decide) wb_663 rfl rfl dX6_planned_34 ?_
        refine z_if_lt C 57 dX6_planned_37 (by decide) (fun h37 => ?_) (fun h37 => ?_)
        · have hno := hk.no h37
          refine z_bipush (v := (-6)) C dX6_planned_57 (by decide) ?_
          exact z_iret C (by omega) (by omega) dX6_planned_59 (by first | exact ⟨by simp [F_planned, *], M, m_Q.refl, hM⟩ | exact ⟨by simp [F_planned, *], M2, hk.1, hM⟩)
        · obtain ⟨p0, hp0, e28, e29, hl10, hc20, hpl⟩ := hk.yes h37
          refine z_iload_n C dX6_planned_40 rfl ?_
          refine z_aload_n C dX6_planned_41 rfl ?_
          refine z_get C (by first | exact hM.1 | exact hM.2.1 _ rfl | exact hM.2.2.1 _ rfl) z_cls7 hu_X6 29 (by decide) wb_664 rfl rfl dX6_planned_42 ?_
          rw [e29]
          refine z_icmp_ge C 57 dX6_planned_45 (by decide) (fun h45 => ?_) (fun h45 => ?_)
          · refine z_bipush (v := (-6)) C dX6_planned_57 (by decide) ?_
            exact z_iret C (by omega) (by omega) dX6_planned_59 (by first | exact ⟨by simp [F_planned, *], M, m_Q.refl, hM⟩ | exact ⟨by simp [F_planned, *], M2, hk.1, hM⟩)
          · obtain ⟨xn, hxn, rfl⟩ := nI_of (by assumption : ¬ x < 0)
            have hxl : xn < p0.length := (nI_ltI (by omega) (by omega)).mp h45
            have hx10 : vp_in (nI xn) 10 := vp_in_nI (by omega) (by omega)
            have hxc : (nI xn).toNatClampNeg = xn := nI_clamp (by omega)
            refine z_aload_n C dX6_planned_48 rfl ?_
            refine z_get C (by first | exact hM.1 | exact hM.2.1 _ rfl | exact hM.2.2.1 _ rfl) z_cls7 hu_X6 30 (by decide) wb_665 rfl rfl dX6_planned_49 ?_
            refine z_iload_n C dX6_planned_52 rfl ?_
            refine z_iald C (by first | exact hM.1 | exact hM.2.1 _ rfl | exact hM.2.2.1 _ rfl) (by first | exact hx10 | first | assumption | exact m_noG hN (by assumption) | exact m_noD hN (by assumption) | exact m_noK hN (by assumption)) (by rfl) dX6_planned_53 ?_
            rw [hxc, hpl _ hxl]
            refine z_goto C 59 dX6_planned_54 (by decide) ?_
            exact z_iret C (by omega) (by omega) dX6_planned_59 (by first | exact ⟨by simp [F_planned, *], M, m_Q.refl, hM⟩ | exact ⟨by simp [F_planned, *], M2, hk.1, hM⟩)
      · refine z_bipush (v := (-4)) C dX6_planned_25 (by decide) ?_
        exact z_iret C (by omega) (by omega) dX6_planned_27 (by first | exact ⟨by simp [F_planned, *], M, m_Q.refl, hM⟩ | exact ⟨by simp [F_planned, *], M2, hk.1, hM⟩)
    · refine z_bipush (v := (-2)) C dX6_planned_14 (by decide) ?_
      exact z_iret C (by omega) (by omega) dX6_planned_16 (by first | exact ⟨by simp [F_planned, *], M, m_Q.refl, hM⟩ | exact ⟨by simp [F_planned, *], M2, hk.1, hM⟩)
  · refine z_iconst (v := (-1)) C dX6_planned_8 (by decide) ?_
    exact z_iret C (by omega) (by omega) dX6_planned_9 (by first | exact ⟨by simp [F_planned, *], M, m_Q.refl, hM⟩ | exact ⟨by simp [F_planned, *], M2, hk.1, hM⟩)
