theorem z_v0 : vp_in (0 : Int32) 10 := vp_in_nI (n := 0) (by omega) (by omega)
set_option maxHeartbeats 4000000 in
set_option maxRecDepth 100000 in
theorem c_X6_hint (l : Launch) (G : z_G) (ad : Nat → Nat) (M : m_S) {nR nD nK nG : Nat} (hI : m_I nR nD nK nG M) {n : Nat} (hH : m_Hn M nG n) (hn : n ≤ 100000) (g : Int32) : z_M l yX6_hint cX6_hint 3 (some .int) 4 0 0 [.ref (ad 0), .int g] G (fun H => m_R G ad M H) (m_A ad) ((fun v _ H => v = some (.int (F_hint M nD nK g).1) ∧ ∃ M', m_Q (F_hint M nD nK g).2 M' ∧ m_R G ad M' H)) := by
  refine z_M.of (by decide +kernel) (Nat.le_of_ble_eq_true rfl) ?_
  intro p e s m below meth c C hP
  have hM : m_R G ad M s.heap := hP
  have hN := hI.1
  have hR12 := hN.1.2; have hD16 := hN.2.1.2; have hK16 := hN.2.2.1.2; have hG6 := hN.2.2.2.2
  refine z_aload_n C dX6_hint_0 rfl ?_
  refine z_iload_n C dX6_hint_1 rfl ?_
  refine z_callVR (As := [.int _]) C (c_X6_noGroup _ _ ad M _) kc_X6_noGroup wb_788 ⟨by decide, by decide⟩ hM.1 rfl (hM) ⟨Nat.zero_le _, Nat.zero_le _⟩ (Nat.le_of_ble_eq_true rfl) dX6_hint_2 ?_
  refine z_ifb_eq C 10 dX6_hint_5 (by decide) (fun h5 => ?_) (fun h5 => ?_)
  · refine z_aload_n C dX6_hint_10 rfl ?_
    refine z_iload_n C dX6_hint_11 rfl ?_
    refine z_callVR (As := [.int _]) C (c_X6_plays _ _ ad M _ (by first | assumption | exact m_noG hN (by assumption) | exact m_noD hN (by assumption) | exact m_noK hN (by assumption))) kc_X6_plays wb_796 ⟨by decide, by decide⟩ hM.1 rfl (hM) ⟨Nat.zero_le _, Nat.zero_le _⟩ (Nat.le_of_ble_eq_true rfl) dX6_hint_12 ?_
    refine z_ifb_ne C 21 dX6_hint_15 (by decide) (fun h15 => ?_) (fun h15 => ?_)
    · have hgv := x_inG hN (r := g) (by assumption)
      have hgl : g.toNatClampNeg < nG := vp_in_clamp hgv
      have hg6 : vp_in g 6 := m_noG hN (by assumption)
      refine z_aload_n C dX6_hint_21 rfl ?_
      refine z_get C (by first | exact hM.1 | exact hM.2.1 _ rfl | exact hM.2.2.1 _ rfl) z_cls7 hu_X6 17 (by decide) wb_652 rfl rfl dX6_hint_22 ?_
      refine z_iload_n C dX6_hint_25 rfl ?_
      refine z_iald C (by first | exact hM.1 | exact hM.2.1 _ rfl | exact hM.2.2.1 _ rfl) (by first | exact z_v0 | first | assumption | exact m_noG hN (by assumption) | exact m_noD hN (by assumption) | exact m_noK hN (by assumption)) (by rfl) dX6_hint_26 ?_
      refine z_aload_n C dX6_hint_27 rfl ?_
      refine z_get C (by first | exact hM.1 | exact hM.2.1 _ rfl | exact hM.2.2.1 _ rfl) z_cls7 hu_X6 20 (by decide) wb_655 rfl rfl dX6_hint_28 ?_
      refine z_iadd C dX6_hint_31 ?_
      refine z_aload_n C dX6_hint_32 rfl ?_
      refine z_get C (by first | exact hM.1 | exact hM.2.1 _ rfl | exact hM.2.2.1 _ rfl) z_cls7 hu_X6 21 (by decide) wb_656 rfl rfl dX6_hint_33 ?_
      refine z_aload_n C dX6_hint_36 rfl ?_
      refine z_get C (by first | exact hM.1 | exact hM.2.1 _ rfl | exact hM.2.2.1 _ rfl) z_cls7 hu_X6 18 (by decide) wb_653 rfl rfl dX6_hint_37 ?_
      refine z_iload_n C dX6_hint_40 rfl ?_
      refine z_iald C (by first | exact hM.1 | exact hM.2.1 _ rfl | exact hM.2.2.1 _ rfl) (by first | exact z_v0 | first | assumption | exact m_noG hN (by assumption) | exact m_noD hN (by assumption) | exact m_noK hN (by assumption)) (by rfl) dX6_hint_41 ?_
      refine z_imul C dX6_hint_42 ?_
      refine z_iadd C dX6_hint_43 ?_
      refine z_istore_n C dX6_hint_44 (by decide) ?_
      refine z_iload_n C dX6_hint_45 rfl ?_
      refine z_ldc C wb_804 dX6_hint_46 ?_
      refine z_icmp_le C 54 dX6_hint_48 (by decide) (fun h48 => ?_) (fun h48 => ?_)
      · have hle : ¬ 100000 < F_ht M g := h48
        have hI2 := m_I_hS hI hH hn hgl (by assumption) hle
        refine z_aload_n C dX6_hint_54 rfl ?_
        refine z_get C (by first | exact hM.1 | exact hM.2.1 _ rfl | exact hM.2.2.1 _ rfl) z_cls7 hu_X6 17 (by decide) wb_652 rfl rfl dX6_hint_55 ?_
        refine z_iload_n C dX6_hint_58 rfl ?_
        refine z_iload_n C dX6_hint_59 rfl ?_
        refine z_iast C (by first | exact hM.1 | exact hM.2.1 _ rfl | exact hM.2.2.1 _ rfl) (by exact ⟨_, rfl, rfl⟩) (by first | exact z_v0 | first | assumption | exact m_noG hN (by assumption) | exact m_noD hN (by assumption) | exact m_noK hN (by assumption)) (by rfl) dX6_hint_60 (fun H60 hU60 => ?_)
        have hM := hM.sI hU60 rfl
        refine z_aload_n C dX6_hint_61 rfl ?_
        refine z_get C (by first | exact hM.1 | exact hM.2.1 _ rfl | exact hM.2.2.1 _ rfl) z_cls7 hu_X6 18 (by decide) wb_653 rfl rfl dX6_hint_62 ?_
        refine z_iload_n C dX6_hint_65 rfl ?_
        refine z_dup2 C dX6_hint_66 rfl rfl ?_
        refine z_iald C (by first | exact hM.1 | exact hM.2.1 _ rfl | exact hM.2.2.1 _ rfl) (by first | exact z_v0 | first | assumption | exact m_noG hN (by assumption) | exact m_noD hN (by assumption) | exact m_noK hN (by assumption)) (by rfl) dX6_hint_67 ?_
        refine z_iconst (v := 1) C dX6_hint_68 (by decide) ?_
        refine z_iadd C dX6_hint_69 ?_
        refine z_iast C (by first | exact hM.1 | exact hM.2.1 _ rfl | exact hM.2.2.1 _ rfl) (by exact ⟨_, rfl, rfl⟩) (by first | exact z_v0 | first | assumption | exact m_noG hN (by assumption) | exact m_noD hN (by assumption) | exact m_noK hN (by assumption)) (by rfl) dX6_hint_70 (fun H70 hU70 => ?_)
        have hM := hM.sI hU70 rfl
        have hM : m_R G ad (m_hS M g) H70 := by
          have e : m_hS M g = m_sA (m_sA M 17 g.toNatClampNeg (F_ht M g)) 18 g.toNatClampNeg (M.2 18 g.toNatClampNeg + 1) := rfl
          rw [e]; exact hM
        refine z_aload_n C dX6_hint_71 rfl ?_
        refine z_iload_n C dX6_hint_72 rfl ?_
        refine z_callV (As := [.int _]) C (c_X6_findPlan _ _ ad (m_hS M g) hI2 _ hg6 hgl) kc_X6_findPlan wb_853 ⟨by decide, by decide⟩ hM.1 rfl (hM) (fun _ h => h) ⟨Nat.zero_le _, Nat.zero_le _⟩ (Nat.le_of_ble_eq_true rfl) dX6_hint_73 (fun v H73 hq _ _ => ?_)
        obtain ⟨rfl, M2, hk, hM⟩ := hq
        refine z_aload_n C dX6_hint_76 rfl ?_
        refine z_get C (by first | exact hM.1 | exact hM.2.1 _ rfl | exact hM.2.2.1 _ rfl) z_cls7 hu_X6 28 (by decide) wb_663 rfl rfl dX6_hint_77 ?_
        refine z_if_ge C 88 dX6_hint_80 (by decide) (fun h80 => ?_) (fun h80 => ?_)
        · obtain ⟨p0, hp0, e28, e29, hl10, hc20, hpl⟩ := hk.yes h80
          refine z_aload_n C dX6_hint_88 rfl ?_
          refine z_get C (by first | exact hM.1 | exact hM.2.1 _ rfl | exact hM.2.2.1 _ rfl) z_cls7 hu_X6 29 (by decide) wb_664 rfl rfl dX6_hint_89 ?_
          rw [e29]
          refine z_if_ne C 100 dX6_hint_92 (by decide) (fun h92 => ?_) (fun h92 => ?_)
          · have hp1 : ¬ p0.length = 0 := fun q => h92 (by rw [q]; rfl)
            refine z_aload_n C dX6_hint_100 rfl ?_
            refine z_get C (by first | exact hM.1 | exact hM.2.1 _ rfl | exact hM.2.2.1 _ rfl) z_cls7 hu_X6 30 (by decide) wb_665 rfl rfl dX6_hint_101 ?_
            refine z_iconst (v := 0) C dX6_hint_104 (by decide) ?_
            refine z_iald C (by first | exact hM.1 | exact hM.2.1 _ rfl | exact hM.2.2.1 _ rfl) (by first | exact z_v0 | first | assumption | exact m_noG hN (by assumption) | exact m_noD hN (by assumption) | exact m_noK hN (by assumption)) (by rfl) dX6_hint_105 ?_
            rw [show M2.2 30 (0 : Int32).toNatClampNeg = nI (p_at p0 0) from hpl 0 (by omega)]
            exact z_iret C (by omega) (by omega) dX6_hint_106 (by first | exact ⟨by simp [F_hint, *], M, by simp [F_hint, *, m_Q.refl], hM⟩ | exact ⟨by simp [F_hint, F_ht, *], M, by simp [F_hint, F_ht, *, m_Q.refl], hM⟩ | exact ⟨by simp [F_hint, *], M2, by simp [F_hint, *, hk.1], hM⟩)
          · have hp1 : p0.length = 0 := (nI_inj (b := 0) (by omega) (by omega)).mp h92
            refine z_bipush (v := 16) C dX6_hint_95 (by decide) ?_
            refine z_goto C 106 dX6_hint_97 (by decide) ?_
            exact z_iret C (by omega) (by omega) dX6_hint_106 (by first | exact ⟨by simp [F_hint, *], M, by simp [F_hint, *, m_Q.refl], hM⟩ | exact ⟨by simp [F_hint, F_ht, *], M, by simp [F_hint, F_ht, *, m_Q.refl], hM⟩ | exact ⟨by simp [F_hint, *], M2, by simp [F_hint, *, hk.1], hM⟩)
        · have hno := hk.no (by first | exact h80 | exact Classical.not_not.mp h80)
          refine z_bipush (v := 17) C dX6_hint_83 (by decide) ?_
          refine z_goto C 106 dX6_hint_85 (by decide) ?_
          exact z_iret C (by omega) (by omega) dX6_hint_106 (by first | exact ⟨by simp [F_hint, *], M, by simp [F_hint, *, m_Q.refl], hM⟩ | exact ⟨by simp [F_hint, F_ht, *], M, by simp [F_hint, F_ht, *, m_Q.refl], hM⟩ | exact ⟨by simp [F_hint, *], M2, by simp [F_hint, *, hk.1], hM⟩)
      · have hgt : 100000 < F_ht M g := h48
        refine z_bipush (v := (-5)) C dX6_hint_51 (by decide) ?_
        exact z_iret C (by omega) (by omega) dX6_hint_53 (by first | exact ⟨by simp [F_hint, *], M, by simp [F_hint, *, m_Q.refl], hM⟩ | exact ⟨by simp [F_hint, F_ht, *], M, by simp [F_hint, F_ht, *, m_Q.refl], hM⟩ | exact ⟨by simp [F_hint, *], M2, by simp [F_hint, *, hk.1], hM⟩)
    · refine z_bipush (v := (-4)) C dX6_hint_18 (by decide) ?_
      exact z_iret C (by omega) (by omega) dX6_hint_20 (by first | exact ⟨by simp [F_hint, *], M, by simp [F_hint, *, m_Q.refl], hM⟩ | exact ⟨by simp [F_hint, F_ht, *], M, by simp [F_hint, F_ht, *, m_Q.refl], hM⟩ | exact ⟨by simp [F_hint, *], M2, by simp [F_hint, *, hk.1], hM⟩)
  · refine z_iconst (v := (-1)) C dX6_hint_8 (by decide) ?_
    exact z_iret C (by omega) (by omega) dX6_hint_9 (by first | exact ⟨by simp [F_hint, *], M, by simp [F_hint, *, m_Q.refl], hM⟩ | exact ⟨by simp [F_hint, F_ht, *], M, by simp [F_hint, F_ht, *, m_Q.refl], hM⟩ | exact ⟨by simp [F_hint, *], M2, by simp [F_hint, *, hk.1], hM⟩)
