set_option maxHeartbeats 4000000 in
set_option maxRecDepth 100000 in
theorem c_X6_passes (l : Launch) (G : z_G) (ad : Nat → Nat) (M : m_S) (f t d : Int32) (hf : vp_in f 12) (ht : vp_in t 12) (hd : vp_in d 16) : z_M l yX6_passes cX6_passes 5 (some .boolean) 0 0 0 [.ref (ad 0), .int f, .int t, .int d] G (fun H => m_R G ad M H) (m_A ad) ((fun v _ H => v = some (.int (z_b (F_passes M f t d).1)) ∧ m_R G ad (F_passes M f t d).2 H)) := by
  refine z_M.of (by decide +kernel) (Nat.le_of_ble_eq_true rfl) ?_
  intro p e s m below meth c C hP
  have hM : m_R G ad M s.heap := hP
  refine z_aload_n C dX6_passes_0 rfl ?_
  refine z_get C (by first | exact hM.1 | exact hM.2.1 _ rfl | exact hM.2.2.1 _ rfl) z_cls7 hu_X6 31 (by decide) wb_666 rfl rfl dX6_passes_1 ?_
  refine z_iload_n C dX6_passes_4 rfl ?_
  refine z_iald C (by first | exact hM.1 | exact hM.2.1 _ rfl | exact hM.2.2.1 _ rfl) (by first | exact hf | exact ht | exact hd) (by rfl) dX6_passes_5 ?_
  refine z_ldc C wb_900 dX6_passes_6 ?_
  refine z_icmp_ne C 13 dX6_passes_8 (by decide) (fun h8 => ?_) (fun h8 => ?_)
  · refine z_aload_n C dX6_passes_13 rfl ?_
    refine z_get C (by first | exact hM.1 | exact hM.2.1 _ rfl | exact hM.2.2.1 _ rfl) z_cls7 hu_X6 31 (by decide) wb_666 rfl rfl dX6_passes_14 ?_
    refine z_iload_n C dX6_passes_17 rfl ?_
    refine z_iald C (by first | exact hM.1 | exact hM.2.1 _ rfl | exact hM.2.2.1 _ rfl) (by first | exact hf | exact ht | exact hd) (by rfl) dX6_passes_18 ?_
    refine z_aload_n C dX6_passes_19 rfl ?_
    refine z_get C (by first | exact hM.1 | exact hM.2.1 _ rfl | exact hM.2.2.1 _ rfl) z_cls7 hu_X6 8 (by decide) wb_643 rfl rfl dX6_passes_20 ?_
    refine z_iload_n C dX6_passes_23 rfl ?_
    refine z_iald C (by first | exact hM.1 | exact hM.2.1 _ rfl | exact hM.2.2.1 _ rfl) (by first | exact hf | exact ht | exact hd) (by rfl) dX6_passes_24 ?_
    refine z_icmp_ge C 37 dX6_passes_25 (by decide) (fun h25 => ?_) (fun h25 => ?_)
    · refine z_aload_n C dX6_passes_37 rfl ?_
      refine z_get C (by first | exact hM.1 | exact hM.2.1 _ rfl | exact hM.2.2.1 _ rfl) z_cls7 hu_X6 31 (by decide) wb_666 rfl rfl dX6_passes_38 ?_
      refine z_iload_n C dX6_passes_41 rfl ?_
      refine z_iald C (by first | exact hM.1 | exact hM.2.1 _ rfl | exact hM.2.2.1 _ rfl) (by first | exact hf | exact ht | exact hd) (by rfl) dX6_passes_42 ?_
      refine z_aload_n C dX6_passes_43 rfl ?_
      refine z_get C (by first | exact hM.1 | exact hM.2.1 _ rfl | exact hM.2.2.1 _ rfl) z_cls7 hu_X6 5 (by decide) wb_640 rfl rfl dX6_passes_44 ?_
      refine z_iload_n C dX6_passes_47 rfl ?_
      refine z_iald C (by first | exact hM.1 | exact hM.2.1 _ rfl | exact hM.2.2.1 _ rfl) (by first | exact hf | exact ht | exact hd) (by rfl) dX6_passes_48 ?_
      refine z_iadd C dX6_passes_49 ?_
      refine z_istore C dX6_passes_50 (by decide) ?_
      refine z_iload C dX6_passes_52 rfl ?_
      refine z_aload_n C dX6_passes_54 rfl ?_
      refine z_get C (by first | exact hM.1 | exact hM.2.1 _ rfl | exact hM.2.2.1 _ rfl) z_cls7 hu_X6 31 (by decide) wb_666 rfl rfl dX6_passes_55 ?_
      refine z_iload_n C dX6_passes_58 rfl ?_
      refine z_iald C (by first | exact hM.1 | exact hM.2.1 _ rfl | exact hM.2.2.1 _ rfl) (by first | exact hf | exact ht | exact hd) (by rfl) dX6_passes_59 ?_
      refine z_icmp_lt C 65 dX6_passes_60 (by decide) (fun h60 => ?_) (fun h60 => ?_)
      · refine z_aload_n C dX6_passes_65 rfl ?_
        refine z_get C (by first | exact hM.1 | exact hM.2.1 _ rfl | exact hM.2.2.1 _ rfl) z_cls7 hu_X6 31 (by decide) wb_666 rfl rfl dX6_passes_66 ?_
        refine z_iload_n C dX6_passes_69 rfl ?_
        refine z_iload C dX6_passes_70 rfl ?_
        refine z_iast C (by first | exact hM.1 | exact hM.2.1 _ rfl | exact hM.2.2.1 _ rfl) (by exact ⟨_, rfl, rfl⟩) (by first | exact hf | exact ht | exact hd) (by rfl) dX6_passes_72 (fun H72 hU72 => ?_)
        have hM := hM.sI hU72 rfl
        refine z_iconst (v := 1) C dX6_passes_73 (by decide) ?_
        exact z_bret C (by omega) (by omega) dX6_passes_74 (by rfl) (by first | contradiction | simp [F_passes, m_later, z_b, *])
      · refine z_iconst (v := 0) C dX6_passes_63 (by decide) ?_
        exact z_bret C (by omega) (by omega) dX6_passes_64 (by rfl) (by first | contradiction | simp [F_passes, m_later, z_b, *])
    · refine z_aload_n C dX6_passes_28 rfl ?_
      refine z_get C (by first | exact hM.1 | exact hM.2.1 _ rfl | exact hM.2.2.1 _ rfl) z_cls7 hu_X6 8 (by decide) wb_643 rfl rfl dX6_passes_29 ?_
      refine z_iload_n C dX6_passes_32 rfl ?_
      refine z_iald C (by first | exact hM.1 | exact hM.2.1 _ rfl | exact hM.2.2.1 _ rfl) (by first | exact hf | exact ht | exact hd) (by rfl) dX6_passes_33 ?_
      refine z_goto C 43 dX6_passes_34 (by decide) ?_
      refine z_aload_n C dX6_passes_43 rfl ?_
      refine z_get C (by first | exact hM.1 | exact hM.2.1 _ rfl | exact hM.2.2.1 _ rfl) z_cls7 hu_X6 5 (by decide) wb_640 rfl rfl dX6_passes_44 ?_
      refine z_iload_n C dX6_passes_47 rfl ?_
      refine z_iald C (by first | exact hM.1 | exact hM.2.1 _ rfl | exact hM.2.2.1 _ rfl) (by first | exact hf | exact ht | exact hd) (by rfl) dX6_passes_48 ?_
      refine z_iadd C dX6_passes_49 ?_
      refine z_istore C dX6_passes_50 (by decide) ?_
      refine z_iload C dX6_passes_52 rfl ?_
      refine z_aload_n C dX6_passes_54 rfl ?_
      refine z_get C (by first | exact hM.1 | exact hM.2.1 _ rfl | exact hM.2.2.1 _ rfl) z_cls7 hu_X6 31 (by decide) wb_666 rfl rfl dX6_passes_55 ?_
      refine z_iload_n C dX6_passes_58 rfl ?_
      refine z_iald C (by first | exact hM.1 | exact hM.2.1 _ rfl | exact hM.2.2.1 _ rfl) (by first | exact hf | exact ht | exact hd) (by rfl) dX6_passes_59 ?_
      refine z_icmp_lt C 65 dX6_passes_60 (by decide) (fun h60 => ?_) (fun h60 => ?_)
      · refine z_aload_n C dX6_passes_65 rfl ?_
        refine z_get C (by first | exact hM.1 | exact hM.2.1 _ rfl | exact hM.2.2.1 _ rfl) z_cls7 hu_X6 31 (by decide) wb_666 rfl rfl dX6_passes_66 ?_
        refine z_iload_n C dX6_passes_69 rfl ?_
        refine z_iload C dX6_passes_70 rfl ?_
        refine z_iast C (by first | exact hM.1 | exact hM.2.1 _ rfl | exact hM.2.2.1 _ rfl) (by exact ⟨_, rfl, rfl⟩) (by first | exact hf | exact ht | exact hd) (by rfl) dX6_passes_72 (fun H72 hU72 => ?_)
        have hM := hM.sI hU72 rfl
        refine z_iconst (v := 1) C dX6_passes_73 (by decide) ?_
        exact z_bret C (by omega) (by omega) dX6_passes_74 (by rfl) (by first | contradiction | simp [F_passes, m_later, z_b, *])
      · refine z_iconst (v := 0) C dX6_passes_63 (by decide) ?_
        exact z_bret C (by omega) (by omega) dX6_passes_64 (by rfl) (by first | contradiction | simp [F_passes, m_later, z_b, *])
  · refine z_iconst (v := 0) C dX6_passes_11 (by decide) ?_
    exact z_bret C (by omega) (by omega) dX6_passes_12 (by rfl) (by first | contradiction | simp [F_passes, m_later, z_b, *])
