/-! the law's calls of groups: walks, unlocks, keys, hints -/
section YJH
variable {p : Program} {l : Launch} {e : Env} {R : Room} {s : State} {m : MethodId} {args : Array Value} {below : List Frame} {meth : Method} {c : Code} {A : Nat → Prop} {n cells slots : Nat} {Q : State → Prop} {H : Heap} {pc : Nat} {L : List (Nat × Value)} {rest : List Value}
theorem z_joinH (J : Nat) (v : Int32) (I : Heap → Prop) (hI : I H) (kJ : ∀ H', I H' → z_Z p l e R s m args below meth c A n cells slots Q H' J L (.int v :: rest)) (kb : (∀ H', I H' → z_Z p l e R s m args below meth c A n cells slots Q H' J L (.int v :: rest)) → z_Z p l e R s m args below meth c A n cells slots Q H pc L rest) : z_Z p l e R s m args below meth c A n cells slots Q H pc L rest := kb kJ
end YJH
set_option maxHeartbeats 4000000 in
set_option maxRecDepth 100000 in
theorem c_L_walks (l : Launch) (G : z_G) (b0 ax : Nat) (M : m_S) (t4 : Int32) {nR nD nK nG : Nat} (hI : m_I nR nD nK nG M) (g d : Nat) (hg : g < nG) (hd : d < nD) : z_M l yL_walks cL_walks 9 (some .boolean) 6 0 0 [.ref ax, .int (nI g), .int (nI d)] G (fun H => y_S G b0 ax nR nD nK nG M t4 H) (fun q => b0 ≤ q) (fun v _ H => v = some (.int 1) ∧ y_S G b0 ax nR nD nK nG (F_walk M (nI g) (nI d)).2 t4 H) := by
  refine z_M.of (by decide +kernel) (Nat.le_of_ble_eq_true rfl) ?_
  intro p e s m below meth c C hP
  obtain ⟨ad, rfl, hX, hB⟩ := (hP : y_S G b0 ax nR nD nK nG M t4 s.heap)
  have hs := y_nsm hI
  have hI2 := m_I_walk hI (nI g) (nI d)
  refine z_aload_n C dL_walks_0 rfl ?_
  refine z_iload_n C dL_walks_1 rfl ?_
  refine z_iconst (v := 2) C dL_walks_2 (by decide) ?_
  refine y_callR (As := [.int _, .int _]) C hX rfl (fun T _ => c_X5_group _ _ ad M T hI _ _) kc_X5_group wb_p410 ⟨by decide, by decide⟩ ⟨Nat.zero_le _, Nat.zero_le _⟩ (Nat.le_of_ble_eq_true rfl) dL_walks_3 ?_
  rw [y_g2 hI hg]
  refine z_istore_n C dL_walks_6 (by decide) ?_
  refine z_aload_n C dL_walks_7 rfl ?_
  refine z_iload_n C dL_walks_8 rfl ?_
  refine z_iconst (v := 1) C dL_walks_9 (by decide) ?_
  refine y_callR (As := [.int _, .int _]) C hX rfl (fun T _ => c_X5_group _ _ ad M T hI _ _) kc_X5_group wb_p410 ⟨by decide, by decide⟩ ⟨Nat.zero_le _, Nat.zero_le _⟩ (Nat.le_of_ble_eq_true rfl) dL_walks_10 ?_
  rw [y_g1 hI hg]
  refine z_istore C dL_walks_13 (by decide) ?_
  refine z_aload_n C dL_walks_15 rfl ?_
  refine z_iload_n C dL_walks_16 rfl ?_
  refine z_iconst (v := 5) C dL_walks_17 (by decide) ?_
  refine y_callR (As := [.int _, .int _]) C hX rfl (fun T _ => c_X5_door _ _ ad M T hI _ _) kc_X5_door wb_p544 ⟨by decide, by decide⟩ ⟨Nat.zero_le _, Nat.zero_le _⟩ (Nat.le_of_ble_eq_true rfl) dL_walks_18 ?_
  rw [y_d5 hI hd]
  refine z_istore C dL_walks_21 (by decide) ?_
  refine z_join 50 (z_b (m_at M (nI d) (M.2 16 g))) ?_ (fun kJ50 => ?_)
  · refine z_istore C dL_walks_50 (by decide) ?_
    refine z_join 64 (m_later (M.2 17 g) (M.2 8 d)) ?_ (fun kJ64 => ?_)
    · refine z_aload_n C dL_walks_64 rfl ?_
      refine z_iload_n C dL_walks_65 rfl ?_
      refine z_iconst (v := 2) C dL_walks_66 (by decide) ?_
      refine y_callR (As := [.int _, .int _]) C hX rfl (fun T _ => c_X5_door _ _ ad M T hI _ _) kc_X5_door wb_p544 ⟨by decide, by decide⟩ ⟨Nat.zero_le _, Nat.zero_le _⟩ (Nat.le_of_ble_eq_true rfl) dL_walks_67 ?_
      rw [y_d2 hI hd]
      refine z_iadd C dL_walks_70 ?_
      refine z_istore C dL_walks_71 (by decide) ?_
      refine z_join 111 ((F_walk M (nI g) (nI d)).1) ?_ (fun kJ111 => ?_)
      · refine z_istore C dL_walks_111 (by decide) ?_
        refine z_aload_n C dL_walks_113 rfl ?_
        refine z_iload_n C dL_walks_114 rfl ?_
        refine z_iload_n C dL_walks_115 rfl ?_
        refine y_callW (As := [.int _, .int _]) C hX rfl (fun T _ => c_X5_walk _ _ ad M T hI _ _) (fun T v H' hT hq => y_qW hT hq) hB.xA kc_X5_walk wb_p590 ⟨by decide, by decide⟩ ⟨Nat.zero_le _, Nat.zero_le _⟩ (Nat.le_of_ble_eq_true rfl) dL_walks_116 (fun H116 hX116 hF116 => ?_)
        replace hX := hX116
        replace hB := hB.fr hF116
        refine z_iload C dL_walks_119 rfl ?_
        refine z_icmp_ne C 183 dL_walks_121 (by decide) (fun h121 => ?_) (fun h121 => ?_)
        · exact absurd rfl h121
        · refine z_aload_n C dL_walks_124 rfl ?_
          refine z_iload_n C dL_walks_125 rfl ?_
          refine z_iconst (v := 2) C dL_walks_126 (by decide) ?_
          refine y_callR (As := [.int _, .int _]) C hX rfl (fun T _ => c_X5_group _ _ ad (F_walk M (nI g) (nI d)).2 T hI2 _ _) kc_X5_group wb_p410 ⟨by decide, by decide⟩ ⟨Nat.zero_le _, Nat.zero_le _⟩ (Nat.le_of_ble_eq_true rfl) dL_walks_127 ?_
          rw [y_g2 hI2 hg]
          refine z_iload C dL_walks_130 rfl ?_
          refine z_if_ge C 139 dL_walks_132 (by decide) (fun h132 => ?_) (fun h132 => ?_)
          · refine z_iload C dL_walks_139 rfl ?_
            refine z_icmp_ne C 183 dL_walks_141 (by decide) (fun h141 => ?_) (fun h141 => ?_)
            · first | exact absurd (congrArg (fun z => z.2 17 g) (y_walk_neg hI hg hd (by assumption))) h141 | exact absurd (y_walk_pos hI hg hd (by assumption)).1 h141
            · refine z_aload_n C dL_walks_144 rfl ?_
              refine z_iload_n C dL_walks_145 rfl ?_
              refine z_iconst (v := 1) C dL_walks_146 (by decide) ?_
              refine y_callR (As := [.int _, .int _]) C hX rfl (fun T _ => c_X5_group _ _ ad (F_walk M (nI g) (nI d)).2 T hI2 _ _) kc_X5_group wb_p410 ⟨by decide, by decide⟩ ⟨Nat.zero_le _, Nat.zero_le _⟩ (Nat.le_of_ble_eq_true rfl) dL_walks_147 ?_
              rw [y_g1 hI2 hg]
              refine z_iload C dL_walks_150 rfl ?_
              refine z_if_ge C 160 dL_walks_152 (by decide) (fun h152 => ?_) (fun h152 => ?_)
              · refine z_aload_n C dL_walks_160 rfl ?_
                refine z_iload_n C dL_walks_161 rfl ?_
                refine z_iconst (v := 0) C dL_walks_162 (by decide) ?_
                refine y_callR (As := [.int _, .int _]) C hX rfl (fun T _ => c_X5_door _ _ ad (F_walk M (nI g) (nI d)).2 T hI2 _ _) kc_X5_door wb_p544 ⟨by decide, by decide⟩ ⟨Nat.zero_le _, Nat.zero_le _⟩ (Nat.le_of_ble_eq_true rfl) dL_walks_163 ?_
                rw [y_d0 hI2 hd]
                refine z_aload_n C dL_walks_166 rfl ?_
                refine z_iload_n C dL_walks_167 rfl ?_
                refine z_iconst (v := 1) C dL_walks_168 (by decide) ?_
                refine y_callR (As := [.int _, .int _]) C hX rfl (fun T _ => c_X5_door _ _ ad (F_walk M (nI g) (nI d)).2 T hI2 _ _) kc_X5_door wb_p544 ⟨by decide, by decide⟩ ⟨Nat.zero_le _, Nat.zero_le _⟩ (Nat.le_of_ble_eq_true rfl) dL_walks_169 ?_
                rw [y_d1 hI2 hd]
                refine z_iadd C dL_walks_172 ?_
                refine z_iload C dL_walks_173 rfl ?_
                refine z_isub C dL_walks_175 ?_
                refine z_icmp_ne C 183 dL_walks_176 (by decide) (fun h176 => ?_) (fun h176 => ?_)
                · first | exact absurd (congrArg (fun z => z.2 16 g) (y_walk_neg hI hg hd (by assumption))) h176 | exact absurd (by rw [← y_lo hI2 hd, ← y_hi hI2 hd]; exact (y_walk_pos hI hg hd (by assumption)).2) h176
                · refine z_iconst (v := 1) C dL_walks_179 (by decide) ?_
                  refine z_goto C 184 dL_walks_180 (by decide) ?_
                  exact z_bret C (by omega) (by omega) dL_walks_184 (by rfl) (by exact ⟨rfl, y_S.of hX hB⟩)
              · refine z_iload C dL_walks_155 rfl ?_
                refine z_goto C 176 dL_walks_157 (by decide) ?_
                refine z_icmp_ne C 183 dL_walks_176 (by decide) (fun h176 => ?_) (fun h176 => ?_)
                · first | exact absurd (congrArg (fun z => z.2 16 g) (y_walk_neg hI hg hd (by assumption))) h176 | exact absurd (by rw [← y_lo hI2 hd, ← y_hi hI2 hd]; exact (y_walk_pos hI hg hd (by assumption)).2) h176
                · refine z_iconst (v := 1) C dL_walks_179 (by decide) ?_
                  refine z_goto C 184 dL_walks_180 (by decide) ?_
                  exact z_bret C (by omega) (by omega) dL_walks_184 (by rfl) (by exact ⟨rfl, y_S.of hX hB⟩)
          · refine z_iload_n C dL_walks_135 rfl ?_
            refine z_goto C 141 dL_walks_136 (by decide) ?_
            refine z_icmp_ne C 183 dL_walks_141 (by decide) (fun h141 => ?_) (fun h141 => ?_)
            · first | exact absurd (congrArg (fun z => z.2 17 g) (y_walk_neg hI hg hd (by assumption))) h141 | exact absurd (y_walk_pos hI hg hd (by assumption)).1 h141
            · refine z_aload_n C dL_walks_144 rfl ?_
              refine z_iload_n C dL_walks_145 rfl ?_
              refine z_iconst (v := 1) C dL_walks_146 (by decide) ?_
              refine y_callR (As := [.int _, .int _]) C hX rfl (fun T _ => c_X5_group _ _ ad (F_walk M (nI g) (nI d)).2 T hI2 _ _) kc_X5_group wb_p410 ⟨by decide, by decide⟩ ⟨Nat.zero_le _, Nat.zero_le _⟩ (Nat.le_of_ble_eq_true rfl) dL_walks_147 ?_
              rw [y_g1 hI2 hg]
              refine z_iload C dL_walks_150 rfl ?_
              refine z_if_ge C 160 dL_walks_152 (by decide) (fun h152 => ?_) (fun h152 => ?_)
              · refine z_aload_n C dL_walks_160 rfl ?_
                refine z_iload_n C dL_walks_161 rfl ?_
                refine z_iconst (v := 0) C dL_walks_162 (by decide) ?_
                refine y_callR (As := [.int _, .int _]) C hX rfl (fun T _ => c_X5_door _ _ ad (F_walk M (nI g) (nI d)).2 T hI2 _ _) kc_X5_door wb_p544 ⟨by decide, by decide⟩ ⟨Nat.zero_le _, Nat.zero_le _⟩ (Nat.le_of_ble_eq_true rfl) dL_walks_163 ?_
                rw [y_d0 hI2 hd]
                refine z_aload_n C dL_walks_166 rfl ?_
                refine z_iload_n C dL_walks_167 rfl ?_
                refine z_iconst (v := 1) C dL_walks_168 (by decide) ?_
                refine y_callR (As := [.int _, .int _]) C hX rfl (fun T _ => c_X5_door _ _ ad (F_walk M (nI g) (nI d)).2 T hI2 _ _) kc_X5_door wb_p544 ⟨by decide, by decide⟩ ⟨Nat.zero_le _, Nat.zero_le _⟩ (Nat.le_of_ble_eq_true rfl) dL_walks_169 ?_
                rw [y_d1 hI2 hd]
                refine z_iadd C dL_walks_172 ?_
                refine z_iload C dL_walks_173 rfl ?_
                refine z_isub C dL_walks_175 ?_
                refine z_icmp_ne C 183 dL_walks_176 (by decide) (fun h176 => ?_) (fun h176 => ?_)
                · first | exact absurd (congrArg (fun z => z.2 16 g) (y_walk_neg hI hg hd (by assumption))) h176 | exact absurd (by rw [← y_lo hI2 hd, ← y_hi hI2 hd]; exact (y_walk_pos hI hg hd (by assumption)).2) h176
                · refine z_iconst (v := 1) C dL_walks_179 (by decide) ?_
                  refine z_goto C 184 dL_walks_180 (by decide) ?_
                  exact z_bret C (by omega) (by omega) dL_walks_184 (by rfl) (by exact ⟨rfl, y_S.of hX hB⟩)
              · refine z_iload C dL_walks_155 rfl ?_
                refine z_goto C 176 dL_walks_157 (by decide) ?_
                refine z_icmp_ne C 183 dL_walks_176 (by decide) (fun h176 => ?_) (fun h176 => ?_)
                · first | exact absurd (congrArg (fun z => z.2 16 g) (y_walk_neg hI hg hd (by assumption))) h176 | exact absurd (by rw [← y_lo hI2 hd, ← y_hi hI2 hd]; exact (y_walk_pos hI hg hd (by assumption)).2) h176
                · refine z_iconst (v := 1) C dL_walks_179 (by decide) ?_
                  refine z_goto C 184 dL_walks_180 (by decide) ?_
                  exact z_bret C (by omega) (by omega) dL_walks_184 (by rfl) (by exact ⟨rfl, y_S.of hX hB⟩)
      · refine z_aload_n C dL_walks_73 rfl ?_
        refine z_iload_n C dL_walks_74 rfl ?_
        refine z_iconst (v := 5) C dL_walks_75 (by decide) ?_
        refine y_callR (As := [.int _, .int _]) C hX rfl (fun T _ => c_X5_group _ _ ad M T hI _ _) kc_X5_group wb_p410 ⟨by decide, by decide⟩ ⟨Nat.zero_le _, Nat.zero_le _⟩ (Nat.le_of_ble_eq_true rfl) dL_walks_76 ?_
        rw [y_g5 hI hg]
        refine z_if_ne C 92 dL_walks_79 (by decide) (fun h79 => ?_) (fun h79 => ?_)
        · refine z_bipush (v := (-4)) C dL_walks_92 (by decide) ?_
          refine z_goto C 111 dL_walks_94 (by decide) ?_
          exact z_joinE kJ111 (by rw [y_walk_eq hI hg hd]; simp [m_pl, y_cg hI hg, *])
        · refine z_iload C dL_walks_82 rfl ?_
          refine z_ifb_eq C 92 dL_walks_84 (by decide) (fun h84 => ?_) (fun h84 => ?_)
          · refine z_bipush (v := (-4)) C dL_walks_92 (by decide) ?_
            refine z_goto C 111 dL_walks_94 (by decide) ?_
            exact z_joinE kJ111 (by rw [y_walk_eq hI hg hd]; simp [m_pl, y_cg hI hg, *])
          · refine z_iload C dL_walks_87 rfl ?_
            refine z_if_ge C 97 dL_walks_89 (by decide) (fun h89 => ?_) (fun h89 => ?_)
            · refine z_iload C dL_walks_97 rfl ?_
              refine z_ldc C wb_p533 dL_walks_99 ?_
              refine z_icmp_le C 109 dL_walks_101 (by decide) (fun h101 => ?_) (fun h101 => ?_)
              · refine z_iload C dL_walks_109 rfl ?_
                exact z_joinE kJ111 (by rw [y_walk_eq hI hg hd]; simp [m_pl, y_cg hI hg, *])
              · refine z_bipush (v := (-5)) C dL_walks_104 (by decide) ?_
                refine z_goto C 111 dL_walks_106 (by decide) ?_
                exact z_joinE kJ111 (by rw [y_walk_eq hI hg hd]; simp [m_pl, y_cg hI hg, *])
            · refine z_bipush (v := (-4)) C dL_walks_92 (by decide) ?_
              refine z_goto C 111 dL_walks_94 (by decide) ?_
              exact z_joinE kJ111 (by rw [y_walk_eq hI hg hd]; simp [m_pl, y_cg hI hg, *])
    · refine z_iload_n C dL_walks_52 rfl ?_
      refine z_iload C dL_walks_53 rfl ?_
      refine z_icmp_ge C 63 dL_walks_55 (by decide) (fun h55 => ?_) (fun h55 => ?_)
      · refine z_iload_n C dL_walks_63 rfl ?_
        exact z_joinE kJ64 (by simp [m_later, *])
      · refine z_iload C dL_walks_58 rfl ?_
        refine z_goto C 64 dL_walks_60 (by decide) ?_
        exact z_joinE kJ64 (by simp [m_later, *])
  · refine z_aload_n C dL_walks_23 rfl ?_
    refine z_iload_n C dL_walks_24 rfl ?_
    refine z_iconst (v := 0) C dL_walks_25 (by decide) ?_
    refine y_callR (As := [.int _, .int _]) C hX rfl (fun T _ => c_X5_door _ _ ad M T hI _ _) kc_X5_door wb_p544 ⟨by decide, by decide⟩ ⟨Nat.zero_le _, Nat.zero_le _⟩ (Nat.le_of_ble_eq_true rfl) dL_walks_26 ?_
    rw [y_d0 hI hd]
    refine z_iload C dL_walks_29 rfl ?_
    refine z_icmp_eq C 45 dL_walks_31 (by decide) (fun h31 => ?_) (fun h31 => ?_)
    · refine z_iconst (v := 1) C dL_walks_45 (by decide) ?_
      refine z_goto C 50 dL_walks_46 (by decide) ?_
      exact z_joinE kJ50 (by simp [z_b, m_at, y_cd hI hd, y_lo hI hd, y_hi hI hd, *])
    · refine z_aload_n C dL_walks_34 rfl ?_
      refine z_iload_n C dL_walks_35 rfl ?_
      refine z_iconst (v := 1) C dL_walks_36 (by decide) ?_
      refine y_callR (As := [.int _, .int _]) C hX rfl (fun T _ => c_X5_door _ _ ad M T hI _ _) kc_X5_door wb_p544 ⟨by decide, by decide⟩ ⟨Nat.zero_le _, Nat.zero_le _⟩ (Nat.le_of_ble_eq_true rfl) dL_walks_37 ?_
      rw [y_d1 hI hd]
      refine z_iload C dL_walks_40 rfl ?_
      refine z_icmp_ne C 49 dL_walks_42 (by decide) (fun h42 => ?_) (fun h42 => ?_)
      · refine z_iconst (v := 0) C dL_walks_49 (by decide) ?_
        exact z_joinE kJ50 (by simp [z_b, m_at, y_cd hI hd, y_lo hI hd, y_hi hI hd, *])
      · refine z_iconst (v := 1) C dL_walks_45 (by decide) ?_
        refine z_goto C 50 dL_walks_46 (by decide) ?_
        exact z_joinE kJ50 (by simp [z_b, m_at, y_cd hI hd, y_lo hI hd, y_hi hI hd, *])

set_option maxHeartbeats 4000000 in
set_option maxRecDepth 100000 in
theorem c_L_unlocks (l : Launch) (G : z_G) (b0 ax : Nat) (M : m_S) (t4 : Int32) {nR nD nK nG : Nat} (hI : m_I nR nD nK nG M) (g d : Nat) (hg : g < nG) (hd : d < nD) : z_M l yL_unlocks cL_unlocks 8 (some .boolean) 6 0 0 [.ref ax, .int (nI g), .int (nI d)] G (fun H => y_S G b0 ax nR nD nK nG M t4 H) (fun q => b0 ≤ q) (fun v _ H => v = some (.int 1) ∧ y_S G b0 ax nR nD nK nG (F_unlock M nK (nI g) (nI d)).2 t4 H) := by
  refine z_M.of (by decide +kernel) (Nat.le_of_ble_eq_true rfl) ?_
  intro p e s m below meth c C hP
  obtain ⟨ad, rfl, hX, hB⟩ := (hP : y_S G b0 ax nR nD nK nG M t4 s.heap)
  have hs := y_nsm hI
  have hI2 := m_I_unlock hI (nI g) (nI d)
  refine z_aload_n C dL_unlocks_0 rfl ?_
  refine z_iload_n C dL_unlocks_1 rfl ?_
  refine z_iconst (v := 2) C dL_unlocks_2 (by decide) ?_
  refine y_callR (As := [.int _, .int _]) C hX rfl (fun T _ => c_X5_group _ _ ad M T hI _ _) kc_X5_group wb_p410 ⟨by decide, by decide⟩ ⟨Nat.zero_le _, Nat.zero_le _⟩ (Nat.le_of_ble_eq_true rfl) dL_unlocks_3 ?_
  rw [y_g2 hI hg]
  refine z_istore_n C dL_unlocks_6 (by decide) ?_
  refine z_join 42 (z_b (m_at M (nI d) (M.2 16 g))) ?_ (fun kJ42 => ?_)
  · refine z_istore C dL_unlocks_42 (by decide) ?_
    refine z_iconst (v := (-1)) C dL_unlocks_44 (by decide) ?_
    refine z_istore C dL_unlocks_45 (by decide) ?_
    refine z_aload_n C dL_unlocks_47 rfl ?_
    refine z_iconst (v := 2) C dL_unlocks_48 (by decide) ?_
    refine y_callR (As := [.int _]) C hX rfl (fun T hT4 => c_X5_countR _ _ ad M T hI _ (by decide) (fun h => absurd h (by decide))) kc_X5_count wb_p434 ⟨by decide, by decide⟩ ⟨Nat.zero_le _, Nat.zero_le _⟩ (Nat.le_of_ble_eq_true rfl) dL_unlocks_49 ?_
    rw [y_c2 hI]
    refine z_iconst (v := 1) C dL_unlocks_52 (by decide) ?_
    refine z_isub C dL_unlocks_53 ?_
    refine z_istore C dL_unlocks_54 (by decide) ?_
    refine z_loopS (fun q : Nat × Int32 => q.1) (fun q H1 => H1 = s.heap ∧ q.1 ≤ nK ∧ y_kI (fun k => m_ho M (nI g) (nI k) && decide (M.2 10 k = M.2 6 d)) nK q.1 q.2) (fun q => [(0, .ref (ad 4 0)), (1, .int (nI g)), (2, .int (nI d)), (3, .int (M.2 17 g)), (4, .int (z_b (m_at M (nI d) (M.2 16 g)))), (5, .int q.2), (6, .int (nI q.1 - 1))]) (nK, -1) ⟨rfl, Nat.le_refl _, y_kI.zero⟩ ⟨rfl, rfl, rfl, rfl, rfl, rfl, rfl, trivial⟩ (fun q H1 hI1 ih => ?_)
    obtain ⟨i0, kv⟩ := q
    obtain ⟨rfl, hi0, hk0⟩ := hI1
    dsimp only at hi0 hk0 ih ⊢
    refine z_iload C dL_unlocks_56 rfl ?_
    refine z_if_lt C 103 dL_unlocks_58 (by decide) (fun h58 => ?_) (fun h58 => ?_)
    · obtain rfl : i0 = 0 := y_dec0 (by omega) h58
      have hkd : (kv = -1 ∧ m_kf M nK (nI g) (M.2 6 d) = -6) ∨ ∃ k, k < nK ∧ kv = nI k ∧ m_kf M nK (nI g) (M.2 6 d) = nI k ∧ _ := hk0.done
      have hkn : (m_kf M nK (nI g) (M.2 6 d) < 0) = (kv < 0) := by
        rcases hkd with ⟨e1, e2⟩ | ⟨k, q0, e1, e2, -⟩
        · rw [e1, e2]; decide
        · rw [e1, e2]
      have hkp : ¬ kv < 0 → m_kf M nK (nI g) (M.2 6 d) = kv := by
        intro hk1
        rcases hkd with ⟨e1, e2⟩ | ⟨k, q0, e1, e2, -⟩
        · rw [e1] at hk1; exact absurd (by decide) hk1
        · rw [e1, e2]
      refine z_iload_n C dL_unlocks_103 rfl ?_
      refine z_aload_n C dL_unlocks_104 rfl ?_
      refine z_iload_n C dL_unlocks_105 rfl ?_
      refine z_iconst (v := 4) C dL_unlocks_106 (by decide) ?_
      refine y_callR (As := [.int _, .int _]) C hX rfl (fun T _ => c_X5_door _ _ ad M T hI _ _) kc_X5_door wb_p544 ⟨by decide, by decide⟩ ⟨Nat.zero_le _, Nat.zero_le _⟩ (Nat.le_of_ble_eq_true rfl) dL_unlocks_107 ?_
      rw [y_d4 hI hd]
      refine z_iadd C dL_unlocks_110 ?_
      refine z_istore C dL_unlocks_111 (by decide) ?_
      refine z_join 160 ((F_unlock M nK (nI g) (nI d)).1) ?_ (fun kJ160 => ?_)
      · refine z_istore C dL_unlocks_160 (by decide) ?_
        refine z_aload_n C dL_unlocks_162 rfl ?_
        refine z_iload_n C dL_unlocks_163 rfl ?_
        refine z_iload_n C dL_unlocks_164 rfl ?_
        refine y_callW (As := [.int _, .int _]) C hX rfl (fun T _ => c_X5_unlock _ _ ad M T hI _ _) (fun T v H' hT hq => y_qW hT hq) hB.xA kc_X5_unlock wb_p606 ⟨by decide, by decide⟩ ⟨Nat.zero_le _, Nat.zero_le _⟩ (Nat.le_of_ble_eq_true rfl) dL_unlocks_165 (fun H165 hX165 hF165 => ?_)
        replace hX := hX165
        replace hB := hB.fr hF165
        refine z_iload C dL_unlocks_168 rfl ?_
        refine z_icmp_eq C 175 dL_unlocks_170 (by decide) (fun h170 => ?_) (fun h170 => ?_)
        · refine z_iload C dL_unlocks_175 rfl ?_
          refine z_if_ge C 198 dL_unlocks_177 (by decide) (fun h177 => ?_) (fun h177 => ?_)
          · obtain ⟨k, hi, e1, e2, e11, e12, e10, e8, elt, epl, ekf⟩ := y_unlock_pos hI hg hd h177
            obtain rfl : kv = nI k := by
              rw [← ekf]
              refine (hkp (fun q => ?_)).symm
              rw [← hkn, ekf] at q
              exact absurd q (nI_pos (by omega))
            have u17 : (F_unlock M nK (nI g) (nI d)).2.2 17 g = M.2 17 g + M.2 7 d := by rw [e2, m_sA_arr (by decide), m_sA_arr (by decide), m_sA_arr (by decide), m_sA_at]
            have u8 : (F_unlock M nK (nI g) (nI d)).2.2 8 d = M.2 17 g + M.2 7 d := by rw [e2, m_sA_arr (by decide), m_sA_arr (by decide), m_sA_at]
            have u11 : (F_unlock M nK (nI g) (nI d)).2.2 11 k = 2 := by rw [e2, m_sA_arr (by decide), m_sA_at]
            have u12 : (if (F_unlock M nK (nI g) (nI d)).2.2 11 k = 2 then (F_unlock M nK (nI g) (nI d)).2.2 12 k else -6) = nI d := by rw [u11, if_pos rfl, e2, m_sA_at]
            refine z_aload_n C dL_unlocks_198 rfl ?_
            refine z_iload_n C dL_unlocks_199 rfl ?_
            refine z_iconst (v := 2) C dL_unlocks_200 (by decide) ?_
            refine y_callR (As := [.int _, .int _]) C hX rfl (fun T _ => c_X5_group _ _ ad (F_unlock M nK (nI g) (nI d)).2 T hI2 _ _) kc_X5_group wb_p410 ⟨by decide, by decide⟩ ⟨Nat.zero_le _, Nat.zero_le _⟩ (Nat.le_of_ble_eq_true rfl) dL_unlocks_201 ?_
            rw [y_g2 hI2 hg]
            refine z_iload C dL_unlocks_204 rfl ?_
            refine z_icmp_ne C 246 dL_unlocks_206 (by decide) (fun h206 => ?_) (fun h206 => ?_)
            · exact absurd u17 h206
            · refine z_aload_n C dL_unlocks_209 rfl ?_
              refine z_iload_n C dL_unlocks_210 rfl ?_
              refine z_iconst (v := 5) C dL_unlocks_211 (by decide) ?_
              refine y_callR (As := [.int _, .int _]) C hX rfl (fun T _ => c_X5_door _ _ ad (F_unlock M nK (nI g) (nI d)).2 T hI2 _ _) kc_X5_door wb_p544 ⟨by decide, by decide⟩ ⟨Nat.zero_le _, Nat.zero_le _⟩ (Nat.le_of_ble_eq_true rfl) dL_unlocks_212 ?_
              rw [y_d5 hI2 hd]
              refine z_iload C dL_unlocks_215 rfl ?_
              refine z_icmp_ne C 246 dL_unlocks_217 (by decide) (fun h217 => ?_) (fun h217 => ?_)
              · exact absurd u8 h217
              · refine z_aload_n C dL_unlocks_220 rfl ?_
                refine z_iload C dL_unlocks_221 rfl ?_
                refine z_iconst (v := 1) C dL_unlocks_223 (by decide) ?_
                refine y_callR (As := [.int _, .int _]) C hX rfl (fun T _ => c_X5_key _ _ ad (F_unlock M nK (nI g) (nI d)).2 T hI2 _ _) kc_X5_key wb_p525 ⟨by decide, by decide⟩ ⟨Nat.zero_le _, Nat.zero_le _⟩ (Nat.le_of_ble_eq_true rfl) dL_unlocks_224 ?_
                rw [y_k1 hI2 hi]
                refine z_iconst (v := 2) C dL_unlocks_227 (by decide) ?_
                refine z_icmp_ne C 246 dL_unlocks_228 (by decide) (fun h228 => ?_) (fun h228 => ?_)
                · exact absurd u11 h228
                · refine z_aload_n C dL_unlocks_231 rfl ?_
                  refine z_iload C dL_unlocks_232 rfl ?_
                  refine z_iconst (v := 4) C dL_unlocks_234 (by decide) ?_
                  refine y_callR (As := [.int _, .int _]) C hX rfl (fun T _ => c_X5_key _ _ ad (F_unlock M nK (nI g) (nI d)).2 T hI2 _ _) kc_X5_key wb_p525 ⟨by decide, by decide⟩ ⟨Nat.zero_le _, Nat.zero_le _⟩ (Nat.le_of_ble_eq_true rfl) dL_unlocks_235 ?_
                  rw [y_k4 hI2 hi]
                  refine z_iload_n C dL_unlocks_238 rfl ?_
                  refine z_icmp_ne C 246 dL_unlocks_239 (by decide) (fun h239 => ?_) (fun h239 => ?_)
                  · exact absurd u12 h239
                  · refine z_iconst (v := 1) C dL_unlocks_242 (by decide) ?_
                    refine z_goto C 247 dL_unlocks_243 (by decide) ?_
                    exact z_bret C (by omega) (by omega) dL_unlocks_247 (by rfl) (by exact ⟨rfl, y_S.of hX hB⟩)
          · refine z_aload_n C dL_unlocks_180 rfl ?_
            refine z_iload_n C dL_unlocks_181 rfl ?_
            refine z_iconst (v := 2) C dL_unlocks_182 (by decide) ?_
            refine y_callR (As := [.int _, .int _]) C hX rfl (fun T _ => c_X5_group _ _ ad (F_unlock M nK (nI g) (nI d)).2 T hI2 _ _) kc_X5_group wb_p410 ⟨by decide, by decide⟩ ⟨Nat.zero_le _, Nat.zero_le _⟩ (Nat.le_of_ble_eq_true rfl) dL_unlocks_183 ?_
            rw [y_g2 hI2 hg]
            refine z_iload_n C dL_unlocks_186 rfl ?_
            refine z_icmp_ne C 194 dL_unlocks_187 (by decide) (fun h187 => ?_) (fun h187 => ?_)
            · exact absurd (congrArg (fun z => z.2 17 g) (y_unlock_neg hI hg hd h177)) h187
            · refine z_iconst (v := 1) C dL_unlocks_190 (by decide) ?_
              refine z_goto C 247 dL_unlocks_191 (by decide) ?_
              exact z_bret C (by omega) (by omega) dL_unlocks_247 (by rfl) (by exact ⟨rfl, y_S.of hX hB⟩)
        · exact absurd rfl h170
      · refine z_aload_n C dL_unlocks_113 rfl ?_
        refine z_iload_n C dL_unlocks_114 rfl ?_
        refine z_iconst (v := 5) C dL_unlocks_115 (by decide) ?_
        refine y_callR (As := [.int _, .int _]) C hX rfl (fun T _ => c_X5_group _ _ ad M T hI _ _) kc_X5_group wb_p410 ⟨by decide, by decide⟩ ⟨Nat.zero_le _, Nat.zero_le _⟩ (Nat.le_of_ble_eq_true rfl) dL_unlocks_116 ?_
        rw [y_g5 hI hg]
        refine z_if_ne C 141 dL_unlocks_119 (by decide) (fun h119 => ?_) (fun h119 => ?_)
        · refine z_bipush (v := (-4)) C dL_unlocks_141 (by decide) ?_
          refine z_goto C 160 dL_unlocks_143 (by decide) ?_
          exact z_joinE kJ160 (by rw [y_unlock_eq hI hg hd]; first | (simp [m_pl, y_cg hI hg, hkn, *]; done) | (simp [m_pl, y_cg hI hg, hkn, *]; exact (hkp (by assumption)).symm))
        · refine z_iload C dL_unlocks_122 rfl ?_
          refine z_ifb_eq C 141 dL_unlocks_124 (by decide) (fun h124 => ?_) (fun h124 => ?_)
          · refine z_bipush (v := (-4)) C dL_unlocks_141 (by decide) ?_
            refine z_goto C 160 dL_unlocks_143 (by decide) ?_
            exact z_joinE kJ160 (by rw [y_unlock_eq hI hg hd]; first | (simp [m_pl, y_cg hI hg, hkn, *]; done) | (simp [m_pl, y_cg hI hg, hkn, *]; exact (hkp (by assumption)).symm))
          · refine z_aload_n C dL_unlocks_127 rfl ?_
            refine z_iload_n C dL_unlocks_128 rfl ?_
            refine z_iconst (v := 5) C dL_unlocks_129 (by decide) ?_
            refine y_callR (As := [.int _, .int _]) C hX rfl (fun T _ => c_X5_door _ _ ad M T hI _ _) kc_X5_door wb_p544 ⟨by decide, by decide⟩ ⟨Nat.zero_le _, Nat.zero_le _⟩ (Nat.le_of_ble_eq_true rfl) dL_unlocks_130 ?_
            rw [y_d5 hI hd]
            refine z_if_ge C 141 dL_unlocks_133 (by decide) (fun h133 => ?_) (fun h133 => ?_)
            · refine z_bipush (v := (-4)) C dL_unlocks_141 (by decide) ?_
              refine z_goto C 160 dL_unlocks_143 (by decide) ?_
              exact z_joinE kJ160 (by rw [y_unlock_eq hI hg hd]; first | (simp [m_pl, y_cg hI hg, hkn, *]; done) | (simp [m_pl, y_cg hI hg, hkn, *]; exact (hkp (by assumption)).symm))
            · refine z_iload C dL_unlocks_136 rfl ?_
              refine z_if_ge C 146 dL_unlocks_138 (by decide) (fun h138 => ?_) (fun h138 => ?_)
              · refine z_iload C dL_unlocks_146 rfl ?_
                refine z_ldc C wb_p533 dL_unlocks_148 ?_
                refine z_icmp_le C 158 dL_unlocks_150 (by decide) (fun h150 => ?_) (fun h150 => ?_)
                · refine z_iload C dL_unlocks_158 rfl ?_
                  exact z_joinE kJ160 (by rw [y_unlock_eq hI hg hd]; first | (simp [m_pl, y_cg hI hg, hkn, *]; done) | (simp [m_pl, y_cg hI hg, hkn, *]; exact (hkp (by assumption)).symm))
                · refine z_bipush (v := (-5)) C dL_unlocks_153 (by decide) ?_
                  refine z_goto C 160 dL_unlocks_155 (by decide) ?_
                  exact z_joinE kJ160 (by rw [y_unlock_eq hI hg hd]; first | (simp [m_pl, y_cg hI hg, hkn, *]; done) | (simp [m_pl, y_cg hI hg, hkn, *]; exact (hkp (by assumption)).symm))
              · refine z_bipush (v := (-4)) C dL_unlocks_141 (by decide) ?_
                refine z_goto C 160 dL_unlocks_143 (by decide) ?_
                exact z_joinE kJ160 (by rw [y_unlock_eq hI hg hd]; first | (simp [m_pl, y_cg hI hg, hkn, *]; done) | (simp [m_pl, y_cg hI hg, hkn, *]; exact (hkp (by assumption)).symm))
    · obtain ⟨i, rfl⟩ : ∃ i, i0 = i + 1 := y_decS (by omega) h58
      have hi : i < nK := by omega
      rw [nI_pred]
      refine z_join 95 (if (m_ho M (nI g) (nI i) && decide (M.2 10 i = M.2 6 d)) = true then nI i else kv) ?_ (fun kJ95 => ?_)
      · refine z_istore C dL_unlocks_95 (by decide) ?_
        refine z_iinc C dL_unlocks_97 rfl rfl (by decide) ?_
        refine z_goto C 56 dL_unlocks_100 (by decide) ?_
        exact ih (i, if (m_ho M (nI g) (nI i) && decide (M.2 10 i = M.2 6 d)) = true then nI i else kv) _ _ ⟨rfl, by dsimp only; omega, hk0.next hi⟩ (by dsimp only; omega) ⟨rfl, rfl, rfl, rfl, rfl, rfl, z_lgI rfl (y_dec _), trivial⟩
      · refine z_aload_n C dL_unlocks_61 rfl ?_
        refine z_iload C dL_unlocks_62 rfl ?_
        refine z_iconst (v := 3) C dL_unlocks_64 (by decide) ?_
        refine y_callR (As := [.int _, .int _]) C hX rfl (fun T _ => c_X5_key _ _ ad M T hI _ _) kc_X5_key wb_p525 ⟨by decide, by decide⟩ ⟨Nat.zero_le _, Nat.zero_le _⟩ (Nat.le_of_ble_eq_true rfl) dL_unlocks_65 ?_
        rw [y_k3 hI hi]
        refine z_iload_n C dL_unlocks_68 rfl ?_
        refine z_icmp_ne C 93 dL_unlocks_69 (by decide) (fun h69 => ?_) (fun h69 => ?_)
        · have q69 : m_ho M (nI g) (nI i) = false := by rw [y_ho hI hi]; exact Bool.eq_false_iff.mpr (fun q => h69 ((y_hpI (by omega)).mpr q))
          refine z_iload C dL_unlocks_93 rfl ?_
          exact z_joinE kJ95 (by simp [*])
        · have q69 : m_ho M (nI g) (nI i) = true := by rw [y_ho hI hi]; exact (y_hpI (by omega)).mp h69
          refine z_aload_n C dL_unlocks_72 rfl ?_
          refine z_iload C dL_unlocks_73 rfl ?_
          refine z_iconst (v := 0) C dL_unlocks_75 (by decide) ?_
          refine y_callR (As := [.int _, .int _]) C hX rfl (fun T _ => c_X5_key _ _ ad M T hI _ _) kc_X5_key wb_p525 ⟨by decide, by decide⟩ ⟨Nat.zero_le _, Nat.zero_le _⟩ (Nat.le_of_ble_eq_true rfl) dL_unlocks_76 ?_
          rw [y_k0 hI hi]
          refine z_aload_n C dL_unlocks_79 rfl ?_
          refine z_iload_n C dL_unlocks_80 rfl ?_
          refine z_iconst (v := 3) C dL_unlocks_81 (by decide) ?_
          refine y_callR (As := [.int _, .int _]) C hX rfl (fun T _ => c_X5_door _ _ ad M T hI _ _) kc_X5_door wb_p544 ⟨by decide, by decide⟩ ⟨Nat.zero_le _, Nat.zero_le _⟩ (Nat.le_of_ble_eq_true rfl) dL_unlocks_82 ?_
          rw [y_d3 hI hd]
          refine z_icmp_ne C 93 dL_unlocks_85 (by decide) (fun h85 => ?_) (fun h85 => ?_)
          · refine z_iload C dL_unlocks_93 rfl ?_
            exact z_joinE kJ95 (by simp [*])
          · refine z_iload C dL_unlocks_88 rfl ?_
            refine z_goto C 95 dL_unlocks_90 (by decide) ?_
            exact z_joinE kJ95 (by simp [*])
  · refine z_aload_n C dL_unlocks_7 rfl ?_
    refine z_iload_n C dL_unlocks_8 rfl ?_
    refine z_iconst (v := 0) C dL_unlocks_9 (by decide) ?_
    refine y_callR (As := [.int _, .int _]) C hX rfl (fun T _ => c_X5_door _ _ ad M T hI _ _) kc_X5_door wb_p544 ⟨by decide, by decide⟩ ⟨Nat.zero_le _, Nat.zero_le _⟩ (Nat.le_of_ble_eq_true rfl) dL_unlocks_10 ?_
    rw [y_d0 hI hd]
    refine z_aload_n C dL_unlocks_13 rfl ?_
    refine z_iload_n C dL_unlocks_14 rfl ?_
    refine z_iconst (v := 1) C dL_unlocks_15 (by decide) ?_
    refine y_callR (As := [.int _, .int _]) C hX rfl (fun T _ => c_X5_group _ _ ad M T hI _ _) kc_X5_group wb_p410 ⟨by decide, by decide⟩ ⟨Nat.zero_le _, Nat.zero_le _⟩ (Nat.le_of_ble_eq_true rfl) dL_unlocks_16 ?_
    rw [y_g1 hI hg]
    refine z_icmp_eq C 37 dL_unlocks_19 (by decide) (fun h19 => ?_) (fun h19 => ?_)
    · refine z_iconst (v := 1) C dL_unlocks_37 (by decide) ?_
      refine z_goto C 42 dL_unlocks_38 (by decide) ?_
      exact z_joinE kJ42 (by simp [z_b, m_at, y_cd hI hd, y_lo hI hd, y_hi hI hd, *])
    · refine z_aload_n C dL_unlocks_22 rfl ?_
      refine z_iload_n C dL_unlocks_23 rfl ?_
      refine z_iconst (v := 1) C dL_unlocks_24 (by decide) ?_
      refine y_callR (As := [.int _, .int _]) C hX rfl (fun T _ => c_X5_door _ _ ad M T hI _ _) kc_X5_door wb_p544 ⟨by decide, by decide⟩ ⟨Nat.zero_le _, Nat.zero_le _⟩ (Nat.le_of_ble_eq_true rfl) dL_unlocks_25 ?_
      rw [y_d1 hI hd]
      refine z_aload_n C dL_unlocks_28 rfl ?_
      refine z_iload_n C dL_unlocks_29 rfl ?_
      refine z_iconst (v := 1) C dL_unlocks_30 (by decide) ?_
      refine y_callR (As := [.int _, .int _]) C hX rfl (fun T _ => c_X5_group _ _ ad M T hI _ _) kc_X5_group wb_p410 ⟨by decide, by decide⟩ ⟨Nat.zero_le _, Nat.zero_le _⟩ (Nat.le_of_ble_eq_true rfl) dL_unlocks_31 ?_
      rw [y_g1 hI hg]
      refine z_icmp_ne C 41 dL_unlocks_34 (by decide) (fun h34 => ?_) (fun h34 => ?_)
      · refine z_iconst (v := 0) C dL_unlocks_41 (by decide) ?_
        exact z_joinE kJ42 (by simp [z_b, m_at, y_cd hI hd, y_lo hI hd, y_hi hI hd, *])
      · refine z_iconst (v := 1) C dL_unlocks_37 (by decide) ?_
        refine z_goto C 42 dL_unlocks_38 (by decide) ?_
        exact z_joinE kJ42 (by simp [z_b, m_at, y_cd hI hd, y_lo hI hd, y_hi hI hd, *])

set_option maxHeartbeats 4000000 in
set_option maxRecDepth 100000 in
theorem c_L_keysT (l : Launch) (G : z_G) (b0 ax : Nat) (M : m_S) (t4 : Int32) {nR nD nK nG : Nat} (hI : m_I nR nD nK nG M) (g k : Nat) (hg : g < nG) (hk : k < nK) : z_M l yL_keys cL_keys 9 (some .boolean) 6 0 0 [.ref ax, .int (nI g), .int (nI k), .int (z_b true)] G (fun H => y_S G b0 ax nR nD nK nG M t4 H) (fun q => b0 ≤ q) (fun v _ H => v = some (.int 1) ∧ y_S G b0 ax nR nD nK nG (F_take M nK (nI g) (nI k)).2 t4 H) := by
  refine z_M.of (by decide +kernel) (Nat.le_of_ble_eq_true rfl) ?_
  intro p e s m below meth c C hP
  obtain ⟨ad, rfl, hX, hB⟩ := (hP : y_S G b0 ax nR nD nK nG M t4 s.heap)
  have hs := y_nsm hI
  have hI2 := m_I_take hI (nI g) (nI k)
  refine z_aload_n C dL_keys_0 rfl ?_
  refine z_iload_n C dL_keys_1 rfl ?_
  refine z_iconst (v := 1) C dL_keys_2 (by decide) ?_
  refine y_callR (As := [.int _, .int _]) C hX rfl (fun T _ => c_X5_key _ _ ad M T hI _ _) kc_X5_key wb_p525 ⟨by decide, by decide⟩ ⟨Nat.zero_le _, Nat.zero_le _⟩ (Nat.le_of_ble_eq_true rfl) dL_keys_3 ?_
  rw [y_k1 hI hk]
  refine z_istore C dL_keys_6 (by decide) ?_
  refine z_aload_n C dL_keys_8 rfl ?_
  refine z_iload_n C dL_keys_9 rfl ?_
  refine z_iconst (v := 3) C dL_keys_10 (by decide) ?_
  refine y_callR (As := [.int _, .int _]) C hX rfl (fun T _ => c_X5_group _ _ ad M T hI _ _) kc_X5_group wb_p410 ⟨by decide, by decide⟩ ⟨Nat.zero_le _, Nat.zero_le _⟩ (Nat.le_of_ble_eq_true rfl) dL_keys_11 ?_
  rw [y_g3 hI hg]
  refine z_istore C dL_keys_14 (by decide) ?_
  refine z_aload_n C dL_keys_16 rfl ?_
  refine z_iload_n C dL_keys_17 rfl ?_
  refine z_iconst (v := 2) C dL_keys_18 (by decide) ?_
  refine y_callR (As := [.int _, .int _]) C hX rfl (fun T _ => c_X5_group _ _ ad M T hI _ _) kc_X5_group wb_p410 ⟨by decide, by decide⟩ ⟨Nat.zero_le _, Nat.zero_le _⟩ (Nat.le_of_ble_eq_true rfl) dL_keys_19 ?_
  rw [y_g2 hI hg]
  refine z_istore C dL_keys_22 (by decide) ?_
  refine z_join 38 (z_b (m_pl M (nI g))) ?_ (fun kJ38 => ?_)
  · refine z_istore C dL_keys_38 (by decide) ?_
    refine z_iload_n C dL_keys_40 rfl ?_
    refine z_ifb_eq C 131 dL_keys_41 (by decide) (fun h41 => ?_) (fun h41 => ?_)
    · exact absurd h41 (by decide)
    · refine z_join 74 (z_b (y_tkB M g k)) ?_ (fun kJ74 => ?_)
      · refine z_istore C dL_keys_74 (by decide) ?_
        refine z_aload_n C dL_keys_76 rfl ?_
        refine z_iload_n C dL_keys_77 rfl ?_
        refine z_iload_n C dL_keys_78 rfl ?_
        refine y_callW (As := [.int _, .int _]) C hX rfl (fun T _ => c_X5_take _ _ ad M T hI _ _) (fun T v H' hT hq => y_qW hT hq) hB.xA kc_X5_take wb_p625 ⟨by decide, by decide⟩ ⟨Nat.zero_le _, Nat.zero_le _⟩ (Nat.le_of_ble_eq_true rfl) dL_keys_79 (fun H79 hX79 hF79 => ?_)
        replace hX := hX79
        replace hB := hB.fr hF79
        refine z_iload C dL_keys_82 rfl ?_
        refine z_ifb_eq C 94 dL_keys_84 (by decide) (fun h84 => ?_) (fun h84 => ?_)
        · refine z_bipush (v := (-4)) C dL_keys_94 (by decide) ?_
          refine z_icmp_ne C 129 dL_keys_96 (by decide) (fun h96 => ?_) (fun h96 => ?_)
          · first | exact absurd (y_take hI hg hk h84).1 h96 | exact absurd (by rw [y_take_eq hI hg hk, h84]; rfl) h96
          · refine z_iload C dL_keys_99 rfl ?_
            refine z_ifb_eq C 125 dL_keys_101 (by decide) (fun h101 => ?_) (fun h101 => ?_)
            · refine z_iconst (v := 1) C dL_keys_125 (by decide) ?_
              refine z_goto C 130 dL_keys_126 (by decide) ?_
              exact z_bret C (by omega) (by omega) dL_keys_130 (by rfl) (by exact ⟨rfl, y_S.of hX hB⟩)
            · refine z_aload_n C dL_keys_104 rfl ?_
              refine z_iload_n C dL_keys_105 rfl ?_
              refine z_iconst (v := 3) C dL_keys_106 (by decide) ?_
              refine y_callR (As := [.int _, .int _]) C hX rfl (fun T _ => c_X5_key _ _ ad (F_take M nK (nI g) (nI k)).2 T hI2 _ _) kc_X5_key wb_p525 ⟨by decide, by decide⟩ ⟨Nat.zero_le _, Nat.zero_le _⟩ (Nat.le_of_ble_eq_true rfl) dL_keys_107 ?_
              rw [y_k3 hI2 hk]
              refine z_iload_n C dL_keys_110 rfl ?_
              refine z_icmp_ne C 129 dL_keys_111 (by decide) (fun h111 => ?_) (fun h111 => ?_)
              · exact absurd (by rw [(y_take hI hg hk h101).2]; exact y_tkH) h111
              · refine z_aload_n C dL_keys_114 rfl ?_
                refine z_iload_n C dL_keys_115 rfl ?_
                refine z_iconst (v := 2) C dL_keys_116 (by decide) ?_
                refine y_callR (As := [.int _, .int _]) C hX rfl (fun T _ => c_X5_group _ _ ad (F_take M nK (nI g) (nI k)).2 T hI2 _ _) kc_X5_group wb_p410 ⟨by decide, by decide⟩ ⟨Nat.zero_le _, Nat.zero_le _⟩ (Nat.le_of_ble_eq_true rfl) dL_keys_117 ?_
                rw [y_g2 hI2 hg]
                refine z_iload C dL_keys_120 rfl ?_
                refine z_icmp_lt C 129 dL_keys_122 (by decide) (fun h122 => ?_) (fun h122 => ?_)
                · exact absurd h122 (by rw [(y_take hI hg hk h101).2, y_tk17]; exact y_later_ge)
                · refine z_iconst (v := 1) C dL_keys_125 (by decide) ?_
                  refine z_goto C 130 dL_keys_126 (by decide) ?_
                  exact z_bret C (by omega) (by omega) dL_keys_130 (by rfl) (by exact ⟨rfl, y_S.of hX hB⟩)
        · refine z_iload C dL_keys_87 rfl ?_
          refine z_iconst (v := 1) C dL_keys_89 (by decide) ?_
          refine z_iadd C dL_keys_90 ?_
          refine z_goto C 96 dL_keys_91 (by decide) ?_
          refine z_icmp_ne C 129 dL_keys_96 (by decide) (fun h96 => ?_) (fun h96 => ?_)
          · first | exact absurd (y_take hI hg hk h84).1 h96 | exact absurd (by rw [y_take_eq hI hg hk, h84]; rfl) h96
          · refine z_iload C dL_keys_99 rfl ?_
            refine z_ifb_eq C 125 dL_keys_101 (by decide) (fun h101 => ?_) (fun h101 => ?_)
            · refine z_iconst (v := 1) C dL_keys_125 (by decide) ?_
              refine z_goto C 130 dL_keys_126 (by decide) ?_
              exact z_bret C (by omega) (by omega) dL_keys_130 (by rfl) (by exact ⟨rfl, y_S.of hX hB⟩)
            · refine z_aload_n C dL_keys_104 rfl ?_
              refine z_iload_n C dL_keys_105 rfl ?_
              refine z_iconst (v := 3) C dL_keys_106 (by decide) ?_
              refine y_callR (As := [.int _, .int _]) C hX rfl (fun T _ => c_X5_key _ _ ad (F_take M nK (nI g) (nI k)).2 T hI2 _ _) kc_X5_key wb_p525 ⟨by decide, by decide⟩ ⟨Nat.zero_le _, Nat.zero_le _⟩ (Nat.le_of_ble_eq_true rfl) dL_keys_107 ?_
              rw [y_k3 hI2 hk]
              refine z_iload_n C dL_keys_110 rfl ?_
              refine z_icmp_ne C 129 dL_keys_111 (by decide) (fun h111 => ?_) (fun h111 => ?_)
              · exact absurd (by rw [(y_take hI hg hk h101).2]; exact y_tkH) h111
              · refine z_aload_n C dL_keys_114 rfl ?_
                refine z_iload_n C dL_keys_115 rfl ?_
                refine z_iconst (v := 2) C dL_keys_116 (by decide) ?_
                refine y_callR (As := [.int _, .int _]) C hX rfl (fun T _ => c_X5_group _ _ ad (F_take M nK (nI g) (nI k)).2 T hI2 _ _) kc_X5_group wb_p410 ⟨by decide, by decide⟩ ⟨Nat.zero_le _, Nat.zero_le _⟩ (Nat.le_of_ble_eq_true rfl) dL_keys_117 ?_
                rw [y_g2 hI2 hg]
                refine z_iload C dL_keys_120 rfl ?_
                refine z_icmp_lt C 129 dL_keys_122 (by decide) (fun h122 => ?_) (fun h122 => ?_)
                · exact absurd h122 (by rw [(y_take hI hg hk h101).2, y_tk17]; exact y_later_ge)
                · refine z_iconst (v := 1) C dL_keys_125 (by decide) ?_
                  refine z_goto C 130 dL_keys_126 (by decide) ?_
                  exact z_bret C (by omega) (by omega) dL_keys_130 (by rfl) (by exact ⟨rfl, y_S.of hX hB⟩)
      · refine z_iload C dL_keys_44 rfl ?_
        refine z_ifb_eq C 73 dL_keys_46 (by decide) (fun h46 => ?_) (fun h46 => ?_)
        · refine z_iconst (v := 0) C dL_keys_73 (by decide) ?_
          exact z_joinE kJ74 (by simp [z_b, y_tkB, *])
        · refine z_iload C dL_keys_49 rfl ?_
          refine z_if_ne C 73 dL_keys_51 (by decide) (fun h51 => ?_) (fun h51 => ?_)
          · refine z_iconst (v := 0) C dL_keys_73 (by decide) ?_
            exact z_joinE kJ74 (by simp [z_b, y_tkB, *])
          · refine z_aload_n C dL_keys_54 rfl ?_
            refine z_iload_n C dL_keys_55 rfl ?_
            refine z_iconst (v := 2) C dL_keys_56 (by decide) ?_
            refine y_callR (As := [.int _, .int _]) C hX rfl (fun T _ => c_X5_key _ _ ad M T hI _ _) kc_X5_key wb_p525 ⟨by decide, by decide⟩ ⟨Nat.zero_le _, Nat.zero_le _⟩ (Nat.le_of_ble_eq_true rfl) dL_keys_57 ?_
            rw [y_k2 hI hk, if_pos h51]
            refine z_aload_n C dL_keys_60 rfl ?_
            refine z_iload_n C dL_keys_61 rfl ?_
            refine z_iconst (v := 1) C dL_keys_62 (by decide) ?_
            refine y_callR (As := [.int _, .int _]) C hX rfl (fun T _ => c_X5_group _ _ ad M T hI _ _) kc_X5_group wb_p410 ⟨by decide, by decide⟩ ⟨Nat.zero_le _, Nat.zero_le _⟩ (Nat.le_of_ble_eq_true rfl) dL_keys_63 ?_
            rw [y_g1 hI hg]
            refine z_icmp_ne C 73 dL_keys_66 (by decide) (fun h66 => ?_) (fun h66 => ?_)
            · refine z_iconst (v := 0) C dL_keys_73 (by decide) ?_
              exact z_joinE kJ74 (by simp [z_b, y_tkB, *])
            · refine z_iconst (v := 1) C dL_keys_69 (by decide) ?_
              refine z_goto C 74 dL_keys_70 (by decide) ?_
              exact z_joinE kJ74 (by simp [z_b, y_tkB, *])
  · refine z_aload_n C dL_keys_24 rfl ?_
    refine z_iload_n C dL_keys_25 rfl ?_
    refine z_iconst (v := 5) C dL_keys_26 (by decide) ?_
    refine y_callR (As := [.int _, .int _]) C hX rfl (fun T _ => c_X5_group _ _ ad M T hI _ _) kc_X5_group wb_p410 ⟨by decide, by decide⟩ ⟨Nat.zero_le _, Nat.zero_le _⟩ (Nat.le_of_ble_eq_true rfl) dL_keys_27 ?_
    rw [y_g5 hI hg]
    refine z_if_ne C 37 dL_keys_30 (by decide) (fun h30 => ?_) (fun h30 => ?_)
    · refine z_iconst (v := 0) C dL_keys_37 (by decide) ?_
      exact z_joinE kJ38 (by simp [z_b, m_pl, y_cg hI hg, *])
    · refine z_iconst (v := 1) C dL_keys_33 (by decide) ?_
      refine z_goto C 38 dL_keys_34 (by decide) ?_
      exact z_joinE kJ38 (by simp [z_b, m_pl, y_cg hI hg, *])

set_option maxHeartbeats 4000000 in
set_option maxRecDepth 100000 in
theorem c_L_keysD (l : Launch) (G : z_G) (b0 ax : Nat) (M : m_S) (t4 : Int32) {nR nD nK nG : Nat} (hI : m_I nR nD nK nG M) (g k : Nat) (hg : g < nG) (hk : k < nK) : z_M l yL_keys cL_keys 9 (some .boolean) 6 0 0 [.ref ax, .int (nI g), .int (nI k), .int (z_b false)] G (fun H => y_S G b0 ax nR nD nK nG M t4 H) (fun q => b0 ≤ q) (fun v _ H => v = some (.int 1) ∧ y_S G b0 ax nR nD nK nG (F_drop M nK (nI g) (nI k)).2 t4 H) := by
  refine z_M.of (by decide +kernel) (Nat.le_of_ble_eq_true rfl) ?_
  intro p e s m below meth c C hP
  obtain ⟨ad, rfl, hX, hB⟩ := (hP : y_S G b0 ax nR nD nK nG M t4 s.heap)
  have hs := y_nsm hI
  have hI2 := m_I_drop hI (nI g) (nI k)
  refine z_aload_n C dL_keys_0 rfl ?_
  refine z_iload_n C dL_keys_1 rfl ?_
  refine z_iconst (v := 1) C dL_keys_2 (by decide) ?_
  refine y_callR (As := [.int _, .int _]) C hX rfl (fun T _ => c_X5_key _ _ ad M T hI _ _) kc_X5_key wb_p525 ⟨by decide, by decide⟩ ⟨Nat.zero_le _, Nat.zero_le _⟩ (Nat.le_of_ble_eq_true rfl) dL_keys_3 ?_
  rw [y_k1 hI hk]
  refine z_istore C dL_keys_6 (by decide) ?_
  refine z_aload_n C dL_keys_8 rfl ?_
  refine z_iload_n C dL_keys_9 rfl ?_
  refine z_iconst (v := 3) C dL_keys_10 (by decide) ?_
  refine y_callR (As := [.int _, .int _]) C hX rfl (fun T _ => c_X5_group _ _ ad M T hI _ _) kc_X5_group wb_p410 ⟨by decide, by decide⟩ ⟨Nat.zero_le _, Nat.zero_le _⟩ (Nat.le_of_ble_eq_true rfl) dL_keys_11 ?_
  rw [y_g3 hI hg]
  refine z_istore C dL_keys_14 (by decide) ?_
  refine z_aload_n C dL_keys_16 rfl ?_
  refine z_iload_n C dL_keys_17 rfl ?_
  refine z_iconst (v := 2) C dL_keys_18 (by decide) ?_
  refine y_callR (As := [.int _, .int _]) C hX rfl (fun T _ => c_X5_group _ _ ad M T hI _ _) kc_X5_group wb_p410 ⟨by decide, by decide⟩ ⟨Nat.zero_le _, Nat.zero_le _⟩ (Nat.le_of_ble_eq_true rfl) dL_keys_19 ?_
  rw [y_g2 hI hg]
  refine z_istore C dL_keys_22 (by decide) ?_
  refine z_join 38 (z_b (m_pl M (nI g))) ?_ (fun kJ38 => ?_)
  · refine z_istore C dL_keys_38 (by decide) ?_
    refine z_iload_n C dL_keys_40 rfl ?_
    refine z_ifb_eq C 131 dL_keys_41 (by decide) (fun h41 => ?_) (fun h41 => ?_)
    · refine z_join 157 (z_b (m_pl M (nI g) && y_hp M (nI g) k)) ?_ (fun kJ157 => ?_)
      · refine z_istore C dL_keys_157 (by decide) ?_
        refine z_aload_n C dL_keys_159 rfl ?_
        refine z_iload_n C dL_keys_160 rfl ?_
        refine z_iload_n C dL_keys_161 rfl ?_
        refine y_callW (As := [.int _, .int _]) C hX rfl (fun T _ => c_X5_drop _ _ ad M T hI _ _) (fun T v H' hT hq => y_qW hT hq) hB.xA kc_X5_drop wb_p633 ⟨by decide, by decide⟩ ⟨Nat.zero_le _, Nat.zero_le _⟩ (Nat.le_of_ble_eq_true rfl) dL_keys_162 (fun H162 hX162 hF162 => ?_)
        replace hX := hX162
        replace hB := hB.fr hF162
        refine z_iload C dL_keys_165 rfl ?_
        refine z_ifb_eq C 177 dL_keys_167 (by decide) (fun h167 => ?_) (fun h167 => ?_)
        · refine z_bipush (v := (-4)) C dL_keys_177 (by decide) ?_
          refine z_icmp_ne C 217 dL_keys_179 (by decide) (fun h179 => ?_) (fun h179 => ?_)
          · first | exact absurd (y_drop hI hg hk h167).1 h179 | exact absurd (by rw [y_drop_eq hI hg hk, h167]; rfl) h179
          · refine z_iload C dL_keys_182 rfl ?_
            refine z_ifb_eq C 202 dL_keys_184 (by decide) (fun h184 => ?_) (fun h184 => ?_)
            · refine z_aload_n C dL_keys_202 rfl ?_
              refine z_iload_n C dL_keys_203 rfl ?_
              refine z_iconst (v := 2) C dL_keys_204 (by decide) ?_
              refine y_callR (As := [.int _, .int _]) C hX rfl (fun T _ => c_X5_group _ _ ad (F_drop M nK (nI g) (nI k)).2 T hI2 _ _) kc_X5_group wb_p410 ⟨by decide, by decide⟩ ⟨Nat.zero_le _, Nat.zero_le _⟩ (Nat.le_of_ble_eq_true rfl) dL_keys_205 ?_
              rw [y_g2 hI2 hg]
              refine z_iload C dL_keys_208 rfl ?_
              refine z_icmp_ne C 217 dL_keys_210 (by decide) (fun h210 => ?_) (fun h210 => ?_)
              · exact absurd (y_drop17 hI hg hk) h210
              · refine z_iconst (v := 1) C dL_keys_213 (by decide) ?_
                refine z_goto C 218 dL_keys_214 (by decide) ?_
                exact z_bret C (by omega) (by omega) dL_keys_218 (by rfl) (by exact ⟨rfl, y_S.of hX hB⟩)
            · refine z_aload_n C dL_keys_187 rfl ?_
              refine z_iload_n C dL_keys_188 rfl ?_
              refine z_iconst (v := 2) C dL_keys_189 (by decide) ?_
              refine y_callR (As := [.int _, .int _]) C hX rfl (fun T _ => c_X5_key _ _ ad (F_drop M nK (nI g) (nI k)).2 T hI2 _ _) kc_X5_key wb_p525 ⟨by decide, by decide⟩ ⟨Nat.zero_le _, Nat.zero_le _⟩ (Nat.le_of_ble_eq_true rfl) dL_keys_190 ?_
              rw [y_k2 hI2 hk]
              refine z_aload_n C dL_keys_193 rfl ?_
              refine z_iload_n C dL_keys_194 rfl ?_
              refine z_iconst (v := 1) C dL_keys_195 (by decide) ?_
              refine y_callR (As := [.int _, .int _]) C hX rfl (fun T _ => c_X5_group _ _ ad (F_drop M nK (nI g) (nI k)).2 T hI2 _ _) kc_X5_group wb_p410 ⟨by decide, by decide⟩ ⟨Nat.zero_le _, Nat.zero_le _⟩ (Nat.le_of_ble_eq_true rfl) dL_keys_196 ?_
              rw [y_g1 hI2 hg]
              refine z_icmp_ne C 217 dL_keys_199 (by decide) (fun h199 => ?_) (fun h199 => ?_)
              · exact absurd (by rw [(y_drop hI hg hk h184).2]; exact y_dpR) h199
              · refine z_aload_n C dL_keys_202 rfl ?_
                refine z_iload_n C dL_keys_203 rfl ?_
                refine z_iconst (v := 2) C dL_keys_204 (by decide) ?_
                refine y_callR (As := [.int _, .int _]) C hX rfl (fun T _ => c_X5_group _ _ ad (F_drop M nK (nI g) (nI k)).2 T hI2 _ _) kc_X5_group wb_p410 ⟨by decide, by decide⟩ ⟨Nat.zero_le _, Nat.zero_le _⟩ (Nat.le_of_ble_eq_true rfl) dL_keys_205 ?_
                rw [y_g2 hI2 hg]
                refine z_iload C dL_keys_208 rfl ?_
                refine z_icmp_ne C 217 dL_keys_210 (by decide) (fun h210 => ?_) (fun h210 => ?_)
                · exact absurd (y_drop17 hI hg hk) h210
                · refine z_iconst (v := 1) C dL_keys_213 (by decide) ?_
                  refine z_goto C 218 dL_keys_214 (by decide) ?_
                  exact z_bret C (by omega) (by omega) dL_keys_218 (by rfl) (by exact ⟨rfl, y_S.of hX hB⟩)
        · refine z_iload C dL_keys_170 rfl ?_
          refine z_iconst (v := 1) C dL_keys_172 (by decide) ?_
          refine z_isub C dL_keys_173 ?_
          refine z_goto C 179 dL_keys_174 (by decide) ?_
          refine z_icmp_ne C 217 dL_keys_179 (by decide) (fun h179 => ?_) (fun h179 => ?_)
          · first | exact absurd (y_drop hI hg hk h167).1 h179 | exact absurd (by rw [y_drop_eq hI hg hk, h167]; rfl) h179
          · refine z_iload C dL_keys_182 rfl ?_
            refine z_ifb_eq C 202 dL_keys_184 (by decide) (fun h184 => ?_) (fun h184 => ?_)
            · refine z_aload_n C dL_keys_202 rfl ?_
              refine z_iload_n C dL_keys_203 rfl ?_
              refine z_iconst (v := 2) C dL_keys_204 (by decide) ?_
              refine y_callR (As := [.int _, .int _]) C hX rfl (fun T _ => c_X5_group _ _ ad (F_drop M nK (nI g) (nI k)).2 T hI2 _ _) kc_X5_group wb_p410 ⟨by decide, by decide⟩ ⟨Nat.zero_le _, Nat.zero_le _⟩ (Nat.le_of_ble_eq_true rfl) dL_keys_205 ?_
              rw [y_g2 hI2 hg]
              refine z_iload C dL_keys_208 rfl ?_
              refine z_icmp_ne C 217 dL_keys_210 (by decide) (fun h210 => ?_) (fun h210 => ?_)
              · exact absurd (y_drop17 hI hg hk) h210
              · refine z_iconst (v := 1) C dL_keys_213 (by decide) ?_
                refine z_goto C 218 dL_keys_214 (by decide) ?_
                exact z_bret C (by omega) (by omega) dL_keys_218 (by rfl) (by exact ⟨rfl, y_S.of hX hB⟩)
            · refine z_aload_n C dL_keys_187 rfl ?_
              refine z_iload_n C dL_keys_188 rfl ?_
              refine z_iconst (v := 2) C dL_keys_189 (by decide) ?_
              refine y_callR (As := [.int _, .int _]) C hX rfl (fun T _ => c_X5_key _ _ ad (F_drop M nK (nI g) (nI k)).2 T hI2 _ _) kc_X5_key wb_p525 ⟨by decide, by decide⟩ ⟨Nat.zero_le _, Nat.zero_le _⟩ (Nat.le_of_ble_eq_true rfl) dL_keys_190 ?_
              rw [y_k2 hI2 hk]
              refine z_aload_n C dL_keys_193 rfl ?_
              refine z_iload_n C dL_keys_194 rfl ?_
              refine z_iconst (v := 1) C dL_keys_195 (by decide) ?_
              refine y_callR (As := [.int _, .int _]) C hX rfl (fun T _ => c_X5_group _ _ ad (F_drop M nK (nI g) (nI k)).2 T hI2 _ _) kc_X5_group wb_p410 ⟨by decide, by decide⟩ ⟨Nat.zero_le _, Nat.zero_le _⟩ (Nat.le_of_ble_eq_true rfl) dL_keys_196 ?_
              rw [y_g1 hI2 hg]
              refine z_icmp_ne C 217 dL_keys_199 (by decide) (fun h199 => ?_) (fun h199 => ?_)
              · exact absurd (by rw [(y_drop hI hg hk h184).2]; exact y_dpR) h199
              · refine z_aload_n C dL_keys_202 rfl ?_
                refine z_iload_n C dL_keys_203 rfl ?_
                refine z_iconst (v := 2) C dL_keys_204 (by decide) ?_
                refine y_callR (As := [.int _, .int _]) C hX rfl (fun T _ => c_X5_group _ _ ad (F_drop M nK (nI g) (nI k)).2 T hI2 _ _) kc_X5_group wb_p410 ⟨by decide, by decide⟩ ⟨Nat.zero_le _, Nat.zero_le _⟩ (Nat.le_of_ble_eq_true rfl) dL_keys_205 ?_
                rw [y_g2 hI2 hg]
                refine z_iload C dL_keys_208 rfl ?_
                refine z_icmp_ne C 217 dL_keys_210 (by decide) (fun h210 => ?_) (fun h210 => ?_)
                · exact absurd (y_drop17 hI hg hk) h210
                · refine z_iconst (v := 1) C dL_keys_213 (by decide) ?_
                  refine z_goto C 218 dL_keys_214 (by decide) ?_
                  exact z_bret C (by omega) (by omega) dL_keys_218 (by rfl) (by exact ⟨rfl, y_S.of hX hB⟩)
      · refine z_iload C dL_keys_131 rfl ?_
        refine z_ifb_eq C 156 dL_keys_133 (by decide) (fun h133 => ?_) (fun h133 => ?_)
        · refine z_iconst (v := 0) C dL_keys_156 (by decide) ?_
          exact z_joinE kJ157 (by simp [z_b, y_hp, *])
        · refine z_iload C dL_keys_136 rfl ?_
          refine z_iconst (v := 1) C dL_keys_138 (by decide) ?_
          refine z_icmp_ne C 156 dL_keys_139 (by decide) (fun h139 => ?_) (fun h139 => ?_)
          · refine z_iconst (v := 0) C dL_keys_156 (by decide) ?_
            exact z_joinE kJ157 (by simp [z_b, y_hp, *])
          · refine z_aload_n C dL_keys_142 rfl ?_
            refine z_iload_n C dL_keys_143 rfl ?_
            refine z_iconst (v := 3) C dL_keys_144 (by decide) ?_
            refine y_callR (As := [.int _, .int _]) C hX rfl (fun T _ => c_X5_key _ _ ad M T hI _ _) kc_X5_key wb_p525 ⟨by decide, by decide⟩ ⟨Nat.zero_le _, Nat.zero_le _⟩ (Nat.le_of_ble_eq_true rfl) dL_keys_145 ?_
            rw [y_k3 hI hk, if_pos h139]
            refine z_iload_n C dL_keys_148 rfl ?_
            refine z_icmp_ne C 156 dL_keys_149 (by decide) (fun h149 => ?_) (fun h149 => ?_)
            · refine z_iconst (v := 0) C dL_keys_156 (by decide) ?_
              exact z_joinE kJ157 (by simp [z_b, y_hp, *])
            · refine z_iconst (v := 1) C dL_keys_152 (by decide) ?_
              refine z_goto C 157 dL_keys_153 (by decide) ?_
              exact z_joinE kJ157 (by simp [z_b, y_hp, *])
    · exact absurd h41 (by decide)
  · refine z_aload_n C dL_keys_24 rfl ?_
    refine z_iload_n C dL_keys_25 rfl ?_
    refine z_iconst (v := 5) C dL_keys_26 (by decide) ?_
    refine y_callR (As := [.int _, .int _]) C hX rfl (fun T _ => c_X5_group _ _ ad M T hI _ _) kc_X5_group wb_p410 ⟨by decide, by decide⟩ ⟨Nat.zero_le _, Nat.zero_le _⟩ (Nat.le_of_ble_eq_true rfl) dL_keys_27 ?_
    rw [y_g5 hI hg]
    refine z_if_ne C 37 dL_keys_30 (by decide) (fun h30 => ?_) (fun h30 => ?_)
    · refine z_iconst (v := 0) C dL_keys_37 (by decide) ?_
      exact z_joinE kJ38 (by simp [z_b, m_pl, y_cg hI hg, *])
    · refine z_iconst (v := 1) C dL_keys_33 (by decide) ?_
      refine z_goto C 38 dL_keys_34 (by decide) ?_
      exact z_joinE kJ38 (by simp [z_b, m_pl, y_cg hI hg, *])

set_option maxHeartbeats 4000000 in
set_option maxRecDepth 100000 in
theorem c_L_hints (l : Launch) (G : z_G) (b0 ax : Nat) (M : m_S) (t4 : Int32) {nR nD nK nG : Nat} (hI : m_I nR nD nK nG M) {n : Nat} (hH : m_Hn M nG n) (hn : n ≤ 100000) (g : Nat) (hg : g < nG) : z_M l yL_hints cL_hints 9 (some .boolean) 9 0 0 [.ref ax, .int (nI g), .int (M.1 20), .int (M.1 21)] G (fun H => y_S G b0 ax nR nD nK nG M t4 H) (fun q => b0 ≤ q) (fun v _ H => v = some (.int 1) ∧ y_S G b0 ax nR nD nK nG (F_hint M nD nK (nI g)).2 (x_h4 M (nI g) t4) H) := by
  refine z_M.of (by decide +kernel) (Nat.le_of_ble_eq_true rfl) ?_
  intro p e s m below meth c C hP
  obtain ⟨ad, rfl, hX, hB⟩ := (hP : y_S G b0 ax nR nD nK nG M t4 s.heap)
  have hs := y_nsm hI
  have hI2 := hI_hint (g := nI g) hI hH (by omega)
  refine z_aload_n C dL_hints_0 rfl ?_
  refine z_iload_n C dL_hints_1 rfl ?_
  refine z_iconst (v := 2) C dL_hints_2 (by decide) ?_
  refine y_callR (As := [.int _, .int _]) C hX rfl (fun T _ => c_X5_group _ _ ad M T hI _ _) kc_X5_group wb_p410 ⟨by decide, by decide⟩ ⟨Nat.zero_le _, Nat.zero_le _⟩ (Nat.le_of_ble_eq_true rfl) dL_hints_3 ?_
  rw [y_g2 hI hg]
  refine z_istore C dL_hints_6 (by decide) ?_
  refine z_aload_n C dL_hints_8 rfl ?_
  refine z_iload_n C dL_hints_9 rfl ?_
  refine z_iconst (v := 4) C dL_hints_10 (by decide) ?_
  refine y_callR (As := [.int _, .int _]) C hX rfl (fun T _ => c_X5_group _ _ ad M T hI _ _) kc_X5_group wb_p410 ⟨by decide, by decide⟩ ⟨Nat.zero_le _, Nat.zero_le _⟩ (Nat.le_of_ble_eq_true rfl) dL_hints_11 ?_
  rw [y_g4 hI hg]
  refine z_istore C dL_hints_14 (by decide) ?_
  refine z_iload_n C dL_hints_16 rfl ?_
  refine z_iload_n C dL_hints_17 rfl ?_
  refine z_iload C dL_hints_18 rfl ?_
  refine z_imul C dL_hints_20 ?_
  refine z_iadd C dL_hints_21 ?_
  refine z_istore C dL_hints_22 (by decide) ?_
  refine z_aload_n C dL_hints_24 rfl ?_
  refine z_iload_n C dL_hints_25 rfl ?_
  refine z_iconst (v := 5) C dL_hints_26 (by decide) ?_
  refine y_callR (As := [.int _, .int _]) C hX rfl (fun T _ => c_X5_group _ _ ad M T hI _ _) kc_X5_group wb_p410 ⟨by decide, by decide⟩ ⟨Nat.zero_le _, Nat.zero_le _⟩ (Nat.le_of_ble_eq_true rfl) dL_hints_27 ?_
  rw [y_g5 hI hg]
  refine z_if_eq C 49 dL_hints_30 (by decide) (fun h30 => ?_) (fun h30 => ?_)
  · have hpl : m_pl M (nI g) = true := by simp [m_pl, y_cg hI hg, h30]
    refine z_aload_n C dL_hints_49 rfl ?_
    refine z_iload_n C dL_hints_50 rfl ?_
    refine z_iconst (v := 1) C dL_hints_51 (by decide) ?_
    refine y_callW (As := [.int _, .int _]) C hX rfl (fun T _ => c_X5_plan _ _ ad M T hI _ _) (fun T v H' hT hq => y_qS hT hq) hB.xA kc_X5_plan wb_p534 ⟨by decide, by decide⟩ ⟨Nat.zero_le _, Nat.zero_le _⟩ (Nat.le_of_ble_eq_true rfl) dL_hints_52 (fun H52 hX52 hF52 => ?_)
    replace hX := hX52
    replace hB := hB.fr hF52
    refine z_istore C dL_hints_55 (by decide) ?_
    refine z_joinH 98 ((F_hint M nD nK (nI g)).1) (fun H' => y_X G ad nR nD nK nG M t4 H' ∧ y_B G b0 ad nR nD nK nG H') (⟨hX, hB⟩) ?_ (fun kJ98 => ?_)
    · rintro H98 ⟨hX, hB⟩
      refine z_istore C dL_hints_98 (by decide) ?_
      refine z_aload_n C dL_hints_100 rfl ?_
      refine z_iload_n C dL_hints_101 rfl ?_
      refine y_callW (M' := (F_hint M nD nK (nI g)).2) (t4' := x_h4 M (nI g) t4) (As := [.int _]) C hX rfl (fun T _ => c_X5_hint _ _ ad M T hI hH (by omega) _) (fun T v H' hT hq => by obtain ⟨h1, T', h2, h3⟩ := hq; exact ⟨h1, T', h2.trans (by rw [hT]), h3⟩) hB.xA kc_X5_hint wb_p659 ⟨by decide, by decide⟩ ⟨Nat.zero_le _, Nat.zero_le _⟩ (Nat.le_of_ble_eq_true rfl) dL_hints_102 (fun H102 hX102 hF102 => ?_)
      replace hX := hX102
      replace hB := hB.fr hF102
      refine z_iload C dL_hints_105 rfl ?_
      refine z_icmp_ne C 161 dL_hints_107 (by decide) (fun h107 => ?_) (fun h107 => ?_)
      · exact absurd rfl h107
      · refine z_aload_n C dL_hints_110 rfl ?_
        refine z_iload_n C dL_hints_111 rfl ?_
        refine z_iconst (v := 2) C dL_hints_112 (by decide) ?_
        refine y_callR (As := [.int _, .int _]) C hX rfl (fun T _ => c_X5_group _ _ ad (F_hint M nD nK (nI g)).2 T hI2 _ _) kc_X5_group wb_p410 ⟨by decide, by decide⟩ ⟨Nat.zero_le _, Nat.zero_le _⟩ (Nat.le_of_ble_eq_true rfl) dL_hints_113 ?_
        rw [y_g2 hI2 hg]
        refine z_iload C dL_hints_116 rfl ?_
        refine z_if_ge C 126 dL_hints_118 (by decide) (fun h118 => ?_) (fun h118 => ?_)
        · refine z_iload C dL_hints_126 rfl ?_
          refine z_iload C dL_hints_128 rfl ?_
          refine z_iadd C dL_hints_130 ?_
          refine z_icmp_ne C 161 dL_hints_131 (by decide) (fun h131 => ?_) (fun h131 => ?_)
          · first | exact absurd (congrArg (fun z => z.2 17 g) (y_hint_neg hI hg (by assumption))) h131 | exact absurd (y_hint_pos hI hg (by assumption)).2.1 h131
          · refine z_aload_n C dL_hints_134 rfl ?_
            refine z_iload_n C dL_hints_135 rfl ?_
            refine z_iconst (v := 4) C dL_hints_136 (by decide) ?_
            refine y_callR (As := [.int _, .int _]) C hX rfl (fun T _ => c_X5_group _ _ ad (F_hint M nD nK (nI g)).2 T hI2 _ _) kc_X5_group wb_p410 ⟨by decide, by decide⟩ ⟨Nat.zero_le _, Nat.zero_le _⟩ (Nat.le_of_ble_eq_true rfl) dL_hints_137 ?_
            rw [y_g4 hI2 hg]
            refine z_iload C dL_hints_140 rfl ?_
            refine z_if_ge C 150 dL_hints_142 (by decide) (fun h142 => ?_) (fun h142 => ?_)
            · refine z_iload C dL_hints_150 rfl ?_
              refine z_iconst (v := 1) C dL_hints_152 (by decide) ?_
              refine z_iadd C dL_hints_153 ?_
              refine z_icmp_ne C 161 dL_hints_154 (by decide) (fun h154 => ?_) (fun h154 => ?_)
              · first | exact absurd (congrArg (fun z => z.2 18 g) (y_hint_neg hI hg (by assumption))) h154 | exact absurd (y_hint_pos hI hg (by assumption)).2.2 h154
              · refine z_iconst (v := 1) C dL_hints_157 (by decide) ?_
                refine z_goto C 162 dL_hints_158 (by decide) ?_
                exact z_bret C (by omega) (by omega) dL_hints_162 (by rfl) (by exact ⟨rfl, y_S.of hX hB⟩)
            · refine z_iload C dL_hints_145 rfl ?_
              refine z_goto C 154 dL_hints_147 (by decide) ?_
              refine z_icmp_ne C 161 dL_hints_154 (by decide) (fun h154 => ?_) (fun h154 => ?_)
              · first | exact absurd (congrArg (fun z => z.2 18 g) (y_hint_neg hI hg (by assumption))) h154 | exact absurd (y_hint_pos hI hg (by assumption)).2.2 h154
              · refine z_iconst (v := 1) C dL_hints_157 (by decide) ?_
                refine z_goto C 162 dL_hints_158 (by decide) ?_
                exact z_bret C (by omega) (by omega) dL_hints_162 (by rfl) (by exact ⟨rfl, y_S.of hX hB⟩)
        · refine z_iload C dL_hints_121 rfl ?_
          refine z_goto C 131 dL_hints_123 (by decide) ?_
          refine z_icmp_ne C 161 dL_hints_131 (by decide) (fun h131 => ?_) (fun h131 => ?_)
          · first | exact absurd (congrArg (fun z => z.2 17 g) (y_hint_neg hI hg (by assumption))) h131 | exact absurd (y_hint_pos hI hg (by assumption)).2.1 h131
          · refine z_aload_n C dL_hints_134 rfl ?_
            refine z_iload_n C dL_hints_135 rfl ?_
            refine z_iconst (v := 4) C dL_hints_136 (by decide) ?_
            refine y_callR (As := [.int _, .int _]) C hX rfl (fun T _ => c_X5_group _ _ ad (F_hint M nD nK (nI g)).2 T hI2 _ _) kc_X5_group wb_p410 ⟨by decide, by decide⟩ ⟨Nat.zero_le _, Nat.zero_le _⟩ (Nat.le_of_ble_eq_true rfl) dL_hints_137 ?_
            rw [y_g4 hI2 hg]
            refine z_iload C dL_hints_140 rfl ?_
            refine z_if_ge C 150 dL_hints_142 (by decide) (fun h142 => ?_) (fun h142 => ?_)
            · refine z_iload C dL_hints_150 rfl ?_
              refine z_iconst (v := 1) C dL_hints_152 (by decide) ?_
              refine z_iadd C dL_hints_153 ?_
              refine z_icmp_ne C 161 dL_hints_154 (by decide) (fun h154 => ?_) (fun h154 => ?_)
              · first | exact absurd (congrArg (fun z => z.2 18 g) (y_hint_neg hI hg (by assumption))) h154 | exact absurd (y_hint_pos hI hg (by assumption)).2.2 h154
              · refine z_iconst (v := 1) C dL_hints_157 (by decide) ?_
                refine z_goto C 162 dL_hints_158 (by decide) ?_
                exact z_bret C (by omega) (by omega) dL_hints_162 (by rfl) (by exact ⟨rfl, y_S.of hX hB⟩)
            · refine z_iload C dL_hints_145 rfl ?_
              refine z_goto C 154 dL_hints_147 (by decide) ?_
              refine z_icmp_ne C 161 dL_hints_154 (by decide) (fun h154 => ?_) (fun h154 => ?_)
              · first | exact absurd (congrArg (fun z => z.2 18 g) (y_hint_neg hI hg (by assumption))) h154 | exact absurd (y_hint_pos hI hg (by assumption)).2.2 h154
              · refine z_iconst (v := 1) C dL_hints_157 (by decide) ?_
                refine z_goto C 162 dL_hints_158 (by decide) ?_
                exact z_bret C (by omega) (by omega) dL_hints_162 (by rfl) (by exact ⟨rfl, y_S.of hX hB⟩)
    · refine z_iload C dL_hints_57 rfl ?_
      refine z_iload C dL_hints_59 rfl ?_
      refine z_iadd C dL_hints_61 ?_
      refine z_ldc C wb_p533 dL_hints_62 ?_
      refine z_icmp_le C 72 dL_hints_64 (by decide) (fun h64 => ?_) (fun h64 => ?_)
      · refine z_iload C dL_hints_72 rfl ?_
        refine z_if_ge C 82 dL_hints_74 (by decide) (fun h74 => ?_) (fun h74 => ?_)
        · refine z_iload C dL_hints_82 rfl ?_
          refine z_if_ne C 92 dL_hints_84 (by decide) (fun h84 => ?_) (fun h84 => ?_)
          · refine z_aload_n C dL_hints_92 rfl ?_
            refine z_iload_n C dL_hints_93 rfl ?_
            refine z_iconst (v := 0) C dL_hints_94 (by decide) ?_
            refine y_callW (As := [.int _, .int _]) C hX rfl (fun T _ => c_X5_planned _ _ ad M T hI _ _) (fun T v H' hT hq => y_qS hT hq) hB.xA kc_X5_planned wb_p552 ⟨by decide, by decide⟩ ⟨Nat.zero_le _, Nat.zero_le _⟩ (Nat.le_of_ble_eq_true rfl) dL_hints_95 (fun H95 hX95 hF95 => ?_)
            replace hX := hX95
            replace hB := hB.fr hF95
            exact z_joinE (kJ98 _ (⟨hX, hB⟩)) (by first | rw [y_hint_late hI hg hpl h64] | rw [y_hint_none hI hg hpl h64 h74] | rw [y_hint_0 hI hg hpl h64 h84] | rw [(y_hint_door hI hg hpl h64 h74 h84).1])
          · refine z_bipush (v := 16) C dL_hints_87 (by decide) ?_
            refine z_goto C 98 dL_hints_89 (by decide) ?_
            exact z_joinE (kJ98 _ (⟨hX, hB⟩)) (by first | rw [y_hint_late hI hg hpl h64] | rw [y_hint_none hI hg hpl h64 h74] | rw [y_hint_0 hI hg hpl h64 h84] | rw [(y_hint_door hI hg hpl h64 h74 h84).1])
        · refine z_bipush (v := 17) C dL_hints_77 (by decide) ?_
          refine z_goto C 98 dL_hints_79 (by decide) ?_
          exact z_joinE (kJ98 _ (⟨hX, hB⟩)) (by first | rw [y_hint_late hI hg hpl h64] | rw [y_hint_none hI hg hpl h64 h74] | rw [y_hint_0 hI hg hpl h64 h84] | rw [(y_hint_door hI hg hpl h64 h74 h84).1])
      · refine z_bipush (v := (-5)) C dL_hints_67 (by decide) ?_
        refine z_goto C 98 dL_hints_69 (by decide) ?_
        exact z_joinE (kJ98 _ (⟨hX, hB⟩)) (by first | rw [y_hint_late hI hg hpl h64] | rw [y_hint_none hI hg hpl h64 h74] | rw [y_hint_0 hI hg hpl h64 h84] | rw [(y_hint_door hI hg hpl h64 h74 h84).1])
  · have hpl : m_pl M (nI g) = false := by simp [m_pl, y_cg hI hg, h30]
    refine z_aload_n C dL_hints_33 rfl ?_
    refine z_iload_n C dL_hints_34 rfl ?_
    refine y_callW (M' := (F_hint M nD nK (nI g)).2) (t4' := x_h4 M (nI g) t4) (As := [.int _]) C hX rfl (fun T _ => c_X5_hint _ _ ad M T hI hH (by omega) _) (fun T v H' hT hq => by obtain ⟨h1, T', h2, h3⟩ := hq; exact ⟨h1, T', h2.trans (by rw [hT]), h3⟩) hB.xA kc_X5_hint wb_p659 ⟨by decide, by decide⟩ ⟨Nat.zero_le _, Nat.zero_le _⟩ (Nat.le_of_ble_eq_true rfl) dL_hints_35 (fun H35 hX35 hF35 => ?_)
    replace hX := hX35
    replace hB := hB.fr hF35
    refine z_bipush (v := (-4)) C dL_hints_38 (by decide) ?_
    refine z_icmp_ne C 47 dL_hints_40 (by decide) (fun h40 => ?_) (fun h40 => ?_)
    · exact absurd (by rw [y_hint_no hI hg hpl]) h40
    · refine z_iconst (v := 1) C dL_hints_43 (by decide) ?_
      refine z_goto C 48 dL_hints_44 (by decide) ?_
      exact z_bret C (by omega) (by omega) dL_hints_48 (by rfl) (by exact ⟨rfl, y_S.of hX hB⟩)
