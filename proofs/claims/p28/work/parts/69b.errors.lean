/-! the law's errors and parts -/
section YERR
variable {nR nD nK nG : Nat} {M : m_S}
theorem y_no0 (hI : m_I nR nD nK nG M) (h : 0 < nR) : m_no (0 : Int32) (M.1 0) = false := y_nor (r := 0) hI h
theorem y_no1 (hI : m_I nR nD nK nG M) (h : 1 < nR) : m_no (1 : Int32) (M.1 0) = false := y_nor (r := 1) hI h
theorem y_noR (hI : m_I nR nD nK nG M) : m_no (nI nR) (M.1 0) = true := y_nor' hI (Nat.le_refl _) (by have := y_nsm hI; omega)
theorem y_noG (hI : m_I nR nD nK nG M) : m_no (nI nG) (M.1 14) = true := y_nog' hI (Nat.le_refl _) (by have := y_nsm hI; omega)
theorem y_g00 (hI : m_I nR nD nK nG M) (h : 0 < nG) : m_no (0 : Int32) (M.1 14) = false := y_nog (g := 0) hI h
theorem er_setExit (hI : m_I nR nD nK nG M) : F_setExit M (nI nR) = (-1, M) := by unfold F_setExit; rw [y_noR hI]; rfl
theorem er_addDoor1 (hI : m_I nR nD nK nG M) (h : 0 < nR) : F_addDoor M 0 (nI nR) 1 = (-1, M) := by unfold F_addDoor; rw [y_no0 hI h, y_noR hI]; rfl
theorem er_addDoor2 (hI : m_I nR nD nK nG M) (h : 0 < nR) : F_addDoor M 0 0 1 = (-2, M) := by unfold F_addDoor; rw [y_no0 hI h]; rfl
theorem er_addDoor3 (hI : m_I nR nD nK nG M) (h : 1 < nR) : F_addDoor M 0 1 31 = (-2, M) := by unfold F_addDoor; rw [y_no0 hI (by omega), y_no1 hI h]; rfl
theorem er_addLock1 (hI : m_I nR nD nK nG M) (h : 1 < nR) : F_addLock M nD 0 1 1 6 1 = (-2, M) := by unfold F_addLock; rw [y_no0 hI (by omega), y_no1 hI h]; rfl
theorem er_addLock2 (hI : m_I nR nD nK nG M) (h : 1 < nR) : F_addLock M nD 0 1 1 0 61 = (-2, M) := by unfold F_addLock; rw [y_no0 hI (by omega), y_no1 hI h]; rfl
theorem er_addKey1 (hI : m_I nR nD nK nG M) : F_addKey M (nI nR) 0 = (-1, M) := by unfold F_addKey; rw [y_noR hI]; rfl
theorem er_addKey2 (hI : m_I nR nD nK nG M) (h : 0 < nR) : F_addKey M 0 (-1) = (-2, M) := by unfold F_addKey; rw [y_no0 hI h]; rfl
theorem er_addGroup1 (hI : m_I nR nD nK nG M) : F_addGroup M nG 1 (nI nR) = (-1, M) := by unfold F_addGroup; rw [y_noR hI]; rfl
theorem er_addGroup2 (hI : m_I nR nD nK nG M) (h : 0 < nR) : F_addGroup M nG 0 0 = (-2, M) := by unfold F_addGroup; rw [y_no0 hI h]; rfl
theorem er_addGroup3 (hI : m_I nR nD nK nG M) (h : 0 < nR) : F_addGroup M nG 25 0 = (-2, M) := by unfold F_addGroup; rw [y_no0 hI h]; rfl
theorem er_setHints1 : F_setHints M 0 0 = (-2, M) := rfl
theorem er_setHints2 : F_setHints M 1 31 = (-2, M) := rfl
theorem er_walk (hI : m_I nR nD nK nG M) : F_walk M (nI nG) 0 = (-1, M) := by unfold F_walk; rw [y_noG hI]; rfl
theorem er_unlock (hI : m_I nR nD nK nG M) : F_unlock M nK (nI nG) 0 = (-1, M) := by unfold F_unlock; rw [y_noG hI]; rfl
theorem er_take (hI : m_I nR nD nK nG M) : F_take M nK (nI nG) 0 = (-1, M) := by unfold F_take; rw [y_noG hI]; rfl
theorem er_drop (hI : m_I nR nD nK nG M) : F_drop M nK (nI nG) 0 = (-1, M) := by unfold F_drop; rw [y_noG hI]; rfl
theorem er_idle1 (hI : m_I nR nD nK nG M) : F_idle M (nI nG) 1 = (-1, M) := by unfold F_idle; rw [y_noG hI]; rfl
theorem er_idle2 (hI : m_I nR nD nK nG M) (h : 0 < nG) : F_idle M 0 0 = (-2, M) := by unfold F_idle; rw [y_g00 hI h]; rfl
theorem er_idle3 (hI : m_I nR nD nK nG M) (h : 0 < nG) : F_idle M 0 1001 = (-2, M) := by unfold F_idle; rw [y_g00 hI h]; rfl
theorem er_part (hI : m_I nR nD nK nG M) : F_part M (nI nG) 1 = (-1, M) := by unfold F_part; rw [y_noG hI]; rfl
theorem er_join (hI : m_I nR nD nK nG M) : F_join M nK (nI nG) 0 = (-1, M) := by unfold F_join; rw [y_noG hI]; rfl
theorem er_leave (hI : m_I nR nD nK nG M) : F_leave M (nI nG) = (-1, M) := by unfold F_leave; rw [y_noG hI]; rfl
theorem er_hint (hI : m_I nR nD nK nG M) : F_hint M nD nK (nI nG) = (-1, M) := by unfold F_hint; rw [y_noG hI]; rfl
theorem er_h4 (hI : m_I nR nD nK nG M) {t : Int32} : x_h4 M (nI nG) t = t := by unfold x_h4; rw [y_noG hI]; rfl
theorem er_door (hI : m_I nR nD nK nG M) : F_door M (nI nD) 0 = -1 := by unfold F_door; rw [y_nod' hI (Nat.le_refl _) (by have := y_nsm hI; omega)]; rfl
theorem er_key (hI : m_I nR nD nK nG M) : F_key M (nI nK) 0 = -1 := by unfold F_key; rw [y_nok' hI (Nat.le_refl _) (by have := y_nsm hI; omega)]; rfl
theorem er_group (hI : m_I nR nD nK nG M) : F_group M nK (nI nG) 0 = -1 := by unfold F_group; rw [y_noG hI]; rfl
end YERR
set_option maxHeartbeats 4000000 in
set_option maxRecDepth 100000 in
theorem c_L_errors (l : Launch) (G : z_G) (b0 ax : Nat) (M : m_S) (t4 : Int32) {nR nD nK nG n : Nat} (hI : m_I nR nD nK nG M) (hH : m_Hn M nG n) (hn : n ≤ 100000) (hR : 3 ≤ nR) (hG : 0 < nG) : z_M l yL_errors cL_errors 4 (some .boolean) 9 22 374 [.ref ax] G (fun H => y_S G b0 ax nR nD nK nG M t4 H) (fun q => b0 ≤ q) (fun v _ H => v = some (.int 1)) := by
  refine z_M.of (by decide +kernel) (Nat.le_of_ble_eq_true rfl) ?_
  intro p e s m below meth c C hP
  obtain ⟨ad, hax, hX, hB⟩ := (hP : y_S G b0 ax nR nD nK nG M t4 s.heap)
  have hs := y_nsm hI
  refine z_aload_n C dL_errors_0 rfl ?_
  refine z_iconst (v := 3) C dL_errors_1 (by decide) ?_
  refine y_callR (As := [.int _]) C hX hax (fun T hT4 => c_X5_countR _ _ ad M T hI _ (by decide) (fun h => absurd h (by decide))) kc_X5_count wb_p434 ⟨by decide, by decide⟩ ⟨Nat.le_of_ble_eq_true rfl, Nat.le_of_ble_eq_true rfl⟩ (Nat.le_of_ble_eq_true rfl) dL_errors_2 ?_
  rw [y_c3 hI]
  refine z_istore_n C dL_errors_5 (by decide) ?_
  refine z_aload_n C dL_errors_6 rfl ?_
  refine z_iconst (v := 0) C dL_errors_7 (by decide) ?_
  refine y_callR (As := [.int _]) C hX hax (fun T hT4 => c_X5_countR _ _ ad M T hI _ (by decide) (fun h => absurd h (by decide))) kc_X5_count wb_p434 ⟨by decide, by decide⟩ ⟨Nat.le_of_ble_eq_true rfl, Nat.le_of_ble_eq_true rfl⟩ (Nat.le_of_ble_eq_true rfl) dL_errors_8 ?_
  rw [y_c0 hI]
  refine z_istore_n C dL_errors_11 (by decide) ?_
  refine z_aload_n C dL_errors_12 rfl ?_
  refine z_iload_n C dL_errors_13 rfl ?_
  refine y_callW (M' := M) (t4' := t4) (val := .int (-1)) (As := [.int _]) C hX hax (fun T hT => by have h := c_X5_setExit l G ad M T hI (nI nR); rw [er_setExit hI] at h; exact h) (fun T v H' hT hq => y_qW hT hq) hB.xA kc_X5_setExit wb_p208 ⟨by decide, by decide⟩ ⟨Nat.le_of_ble_eq_true rfl, Nat.le_of_ble_eq_true rfl⟩ (Nat.le_of_ble_eq_true rfl) dL_errors_14 (fun H14 hX14 hF14 => ?_)
  replace hX := hX14
  replace hB := hB.fr hF14
  refine z_iconst (v := (-1)) C dL_errors_17 (by decide) ?_
  refine z_icmp_ne C 168 dL_errors_18 (by decide) (fun h18 => ?_) (fun h18 => ?_)
  · exact absurd rfl h18
  · refine z_aload_n C dL_errors_21 rfl ?_
    refine z_iconst (v := 0) C dL_errors_22 (by decide) ?_
    refine z_iload_n C dL_errors_23 rfl ?_
    refine z_iconst (v := 1) C dL_errors_24 (by decide) ?_
    refine y_callG0 (val := .int (-1)) (As := [.int _, .int _, .int _]) C hX hax hB hI (fun T _ hO => by have h := (fun sz : Nat => c_X5_addDoor l G ad _ T hI sz hO 0 (nI nR) 1); simp only [er_addDoor1 hI (by omega)] at h; exact h _) (fun q hq => hq) kc_X5_addDoor wb_p234 ⟨by decide, by decide⟩ ⟨Nat.le_of_ble_eq_true rfl, Nat.le_of_ble_eq_true rfl⟩ (Nat.le_of_ble_eq_true rfl) dL_errors_25 (fun H25 ad hax hX hB => ?_)
    refine z_iconst (v := (-1)) C dL_errors_28 (by decide) ?_
    refine z_icmp_ne C 168 dL_errors_29 (by decide) (fun h29 => ?_) (fun h29 => ?_)
    · exact absurd rfl h29
    · refine z_aload_n C dL_errors_32 rfl ?_
      refine z_iconst (v := 0) C dL_errors_33 (by decide) ?_
      refine z_iconst (v := 0) C dL_errors_34 (by decide) ?_
      refine z_iconst (v := 1) C dL_errors_35 (by decide) ?_
      refine y_callG0 (val := .int (-2)) (As := [.int _, .int _, .int _]) C hX hax hB hI (fun T _ hO => by have h := (fun sz : Nat => c_X5_addDoor l G ad _ T hI sz hO 0 0 1); simp only [er_addDoor2 hI (by omega)] at h; exact h _) (fun q hq => hq) kc_X5_addDoor wb_p234 ⟨by decide, by decide⟩ ⟨Nat.le_of_ble_eq_true rfl, Nat.le_of_ble_eq_true rfl⟩ (Nat.le_of_ble_eq_true rfl) dL_errors_36 (fun H36 ad hax hX hB => ?_)
      refine z_bipush (v := (-2)) C dL_errors_39 (by decide) ?_
      refine z_icmp_ne C 168 dL_errors_41 (by decide) (fun h41 => ?_) (fun h41 => ?_)
      · exact absurd rfl h41
      · refine z_aload_n C dL_errors_44 rfl ?_
        refine z_iconst (v := 0) C dL_errors_45 (by decide) ?_
        refine z_iconst (v := 1) C dL_errors_46 (by decide) ?_
        refine z_bipush (v := 31) C dL_errors_47 (by decide) ?_
        refine y_callG0 (val := .int (-2)) (As := [.int _, .int _, .int _]) C hX hax hB hI (fun T _ hO => by have h := (fun sz : Nat => c_X5_addDoor l G ad _ T hI sz hO 0 1 31); simp only [er_addDoor3 hI (by omega)] at h; exact h _) (fun q hq => hq) kc_X5_addDoor wb_p234 ⟨by decide, by decide⟩ ⟨Nat.le_of_ble_eq_true rfl, Nat.le_of_ble_eq_true rfl⟩ (Nat.le_of_ble_eq_true rfl) dL_errors_49 (fun H49 ad hax hX hB => ?_)
        refine z_bipush (v := (-2)) C dL_errors_52 (by decide) ?_
        refine z_icmp_ne C 168 dL_errors_54 (by decide) (fun h54 => ?_) (fun h54 => ?_)
        · exact absurd rfl h54
        · refine z_aload_n C dL_errors_57 rfl ?_
          refine z_iconst (v := 0) C dL_errors_58 (by decide) ?_
          refine z_iconst (v := 1) C dL_errors_59 (by decide) ?_
          refine z_iconst (v := 1) C dL_errors_60 (by decide) ?_
          refine z_bipush (v := 6) C dL_errors_61 (by decide) ?_
          refine z_iconst (v := 1) C dL_errors_63 (by decide) ?_
          refine y_callG0 (val := .int (-2)) (As := [.int _, .int _, .int _, .int _, .int _]) C hX hax hB hI (fun T _ hO => by have h := (fun sz : Nat => c_X5_addLock l G ad _ T hI sz hO 0 1 1 6 1); simp only [er_addLock1 hI (by omega)] at h; exact h _) (fun q hq => hq) kc_X5_addLock wb_p303 ⟨by decide, by decide⟩ ⟨Nat.le_of_ble_eq_true rfl, Nat.le_of_ble_eq_true rfl⟩ (Nat.le_of_ble_eq_true rfl) dL_errors_64 (fun H64 ad hax hX hB => ?_)
          refine z_bipush (v := (-2)) C dL_errors_67 (by decide) ?_
          refine z_icmp_ne C 168 dL_errors_69 (by decide) (fun h69 => ?_) (fun h69 => ?_)
          · exact absurd rfl h69
          · refine z_aload_n C dL_errors_72 rfl ?_
            refine z_iconst (v := 0) C dL_errors_73 (by decide) ?_
            refine z_iconst (v := 1) C dL_errors_74 (by decide) ?_
            refine z_iconst (v := 1) C dL_errors_75 (by decide) ?_
            refine z_iconst (v := 0) C dL_errors_76 (by decide) ?_
            refine z_bipush (v := 61) C dL_errors_77 (by decide) ?_
            refine y_callG0 (val := .int (-2)) (As := [.int _, .int _, .int _, .int _, .int _]) C hX hax hB hI (fun T _ hO => by have h := (fun sz : Nat => c_X5_addLock l G ad _ T hI sz hO 0 1 1 0 61); simp only [er_addLock2 hI (by omega)] at h; exact h _) (fun q hq => hq) kc_X5_addLock wb_p303 ⟨by decide, by decide⟩ ⟨Nat.le_of_ble_eq_true rfl, Nat.le_of_ble_eq_true rfl⟩ (Nat.le_of_ble_eq_true rfl) dL_errors_79 (fun H79 ad hax hX hB => ?_)
            refine z_bipush (v := (-2)) C dL_errors_82 (by decide) ?_
            refine z_icmp_ne C 168 dL_errors_84 (by decide) (fun h84 => ?_) (fun h84 => ?_)
            · exact absurd rfl h84
            · refine z_aload_n C dL_errors_87 rfl ?_
              refine z_iload_n C dL_errors_88 rfl ?_
              refine z_iconst (v := 0) C dL_errors_89 (by decide) ?_
              refine y_callG0 (val := .int (-1)) (As := [.int _, .int _]) C hX hax hB hI (fun T _ hO => by have h := (fun sz : Nat => c_X5_addKey l G ad _ T hI sz hO (nI nR) 0); simp only [er_addKey1 hI] at h; exact h _) (fun q hq => hq) kc_X5_addKey wb_p314 ⟨by decide, by decide⟩ ⟨Nat.le_of_ble_eq_true rfl, Nat.le_of_ble_eq_true rfl⟩ (Nat.le_of_ble_eq_true rfl) dL_errors_90 (fun H90 ad hax hX hB => ?_)
              refine z_iconst (v := (-1)) C dL_errors_93 (by decide) ?_
              refine z_icmp_ne C 168 dL_errors_94 (by decide) (fun h94 => ?_) (fun h94 => ?_)
              · exact absurd rfl h94
              · refine z_aload_n C dL_errors_97 rfl ?_
                refine z_iconst (v := 0) C dL_errors_98 (by decide) ?_
                refine z_iconst (v := (-1)) C dL_errors_99 (by decide) ?_
                refine y_callG0 (val := .int (-2)) (As := [.int _, .int _]) C hX hax hB hI (fun T _ hO => by have h := (fun sz : Nat => c_X5_addKey l G ad _ T hI sz hO 0 (-1)); simp only [er_addKey2 hI (by omega)] at h; exact h _) (fun q hq => hq) kc_X5_addKey wb_p314 ⟨by decide, by decide⟩ ⟨Nat.le_of_ble_eq_true rfl, Nat.le_of_ble_eq_true rfl⟩ (Nat.le_of_ble_eq_true rfl) dL_errors_100 (fun H100 ad hax hX hB => ?_)
                refine z_bipush (v := (-2)) C dL_errors_103 (by decide) ?_
                refine z_icmp_ne C 168 dL_errors_105 (by decide) (fun h105 => ?_) (fun h105 => ?_)
                · exact absurd rfl h105
                · refine z_aload_n C dL_errors_108 rfl ?_
                  refine z_iconst (v := 1) C dL_errors_109 (by decide) ?_
                  refine z_iload_n C dL_errors_110 rfl ?_
                  refine y_callG0 (val := .int (-1)) (As := [.int _, .int _]) C hX hax hB hI (fun T _ hO => by have h := (fun sz : Nat => c_X5_addGroup l G ad _ T hI sz hO 1 (nI nR)); simp only [er_addGroup1 hI] at h; exact h _) (fun q hq => hq) kc_X5_addGroup wb_p350 ⟨by decide, by decide⟩ ⟨Nat.le_of_ble_eq_true rfl, Nat.le_of_ble_eq_true rfl⟩ (Nat.le_of_ble_eq_true rfl) dL_errors_111 (fun H111 ad hax hX hB => ?_)
                  refine z_iconst (v := (-1)) C dL_errors_114 (by decide) ?_
                  refine z_icmp_ne C 168 dL_errors_115 (by decide) (fun h115 => ?_) (fun h115 => ?_)
                  · exact absurd rfl h115
                  · refine z_aload_n C dL_errors_118 rfl ?_
                    refine z_iconst (v := 0) C dL_errors_119 (by decide) ?_
                    refine z_iconst (v := 0) C dL_errors_120 (by decide) ?_
                    refine y_callG0 (val := .int (-2)) (As := [.int _, .int _]) C hX hax hB hI (fun T _ hO => by have h := (fun sz : Nat => c_X5_addGroup l G ad _ T hI sz hO 0 0); simp only [er_addGroup2 hI (by omega)] at h; exact h _) (fun q hq => hq) kc_X5_addGroup wb_p350 ⟨by decide, by decide⟩ ⟨Nat.le_of_ble_eq_true rfl, Nat.le_of_ble_eq_true rfl⟩ (Nat.le_of_ble_eq_true rfl) dL_errors_121 (fun H121 ad hax hX hB => ?_)
                    refine z_bipush (v := (-2)) C dL_errors_124 (by decide) ?_
                    refine z_icmp_ne C 168 dL_errors_126 (by decide) (fun h126 => ?_) (fun h126 => ?_)
                    · exact absurd rfl h126
                    · refine z_aload_n C dL_errors_129 rfl ?_
                      refine z_bipush (v := 25) C dL_errors_130 (by decide) ?_
                      refine z_iconst (v := 0) C dL_errors_132 (by decide) ?_
                      refine y_callG0 (val := .int (-2)) (As := [.int _, .int _]) C hX hax hB hI (fun T _ hO => by have h := (fun sz : Nat => c_X5_addGroup l G ad _ T hI sz hO 25 0); simp only [er_addGroup3 hI (by omega)] at h; exact h _) (fun q hq => hq) kc_X5_addGroup wb_p350 ⟨by decide, by decide⟩ ⟨Nat.le_of_ble_eq_true rfl, Nat.le_of_ble_eq_true rfl⟩ (Nat.le_of_ble_eq_true rfl) dL_errors_133 (fun H133 ad hax hX hB => ?_)
                      refine z_bipush (v := (-2)) C dL_errors_136 (by decide) ?_
                      refine z_icmp_ne C 168 dL_errors_138 (by decide) (fun h138 => ?_) (fun h138 => ?_)
                      · exact absurd rfl h138
                      · refine z_aload_n C dL_errors_141 rfl ?_
                        refine z_iconst (v := 0) C dL_errors_142 (by decide) ?_
                        refine z_iconst (v := 0) C dL_errors_143 (by decide) ?_
                        refine y_callW (M' := M) (t4' := t4) (val := .int (-2)) (As := [.int _, .int _]) C hX hax (fun T hT => by have h := c_X5_setHints l G ad M T hI 0 0; rw [er_setHints1] at h; exact h) (fun T v H' hT hq => y_qW hT hq) hB.xA kc_X5_setHints wb_p389 ⟨by decide, by decide⟩ ⟨Nat.le_of_ble_eq_true rfl, Nat.le_of_ble_eq_true rfl⟩ (Nat.le_of_ble_eq_true rfl) dL_errors_144 (fun H144 hX144 hF144 => ?_)
                        replace hX := hX144
                        replace hB := hB.fr hF144
                        refine z_bipush (v := (-2)) C dL_errors_147 (by decide) ?_
                        refine z_icmp_ne C 168 dL_errors_149 (by decide) (fun h149 => ?_) (fun h149 => ?_)
                        · exact absurd rfl h149
                        · refine z_aload_n C dL_errors_152 rfl ?_
                          refine z_iconst (v := 1) C dL_errors_153 (by decide) ?_
                          refine z_bipush (v := 31) C dL_errors_154 (by decide) ?_
                          refine y_callW (M' := M) (t4' := t4) (val := .int (-2)) (As := [.int _, .int _]) C hX hax (fun T hT => by have h := c_X5_setHints l G ad M T hI 1 31; rw [er_setHints2] at h; exact h) (fun T v H' hT hq => y_qW hT hq) hB.xA kc_X5_setHints wb_p389 ⟨by decide, by decide⟩ ⟨Nat.le_of_ble_eq_true rfl, Nat.le_of_ble_eq_true rfl⟩ (Nat.le_of_ble_eq_true rfl) dL_errors_156 (fun H156 hX156 hF156 => ?_)
                          replace hX := hX156
                          replace hB := hB.fr hF156
                          refine z_bipush (v := (-2)) C dL_errors_159 (by decide) ?_
                          refine z_icmp_ne C 168 dL_errors_161 (by decide) (fun h161 => ?_) (fun h161 => ?_)
                          · exact absurd rfl h161
                          · refine z_iconst (v := 1) C dL_errors_164 (by decide) ?_
                            refine z_goto C 169 dL_errors_165 (by decide) ?_
                            refine z_istore_n C dL_errors_169 (by decide) ?_
                            refine z_iload_n C dL_errors_170 rfl ?_
                            refine z_if_eq C 328 dL_errors_171 (by decide) (fun h171 => ?_) (fun h171 => ?_)
                            · exact absurd h171 (by decide)
                            · refine z_aload_n C dL_errors_174 rfl ?_
                              refine z_iload_n C dL_errors_175 rfl ?_
                              refine z_iconst (v := 0) C dL_errors_176 (by decide) ?_
                              refine y_callW (M' := M) (t4' := t4) (val := .int (-1)) (As := [.int _, .int _]) C hX hax (fun T hT => by have h := c_X5_walk l G ad M T hI (nI nG) 0; rw [er_walk hI] at h; exact h) (fun T v H' hT hq => y_qW hT hq) hB.xA kc_X5_walk wb_p590 ⟨by decide, by decide⟩ ⟨Nat.le_of_ble_eq_true rfl, Nat.le_of_ble_eq_true rfl⟩ (Nat.le_of_ble_eq_true rfl) dL_errors_177 (fun H177 hX177 hF177 => ?_)
                              replace hX := hX177
                              replace hB := hB.fr hF177
                              refine z_iconst (v := (-1)) C dL_errors_180 (by decide) ?_
                              refine z_icmp_ne C 328 dL_errors_181 (by decide) (fun h181 => ?_) (fun h181 => ?_)
                              · exact absurd rfl h181
                              · refine z_aload_n C dL_errors_184 rfl ?_
                                refine z_iload_n C dL_errors_185 rfl ?_
                                refine z_iconst (v := 0) C dL_errors_186 (by decide) ?_
                                refine y_callW (M' := M) (t4' := t4) (val := .int (-1)) (As := [.int _, .int _]) C hX hax (fun T hT => by have h := c_X5_unlock l G ad M T hI (nI nG) 0; rw [er_unlock hI] at h; exact h) (fun T v H' hT hq => y_qW hT hq) hB.xA kc_X5_unlock wb_p606 ⟨by decide, by decide⟩ ⟨Nat.le_of_ble_eq_true rfl, Nat.le_of_ble_eq_true rfl⟩ (Nat.le_of_ble_eq_true rfl) dL_errors_187 (fun H187 hX187 hF187 => ?_)
                                replace hX := hX187
                                replace hB := hB.fr hF187
                                refine z_iconst (v := (-1)) C dL_errors_190 (by decide) ?_
                                refine z_icmp_ne C 328 dL_errors_191 (by decide) (fun h191 => ?_) (fun h191 => ?_)
                                · exact absurd rfl h191
                                · refine z_aload_n C dL_errors_194 rfl ?_
                                  refine z_iload_n C dL_errors_195 rfl ?_
                                  refine z_iconst (v := 0) C dL_errors_196 (by decide) ?_
                                  refine y_callW (M' := M) (t4' := t4) (val := .int (-1)) (As := [.int _, .int _]) C hX hax (fun T hT => by have h := c_X5_take l G ad M T hI (nI nG) 0; rw [er_take hI] at h; exact h) (fun T v H' hT hq => y_qW hT hq) hB.xA kc_X5_take wb_p625 ⟨by decide, by decide⟩ ⟨Nat.le_of_ble_eq_true rfl, Nat.le_of_ble_eq_true rfl⟩ (Nat.le_of_ble_eq_true rfl) dL_errors_197 (fun H197 hX197 hF197 => ?_)
                                  replace hX := hX197
                                  replace hB := hB.fr hF197
                                  refine z_iconst (v := (-1)) C dL_errors_200 (by decide) ?_
                                  refine z_icmp_ne C 328 dL_errors_201 (by decide) (fun h201 => ?_) (fun h201 => ?_)
                                  · exact absurd rfl h201
                                  · refine z_aload_n C dL_errors_204 rfl ?_
                                    refine z_iload_n C dL_errors_205 rfl ?_
                                    refine z_iconst (v := 0) C dL_errors_206 (by decide) ?_
                                    refine y_callW (M' := M) (t4' := t4) (val := .int (-1)) (As := [.int _, .int _]) C hX hax (fun T hT => by have h := c_X5_drop l G ad M T hI (nI nG) 0; rw [er_drop hI] at h; exact h) (fun T v H' hT hq => y_qW hT hq) hB.xA kc_X5_drop wb_p633 ⟨by decide, by decide⟩ ⟨Nat.le_of_ble_eq_true rfl, Nat.le_of_ble_eq_true rfl⟩ (Nat.le_of_ble_eq_true rfl) dL_errors_207 (fun H207 hX207 hF207 => ?_)
                                    replace hX := hX207
                                    replace hB := hB.fr hF207
                                    refine z_iconst (v := (-1)) C dL_errors_210 (by decide) ?_
                                    refine z_icmp_ne C 328 dL_errors_211 (by decide) (fun h211 => ?_) (fun h211 => ?_)
                                    · exact absurd rfl h211
                                    · refine z_aload_n C dL_errors_214 rfl ?_
                                      refine z_iload_n C dL_errors_215 rfl ?_
                                      refine z_iconst (v := 1) C dL_errors_216 (by decide) ?_
                                      refine y_callW (M' := M) (t4' := t4) (val := .int (-1)) (As := [.int _, .int _]) C hX hax (fun T hT => by have h := c_X5_idle l G ad M T hI (nI nG) 1; rw [er_idle1 hI] at h; exact h) (fun T v H' hT hq => y_qW hT hq) hB.xA kc_X5_idle wb_p393 ⟨by decide, by decide⟩ ⟨Nat.le_of_ble_eq_true rfl, Nat.le_of_ble_eq_true rfl⟩ (Nat.le_of_ble_eq_true rfl) dL_errors_217 (fun H217 hX217 hF217 => ?_)
                                      replace hX := hX217
                                      replace hB := hB.fr hF217
                                      refine z_iconst (v := (-1)) C dL_errors_220 (by decide) ?_
                                      refine z_icmp_ne C 328 dL_errors_221 (by decide) (fun h221 => ?_) (fun h221 => ?_)
                                      · exact absurd rfl h221
                                      · refine z_aload_n C dL_errors_224 rfl ?_
                                        refine z_iconst (v := 0) C dL_errors_225 (by decide) ?_
                                        refine z_iconst (v := 0) C dL_errors_226 (by decide) ?_
                                        refine y_callW (M' := M) (t4' := t4) (val := .int (-2)) (As := [.int _, .int _]) C hX hax (fun T hT => by have h := c_X5_idle l G ad M T hI 0 0; rw [er_idle2 hI (by omega)] at h; exact h) (fun T v H' hT hq => y_qW hT hq) hB.xA kc_X5_idle wb_p393 ⟨by decide, by decide⟩ ⟨Nat.le_of_ble_eq_true rfl, Nat.le_of_ble_eq_true rfl⟩ (Nat.le_of_ble_eq_true rfl) dL_errors_227 (fun H227 hX227 hF227 => ?_)
                                        replace hX := hX227
                                        replace hB := hB.fr hF227
                                        refine z_bipush (v := (-2)) C dL_errors_230 (by decide) ?_
                                        refine z_icmp_ne C 328 dL_errors_232 (by decide) (fun h232 => ?_) (fun h232 => ?_)
                                        · exact absurd rfl h232
                                        · refine z_aload_n C dL_errors_235 rfl ?_
                                          refine z_iconst (v := 0) C dL_errors_236 (by decide) ?_
                                          refine z_sipush (v := 1001) C dL_errors_237 (by decide) ?_
                                          refine y_callW (M' := M) (t4' := t4) (val := .int (-2)) (As := [.int _, .int _]) C hX hax (fun T hT => by have h := c_X5_idle l G ad M T hI 0 1001; rw [er_idle3 hI (by omega)] at h; exact h) (fun T v H' hT hq => y_qW hT hq) hB.xA kc_X5_idle wb_p393 ⟨by decide, by decide⟩ ⟨Nat.le_of_ble_eq_true rfl, Nat.le_of_ble_eq_true rfl⟩ (Nat.le_of_ble_eq_true rfl) dL_errors_240 (fun H240 hX240 hF240 => ?_)
                                          replace hX := hX240
                                          replace hB := hB.fr hF240
                                          refine z_bipush (v := (-2)) C dL_errors_243 (by decide) ?_
                                          refine z_icmp_ne C 328 dL_errors_245 (by decide) (fun h245 => ?_) (fun h245 => ?_)
                                          · exact absurd rfl h245
                                          · refine z_aload_n C dL_errors_248 rfl ?_
                                            refine z_iload_n C dL_errors_249 rfl ?_
                                            refine z_iconst (v := 1) C dL_errors_250 (by decide) ?_
                                            refine y_callG0 (val := .int (-1)) (As := [.int _, .int _]) C hX hax hB hI (fun T _ hO => by have h := (fun sz : Nat => c_X5_part l G ad _ T hI sz hO (nI nG) 1); simp only [er_part hI] at h; exact h _) (fun q hq => hq) kc_X5_part wb_p644 ⟨by decide, by decide⟩ ⟨Nat.le_of_ble_eq_true rfl, Nat.le_of_ble_eq_true rfl⟩ (Nat.le_of_ble_eq_true rfl) dL_errors_251 (fun H251 ad hax hX hB => ?_)
                                            refine z_iconst (v := (-1)) C dL_errors_254 (by decide) ?_
                                            refine z_icmp_ne C 328 dL_errors_255 (by decide) (fun h255 => ?_) (fun h255 => ?_)
                                            · exact absurd rfl h255
                                            · refine z_aload_n C dL_errors_258 rfl ?_
                                              refine z_iload_n C dL_errors_259 rfl ?_
                                              refine z_iconst (v := 0) C dL_errors_260 (by decide) ?_
                                              refine y_callW (M' := M) (t4' := t4) (val := .int (-1)) (As := [.int _, .int _]) C hX hax (fun T hT => by have h := c_X5_join l G ad M T hI (nI nG) 0; rw [er_join hI] at h; exact h) (fun T v H' hT hq => y_qW hT hq) hB.xA kc_X5_join wb_p648 ⟨by decide, by decide⟩ ⟨Nat.le_of_ble_eq_true rfl, Nat.le_of_ble_eq_true rfl⟩ (Nat.le_of_ble_eq_true rfl) dL_errors_261 (fun H261 hX261 hF261 => ?_)
                                              replace hX := hX261
                                              replace hB := hB.fr hF261
                                              refine z_iconst (v := (-1)) C dL_errors_264 (by decide) ?_
                                              refine z_icmp_ne C 328 dL_errors_265 (by decide) (fun h265 => ?_) (fun h265 => ?_)
                                              · exact absurd rfl h265
                                              · refine z_aload_n C dL_errors_268 rfl ?_
                                                refine z_iload_n C dL_errors_269 rfl ?_
                                                refine y_callW (M' := M) (t4' := t4) (val := .int (-1)) (As := [.int _]) C hX hax (fun T hT => by have h := c_X5_leave l G ad M T hI (nI nG); rw [er_leave hI] at h; exact h) (fun T v H' hT hq => y_qW hT hq) hB.xA kc_X5_leave wb_p406 ⟨by decide, by decide⟩ ⟨Nat.le_of_ble_eq_true rfl, Nat.le_of_ble_eq_true rfl⟩ (Nat.le_of_ble_eq_true rfl) dL_errors_270 (fun H270 hX270 hF270 => ?_)
                                                replace hX := hX270
                                                replace hB := hB.fr hF270
                                                refine z_iconst (v := (-1)) C dL_errors_273 (by decide) ?_
                                                refine z_icmp_ne C 328 dL_errors_274 (by decide) (fun h274 => ?_) (fun h274 => ?_)
                                                · exact absurd rfl h274
                                                · refine z_aload_n C dL_errors_277 rfl ?_
                                                  refine z_iload_n C dL_errors_278 rfl ?_
                                                  refine y_callW (M' := M) (t4' := t4) (val := .int (-1)) (As := [.int _]) C hX hax (fun T hT => by have h := c_X5_hint l G ad M T hI hH (by omega) (nI nG); rw [er_hint hI] at h; exact h) (fun T v H' hT hq => by obtain ⟨h1, T', h2, h3⟩ := hq; exact ⟨h1, T', h2.trans (by rw [er_h4 hI]; exact hT), h3⟩) hB.xA kc_X5_hint wb_p659 ⟨by decide, by decide⟩ ⟨Nat.le_of_ble_eq_true rfl, Nat.le_of_ble_eq_true rfl⟩ (Nat.le_of_ble_eq_true rfl) dL_errors_279 (fun H279 hX279 hF279 => ?_)
                                                  replace hX := hX279
                                                  replace hB := hB.fr hF279
                                                  refine z_iconst (v := (-1)) C dL_errors_282 (by decide) ?_
                                                  refine z_icmp_ne C 328 dL_errors_283 (by decide) (fun h283 => ?_) (fun h283 => ?_)
                                                  · exact absurd rfl h283
                                                  · refine z_aload_n C dL_errors_286 rfl ?_
                                                    refine z_aload_n C dL_errors_287 rfl ?_
                                                    refine z_iconst (v := 1) C dL_errors_288 (by decide) ?_
                                                    refine y_callR (As := [.int _]) C hX hax (fun T hT4 => c_X5_countR _ _ ad M T hI _ (by decide) (fun h => absurd h (by decide))) kc_X5_count wb_p434 ⟨by decide, by decide⟩ ⟨Nat.le_of_ble_eq_true rfl, Nat.le_of_ble_eq_true rfl⟩ (Nat.le_of_ble_eq_true rfl) dL_errors_289 ?_
                                                    rw [y_c1 hI]
                                                    refine z_iconst (v := 0) C dL_errors_292 (by decide) ?_
                                                    refine y_callR (As := [.int _, .int _]) C hX hax (fun T _ => c_X5_door _ _ ad M T hI _ _) kc_X5_door wb_p544 ⟨by decide, by decide⟩ ⟨Nat.le_of_ble_eq_true rfl, Nat.le_of_ble_eq_true rfl⟩ (Nat.le_of_ble_eq_true rfl) dL_errors_293 ?_
                                                    rw [er_door hI]
                                                    refine z_iconst (v := (-1)) C dL_errors_296 (by decide) ?_
                                                    refine z_icmp_ne C 328 dL_errors_297 (by decide) (fun h297 => ?_) (fun h297 => ?_)
                                                    · exact absurd rfl h297
                                                    · refine z_aload_n C dL_errors_300 rfl ?_
                                                      refine z_aload_n C dL_errors_301 rfl ?_
                                                      refine z_iconst (v := 2) C dL_errors_302 (by decide) ?_
                                                      refine y_callR (As := [.int _]) C hX hax (fun T hT4 => c_X5_countR _ _ ad M T hI _ (by decide) (fun h => absurd h (by decide))) kc_X5_count wb_p434 ⟨by decide, by decide⟩ ⟨Nat.le_of_ble_eq_true rfl, Nat.le_of_ble_eq_true rfl⟩ (Nat.le_of_ble_eq_true rfl) dL_errors_303 ?_
                                                      rw [y_c2 hI]
                                                      refine z_iconst (v := 0) C dL_errors_306 (by decide) ?_
                                                      refine y_callR (As := [.int _, .int _]) C hX hax (fun T _ => c_X5_key _ _ ad M T hI _ _) kc_X5_key wb_p525 ⟨by decide, by decide⟩ ⟨Nat.le_of_ble_eq_true rfl, Nat.le_of_ble_eq_true rfl⟩ (Nat.le_of_ble_eq_true rfl) dL_errors_307 ?_
                                                      rw [er_key hI]
                                                      refine z_iconst (v := (-1)) C dL_errors_310 (by decide) ?_
                                                      refine z_icmp_ne C 328 dL_errors_311 (by decide) (fun h311 => ?_) (fun h311 => ?_)
                                                      · exact absurd rfl h311
                                                      · refine z_aload_n C dL_errors_314 rfl ?_
                                                        refine z_iload_n C dL_errors_315 rfl ?_
                                                        refine z_iconst (v := 0) C dL_errors_316 (by decide) ?_
                                                        refine y_callR (As := [.int _, .int _]) C hX hax (fun T _ => c_X5_group _ _ ad M T hI _ _) kc_X5_group wb_p410 ⟨by decide, by decide⟩ ⟨Nat.le_of_ble_eq_true rfl, Nat.le_of_ble_eq_true rfl⟩ (Nat.le_of_ble_eq_true rfl) dL_errors_317 ?_
                                                        rw [er_group hI]
                                                        refine z_iconst (v := (-1)) C dL_errors_320 (by decide) ?_
                                                        refine z_icmp_ne C 328 dL_errors_321 (by decide) (fun h321 => ?_) (fun h321 => ?_)
                                                        · exact absurd rfl h321
                                                        · refine z_iconst (v := 1) C dL_errors_324 (by decide) ?_
                                                          refine z_goto C 329 dL_errors_325 (by decide) ?_
                                                          exact z_bret C (by omega) (by omega) dL_errors_329 (by rfl) (by exact rfl)
