set_option maxHeartbeats 4000000 in
set_option maxRecDepth 100000 in
theorem c_X6_canAdd (l : Launch) (G : z_G) (ad : Nat → Nat) (M : m_S) {nL : Nat} (hL : M.1 22 = nI nL) (h10 : nL ≤ 10) (h23 : ∀ k, k < nL → vp_in (M.2 23 k) 16) {nK : Nat} (hKn : M.1 9 = nI nK) (hK16 : nK ≤ 16) (g z : Int32) (hz : vp_in z 1024) (k d : Nat) (hk : k < 10) (hd : d < 16) (hdk : M.2 23 k = nI d) : z_MR l yX6_canAdd cX6_canAdd 9 (some .boolean) 1 [.ref (ad 0), .int g, .int z, .int (nI k)] G (fun H => m_R G ad M H) (.int (z_b (F_canAdd M nK nL g z k d))) := by
  refine z_M.of (by decide +kernel) (Nat.le_of_ble_eq_true rfl) ?_
  intro p e s m below meth c C hP
  have hM : m_R G ad M s.heap := hP
  have hkv : vp_in (nI k) 10 := vp_in_nI hk (by omega)
  have hdv : vp_in (nI d) 16 := vp_in_nI hd (by omega)
  have hck : (nI k).toNatClampNeg = k := nI_clamp (by omega)
  have hcd : (nI d).toNatClampNeg = d := nI_clamp (by omega)
  refine z_aload_n C dX6_canAdd_0 rfl ?_
  refine z_get C (by first | exact hM.1 | exact hM.2.1 _ rfl | exact hM.2.2.1 _ rfl) z_cls7 hu_X6 23 (by decide) wb_658 rfl rfl dX6_canAdd_1 ?_
  refine z_iload_n C dX6_canAdd_4 rfl ?_
  refine z_iald C (by first | exact hM.1 | exact hM.2.1 _ rfl | exact hM.2.2.1 _ rfl) (by first | assumption | exact h23 _ (by assumption)) (by first | exact hcli | exact hck | exact hcd | rfl) dX6_canAdd_5 ?_
  rw [hdk]
  refine z_istore C dX6_canAdd_6 (by decide) ?_
  refine z_aload_n C dX6_canAdd_8 rfl ?_
  refine z_get C (by first | exact hM.1 | exact hM.2.1 _ rfl | exact hM.2.2.1 _ rfl) z_cls7 hu_X6 25 (by decide) wb_660 rfl rfl dX6_canAdd_9 ?_
  refine z_iload_n C dX6_canAdd_12 rfl ?_
  refine z_iald C (by first | exact hM.1 | exact hM.2.1 _ rfl | exact hM.2.2.1 _ rfl) (by first | assumption | exact h23 _ (by assumption)) (by first | exact hcli | exact hck | exact hcd | rfl) dX6_canAdd_13 ?_
  refine z_aload_n C dX6_canAdd_14 rfl ?_
  refine z_get C (by first | exact hM.1 | exact hM.2.1 _ rfl | exact hM.2.2.1 _ rfl) z_cls7 hu_X6 3 (by decide) wb_638 rfl rfl dX6_canAdd_15 ?_
  refine z_iload C dX6_canAdd_18 rfl ?_
  refine z_iald C (by first | exact hM.1 | exact hM.2.1 _ rfl | exact hM.2.2.1 _ rfl) (by first | assumption | exact h23 _ (by assumption)) (by first | exact hcli | exact hck | exact hcd | rfl) dX6_canAdd_20 ?_
  refine z_callSR (As := [.int _, .int _]) C (c_X6_has _ _ _ _) kc_X6_has wb_861 ⟨by decide, by decide⟩ (trivial) ⟨Nat.zero_le _, Nat.zero_le _⟩ (Nat.le_of_ble_eq_true rfl) dX6_canAdd_21 ?_
  refine z_ifb_ne C 46 dX6_canAdd_24 (by decide) (fun h24 => ?_) (fun h24 => ?_)
  · refine z_iconst (v := 1) C dX6_canAdd_46 (by decide) ?_
    refine z_goto C 51 dX6_canAdd_47 (by decide) ?_
    refine z_istore C dX6_canAdd_51 (by decide) ?_
    refine z_iconst (v := 0) C dX6_canAdd_53 (by decide) ?_
    refine z_istore C dX6_canAdd_54 (by decide) ?_
    refine z_iconst (v := 0) C dX6_canAdd_56 (by decide) ?_
    refine z_istore C dX6_canAdd_57 (by decide) ?_
    refine z_loopN (fun i => [(0, .ref (ad 0)), (1, .int g), (2, .int z), (3, .int (nI k)), (4, .int (nI d)), (5, .int (z_b (m_has (M.2 25 z.toNatClampNeg) (M.2 3 d) || m_has (M.2 25 z.toNatClampNeg) (M.2 4 d)))), (6, .int (F_left1 M g (M.2 25 z.toNatClampNeg) (M.2 6 d) i)), (7, .int (nI i))]) nK ⟨rfl, rfl, rfl, rfl, rfl, z_lgI rfl (by simp [z_b, *]), rfl, rfl, trivial⟩ (fun i hi ihi => ?_)
    refine z_iload C dX6_canAdd_59 rfl ?_
    refine z_aload_n C dX6_canAdd_61 rfl ?_
    refine z_get C (by first | exact hM.1 | exact hM.2.1 _ rfl | exact hM.2.2.1 _ rfl) z_cls7 hu_X6 9 (by decide) wb_644 rfl rfl dX6_canAdd_62 ?_
    refine z_icmp_ge C 152 dX6_canAdd_65 (by decide) (fun h65 => ?_) (fun h65 => ?_)
    · obtain rfl := Eq.symm <| z_ge hKn (by omega) hi h65
      refine z_iconst (v := 0) C dX6_canAdd_152 (by decide) ?_
      refine z_istore C dX6_canAdd_153 (by decide) ?_
      refine z_loopN (fun i => [(0, .ref (ad 0)), (1, .int g), (2, .int z), (3, .int (nI k)), (4, .int (nI d)), (5, .int (z_b (m_has (M.2 25 z.toNatClampNeg) (M.2 3 d) || m_has (M.2 25 z.toNatClampNeg) (M.2 4 d)))), (6, .int (F_left1 M g (M.2 25 z.toNatClampNeg) (M.2 6 d) nK - F_left2 M z (M.2 6 d) i)), (7, .int (nI i))]) nL ⟨rfl, rfl, rfl, rfl, rfl, rfl, z_lgI rfl (Int32.sub_zero _).symm, rfl, trivial⟩ (fun i hi ihi => ?_)
      refine z_iload C dX6_canAdd_155 rfl ?_
      refine z_aload_n C dX6_canAdd_157 rfl ?_
      refine z_get C (by first | exact hM.1 | exact hM.2.1 _ rfl | exact hM.2.2.1 _ rfl) z_cls7 hu_X6 22 (by decide) wb_657 rfl rfl dX6_canAdd_158 ?_
      refine z_icmp_ge C 211 dX6_canAdd_161 (by decide) (fun h161 => ?_) (fun h161 => ?_)
      · obtain rfl := Eq.symm <| z_ge hL (by omega) hi h161
        refine z_iload_n C dX6_canAdd_211 rfl ?_
        refine z_iload_n C dX6_canAdd_212 rfl ?_
        refine z_callSR (As := [.int _, .int _]) C (c_X6_has _ _ _ _) kc_X6_has wb_861 ⟨by decide, by decide⟩ (trivial) ⟨Nat.zero_le _, Nat.zero_le _⟩ (Nat.le_of_ble_eq_true rfl) dX6_canAdd_213 ?_
        refine z_ifb_ne C 233 dX6_canAdd_216 (by decide) (fun h216 => ?_) (fun h216 => ?_)
        · refine z_iconst (v := 0) C dX6_canAdd_233 (by decide) ?_
          exact z_bret C (by omega) (by omega) dX6_canAdd_234 (by rfl) (by first | (exfalso; revert h221; simp [z_b, *]; done) | exact ⟨congrArg (fun z => some (Value.int z)) (by simp [z_b, F_canAdd, *]), rfl⟩)
        · refine z_iload C dX6_canAdd_219 rfl ?_
          refine z_if_eq C 233 dX6_canAdd_221 (by decide) (fun h221 => ?_) (fun h221 => ?_)
          · refine z_iconst (v := 0) C dX6_canAdd_233 (by decide) ?_
            exact z_bret C (by omega) (by omega) dX6_canAdd_234 (by rfl) (by first | (exfalso; revert h221; simp [z_b, *]; done) | exact ⟨congrArg (fun z => some (Value.int z)) (by simp [z_b, F_canAdd, *]), rfl⟩)
          · refine z_iload C dX6_canAdd_224 rfl ?_
            refine z_if_le C 233 dX6_canAdd_226 (by decide) (fun h226 => ?_) (fun h226 => ?_)
            · refine z_iconst (v := 0) C dX6_canAdd_233 (by decide) ?_
              exact z_bret C (by omega) (by omega) dX6_canAdd_234 (by rfl) (by first | (exfalso; revert h221; simp [z_b, *]; done) | exact ⟨congrArg (fun z => some (Value.int z)) (by simp [z_b, F_canAdd, *]), rfl⟩)
            · refine z_iconst (v := 1) C dX6_canAdd_229 (by decide) ?_
              refine z_goto C 234 dX6_canAdd_230 (by decide) ?_
              exact z_bret C (by omega) (by omega) dX6_canAdd_234 (by rfl) (by first | (exfalso; revert h221; simp [z_b, *]; done) | exact ⟨congrArg (fun z => some (Value.int z)) (by simp [z_b, F_canAdd, *]), rfl⟩)
      · have hlti := z_lt hL (by omega) hi h161
        have hini : vp_in (nI i) 10 := vp_in_nI (by omega) (by omega)
        have hcli : (nI i).toNatClampNeg = i := nI_clamp (by omega)
        refine z_iload C dX6_canAdd_164 rfl ?_
        refine z_iload_n C dX6_canAdd_166 rfl ?_
        refine z_iload C dX6_canAdd_167 rfl ?_
        refine z_callSR (As := [.int _, .int _]) C (c_X6_has _ _ _ _) kc_X6_has wb_861 ⟨by decide, by decide⟩ (trivial) ⟨Nat.zero_le _, Nat.zero_le _⟩ (Nat.le_of_ble_eq_true rfl) dX6_canAdd_169 ?_
        refine z_ifb_eq C 201 dX6_canAdd_172 (by decide) (fun h172 => ?_) (fun h172 => ?_)
        · refine z_iconst (v := 0) C dX6_canAdd_201 (by decide) ?_
          refine z_isub C dX6_canAdd_202 ?_
          refine z_istore C dX6_canAdd_203 (by decide) ?_
          refine z_iinc C dX6_canAdd_205 rfl rfl (by decide) ?_
          refine z_goto C 155 dX6_canAdd_208 (by decide) ?_
          first | exact absurd h125 (by decide) | exact absurd rfl h125 | exact ihi hlti _ ⟨rfl, rfl, rfl, rfl, rfl, rfl, z_lgI rfl (by simp [F_left2, m_cnt, m_sum, m_c, Int32.sub_sub, *]), z_lgI rfl (z_inc i), trivial⟩
        · refine z_aload_n C dX6_canAdd_175 rfl ?_
          refine z_get C (by first | exact hM.1 | exact hM.2.1 _ rfl | exact hM.2.2.1 _ rfl) z_cls7 hu_X6 6 (by decide) wb_641 rfl rfl dX6_canAdd_176 ?_
          refine z_aload_n C dX6_canAdd_179 rfl ?_
          refine z_get C (by first | exact hM.1 | exact hM.2.1 _ rfl | exact hM.2.2.1 _ rfl) z_cls7 hu_X6 23 (by decide) wb_658 rfl rfl dX6_canAdd_180 ?_
          refine z_iload C dX6_canAdd_183 rfl ?_
          refine z_iald C (by first | exact hM.1 | exact hM.2.1 _ rfl | exact hM.2.2.1 _ rfl) (by first | assumption | exact h23 _ (by assumption)) (by first | exact hcli | exact hck | exact hcd | rfl) dX6_canAdd_185 ?_
          refine z_iald C (by first | exact hM.1 | exact hM.2.1 _ rfl | exact hM.2.2.1 _ rfl) (by first | assumption | exact h23 _ (by assumption)) (by first | exact hcli | exact hck | exact hcd | rfl) dX6_canAdd_186 ?_
          refine z_aload_n C dX6_canAdd_187 rfl ?_
          refine z_get C (by first | exact hM.1 | exact hM.2.1 _ rfl | exact hM.2.2.1 _ rfl) z_cls7 hu_X6 6 (by decide) wb_641 rfl rfl dX6_canAdd_188 ?_
          refine z_iload C dX6_canAdd_191 rfl ?_
          refine z_iald C (by first | exact hM.1 | exact hM.2.1 _ rfl | exact hM.2.2.1 _ rfl) (by first | assumption | exact h23 _ (by assumption)) (by first | exact hcli | exact hck | exact hcd | rfl) dX6_canAdd_193 ?_
          refine z_icmp_ne C 201 dX6_canAdd_194 (by decide) (fun h194 => ?_) (fun h194 => ?_)
          · refine z_iconst (v := 0) C dX6_canAdd_201 (by decide) ?_
            refine z_isub C dX6_canAdd_202 ?_
            refine z_istore C dX6_canAdd_203 (by decide) ?_
            refine z_iinc C dX6_canAdd_205 rfl rfl (by decide) ?_
            refine z_goto C 155 dX6_canAdd_208 (by decide) ?_
            first | exact absurd h125 (by decide) | exact absurd rfl h125 | exact ihi hlti _ ⟨rfl, rfl, rfl, rfl, rfl, rfl, z_lgI rfl (by simp [F_left2, m_cnt, m_sum, m_c, Int32.sub_sub, *]), z_lgI rfl (z_inc i), trivial⟩
          · refine z_iconst (v := 1) C dX6_canAdd_197 (by decide) ?_
            refine z_goto C 202 dX6_canAdd_198 (by decide) ?_
            refine z_isub C dX6_canAdd_202 ?_
            refine z_istore C dX6_canAdd_203 (by decide) ?_
            refine z_iinc C dX6_canAdd_205 rfl rfl (by decide) ?_
            refine z_goto C 155 dX6_canAdd_208 (by decide) ?_
            first | exact absurd h125 (by decide) | exact absurd rfl h125 | exact ihi hlti _ ⟨rfl, rfl, rfl, rfl, rfl, rfl, z_lgI rfl (by simp [F_left2, m_cnt, m_sum, m_c, Int32.sub_sub, *]), z_lgI rfl (z_inc i), trivial⟩
    · have hlti := z_lt hKn (by omega) hi h65
      have hini : vp_in (nI i) 16 := vp_in_nI (by omega) (by omega)
      have hcli : (nI i).toNatClampNeg = i := nI_clamp (by omega)
      refine z_aload_n C dX6_canAdd_68 rfl ?_
      refine z_get C (by first | exact hM.1 | exact hM.2.1 _ rfl | exact hM.2.2.1 _ rfl) z_cls7 hu_X6 11 (by decide) wb_646 rfl rfl dX6_canAdd_69 ?_
      refine z_iload C dX6_canAdd_72 rfl ?_
      refine z_iald C (by first | exact hM.1 | exact hM.2.1 _ rfl | exact hM.2.2.1 _ rfl) (by first | assumption | exact h23 _ (by assumption)) (by first | exact hcli | exact hck | exact hcd | rfl) dX6_canAdd_74 ?_
      refine z_if_ne C 101 dX6_canAdd_75 (by decide) (fun h75 => ?_) (fun h75 => ?_)
      · refine z_iconst (v := 0) C dX6_canAdd_101 (by decide) ?_
        refine z_istore C dX6_canAdd_102 (by decide) ?_
        refine z_iload C dX6_canAdd_104 rfl ?_
        refine z_aload_n C dX6_canAdd_106 rfl ?_
        refine z_get C (by first | exact hM.1 | exact hM.2.1 _ rfl | exact hM.2.2.1 _ rfl) z_cls7 hu_X6 10 (by decide) wb_645 rfl rfl dX6_canAdd_107 ?_
        refine z_iload C dX6_canAdd_110 rfl ?_
        refine z_iald C (by first | exact hM.1 | exact hM.2.1 _ rfl | exact hM.2.2.1 _ rfl) (by first | assumption | exact h23 _ (by assumption)) (by first | exact hcli | exact hck | exact hcd | rfl) dX6_canAdd_112 ?_
        refine z_aload_n C dX6_canAdd_113 rfl ?_
        refine z_get C (by first | exact hM.1 | exact hM.2.1 _ rfl | exact hM.2.2.1 _ rfl) z_cls7 hu_X6 6 (by decide) wb_641 rfl rfl dX6_canAdd_114 ?_
        refine z_iload C dX6_canAdd_117 rfl ?_
        refine z_iald C (by first | exact hM.1 | exact hM.2.1 _ rfl | exact hM.2.2.1 _ rfl) (by first | assumption | exact h23 _ (by assumption)) (by first | exact hcli | exact hck | exact hcd | rfl) dX6_canAdd_119 ?_
        refine z_icmp_ne C 142 dX6_canAdd_120 (by decide) (fun h120 => ?_) (fun h120 => ?_)
        · refine z_iconst (v := 0) C dX6_canAdd_142 (by decide) ?_
          refine z_iadd C dX6_canAdd_143 ?_
          refine z_istore C dX6_canAdd_144 (by decide) ?_
          refine z_iinc C dX6_canAdd_146 rfl rfl (by decide) ?_
          refine z_goto C 59 dX6_canAdd_149 (by decide) ?_
          first | exact absurd h125 (by decide) | exact absurd rfl h125 | exact ihi hlti _ ⟨rfl, rfl, rfl, rfl, rfl, rfl, z_lgI rfl (by simp [F_left1, k_near, m_cnt, m_sum, m_c, *]), z_lgI rfl (z_inc i), trivial⟩
        · refine z_iload C dX6_canAdd_123 rfl ?_
          refine z_if_ne C 138 dX6_canAdd_125 (by decide) (fun h125 => ?_) (fun h125 => ?_)
          · refine z_iconst (v := 1) C dX6_canAdd_138 (by decide) ?_
            refine z_goto C 143 dX6_canAdd_139 (by decide) ?_
            refine z_iadd C dX6_canAdd_143 ?_
            refine z_istore C dX6_canAdd_144 (by decide) ?_
            refine z_iinc C dX6_canAdd_146 rfl rfl (by decide) ?_
            refine z_goto C 59 dX6_canAdd_149 (by decide) ?_
            first | exact absurd h125 (by decide) | exact absurd rfl h125 | exact ihi hlti _ ⟨rfl, rfl, rfl, rfl, rfl, rfl, z_lgI rfl (by simp [F_left1, k_near, m_cnt, m_sum, m_c, *]), z_lgI rfl (z_inc i), trivial⟩
          · refine z_aload_n C dX6_canAdd_128 rfl ?_
            refine z_iload_n C dX6_canAdd_129 rfl ?_
            refine z_iload C dX6_canAdd_130 rfl ?_
            refine z_callVR (As := [.int _, .int _]) C (c_X6_holds _ _ ad M _ _ hini) kc_X6_holds wb_813 ⟨by decide, by decide⟩ hM.1 rfl (hM) ⟨Nat.zero_le _, Nat.zero_le _⟩ (Nat.le_of_ble_eq_true rfl) dX6_canAdd_132 ?_
            refine z_ifb_eq C 142 dX6_canAdd_135 (by decide) (fun h135 => ?_) (fun h135 => ?_)
            · refine z_iconst (v := 0) C dX6_canAdd_142 (by decide) ?_
              refine z_iadd C dX6_canAdd_143 ?_
              refine z_istore C dX6_canAdd_144 (by decide) ?_
              refine z_iinc C dX6_canAdd_146 rfl rfl (by decide) ?_
              refine z_goto C 59 dX6_canAdd_149 (by decide) ?_
              first | exact absurd h125 (by decide) | exact absurd rfl h125 | exact ihi hlti _ ⟨rfl, rfl, rfl, rfl, rfl, rfl, z_lgI rfl (by simp [F_left1, k_near, m_cnt, m_sum, m_c, *]), z_lgI rfl (z_inc i), trivial⟩
            · refine z_iconst (v := 1) C dX6_canAdd_138 (by decide) ?_
              refine z_goto C 143 dX6_canAdd_139 (by decide) ?_
              refine z_iadd C dX6_canAdd_143 ?_
              refine z_istore C dX6_canAdd_144 (by decide) ?_
              refine z_iinc C dX6_canAdd_146 rfl rfl (by decide) ?_
              refine z_goto C 59 dX6_canAdd_149 (by decide) ?_
              first | exact absurd h125 (by decide) | exact absurd rfl h125 | exact ihi hlti _ ⟨rfl, rfl, rfl, rfl, rfl, rfl, z_lgI rfl (by simp [F_left1, k_near, m_cnt, m_sum, m_c, *]), z_lgI rfl (z_inc i), trivial⟩
      · refine z_aload_n C dX6_canAdd_78 rfl ?_
        refine z_get C (by first | exact hM.1 | exact hM.2.1 _ rfl | exact hM.2.2.1 _ rfl) z_cls7 hu_X6 25 (by decide) wb_660 rfl rfl dX6_canAdd_79 ?_
        refine z_iload_n C dX6_canAdd_82 rfl ?_
        refine z_iald C (by first | exact hM.1 | exact hM.2.1 _ rfl | exact hM.2.2.1 _ rfl) (by first | assumption | exact h23 _ (by assumption)) (by first | exact hcli | exact hck | exact hcd | rfl) dX6_canAdd_83 ?_
        refine z_aload_n C dX6_canAdd_84 rfl ?_
        refine z_get C (by first | exact hM.1 | exact hM.2.1 _ rfl | exact hM.2.2.1 _ rfl) z_cls7 hu_X6 12 (by decide) wb_647 rfl rfl dX6_canAdd_85 ?_
        refine z_iload C dX6_canAdd_88 rfl ?_
        refine z_iald C (by first | exact hM.1 | exact hM.2.1 _ rfl | exact hM.2.2.1 _ rfl) (by first | assumption | exact h23 _ (by assumption)) (by first | exact hcli | exact hck | exact hcd | rfl) dX6_canAdd_90 ?_
        refine z_callSR (As := [.int _, .int _]) C (c_X6_has _ _ _ _) kc_X6_has wb_861 ⟨by decide, by decide⟩ (trivial) ⟨Nat.zero_le _, Nat.zero_le _⟩ (Nat.le_of_ble_eq_true rfl) dX6_canAdd_91 ?_
        refine z_ifb_eq C 101 dX6_canAdd_94 (by decide) (fun h94 => ?_) (fun h94 => ?_)
        · refine z_iconst (v := 0) C dX6_canAdd_101 (by decide) ?_
          refine z_istore C dX6_canAdd_102 (by decide) ?_
          refine z_iload C dX6_canAdd_104 rfl ?_
          refine z_aload_n C dX6_canAdd_106 rfl ?_
          refine z_get C (by first | exact hM.1 | exact hM.2.1 _ rfl | exact hM.2.2.1 _ rfl) z_cls7 hu_X6 10 (by decide) wb_645 rfl rfl dX6_canAdd_107 ?_
          refine z_iload C dX6_canAdd_110 rfl ?_
          refine z_iald C (by first | exact hM.1 | exact hM.2.1 _ rfl | exact hM.2.2.1 _ rfl) (by first | assumption | exact h23 _ (by assumption)) (by first | exact hcli | exact hck | exact hcd | rfl) dX6_canAdd_112 ?_
          refine z_aload_n C dX6_canAdd_113 rfl ?_
          refine z_get C (by first | exact hM.1 | exact hM.2.1 _ rfl | exact hM.2.2.1 _ rfl) z_cls7 hu_X6 6 (by decide) wb_641 rfl rfl dX6_canAdd_114 ?_
          refine z_iload C dX6_canAdd_117 rfl ?_
          refine z_iald C (by first | exact hM.1 | exact hM.2.1 _ rfl | exact hM.2.2.1 _ rfl) (by first | assumption | exact h23 _ (by assumption)) (by first | exact hcli | exact hck | exact hcd | rfl) dX6_canAdd_119 ?_
          refine z_icmp_ne C 142 dX6_canAdd_120 (by decide) (fun h120 => ?_) (fun h120 => ?_)
          · refine z_iconst (v := 0) C dX6_canAdd_142 (by decide) ?_
            refine z_iadd C dX6_canAdd_143 ?_
            refine z_istore C dX6_canAdd_144 (by decide) ?_
            refine z_iinc C dX6_canAdd_146 rfl rfl (by decide) ?_
            refine z_goto C 59 dX6_canAdd_149 (by decide) ?_
            first | exact absurd h125 (by decide) | exact absurd rfl h125 | exact ihi hlti _ ⟨rfl, rfl, rfl, rfl, rfl, rfl, z_lgI rfl (by simp [F_left1, k_near, m_cnt, m_sum, m_c, *]), z_lgI rfl (z_inc i), trivial⟩
          · refine z_iload C dX6_canAdd_123 rfl ?_
            refine z_if_ne C 138 dX6_canAdd_125 (by decide) (fun h125 => ?_) (fun h125 => ?_)
            · refine z_iconst (v := 1) C dX6_canAdd_138 (by decide) ?_
              refine z_goto C 143 dX6_canAdd_139 (by decide) ?_
              refine z_iadd C dX6_canAdd_143 ?_
              refine z_istore C dX6_canAdd_144 (by decide) ?_
              refine z_iinc C dX6_canAdd_146 rfl rfl (by decide) ?_
              refine z_goto C 59 dX6_canAdd_149 (by decide) ?_
              first | exact absurd h125 (by decide) | exact absurd rfl h125 | exact ihi hlti _ ⟨rfl, rfl, rfl, rfl, rfl, rfl, z_lgI rfl (by simp [F_left1, k_near, m_cnt, m_sum, m_c, *]), z_lgI rfl (z_inc i), trivial⟩
            · refine z_aload_n C dX6_canAdd_128 rfl ?_
              refine z_iload_n C dX6_canAdd_129 rfl ?_
              refine z_iload C dX6_canAdd_130 rfl ?_
              refine z_callVR (As := [.int _, .int _]) C (c_X6_holds _ _ ad M _ _ hini) kc_X6_holds wb_813 ⟨by decide, by decide⟩ hM.1 rfl (hM) ⟨Nat.zero_le _, Nat.zero_le _⟩ (Nat.le_of_ble_eq_true rfl) dX6_canAdd_132 ?_
              refine z_ifb_eq C 142 dX6_canAdd_135 (by decide) (fun h135 => ?_) (fun h135 => ?_)
              · refine z_iconst (v := 0) C dX6_canAdd_142 (by decide) ?_
                refine z_iadd C dX6_canAdd_143 ?_
                refine z_istore C dX6_canAdd_144 (by decide) ?_
                refine z_iinc C dX6_canAdd_146 rfl rfl (by decide) ?_
                refine z_goto C 59 dX6_canAdd_149 (by decide) ?_
                first | exact absurd h125 (by decide) | exact absurd rfl h125 | exact ihi hlti _ ⟨rfl, rfl, rfl, rfl, rfl, rfl, z_lgI rfl (by simp [F_left1, k_near, m_cnt, m_sum, m_c, *]), z_lgI rfl (z_inc i), trivial⟩
              · refine z_iconst (v := 1) C dX6_canAdd_138 (by decide) ?_
                refine z_goto C 143 dX6_canAdd_139 (by decide) ?_
                refine z_iadd C dX6_canAdd_143 ?_
                refine z_istore C dX6_canAdd_144 (by decide) ?_
                refine z_iinc C dX6_canAdd_146 rfl rfl (by decide) ?_
                refine z_goto C 59 dX6_canAdd_149 (by decide) ?_
                first | exact absurd h125 (by decide) | exact absurd rfl h125 | exact ihi hlti _ ⟨rfl, rfl, rfl, rfl, rfl, rfl, z_lgI rfl (by simp [F_left1, k_near, m_cnt, m_sum, m_c, *]), z_lgI rfl (z_inc i), trivial⟩
        · refine z_iconst (v := 1) C dX6_canAdd_97 (by decide) ?_
          refine z_goto C 102 dX6_canAdd_98 (by decide) ?_
          refine z_istore C dX6_canAdd_102 (by decide) ?_
          refine z_iload C dX6_canAdd_104 rfl ?_
          refine z_aload_n C dX6_canAdd_106 rfl ?_
          refine z_get C (by first | exact hM.1 | exact hM.2.1 _ rfl | exact hM.2.2.1 _ rfl) z_cls7 hu_X6 10 (by decide) wb_645 rfl rfl dX6_canAdd_107 ?_
          refine z_iload C dX6_canAdd_110 rfl ?_
          refine z_iald C (by first | exact hM.1 | exact hM.2.1 _ rfl | exact hM.2.2.1 _ rfl) (by first | assumption | exact h23 _ (by assumption)) (by first | exact hcli | exact hck | exact hcd | rfl) dX6_canAdd_112 ?_
          refine z_aload_n C dX6_canAdd_113 rfl ?_
          refine z_get C (by first | exact hM.1 | exact hM.2.1 _ rfl | exact hM.2.2.1 _ rfl) z_cls7 hu_X6 6 (by decide) wb_641 rfl rfl dX6_canAdd_114 ?_
          refine z_iload C dX6_canAdd_117 rfl ?_
          refine z_iald C (by first | exact hM.1 | exact hM.2.1 _ rfl | exact hM.2.2.1 _ rfl) (by first | assumption | exact h23 _ (by assumption)) (by first | exact hcli | exact hck | exact hcd | rfl) dX6_canAdd_119 ?_
          refine z_icmp_ne C 142 dX6_canAdd_120 (by decide) (fun h120 => ?_) (fun h120 => ?_)
          · refine z_iconst (v := 0) C dX6_canAdd_142 (by decide) ?_
            refine z_iadd C dX6_canAdd_143 ?_
            refine z_istore C dX6_canAdd_144 (by decide) ?_
            refine z_iinc C dX6_canAdd_146 rfl rfl (by decide) ?_
            refine z_goto C 59 dX6_canAdd_149 (by decide) ?_
            first | exact absurd h125 (by decide) | exact absurd rfl h125 | exact ihi hlti _ ⟨rfl, rfl, rfl, rfl, rfl, rfl, z_lgI rfl (by simp [F_left1, k_near, m_cnt, m_sum, m_c, *]), z_lgI rfl (z_inc i), trivial⟩
          · refine z_iload C dX6_canAdd_123 rfl ?_
            refine z_if_ne C 138 dX6_canAdd_125 (by decide) (fun h125 => ?_) (fun h125 => ?_)
            · refine z_iconst (v := 1) C dX6_canAdd_138 (by decide) ?_
              refine z_goto C 143 dX6_canAdd_139 (by decide) ?_
              refine z_iadd C dX6_canAdd_143 ?_
              refine z_istore C dX6_canAdd_144 (by decide) ?_
              refine z_iinc C dX6_canAdd_146 rfl rfl (by decide) ?_
              refine z_goto C 59 dX6_canAdd_149 (by decide) ?_
              first | exact absurd h125 (by decide) | exact absurd rfl h125 | exact ihi hlti _ ⟨rfl, rfl, rfl, rfl, rfl, rfl, z_lgI rfl (by simp [F_left1, k_near, m_cnt, m_sum, m_c, *]), z_lgI rfl (z_inc i), trivial⟩
            · refine z_aload_n C dX6_canAdd_128 rfl ?_
              refine z_iload_n C dX6_canAdd_129 rfl ?_
              refine z_iload C dX6_canAdd_130 rfl ?_
              refine z_callVR (As := [.int _, .int _]) C (c_X6_holds _ _ ad M _ _ hini) kc_X6_holds wb_813 ⟨by decide, by decide⟩ hM.1 rfl (hM) ⟨Nat.zero_le _, Nat.zero_le _⟩ (Nat.le_of_ble_eq_true rfl) dX6_canAdd_132 ?_
              refine z_ifb_eq C 142 dX6_canAdd_135 (by decide) (fun h135 => ?_) (fun h135 => ?_)
              · refine z_iconst (v := 0) C dX6_canAdd_142 (by decide) ?_
                refine z_iadd C dX6_canAdd_143 ?_
                refine z_istore C dX6_canAdd_144 (by decide) ?_
                refine z_iinc C dX6_canAdd_146 rfl rfl (by decide) ?_
                refine z_goto C 59 dX6_canAdd_149 (by decide) ?_
                first | exact absurd h125 (by decide) | exact absurd rfl h125 | exact ihi hlti _ ⟨rfl, rfl, rfl, rfl, rfl, rfl, z_lgI rfl (by simp [F_left1, k_near, m_cnt, m_sum, m_c, *]), z_lgI rfl (z_inc i), trivial⟩
              · refine z_iconst (v := 1) C dX6_canAdd_138 (by decide) ?_
                refine z_goto C 143 dX6_canAdd_139 (by decide) ?_
                refine z_iadd C dX6_canAdd_143 ?_
                refine z_istore C dX6_canAdd_144 (by decide) ?_
                refine z_iinc C dX6_canAdd_146 rfl rfl (by decide) ?_
                refine z_goto C 59 dX6_canAdd_149 (by decide) ?_
                first | exact absurd h125 (by decide) | exact absurd rfl h125 | exact ihi hlti _ ⟨rfl, rfl, rfl, rfl, rfl, rfl, z_lgI rfl (by simp [F_left1, k_near, m_cnt, m_sum, m_c, *]), z_lgI rfl (z_inc i), trivial⟩
  · refine z_aload_n C dX6_canAdd_27 rfl ?_
    refine z_get C (by first | exact hM.1 | exact hM.2.1 _ rfl | exact hM.2.2.1 _ rfl) z_cls7 hu_X6 25 (by decide) wb_660 rfl rfl dX6_canAdd_28 ?_
    refine z_iload_n C dX6_canAdd_31 rfl ?_
    refine z_iald C (by first | exact hM.1 | exact hM.2.1 _ rfl | exact hM.2.2.1 _ rfl) (by first | assumption | exact h23 _ (by assumption)) (by first | exact hcli | exact hck | exact hcd | rfl) dX6_canAdd_32 ?_
    refine z_aload_n C dX6_canAdd_33 rfl ?_
    refine z_get C (by first | exact hM.1 | exact hM.2.1 _ rfl | exact hM.2.2.1 _ rfl) z_cls7 hu_X6 4 (by decide) wb_639 rfl rfl dX6_canAdd_34 ?_
    refine z_iload C dX6_canAdd_37 rfl ?_
    refine z_iald C (by first | exact hM.1 | exact hM.2.1 _ rfl | exact hM.2.2.1 _ rfl) (by first | assumption | exact h23 _ (by assumption)) (by first | exact hcli | exact hck | exact hcd | rfl) dX6_canAdd_39 ?_
    refine z_callSR (As := [.int _, .int _]) C (c_X6_has _ _ _ _) kc_X6_has wb_861 ⟨by decide, by decide⟩ (trivial) ⟨Nat.zero_le _, Nat.zero_le _⟩ (Nat.le_of_ble_eq_true rfl) dX6_canAdd_40 ?_
    refine z_ifb_eq C 50 dX6_canAdd_43 (by decide) (fun h43 => ?_) (fun h43 => ?_)
    · refine z_iconst (v := 0) C dX6_canAdd_50 (by decide) ?_
      refine z_istore C dX6_canAdd_51 (by decide) ?_
      refine z_iconst (v := 0) C dX6_canAdd_53 (by decide) ?_
      refine z_istore C dX6_canAdd_54 (by decide) ?_
      refine z_iconst (v := 0) C dX6_canAdd_56 (by decide) ?_
      refine z_istore C dX6_canAdd_57 (by decide) ?_
      refine z_loopN (fun i => [(0, .ref (ad 0)), (1, .int g), (2, .int z), (3, .int (nI k)), (4, .int (nI d)), (5, .int (z_b (m_has (M.2 25 z.toNatClampNeg) (M.2 3 d) || m_has (M.2 25 z.toNatClampNeg) (M.2 4 d)))), (6, .int (F_left1 M g (M.2 25 z.toNatClampNeg) (M.2 6 d) i)), (7, .int (nI i))]) nK ⟨rfl, rfl, rfl, rfl, rfl, z_lgI rfl (by simp [z_b, *]), rfl, rfl, trivial⟩ (fun i hi ihi => ?_)
      refine z_iload C dX6_canAdd_59 rfl ?_
      refine z_aload_n C dX6_canAdd_61 rfl ?_
      refine z_get C (by first | exact hM.1 | exact hM.2.1 _ rfl | exact hM.2.2.1 _ rfl) z_cls7 hu_X6 9 (by decide) wb_644 rfl rfl dX6_canAdd_62 ?_
      refine z_icmp_ge C 152 dX6_canAdd_65 (by decide) (fun h65 => ?_) (fun h65 => ?_)
      · obtain rfl := Eq.symm <| z_ge hKn (by omega) hi h65
        refine z_iconst (v := 0) C dX6_canAdd_152 (by decide) ?_
        refine z_istore C dX6_canAdd_153 (by decide) ?_
        refine z_loopN (fun i => [(0, .ref (ad 0)), (1, .int g), (2, .int z), (3, .int (nI k)), (4, .int (nI d)), (5, .int (z_b (m_has (M.2 25 z.toNatClampNeg) (M.2 3 d) || m_has (M.2 25 z.toNatClampNeg) (M.2 4 d)))), (6, .int (F_left1 M g (M.2 25 z.toNatClampNeg) (M.2 6 d) nK - F_left2 M z (M.2 6 d) i)), (7, .int (nI i))]) nL ⟨rfl, rfl, rfl, rfl, rfl, rfl, z_lgI rfl (Int32.sub_zero _).symm, rfl, trivial⟩ (fun i hi ihi => ?_)
        refine z_iload C dX6_canAdd_155 rfl ?_
        refine z_aload_n C dX6_canAdd_157 rfl ?_
        refine z_get C (by first | exact hM.1 | exact hM.2.1 _ rfl | exact hM.2.2.1 _ rfl) z_cls7 hu_X6 22 (by decide) wb_657 rfl rfl dX6_canAdd_158 ?_
        refine z_icmp_ge C 211 dX6_canAdd_161 (by decide) (fun h161 => ?_) (fun h161 => ?_)
        · obtain rfl := Eq.symm <| z_ge hL (by omega) hi h161
          refine z_iload_n C dX6_canAdd_211 rfl ?_
          refine z_iload_n C dX6_canAdd_212 rfl ?_
          refine z_callSR (As := [.int _, .int _]) C (c_X6_has _ _ _ _) kc_X6_has wb_861 ⟨by decide, by decide⟩ (trivial) ⟨Nat.zero_le _, Nat.zero_le _⟩ (Nat.le_of_ble_eq_true rfl) dX6_canAdd_213 ?_
          refine z_ifb_ne C 233 dX6_canAdd_216 (by decide) (fun h216 => ?_) (fun h216 => ?_)
          · refine z_iconst (v := 0) C dX6_canAdd_233 (by decide) ?_
            exact z_bret C (by omega) (by omega) dX6_canAdd_234 (by rfl) (by first | (exfalso; revert h221; simp [z_b, *]; done) | exact ⟨congrArg (fun z => some (Value.int z)) (by simp [z_b, F_canAdd, *]), rfl⟩)
          · refine z_iload C dX6_canAdd_219 rfl ?_
            refine z_if_eq C 233 dX6_canAdd_221 (by decide) (fun h221 => ?_) (fun h221 => ?_)
            · refine z_iconst (v := 0) C dX6_canAdd_233 (by decide) ?_
              exact z_bret C (by omega) (by omega) dX6_canAdd_234 (by rfl) (by first | (exfalso; revert h221; simp [z_b, *]; done) | exact ⟨congrArg (fun z => some (Value.int z)) (by simp [z_b, F_canAdd, *]), rfl⟩)
            · refine z_iload C dX6_canAdd_224 rfl ?_
              refine z_if_le C 233 dX6_canAdd_226 (by decide) (fun h226 => ?_) (fun h226 => ?_)
              · refine z_iconst (v := 0) C dX6_canAdd_233 (by decide) ?_
                exact z_bret C (by omega) (by omega) dX6_canAdd_234 (by rfl) (by first | (exfalso; revert h221; simp [z_b, *]; done) | exact ⟨congrArg (fun z => some (Value.int z)) (by simp [z_b, F_canAdd, *]), rfl⟩)
              · refine z_iconst (v := 1) C dX6_canAdd_229 (by decide) ?_
                refine z_goto C 234 dX6_canAdd_230 (by decide) ?_
                exact z_bret C (by omega) (by omega) dX6_canAdd_234 (by rfl) (by first | (exfalso; revert h221; simp [z_b, *]; done) | exact ⟨congrArg (fun z => some (Value.int z)) (by simp [z_b, F_canAdd, *]), rfl⟩)
        · have hlti := z_lt hL (by omega) hi h161
          have hini : vp_in (nI i) 10 := vp_in_nI (by omega) (by omega)
          have hcli : (nI i).toNatClampNeg = i := nI_clamp (by omega)
          refine z_iload C dX6_canAdd_164 rfl ?_
          refine z_iload_n C dX6_canAdd_166 rfl ?_
          refine z_iload C dX6_canAdd_167 rfl ?_
          refine z_callSR (As := [.int _, .int _]) C (c_X6_has _ _ _ _) kc_X6_has wb_861 ⟨by decide, by decide⟩ (trivial) ⟨Nat.zero_le _, Nat.zero_le _⟩ (Nat.le_of_ble_eq_true rfl) dX6_canAdd_169 ?_
          refine z_ifb_eq C 201 dX6_canAdd_172 (by decide) (fun h172 => ?_) (fun h172 => ?_)
          · refine z_iconst (v := 0) C dX6_canAdd_201 (by decide) ?_
            refine z_isub C dX6_canAdd_202 ?_
            refine z_istore C dX6_canAdd_203 (by decide) ?_
            refine z_iinc C dX6_canAdd_205 rfl rfl (by decide) ?_
            refine z_goto C 155 dX6_canAdd_208 (by decide) ?_
            first | exact absurd h125 (by decide) | exact absurd rfl h125 | exact ihi hlti _ ⟨rfl, rfl, rfl, rfl, rfl, rfl, z_lgI rfl (by simp [F_left2, m_cnt, m_sum, m_c, Int32.sub_sub, *]), z_lgI rfl (z_inc i), trivial⟩
          · refine z_aload_n C dX6_canAdd_175 rfl ?_
            refine z_get C (by first | exact hM.1 | exact hM.2.1 _ rfl | exact hM.2.2.1 _ rfl) z_cls7 hu_X6 6 (by decide) wb_641 rfl rfl dX6_canAdd_176 ?_
            refine z_aload_n C dX6_canAdd_179 rfl ?_
            refine z_get C (by first | exact hM.1 | exact hM.2.1 _ rfl | exact hM.2.2.1 _ rfl) z_cls7 hu_X6 23 (by decide) wb_658 rfl rfl dX6_canAdd_180 ?_
            refine z_iload C dX6_canAdd_183 rfl ?_
            refine z_iald C (by first | exact hM.1 | exact hM.2.1 _ rfl | exact hM.2.2.1 _ rfl) (by first | assumption | exact h23 _ (by assumption)) (by first | exact hcli | exact hck | exact hcd | rfl) dX6_canAdd_185 ?_
            refine z_iald C (by first | exact hM.1 | exact hM.2.1 _ rfl | exact hM.2.2.1 _ rfl) (by first | assumption | exact h23 _ (by assumption)) (by first | exact hcli | exact hck | exact hcd | rfl) dX6_canAdd_186 ?_
            refine z_aload_n C dX6_canAdd_187 rfl ?_
            refine z_get C (by first | exact hM.1 | exact hM.2.1 _ rfl | exact hM.2.2.1 _ rfl) z_cls7 hu_X6 6 (by decide) wb_641 rfl rfl dX6_canAdd_188 ?_
            refine z_iload C dX6_canAdd_191 rfl ?_
            refine z_iald C (by first | exact hM.1 | exact hM.2.1 _ rfl | exact hM.2.2.1 _ rfl) (by first | assumption | exact h23 _ (by assumption)) (by first | exact hcli | exact hck | exact hcd | rfl) dX6_canAdd_193 ?_
            refine z_icmp_ne C 201 dX6_canAdd_194 (by decide) (fun h194 => ?_) (fun h194 => ?_)
            · refine z_iconst (v := 0) C dX6_canAdd_201 (by decide) ?_
              refine z_isub C dX6_canAdd_202 ?_
              refine z_istore C dX6_canAdd_203 (by decide) ?_
              refine z_iinc C dX6_canAdd_205 rfl rfl (by decide) ?_
              refine z_goto C 155 dX6_canAdd_208 (by decide) ?_
              first | exact absurd h125 (by decide) | exact absurd rfl h125 | exact ihi hlti _ ⟨rfl, rfl, rfl, rfl, rfl, rfl, z_lgI rfl (by simp [F_left2, m_cnt, m_sum, m_c, Int32.sub_sub, *]), z_lgI rfl (z_inc i), trivial⟩
            · refine z_iconst (v := 1) C dX6_canAdd_197 (by decide) ?_
              refine z_goto C 202 dX6_canAdd_198 (by decide) ?_
              refine z_isub C dX6_canAdd_202 ?_
              refine z_istore C dX6_canAdd_203 (by decide) ?_
              refine z_iinc C dX6_canAdd_205 rfl rfl (by decide) ?_
              refine z_goto C 155 dX6_canAdd_208 (by decide) ?_
              first | exact absurd h125 (by decide) | exact absurd rfl h125 | exact ihi hlti _ ⟨rfl, rfl, rfl, rfl, rfl, rfl, z_lgI rfl (by simp [F_left2, m_cnt, m_sum, m_c, Int32.sub_sub, *]), z_lgI rfl (z_inc i), trivial⟩
      · have hlti := z_lt hKn (by omega) hi h65
        have hini : vp_in (nI i) 16 := vp_in_nI (by omega) (by omega)
        have hcli : (nI i).toNatClampNeg = i := nI_clamp (by omega)
        refine z_aload_n C dX6_canAdd_68 rfl ?_
        refine z_get C (by first | exact hM.1 | exact hM.2.1 _ rfl | exact hM.2.2.1 _ rfl) z_cls7 hu_X6 11 (by decide) wb_646 rfl rfl dX6_canAdd_69 ?_
        refine z_iload C dX6_canAdd_72 rfl ?_
        refine z_iald C (by first | exact hM.1 | exact hM.2.1 _ rfl | exact hM.2.2.1 _ rfl) (by first | assumption | exact h23 _ (by assumption)) (by first | exact hcli | exact hck | exact hcd | rfl) dX6_canAdd_74 ?_
        refine z_if_ne C 101 dX6_canAdd_75 (by decide) (fun h75 => ?_) (fun h75 => ?_)
        · refine z_iconst (v := 0) C dX6_canAdd_101 (by decide) ?_
          refine z_istore C dX6_canAdd_102 (by decide) ?_
          refine z_iload C dX6_canAdd_104 rfl ?_
          refine z_aload_n C dX6_canAdd_106 rfl ?_
          refine z_get C (by first | exact hM.1 | exact hM.2.1 _ rfl | exact hM.2.2.1 _ rfl) z_cls7 hu_X6 10 (by decide) wb_645 rfl rfl dX6_canAdd_107 ?_
          refine z_iload C dX6_canAdd_110 rfl ?_
          refine z_iald C (by first | exact hM.1 | exact hM.2.1 _ rfl | exact hM.2.2.1 _ rfl) (by first | assumption | exact h23 _ (by assumption)) (by first | exact hcli | exact hck | exact hcd | rfl) dX6_canAdd_112 ?_
          refine z_aload_n C dX6_canAdd_113 rfl ?_
          refine z_get C (by first | exact hM.1 | exact hM.2.1 _ rfl | exact hM.2.2.1 _ rfl) z_cls7 hu_X6 6 (by decide) wb_641 rfl rfl dX6_canAdd_114 ?_
          refine z_iload C dX6_canAdd_117 rfl ?_
          refine z_iald C (by first | exact hM.1 | exact hM.2.1 _ rfl | exact hM.2.2.1 _ rfl) (by first | assumption | exact h23 _ (by assumption)) (by first | exact hcli | exact hck | exact hcd | rfl) dX6_canAdd_119 ?_
          refine z_icmp_ne C 142 dX6_canAdd_120 (by decide) (fun h120 => ?_) (fun h120 => ?_)
          · refine z_iconst (v := 0) C dX6_canAdd_142 (by decide) ?_
            refine z_iadd C dX6_canAdd_143 ?_
            refine z_istore C dX6_canAdd_144 (by decide) ?_
            refine z_iinc C dX6_canAdd_146 rfl rfl (by decide) ?_
            refine z_goto C 59 dX6_canAdd_149 (by decide) ?_
            first | exact absurd h125 (by decide) | exact absurd rfl h125 | exact ihi hlti _ ⟨rfl, rfl, rfl, rfl, rfl, rfl, z_lgI rfl (by simp [F_left1, k_near, m_cnt, m_sum, m_c, *]), z_lgI rfl (z_inc i), trivial⟩
          · refine z_iload C dX6_canAdd_123 rfl ?_
            refine z_if_ne C 138 dX6_canAdd_125 (by decide) (fun h125 => ?_) (fun h125 => ?_)
            · refine z_iconst (v := 1) C dX6_canAdd_138 (by decide) ?_
              refine z_goto C 143 dX6_canAdd_139 (by decide) ?_
              refine z_iadd C dX6_canAdd_143 ?_
              refine z_istore C dX6_canAdd_144 (by decide) ?_
              refine z_iinc C dX6_canAdd_146 rfl rfl (by decide) ?_
              refine z_goto C 59 dX6_canAdd_149 (by decide) ?_
              first | exact absurd h125 (by decide) | exact absurd rfl h125 | exact ihi hlti _ ⟨rfl, rfl, rfl, rfl, rfl, rfl, z_lgI rfl (by simp [F_left1, k_near, m_cnt, m_sum, m_c, *]), z_lgI rfl (z_inc i), trivial⟩
            · refine z_aload_n C dX6_canAdd_128 rfl ?_
              refine z_iload_n C dX6_canAdd_129 rfl ?_
              refine z_iload C dX6_canAdd_130 rfl ?_
              refine z_callVR (As := [.int _, .int _]) C (c_X6_holds _ _ ad M _ _ hini) kc_X6_holds wb_813 ⟨by decide, by decide⟩ hM.1 rfl (hM) ⟨Nat.zero_le _, Nat.zero_le _⟩ (Nat.le_of_ble_eq_true rfl) dX6_canAdd_132 ?_
              refine z_ifb_eq C 142 dX6_canAdd_135 (by decide) (fun h135 => ?_) (fun h135 => ?_)
              · refine z_iconst (v := 0) C dX6_canAdd_142 (by decide) ?_
                refine z_iadd C dX6_canAdd_143 ?_
                refine z_istore C dX6_canAdd_144 (by decide) ?_
                refine z_iinc C dX6_canAdd_146 rfl rfl (by decide) ?_
                refine z_goto C 59 dX6_canAdd_149 (by decide) ?_
                first | exact absurd h125 (by decide) | exact absurd rfl h125 | exact ihi hlti _ ⟨rfl, rfl, rfl, rfl, rfl, rfl, z_lgI rfl (by simp [F_left1, k_near, m_cnt, m_sum, m_c, *]), z_lgI rfl (z_inc i), trivial⟩
              · refine z_iconst (v := 1) C dX6_canAdd_138 (by decide) ?_
                refine z_goto C 143 dX6_canAdd_139 (by decide) ?_
                refine z_iadd C dX6_canAdd_143 ?_
                refine z_istore C dX6_canAdd_144 (by decide) ?_
                refine z_iinc C dX6_canAdd_146 rfl rfl (by decide) ?_
                refine z_goto C 59 dX6_canAdd_149 (by decide) ?_
                first | exact absurd h125 (by decide) | exact absurd rfl h125 | exact ihi hlti _ ⟨rfl, rfl, rfl, rfl, rfl, rfl, z_lgI rfl (by simp [F_left1, k_near, m_cnt, m_sum, m_c, *]), z_lgI rfl (z_inc i), trivial⟩
        · refine z_aload_n C dX6_canAdd_78 rfl ?_
          refine z_get C (by first | exact hM.1 | exact hM.2.1 _ rfl | exact hM.2.2.1 _ rfl) z_cls7 hu_X6 25 (by decide) wb_660 rfl rfl dX6_canAdd_79 ?_
          refine z_iload_n C dX6_canAdd_82 rfl ?_
          refine z_iald C (by first | exact hM.1 | exact hM.2.1 _ rfl | exact hM.2.2.1 _ rfl) (by first | assumption | exact h23 _ (by assumption)) (by first | exact hcli | exact hck | exact hcd | rfl) dX6_canAdd_83 ?_
          refine z_aload_n C dX6_canAdd_84 rfl ?_
          refine z_get C (by first | exact hM.1 | exact hM.2.1 _ rfl | exact hM.2.2.1 _ rfl) z_cls7 hu_X6 12 (by decide) wb_647 rfl rfl dX6_canAdd_85 ?_
          refine z_iload C dX6_canAdd_88 rfl ?_
          refine z_iald C (by first | exact hM.1 | exact hM.2.1 _ rfl | exact hM.2.2.1 _ rfl) (by first | assumption | exact h23 _ (by assumption)) (by first | exact hcli | exact hck | exact hcd | rfl) dX6_canAdd_90 ?_
          refine z_callSR (As := [.int _, .int _]) C (c_X6_has _ _ _ _) kc_X6_has wb_861 ⟨by decide, by decide⟩ (trivial) ⟨Nat.zero_le _, Nat.zero_le _⟩ (Nat.le_of_ble_eq_true rfl) dX6_canAdd_91 ?_
          refine z_ifb_eq C 101 dX6_canAdd_94 (by decide) (fun h94 => ?_) (fun h94 => ?_)
          · refine z_iconst (v := 0) C dX6_canAdd_101 (by decide) ?_
            refine z_istore C dX6_canAdd_102 (by decide) ?_
            refine z_iload C dX6_canAdd_104 rfl ?_
            refine z_aload_n C dX6_canAdd_106 rfl ?_
            refine z_get C (by first | exact hM.1 | exact hM.2.1 _ rfl | exact hM.2.2.1 _ rfl) z_cls7 hu_X6 10 (by decide) wb_645 rfl rfl dX6_canAdd_107 ?_
            refine z_iload C dX6_canAdd_110 rfl ?_
            refine z_iald C (by first | exact hM.1 | exact hM.2.1 _ rfl | exact hM.2.2.1 _ rfl) (by first | assumption | exact h23 _ (by assumption)) (by first | exact hcli | exact hck | exact hcd | rfl) dX6_canAdd_112 ?_
            refine z_aload_n C dX6_canAdd_113 rfl ?_
            refine z_get C (by first | exact hM.1 | exact hM.2.1 _ rfl | exact hM.2.2.1 _ rfl) z_cls7 hu_X6 6 (by decide) wb_641 rfl rfl dX6_canAdd_114 ?_
            refine z_iload C dX6_canAdd_117 rfl ?_
            refine z_iald C (by first | exact hM.1 | exact hM.2.1 _ rfl | exact hM.2.2.1 _ rfl) (by first | assumption | exact h23 _ (by assumption)) (by first | exact hcli | exact hck | exact hcd | rfl) dX6_canAdd_119 ?_
            refine z_icmp_ne C 142 dX6_canAdd_120 (by decide) (fun h120 => ?_) (fun h120 => ?_)
            · refine z_iconst (v := 0) C dX6_canAdd_142 (by decide) ?_
              refine z_iadd C dX6_canAdd_143 ?_
              refine z_istore C dX6_canAdd_144 (by decide) ?_
              refine z_iinc C dX6_canAdd_146 rfl rfl (by decide) ?_
              refine z_goto C 59 dX6_canAdd_149 (by decide) ?_
              first | exact absurd h125 (by decide) | exact absurd rfl h125 | exact ihi hlti _ ⟨rfl, rfl, rfl, rfl, rfl, rfl, z_lgI rfl (by simp [F_left1, k_near, m_cnt, m_sum, m_c, *]), z_lgI rfl (z_inc i), trivial⟩
            · refine z_iload C dX6_canAdd_123 rfl ?_
              refine z_if_ne C 138 dX6_canAdd_125 (by decide) (fun h125 => ?_) (fun h125 => ?_)
              · refine z_iconst (v := 1) C dX6_canAdd_138 (by decide) ?_
                refine z_goto C 143 dX6_canAdd_139 (by decide) ?_
                refine z_iadd C dX6_canAdd_143 ?_
                refine z_istore C dX6_canAdd_144 (by decide) ?_
                refine z_iinc C dX6_canAdd_146 rfl rfl (by decide) ?_
                refine z_goto C 59 dX6_canAdd_149 (by decide) ?_
                first | exact absurd h125 (by decide) | exact absurd rfl h125 | exact ihi hlti _ ⟨rfl, rfl, rfl, rfl, rfl, rfl, z_lgI rfl (by simp [F_left1, k_near, m_cnt, m_sum, m_c, *]), z_lgI rfl (z_inc i), trivial⟩
              · refine z_aload_n C dX6_canAdd_128 rfl ?_
                refine z_iload_n C dX6_canAdd_129 rfl ?_
                refine z_iload C dX6_canAdd_130 rfl ?_
                refine z_callVR (As := [.int _, .int _]) C (c_X6_holds _ _ ad M _ _ hini) kc_X6_holds wb_813 ⟨by decide, by decide⟩ hM.1 rfl (hM) ⟨Nat.zero_le _, Nat.zero_le _⟩ (Nat.le_of_ble_eq_true rfl) dX6_canAdd_132 ?_
                refine z_ifb_eq C 142 dX6_canAdd_135 (by decide) (fun h135 => ?_) (fun h135 => ?_)
                · refine z_iconst (v := 0) C dX6_canAdd_142 (by decide) ?_
                  refine z_iadd C dX6_canAdd_143 ?_
                  refine z_istore C dX6_canAdd_144 (by decide) ?_
                  refine z_iinc C dX6_canAdd_146 rfl rfl (by decide) ?_
                  refine z_goto C 59 dX6_canAdd_149 (by decide) ?_
                  first | exact absurd h125 (by decide) | exact absurd rfl h125 | exact ihi hlti _ ⟨rfl, rfl, rfl, rfl, rfl, rfl, z_lgI rfl (by simp [F_left1, k_near, m_cnt, m_sum, m_c, *]), z_lgI rfl (z_inc i), trivial⟩
                · refine z_iconst (v := 1) C dX6_canAdd_138 (by decide) ?_
                  refine z_goto C 143 dX6_canAdd_139 (by decide) ?_
                  refine z_iadd C dX6_canAdd_143 ?_
                  refine z_istore C dX6_canAdd_144 (by decide) ?_
                  refine z_iinc C dX6_canAdd_146 rfl rfl (by decide) ?_
                  refine z_goto C 59 dX6_canAdd_149 (by decide) ?_
                  first | exact absurd h125 (by decide) | exact absurd rfl h125 | exact ihi hlti _ ⟨rfl, rfl, rfl, rfl, rfl, rfl, z_lgI rfl (by simp [F_left1, k_near, m_cnt, m_sum, m_c, *]), z_lgI rfl (z_inc i), trivial⟩
          · refine z_iconst (v := 1) C dX6_canAdd_97 (by decide) ?_
            refine z_goto C 102 dX6_canAdd_98 (by decide) ?_
            refine z_istore C dX6_canAdd_102 (by decide) ?_
            refine z_iload C dX6_canAdd_104 rfl ?_
            refine z_aload_n C dX6_canAdd_106 rfl ?_
            refine z_get C (by first | exact hM.1 | exact hM.2.1 _ rfl | exact hM.2.2.1 _ rfl) z_cls7 hu_X6 10 (by decide) wb_645 rfl rfl dX6_canAdd_107 ?_
            refine z_iload C dX6_canAdd_110 rfl ?_
            refine z_iald C (by first | exact hM.1 | exact hM.2.1 _ rfl | exact hM.2.2.1 _ rfl) (by first | assumption | exact h23 _ (by assumption)) (by first | exact hcli | exact hck | exact hcd | rfl) dX6_canAdd_112 ?_
            refine z_aload_n C dX6_canAdd_113 rfl ?_
            refine z_get C (by first | exact hM.1 | exact hM.2.1 _ rfl | exact hM.2.2.1 _ rfl) z_cls7 hu_X6 6 (by decide) wb_641 rfl rfl dX6_canAdd_114 ?_
            refine z_iload C dX6_canAdd_117 rfl ?_
            refine z_iald C (by first | exact hM.1 | exact hM.2.1 _ rfl | exact hM.2.2.1 _ rfl) (by first | assumption | exact h23 _ (by assumption)) (by first | exact hcli | exact hck | exact hcd | rfl) dX6_canAdd_119 ?_
            refine z_icmp_ne C 142 dX6_canAdd_120 (by decide) (fun h120 => ?_) (fun h120 => ?_)
            · refine z_iconst (v := 0) C dX6_canAdd_142 (by decide) ?_
              refine z_iadd C dX6_canAdd_143 ?_
              refine z_istore C dX6_canAdd_144 (by decide) ?_
              refine z_iinc C dX6_canAdd_146 rfl rfl (by decide) ?_
              refine z_goto C 59 dX6_canAdd_149 (by decide) ?_
              first | exact absurd h125 (by decide) | exact absurd rfl h125 | exact ihi hlti _ ⟨rfl, rfl, rfl, rfl, rfl, rfl, z_lgI rfl (by simp [F_left1, k_near, m_cnt, m_sum, m_c, *]), z_lgI rfl (z_inc i), trivial⟩
            · refine z_iload C dX6_canAdd_123 rfl ?_
              refine z_if_ne C 138 dX6_canAdd_125 (by decide) (fun h125 => ?_) (fun h125 => ?_)
              · refine z_iconst (v := 1) C dX6_canAdd_138 (by decide) ?_
                refine z_goto C 143 dX6_canAdd_139 (by decide) ?_
                refine z_iadd C dX6_canAdd_143 ?_
                refine z_istore C dX6_canAdd_144 (by decide) ?_
                refine z_iinc C dX6_canAdd_146 rfl rfl (by decide) ?_
                refine z_goto C 59 dX6_canAdd_149 (by decide) ?_
                first | exact absurd h125 (by decide) | exact absurd rfl h125 | exact ihi hlti _ ⟨rfl, rfl, rfl, rfl, rfl, rfl, z_lgI rfl (by simp [F_left1, k_near, m_cnt, m_sum, m_c, *]), z_lgI rfl (z_inc i), trivial⟩
              · refine z_aload_n C dX6_canAdd_128 rfl ?_
                refine z_iload_n C dX6_canAdd_129 rfl ?_
                refine z_iload C dX6_canAdd_130 rfl ?_
                refine z_callVR (As := [.int _, .int _]) C (c_X6_holds _ _ ad M _ _ hini) kc_X6_holds wb_813 ⟨by decide, by decide⟩ hM.1 rfl (hM) ⟨Nat.zero_le _, Nat.zero_le _⟩ (Nat.le_of_ble_eq_true rfl) dX6_canAdd_132 ?_
                refine z_ifb_eq C 142 dX6_canAdd_135 (by decide) (fun h135 => ?_) (fun h135 => ?_)
                · refine z_iconst (v := 0) C dX6_canAdd_142 (by decide) ?_
                  refine z_iadd C dX6_canAdd_143 ?_
                  refine z_istore C dX6_canAdd_144 (by decide) ?_
                  refine z_iinc C dX6_canAdd_146 rfl rfl (by decide) ?_
                  refine z_goto C 59 dX6_canAdd_149 (by decide) ?_
                  first | exact absurd h125 (by decide) | exact absurd rfl h125 | exact ihi hlti _ ⟨rfl, rfl, rfl, rfl, rfl, rfl, z_lgI rfl (by simp [F_left1, k_near, m_cnt, m_sum, m_c, *]), z_lgI rfl (z_inc i), trivial⟩
                · refine z_iconst (v := 1) C dX6_canAdd_138 (by decide) ?_
                  refine z_goto C 143 dX6_canAdd_139 (by decide) ?_
                  refine z_iadd C dX6_canAdd_143 ?_
                  refine z_istore C dX6_canAdd_144 (by decide) ?_
                  refine z_iinc C dX6_canAdd_146 rfl rfl (by decide) ?_
                  refine z_goto C 59 dX6_canAdd_149 (by decide) ?_
                  first | exact absurd h125 (by decide) | exact absurd rfl h125 | exact ihi hlti _ ⟨rfl, rfl, rfl, rfl, rfl, rfl, z_lgI rfl (by simp [F_left1, k_near, m_cnt, m_sum, m_c, *]), z_lgI rfl (z_inc i), trivial⟩
    · refine z_iconst (v := 1) C dX6_canAdd_46 (by decide) ?_
      refine z_goto C 51 dX6_canAdd_47 (by decide) ?_
      refine z_istore C dX6_canAdd_51 (by decide) ?_
      refine z_iconst (v := 0) C dX6_canAdd_53 (by decide) ?_
      refine z_istore C dX6_canAdd_54 (by decide) ?_
      refine z_iconst (v := 0) C dX6_canAdd_56 (by decide) ?_
      refine z_istore C dX6_canAdd_57 (by decide) ?_
      refine z_loopN (fun i => [(0, .ref (ad 0)), (1, .int g), (2, .int z), (3, .int (nI k)), (4, .int (nI d)), (5, .int (z_b (m_has (M.2 25 z.toNatClampNeg) (M.2 3 d) || m_has (M.2 25 z.toNatClampNeg) (M.2 4 d)))), (6, .int (F_left1 M g (M.2 25 z.toNatClampNeg) (M.2 6 d) i)), (7, .int (nI i))]) nK ⟨rfl, rfl, rfl, rfl, rfl, z_lgI rfl (by simp [z_b, *]), rfl, rfl, trivial⟩ (fun i hi ihi => ?_)
      refine z_iload C dX6_canAdd_59 rfl ?_
      refine z_aload_n C dX6_canAdd_61 rfl ?_
      refine z_get C (by first | exact hM.1 | exact hM.2.1 _ rfl | exact hM.2.2.1 _ rfl) z_cls7 hu_X6 9 (by decide) wb_644 rfl rfl dX6_canAdd_62 ?_
      refine z_icmp_ge C 152 dX6_canAdd_65 (by decide) (fun h65 => ?_) (fun h65 => ?_)
      · obtain rfl := Eq.symm <| z_ge hKn (by omega) hi h65
        refine z_iconst (v := 0) C dX6_canAdd_152 (by decide) ?_
        refine z_istore C dX6_canAdd_153 (by decide) ?_
        refine z_loopN (fun i => [(0, .ref (ad 0)), (1, .int g), (2, .int z), (3, .int (nI k)), (4, .int (nI d)), (5, .int (z_b (m_has (M.2 25 z.toNatClampNeg) (M.2 3 d) || m_has (M.2 25 z.toNatClampNeg) (M.2 4 d)))), (6, .int (F_left1 M g (M.2 25 z.toNatClampNeg) (M.2 6 d) nK - F_left2 M z (M.2 6 d) i)), (7, .int (nI i))]) nL ⟨rfl, rfl, rfl, rfl, rfl, rfl, z_lgI rfl (Int32.sub_zero _).symm, rfl, trivial⟩ (fun i hi ihi => ?_)
        refine z_iload C dX6_canAdd_155 rfl ?_
        refine z_aload_n C dX6_canAdd_157 rfl ?_
        refine z_get C (by first | exact hM.1 | exact hM.2.1 _ rfl | exact hM.2.2.1 _ rfl) z_cls7 hu_X6 22 (by decide) wb_657 rfl rfl dX6_canAdd_158 ?_
        refine z_icmp_ge C 211 dX6_canAdd_161 (by decide) (fun h161 => ?_) (fun h161 => ?_)
        · obtain rfl := Eq.symm <| z_ge hL (by omega) hi h161
          refine z_iload_n C dX6_canAdd_211 rfl ?_
          refine z_iload_n C dX6_canAdd_212 rfl ?_
          refine z_callSR (As := [.int _, .int _]) C (c_X6_has _ _ _ _) kc_X6_has wb_861 ⟨by decide, by decide⟩ (trivial) ⟨Nat.zero_le _, Nat.zero_le _⟩ (Nat.le_of_ble_eq_true rfl) dX6_canAdd_213 ?_
          refine z_ifb_ne C 233 dX6_canAdd_216 (by decide) (fun h216 => ?_) (fun h216 => ?_)
          · refine z_iconst (v := 0) C dX6_canAdd_233 (by decide) ?_
            exact z_bret C (by omega) (by omega) dX6_canAdd_234 (by rfl) (by first | (exfalso; revert h221; simp [z_b, *]; done) | exact ⟨congrArg (fun z => some (Value.int z)) (by simp [z_b, F_canAdd, *]), rfl⟩)
          · refine z_iload C dX6_canAdd_219 rfl ?_
            refine z_if_eq C 233 dX6_canAdd_221 (by decide) (fun h221 => ?_) (fun h221 => ?_)
            · refine z_iconst (v := 0) C dX6_canAdd_233 (by decide) ?_
              exact z_bret C (by omega) (by omega) dX6_canAdd_234 (by rfl) (by first | (exfalso; revert h221; simp [z_b, *]; done) | exact ⟨congrArg (fun z => some (Value.int z)) (by simp [z_b, F_canAdd, *]), rfl⟩)
            · refine z_iload C dX6_canAdd_224 rfl ?_
              refine z_if_le C 233 dX6_canAdd_226 (by decide) (fun h226 => ?_) (fun h226 => ?_)
              · refine z_iconst (v := 0) C dX6_canAdd_233 (by decide) ?_
                exact z_bret C (by omega) (by omega) dX6_canAdd_234 (by rfl) (by first | (exfalso; revert h221; simp [z_b, *]; done) | exact ⟨congrArg (fun z => some (Value.int z)) (by simp [z_b, F_canAdd, *]), rfl⟩)
              · refine z_iconst (v := 1) C dX6_canAdd_229 (by decide) ?_
                refine z_goto C 234 dX6_canAdd_230 (by decide) ?_
                exact z_bret C (by omega) (by omega) dX6_canAdd_234 (by rfl) (by first | (exfalso; revert h221; simp [z_b, *]; done) | exact ⟨congrArg (fun z => some (Value.int z)) (by simp [z_b, F_canAdd, *]), rfl⟩)
        · have hlti := z_lt hL (by omega) hi h161
          have hini : vp_in (nI i) 10 := vp_in_nI (by omega) (by omega)
          have hcli : (nI i).toNatClampNeg = i := nI_clamp (by omega)
          refine z_iload C dX6_canAdd_164 rfl ?_
          refine z_iload_n C dX6_canAdd_166 rfl ?_
          refine z_iload C dX6_canAdd_167 rfl ?_
          refine z_callSR (As := [.int _, .int _]) C (c_X6_has _ _ _ _) kc_X6_has wb_861 ⟨by decide, by decide⟩ (trivial) ⟨Nat.zero_le _, Nat.zero_le _⟩ (Nat.le_of_ble_eq_true rfl) dX6_canAdd_169 ?_
          refine z_ifb_eq C 201 dX6_canAdd_172 (by decide) (fun h172 => ?_) (fun h172 => ?_)
          · refine z_iconst (v := 0) C dX6_canAdd_201 (by decide) ?_
            refine z_isub C dX6_canAdd_202 ?_
            refine z_istore C dX6_canAdd_203 (by decide) ?_
            refine z_iinc C dX6_canAdd_205 rfl rfl (by decide) ?_
            refine z_goto C 155 dX6_canAdd_208 (by decide) ?_
            first | exact absurd h125 (by decide) | exact absurd rfl h125 | exact ihi hlti _ ⟨rfl, rfl, rfl, rfl, rfl, rfl, z_lgI rfl (by simp [F_left2, m_cnt, m_sum, m_c, Int32.sub_sub, *]), z_lgI rfl (z_inc i), trivial⟩
          · refine z_aload_n C dX6_canAdd_175 rfl ?_
            refine z_get C (by first | exact hM.1 | exact hM.2.1 _ rfl | exact hM.2.2.1 _ rfl) z_cls7 hu_X6 6 (by decide) wb_641 rfl rfl dX6_canAdd_176 ?_
            refine z_aload_n C dX6_canAdd_179 rfl ?_
            refine z_get C (by first | exact hM.1 | exact hM.2.1 _ rfl | exact hM.2.2.1 _ rfl) z_cls7 hu_X6 23 (by decide) wb_658 rfl rfl dX6_canAdd_180 ?_
            refine z_iload C dX6_canAdd_183 rfl ?_
            refine z_iald C (by first | exact hM.1 | exact hM.2.1 _ rfl | exact hM.2.2.1 _ rfl) (by first | assumption | exact h23 _ (by assumption)) (by first | exact hcli | exact hck | exact hcd | rfl) dX6_canAdd_185 ?_
            refine z_iald C (by first | exact hM.1 | exact hM.2.1 _ rfl | exact hM.2.2.1 _ rfl) (by first | assumption | exact h23 _ (by assumption)) (by first | exact hcli | exact hck | exact hcd | rfl) dX6_canAdd_186 ?_
            refine z_aload_n C dX6_canAdd_187 rfl ?_
            refine z_get C (by first | exact hM.1 | exact hM.2.1 _ rfl | exact hM.2.2.1 _ rfl) z_cls7 hu_X6 6 (by decide) wb_641 rfl rfl dX6_canAdd_188 ?_
            refine z_iload C dX6_canAdd_191 rfl ?_
            refine z_iald C (by first | exact hM.1 | exact hM.2.1 _ rfl | exact hM.2.2.1 _ rfl) (by first | assumption | exact h23 _ (by assumption)) (by first | exact hcli | exact hck | exact hcd | rfl) dX6_canAdd_193 ?_
            refine z_icmp_ne C 201 dX6_canAdd_194 (by decide) (fun h194 => ?_) (fun h194 => ?_)
            · refine z_iconst (v := 0) C dX6_canAdd_201 (by decide) ?_
              refine z_isub C dX6_canAdd_202 ?_
              refine z_istore C dX6_canAdd_203 (by decide) ?_
              refine z_iinc C dX6_canAdd_205 rfl rfl (by decide) ?_
              refine z_goto C 155 dX6_canAdd_208 (by decide) ?_
              first | exact absurd h125 (by decide) | exact absurd rfl h125 | exact ihi hlti _ ⟨rfl, rfl, rfl, rfl, rfl, rfl, z_lgI rfl (by simp [F_left2, m_cnt, m_sum, m_c, Int32.sub_sub, *]), z_lgI rfl (z_inc i), trivial⟩
            · refine z_iconst (v := 1) C dX6_canAdd_197 (by decide) ?_
              refine z_goto C 202 dX6_canAdd_198 (by decide) ?_
              refine z_isub C dX6_canAdd_202 ?_
              refine z_istore C dX6_canAdd_203 (by decide) ?_
              refine z_iinc C dX6_canAdd_205 rfl rfl (by decide) ?_
              refine z_goto C 155 dX6_canAdd_208 (by decide) ?_
              first | exact absurd h125 (by decide) | exact absurd rfl h125 | exact ihi hlti _ ⟨rfl, rfl, rfl, rfl, rfl, rfl, z_lgI rfl (by simp [F_left2, m_cnt, m_sum, m_c, Int32.sub_sub, *]), z_lgI rfl (z_inc i), trivial⟩
      · have hlti := z_lt hKn (by omega) hi h65
        have hini : vp_in (nI i) 16 := vp_in_nI (by omega) (by omega)
        have hcli : (nI i).toNatClampNeg = i := nI_clamp (by omega)
        refine z_aload_n C dX6_canAdd_68 rfl ?_
        refine z_get C (by first | exact hM.1 | exact hM.2.1 _ rfl | exact hM.2.2.1 _ rfl) z_cls7 hu_X6 11 (by decide) wb_646 rfl rfl dX6_canAdd_69 ?_
        refine z_iload C dX6_canAdd_72 rfl ?_
        refine z_iald C (by first | exact hM.1 | exact hM.2.1 _ rfl | exact hM.2.2.1 _ rfl) (by first | assumption | exact h23 _ (by assumption)) (by first | exact hcli | exact hck | exact hcd | rfl) dX6_canAdd_74 ?_
        refine z_if_ne C 101 dX6_canAdd_75 (by decide) (fun h75 => ?_) (fun h75 => ?_)
        · refine z_iconst (v := 0) C dX6_canAdd_101 (by decide) ?_
          refine z_istore C dX6_canAdd_102 (by decide) ?_
          refine z_iload C dX6_canAdd_104 rfl ?_
          refine z_aload_n C dX6_canAdd_106 rfl ?_
          refine z_get C (by first | exact hM.1 | exact hM.2.1 _ rfl | exact hM.2.2.1 _ rfl) z_cls7 hu_X6 10 (by decide) wb_645 rfl rfl dX6_canAdd_107 ?_
          refine z_iload C dX6_canAdd_110 rfl ?_
          refine z_iald C (by first | exact hM.1 | exact hM.2.1 _ rfl | exact hM.2.2.1 _ rfl) (by first | assumption | exact h23 _ (by assumption)) (by first | exact hcli | exact hck | exact hcd | rfl) dX6_canAdd_112 ?_
          refine z_aload_n C dX6_canAdd_113 rfl ?_
          refine z_get C (by first | exact hM.1 | exact hM.2.1 _ rfl | exact hM.2.2.1 _ rfl) z_cls7 hu_X6 6 (by decide) wb_641 rfl rfl dX6_canAdd_114 ?_
          refine z_iload C dX6_canAdd_117 rfl ?_
          refine z_iald C (by first | exact hM.1 | exact hM.2.1 _ rfl | exact hM.2.2.1 _ rfl) (by first | assumption | exact h23 _ (by assumption)) (by first | exact hcli | exact hck | exact hcd | rfl) dX6_canAdd_119 ?_
          refine z_icmp_ne C 142 dX6_canAdd_120 (by decide) (fun h120 => ?_) (fun h120 => ?_)
          · refine z_iconst (v := 0) C dX6_canAdd_142 (by decide) ?_
            refine z_iadd C dX6_canAdd_143 ?_
            refine z_istore C dX6_canAdd_144 (by decide) ?_
            refine z_iinc C dX6_canAdd_146 rfl rfl (by decide) ?_
            refine z_goto C 59 dX6_canAdd_149 (by decide) ?_
            first | exact absurd h125 (by decide) | exact absurd rfl h125 | exact ihi hlti _ ⟨rfl, rfl, rfl, rfl, rfl, rfl, z_lgI rfl (by simp [F_left1, k_near, m_cnt, m_sum, m_c, *]), z_lgI rfl (z_inc i), trivial⟩
          · refine z_iload C dX6_canAdd_123 rfl ?_
            refine z_if_ne C 138 dX6_canAdd_125 (by decide) (fun h125 => ?_) (fun h125 => ?_)
            · refine z_iconst (v := 1) C dX6_canAdd_138 (by decide) ?_
              refine z_goto C 143 dX6_canAdd_139 (by decide) ?_
              refine z_iadd C dX6_canAdd_143 ?_
              refine z_istore C dX6_canAdd_144 (by decide) ?_
              refine z_iinc C dX6_canAdd_146 rfl rfl (by decide) ?_
              refine z_goto C 59 dX6_canAdd_149 (by decide) ?_
              first | exact absurd h125 (by decide) | exact absurd rfl h125 | exact ihi hlti _ ⟨rfl, rfl, rfl, rfl, rfl, rfl, z_lgI rfl (by simp [F_left1, k_near, m_cnt, m_sum, m_c, *]), z_lgI rfl (z_inc i), trivial⟩
            · refine z_aload_n C dX6_canAdd_128 rfl ?_
              refine z_iload_n C dX6_canAdd_129 rfl ?_
              refine z_iload C dX6_canAdd_130 rfl ?_
              refine z_callVR (As := [.int _, .int _]) C (c_X6_holds _ _ ad M _ _ hini) kc_X6_holds wb_813 ⟨by decide, by decide⟩ hM.1 rfl (hM) ⟨Nat.zero_le _, Nat.zero_le _⟩ (Nat.le_of_ble_eq_true rfl) dX6_canAdd_132 ?_
              refine z_ifb_eq C 142 dX6_canAdd_135 (by decide) (fun h135 => ?_) (fun h135 => ?_)
              · refine z_iconst (v := 0) C dX6_canAdd_142 (by decide) ?_
                refine z_iadd C dX6_canAdd_143 ?_
                refine z_istore C dX6_canAdd_144 (by decide) ?_
                refine z_iinc C dX6_canAdd_146 rfl rfl (by decide) ?_
                refine z_goto C 59 dX6_canAdd_149 (by decide) ?_
                first | exact absurd h125 (by decide) | exact absurd rfl h125 | exact ihi hlti _ ⟨rfl, rfl, rfl, rfl, rfl, rfl, z_lgI rfl (by simp [F_left1, k_near, m_cnt, m_sum, m_c, *]), z_lgI rfl (z_inc i), trivial⟩
              · refine z_iconst (v := 1) C dX6_canAdd_138 (by decide) ?_
                refine z_goto C 143 dX6_canAdd_139 (by decide) ?_
                refine z_iadd C dX6_canAdd_143 ?_
                refine z_istore C dX6_canAdd_144 (by decide) ?_
                refine z_iinc C dX6_canAdd_146 rfl rfl (by decide) ?_
                refine z_goto C 59 dX6_canAdd_149 (by decide) ?_
                first | exact absurd h125 (by decide) | exact absurd rfl h125 | exact ihi hlti _ ⟨rfl, rfl, rfl, rfl, rfl, rfl, z_lgI rfl (by simp [F_left1, k_near, m_cnt, m_sum, m_c, *]), z_lgI rfl (z_inc i), trivial⟩
        · refine z_aload_n C dX6_canAdd_78 rfl ?_
          refine z_get C (by first | exact hM.1 | exact hM.2.1 _ rfl | exact hM.2.2.1 _ rfl) z_cls7 hu_X6 25 (by decide) wb_660 rfl rfl dX6_canAdd_79 ?_
          refine z_iload_n C dX6_canAdd_82 rfl ?_
          refine z_iald C (by first | exact hM.1 | exact hM.2.1 _ rfl | exact hM.2.2.1 _ rfl) (by first | assumption | exact h23 _ (by assumption)) (by first | exact hcli | exact hck | exact hcd | rfl) dX6_canAdd_83 ?_
          refine z_aload_n C dX6_canAdd_84 rfl ?_
          refine z_get C (by first | exact hM.1 | exact hM.2.1 _ rfl | exact hM.2.2.1 _ rfl) z_cls7 hu_X6 12 (by decide) wb_647 rfl rfl dX6_canAdd_85 ?_
          refine z_iload C dX6_canAdd_88 rfl ?_
          refine z_iald C (by first | exact hM.1 | exact hM.2.1 _ rfl | exact hM.2.2.1 _ rfl) (by first | assumption | exact h23 _ (by assumption)) (by first | exact hcli | exact hck | exact hcd | rfl) dX6_canAdd_90 ?_
          refine z_callSR (As := [.int _, .int _]) C (c_X6_has _ _ _ _) kc_X6_has wb_861 ⟨by decide, by decide⟩ (trivial) ⟨Nat.zero_le _, Nat.zero_le _⟩ (Nat.le_of_ble_eq_true rfl) dX6_canAdd_91 ?_
          refine z_ifb_eq C 101 dX6_canAdd_94 (by decide) (fun h94 => ?_) (fun h94 => ?_)
          · refine z_iconst (v := 0) C dX6_canAdd_101 (by decide) ?_
            refine z_istore C dX6_canAdd_102 (by decide) ?_
            refine z_iload C dX6_canAdd_104 rfl ?_
            refine z_aload_n C dX6_canAdd_106 rfl ?_
            refine z_get C (by first | exact hM.1 | exact hM.2.1 _ rfl | exact hM.2.2.1 _ rfl) z_cls7 hu_X6 10 (by decide) wb_645 rfl rfl dX6_canAdd_107 ?_
            refine z_iload C dX6_canAdd_110 rfl ?_
            refine z_iald C (by first | exact hM.1 | exact hM.2.1 _ rfl | exact hM.2.2.1 _ rfl) (by first | assumption | exact h23 _ (by assumption)) (by first | exact hcli | exact hck | exact hcd | rfl) dX6_canAdd_112 ?_
            refine z_aload_n C dX6_canAdd_113 rfl ?_
            refine z_get C (by first | exact hM.1 | exact hM.2.1 _ rfl | exact hM.2.2.1 _ rfl) z_cls7 hu_X6 6 (by decide) wb_641 rfl rfl dX6_canAdd_114 ?_
            refine z_iload C dX6_canAdd_117 rfl ?_
            refine z_iald C (by first | exact hM.1 | exact hM.2.1 _ rfl | exact hM.2.2.1 _ rfl) (by first | assumption | exact h23 _ (by assumption)) (by first | exact hcli | exact hck | exact hcd | rfl) dX6_canAdd_119 ?_
            refine z_icmp_ne C 142 dX6_canAdd_120 (by decide) (fun h120 => ?_) (fun h120 => ?_)
            · refine z_iconst (v := 0) C dX6_canAdd_142 (by decide) ?_
              refine z_iadd C dX6_canAdd_143 ?_
              refine z_istore C dX6_canAdd_144 (by decide) ?_
              refine z_iinc C dX6_canAdd_146 rfl rfl (by decide) ?_
              refine z_goto C 59 dX6_canAdd_149 (by decide) ?_
              first | exact absurd h125 (by decide) | exact absurd rfl h125 | exact ihi hlti _ ⟨rfl, rfl, rfl, rfl, rfl, rfl, z_lgI rfl (by simp [F_left1, k_near, m_cnt, m_sum, m_c, *]), z_lgI rfl (z_inc i), trivial⟩
            · refine z_iload C dX6_canAdd_123 rfl ?_
              refine z_if_ne C 138 dX6_canAdd_125 (by decide) (fun h125 => ?_) (fun h125 => ?_)
              · refine z_iconst (v := 1) C dX6_canAdd_138 (by decide) ?_
                refine z_goto C 143 dX6_canAdd_139 (by decide) ?_
                refine z_iadd C dX6_canAdd_143 ?_
                refine z_istore C dX6_canAdd_144 (by decide) ?_
                refine z_iinc C dX6_canAdd_146 rfl rfl (by decide) ?_
                refine z_goto C 59 dX6_canAdd_149 (by decide) ?_
                first | exact absurd h125 (by decide) | exact absurd rfl h125 | exact ihi hlti _ ⟨rfl, rfl, rfl, rfl, rfl, rfl, z_lgI rfl (by simp [F_left1, k_near, m_cnt, m_sum, m_c, *]), z_lgI rfl (z_inc i), trivial⟩
              · refine z_aload_n C dX6_canAdd_128 rfl ?_
                refine z_iload_n C dX6_canAdd_129 rfl ?_
                refine z_iload C dX6_canAdd_130 rfl ?_
                refine z_callVR (As := [.int _, .int _]) C (c_X6_holds _ _ ad M _ _ hini) kc_X6_holds wb_813 ⟨by decide, by decide⟩ hM.1 rfl (hM) ⟨Nat.zero_le _, Nat.zero_le _⟩ (Nat.le_of_ble_eq_true rfl) dX6_canAdd_132 ?_
                refine z_ifb_eq C 142 dX6_canAdd_135 (by decide) (fun h135 => ?_) (fun h135 => ?_)
                · refine z_iconst (v := 0) C dX6_canAdd_142 (by decide) ?_
                  refine z_iadd C dX6_canAdd_143 ?_
                  refine z_istore C dX6_canAdd_144 (by decide) ?_
                  refine z_iinc C dX6_canAdd_146 rfl rfl (by decide) ?_
                  refine z_goto C 59 dX6_canAdd_149 (by decide) ?_
                  first | exact absurd h125 (by decide) | exact absurd rfl h125 | exact ihi hlti _ ⟨rfl, rfl, rfl, rfl, rfl, rfl, z_lgI rfl (by simp [F_left1, k_near, m_cnt, m_sum, m_c, *]), z_lgI rfl (z_inc i), trivial⟩
                · refine z_iconst (v := 1) C dX6_canAdd_138 (by decide) ?_
                  refine z_goto C 143 dX6_canAdd_139 (by decide) ?_
                  refine z_iadd C dX6_canAdd_143 ?_
                  refine z_istore C dX6_canAdd_144 (by decide) ?_
                  refine z_iinc C dX6_canAdd_146 rfl rfl (by decide) ?_
                  refine z_goto C 59 dX6_canAdd_149 (by decide) ?_
                  first | exact absurd h125 (by decide) | exact absurd rfl h125 | exact ihi hlti _ ⟨rfl, rfl, rfl, rfl, rfl, rfl, z_lgI rfl (by simp [F_left1, k_near, m_cnt, m_sum, m_c, *]), z_lgI rfl (z_inc i), trivial⟩
          · refine z_iconst (v := 1) C dX6_canAdd_97 (by decide) ?_
            refine z_goto C 102 dX6_canAdd_98 (by decide) ?_
            refine z_istore C dX6_canAdd_102 (by decide) ?_
            refine z_iload C dX6_canAdd_104 rfl ?_
            refine z_aload_n C dX6_canAdd_106 rfl ?_
            refine z_get C (by first | exact hM.1 | exact hM.2.1 _ rfl | exact hM.2.2.1 _ rfl) z_cls7 hu_X6 10 (by decide) wb_645 rfl rfl dX6_canAdd_107 ?_
            refine z_iload C dX6_canAdd_110 rfl ?_
            refine z_iald C (by first | exact hM.1 | exact hM.2.1 _ rfl | exact hM.2.2.1 _ rfl) (by first | assumption | exact h23 _ (by assumption)) (by first | exact hcli | exact hck | exact hcd | rfl) dX6_canAdd_112 ?_
            refine z_aload_n C dX6_canAdd_113 rfl ?_
            refine z_get C (by first | exact hM.1 | exact hM.2.1 _ rfl | exact hM.2.2.1 _ rfl) z_cls7 hu_X6 6 (by decide) wb_641 rfl rfl dX6_canAdd_114 ?_
            refine z_iload C dX6_canAdd_117 rfl ?_
            refine z_iald C (by first | exact hM.1 | exact hM.2.1 _ rfl | exact hM.2.2.1 _ rfl) (by first | assumption | exact h23 _ (by assumption)) (by first | exact hcli | exact hck | exact hcd | rfl) dX6_canAdd_119 ?_
            refine z_icmp_ne C 142 dX6_canAdd_120 (by decide) (fun h120 => ?_) (fun h120 => ?_)
            · refine z_iconst (v := 0) C dX6_canAdd_142 (by decide) ?_
              refine z_iadd C dX6_canAdd_143 ?_
              refine z_istore C dX6_canAdd_144 (by decide) ?_
              refine z_iinc C dX6_canAdd_146 rfl rfl (by decide) ?_
              refine z_goto C 59 dX6_canAdd_149 (by decide) ?_
              first | exact absurd h125 (by decide) | exact absurd rfl h125 | exact ihi hlti _ ⟨rfl, rfl, rfl, rfl, rfl, rfl, z_lgI rfl (by simp [F_left1, k_near, m_cnt, m_sum, m_c, *]), z_lgI rfl (z_inc i), trivial⟩
            · refine z_iload C dX6_canAdd_123 rfl ?_
              refine z_if_ne C 138 dX6_canAdd_125 (by decide) (fun h125 => ?_) (fun h125 => ?_)
              · refine z_iconst (v := 1) C dX6_canAdd_138 (by decide) ?_
                refine z_goto C 143 dX6_canAdd_139 (by decide) ?_
                refine z_iadd C dX6_canAdd_143 ?_
                refine z_istore C dX6_canAdd_144 (by decide) ?_
                refine z_iinc C dX6_canAdd_146 rfl rfl (by decide) ?_
                refine z_goto C 59 dX6_canAdd_149 (by decide) ?_
                first | exact absurd h125 (by decide) | exact absurd rfl h125 | exact ihi hlti _ ⟨rfl, rfl, rfl, rfl, rfl, rfl, z_lgI rfl (by simp [F_left1, k_near, m_cnt, m_sum, m_c, *]), z_lgI rfl (z_inc i), trivial⟩
              · refine z_aload_n C dX6_canAdd_128 rfl ?_
                refine z_iload_n C dX6_canAdd_129 rfl ?_
                refine z_iload C dX6_canAdd_130 rfl ?_
                refine z_callVR (As := [.int _, .int _]) C (c_X6_holds _ _ ad M _ _ hini) kc_X6_holds wb_813 ⟨by decide, by decide⟩ hM.1 rfl (hM) ⟨Nat.zero_le _, Nat.zero_le _⟩ (Nat.le_of_ble_eq_true rfl) dX6_canAdd_132 ?_
                refine z_ifb_eq C 142 dX6_canAdd_135 (by decide) (fun h135 => ?_) (fun h135 => ?_)
                · refine z_iconst (v := 0) C dX6_canAdd_142 (by decide) ?_
                  refine z_iadd C dX6_canAdd_143 ?_
                  refine z_istore C dX6_canAdd_144 (by decide) ?_
                  refine z_iinc C dX6_canAdd_146 rfl rfl (by decide) ?_
                  refine z_goto C 59 dX6_canAdd_149 (by decide) ?_
                  first | exact absurd h125 (by decide) | exact absurd rfl h125 | exact ihi hlti _ ⟨rfl, rfl, rfl, rfl, rfl, rfl, z_lgI rfl (by simp [F_left1, k_near, m_cnt, m_sum, m_c, *]), z_lgI rfl (z_inc i), trivial⟩
                · refine z_iconst (v := 1) C dX6_canAdd_138 (by decide) ?_
                  refine z_goto C 143 dX6_canAdd_139 (by decide) ?_
                  refine z_iadd C dX6_canAdd_143 ?_
                  refine z_istore C dX6_canAdd_144 (by decide) ?_
                  refine z_iinc C dX6_canAdd_146 rfl rfl (by decide) ?_
                  refine z_goto C 59 dX6_canAdd_149 (by decide) ?_
                  first | exact absurd h125 (by decide) | exact absurd rfl h125 | exact ihi hlti _ ⟨rfl, rfl, rfl, rfl, rfl, rfl, z_lgI rfl (by simp [F_left1, k_near, m_cnt, m_sum, m_c, *]), z_lgI rfl (z_inc i), trivial⟩
