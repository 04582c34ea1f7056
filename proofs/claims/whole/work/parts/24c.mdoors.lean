set_option maxHeartbeats 4000000 in
set_option maxRecDepth 100000 in
theorem c_X6_findDoors (l : Launch) (G : z_G) (ad : Nat → Nat) (M M1 : m_S) {nR nD nK nG r0 : Nat} (hI : m_I nR nD nK nG M) (g : Int32) (c0 m0 : Nat) (hc0 : c0 < 2 ^ 20) (hm0 : m0 ≤ 10) (hD : k_D M nD nK r0 g c0 m0 M1) (hLd : (q_Ld M nD (k_cA M nD nK r0 g) (k_esc M nD r0) (k_u M) c0 m0 0)) : z_M l yX6_findDoors cX6_findDoors 6 none 2 0 0 [.ref (ad 0), .int g, .int (nI (2 ^ k_ci M nD))] G (fun H => m_R G ad M1 H) (m_A ad) ((fun v _ H => v = none ∧ ∃ M2, m_Q M M2 ∧ M2.1 28 = nI c0 ∧ M2.1 29 = nI m0 ∧ (∃ pre, q_pre M nD (k_cA M nD nK r0 g) (k_esc M nD r0) (k_u M) c0 m0 pre ∧ pre.length = m0 ∧ ∀ i, i < m0 → M2.2 30 i = nI (p_at pre i)) ∧ m_R G ad M2 H)) := by
  refine z_M.of (by decide +kernel) (Nat.le_of_ble_eq_true rfl) ?_
  intro p e s m below meth c C hP
  have hM : m_R G ad M1 s.heap := hP
  have hN := hI.1
  have hR12 := hN.1.2; have hD16 := hN.2.1.2; have hK16 := hN.2.2.1.2; have hG6 := hN.2.2.2.2
  have h10 := k_ci10 hI
  have h1024 := pow1024 hI
  refine z_iload_n C dX6_findDoors_0 rfl ?_
  refine z_iconst (v := 1) C dX6_findDoors_1 (by decide) ?_
  refine z_isub C dX6_findDoors_2 ?_
  refine z_istore_n C dX6_findDoors_3 (by decide) ?_
  refine z_loopS (fun q : Nat × m_S => q.1) (fun q H1 => m_R G ad q.2 H1 ∧ q.1 ≤ 2 ^ k_ci M nD ∧ k_D M nD nK r0 g c0 m0 q.2 ∧ ∀ t, q.1 ≤ t → t < 2 ^ k_ci M nD → z_is (q.2.2 27 t) (q_Ld M nD (k_cA M nD nK r0 g) (k_esc M nD r0) (k_u M) c0 m0 t)) (fun q => [(0, .ref (ad 0)), (1, .int g), (3, .int (nI q.1 - 1))]) (2 ^ k_ci M nD, M1) ⟨hM, Nat.le_refl _, hD, fun t h1 h2 => absurd h2 (by omega)⟩ ⟨rfl, rfl, rfl, trivial⟩ (fun q H1 hI1 ihO => ?_)
  obtain ⟨j, M2⟩ := q
  obtain ⟨hM, hj, hD, hrow⟩ := hI1
  dsimp only at hM hj hD hrow ihO ⊢
  refine z_iload_n C dX6_findDoors_4 rfl ?_
  refine z_if_lt C 138 dX6_findDoors_5 (by decide) (fun h5 => ?_) (fun h5 => ?_)
  · have hj0 : j = 0 := z_neg (by omega) h5
    subst hj0
    refine z_iconst (v := 0) C dX6_findDoors_138 (by decide) ?_
    refine z_istore_n C dX6_findDoors_139 (by decide) ?_
    refine z_iconst (v := 0) C dX6_findDoors_140 (by decide) ?_
    refine z_istore C dX6_findDoors_141 (by decide) ?_
    refine z_loopS (fun q : List Nat × m_S => m0 - q.1.length) (fun q H1 => m_R G ad q.2 H1 ∧ k_D M nD nK r0 g c0 m0 q.2 ∧ (∀ t, t < 2 ^ k_ci M nD → z_is (q.2.2 27 t) (q_Ld M nD (k_cA M nD nK r0 g) (k_esc M nD r0) (k_u M) c0 m0 t)) ∧ q.1.length ≤ m0 ∧ q_pre M nD (k_cA M nD nK r0 g) (k_esc M nD r0) (k_u M) c0 m0 q.1 ∧ ∀ i, i < q.1.length → q.2.2 30 i = nI (p_at q.1 i)) (fun q => [(0, .ref (ad 0)), (1, .int g), (3, .int (nI (p_num 0 (k_ci M) q.1))), (4, .int (nI q.1.length))]) ([], M2) ⟨hM, hD, fun t ht => hrow t (by omega) ht, Nat.zero_le _, q_pre.nil hLd, fun i hi => absurd hi (Nat.not_lt_zero i)⟩ ⟨rfl, rfl, rfl, rfl, trivial⟩ (fun q H1 hI1 ihP => ?_)
    obtain ⟨pre, M3⟩ := q
    obtain ⟨hM, hD, hrow, hlen, hpre, hpl⟩ := hI1
    dsimp only at hM hD hrow hlen hpre hpl ihP ⊢
    refine z_iload C dX6_findDoors_143 rfl ?_
    refine z_aload_n C dX6_findDoors_145 rfl ?_
    refine z_get C (by first | exact hM.1 | exact hM.2.1 _ rfl | exact hM.2.2.1 _ rfl) z_cls7 hu_X6 29 (by decide) wb_664 rfl rfl dX6_findDoors_146 ?_
    refine z_icmp_ge C 213 dX6_findDoors_149 (by decide) (fun h149 => ?_) (fun h149 => ?_)
    · have hend := z_ge hD.2.2.2 (by omega) hlen h149
      exact z_vret C (by omega) (by omega) dX6_findDoors_213 (by exact ⟨rfl, M3, hD.1.1.1, hD.2.2.1, hD.2.2.2, ⟨pre, hpre, hend, fun i hi => hpl i (by omega)⟩, hM⟩)
    · have hlt := z_lt hD.2.2.2 (by omega) hlen h149
      have hsL := q_Met.lt hI k_hA ⟨pre, hpre.1, rfl⟩
      have hs1 : p_num 0 (k_ci M) pre < 1024 := by omega
      have hsv : vp_in (nI (p_num 0 (k_ci M) pre)) 1024 := vp_in_nI hs1 (by omega)
      have hcls : (nI (p_num 0 (k_ci M) pre)).toNatClampNeg = p_num 0 (k_ci M) pre := nI_clamp (by omega)
      refine z_iconst (v := 0) C dX6_findDoors_152 (by decide) ?_
      refine z_istore C dX6_findDoors_153 (by decide) ?_
      refine z_loopS (fun k : Nat => k_ci M nD - k) (fun k H2 => H2 = H1 ∧ ∀ d, (k_cA M nD nK r0 g) (k_C M nD (k_ci M) (p_num 0 (k_ci M) pre)) d = true → (q_Ld M nD (k_cA M nD nK r0 g) (k_esc M nD r0) (k_u M) c0 m0 (p_num 0 (k_ci M) pre ||| 2 ^ k_ci M d)) → k ≤ k_ci M d) (fun k => [(0, .ref (ad 0)), (1, .int g), (3, .int (nI (p_num 0 (k_ci M) pre))), (4, .int (nI pre.length)), (5, .int (nI k))]) 0 ⟨rfl, fun d _ _ => Nat.zero_le _⟩ ⟨rfl, rfl, rfl, rfl, rfl, trivial⟩ (fun k H2 hI2 ihI => ?_)
      obtain ⟨rfl, hmin⟩ := hI2
      obtain ⟨dx, hdx1, hdx2⟩ := hpre.more hI k_hA (k_hH hI) hlt
      have hkdx := hmin dx hdx1 hdx2
      have hkL : k < k_ci M nD := Nat.lt_of_le_of_lt hkdx (k_ci_lt (k_hA _ _ hdx1).1 (k_hA _ _ hdx1).2.1)
      obtain ⟨e, he, hoe, rfl⟩ := k_ci_ex hkL
      have hcie := k_ci_lt he hoe
      have hkv : vp_in (nI (k_ci M e)) 10 := vp_in_nI (by omega) (by omega)
      have hclk : (nI (k_ci M e)).toNatClampNeg = k_ci M e := nI_clamp (by omega)
      have horL := k_or_lt hI hsL he hoe
      have hov : vp_in (nI (p_num 0 (k_ci M) pre ||| 2 ^ k_ci M e)) 1024 := vp_in_nI (by omega) (by omega)
      have hclo : (nI (p_num 0 (k_ci M) pre ||| 2 ^ k_ci M e)).toNatClampNeg = p_num 0 (k_ci M) pre ||| 2 ^ k_ci M e := nI_clamp (by omega)
      have hkn : M3.1 9 = nI nK := (hD.1.1.1.1 9 (by decide)).trans hN.2.2.1.1
      have hor := hrow _ horL
      refine z_aload_n C dX6_findDoors_155 rfl ?_
      refine z_iload_n C dX6_findDoors_156 rfl ?_
      refine z_iload_n C dX6_findDoors_157 rfl ?_
      refine z_iload C dX6_findDoors_158 rfl ?_
      refine z_callVR (As := [.int _, .int _, .int _]) C (c_X6_canAdd _ _ ad _ hD.1.1.2.1 h10 (fun k hk => hD.1.1.h23 hI hk) (nK := nK) hkn hK16 _ _ hsv (k_ci M e) e (by omega) (by omega) (hD.1.1.2.2 e he hoe)) kc_X6_canAdd wb_868 ⟨by decide, by decide⟩ hM.1 rfl (hM) ⟨Nat.zero_le _, Nat.zero_le _⟩ (Nat.le_of_ble_eq_true rfl) dX6_findDoors_160 ?_
      rw [F_canAdd_eq (nK := nK) (g := g) hI hD.1.1 hs1 he hoe (hD.1.2 _ hsL)]
      refine z_ifb_eq C 180 dX6_findDoors_163 (by decide) (fun h163 => ?_) (fun h163 => ?_)
      · have hmin2 := q_min2 hI k_hA he hoe hmin (fun q _ => by rw [h163] at q; cases q)
        refine z_iinc C dX6_findDoors_180 rfl rfl (by decide) ?_
        refine z_goto C 155 dX6_findDoors_183 (by decide) ?_
        exact ihI (k_ci M e + 1) _ _ ⟨rfl, hmin2⟩ (by omega) ⟨rfl, rfl, rfl, rfl, z_lgI rfl (z_inc _), trivial⟩
      · refine z_aload_n C dX6_findDoors_166 rfl ?_
        refine z_get C (by first | exact hM.1 | exact hM.2.1 _ rfl | exact hM.2.2.1 _ rfl) z_cls7 hu_X6 27 (by decide) wb_662 rfl rfl dX6_findDoors_167 ?_
        refine z_iload_n C dX6_findDoors_170 rfl ?_
        refine z_iconst (v := 1) C dX6_findDoors_171 (by decide) ?_
        refine z_iload C dX6_findDoors_172 rfl ?_
        refine z_ishl C dX6_findDoors_174 ?_
        refine z_ior C dX6_findDoors_175 ?_
        rw [show (1 : Int32) <<< (nI (k_ci M e) &&& 31) = x_bit (nI (k_ci M e)) from rfl, nI_or (by omega) (by omega)]
        refine z_zald C (by first | exact hM.1 | exact hM.2.1 _ rfl | exact hM.2.2.1 _ rfl) (by first | assumption) (by first | exact hcls | exact hclk | exact hclo | exact hcln | rfl) dX6_findDoors_176 ?_
        refine z_if_ne C 186 dX6_findDoors_177 (by decide) (fun h177 => ?_) (fun h177 => ?_)
        · have hLe := hor.yes h177
          have hpre2 := hpre.add hI k_hA h163 hLe hmin
          have hrow3 : ∀ t, t < 2 ^ k_ci M nD → z_is ((m_sA M3 30 pre.length (nI e)).2 27 t) (q_Ld M nD (k_cA M nD nK r0 g) (k_esc M nD r0) (k_u M) c0 m0 t) := fun t ht => by rw [m_sA_arr (by decide)]; exact hrow t ht
          have hpl2 := p_at_add (e := e) hpl
          have hnv : vp_in (nI pre.length) 10 := vp_in_nI (by omega) (by omega)
          have hcln : (nI pre.length).toNatClampNeg = pre.length := nI_clamp (by omega)
          refine z_aload_n C dX6_findDoors_186 rfl ?_
          refine z_get C (by first | exact hM.1 | exact hM.2.1 _ rfl | exact hM.2.2.1 _ rfl) z_cls7 hu_X6 30 (by decide) wb_665 rfl rfl dX6_findDoors_187 ?_
          refine z_iload C dX6_findDoors_190 rfl ?_
          refine z_aload_n C dX6_findDoors_192 rfl ?_
          refine z_get C (by first | exact hM.1 | exact hM.2.1 _ rfl | exact hM.2.2.1 _ rfl) z_cls7 hu_X6 23 (by decide) wb_658 rfl rfl dX6_findDoors_193 ?_
          refine z_iload C dX6_findDoors_196 rfl ?_
          refine z_iald C (by first | exact hM.1 | exact hM.2.1 _ rfl | exact hM.2.2.1 _ rfl) (by first | assumption) (by first | exact hcls | exact hclk | exact hclo | exact hcln | rfl) dX6_findDoors_198 ?_
          rw [hD.1.1.2.2 e he hoe]
          refine z_iast C (by first | exact hM.1 | exact hM.2.1 _ rfl | exact hM.2.2.1 _ rfl) (by exact ⟨_, rfl, rfl⟩) (by first | assumption) (by first | exact hcls | exact hclk | exact hclo | exact hcln | rfl) dX6_findDoors_199 (fun H199 hU199 => ?_)
          have hM := hM.sI hU199 rfl
          refine z_iload_n C dX6_findDoors_200 rfl ?_
          refine z_iconst (v := 1) C dX6_findDoors_201 (by decide) ?_
          refine z_iload C dX6_findDoors_202 rfl ?_
          refine z_ishl C dX6_findDoors_204 ?_
          refine z_ior C dX6_findDoors_205 ?_
          rw [show (1 : Int32) <<< (nI (k_ci M e) &&& 31) = x_bit (nI (k_ci M e)) from rfl, nI_or (by omega) (by omega)]
          refine z_istore_n C dX6_findDoors_206 (by decide) ?_
          refine z_iinc C dX6_findDoors_207 rfl rfl (by decide) ?_
          refine z_goto C 143 dX6_findDoors_210 (by decide) ?_
          exact ihP (e :: pre, _) _ _ ⟨hM, hD.arr (by omega), hrow3, hlt, hpre2, hpl2⟩ (by simp only [List.length_cons]; omega) ⟨rfl, rfl, rfl, z_lgI rfl (z_inc _), trivial⟩
        · have hmin2 := q_min2 hI k_hA he hoe hmin (fun _ q => hor.no h177 q)
          refine z_iinc C dX6_findDoors_180 rfl rfl (by decide) ?_
          refine z_goto C 155 dX6_findDoors_183 (by decide) ?_
          exact ihI (k_ci M e + 1) _ _ ⟨rfl, hmin2⟩ (by omega) ⟨rfl, rfl, rfl, rfl, z_lgI rfl (z_inc _), trivial⟩
  · obtain ⟨s, rfl⟩ : ∃ s, j = s + 1 := z_pos (by omega) h5
    rw [nI_pre1]
    have hsL : s < 2 ^ k_ci M nD := by omega
    have hs1 : s < 1024 := by omega
    have hsv : vp_in (nI s) 1024 := vp_in_nI hs1 (by omega)
    have hcls : (nI s).toNatClampNeg = s := nI_clamp (by omega)
    have hkn : M2.1 9 = nI nK := (hD.1.1.1.1 9 (by decide)).trans hN.2.2.1.1
    refine z_aload_n C dX6_findDoors_8 rfl ?_
    refine z_get C (by first | exact hM.1 | exact hM.2.1 _ rfl | exact hM.2.2.1 _ rfl) z_cls7 hu_X6 27 (by decide) wb_662 rfl rfl dX6_findDoors_9 ?_
    refine z_iload_n C dX6_findDoors_12 rfl ?_
    refine z_aload_n C dX6_findDoors_13 rfl ?_
    refine z_get C (by first | exact hM.1 | exact hM.2.1 _ rfl | exact hM.2.2.1 _ rfl) z_cls7 hu_X6 26 (by decide) wb_661 rfl rfl dX6_findDoors_14 ?_
    refine z_iload_n C dX6_findDoors_17 rfl ?_
    refine z_zald C (by first | exact hM.1 | exact hM.2.1 _ rfl | exact hM.2.2.1 _ rfl) (by first | assumption) (by first | exact hcls | exact hclk | exact hclo | exact hcln | rfl) dX6_findDoors_18 ?_
    refine z_if_eq C 58 dX6_findDoors_19 (by decide) (fun h19 => ?_) (fun h19 => ?_)
    · refine z_iconst (v := 0) C dX6_findDoors_58 (by decide) ?_
      refine z_zast C (by first | exact hM.1 | exact hM.2.1 _ rfl | exact hM.2.2.1 _ rfl) (by exact ⟨_, rfl, rfl⟩) (by first | assumption) (by first | exact hcls | exact hclk | exact hclo | exact hcln | rfl) dX6_findDoors_59 (fun H59 hU59 => ?_)
      have hM := hM.sZ hU59 rfl
      have hmet := hD.2.1 s hsL
      have hrow2 : ∀ v t, s + 1 ≤ t → t < 2 ^ k_ci M nD → z_is ((m_sA M2 27 s v).2 27 t) (q_Ld M nD (k_cA M nD nK r0 g) (k_esc M nD r0) (k_u M) c0 m0 t) := fun v t h1 h2 => by rw [m_sA_ix (by omega)]; exact hrow t h1 h2
      have hT0 : ∃ v, m_R G ad (m_sA M2 27 s v) H59 ∧ z_is v (q_T M nD (k_cA M nD nK r0 g) (k_esc M nD r0) (k_u M) c0 m0 s) := by
        first | exact ⟨_, hM, Or.inl ⟨rfl, hmet.yes h19, h27, ((nI_inj (Nat.lt_trans (q_cost_le hI (t := s)) (by decide)) (Nat.lt_trans hc0 (by decide))).mp h39), ((nI_inj (Nat.lt_of_le_of_lt (q_size_le (M := M) (nD := nD) (t := s)) (by omega)) (by omega)).mp h51)⟩⟩ | exact ⟨_, hM, Or.inr ⟨rfl, fun q => h51 (congrArg nI q.2.2.2)⟩⟩ | exact ⟨_, hM, Or.inr ⟨rfl, fun q => h39 (congrArg nI q.2.2.1)⟩⟩ | exact ⟨_, hM, Or.inr ⟨rfl, fun q => absurd q.2.1 (by rw [h27]; decide)⟩⟩ | exact ⟨_, hM, Or.inr ⟨rfl, fun q => hmet.no h19 q.1⟩⟩
      obtain ⟨v, hM, hv⟩ := hT0
      have hT0 : z_is ((m_sA M2 27 s v).2 27 s) (q_Lk M nD (k_cA M nD nK r0 g) (k_esc M nD r0) (k_u M) c0 m0 s 0) := by rw [m_sA_at]; exact hv.iff q_Lk.zero
      refine z_iconst (v := 0) C dX6_findDoors_60 (by decide) ?_
      refine z_istore C dX6_findDoors_61 (by decide) ?_
      refine z_loopS (fun q : Nat × m_S => k_ci M nD - q.1) (fun q H1 => m_R G ad q.2 H1 ∧ q.1 ≤ k_ci M nD ∧ k_D M nD nK r0 g c0 m0 q.2 ∧ (∀ t, s + 1 ≤ t → t < 2 ^ k_ci M nD → z_is (q.2.2 27 t) (q_Ld M nD (k_cA M nD nK r0 g) (k_esc M nD r0) (k_u M) c0 m0 t)) ∧ z_is (q.2.2 27 s) (q_Lk M nD (k_cA M nD nK r0 g) (k_esc M nD r0) (k_u M) c0 m0 s q.1)) (fun q => [(0, .ref (ad 0)), (1, .int g), (3, .int (nI s)), (4, .int (nI q.1))]) (0, m_sA M2 27 s v) ⟨hM, Nat.zero_le _, hD.arr (by omega), hrow2 v, hT0⟩ ⟨rfl, rfl, rfl, rfl, trivial⟩ (fun q H2 hI2 ihI => ?_)
      obtain ⟨k, M3⟩ := q
      obtain ⟨hM, hk, hD, hrow, hsk⟩ := hI2
      dsimp only at hM hk hD hrow hsk ihI ⊢
      refine z_iload C dX6_findDoors_63 rfl ?_
      refine z_aload_n C dX6_findDoors_65 rfl ?_
      refine z_get C (by first | exact hM.1 | exact hM.2.1 _ rfl | exact hM.2.2.1 _ rfl) z_cls7 hu_X6 22 (by decide) wb_657 rfl rfl dX6_findDoors_66 ?_
      refine z_icmp_ge C 132 dX6_findDoors_69 (by decide) (fun h69 => ?_) (fun h69 => ?_)
      · have hend := z_ge hD.1.1.2.1 (by omega) hk h69
        rw [hend] at hsk
        have hK : ∀ t, s ≤ t → t < 2 ^ k_ci M nD → z_is (M3.2 27 t) (q_Ld M nD (k_cA M nD nK r0 g) (k_esc M nD r0) (k_u M) c0 m0 t) := fun t h1 h2 => by
          by_cases e0 : t = s
          · rw [e0]; exact hsk.iff (q_Lk.full k_hA)
          · exact hrow t (by omega) h2
        refine z_iinc C dX6_findDoors_132 rfl rfl (by decide) ?_
        refine z_goto C 4 dX6_findDoors_135 (by decide) ?_
        exact ihO (s, M3) _ _ ⟨hM, (by dsimp only; omega), hD, hK⟩ (by dsimp only; omega) ⟨rfl, rfl, z_lgI rfl (z_dec s), trivial⟩
      · have hltk := z_lt hD.1.1.2.1 (by omega) hk h69
        obtain ⟨e, he, hoe, rfl⟩ := k_ci_ex hltk
        have hcie := k_ci_lt he hoe
        have hkv : vp_in (nI (k_ci M e)) 10 := vp_in_nI (by omega) (by omega)
        have hclk : (nI (k_ci M e)).toNatClampNeg = k_ci M e := nI_clamp (by omega)
        have horL := k_or_lt hI hsL he hoe
        have hov : vp_in (nI (s ||| 2 ^ k_ci M e)) 1024 := vp_in_nI (by omega) (by omega)
        have hclo : (nI (s ||| 2 ^ k_ci M e)).toNatClampNeg = s ||| 2 ^ k_ci M e := nI_clamp (by omega)
        have hkn : M3.1 9 = nI nK := (hD.1.1.1.1 9 (by decide)).trans hN.2.2.1.1
        refine z_aload_n C dX6_findDoors_72 rfl ?_
        refine z_get C (by first | exact hM.1 | exact hM.2.1 _ rfl | exact hM.2.2.1 _ rfl) z_cls7 hu_X6 26 (by decide) wb_661 rfl rfl dX6_findDoors_73 ?_
        refine z_iload_n C dX6_findDoors_76 rfl ?_
        refine z_zald C (by first | exact hM.1 | exact hM.2.1 _ rfl | exact hM.2.2.1 _ rfl) (by first | assumption) (by first | exact hcls | exact hclk | exact hclo | exact hcln | rfl) dX6_findDoors_77 ?_
        refine z_if_eq C 132 dX6_findDoors_78 (by decide) (fun h78 => ?_) (fun h78 => ?_)
        · have hK : ∀ t, s ≤ t → t < 2 ^ k_ci M nD → z_is (M3.2 27 t) (q_Ld M nD (k_cA M nD nK r0 g) (k_esc M nD r0) (k_u M) c0 m0 t) := fun t h1 h2 => by
            by_cases e0 : t = s
            · rw [e0]; exact hsk.iff (q_Lk.none ((hD.2.1 s hsL).no h78))
            · exact hrow t (by omega) h2
          refine z_iinc C dX6_findDoors_132 rfl rfl (by decide) ?_
          refine z_goto C 4 dX6_findDoors_135 (by decide) ?_
          exact ihO (s, M3) _ _ ⟨hM, (by dsimp only; omega), hD, hK⟩ (by dsimp only; omega) ⟨rfl, rfl, z_lgI rfl (z_dec s), trivial⟩
        · have hmet := (hD.2.1 s hsL).yes h78
          refine z_aload_n C dX6_findDoors_81 rfl ?_
          refine z_iload_n C dX6_findDoors_82 rfl ?_
          refine z_iload_n C dX6_findDoors_83 rfl ?_
          refine z_iload C dX6_findDoors_84 rfl ?_
          refine z_callVR (As := [.int _, .int _, .int _]) C (c_X6_canAdd _ _ ad _ hD.1.1.2.1 h10 (fun k hk => hD.1.1.h23 hI hk) (nK := nK) hkn hK16 _ _ hsv (k_ci M e) e (by omega) (by omega) (hD.1.1.2.2 e he hoe)) kc_X6_canAdd wb_868 ⟨by decide, by decide⟩ hM.1 rfl (hM) ⟨Nat.zero_le _, Nat.zero_le _⟩ (Nat.le_of_ble_eq_true rfl) dX6_findDoors_86 ?_
          rw [F_canAdd_eq (nK := nK) (g := g) hI hD.1.1 hs1 he hoe (hD.1.2 _ hsL)]
          refine z_ifb_eq C 126 dX6_findDoors_89 (by decide) (fun h89 => ?_) (fun h89 => ?_)
          · have hsk := hsk.iff (show _ ↔ (q_Lk M nD (k_cA M nD nK r0 g) (k_esc M nD r0) (k_u M) c0 m0 s (k_ci M e + 1)) from ⟨fun q => (q_Lk.next hI k_hA he hoe).mpr (Or.inl q), fun q => ((q_Lk.next hI k_hA he hoe).mp q).resolve_right (fun w => by rw [h89] at w; exact absurd w.2.1 (by decide))⟩)
            refine z_iinc C dX6_findDoors_126 rfl rfl (by decide) ?_
            refine z_goto C 63 dX6_findDoors_129 (by decide) ?_
            first | exact ihI (k_ci M e + 1, _) _ _ ⟨hM, (by dsimp only; omega), hD, hrow, hsk⟩ (by dsimp only; omega) ⟨rfl, rfl, rfl, z_lgI rfl (z_inc _), trivial⟩
          · refine z_aload_n C dX6_findDoors_92 rfl ?_
            refine z_get C (by first | exact hM.1 | exact hM.2.1 _ rfl | exact hM.2.2.1 _ rfl) z_cls7 hu_X6 27 (by decide) wb_662 rfl rfl dX6_findDoors_93 ?_
            refine z_iload_n C dX6_findDoors_96 rfl ?_
            refine z_aload_n C dX6_findDoors_97 rfl ?_
            refine z_get C (by first | exact hM.1 | exact hM.2.1 _ rfl | exact hM.2.2.1 _ rfl) z_cls7 hu_X6 27 (by decide) wb_662 rfl rfl dX6_findDoors_98 ?_
            refine z_iload_n C dX6_findDoors_101 rfl ?_
            refine z_zald C (by first | exact hM.1 | exact hM.2.1 _ rfl | exact hM.2.2.1 _ rfl) (by first | assumption) (by first | exact hcls | exact hclk | exact hclo | exact hcln | rfl) dX6_findDoors_102 ?_
            refine z_if_ne C 120 dX6_findDoors_103 (by decide) (fun h103 => ?_) (fun h103 => ?_)
            · refine z_iconst (v := 1) C dX6_findDoors_120 (by decide) ?_
              refine z_goto C 125 dX6_findDoors_121 (by decide) ?_
              refine z_zast C (by first | exact hM.1 | exact hM.2.1 _ rfl | exact hM.2.2.1 _ rfl) (by exact ⟨_, rfl, rfl⟩) (by first | assumption) (by first | exact hcls | exact hclk | exact hclo | exact hcln | rfl) dX6_findDoors_125 (fun H125 hU125 => ?_)
              have hM := hM.sZ hU125 rfl
              have hor := hrow (s ||| 2 ^ k_ci M e) (lt_or (by rw [← k_C_t he hoe]; exact (k_hA _ _ h89).2.2)) horL
              have hT0 : ∃ v, m_R G ad (m_sA M3 27 s v) H125 ∧ z_is v (q_Lk M nD (k_cA M nD nK r0 g) (k_esc M nD r0) (k_u M) c0 m0 s (k_ci M e + 1)) := by
                first | exact ⟨_, hM, Or.inl ⟨rfl, (q_Lk.next hI k_hA he hoe).mpr (Or.inl (hsk.yes h103))⟩⟩ | exact ⟨_, hM, Or.inl ⟨rfl, (q_Lk.next hI k_hA he hoe).mpr (Or.inr ⟨hmet, h89, hor.yes h117⟩)⟩⟩ | exact ⟨_, hM, Or.inr ⟨rfl, fun q => ((q_Lk.next hI k_hA he hoe).mp q).elim (hsk.no h103) (fun w => hor.no h117 w.2.2)⟩⟩
              obtain ⟨v, hM, hv⟩ := hT0
              have hsk : z_is ((m_sA M3 27 s v).2 27 s) (q_Lk M nD (k_cA M nD nK r0 g) (k_esc M nD r0) (k_u M) c0 m0 s (k_ci M e + 1)) := by rw [m_sA_at]; exact hv
              have hrow : ∀ t, s + 1 ≤ t → t < 2 ^ k_ci M nD → z_is ((m_sA M3 27 s v).2 27 t) (q_Ld M nD (k_cA M nD nK r0 g) (k_esc M nD r0) (k_u M) c0 m0 t) := fun t h1 h2 => by rw [m_sA_ix (by omega)]; exact hrow t h1 h2
              have hD := hD.arr (k := 27) (i := s) (v := v) (by omega)
              refine z_iinc C dX6_findDoors_126 rfl rfl (by decide) ?_
              refine z_goto C 63 dX6_findDoors_129 (by decide) ?_
              first | exact ihI (k_ci M e + 1, _) _ _ ⟨hM, (by dsimp only; omega), hD, hrow, hsk⟩ (by dsimp only; omega) ⟨rfl, rfl, rfl, z_lgI rfl (z_inc _), trivial⟩
            · refine z_aload_n C dX6_findDoors_106 rfl ?_
              refine z_get C (by first | exact hM.1 | exact hM.2.1 _ rfl | exact hM.2.2.1 _ rfl) z_cls7 hu_X6 27 (by decide) wb_662 rfl rfl dX6_findDoors_107 ?_
              refine z_iload_n C dX6_findDoors_110 rfl ?_
              refine z_iconst (v := 1) C dX6_findDoors_111 (by decide) ?_
              refine z_iload C dX6_findDoors_112 rfl ?_
              refine z_ishl C dX6_findDoors_114 ?_
              refine z_ior C dX6_findDoors_115 ?_
              rw [show (1 : Int32) <<< (nI (k_ci M e) &&& 31) = x_bit (nI (k_ci M e)) from rfl, nI_or (by omega) (by omega)]
              refine z_zald C (by first | exact hM.1 | exact hM.2.1 _ rfl | exact hM.2.2.1 _ rfl) (by first | assumption) (by first | exact hcls | exact hclk | exact hclo | exact hcln | rfl) dX6_findDoors_116 ?_
              refine z_if_eq C 124 dX6_findDoors_117 (by decide) (fun h117 => ?_) (fun h117 => ?_)
              · refine z_iconst (v := 0) C dX6_findDoors_124 (by decide) ?_
                refine z_zast C (by first | exact hM.1 | exact hM.2.1 _ rfl | exact hM.2.2.1 _ rfl) (by exact ⟨_, rfl, rfl⟩) (by first | assumption) (by first | exact hcls | exact hclk | exact hclo | exact hcln | rfl) dX6_findDoors_125 (fun H125 hU125 => ?_)
                have hM := hM.sZ hU125 rfl
                have hor := hrow (s ||| 2 ^ k_ci M e) (lt_or (by rw [← k_C_t he hoe]; exact (k_hA _ _ h89).2.2)) horL
                have hT0 : ∃ v, m_R G ad (m_sA M3 27 s v) H125 ∧ z_is v (q_Lk M nD (k_cA M nD nK r0 g) (k_esc M nD r0) (k_u M) c0 m0 s (k_ci M e + 1)) := by
                  first | exact ⟨_, hM, Or.inl ⟨rfl, (q_Lk.next hI k_hA he hoe).mpr (Or.inl (hsk.yes h103))⟩⟩ | exact ⟨_, hM, Or.inl ⟨rfl, (q_Lk.next hI k_hA he hoe).mpr (Or.inr ⟨hmet, h89, hor.yes h117⟩)⟩⟩ | exact ⟨_, hM, Or.inr ⟨rfl, fun q => ((q_Lk.next hI k_hA he hoe).mp q).elim (hsk.no h103) (fun w => hor.no h117 w.2.2)⟩⟩
                obtain ⟨v, hM, hv⟩ := hT0
                have hsk : z_is ((m_sA M3 27 s v).2 27 s) (q_Lk M nD (k_cA M nD nK r0 g) (k_esc M nD r0) (k_u M) c0 m0 s (k_ci M e + 1)) := by rw [m_sA_at]; exact hv
                have hrow : ∀ t, s + 1 ≤ t → t < 2 ^ k_ci M nD → z_is ((m_sA M3 27 s v).2 27 t) (q_Ld M nD (k_cA M nD nK r0 g) (k_esc M nD r0) (k_u M) c0 m0 t) := fun t h1 h2 => by rw [m_sA_ix (by omega)]; exact hrow t h1 h2
                have hD := hD.arr (k := 27) (i := s) (v := v) (by omega)
                refine z_iinc C dX6_findDoors_126 rfl rfl (by decide) ?_
                refine z_goto C 63 dX6_findDoors_129 (by decide) ?_
                first | exact ihI (k_ci M e + 1, _) _ _ ⟨hM, (by dsimp only; omega), hD, hrow, hsk⟩ (by dsimp only; omega) ⟨rfl, rfl, rfl, z_lgI rfl (z_inc _), trivial⟩
              · refine z_iconst (v := 1) C dX6_findDoors_120 (by decide) ?_
                refine z_goto C 125 dX6_findDoors_121 (by decide) ?_
                refine z_zast C (by first | exact hM.1 | exact hM.2.1 _ rfl | exact hM.2.2.1 _ rfl) (by exact ⟨_, rfl, rfl⟩) (by first | assumption) (by first | exact hcls | exact hclk | exact hclo | exact hcln | rfl) dX6_findDoors_125 (fun H125 hU125 => ?_)
                have hM := hM.sZ hU125 rfl
                have hor := hrow (s ||| 2 ^ k_ci M e) (lt_or (by rw [← k_C_t he hoe]; exact (k_hA _ _ h89).2.2)) horL
                have hT0 : ∃ v, m_R G ad (m_sA M3 27 s v) H125 ∧ z_is v (q_Lk M nD (k_cA M nD nK r0 g) (k_esc M nD r0) (k_u M) c0 m0 s (k_ci M e + 1)) := by
                  first | exact ⟨_, hM, Or.inl ⟨rfl, (q_Lk.next hI k_hA he hoe).mpr (Or.inl (hsk.yes h103))⟩⟩ | exact ⟨_, hM, Or.inl ⟨rfl, (q_Lk.next hI k_hA he hoe).mpr (Or.inr ⟨hmet, h89, hor.yes h117⟩)⟩⟩ | exact ⟨_, hM, Or.inr ⟨rfl, fun q => ((q_Lk.next hI k_hA he hoe).mp q).elim (hsk.no h103) (fun w => hor.no h117 w.2.2)⟩⟩
                obtain ⟨v, hM, hv⟩ := hT0
                have hsk : z_is ((m_sA M3 27 s v).2 27 s) (q_Lk M nD (k_cA M nD nK r0 g) (k_esc M nD r0) (k_u M) c0 m0 s (k_ci M e + 1)) := by rw [m_sA_at]; exact hv
                have hrow : ∀ t, s + 1 ≤ t → t < 2 ^ k_ci M nD → z_is ((m_sA M3 27 s v).2 27 t) (q_Ld M nD (k_cA M nD nK r0 g) (k_esc M nD r0) (k_u M) c0 m0 t) := fun t h1 h2 => by rw [m_sA_ix (by omega)]; exact hrow t h1 h2
                have hD := hD.arr (k := 27) (i := s) (v := v) (by omega)
                refine z_iinc C dX6_findDoors_126 rfl rfl (by decide) ?_
                refine z_goto C 63 dX6_findDoors_129 (by decide) ?_
                first | exact ihI (k_ci M e + 1, _) _ _ ⟨hM, (by dsimp only; omega), hD, hrow, hsk⟩ (by dsimp only; omega) ⟨rfl, rfl, rfl, z_lgI rfl (z_inc _), trivial⟩
    · refine z_aload_n C dX6_findDoors_22 rfl ?_
      refine z_iload_n C dX6_findDoors_23 rfl ?_
      refine z_callVR (As := [.int _]) C (c_X6_escapes _ _ ad _ _ hsv) kc_X6_escapes wb_880 ⟨by decide, by decide⟩ hM.1 rfl (hM) ⟨Nat.zero_le _, Nat.zero_le _⟩ (Nat.le_of_ble_eq_true rfl) dX6_findDoors_24 ?_
      rw [k_esc_eq hD.1.1 hs1 (hD.1.2 s hsL)]
      refine z_ifb_eq C 58 dX6_findDoors_27 (by decide) (fun h27 => ?_) (fun h27 => ?_)
      · refine z_iconst (v := 0) C dX6_findDoors_58 (by decide) ?_
        refine z_zast C (by first | exact hM.1 | exact hM.2.1 _ rfl | exact hM.2.2.1 _ rfl) (by exact ⟨_, rfl, rfl⟩) (by first | assumption) (by first | exact hcls | exact hclk | exact hclo | exact hcln | rfl) dX6_findDoors_59 (fun H59 hU59 => ?_)
        have hM := hM.sZ hU59 rfl
        have hmet := hD.2.1 s hsL
        have hrow2 : ∀ v t, s + 1 ≤ t → t < 2 ^ k_ci M nD → z_is ((m_sA M2 27 s v).2 27 t) (q_Ld M nD (k_cA M nD nK r0 g) (k_esc M nD r0) (k_u M) c0 m0 t) := fun v t h1 h2 => by rw [m_sA_ix (by omega)]; exact hrow t h1 h2
        have hT0 : ∃ v, m_R G ad (m_sA M2 27 s v) H59 ∧ z_is v (q_T M nD (k_cA M nD nK r0 g) (k_esc M nD r0) (k_u M) c0 m0 s) := by
          first | exact ⟨_, hM, Or.inl ⟨rfl, hmet.yes h19, h27, ((nI_inj (Nat.lt_trans (q_cost_le hI (t := s)) (by decide)) (Nat.lt_trans hc0 (by decide))).mp h39), ((nI_inj (Nat.lt_of_le_of_lt (q_size_le (M := M) (nD := nD) (t := s)) (by omega)) (by omega)).mp h51)⟩⟩ | exact ⟨_, hM, Or.inr ⟨rfl, fun q => h51 (congrArg nI q.2.2.2)⟩⟩ | exact ⟨_, hM, Or.inr ⟨rfl, fun q => h39 (congrArg nI q.2.2.1)⟩⟩ | exact ⟨_, hM, Or.inr ⟨rfl, fun q => absurd q.2.1 (by rw [h27]; decide)⟩⟩ | exact ⟨_, hM, Or.inr ⟨rfl, fun q => hmet.no h19 q.1⟩⟩
        obtain ⟨v, hM, hv⟩ := hT0
        have hT0 : z_is ((m_sA M2 27 s v).2 27 s) (q_Lk M nD (k_cA M nD nK r0 g) (k_esc M nD r0) (k_u M) c0 m0 s 0) := by rw [m_sA_at]; exact hv.iff q_Lk.zero
        refine z_iconst (v := 0) C dX6_findDoors_60 (by decide) ?_
        refine z_istore C dX6_findDoors_61 (by decide) ?_
        refine z_loopS (fun q : Nat × m_S => k_ci M nD - q.1) (fun q H1 => m_R G ad q.2 H1 ∧ q.1 ≤ k_ci M nD ∧ k_D M nD nK r0 g c0 m0 q.2 ∧ (∀ t, s + 1 ≤ t → t < 2 ^ k_ci M nD → z_is (q.2.2 27 t) (q_Ld M nD (k_cA M nD nK r0 g) (k_esc M nD r0) (k_u M) c0 m0 t)) ∧ z_is (q.2.2 27 s) (q_Lk M nD (k_cA M nD nK r0 g) (k_esc M nD r0) (k_u M) c0 m0 s q.1)) (fun q => [(0, .ref (ad 0)), (1, .int g), (3, .int (nI s)), (4, .int (nI q.1))]) (0, m_sA M2 27 s v) ⟨hM, Nat.zero_le _, hD.arr (by omega), hrow2 v, hT0⟩ ⟨rfl, rfl, rfl, rfl, trivial⟩ (fun q H2 hI2 ihI => ?_)
        obtain ⟨k, M3⟩ := q
        obtain ⟨hM, hk, hD, hrow, hsk⟩ := hI2
        dsimp only at hM hk hD hrow hsk ihI ⊢
        refine z_iload C dX6_findDoors_63 rfl ?_
        refine z_aload_n C dX6_findDoors_65 rfl ?_
        refine z_get C (by first | exact hM.1 | exact hM.2.1 _ rfl | exact hM.2.2.1 _ rfl) z_cls7 hu_X6 22 (by decide) wb_657 rfl rfl dX6_findDoors_66 ?_
        refine z_icmp_ge C 132 dX6_findDoors_69 (by decide) (fun h69 => ?_) (fun h69 => ?_)
        · have hend := z_ge hD.1.1.2.1 (by omega) hk h69
          rw [hend] at hsk
          have hK : ∀ t, s ≤ t → t < 2 ^ k_ci M nD → z_is (M3.2 27 t) (q_Ld M nD (k_cA M nD nK r0 g) (k_esc M nD r0) (k_u M) c0 m0 t) := fun t h1 h2 => by
            by_cases e0 : t = s
            · rw [e0]; exact hsk.iff (q_Lk.full k_hA)
            · exact hrow t (by omega) h2
          refine z_iinc C dX6_findDoors_132 rfl rfl (by decide) ?_
          refine z_goto C 4 dX6_findDoors_135 (by decide) ?_
          exact ihO (s, M3) _ _ ⟨hM, (by dsimp only; omega), hD, hK⟩ (by dsimp only; omega) ⟨rfl, rfl, z_lgI rfl (z_dec s), trivial⟩
        · have hltk := z_lt hD.1.1.2.1 (by omega) hk h69
          obtain ⟨e, he, hoe, rfl⟩ := k_ci_ex hltk
          have hcie := k_ci_lt he hoe
          have hkv : vp_in (nI (k_ci M e)) 10 := vp_in_nI (by omega) (by omega)
          have hclk : (nI (k_ci M e)).toNatClampNeg = k_ci M e := nI_clamp (by omega)
          have horL := k_or_lt hI hsL he hoe
          have hov : vp_in (nI (s ||| 2 ^ k_ci M e)) 1024 := vp_in_nI (by omega) (by omega)
          have hclo : (nI (s ||| 2 ^ k_ci M e)).toNatClampNeg = s ||| 2 ^ k_ci M e := nI_clamp (by omega)
          have hkn : M3.1 9 = nI nK := (hD.1.1.1.1 9 (by decide)).trans hN.2.2.1.1
          refine z_aload_n C dX6_findDoors_72 rfl ?_
          refine z_get C (by first | exact hM.1 | exact hM.2.1 _ rfl | exact hM.2.2.1 _ rfl) z_cls7 hu_X6 26 (by decide) wb_661 rfl rfl dX6_findDoors_73 ?_
          refine z_iload_n C dX6_findDoors_76 rfl ?_
          refine z_zald C (by first | exact hM.1 | exact hM.2.1 _ rfl | exact hM.2.2.1 _ rfl) (by first | assumption) (by first | exact hcls | exact hclk | exact hclo | exact hcln | rfl) dX6_findDoors_77 ?_
          refine z_if_eq C 132 dX6_findDoors_78 (by decide) (fun h78 => ?_) (fun h78 => ?_)
          · have hK : ∀ t, s ≤ t → t < 2 ^ k_ci M nD → z_is (M3.2 27 t) (q_Ld M nD (k_cA M nD nK r0 g) (k_esc M nD r0) (k_u M) c0 m0 t) := fun t h1 h2 => by
              by_cases e0 : t = s
              · rw [e0]; exact hsk.iff (q_Lk.none ((hD.2.1 s hsL).no h78))
              · exact hrow t (by omega) h2
            refine z_iinc C dX6_findDoors_132 rfl rfl (by decide) ?_
            refine z_goto C 4 dX6_findDoors_135 (by decide) ?_
            exact ihO (s, M3) _ _ ⟨hM, (by dsimp only; omega), hD, hK⟩ (by dsimp only; omega) ⟨rfl, rfl, z_lgI rfl (z_dec s), trivial⟩
          · have hmet := (hD.2.1 s hsL).yes h78
            refine z_aload_n C dX6_findDoors_81 rfl ?_
            refine z_iload_n C dX6_findDoors_82 rfl ?_
            refine z_iload_n C dX6_findDoors_83 rfl ?_
            refine z_iload C dX6_findDoors_84 rfl ?_
            refine z_callVR (As := [.int _, .int _, .int _]) C (c_X6_canAdd _ _ ad _ hD.1.1.2.1 h10 (fun k hk => hD.1.1.h23 hI hk) (nK := nK) hkn hK16 _ _ hsv (k_ci M e) e (by omega) (by omega) (hD.1.1.2.2 e he hoe)) kc_X6_canAdd wb_868 ⟨by decide, by decide⟩ hM.1 rfl (hM) ⟨Nat.zero_le _, Nat.zero_le _⟩ (Nat.le_of_ble_eq_true rfl) dX6_findDoors_86 ?_
            rw [F_canAdd_eq (nK := nK) (g := g) hI hD.1.1 hs1 he hoe (hD.1.2 _ hsL)]
            refine z_ifb_eq C 126 dX6_findDoors_89 (by decide) (fun h89 => ?_) (fun h89 => ?_)
            · have hsk := hsk.iff (show _ ↔ (q_Lk M nD (k_cA M nD nK r0 g) (k_esc M nD r0) (k_u M) c0 m0 s (k_ci M e + 1)) from ⟨fun q => (q_Lk.next hI k_hA he hoe).mpr (Or.inl q), fun q => ((q_Lk.next hI k_hA he hoe).mp q).resolve_right (fun w => by rw [h89] at w; exact absurd w.2.1 (by decide))⟩)
              refine z_iinc C dX6_findDoors_126 rfl rfl (by decide) ?_
              refine z_goto C 63 dX6_findDoors_129 (by decide) ?_
              first | exact ihI (k_ci M e + 1, _) _ _ ⟨hM, (by dsimp only; omega), hD, hrow, hsk⟩ (by dsimp only; omega) ⟨rfl, rfl, rfl, z_lgI rfl (z_inc _), trivial⟩
            · refine z_aload_n C dX6_findDoors_92 rfl ?_
              refine z_get C (by first | exact hM.1 | exact hM.2.1 _ rfl | exact hM.2.2.1 _ rfl) z_cls7 hu_X6 27 (by decide) wb_662 rfl rfl dX6_findDoors_93 ?_
              refine z_iload_n C dX6_findDoors_96 rfl ?_
              refine z_aload_n C dX6_findDoors_97 rfl ?_
              refine z_get C (by first | exact hM.1 | exact hM.2.1 _ rfl | exact hM.2.2.1 _ rfl) z_cls7 hu_X6 27 (by decide) wb_662 rfl rfl dX6_findDoors_98 ?_
              refine z_iload_n C dX6_findDoors_101 rfl ?_
              refine z_zald C (by first | exact hM.1 | exact hM.2.1 _ rfl | exact hM.2.2.1 _ rfl) (by first | assumption) (by first | exact hcls | exact hclk | exact hclo | exact hcln | rfl) dX6_findDoors_102 ?_
              refine z_if_ne C 120 dX6_findDoors_103 (by decide) (fun h103 => ?_) (fun h103 => ?_)
              · refine z_iconst (v := 1) C dX6_findDoors_120 (by decide) ?_
                refine z_goto C 125 dX6_findDoors_121 (by decide) ?_
                refine z_zast C (by first | exact hM.1 | exact hM.2.1 _ rfl | exact hM.2.2.1 _ rfl) (by exact ⟨_, rfl, rfl⟩) (by first | assumption) (by first | exact hcls | exact hclk | exact hclo | exact hcln | rfl) dX6_findDoors_125 (fun H125 hU125 => ?_)
                have hM := hM.sZ hU125 rfl
                have hor := hrow (s ||| 2 ^ k_ci M e) (lt_or (by rw [← k_C_t he hoe]; exact (k_hA _ _ h89).2.2)) horL
                have hT0 : ∃ v, m_R G ad (m_sA M3 27 s v) H125 ∧ z_is v (q_Lk M nD (k_cA M nD nK r0 g) (k_esc M nD r0) (k_u M) c0 m0 s (k_ci M e + 1)) := by
                  first | exact ⟨_, hM, Or.inl ⟨rfl, (q_Lk.next hI k_hA he hoe).mpr (Or.inl (hsk.yes h103))⟩⟩ | exact ⟨_, hM, Or.inl ⟨rfl, (q_Lk.next hI k_hA he hoe).mpr (Or.inr ⟨hmet, h89, hor.yes h117⟩)⟩⟩ | exact ⟨_, hM, Or.inr ⟨rfl, fun q => ((q_Lk.next hI k_hA he hoe).mp q).elim (hsk.no h103) (fun w => hor.no h117 w.2.2)⟩⟩
                obtain ⟨v, hM, hv⟩ := hT0
                have hsk : z_is ((m_sA M3 27 s v).2 27 s) (q_Lk M nD (k_cA M nD nK r0 g) (k_esc M nD r0) (k_u M) c0 m0 s (k_ci M e + 1)) := by rw [m_sA_at]; exact hv
                have hrow : ∀ t, s + 1 ≤ t → t < 2 ^ k_ci M nD → z_is ((m_sA M3 27 s v).2 27 t) (q_Ld M nD (k_cA M nD nK r0 g) (k_esc M nD r0) (k_u M) c0 m0 t) := fun t h1 h2 => by rw [m_sA_ix (by omega)]; exact hrow t h1 h2
                have hD := hD.arr (k := 27) (i := s) (v := v) (by omega)
                refine z_iinc C dX6_findDoors_126 rfl rfl (by decide) ?_
                refine z_goto C 63 dX6_findDoors_129 (by decide) ?_
                first | exact ihI (k_ci M e + 1, _) _ _ ⟨hM, (by dsimp only; omega), hD, hrow, hsk⟩ (by dsimp only; omega) ⟨rfl, rfl, rfl, z_lgI rfl (z_inc _), trivial⟩
              · refine z_aload_n C dX6_findDoors_106 rfl ?_
                refine z_get C (by first | exact hM.1 | exact hM.2.1 _ rfl | exact hM.2.2.1 _ rfl) z_cls7 hu_X6 27 (by decide) wb_662 rfl rfl dX6_findDoors_107 ?_
                refine z_iload_n C dX6_findDoors_110 rfl ?_
                refine z_iconst (v := 1) C dX6_findDoors_111 (by decide) ?_
                refine z_iload C dX6_findDoors_112 rfl ?_
                refine z_ishl C dX6_findDoors_114 ?_
                refine z_ior C dX6_findDoors_115 ?_
                rw [show (1 : Int32) <<< (nI (k_ci M e) &&& 31) = x_bit (nI (k_ci M e)) from rfl, nI_or (by omega) (by omega)]
                refine z_zald C (by first | exact hM.1 | exact hM.2.1 _ rfl | exact hM.2.2.1 _ rfl) (by first | assumption) (by first | exact hcls | exact hclk | exact hclo | exact hcln | rfl) dX6_findDoors_116 ?_
                refine z_if_eq C 124 dX6_findDoors_117 (by decide) (fun h117 => ?_) (fun h117 => ?_)
                · refine z_iconst (v := 0) C dX6_findDoors_124 (by decide) ?_
                  refine z_zast C (by first | exact hM.1 | exact hM.2.1 _ rfl | exact hM.2.2.1 _ rfl) (by exact ⟨_, rfl, rfl⟩) (by first | assumption) (by first | exact hcls | exact hclk | exact hclo | exact hcln | rfl) dX6_findDoors_125 (fun H125 hU125 => ?_)
                  have hM := hM.sZ hU125 rfl
                  have hor := hrow (s ||| 2 ^ k_ci M e) (lt_or (by rw [← k_C_t he hoe]; exact (k_hA _ _ h89).2.2)) horL
                  have hT0 : ∃ v, m_R G ad (m_sA M3 27 s v) H125 ∧ z_is v (q_Lk M nD (k_cA M nD nK r0 g) (k_esc M nD r0) (k_u M) c0 m0 s (k_ci M e + 1)) := by
                    first | exact ⟨_, hM, Or.inl ⟨rfl, (q_Lk.next hI k_hA he hoe).mpr (Or.inl (hsk.yes h103))⟩⟩ | exact ⟨_, hM, Or.inl ⟨rfl, (q_Lk.next hI k_hA he hoe).mpr (Or.inr ⟨hmet, h89, hor.yes h117⟩)⟩⟩ | exact ⟨_, hM, Or.inr ⟨rfl, fun q => ((q_Lk.next hI k_hA he hoe).mp q).elim (hsk.no h103) (fun w => hor.no h117 w.2.2)⟩⟩
                  obtain ⟨v, hM, hv⟩ := hT0
                  have hsk : z_is ((m_sA M3 27 s v).2 27 s) (q_Lk M nD (k_cA M nD nK r0 g) (k_esc M nD r0) (k_u M) c0 m0 s (k_ci M e + 1)) := by rw [m_sA_at]; exact hv
                  have hrow : ∀ t, s + 1 ≤ t → t < 2 ^ k_ci M nD → z_is ((m_sA M3 27 s v).2 27 t) (q_Ld M nD (k_cA M nD nK r0 g) (k_esc M nD r0) (k_u M) c0 m0 t) := fun t h1 h2 => by rw [m_sA_ix (by omega)]; exact hrow t h1 h2
                  have hD := hD.arr (k := 27) (i := s) (v := v) (by omega)
                  refine z_iinc C dX6_findDoors_126 rfl rfl (by decide) ?_
                  refine z_goto C 63 dX6_findDoors_129 (by decide) ?_
                  first | exact ihI (k_ci M e + 1, _) _ _ ⟨hM, (by dsimp only; omega), hD, hrow, hsk⟩ (by dsimp only; omega) ⟨rfl, rfl, rfl, z_lgI rfl (z_inc _), trivial⟩
                · refine z_iconst (v := 1) C dX6_findDoors_120 (by decide) ?_
                  refine z_goto C 125 dX6_findDoors_121 (by decide) ?_
                  refine z_zast C (by first | exact hM.1 | exact hM.2.1 _ rfl | exact hM.2.2.1 _ rfl) (by exact ⟨_, rfl, rfl⟩) (by first | assumption) (by first | exact hcls | exact hclk | exact hclo | exact hcln | rfl) dX6_findDoors_125 (fun H125 hU125 => ?_)
                  have hM := hM.sZ hU125 rfl
                  have hor := hrow (s ||| 2 ^ k_ci M e) (lt_or (by rw [← k_C_t he hoe]; exact (k_hA _ _ h89).2.2)) horL
                  have hT0 : ∃ v, m_R G ad (m_sA M3 27 s v) H125 ∧ z_is v (q_Lk M nD (k_cA M nD nK r0 g) (k_esc M nD r0) (k_u M) c0 m0 s (k_ci M e + 1)) := by
                    first | exact ⟨_, hM, Or.inl ⟨rfl, (q_Lk.next hI k_hA he hoe).mpr (Or.inl (hsk.yes h103))⟩⟩ | exact ⟨_, hM, Or.inl ⟨rfl, (q_Lk.next hI k_hA he hoe).mpr (Or.inr ⟨hmet, h89, hor.yes h117⟩)⟩⟩ | exact ⟨_, hM, Or.inr ⟨rfl, fun q => ((q_Lk.next hI k_hA he hoe).mp q).elim (hsk.no h103) (fun w => hor.no h117 w.2.2)⟩⟩
                  obtain ⟨v, hM, hv⟩ := hT0
                  have hsk : z_is ((m_sA M3 27 s v).2 27 s) (q_Lk M nD (k_cA M nD nK r0 g) (k_esc M nD r0) (k_u M) c0 m0 s (k_ci M e + 1)) := by rw [m_sA_at]; exact hv
                  have hrow : ∀ t, s + 1 ≤ t → t < 2 ^ k_ci M nD → z_is ((m_sA M3 27 s v).2 27 t) (q_Ld M nD (k_cA M nD nK r0 g) (k_esc M nD r0) (k_u M) c0 m0 t) := fun t h1 h2 => by rw [m_sA_ix (by omega)]; exact hrow t h1 h2
                  have hD := hD.arr (k := 27) (i := s) (v := v) (by omega)
                  refine z_iinc C dX6_findDoors_126 rfl rfl (by decide) ?_
                  refine z_goto C 63 dX6_findDoors_129 (by decide) ?_
                  first | exact ihI (k_ci M e + 1, _) _ _ ⟨hM, (by dsimp only; omega), hD, hrow, hsk⟩ (by dsimp only; omega) ⟨rfl, rfl, rfl, z_lgI rfl (z_inc _), trivial⟩
      · refine z_aload_n C dX6_findDoors_30 rfl ?_
        refine z_iload_n C dX6_findDoors_31 rfl ?_
        refine z_callVR (As := [.int _]) C (c_X6_costOf _ _ ad _ hD.1.1.2.1 h10 (fun k hk => hD.1.1.h23 hI hk) _) kc_X6_costOf wb_872 ⟨by decide, by decide⟩ hM.1 rfl (hM) ⟨Nat.zero_le _, Nat.zero_le _⟩ (Nat.le_of_ble_eq_true rfl) dX6_findDoors_32 ?_
        rw [F_cost_eq hI hD.1.1 (by omega)]
        refine z_aload_n C dX6_findDoors_35 rfl ?_
        refine z_get C (by first | exact hM.1 | exact hM.2.1 _ rfl | exact hM.2.2.1 _ rfl) z_cls7 hu_X6 28 (by decide) wb_663 rfl rfl dX6_findDoors_36 ?_
        rw [hD.2.2.1]
        refine z_icmp_ne C 58 dX6_findDoors_39 (by decide) (fun h39 => ?_) (fun h39 => ?_)
        · refine z_iconst (v := 0) C dX6_findDoors_58 (by decide) ?_
          refine z_zast C (by first | exact hM.1 | exact hM.2.1 _ rfl | exact hM.2.2.1 _ rfl) (by exact ⟨_, rfl, rfl⟩) (by first | assumption) (by first | exact hcls | exact hclk | exact hclo | exact hcln | rfl) dX6_findDoors_59 (fun H59 hU59 => ?_)
          have hM := hM.sZ hU59 rfl
          have hmet := hD.2.1 s hsL
          have hrow2 : ∀ v t, s + 1 ≤ t → t < 2 ^ k_ci M nD → z_is ((m_sA M2 27 s v).2 27 t) (q_Ld M nD (k_cA M nD nK r0 g) (k_esc M nD r0) (k_u M) c0 m0 t) := fun v t h1 h2 => by rw [m_sA_ix (by omega)]; exact hrow t h1 h2
          have hT0 : ∃ v, m_R G ad (m_sA M2 27 s v) H59 ∧ z_is v (q_T M nD (k_cA M nD nK r0 g) (k_esc M nD r0) (k_u M) c0 m0 s) := by
            first | exact ⟨_, hM, Or.inl ⟨rfl, hmet.yes h19, h27, ((nI_inj (Nat.lt_trans (q_cost_le hI (t := s)) (by decide)) (Nat.lt_trans hc0 (by decide))).mp h39), ((nI_inj (Nat.lt_of_le_of_lt (q_size_le (M := M) (nD := nD) (t := s)) (by omega)) (by omega)).mp h51)⟩⟩ | exact ⟨_, hM, Or.inr ⟨rfl, fun q => h51 (congrArg nI q.2.2.2)⟩⟩ | exact ⟨_, hM, Or.inr ⟨rfl, fun q => h39 (congrArg nI q.2.2.1)⟩⟩ | exact ⟨_, hM, Or.inr ⟨rfl, fun q => absurd q.2.1 (by rw [h27]; decide)⟩⟩ | exact ⟨_, hM, Or.inr ⟨rfl, fun q => hmet.no h19 q.1⟩⟩
          obtain ⟨v, hM, hv⟩ := hT0
          have hT0 : z_is ((m_sA M2 27 s v).2 27 s) (q_Lk M nD (k_cA M nD nK r0 g) (k_esc M nD r0) (k_u M) c0 m0 s 0) := by rw [m_sA_at]; exact hv.iff q_Lk.zero
          refine z_iconst (v := 0) C dX6_findDoors_60 (by decide) ?_
          refine z_istore C dX6_findDoors_61 (by decide) ?_
          refine z_loopS (fun q : Nat × m_S => k_ci M nD - q.1) (fun q H1 => m_R G ad q.2 H1 ∧ q.1 ≤ k_ci M nD ∧ k_D M nD nK r0 g c0 m0 q.2 ∧ (∀ t, s + 1 ≤ t → t < 2 ^ k_ci M nD → z_is (q.2.2 27 t) (q_Ld M nD (k_cA M nD nK r0 g) (k_esc M nD r0) (k_u M) c0 m0 t)) ∧ z_is (q.2.2 27 s) (q_Lk M nD (k_cA M nD nK r0 g) (k_esc M nD r0) (k_u M) c0 m0 s q.1)) (fun q => [(0, .ref (ad 0)), (1, .int g), (3, .int (nI s)), (4, .int (nI q.1))]) (0, m_sA M2 27 s v) ⟨hM, Nat.zero_le _, hD.arr (by omega), hrow2 v, hT0⟩ ⟨rfl, rfl, rfl, rfl, trivial⟩ (fun q H2 hI2 ihI => ?_)
          obtain ⟨k, M3⟩ := q
          obtain ⟨hM, hk, hD, hrow, hsk⟩ := hI2
          dsimp only at hM hk hD hrow hsk ihI ⊢
          refine z_iload C dX6_findDoors_63 rfl ?_
          refine z_aload_n C dX6_findDoors_65 rfl ?_
          refine z_get C (by first | exact hM.1 | exact hM.2.1 _ rfl | exact hM.2.2.1 _ rfl) z_cls7 hu_X6 22 (by decide) wb_657 rfl rfl dX6_findDoors_66 ?_
          refine z_icmp_ge C 132 dX6_findDoors_69 (by decide) (fun h69 => ?_) (fun h69 => ?_)
          · have hend := z_ge hD.1.1.2.1 (by omega) hk h69
            rw [hend] at hsk
            have hK : ∀ t, s ≤ t → t < 2 ^ k_ci M nD → z_is (M3.2 27 t) (q_Ld M nD (k_cA M nD nK r0 g) (k_esc M nD r0) (k_u M) c0 m0 t) := fun t h1 h2 => by
              by_cases e0 : t = s
              · rw [e0]; exact hsk.iff (q_Lk.full k_hA)
              · exact hrow t (by omega) h2
            refine z_iinc C dX6_findDoors_132 rfl rfl (by decide) ?_
            refine z_goto C 4 dX6_findDoors_135 (by decide) ?_
            exact ihO (s, M3) _ _ ⟨hM, (by dsimp only; omega), hD, hK⟩ (by dsimp only; omega) ⟨rfl, rfl, z_lgI rfl (z_dec s), trivial⟩
          · have hltk := z_lt hD.1.1.2.1 (by omega) hk h69
            obtain ⟨e, he, hoe, rfl⟩ := k_ci_ex hltk
            have hcie := k_ci_lt he hoe
            have hkv : vp_in (nI (k_ci M e)) 10 := vp_in_nI (by omega) (by omega)
            have hclk : (nI (k_ci M e)).toNatClampNeg = k_ci M e := nI_clamp (by omega)
            have horL := k_or_lt hI hsL he hoe
            have hov : vp_in (nI (s ||| 2 ^ k_ci M e)) 1024 := vp_in_nI (by omega) (by omega)
            have hclo : (nI (s ||| 2 ^ k_ci M e)).toNatClampNeg = s ||| 2 ^ k_ci M e := nI_clamp (by omega)
            have hkn : M3.1 9 = nI nK := (hD.1.1.1.1 9 (by decide)).trans hN.2.2.1.1
            refine z_aload_n C dX6_findDoors_72 rfl ?_
            refine z_get C (by first | exact hM.1 | exact hM.2.1 _ rfl | exact hM.2.2.1 _ rfl) z_cls7 hu_X6 26 (by decide) wb_661 rfl rfl dX6_findDoors_73 ?_
            refine z_iload_n C dX6_findDoors_76 rfl ?_
            refine z_zald C (by first | exact hM.1 | exact hM.2.1 _ rfl | exact hM.2.2.1 _ rfl) (by first | assumption) (by first | exact hcls | exact hclk | exact hclo | exact hcln | rfl) dX6_findDoors_77 ?_
            refine z_if_eq C 132 dX6_findDoors_78 (by decide) (fun h78 => ?_) (fun h78 => ?_)
            · have hK : ∀ t, s ≤ t → t < 2 ^ k_ci M nD → z_is (M3.2 27 t) (q_Ld M nD (k_cA M nD nK r0 g) (k_esc M nD r0) (k_u M) c0 m0 t) := fun t h1 h2 => by
                by_cases e0 : t = s
                · rw [e0]; exact hsk.iff (q_Lk.none ((hD.2.1 s hsL).no h78))
                · exact hrow t (by omega) h2
              refine z_iinc C dX6_findDoors_132 rfl rfl (by decide) ?_
              refine z_goto C 4 dX6_findDoors_135 (by decide) ?_
              exact ihO (s, M3) _ _ ⟨hM, (by dsimp only; omega), hD, hK⟩ (by dsimp only; omega) ⟨rfl, rfl, z_lgI rfl (z_dec s), trivial⟩
            · have hmet := (hD.2.1 s hsL).yes h78
              refine z_aload_n C dX6_findDoors_81 rfl ?_
              refine z_iload_n C dX6_findDoors_82 rfl ?_
              refine z_iload_n C dX6_findDoors_83 rfl ?_
              refine z_iload C dX6_findDoors_84 rfl ?_
              refine z_callVR (As := [.int _, .int _, .int _]) C (c_X6_canAdd _ _ ad _ hD.1.1.2.1 h10 (fun k hk => hD.1.1.h23 hI hk) (nK := nK) hkn hK16 _ _ hsv (k_ci M e) e (by omega) (by omega) (hD.1.1.2.2 e he hoe)) kc_X6_canAdd wb_868 ⟨by decide, by decide⟩ hM.1 rfl (hM) ⟨Nat.zero_le _, Nat.zero_le _⟩ (Nat.le_of_ble_eq_true rfl) dX6_findDoors_86 ?_
              rw [F_canAdd_eq (nK := nK) (g := g) hI hD.1.1 hs1 he hoe (hD.1.2 _ hsL)]
              refine z_ifb_eq C 126 dX6_findDoors_89 (by decide) (fun h89 => ?_) (fun h89 => ?_)
              · have hsk := hsk.iff (show _ ↔ (q_Lk M nD (k_cA M nD nK r0 g) (k_esc M nD r0) (k_u M) c0 m0 s (k_ci M e + 1)) from ⟨fun q => (q_Lk.next hI k_hA he hoe).mpr (Or.inl q), fun q => ((q_Lk.next hI k_hA he hoe).mp q).resolve_right (fun w => by rw [h89] at w; exact absurd w.2.1 (by decide))⟩)
                refine z_iinc C dX6_findDoors_126 rfl rfl (by decide) ?_
                refine z_goto C 63 dX6_findDoors_129 (by decide) ?_
                first | exact ihI (k_ci M e + 1, _) _ _ ⟨hM, (by dsimp only; omega), hD, hrow, hsk⟩ (by dsimp only; omega) ⟨rfl, rfl, rfl, z_lgI rfl (z_inc _), trivial⟩
              · refine z_aload_n C dX6_findDoors_92 rfl ?_
                refine z_get C (by first | exact hM.1 | exact hM.2.1 _ rfl | exact hM.2.2.1 _ rfl) z_cls7 hu_X6 27 (by decide) wb_662 rfl rfl dX6_findDoors_93 ?_
                refine z_iload_n C dX6_findDoors_96 rfl ?_
                refine z_aload_n C dX6_findDoors_97 rfl ?_
                refine z_get C (by first | exact hM.1 | exact hM.2.1 _ rfl | exact hM.2.2.1 _ rfl) z_cls7 hu_X6 27 (by decide) wb_662 rfl rfl dX6_findDoors_98 ?_
                refine z_iload_n C dX6_findDoors_101 rfl ?_
                refine z_zald C (by first | exact hM.1 | exact hM.2.1 _ rfl | exact hM.2.2.1 _ rfl) (by first | assumption) (by first | exact hcls | exact hclk | exact hclo | exact hcln | rfl) dX6_findDoors_102 ?_
                refine z_if_ne C 120 dX6_findDoors_103 (by decide) (fun h103 => ?_) (fun h103 => ?_)
                · refine z_iconst (v := 1) C dX6_findDoors_120 (by decide) ?_
                  refine z_goto C 125 dX6_findDoors_121 (by decide) ?_
                  refine z_zast C (by first | exact hM.1 | exact hM.2.1 _ rfl | exact hM.2.2.1 _ rfl) (by exact ⟨_, rfl, rfl⟩) (by first | assumption) (by first | exact hcls | exact hclk | exact hclo | exact hcln | rfl) dX6_findDoors_125 (fun H125 hU125 => ?_)
                  have hM := hM.sZ hU125 rfl
                  have hor := hrow (s ||| 2 ^ k_ci M e) (lt_or (by rw [← k_C_t he hoe]; exact (k_hA _ _ h89).2.2)) horL
                  have hT0 : ∃ v, m_R G ad (m_sA M3 27 s v) H125 ∧ z_is v (q_Lk M nD (k_cA M nD nK r0 g) (k_esc M nD r0) (k_u M) c0 m0 s (k_ci M e + 1)) := by
                    first | exact ⟨_, hM, Or.inl ⟨rfl, (q_Lk.next hI k_hA he hoe).mpr (Or.inl (hsk.yes h103))⟩⟩ | exact ⟨_, hM, Or.inl ⟨rfl, (q_Lk.next hI k_hA he hoe).mpr (Or.inr ⟨hmet, h89, hor.yes h117⟩)⟩⟩ | exact ⟨_, hM, Or.inr ⟨rfl, fun q => ((q_Lk.next hI k_hA he hoe).mp q).elim (hsk.no h103) (fun w => hor.no h117 w.2.2)⟩⟩
                  obtain ⟨v, hM, hv⟩ := hT0
                  have hsk : z_is ((m_sA M3 27 s v).2 27 s) (q_Lk M nD (k_cA M nD nK r0 g) (k_esc M nD r0) (k_u M) c0 m0 s (k_ci M e + 1)) := by rw [m_sA_at]; exact hv
                  have hrow : ∀ t, s + 1 ≤ t → t < 2 ^ k_ci M nD → z_is ((m_sA M3 27 s v).2 27 t) (q_Ld M nD (k_cA M nD nK r0 g) (k_esc M nD r0) (k_u M) c0 m0 t) := fun t h1 h2 => by rw [m_sA_ix (by omega)]; exact hrow t h1 h2
                  have hD := hD.arr (k := 27) (i := s) (v := v) (by omega)
                  refine z_iinc C dX6_findDoors_126 rfl rfl (by decide) ?_
                  refine z_goto C 63 dX6_findDoors_129 (by decide) ?_
                  first | exact ihI (k_ci M e + 1, _) _ _ ⟨hM, (by dsimp only; omega), hD, hrow, hsk⟩ (by dsimp only; omega) ⟨rfl, rfl, rfl, z_lgI rfl (z_inc _), trivial⟩
                · refine z_aload_n C dX6_findDoors_106 rfl ?_
                  refine z_get C (by first | exact hM.1 | exact hM.2.1 _ rfl | exact hM.2.2.1 _ rfl) z_cls7 hu_X6 27 (by decide) wb_662 rfl rfl dX6_findDoors_107 ?_
                  refine z_iload_n C dX6_findDoors_110 rfl ?_
                  refine z_iconst (v := 1) C dX6_findDoors_111 (by decide) ?_
                  refine z_iload C dX6_findDoors_112 rfl ?_
                  refine z_ishl C dX6_findDoors_114 ?_
                  refine z_ior C dX6_findDoors_115 ?_
                  rw [show (1 : Int32) <<< (nI (k_ci M e) &&& 31) = x_bit (nI (k_ci M e)) from rfl, nI_or (by omega) (by omega)]
                  refine z_zald C (by first | exact hM.1 | exact hM.2.1 _ rfl | exact hM.2.2.1 _ rfl) (by first | assumption) (by first | exact hcls | exact hclk | exact hclo | exact hcln | rfl) dX6_findDoors_116 ?_
                  refine z_if_eq C 124 dX6_findDoors_117 (by decide) (fun h117 => ?_) (fun h117 => ?_)
                  · refine z_iconst (v := 0) C dX6_findDoors_124 (by decide) ?_
                    refine z_zast C (by first | exact hM.1 | exact hM.2.1 _ rfl | exact hM.2.2.1 _ rfl) (by exact ⟨_, rfl, rfl⟩) (by first | assumption) (by first | exact hcls | exact hclk | exact hclo | exact hcln | rfl) dX6_findDoors_125 (fun H125 hU125 => ?_)
                    have hM := hM.sZ hU125 rfl
                    have hor := hrow (s ||| 2 ^ k_ci M e) (lt_or (by rw [← k_C_t he hoe]; exact (k_hA _ _ h89).2.2)) horL
                    have hT0 : ∃ v, m_R G ad (m_sA M3 27 s v) H125 ∧ z_is v (q_Lk M nD (k_cA M nD nK r0 g) (k_esc M nD r0) (k_u M) c0 m0 s (k_ci M e + 1)) := by
                      first | exact ⟨_, hM, Or.inl ⟨rfl, (q_Lk.next hI k_hA he hoe).mpr (Or.inl (hsk.yes h103))⟩⟩ | exact ⟨_, hM, Or.inl ⟨rfl, (q_Lk.next hI k_hA he hoe).mpr (Or.inr ⟨hmet, h89, hor.yes h117⟩)⟩⟩ | exact ⟨_, hM, Or.inr ⟨rfl, fun q => ((q_Lk.next hI k_hA he hoe).mp q).elim (hsk.no h103) (fun w => hor.no h117 w.2.2)⟩⟩
                    obtain ⟨v, hM, hv⟩ := hT0
                    have hsk : z_is ((m_sA M3 27 s v).2 27 s) (q_Lk M nD (k_cA M nD nK r0 g) (k_esc M nD r0) (k_u M) c0 m0 s (k_ci M e + 1)) := by rw [m_sA_at]; exact hv
                    have hrow : ∀ t, s + 1 ≤ t → t < 2 ^ k_ci M nD → z_is ((m_sA M3 27 s v).2 27 t) (q_Ld M nD (k_cA M nD nK r0 g) (k_esc M nD r0) (k_u M) c0 m0 t) := fun t h1 h2 => by rw [m_sA_ix (by omega)]; exact hrow t h1 h2
                    have hD := hD.arr (k := 27) (i := s) (v := v) (by omega)
                    refine z_iinc C dX6_findDoors_126 rfl rfl (by decide) ?_
                    refine z_goto C 63 dX6_findDoors_129 (by decide) ?_
                    first | exact ihI (k_ci M e + 1, _) _ _ ⟨hM, (by dsimp only; omega), hD, hrow, hsk⟩ (by dsimp only; omega) ⟨rfl, rfl, rfl, z_lgI rfl (z_inc _), trivial⟩
                  · refine z_iconst (v := 1) C dX6_findDoors_120 (by decide) ?_
                    refine z_goto C 125 dX6_findDoors_121 (by decide) ?_
                    refine z_zast C (by first | exact hM.1 | exact hM.2.1 _ rfl | exact hM.2.2.1 _ rfl) (by exact ⟨_, rfl, rfl⟩) (by first | assumption) (by first | exact hcls | exact hclk | exact hclo | exact hcln | rfl) dX6_findDoors_125 (fun H125 hU125 => ?_)
                    have hM := hM.sZ hU125 rfl
                    have hor := hrow (s ||| 2 ^ k_ci M e) (lt_or (by rw [← k_C_t he hoe]; exact (k_hA _ _ h89).2.2)) horL
                    have hT0 : ∃ v, m_R G ad (m_sA M3 27 s v) H125 ∧ z_is v (q_Lk M nD (k_cA M nD nK r0 g) (k_esc M nD r0) (k_u M) c0 m0 s (k_ci M e + 1)) := by
                      first | exact ⟨_, hM, Or.inl ⟨rfl, (q_Lk.next hI k_hA he hoe).mpr (Or.inl (hsk.yes h103))⟩⟩ | exact ⟨_, hM, Or.inl ⟨rfl, (q_Lk.next hI k_hA he hoe).mpr (Or.inr ⟨hmet, h89, hor.yes h117⟩)⟩⟩ | exact ⟨_, hM, Or.inr ⟨rfl, fun q => ((q_Lk.next hI k_hA he hoe).mp q).elim (hsk.no h103) (fun w => hor.no h117 w.2.2)⟩⟩
                    obtain ⟨v, hM, hv⟩ := hT0
                    have hsk : z_is ((m_sA M3 27 s v).2 27 s) (q_Lk M nD (k_cA M nD nK r0 g) (k_esc M nD r0) (k_u M) c0 m0 s (k_ci M e + 1)) := by rw [m_sA_at]; exact hv
                    have hrow : ∀ t, s + 1 ≤ t → t < 2 ^ k_ci M nD → z_is ((m_sA M3 27 s v).2 27 t) (q_Ld M nD (k_cA M nD nK r0 g) (k_esc M nD r0) (k_u M) c0 m0 t) := fun t h1 h2 => by rw [m_sA_ix (by omega)]; exact hrow t h1 h2
                    have hD := hD.arr (k := 27) (i := s) (v := v) (by omega)
                    refine z_iinc C dX6_findDoors_126 rfl rfl (by decide) ?_
                    refine z_goto C 63 dX6_findDoors_129 (by decide) ?_
                    first | exact ihI (k_ci M e + 1, _) _ _ ⟨hM, (by dsimp only; omega), hD, hrow, hsk⟩ (by dsimp only; omega) ⟨rfl, rfl, rfl, z_lgI rfl (z_inc _), trivial⟩
        · refine z_aload_n C dX6_findDoors_42 rfl ?_
          refine z_iload_n C dX6_findDoors_43 rfl ?_
          refine z_callVR (As := [.int _]) C (c_X6_sizeOfSet _ _ ad _ hD.1.1.2.1 h10 _) kc_X6_sizeOfSet wb_876 ⟨by decide, by decide⟩ hM.1 rfl (hM) ⟨Nat.zero_le _, Nat.zero_le _⟩ (Nat.le_of_ble_eq_true rfl) dX6_findDoors_44 ?_
          rw [F_sset_eq hI (by omega)]
          refine z_aload_n C dX6_findDoors_47 rfl ?_
          refine z_get C (by first | exact hM.1 | exact hM.2.1 _ rfl | exact hM.2.2.1 _ rfl) z_cls7 hu_X6 29 (by decide) wb_664 rfl rfl dX6_findDoors_48 ?_
          rw [hD.2.2.2]
          refine z_icmp_ne C 58 dX6_findDoors_51 (by decide) (fun h51 => ?_) (fun h51 => ?_)
          · refine z_iconst (v := 0) C dX6_findDoors_58 (by decide) ?_
            refine z_zast C (by first | exact hM.1 | exact hM.2.1 _ rfl | exact hM.2.2.1 _ rfl) (by exact ⟨_, rfl, rfl⟩) (by first | assumption) (by first | exact hcls | exact hclk | exact hclo | exact hcln | rfl) dX6_findDoors_59 (fun H59 hU59 => ?_)
            have hM := hM.sZ hU59 rfl
            have hmet := hD.2.1 s hsL
            have hrow2 : ∀ v t, s + 1 ≤ t → t < 2 ^ k_ci M nD → z_is ((m_sA M2 27 s v).2 27 t) (q_Ld M nD (k_cA M nD nK r0 g) (k_esc M nD r0) (k_u M) c0 m0 t) := fun v t h1 h2 => by rw [m_sA_ix (by omega)]; exact hrow t h1 h2
            have hT0 : ∃ v, m_R G ad (m_sA M2 27 s v) H59 ∧ z_is v (q_T M nD (k_cA M nD nK r0 g) (k_esc M nD r0) (k_u M) c0 m0 s) := by
              first | exact ⟨_, hM, Or.inl ⟨rfl, hmet.yes h19, h27, ((nI_inj (Nat.lt_trans (q_cost_le hI (t := s)) (by decide)) (Nat.lt_trans hc0 (by decide))).mp h39), ((nI_inj (Nat.lt_of_le_of_lt (q_size_le (M := M) (nD := nD) (t := s)) (by omega)) (by omega)).mp h51)⟩⟩ | exact ⟨_, hM, Or.inr ⟨rfl, fun q => h51 (congrArg nI q.2.2.2)⟩⟩ | exact ⟨_, hM, Or.inr ⟨rfl, fun q => h39 (congrArg nI q.2.2.1)⟩⟩ | exact ⟨_, hM, Or.inr ⟨rfl, fun q => absurd q.2.1 (by rw [h27]; decide)⟩⟩ | exact ⟨_, hM, Or.inr ⟨rfl, fun q => hmet.no h19 q.1⟩⟩
            obtain ⟨v, hM, hv⟩ := hT0
            have hT0 : z_is ((m_sA M2 27 s v).2 27 s) (q_Lk M nD (k_cA M nD nK r0 g) (k_esc M nD r0) (k_u M) c0 m0 s 0) := by rw [m_sA_at]; exact hv.iff q_Lk.zero
            refine z_iconst (v := 0) C dX6_findDoors_60 (by decide) ?_
            refine z_istore C dX6_findDoors_61 (by decide) ?_
            refine z_loopS (fun q : Nat × m_S => k_ci M nD - q.1) (fun q H1 => m_R G ad q.2 H1 ∧ q.1 ≤ k_ci M nD ∧ k_D M nD nK r0 g c0 m0 q.2 ∧ (∀ t, s + 1 ≤ t → t < 2 ^ k_ci M nD → z_is (q.2.2 27 t) (q_Ld M nD (k_cA M nD nK r0 g) (k_esc M nD r0) (k_u M) c0 m0 t)) ∧ z_is (q.2.2 27 s) (q_Lk M nD (k_cA M nD nK r0 g) (k_esc M nD r0) (k_u M) c0 m0 s q.1)) (fun q => [(0, .ref (ad 0)), (1, .int g), (3, .int (nI s)), (4, .int (nI q.1))]) (0, m_sA M2 27 s v) ⟨hM, Nat.zero_le _, hD.arr (by omega), hrow2 v, hT0⟩ ⟨rfl, rfl, rfl, rfl, trivial⟩ (fun q H2 hI2 ihI => ?_)
            obtain ⟨k, M3⟩ := q
            obtain ⟨hM, hk, hD, hrow, hsk⟩ := hI2
            dsimp only at hM hk hD hrow hsk ihI ⊢
            refine z_iload C dX6_findDoors_63 rfl ?_
            refine z_aload_n C dX6_findDoors_65 rfl ?_
            refine z_get C (by first | exact hM.1 | exact hM.2.1 _ rfl | exact hM.2.2.1 _ rfl) z_cls7 hu_X6 22 (by decide) wb_657 rfl rfl dX6_findDoors_66 ?_
            refine z_icmp_ge C 132 dX6_findDoors_69 (by decide) (fun h69 => ?_) (fun h69 => ?_)
            · have hend := z_ge hD.1.1.2.1 (by omega) hk h69
              rw [hend] at hsk
              have hK : ∀ t, s ≤ t → t < 2 ^ k_ci M nD → z_is (M3.2 27 t) (q_Ld M nD (k_cA M nD nK r0 g) (k_esc M nD r0) (k_u M) c0 m0 t) := fun t h1 h2 => by
                by_cases e0 : t = s
                · rw [e0]; exact hsk.iff (q_Lk.full k_hA)
                · exact hrow t (by omega) h2
              refine z_iinc C dX6_findDoors_132 rfl rfl (by decide) ?_
              refine z_goto C 4 dX6_findDoors_135 (by decide) ?_
              exact ihO (s, M3) _ _ ⟨hM, (by dsimp only; omega), hD, hK⟩ (by dsimp only; omega) ⟨rfl, rfl, z_lgI rfl (z_dec s), trivial⟩
            · have hltk := z_lt hD.1.1.2.1 (by omega) hk h69
              obtain ⟨e, he, hoe, rfl⟩ := k_ci_ex hltk
              have hcie := k_ci_lt he hoe
              have hkv : vp_in (nI (k_ci M e)) 10 := vp_in_nI (by omega) (by omega)
              have hclk : (nI (k_ci M e)).toNatClampNeg = k_ci M e := nI_clamp (by omega)
              have horL := k_or_lt hI hsL he hoe
              have hov : vp_in (nI (s ||| 2 ^ k_ci M e)) 1024 := vp_in_nI (by omega) (by omega)
              have hclo : (nI (s ||| 2 ^ k_ci M e)).toNatClampNeg = s ||| 2 ^ k_ci M e := nI_clamp (by omega)
              have hkn : M3.1 9 = nI nK := (hD.1.1.1.1 9 (by decide)).trans hN.2.2.1.1
              refine z_aload_n C dX6_findDoors_72 rfl ?_
              refine z_get C (by first | exact hM.1 | exact hM.2.1 _ rfl | exact hM.2.2.1 _ rfl) z_cls7 hu_X6 26 (by decide) wb_661 rfl rfl dX6_findDoors_73 ?_
              refine z_iload_n C dX6_findDoors_76 rfl ?_
              refine z_zald C (by first | exact hM.1 | exact hM.2.1 _ rfl | exact hM.2.2.1 _ rfl) (by first | assumption) (by first | exact hcls | exact hclk | exact hclo | exact hcln | rfl) dX6_findDoors_77 ?_
              refine z_if_eq C 132 dX6_findDoors_78 (by decide) (fun h78 => ?_) (fun h78 => ?_)
              · have hK : ∀ t, s ≤ t → t < 2 ^ k_ci M nD → z_is (M3.2 27 t) (q_Ld M nD (k_cA M nD nK r0 g) (k_esc M nD r0) (k_u M) c0 m0 t) := fun t h1 h2 => by
                  by_cases e0 : t = s
                  · rw [e0]; exact hsk.iff (q_Lk.none ((hD.2.1 s hsL).no h78))
                  · exact hrow t (by omega) h2
                refine z_iinc C dX6_findDoors_132 rfl rfl (by decide) ?_
                refine z_goto C 4 dX6_findDoors_135 (by decide) ?_
                exact ihO (s, M3) _ _ ⟨hM, (by dsimp only; omega), hD, hK⟩ (by dsimp only; omega) ⟨rfl, rfl, z_lgI rfl (z_dec s), trivial⟩
              · have hmet := (hD.2.1 s hsL).yes h78
                refine z_aload_n C dX6_findDoors_81 rfl ?_
                refine z_iload_n C dX6_findDoors_82 rfl ?_
                refine z_iload_n C dX6_findDoors_83 rfl ?_
                refine z_iload C dX6_findDoors_84 rfl ?_
                refine z_callVR (As := [.int _, .int _, .int _]) C (c_X6_canAdd _ _ ad _ hD.1.1.2.1 h10 (fun k hk => hD.1.1.h23 hI hk) (nK := nK) hkn hK16 _ _ hsv (k_ci M e) e (by omega) (by omega) (hD.1.1.2.2 e he hoe)) kc_X6_canAdd wb_868 ⟨by decide, by decide⟩ hM.1 rfl (hM) ⟨Nat.zero_le _, Nat.zero_le _⟩ (Nat.le_of_ble_eq_true rfl) dX6_findDoors_86 ?_
                rw [F_canAdd_eq (nK := nK) (g := g) hI hD.1.1 hs1 he hoe (hD.1.2 _ hsL)]
                refine z_ifb_eq C 126 dX6_findDoors_89 (by decide) (fun h89 => ?_) (fun h89 => ?_)
                · have hsk := hsk.iff (show _ ↔ (q_Lk M nD (k_cA M nD nK r0 g) (k_esc M nD r0) (k_u M) c0 m0 s (k_ci M e + 1)) from ⟨fun q => (q_Lk.next hI k_hA he hoe).mpr (Or.inl q), fun q => ((q_Lk.next hI k_hA he hoe).mp q).resolve_right (fun w => by rw [h89] at w; exact absurd w.2.1 (by decide))⟩)
                  refine z_iinc C dX6_findDoors_126 rfl rfl (by decide) ?_
                  refine z_goto C 63 dX6_findDoors_129 (by decide) ?_
                  first | exact ihI (k_ci M e + 1, _) _ _ ⟨hM, (by dsimp only; omega), hD, hrow, hsk⟩ (by dsimp only; omega) ⟨rfl, rfl, rfl, z_lgI rfl (z_inc _), trivial⟩
                · refine z_aload_n C dX6_findDoors_92 rfl ?_
                  refine z_get C (by first | exact hM.1 | exact hM.2.1 _ rfl | exact hM.2.2.1 _ rfl) z_cls7 hu_X6 27 (by decide) wb_662 rfl rfl dX6_findDoors_93 ?_
                  refine z_iload_n C dX6_findDoors_96 rfl ?_
                  refine z_aload_n C dX6_findDoors_97 rfl ?_
                  refine z_get C (by first | exact hM.1 | exact hM.2.1 _ rfl | exact hM.2.2.1 _ rfl) z_cls7 hu_X6 27 (by decide) wb_662 rfl rfl dX6_findDoors_98 ?_
                  refine z_iload_n C dX6_findDoors_101 rfl ?_
                  refine z_zald C (by first | exact hM.1 | exact hM.2.1 _ rfl | exact hM.2.2.1 _ rfl) (by first | assumption) (by first | exact hcls | exact hclk | exact hclo | exact hcln | rfl) dX6_findDoors_102 ?_
                  refine z_if_ne C 120 dX6_findDoors_103 (by decide) (fun h103 => ?_) (fun h103 => ?_)
                  · refine z_iconst (v := 1) C dX6_findDoors_120 (by decide) ?_
                    refine z_goto C 125 dX6_findDoors_121 (by decide) ?_
                    refine z_zast C (by first | exact hM.1 | exact hM.2.1 _ rfl | exact hM.2.2.1 _ rfl) (by exact ⟨_, rfl, rfl⟩) (by first | assumption) (by first | exact hcls | exact hclk | exact hclo | exact hcln | rfl) dX6_findDoors_125 (fun H125 hU125 => ?_)
                    have hM := hM.sZ hU125 rfl
                    have hor := hrow (s ||| 2 ^ k_ci M e) (lt_or (by rw [← k_C_t he hoe]; exact (k_hA _ _ h89).2.2)) horL
                    have hT0 : ∃ v, m_R G ad (m_sA M3 27 s v) H125 ∧ z_is v (q_Lk M nD (k_cA M nD nK r0 g) (k_esc M nD r0) (k_u M) c0 m0 s (k_ci M e + 1)) := by
                      first | exact ⟨_, hM, Or.inl ⟨rfl, (q_Lk.next hI k_hA he hoe).mpr (Or.inl (hsk.yes h103))⟩⟩ | exact ⟨_, hM, Or.inl ⟨rfl, (q_Lk.next hI k_hA he hoe).mpr (Or.inr ⟨hmet, h89, hor.yes h117⟩)⟩⟩ | exact ⟨_, hM, Or.inr ⟨rfl, fun q => ((q_Lk.next hI k_hA he hoe).mp q).elim (hsk.no h103) (fun w => hor.no h117 w.2.2)⟩⟩
                    obtain ⟨v, hM, hv⟩ := hT0
                    have hsk : z_is ((m_sA M3 27 s v).2 27 s) (q_Lk M nD (k_cA M nD nK r0 g) (k_esc M nD r0) (k_u M) c0 m0 s (k_ci M e + 1)) := by rw [m_sA_at]; exact hv
                    have hrow : ∀ t, s + 1 ≤ t → t < 2 ^ k_ci M nD → z_is ((m_sA M3 27 s v).2 27 t) (q_Ld M nD (k_cA M nD nK r0 g) (k_esc M nD r0) (k_u M) c0 m0 t) := fun t h1 h2 => by rw [m_sA_ix (by omega)]; exact hrow t h1 h2
                    have hD := hD.arr (k := 27) (i := s) (v := v) (by omega)
                    refine z_iinc C dX6_findDoors_126 rfl rfl (by decide) ?_
                    refine z_goto C 63 dX6_findDoors_129 (by decide) ?_
                    first | exact ihI (k_ci M e + 1, _) _ _ ⟨hM, (by dsimp only; omega), hD, hrow, hsk⟩ (by dsimp only; omega) ⟨rfl, rfl, rfl, z_lgI rfl (z_inc _), trivial⟩
                  · refine z_aload_n C dX6_findDoors_106 rfl ?_
                    refine z_get C (by first | exact hM.1 | exact hM.2.1 _ rfl | exact hM.2.2.1 _ rfl) z_cls7 hu_X6 27 (by decide) wb_662 rfl rfl dX6_findDoors_107 ?_
                    refine z_iload_n C dX6_findDoors_110 rfl ?_
                    refine z_iconst (v := 1) C dX6_findDoors_111 (by decide) ?_
                    refine z_iload C dX6_findDoors_112 rfl ?_
                    refine z_ishl C dX6_findDoors_114 ?_
                    refine z_ior C dX6_findDoors_115 ?_
                    rw [show (1 : Int32) <<< (nI (k_ci M e) &&& 31) = x_bit (nI (k_ci M e)) from rfl, nI_or (by omega) (by omega)]
                    refine z_zald C (by first | exact hM.1 | exact hM.2.1 _ rfl | exact hM.2.2.1 _ rfl) (by first | assumption) (by first | exact hcls | exact hclk | exact hclo | exact hcln | rfl) dX6_findDoors_116 ?_
                    refine z_if_eq C 124 dX6_findDoors_117 (by decide) (fun h117 => ?_) (fun h117 => ?_)
                    · refine z_iconst (v := 0) C dX6_findDoors_124 (by decide) ?_
                      refine z_zast C (by first | exact hM.1 | exact hM.2.1 _ rfl | exact hM.2.2.1 _ rfl) (by exact ⟨_, rfl, rfl⟩) (by first | assumption) (by first | exact hcls | exact hclk | exact hclo | exact hcln | rfl) dX6_findDoors_125 (fun H125 hU125 => ?_)
                      have hM := hM.sZ hU125 rfl
                      have hor := hrow (s ||| 2 ^ k_ci M e) (lt_or (by rw [← k_C_t he hoe]; exact (k_hA _ _ h89).2.2)) horL
                      have hT0 : ∃ v, m_R G ad (m_sA M3 27 s v) H125 ∧ z_is v (q_Lk M nD (k_cA M nD nK r0 g) (k_esc M nD r0) (k_u M) c0 m0 s (k_ci M e + 1)) := by
                        first | exact ⟨_, hM, Or.inl ⟨rfl, (q_Lk.next hI k_hA he hoe).mpr (Or.inl (hsk.yes h103))⟩⟩ | exact ⟨_, hM, Or.inl ⟨rfl, (q_Lk.next hI k_hA he hoe).mpr (Or.inr ⟨hmet, h89, hor.yes h117⟩)⟩⟩ | exact ⟨_, hM, Or.inr ⟨rfl, fun q => ((q_Lk.next hI k_hA he hoe).mp q).elim (hsk.no h103) (fun w => hor.no h117 w.2.2)⟩⟩
                      obtain ⟨v, hM, hv⟩ := hT0
                      have hsk : z_is ((m_sA M3 27 s v).2 27 s) (q_Lk M nD (k_cA M nD nK r0 g) (k_esc M nD r0) (k_u M) c0 m0 s (k_ci M e + 1)) := by rw [m_sA_at]; exact hv
                      have hrow : ∀ t, s + 1 ≤ t → t < 2 ^ k_ci M nD → z_is ((m_sA M3 27 s v).2 27 t) (q_Ld M nD (k_cA M nD nK r0 g) (k_esc M nD r0) (k_u M) c0 m0 t) := fun t h1 h2 => by rw [m_sA_ix (by omega)]; exact hrow t h1 h2
                      have hD := hD.arr (k := 27) (i := s) (v := v) (by omega)
                      refine z_iinc C dX6_findDoors_126 rfl rfl (by decide) ?_
                      refine z_goto C 63 dX6_findDoors_129 (by decide) ?_
                      first | exact ihI (k_ci M e + 1, _) _ _ ⟨hM, (by dsimp only; omega), hD, hrow, hsk⟩ (by dsimp only; omega) ⟨rfl, rfl, rfl, z_lgI rfl (z_inc _), trivial⟩
                    · refine z_iconst (v := 1) C dX6_findDoors_120 (by decide) ?_
                      refine z_goto C 125 dX6_findDoors_121 (by decide) ?_
                      refine z_zast C (by first | exact hM.1 | exact hM.2.1 _ rfl | exact hM.2.2.1 _ rfl) (by exact ⟨_, rfl, rfl⟩) (by first | assumption) (by first | exact hcls | exact hclk | exact hclo | exact hcln | rfl) dX6_findDoors_125 (fun H125 hU125 => ?_)
                      have hM := hM.sZ hU125 rfl
                      have hor := hrow (s ||| 2 ^ k_ci M e) (lt_or (by rw [← k_C_t he hoe]; exact (k_hA _ _ h89).2.2)) horL
                      have hT0 : ∃ v, m_R G ad (m_sA M3 27 s v) H125 ∧ z_is v (q_Lk M nD (k_cA M nD nK r0 g) (k_esc M nD r0) (k_u M) c0 m0 s (k_ci M e + 1)) := by
                        first | exact ⟨_, hM, Or.inl ⟨rfl, (q_Lk.next hI k_hA he hoe).mpr (Or.inl (hsk.yes h103))⟩⟩ | exact ⟨_, hM, Or.inl ⟨rfl, (q_Lk.next hI k_hA he hoe).mpr (Or.inr ⟨hmet, h89, hor.yes h117⟩)⟩⟩ | exact ⟨_, hM, Or.inr ⟨rfl, fun q => ((q_Lk.next hI k_hA he hoe).mp q).elim (hsk.no h103) (fun w => hor.no h117 w.2.2)⟩⟩
                      obtain ⟨v, hM, hv⟩ := hT0
                      have hsk : z_is ((m_sA M3 27 s v).2 27 s) (q_Lk M nD (k_cA M nD nK r0 g) (k_esc M nD r0) (k_u M) c0 m0 s (k_ci M e + 1)) := by rw [m_sA_at]; exact hv
                      have hrow : ∀ t, s + 1 ≤ t → t < 2 ^ k_ci M nD → z_is ((m_sA M3 27 s v).2 27 t) (q_Ld M nD (k_cA M nD nK r0 g) (k_esc M nD r0) (k_u M) c0 m0 t) := fun t h1 h2 => by rw [m_sA_ix (by omega)]; exact hrow t h1 h2
                      have hD := hD.arr (k := 27) (i := s) (v := v) (by omega)
                      refine z_iinc C dX6_findDoors_126 rfl rfl (by decide) ?_
                      refine z_goto C 63 dX6_findDoors_129 (by decide) ?_
                      first | exact ihI (k_ci M e + 1, _) _ _ ⟨hM, (by dsimp only; omega), hD, hrow, hsk⟩ (by dsimp only; omega) ⟨rfl, rfl, rfl, z_lgI rfl (z_inc _), trivial⟩
          · refine z_iconst (v := 1) C dX6_findDoors_54 (by decide) ?_
            refine z_goto C 59 dX6_findDoors_55 (by decide) ?_
            refine z_zast C (by first | exact hM.1 | exact hM.2.1 _ rfl | exact hM.2.2.1 _ rfl) (by exact ⟨_, rfl, rfl⟩) (by first | assumption) (by first | exact hcls | exact hclk | exact hclo | exact hcln | rfl) dX6_findDoors_59 (fun H59 hU59 => ?_)
            have hM := hM.sZ hU59 rfl
            have hmet := hD.2.1 s hsL
            have hrow2 : ∀ v t, s + 1 ≤ t → t < 2 ^ k_ci M nD → z_is ((m_sA M2 27 s v).2 27 t) (q_Ld M nD (k_cA M nD nK r0 g) (k_esc M nD r0) (k_u M) c0 m0 t) := fun v t h1 h2 => by rw [m_sA_ix (by omega)]; exact hrow t h1 h2
            have hT0 : ∃ v, m_R G ad (m_sA M2 27 s v) H59 ∧ z_is v (q_T M nD (k_cA M nD nK r0 g) (k_esc M nD r0) (k_u M) c0 m0 s) := by
              first | exact ⟨_, hM, Or.inl ⟨rfl, hmet.yes h19, h27, ((nI_inj (Nat.lt_trans (q_cost_le hI (t := s)) (by decide)) (Nat.lt_trans hc0 (by decide))).mp h39), ((nI_inj (Nat.lt_of_le_of_lt (q_size_le (M := M) (nD := nD) (t := s)) (by omega)) (by omega)).mp h51)⟩⟩ | exact ⟨_, hM, Or.inr ⟨rfl, fun q => h51 (congrArg nI q.2.2.2)⟩⟩ | exact ⟨_, hM, Or.inr ⟨rfl, fun q => h39 (congrArg nI q.2.2.1)⟩⟩ | exact ⟨_, hM, Or.inr ⟨rfl, fun q => absurd q.2.1 (by rw [h27]; decide)⟩⟩ | exact ⟨_, hM, Or.inr ⟨rfl, fun q => hmet.no h19 q.1⟩⟩
            obtain ⟨v, hM, hv⟩ := hT0
            have hT0 : z_is ((m_sA M2 27 s v).2 27 s) (q_Lk M nD (k_cA M nD nK r0 g) (k_esc M nD r0) (k_u M) c0 m0 s 0) := by rw [m_sA_at]; exact hv.iff q_Lk.zero
            refine z_iconst (v := 0) C dX6_findDoors_60 (by decide) ?_
            refine z_istore C dX6_findDoors_61 (by decide) ?_
            refine z_loopS (fun q : Nat × m_S => k_ci M nD - q.1) (fun q H1 => m_R G ad q.2 H1 ∧ q.1 ≤ k_ci M nD ∧ k_D M nD nK r0 g c0 m0 q.2 ∧ (∀ t, s + 1 ≤ t → t < 2 ^ k_ci M nD → z_is (q.2.2 27 t) (q_Ld M nD (k_cA M nD nK r0 g) (k_esc M nD r0) (k_u M) c0 m0 t)) ∧ z_is (q.2.2 27 s) (q_Lk M nD (k_cA M nD nK r0 g) (k_esc M nD r0) (k_u M) c0 m0 s q.1)) (fun q => [(0, .ref (ad 0)), (1, .int g), (3, .int (nI s)), (4, .int (nI q.1))]) (0, m_sA M2 27 s v) ⟨hM, Nat.zero_le _, hD.arr (by omega), hrow2 v, hT0⟩ ⟨rfl, rfl, rfl, rfl, trivial⟩ (fun q H2 hI2 ihI => ?_)
            obtain ⟨k, M3⟩ := q
            obtain ⟨hM, hk, hD, hrow, hsk⟩ := hI2
            dsimp only at hM hk hD hrow hsk ihI ⊢
            refine z_iload C dX6_findDoors_63 rfl ?_
            refine z_aload_n C dX6_findDoors_65 rfl ?_
            refine z_get C (by first | exact hM.1 | exact hM.2.1 _ rfl | exact hM.2.2.1 _ rfl) z_cls7 hu_X6 22 (by decide) wb_657 rfl rfl dX6_findDoors_66 ?_
            refine z_icmp_ge C 132 dX6_findDoors_69 (by decide) (fun h69 => ?_) (fun h69 => ?_)
            · have hend := z_ge hD.1.1.2.1 (by omega) hk h69
              rw [hend] at hsk
              have hK : ∀ t, s ≤ t → t < 2 ^ k_ci M nD → z_is (M3.2 27 t) (q_Ld M nD (k_cA M nD nK r0 g) (k_esc M nD r0) (k_u M) c0 m0 t) := fun t h1 h2 => by
                by_cases e0 : t = s
                · rw [e0]; exact hsk.iff (q_Lk.full k_hA)
                · exact hrow t (by omega) h2
              refine z_iinc C dX6_findDoors_132 rfl rfl (by decide) ?_
              refine z_goto C 4 dX6_findDoors_135 (by decide) ?_
              exact ihO (s, M3) _ _ ⟨hM, (by dsimp only; omega), hD, hK⟩ (by dsimp only; omega) ⟨rfl, rfl, z_lgI rfl (z_dec s), trivial⟩
            · have hltk := z_lt hD.1.1.2.1 (by omega) hk h69
              obtain ⟨e, he, hoe, rfl⟩ := k_ci_ex hltk
              have hcie := k_ci_lt he hoe
              have hkv : vp_in (nI (k_ci M e)) 10 := vp_in_nI (by omega) (by omega)
              have hclk : (nI (k_ci M e)).toNatClampNeg = k_ci M e := nI_clamp (by omega)
              have horL := k_or_lt hI hsL he hoe
              have hov : vp_in (nI (s ||| 2 ^ k_ci M e)) 1024 := vp_in_nI (by omega) (by omega)
              have hclo : (nI (s ||| 2 ^ k_ci M e)).toNatClampNeg = s ||| 2 ^ k_ci M e := nI_clamp (by omega)
              have hkn : M3.1 9 = nI nK := (hD.1.1.1.1 9 (by decide)).trans hN.2.2.1.1
              refine z_aload_n C dX6_findDoors_72 rfl ?_
              refine z_get C (by first | exact hM.1 | exact hM.2.1 _ rfl | exact hM.2.2.1 _ rfl) z_cls7 hu_X6 26 (by decide) wb_661 rfl rfl dX6_findDoors_73 ?_
              refine z_iload_n C dX6_findDoors_76 rfl ?_
              refine z_zald C (by first | exact hM.1 | exact hM.2.1 _ rfl | exact hM.2.2.1 _ rfl) (by first | assumption) (by first | exact hcls | exact hclk | exact hclo | exact hcln | rfl) dX6_findDoors_77 ?_
              refine z_if_eq C 132 dX6_findDoors_78 (by decide) (fun h78 => ?_) (fun h78 => ?_)
              · have hK : ∀ t, s ≤ t → t < 2 ^ k_ci M nD → z_is (M3.2 27 t) (q_Ld M nD (k_cA M nD nK r0 g) (k_esc M nD r0) (k_u M) c0 m0 t) := fun t h1 h2 => by
                  by_cases e0 : t = s
                  · rw [e0]; exact hsk.iff (q_Lk.none ((hD.2.1 s hsL).no h78))
                  · exact hrow t (by omega) h2
                refine z_iinc C dX6_findDoors_132 rfl rfl (by decide) ?_
                refine z_goto C 4 dX6_findDoors_135 (by decide) ?_
                exact ihO (s, M3) _ _ ⟨hM, (by dsimp only; omega), hD, hK⟩ (by dsimp only; omega) ⟨rfl, rfl, z_lgI rfl (z_dec s), trivial⟩
              · have hmet := (hD.2.1 s hsL).yes h78
                refine z_aload_n C dX6_findDoors_81 rfl ?_
                refine z_iload_n C dX6_findDoors_82 rfl ?_
                refine z_iload_n C dX6_findDoors_83 rfl ?_
                refine z_iload C dX6_findDoors_84 rfl ?_
                refine z_callVR (As := [.int _, .int _, .int _]) C (c_X6_canAdd _ _ ad _ hD.1.1.2.1 h10 (fun k hk => hD.1.1.h23 hI hk) (nK := nK) hkn hK16 _ _ hsv (k_ci M e) e (by omega) (by omega) (hD.1.1.2.2 e he hoe)) kc_X6_canAdd wb_868 ⟨by decide, by decide⟩ hM.1 rfl (hM) ⟨Nat.zero_le _, Nat.zero_le _⟩ (Nat.le_of_ble_eq_true rfl) dX6_findDoors_86 ?_
                rw [F_canAdd_eq (nK := nK) (g := g) hI hD.1.1 hs1 he hoe (hD.1.2 _ hsL)]
                refine z_ifb_eq C 126 dX6_findDoors_89 (by decide) (fun h89 => ?_) (fun h89 => ?_)
                · have hsk := hsk.iff (show _ ↔ (q_Lk M nD (k_cA M nD nK r0 g) (k_esc M nD r0) (k_u M) c0 m0 s (k_ci M e + 1)) from ⟨fun q => (q_Lk.next hI k_hA he hoe).mpr (Or.inl q), fun q => ((q_Lk.next hI k_hA he hoe).mp q).resolve_right (fun w => by rw [h89] at w; exact absurd w.2.1 (by decide))⟩)
                  refine z_iinc C dX6_findDoors_126 rfl rfl (by decide) ?_
                  refine z_goto C 63 dX6_findDoors_129 (by decide) ?_
                  first | exact ihI (k_ci M e + 1, _) _ _ ⟨hM, (by dsimp only; omega), hD, hrow, hsk⟩ (by dsimp only; omega) ⟨rfl, rfl, rfl, z_lgI rfl (z_inc _), trivial⟩
                · refine z_aload_n C dX6_findDoors_92 rfl ?_
                  refine z_get C (by first | exact hM.1 | exact hM.2.1 _ rfl | exact hM.2.2.1 _ rfl) z_cls7 hu_X6 27 (by decide) wb_662 rfl rfl dX6_findDoors_93 ?_
                  refine z_iload_n C dX6_findDoors_96 rfl ?_
                  refine z_aload_n C dX6_findDoors_97 rfl ?_
                  refine z_get C (by first | exact hM.1 | exact hM.2.1 _ rfl | exact hM.2.2.1 _ rfl) z_cls7 hu_X6 27 (by decide) wb_662 rfl rfl dX6_findDoors_98 ?_
                  refine z_iload_n C dX6_findDoors_101 rfl ?_
                  refine z_zald C (by first | exact hM.1 | exact hM.2.1 _ rfl | exact hM.2.2.1 _ rfl) (by first | assumption) (by first | exact hcls | exact hclk | exact hclo | exact hcln | rfl) dX6_findDoors_102 ?_
                  refine z_if_ne C 120 dX6_findDoors_103 (by decide) (fun h103 => ?_) (fun h103 => ?_)
                  · refine z_iconst (v := 1) C dX6_findDoors_120 (by decide) ?_
                    refine z_goto C 125 dX6_findDoors_121 (by decide) ?_
                    refine z_zast C (by first | exact hM.1 | exact hM.2.1 _ rfl | exact hM.2.2.1 _ rfl) (by exact ⟨_, rfl, rfl⟩) (by first | assumption) (by first | exact hcls | exact hclk | exact hclo | exact hcln | rfl) dX6_findDoors_125 (fun H125 hU125 => ?_)
                    have hM := hM.sZ hU125 rfl
                    have hor := hrow (s ||| 2 ^ k_ci M e) (lt_or (by rw [← k_C_t he hoe]; exact (k_hA _ _ h89).2.2)) horL
                    have hT0 : ∃ v, m_R G ad (m_sA M3 27 s v) H125 ∧ z_is v (q_Lk M nD (k_cA M nD nK r0 g) (k_esc M nD r0) (k_u M) c0 m0 s (k_ci M e + 1)) := by
                      first | exact ⟨_, hM, Or.inl ⟨rfl, (q_Lk.next hI k_hA he hoe).mpr (Or.inl (hsk.yes h103))⟩⟩ | exact ⟨_, hM, Or.inl ⟨rfl, (q_Lk.next hI k_hA he hoe).mpr (Or.inr ⟨hmet, h89, hor.yes h117⟩)⟩⟩ | exact ⟨_, hM, Or.inr ⟨rfl, fun q => ((q_Lk.next hI k_hA he hoe).mp q).elim (hsk.no h103) (fun w => hor.no h117 w.2.2)⟩⟩
                    obtain ⟨v, hM, hv⟩ := hT0
                    have hsk : z_is ((m_sA M3 27 s v).2 27 s) (q_Lk M nD (k_cA M nD nK r0 g) (k_esc M nD r0) (k_u M) c0 m0 s (k_ci M e + 1)) := by rw [m_sA_at]; exact hv
                    have hrow : ∀ t, s + 1 ≤ t → t < 2 ^ k_ci M nD → z_is ((m_sA M3 27 s v).2 27 t) (q_Ld M nD (k_cA M nD nK r0 g) (k_esc M nD r0) (k_u M) c0 m0 t) := fun t h1 h2 => by rw [m_sA_ix (by omega)]; exact hrow t h1 h2
                    have hD := hD.arr (k := 27) (i := s) (v := v) (by omega)
                    refine z_iinc C dX6_findDoors_126 rfl rfl (by decide) ?_
                    refine z_goto C 63 dX6_findDoors_129 (by decide) ?_
                    first | exact ihI (k_ci M e + 1, _) _ _ ⟨hM, (by dsimp only; omega), hD, hrow, hsk⟩ (by dsimp only; omega) ⟨rfl, rfl, rfl, z_lgI rfl (z_inc _), trivial⟩
                  · refine z_aload_n C dX6_findDoors_106 rfl ?_
                    refine z_get C (by first | exact hM.1 | exact hM.2.1 _ rfl | exact hM.2.2.1 _ rfl) z_cls7 hu_X6 27 (by decide) wb_662 rfl rfl dX6_findDoors_107 ?_
                    refine z_iload_n C dX6_findDoors_110 rfl ?_
                    refine z_iconst (v := 1) C dX6_findDoors_111 (by decide) ?_
                    refine z_iload C dX6_findDoors_112 rfl ?_
                    refine z_ishl C dX6_findDoors_114 ?_
                    refine z_ior C dX6_findDoors_115 ?_
                    rw [show (1 : Int32) <<< (nI (k_ci M e) &&& 31) = x_bit (nI (k_ci M e)) from rfl, nI_or (by omega) (by omega)]
                    refine z_zald C (by first | exact hM.1 | exact hM.2.1 _ rfl | exact hM.2.2.1 _ rfl) (by first | assumption) (by first | exact hcls | exact hclk | exact hclo | exact hcln | rfl) dX6_findDoors_116 ?_
                    refine z_if_eq C 124 dX6_findDoors_117 (by decide) (fun h117 => ?_) (fun h117 => ?_)
                    · refine z_iconst (v := 0) C dX6_findDoors_124 (by decide) ?_
                      refine z_zast C (by first | exact hM.1 | exact hM.2.1 _ rfl | exact hM.2.2.1 _ rfl) (by exact ⟨_, rfl, rfl⟩) (by first | assumption) (by first | exact hcls | exact hclk | exact hclo | exact hcln | rfl) dX6_findDoors_125 (fun H125 hU125 => ?_)
                      have hM := hM.sZ hU125 rfl
                      have hor := hrow (s ||| 2 ^ k_ci M e) (lt_or (by rw [← k_C_t he hoe]; exact (k_hA _ _ h89).2.2)) horL
                      have hT0 : ∃ v, m_R G ad (m_sA M3 27 s v) H125 ∧ z_is v (q_Lk M nD (k_cA M nD nK r0 g) (k_esc M nD r0) (k_u M) c0 m0 s (k_ci M e + 1)) := by
                        first | exact ⟨_, hM, Or.inl ⟨rfl, (q_Lk.next hI k_hA he hoe).mpr (Or.inl (hsk.yes h103))⟩⟩ | exact ⟨_, hM, Or.inl ⟨rfl, (q_Lk.next hI k_hA he hoe).mpr (Or.inr ⟨hmet, h89, hor.yes h117⟩)⟩⟩ | exact ⟨_, hM, Or.inr ⟨rfl, fun q => ((q_Lk.next hI k_hA he hoe).mp q).elim (hsk.no h103) (fun w => hor.no h117 w.2.2)⟩⟩
                      obtain ⟨v, hM, hv⟩ := hT0
                      have hsk : z_is ((m_sA M3 27 s v).2 27 s) (q_Lk M nD (k_cA M nD nK r0 g) (k_esc M nD r0) (k_u M) c0 m0 s (k_ci M e + 1)) := by rw [m_sA_at]; exact hv
                      have hrow : ∀ t, s + 1 ≤ t → t < 2 ^ k_ci M nD → z_is ((m_sA M3 27 s v).2 27 t) (q_Ld M nD (k_cA M nD nK r0 g) (k_esc M nD r0) (k_u M) c0 m0 t) := fun t h1 h2 => by rw [m_sA_ix (by omega)]; exact hrow t h1 h2
                      have hD := hD.arr (k := 27) (i := s) (v := v) (by omega)
                      refine z_iinc C dX6_findDoors_126 rfl rfl (by decide) ?_
                      refine z_goto C 63 dX6_findDoors_129 (by decide) ?_
                      first | exact ihI (k_ci M e + 1, _) _ _ ⟨hM, (by dsimp only; omega), hD, hrow, hsk⟩ (by dsimp only; omega) ⟨rfl, rfl, rfl, z_lgI rfl (z_inc _), trivial⟩
                    · refine z_iconst (v := 1) C dX6_findDoors_120 (by decide) ?_
                      refine z_goto C 125 dX6_findDoors_121 (by decide) ?_
                      refine z_zast C (by first | exact hM.1 | exact hM.2.1 _ rfl | exact hM.2.2.1 _ rfl) (by exact ⟨_, rfl, rfl⟩) (by first | assumption) (by first | exact hcls | exact hclk | exact hclo | exact hcln | rfl) dX6_findDoors_125 (fun H125 hU125 => ?_)
                      have hM := hM.sZ hU125 rfl
                      have hor := hrow (s ||| 2 ^ k_ci M e) (lt_or (by rw [← k_C_t he hoe]; exact (k_hA _ _ h89).2.2)) horL
                      have hT0 : ∃ v, m_R G ad (m_sA M3 27 s v) H125 ∧ z_is v (q_Lk M nD (k_cA M nD nK r0 g) (k_esc M nD r0) (k_u M) c0 m0 s (k_ci M e + 1)) := by
                        first | exact ⟨_, hM, Or.inl ⟨rfl, (q_Lk.next hI k_hA he hoe).mpr (Or.inl (hsk.yes h103))⟩⟩ | exact ⟨_, hM, Or.inl ⟨rfl, (q_Lk.next hI k_hA he hoe).mpr (Or.inr ⟨hmet, h89, hor.yes h117⟩)⟩⟩ | exact ⟨_, hM, Or.inr ⟨rfl, fun q => ((q_Lk.next hI k_hA he hoe).mp q).elim (hsk.no h103) (fun w => hor.no h117 w.2.2)⟩⟩
                      obtain ⟨v, hM, hv⟩ := hT0
                      have hsk : z_is ((m_sA M3 27 s v).2 27 s) (q_Lk M nD (k_cA M nD nK r0 g) (k_esc M nD r0) (k_u M) c0 m0 s (k_ci M e + 1)) := by rw [m_sA_at]; exact hv
                      have hrow : ∀ t, s + 1 ≤ t → t < 2 ^ k_ci M nD → z_is ((m_sA M3 27 s v).2 27 t) (q_Ld M nD (k_cA M nD nK r0 g) (k_esc M nD r0) (k_u M) c0 m0 t) := fun t h1 h2 => by rw [m_sA_ix (by omega)]; exact hrow t h1 h2
                      have hD := hD.arr (k := 27) (i := s) (v := v) (by omega)
                      refine z_iinc C dX6_findDoors_126 rfl rfl (by decide) ?_
                      refine z_goto C 63 dX6_findDoors_129 (by decide) ?_
                      first | exact ihI (k_ci M e + 1, _) _ _ ⟨hM, (by dsimp only; omega), hD, hrow, hsk⟩ (by dsimp only; omega) ⟨rfl, rfl, rfl, z_lgI rfl (z_inc _), trivial⟩
