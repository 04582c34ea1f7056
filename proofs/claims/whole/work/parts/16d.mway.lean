set_option maxHeartbeats 4000000 in
set_option maxRecDepth 100000 in
theorem c_X6_way (l : Launch) (G : z_G) (ad : Nat → Nat) (M : m_S) {nR nD nK nG : Nat} (hI : m_I nR nD nK nG M) (g r : Int32) : z_M l yX6_way cX6_way 5 (some .int) 2 0 0 [.ref (ad 0), .int g, .int r] G (fun H => m_R G ad M H) (m_A ad) ((fun v _ H => v = some (.int (F_way M nD g r)) ∧ ∃ M', m_Q M M' ∧ m_R G ad M' H)) := by
  refine z_M.of (by decide +kernel) (Nat.le_of_ble_eq_true rfl) ?_
  intro p e s m below meth c C hP
  have hM : m_R G ad M s.heap := hP
  have hN := hI.1
  have hR12 := hN.1.2; have hD16 := hN.2.1.2; have hK16 := hN.2.2.1.2; have hG6 := hN.2.2.2.2
  refine z_aload_n C dX6_way_0 rfl ?_
  refine z_iload_n C dX6_way_1 rfl ?_
  refine z_callVR (As := [.int _]) C (c_X6_noGroup _ _ ad M _) kc_X6_noGroup wb_788 ⟨by decide, by decide⟩ hM.1 rfl (hM) ⟨Nat.zero_le _, Nat.zero_le _⟩ (Nat.le_of_ble_eq_true rfl) dX6_way_2 ?_
  refine z_ifb_ne C 16 dX6_way_5 (by decide) (fun h5 => ?_) (fun h5 => ?_)
  · refine z_iconst (v := (-1)) C dX6_way_16 (by decide) ?_
    exact z_iret C (by omega) (by omega) dX6_way_17 (by first | (refine ⟨by simp [F_way, *], M, m_Q.refl, hM⟩; done) | (refine ⟨congrArg (fun z => some (Value.int z)) ?_, _, w_row_Q, hM⟩; have hb := w_best_eq (m_wF hI) hO.1 (hO.2 rfl) (by omega) ht1 r.toNatClampNeg; unfold F_way; simp only [*, Bool.or_self, Bool.false_eq_true, if_false, if_true]; first | (rw [if_pos ((nI_inj (by have := hO.1.1 r.toNatClampNeg; omega) (by omega)).mp (by assumption))] at hb; exact hb) | (rw [if_neg (fun q => h185 (by rw [q]; rfl))] at hb; exact hb)))
  · refine z_aload_n C dX6_way_8 rfl ?_
    refine z_iload_n C dX6_way_9 rfl ?_
    refine z_callVR (As := [.int _]) C (c_X6_noRoom _ _ ad M _) kc_X6_noRoom wb_741 ⟨by decide, by decide⟩ hM.1 rfl (hM) ⟨Nat.zero_le _, Nat.zero_le _⟩ (Nat.le_of_ble_eq_true rfl) dX6_way_10 ?_
    refine z_ifb_eq C 18 dX6_way_13 (by decide) (fun h13 => ?_) (fun h13 => ?_)
    · refine z_aload_n C dX6_way_18 rfl ?_
      refine z_iload_n C dX6_way_19 rfl ?_
      refine z_callVR (As := [.int _]) C (c_X6_plays _ _ ad M _ (by first | assumption | exact m_noG hN (by assumption) | exact m_noD hN (by assumption) | exact m_noK hN (by assumption))) kc_X6_plays wb_796 ⟨by decide, by decide⟩ hM.1 rfl (hM) ⟨Nat.zero_le _, Nat.zero_le _⟩ (Nat.le_of_ble_eq_true rfl) dX6_way_20 ?_
      refine z_ifb_ne C 29 dX6_way_23 (by decide) (fun h23 => ?_) (fun h23 => ?_)
      · refine z_iconst (v := 0) C dX6_way_29 (by decide) ?_
        refine z_istore_n C dX6_way_30 (by decide) ?_
        have hgv := x_inG hN (r := g) (by assumption)
        have hgl : g.toNatClampNeg < nG := vp_in_clamp hgv
        have hg6 : vp_in g 6 := m_noG hN (by assumption)
        have hrv := x_inR hN (r := r) (by assumption)
        have hrl0 : r.toNatClampNeg < nR := vp_in_clamp hrv
        have hr12 : vp_in r 12 := m_noR hN (by assumption)
        have hM0 := hM
        obtain ⟨t0, ht0, et0⟩ := hI.time hgl
        have hr0 : m_r0 M g < nR := hI.rm hgl
        have e16 := x_n16 hI hgl
        have e17 : M.2 17 g.toNatClampNeg = nI (m_t0 M g) := by unfold m_t0; rw [et0, nI_clamp (by omega)]
        have ht1 : m_t0 M g ≤ 100000 := by unfold m_t0; rw [et0, nI_clamp (by omega)]; exact ht0
        refine z_loopS (fun i : Nat => nR - i) (fun i H1 => i ≤ nR ∧ m_R G ad (w_row M i (w_a0 1000000000 (m_r0 M g) (m_t0 M g))) H1) (fun i => [(0, .ref (ad 0)), (1, .int g), (2, .int r), (3, .int (nI i))]) 0 ⟨Nat.zero_le _, by rw [w_row_0]; exact hM⟩ ⟨rfl, rfl, rfl, rfl, trivial⟩ (fun i H1 hI1 ihi => ?_)
        obtain ⟨hi, hM⟩ := hI1
        refine z_iload_n C dX6_way_31 rfl ?_
        refine z_aload_n C dX6_way_32 rfl ?_
        refine z_get C (by first | exact hM.1 | exact hM.2.1 _ rfl | exact hM.2.2.1 _ rfl) z_cls7 hu_X6 0 (by decide) wb_635 rfl rfl dX6_way_33 ?_
        refine z_icmp_ge C 72 dX6_way_36 (by decide) (fun h36 => ?_) (fun h36 => ?_)
        · have hend := z_ge hN.1.1 (by omega) hi h36
          rw [hend] at hM
          refine z_iconst (v := 1) C dX6_way_72 (by decide) ?_
          refine z_istore_n C dX6_way_73 (by decide) ?_
          refine z_loopS (fun q : (Nat → Nat) × Bool => 2 * w_un nD (m_lo M) (m_hi M) (x_op M) (m_f M) (m_r0 M g) (m_t0 M g) q.1 + (if q.2 = true then 1 else 0)) (fun q H1 => m_R G ad (w_row M nR q.1) H1 ∧ w_O nD (m_lo M) (m_hi M) (x_op M) (m_f M) (m_r0 M g) (m_t0 M g) 1000000000 q.1 q.2) (fun q => [(0, .ref (ad 0)), (1, .int g), (2, .int r), (3, .int (z_b q.2))]) ((w_a0 1000000000 (m_r0 M g) (m_t0 M g)), true) ⟨hM, w_a0_A (by omega) ht1 (by omega), (fun q => by cases q)⟩ ⟨rfl, rfl, rfl, rfl, trivial⟩ (fun q H1 hI1 ihO => ?_)
          obtain ⟨x, mo⟩ := q
          obtain ⟨hM, hO⟩ := hI1
          dsimp only at hM hO ihO ⊢
          refine z_iload_n C dX6_way_74 rfl ?_
          refine z_ifb_eq C 177 dX6_way_75 (by decide) (fun h75 => ?_) (fun h75 => ?_)
          · subst h75
            refine z_aload_n C dX6_way_177 rfl ?_
            refine z_get C (by first | exact hM.1 | exact hM.2.1 _ rfl | exact hM.2.2.1 _ rfl) z_cls7 hu_X6 31 (by decide) wb_666 rfl rfl dX6_way_178 ?_
            refine z_iload_n C dX6_way_181 rfl ?_
            refine z_iald C (by first | exact hM.1 | exact hM.2.1 _ rfl | exact hM.2.2.1 _ rfl) (by first | assumption | exact m_noG hN (by assumption)) (by first | exact hcli | rfl) dX6_way_182 ?_
            rw [w_row_at hrl0]
            refine z_ldc C wb_900 dX6_way_183 ?_
            refine z_icmp_ne C 193 dX6_way_185 (by decide) (fun h185 => ?_) (fun h185 => ?_)
            · refine z_aload_n C dX6_way_193 rfl ?_
              refine z_get C (by first | exact hM.1 | exact hM.2.1 _ rfl | exact hM.2.2.1 _ rfl) z_cls7 hu_X6 31 (by decide) wb_666 rfl rfl dX6_way_194 ?_
              refine z_iload_n C dX6_way_197 rfl ?_
              refine z_iald C (by first | exact hM.1 | exact hM.2.1 _ rfl | exact hM.2.2.1 _ rfl) (by first | assumption | exact m_noG hN (by assumption)) (by first | exact hcli | rfl) dX6_way_198 ?_
              rw [w_row_at hrl0]
              refine z_aload_n C dX6_way_199 rfl ?_
              refine z_get C (by first | exact hM.1 | exact hM.2.1 _ rfl | exact hM.2.2.1 _ rfl) z_cls7 hu_X6 17 (by decide) wb_652 rfl rfl dX6_way_200 ?_
              refine z_iload_n C dX6_way_203 rfl ?_
              refine z_iald C (by first | exact hM.1 | exact hM.2.1 _ rfl | exact hM.2.2.1 _ rfl) (by first | assumption | exact m_noG hN (by assumption)) (by first | exact hcli | rfl) dX6_way_204 ?_
              rw [w_row_ne (j := 17) (by decide), e17]
              refine z_isub C dX6_way_205 ?_
              exact z_iret C (by omega) (by omega) dX6_way_206 (by first | (refine ⟨by simp [F_way, *], M, m_Q.refl, hM⟩; done) | (refine ⟨congrArg (fun z => some (Value.int z)) ?_, _, w_row_Q, hM⟩; have hb := w_best_eq (m_wF hI) hO.1 (hO.2 rfl) (by omega) ht1 r.toNatClampNeg; unfold F_way; simp only [*, Bool.or_self, Bool.false_eq_true, if_false, if_true]; first | (rw [if_pos ((nI_inj (by have := hO.1.1 r.toNatClampNeg; omega) (by omega)).mp (by assumption))] at hb; exact hb) | (rw [if_neg (fun q => h185 (by rw [q]; rfl))] at hb; exact hb)))
            · refine z_bipush (v := (-6)) C dX6_way_188 (by decide) ?_
              refine z_goto C 206 dX6_way_190 (by decide) ?_
              exact z_iret C (by omega) (by omega) dX6_way_206 (by first | (refine ⟨by simp [F_way, *], M, m_Q.refl, hM⟩; done) | (refine ⟨congrArg (fun z => some (Value.int z)) ?_, _, w_row_Q, hM⟩; have hb := w_best_eq (m_wF hI) hO.1 (hO.2 rfl) (by omega) ht1 r.toNatClampNeg; unfold F_way; simp only [*, Bool.or_self, Bool.false_eq_true, if_false, if_true]; first | (rw [if_pos ((nI_inj (by have := hO.1.1 r.toNatClampNeg; omega) (by omega)).mp (by assumption))] at hb; exact hb) | (rw [if_neg (fun q => h185 (by rw [q]; rfl))] at hb; exact hb)))
          · subst h75
            refine z_iconst (v := 0) C dX6_way_78 (by decide) ?_
            refine z_istore_n C dX6_way_79 (by decide) ?_
            refine z_iconst (v := 0) C dX6_way_80 (by decide) ?_
            refine z_istore C dX6_way_81 (by decide) ?_
            refine z_loopS (fun q : Nat × (Nat → Nat) × Bool => nD - q.1) (fun q H1 => m_R G ad (w_row M nR q.2.1) H1 ∧ q.1 ≤ nD ∧ w_I nD (m_lo M) (m_hi M) (x_op M) (m_f M) (m_r0 M g) (m_t0 M g) 1000000000 x q.1 q.2.1 q.2.2) (fun q => [(0, .ref (ad 0)), (1, .int g), (2, .int r), (3, .int (z_b q.2.2)), (4, .int (nI q.1))]) (0, x, false) ⟨hM, Nat.zero_le _, w_I.zero hO⟩ ⟨rfl, rfl, rfl, rfl, rfl, trivial⟩ (fun q H2 hI2 ihI => ?_)
            obtain ⟨i, y, mi⟩ := q
            obtain ⟨hM, hi, hJ⟩ := hI2
            dsimp only at hM hi hJ ihI ⊢
            refine z_iload C dX6_way_83 rfl ?_
            refine z_aload_n C dX6_way_85 rfl ?_
            refine z_get C (by first | exact hM.1 | exact hM.2.1 _ rfl | exact hM.2.2.1 _ rfl) z_cls7 hu_X6 2 (by decide) wb_637 rfl rfl dX6_way_86 ?_
            refine z_icmp_ge C 174 dX6_way_89 (by decide) (fun h89 => ?_) (fun h89 => ?_)
            · have hend := z_ge hN.2.1.1 (by omega) hi h89
              rw [hend] at hJ
              refine z_goto C 74 dX6_way_174 (by decide) ?_
              exact ihO (y, mi) _ _ ⟨hM, hJ.out⟩ (hJ.mu (m_wF hI) hO.1 (by omega) (m_l12 hI)) ⟨rfl, rfl, rfl, rfl, trivial⟩
            · have hlti := z_lt hN.2.1.1 (by omega) hi h89
              have hin : vp_in (nI i) 16 := vp_in_nI (by omega) (by omega)
              have hcli : (nI i).toNatClampNeg = i := nI_clamp (by omega)
              refine z_aload_n C dX6_way_92 rfl ?_
              refine z_get C (by first | exact hM.1 | exact hM.2.1 _ rfl | exact hM.2.2.1 _ rfl) z_cls7 hu_X6 8 (by decide) wb_643 rfl rfl dX6_way_93 ?_
              refine z_iload C dX6_way_96 rfl ?_
              refine z_iald C (by first | exact hM.1 | exact hM.2.1 _ rfl | exact hM.2.2.1 _ rfl) (by first | assumption | exact m_noG hN (by assumption)) (by first | exact hcli | rfl) dX6_way_98 ?_
              rw [w_row_ne (j := 8) (by decide)]
              refine z_if_lt C 168 dX6_way_99 (by decide) (fun h99 => ?_) (fun h99 => ?_)
              · have hK := hJ.skip (m_wF hI) (show x_op M i = false by cases q : x_op M i with
                  | false => rfl
                  | true => exact absurd h99 (x_op_iff.mp q))
                refine z_iinc C dX6_way_168 rfl rfl (by decide) ?_
                refine z_goto C 83 dX6_way_171 (by decide) ?_
                first | exact absurd h159 (by decide) | exact ihI (i + 1, y, mi) _ _ ⟨hM, hlti, hK⟩ (by dsimp only; omega) ⟨rfl, rfl, rfl, rfl, z_lgI rfl (z_inc i), trivial⟩ | exact ihI (i + 1, _, _) _ _ ⟨hM, hlti, hJ.both (m_wF hI) hlti hop (m_l12 hI i hlti)⟩ (by dsimp only; omega) ⟨rfl, rfl, rfl, z_lgI rfl (by simp [z_b, *]), z_lgI rfl (z_inc i), trivial⟩
              · have hop : x_op M i = true := x_op_iff.mpr h99
                have hrl : m_lo M i < nR := m_lo12 hI hlti
                have hrh : m_hi M i < nR := m_hi12 hI hlti
                have hvl : vp_in (M.2 3 i) 12 := by rw [← x_n3 hI hlti]; exact vp_in_nI (by unfold m_lo at hrl; omega) (by omega)
                have hvh : vp_in (M.2 4 i) 12 := by rw [← x_n4 hI hlti]; exact vp_in_nI (by unfold m_hi at hrh; omega) (by omega)
                refine z_aload_n C dX6_way_102 rfl ?_
                refine z_aload_n C dX6_way_103 rfl ?_
                refine z_get C (by first | exact hM.1 | exact hM.2.1 _ rfl | exact hM.2.2.1 _ rfl) z_cls7 hu_X6 3 (by decide) wb_638 rfl rfl dX6_way_104 ?_
                refine z_iload C dX6_way_107 rfl ?_
                refine z_iald C (by first | exact hM.1 | exact hM.2.1 _ rfl | exact hM.2.2.1 _ rfl) (by first | assumption | exact m_noG hN (by assumption)) (by first | exact hcli | rfl) dX6_way_109 ?_
                rw [w_row_ne (j := 3) (by decide)]
                refine z_aload_n C dX6_way_110 rfl ?_
                refine z_get C (by first | exact hM.1 | exact hM.2.1 _ rfl | exact hM.2.2.1 _ rfl) z_cls7 hu_X6 4 (by decide) wb_639 rfl rfl dX6_way_111 ?_
                refine z_iload C dX6_way_114 rfl ?_
                refine z_iald C (by first | exact hM.1 | exact hM.2.1 _ rfl | exact hM.2.2.1 _ rfl) (by first | assumption | exact m_noG hN (by assumption)) (by first | exact hcli | rfl) dX6_way_116 ?_
                rw [w_row_ne (j := 4) (by decide)]
                refine z_iload C dX6_way_117 rfl ?_
                refine z_callV (As := [.int _, .int _, .int _]) C (c_X6_passes _ _ ad _ _ _ _ hvl hvh hin) kc_X6_passes wb_901 ⟨by decide, by decide⟩ hM.1 rfl (hM) (fun _ h => h) ⟨Nat.zero_le _, Nat.zero_le _⟩ (Nat.le_of_ble_eq_true rfl) dX6_way_119 (fun v H119 hq _ _ => ?_)
                obtain ⟨rfl, hM⟩ := hq
                rw [m_passes hI (r := m_lo M i) (r' := m_hi M i) rfl rfl hcli hrl hrh hlti hop hJ.1.1] at hM ⊢
                dsimp only at hM ⊢
                refine z_ifb_ne C 129 dX6_way_122 (by decide) (fun h122 => ?_) (fun h122 => ?_)
                · refine z_iconst (v := 1) C dX6_way_129 (by decide) ?_
                  refine z_goto C 134 dX6_way_130 (by decide) ?_
                  refine z_istore_n C dX6_way_134 (by decide) ?_
                  refine z_aload_n C dX6_way_135 rfl ?_
                  refine z_aload_n C dX6_way_136 rfl ?_
                  refine z_get C (by first | exact hM.1 | exact hM.2.1 _ rfl | exact hM.2.2.1 _ rfl) z_cls7 hu_X6 4 (by decide) wb_639 rfl rfl dX6_way_137 ?_
                  refine z_iload C dX6_way_140 rfl ?_
                  refine z_iald C (by first | exact hM.1 | exact hM.2.1 _ rfl | exact hM.2.2.1 _ rfl) (by first | assumption | exact m_noG hN (by assumption)) (by first | exact hcli | rfl) dX6_way_142 ?_
                  rw [w_row_ne (j := 4) (by decide)]
                  refine z_aload_n C dX6_way_143 rfl ?_
                  refine z_get C (by first | exact hM.1 | exact hM.2.1 _ rfl | exact hM.2.2.1 _ rfl) z_cls7 hu_X6 3 (by decide) wb_638 rfl rfl dX6_way_144 ?_
                  refine z_iload C dX6_way_147 rfl ?_
                  refine z_iald C (by first | exact hM.1 | exact hM.2.1 _ rfl | exact hM.2.2.1 _ rfl) (by first | assumption | exact m_noG hN (by assumption)) (by first | exact hcli | rfl) dX6_way_149 ?_
                  rw [w_row_ne (j := 3) (by decide)]
                  refine z_iload C dX6_way_150 rfl ?_
                  refine z_callV (As := [.int _, .int _, .int _]) C (c_X6_passes _ _ ad _ _ _ _ hvh hvl hin) kc_X6_passes wb_901 ⟨by decide, by decide⟩ hM.1 rfl (hM) (fun _ h => h) ⟨Nat.zero_le _, Nat.zero_le _⟩ (Nat.le_of_ble_eq_true rfl) dX6_way_152 (fun v H152 hq _ _ => ?_)
                  obtain ⟨rfl, hM⟩ := hq
                  rw [m_passes hI (r := m_hi M i) (r' := m_lo M i) rfl rfl hcli hrh hrl hlti hop (fun q => Nat.le_trans (w_v_le q) (hJ.1.1 q))] at hM ⊢
                  dsimp only at hM ⊢
                  refine z_ifb_ne C 162 dX6_way_155 (by decide) (fun h155 => ?_) (fun h155 => ?_)
                  · refine z_iconst (v := 1) C dX6_way_162 (by decide) ?_
                    refine z_goto C 167 dX6_way_163 (by decide) ?_
                    refine z_istore_n C dX6_way_167 (by decide) ?_
                    refine z_iinc C dX6_way_168 rfl rfl (by decide) ?_
                    refine z_goto C 83 dX6_way_171 (by decide) ?_
                    first | exact absurd h159 (by decide) | exact ihI (i + 1, y, mi) _ _ ⟨hM, hlti, hK⟩ (by dsimp only; omega) ⟨rfl, rfl, rfl, rfl, z_lgI rfl (z_inc i), trivial⟩ | exact ihI (i + 1, _, _) _ _ ⟨hM, hlti, hJ.both (m_wF hI) hlti hop (m_l12 hI i hlti)⟩ (by dsimp only; omega) ⟨rfl, rfl, rfl, z_lgI rfl (by simp [z_b, *]), z_lgI rfl (z_inc i), trivial⟩
                  · refine z_iload_n C dX6_way_158 rfl ?_
                    refine z_if_eq C 166 dX6_way_159 (by decide) (fun h159 => ?_) (fun h159 => ?_)
                    · refine z_iconst (v := 0) C dX6_way_166 (by decide) ?_
                      refine z_istore_n C dX6_way_167 (by decide) ?_
                      refine z_iinc C dX6_way_168 rfl rfl (by decide) ?_
                      refine z_goto C 83 dX6_way_171 (by decide) ?_
                      first | exact absurd h159 (by decide) | exact ihI (i + 1, y, mi) _ _ ⟨hM, hlti, hK⟩ (by dsimp only; omega) ⟨rfl, rfl, rfl, rfl, z_lgI rfl (z_inc i), trivial⟩ | exact ihI (i + 1, _, _) _ _ ⟨hM, hlti, hJ.both (m_wF hI) hlti hop (m_l12 hI i hlti)⟩ (by dsimp only; omega) ⟨rfl, rfl, rfl, z_lgI rfl (by simp [z_b, *]), z_lgI rfl (z_inc i), trivial⟩
                    · refine z_iconst (v := 1) C dX6_way_162 (by decide) ?_
                      refine z_goto C 167 dX6_way_163 (by decide) ?_
                      refine z_istore_n C dX6_way_167 (by decide) ?_
                      refine z_iinc C dX6_way_168 rfl rfl (by decide) ?_
                      refine z_goto C 83 dX6_way_171 (by decide) ?_
                      first | exact absurd h159 (by decide) | exact ihI (i + 1, y, mi) _ _ ⟨hM, hlti, hK⟩ (by dsimp only; omega) ⟨rfl, rfl, rfl, rfl, z_lgI rfl (z_inc i), trivial⟩ | exact ihI (i + 1, _, _) _ _ ⟨hM, hlti, hJ.both (m_wF hI) hlti hop (m_l12 hI i hlti)⟩ (by dsimp only; omega) ⟨rfl, rfl, rfl, z_lgI rfl (by simp [z_b, *]), z_lgI rfl (z_inc i), trivial⟩
                · refine z_iload_n C dX6_way_125 rfl ?_
                  refine z_ifb_eq C 133 dX6_way_126 (by decide) (fun h126 => ?_) (fun h126 => ?_)
                  · refine z_iconst (v := 0) C dX6_way_133 (by decide) ?_
                    refine z_istore_n C dX6_way_134 (by decide) ?_
                    refine z_aload_n C dX6_way_135 rfl ?_
                    refine z_aload_n C dX6_way_136 rfl ?_
                    refine z_get C (by first | exact hM.1 | exact hM.2.1 _ rfl | exact hM.2.2.1 _ rfl) z_cls7 hu_X6 4 (by decide) wb_639 rfl rfl dX6_way_137 ?_
                    refine z_iload C dX6_way_140 rfl ?_
                    refine z_iald C (by first | exact hM.1 | exact hM.2.1 _ rfl | exact hM.2.2.1 _ rfl) (by first | assumption | exact m_noG hN (by assumption)) (by first | exact hcli | rfl) dX6_way_142 ?_
                    rw [w_row_ne (j := 4) (by decide)]
                    refine z_aload_n C dX6_way_143 rfl ?_
                    refine z_get C (by first | exact hM.1 | exact hM.2.1 _ rfl | exact hM.2.2.1 _ rfl) z_cls7 hu_X6 3 (by decide) wb_638 rfl rfl dX6_way_144 ?_
                    refine z_iload C dX6_way_147 rfl ?_
                    refine z_iald C (by first | exact hM.1 | exact hM.2.1 _ rfl | exact hM.2.2.1 _ rfl) (by first | assumption | exact m_noG hN (by assumption)) (by first | exact hcli | rfl) dX6_way_149 ?_
                    rw [w_row_ne (j := 3) (by decide)]
                    refine z_iload C dX6_way_150 rfl ?_
                    refine z_callV (As := [.int _, .int _, .int _]) C (c_X6_passes _ _ ad _ _ _ _ hvh hvl hin) kc_X6_passes wb_901 ⟨by decide, by decide⟩ hM.1 rfl (hM) (fun _ h => h) ⟨Nat.zero_le _, Nat.zero_le _⟩ (Nat.le_of_ble_eq_true rfl) dX6_way_152 (fun v H152 hq _ _ => ?_)
                    obtain ⟨rfl, hM⟩ := hq
                    rw [m_passes hI (r := m_hi M i) (r' := m_lo M i) rfl rfl hcli hrh hrl hlti hop (fun q => Nat.le_trans (w_v_le q) (hJ.1.1 q))] at hM ⊢
                    dsimp only at hM ⊢
                    refine z_ifb_ne C 162 dX6_way_155 (by decide) (fun h155 => ?_) (fun h155 => ?_)
                    · refine z_iconst (v := 1) C dX6_way_162 (by decide) ?_
                      refine z_goto C 167 dX6_way_163 (by decide) ?_
                      refine z_istore_n C dX6_way_167 (by decide) ?_
                      refine z_iinc C dX6_way_168 rfl rfl (by decide) ?_
                      refine z_goto C 83 dX6_way_171 (by decide) ?_
                      first | exact absurd h159 (by decide) | exact ihI (i + 1, y, mi) _ _ ⟨hM, hlti, hK⟩ (by dsimp only; omega) ⟨rfl, rfl, rfl, rfl, z_lgI rfl (z_inc i), trivial⟩ | exact ihI (i + 1, _, _) _ _ ⟨hM, hlti, hJ.both (m_wF hI) hlti hop (m_l12 hI i hlti)⟩ (by dsimp only; omega) ⟨rfl, rfl, rfl, z_lgI rfl (by simp [z_b, *]), z_lgI rfl (z_inc i), trivial⟩
                    · refine z_iload_n C dX6_way_158 rfl ?_
                      refine z_if_eq C 166 dX6_way_159 (by decide) (fun h159 => ?_) (fun h159 => ?_)
                      · refine z_iconst (v := 0) C dX6_way_166 (by decide) ?_
                        refine z_istore_n C dX6_way_167 (by decide) ?_
                        refine z_iinc C dX6_way_168 rfl rfl (by decide) ?_
                        refine z_goto C 83 dX6_way_171 (by decide) ?_
                        first | exact absurd h159 (by decide) | exact ihI (i + 1, y, mi) _ _ ⟨hM, hlti, hK⟩ (by dsimp only; omega) ⟨rfl, rfl, rfl, rfl, z_lgI rfl (z_inc i), trivial⟩ | exact ihI (i + 1, _, _) _ _ ⟨hM, hlti, hJ.both (m_wF hI) hlti hop (m_l12 hI i hlti)⟩ (by dsimp only; omega) ⟨rfl, rfl, rfl, z_lgI rfl (by simp [z_b, *]), z_lgI rfl (z_inc i), trivial⟩
                      · refine z_iconst (v := 1) C dX6_way_162 (by decide) ?_
                        refine z_goto C 167 dX6_way_163 (by decide) ?_
                        refine z_istore_n C dX6_way_167 (by decide) ?_
                        refine z_iinc C dX6_way_168 rfl rfl (by decide) ?_
                        refine z_goto C 83 dX6_way_171 (by decide) ?_
                        first | exact absurd h159 (by decide) | exact ihI (i + 1, y, mi) _ _ ⟨hM, hlti, hK⟩ (by dsimp only; omega) ⟨rfl, rfl, rfl, rfl, z_lgI rfl (z_inc i), trivial⟩ | exact ihI (i + 1, _, _) _ _ ⟨hM, hlti, hJ.both (m_wF hI) hlti hop (m_l12 hI i hlti)⟩ (by dsimp only; omega) ⟨rfl, rfl, rfl, z_lgI rfl (by simp [z_b, *]), z_lgI rfl (z_inc i), trivial⟩
                  · refine z_iconst (v := 1) C dX6_way_129 (by decide) ?_
                    refine z_goto C 134 dX6_way_130 (by decide) ?_
                    refine z_istore_n C dX6_way_134 (by decide) ?_
                    refine z_aload_n C dX6_way_135 rfl ?_
                    refine z_aload_n C dX6_way_136 rfl ?_
                    refine z_get C (by first | exact hM.1 | exact hM.2.1 _ rfl | exact hM.2.2.1 _ rfl) z_cls7 hu_X6 4 (by decide) wb_639 rfl rfl dX6_way_137 ?_
                    refine z_iload C dX6_way_140 rfl ?_
                    refine z_iald C (by first | exact hM.1 | exact hM.2.1 _ rfl | exact hM.2.2.1 _ rfl) (by first | assumption | exact m_noG hN (by assumption)) (by first | exact hcli | rfl) dX6_way_142 ?_
                    rw [w_row_ne (j := 4) (by decide)]
                    refine z_aload_n C dX6_way_143 rfl ?_
                    refine z_get C (by first | exact hM.1 | exact hM.2.1 _ rfl | exact hM.2.2.1 _ rfl) z_cls7 hu_X6 3 (by decide) wb_638 rfl rfl dX6_way_144 ?_
                    refine z_iload C dX6_way_147 rfl ?_
                    refine z_iald C (by first | exact hM.1 | exact hM.2.1 _ rfl | exact hM.2.2.1 _ rfl) (by first | assumption | exact m_noG hN (by assumption)) (by first | exact hcli | rfl) dX6_way_149 ?_
                    rw [w_row_ne (j := 3) (by decide)]
                    refine z_iload C dX6_way_150 rfl ?_
                    refine z_callV (As := [.int _, .int _, .int _]) C (c_X6_passes _ _ ad _ _ _ _ hvh hvl hin) kc_X6_passes wb_901 ⟨by decide, by decide⟩ hM.1 rfl (hM) (fun _ h => h) ⟨Nat.zero_le _, Nat.zero_le _⟩ (Nat.le_of_ble_eq_true rfl) dX6_way_152 (fun v H152 hq _ _ => ?_)
                    obtain ⟨rfl, hM⟩ := hq
                    rw [m_passes hI (r := m_hi M i) (r' := m_lo M i) rfl rfl hcli hrh hrl hlti hop (fun q => Nat.le_trans (w_v_le q) (hJ.1.1 q))] at hM ⊢
                    dsimp only at hM ⊢
                    refine z_ifb_ne C 162 dX6_way_155 (by decide) (fun h155 => ?_) (fun h155 => ?_)
                    · refine z_iconst (v := 1) C dX6_way_162 (by decide) ?_
                      refine z_goto C 167 dX6_way_163 (by decide) ?_
                      refine z_istore_n C dX6_way_167 (by decide) ?_
                      refine z_iinc C dX6_way_168 rfl rfl (by decide) ?_
                      refine z_goto C 83 dX6_way_171 (by decide) ?_
                      first | exact absurd h159 (by decide) | exact ihI (i + 1, y, mi) _ _ ⟨hM, hlti, hK⟩ (by dsimp only; omega) ⟨rfl, rfl, rfl, rfl, z_lgI rfl (z_inc i), trivial⟩ | exact ihI (i + 1, _, _) _ _ ⟨hM, hlti, hJ.both (m_wF hI) hlti hop (m_l12 hI i hlti)⟩ (by dsimp only; omega) ⟨rfl, rfl, rfl, z_lgI rfl (by simp [z_b, *]), z_lgI rfl (z_inc i), trivial⟩
                    · refine z_iload_n C dX6_way_158 rfl ?_
                      refine z_if_eq C 166 dX6_way_159 (by decide) (fun h159 => ?_) (fun h159 => ?_)
                      · refine z_iconst (v := 0) C dX6_way_166 (by decide) ?_
                        refine z_istore_n C dX6_way_167 (by decide) ?_
                        refine z_iinc C dX6_way_168 rfl rfl (by decide) ?_
                        refine z_goto C 83 dX6_way_171 (by decide) ?_
                        first | exact absurd h159 (by decide) | exact ihI (i + 1, y, mi) _ _ ⟨hM, hlti, hK⟩ (by dsimp only; omega) ⟨rfl, rfl, rfl, rfl, z_lgI rfl (z_inc i), trivial⟩ | exact ihI (i + 1, _, _) _ _ ⟨hM, hlti, hJ.both (m_wF hI) hlti hop (m_l12 hI i hlti)⟩ (by dsimp only; omega) ⟨rfl, rfl, rfl, z_lgI rfl (by simp [z_b, *]), z_lgI rfl (z_inc i), trivial⟩
                      · refine z_iconst (v := 1) C dX6_way_162 (by decide) ?_
                        refine z_goto C 167 dX6_way_163 (by decide) ?_
                        refine z_istore_n C dX6_way_167 (by decide) ?_
                        refine z_iinc C dX6_way_168 rfl rfl (by decide) ?_
                        refine z_goto C 83 dX6_way_171 (by decide) ?_
                        first | exact absurd h159 (by decide) | exact ihI (i + 1, y, mi) _ _ ⟨hM, hlti, hK⟩ (by dsimp only; omega) ⟨rfl, rfl, rfl, rfl, z_lgI rfl (z_inc i), trivial⟩ | exact ihI (i + 1, _, _) _ _ ⟨hM, hlti, hJ.both (m_wF hI) hlti hop (m_l12 hI i hlti)⟩ (by dsimp only; omega) ⟨rfl, rfl, rfl, z_lgI rfl (by simp [z_b, *]), z_lgI rfl (z_inc i), trivial⟩
        · have hlti := z_lt hN.1.1 (by omega) hi h36
          have hin : vp_in (nI i) 12 := vp_in_nI (by omega) (by omega)
          have hcli : (nI i).toNatClampNeg = i := nI_clamp (by omega)
          refine z_aload_n C dX6_way_39 rfl ?_
          refine z_get C (by first | exact hM.1 | exact hM.2.1 _ rfl | exact hM.2.2.1 _ rfl) z_cls7 hu_X6 31 (by decide) wb_666 rfl rfl dX6_way_40 ?_
          refine z_iload_n C dX6_way_43 rfl ?_
          refine z_iload_n C dX6_way_44 rfl ?_
          refine z_aload_n C dX6_way_45 rfl ?_
          refine z_get C (by first | exact hM.1 | exact hM.2.1 _ rfl | exact hM.2.2.1 _ rfl) z_cls7 hu_X6 16 (by decide) wb_651 rfl rfl dX6_way_46 ?_
          refine z_iload_n C dX6_way_49 rfl ?_
          refine z_iald C (by first | exact hM.1 | exact hM.2.1 _ rfl | exact hM.2.2.1 _ rfl) (by first | assumption | exact m_noG hN (by assumption)) (by first | exact hcli | rfl) dX6_way_50 ?_
          rw [w_row_ne (j := 16) (by decide), ← e16]
          refine z_icmp_ne C 63 dX6_way_51 (by decide) (fun h51 => ?_) (fun h51 => ?_)
          · have hne : ¬ i = m_r0 M g := fun q => h51 (by rw [q]; rfl)
            refine z_ldc C wb_900 dX6_way_63 ?_
            refine z_iast C (by first | exact hM.1 | exact hM.2.1 _ rfl | exact hM.2.2.1 _ rfl) (by exact ⟨_, rfl, rfl⟩) (by first | assumption | exact m_noG hN (by assumption)) (by first | exact hcli | rfl) dX6_way_65 (fun H65 hU65 => ?_)
            have hM := hM.sI hU65 rfl
            rw [w_row_fill (by first | (rw [w_row_ne (j := 17) (by decide), e17]; subst heq; exact congrArg nI w_u_at.symm) | exact congrArg nI (show 1000000000 = w_a0 1000000000 (m_r0 M g) (m_t0 M g) i from (w_u_ne (a := fun _ => 1000000000) hne).symm))] at hM
            refine z_iinc C dX6_way_66 rfl rfl (by decide) ?_
            refine z_goto C 31 dX6_way_69 (by decide) ?_
            exact ihi (i + 1) _ _ ⟨hlti, hM⟩ (by omega) ⟨rfl, rfl, rfl, z_lgI rfl (z_inc i), trivial⟩
          · have heq : i = m_r0 M g := (nI_inj (by omega) (by omega)).mp h51
            refine z_aload_n C dX6_way_54 rfl ?_
            refine z_get C (by first | exact hM.1 | exact hM.2.1 _ rfl | exact hM.2.2.1 _ rfl) z_cls7 hu_X6 17 (by decide) wb_652 rfl rfl dX6_way_55 ?_
            refine z_iload_n C dX6_way_58 rfl ?_
            refine z_iald C (by first | exact hM.1 | exact hM.2.1 _ rfl | exact hM.2.2.1 _ rfl) (by first | assumption | exact m_noG hN (by assumption)) (by first | exact hcli | rfl) dX6_way_59 ?_
            refine z_goto C 65 dX6_way_60 (by decide) ?_
            refine z_iast C (by first | exact hM.1 | exact hM.2.1 _ rfl | exact hM.2.2.1 _ rfl) (by exact ⟨_, rfl, rfl⟩) (by first | assumption | exact m_noG hN (by assumption)) (by first | exact hcli | rfl) dX6_way_65 (fun H65 hU65 => ?_)
            have hM := hM.sI hU65 rfl
            rw [w_row_fill (by first | (rw [w_row_ne (j := 17) (by decide), e17]; subst heq; exact congrArg nI w_u_at.symm) | exact congrArg nI (show 1000000000 = w_a0 1000000000 (m_r0 M g) (m_t0 M g) i from (w_u_ne (a := fun _ => 1000000000) hne).symm))] at hM
            refine z_iinc C dX6_way_66 rfl rfl (by decide) ?_
            refine z_goto C 31 dX6_way_69 (by decide) ?_
            exact ihi (i + 1) _ _ ⟨hlti, hM⟩ (by omega) ⟨rfl, rfl, rfl, z_lgI rfl (z_inc i), trivial⟩
      · refine z_bipush (v := (-4)) C dX6_way_26 (by decide) ?_
        exact z_iret C (by omega) (by omega) dX6_way_28 (by first | (refine ⟨by simp [F_way, *], M, m_Q.refl, hM⟩; done) | (refine ⟨congrArg (fun z => some (Value.int z)) ?_, _, w_row_Q, hM⟩; have hb := w_best_eq (m_wF hI) hO.1 (hO.2 rfl) (by omega) ht1 r.toNatClampNeg; unfold F_way; simp only [*, Bool.or_self, Bool.false_eq_true, if_false, if_true]; first | (rw [if_pos ((nI_inj (by have := hO.1.1 r.toNatClampNeg; omega) (by omega)).mp (by assumption))] at hb; exact hb) | (rw [if_neg (fun q => h185 (by rw [q]; rfl))] at hb; exact hb)))
    · refine z_iconst (v := (-1)) C dX6_way_16 (by decide) ?_
      exact z_iret C (by omega) (by omega) dX6_way_17 (by first | (refine ⟨by simp [F_way, *], M, m_Q.refl, hM⟩; done) | (refine ⟨congrArg (fun z => some (Value.int z)) ?_, _, w_row_Q, hM⟩; have hb := w_best_eq (m_wF hI) hO.1 (hO.2 rfl) (by omega) ht1 r.toNatClampNeg; unfold F_way; simp only [*, Bool.or_self, Bool.false_eq_true, if_false, if_true]; first | (rw [if_pos ((nI_inj (by have := hO.1.1 r.toNatClampNeg; omega) (by omega)).mp (by assumption))] at hb; exact hb) | (rw [if_neg (fun q => h185 (by rw [q]; rfl))] at hb; exact hb)))
