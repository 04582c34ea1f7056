/-! the law's loop -/
section YLP
variable {p : Program} {l : Launch} {e : Env} {s : State} {m : MethodId} {args : Array Value} {below : List Frame} {meth : Method} {c : Code} {cells slots : Nat} {Q : State → Prop} {H : Heap} {nm : String} {G : z_G} {b ax e0 nR nD nK nG n w d k L : Nat} {xs : Nat → Int32} {M : m_S} {t4 xg xh sv bs st : Int32}
set_option maxHeartbeats 4000000 in
set_option maxRecDepth 100000 in
theorem yw_ev (C : z_C p s m args meth c cL_law "EscapeRoomsLaw" ret 17 nm G) (hS : y_S G s.heap.size ax nR nD nK nG M t4 H) (hI : m_I nR nD nK nG M) (hJ : y_J nD nK nG M) (hH : m_Hn M nG n) (ht : t4 = nI n) (hn1 : n ≤ 1000) (hR : 3 ≤ nR) (hw : w < nG) (hd : d < nD) (hk : k < nK) (hc : cells + 6 ≤ room_1.cells ∧ slots + 102 ≤ room_1.slots) (hn : ∀ bs st H', y_End G s.heap.size ax nR nD nK nG n bs st H' → z_Z p l e room_1 s m args below meth c (fun q => s.heap.size ≤ q) 17 (cells + 6) (slots + 102) Q H' 906 [(0, .ref b), (1, .ref ax), (2, .int (nI nR)), (3, .int bs), (4, .int st), (5, .int (nI e0))] []) : z_Z p l e room_1 s m args below meth c (fun q => s.heap.size ≤ q) 17 cells slots Q H 180 [(0, .ref b), (1, .ref ax), (2, .int (nI nR)), (3, .int (M.1 20)), (4, .int (M.1 21)), (5, .int (nI e0)), (6, .int xg), (7, .int xh), (8, .int sv), (9, .int (nI w)), (10, .int (nI d)), (11, .int (nI k))] [] := by
  refine z_iload C dL_law_180 rfl ?_
  refine z_if_ne C 256 dL_law_182 (by decide) (fun h182 => ?_) (fun h182 => ?_)
  · refine z_iload C dL_law_256 rfl ?_
    refine z_iconst (v := 3) C dL_law_258 (by decide) ?_
    refine z_icmp_ge C 395 dL_law_259 (by decide) (fun h259 => ?_) (fun h259 => ?_)
    · refine z_iload C dL_law_395 rfl ?_
      refine z_iconst (v := 5) C dL_law_397 (by decide) ?_
      refine z_icmp_ge C 446 dL_law_398 (by decide) (fun h398 => ?_) (fun h398 => ?_)
      · refine z_iload C dL_law_446 rfl ?_
        refine z_iconst (v := 5) C dL_law_448 (by decide) ?_
        refine z_icmp_ne C 493 dL_law_449 (by decide) (fun h449 => ?_) (fun h449 => ?_)
        · refine z_iload C dL_law_493 rfl ?_
          refine z_bipush (v := 6) C dL_law_495 (by decide) ?_
          refine z_icmp_ne C 577 dL_law_497 (by decide) (fun h497 => ?_) (fun h497 => ?_)
          · refine z_iload C dL_law_577 rfl ?_
            refine z_bipush (v := 10) C dL_law_579 (by decide) ?_
            refine z_icmp_ge C 597 dL_law_581 (by decide) (fun h581 => ?_) (fun h581 => ?_)
            · refine z_iload C dL_law_597 rfl ?_
              refine z_bipush (v := 10) C dL_law_599 (by decide) ?_
              refine z_icmp_ne C 617 dL_law_601 (by decide) (fun h601 => ?_) (fun h601 => ?_)
              · refine z_iload C dL_law_617 rfl ?_
                refine z_bipush (v := 13) C dL_law_619 (by decide) ?_
                refine z_icmp_ge C 659 dL_law_621 (by decide) (fun h621 => ?_) (fun h621 => ?_)
                · refine z_iload C dL_law_659 rfl ?_
                  refine z_bipush (v := 13) C dL_law_661 (by decide) ?_
                  refine z_icmp_ne C 681 dL_law_663 (by decide) (fun h663 => ?_) (fun h663 => ?_)
                  · refine z_iload C dL_law_681 rfl ?_
                    refine z_bipush (v := 14) C dL_law_683 (by decide) ?_
                    refine z_icmp_ne C 702 dL_law_685 (by decide) (fun h685 => ?_) (fun h685 => ?_)
                    · refine z_iload C dL_law_702 rfl ?_
                      refine z_bipush (v := 15) C dL_law_704 (by decide) ?_
                      refine z_icmp_ne C 748 dL_law_706 (by decide) (fun h706 => ?_) (fun h706 => ?_)
                      · exact yc_16 C hS hI hJ hH ht hn1 hR hw hd hk hc hn
                      · exact yc_15 C hS hI hJ hH ht hn1 hR hw hd hk hc hn
                    · exact yc_14 C hS hI hJ hH ht hn1 hR hw hd hk hc hn
                  · exact yc_13 C hS hI hJ hH ht hn1 hR hw hd hk hc hn
                · exact yc_11 C hS hI hJ hH ht hn1 hR hw hd hk hc hn
              · exact yc_10 C hS hI hJ hH ht hn1 hR hw hd hk hc hn
            · exact yc_7 C hS hI hJ hH ht hn1 hR hw hd hk hc hn
          · exact yc_6 C hS hI hJ hH ht hn1 hR hw hd hk hc hn
        · exact yc_5 C hS hI hJ hH ht hn1 hR hw hd hk hc hn
      · exact yc_3 C hS hI hJ hH ht hn1 hR hw hd hk hc hn
    · exact yc_1 C hS hI hJ hH ht hn1 hR hw hd hk hc hn
  · exact yc_0 C hS hI hJ hH ht hn1 hR hw hd hk hc hn
/-- what holds at the head of the law's loop -/
def y_St (G : z_G) (b0 ax nR i : Nat) (bs st : Int32) (H : Heap) : Prop := ∃ (M : m_S) (t4 : Int32) (nD nK nG n : Nat), y_S G b0 ax nR nD nK nG M t4 H ∧ m_I nR nD nK nG M ∧ y_J nD nK nG M ∧ m_Hn M nG n ∧ t4 = nI n ∧ n ≤ i + 1 ∧ 0 < nD ∧ 0 < nK ∧ 0 < nG ∧ M.1 20 = bs ∧ M.1 21 = st
set_option maxHeartbeats 4000000 in
set_option maxRecDepth 100000 in
theorem yw_906 (C : z_C p s m args meth c cL_law "EscapeRoomsLaw" ret 17 nm G) (hE : y_End G s.heap.size ax nR nD nK nG n bs st H) (hn0 : n ≤ e0 + 1) (hR : 3 ≤ nR) (hD0 : 0 < nD) (hK0 : 0 < nK) (hG0 : 0 < nG) (hc : cells + 8 ≤ room_1.cells ∧ slots + 48 ≤ room_1.slots) (ih : ∀ H' L', y_St G s.heap.size ax nR (e0 + 1) bs st H' → z_all [(0, .ref b), (1, .ref ax), (2, .int (nI nR)), (3, .int bs), (4, .int st), (5, .int (nI (e0 + 1)))] L' → z_Z p l e room_1 s m args below meth c (fun q => s.heap.size ≤ q) 17 (cells + 8) (slots + 48) Q H' 82 L' []) : z_Z p l e room_1 s m args below meth c (fun q => s.heap.size ≤ q) 17 cells slots Q H 906 [(0, .ref b), (1, .ref ax), (2, .int (nI nR)), (3, .int bs), (4, .int st), (5, .int (nI e0))] [] := by
  obtain ⟨M2, t4, nD2, nK2, nG2, n2, hS, hI, hJ, hH, ht, hn2, hD2, hK2, hG2, h20, h21⟩ := hE
  have hs := y_nsm hI
  refine z_aload_n C dL_law_906 rfl ?_
  refine z_callS (As := [.ref _]) C (c_L_agrees _ _ s.heap.size ax M2 t4 hI hJ (ht.trans hH.hints.symm) (by omega)) kc_L_agrees wb_p522 ⟨by decide, by decide⟩ hS (fun q hq => hq) ⟨by omega, by omega⟩ (Nat.le_of_ble_eq_true rfl) dL_law_907 (fun v H907 hq _ _ => ?_)
  obtain ⟨rfl, hS⟩ := hq
  refine z_if_ne C 915 dL_law_910 (by decide) (fun h910 => ?_) (fun h910 => ?_)
  · refine z_iinc C dL_law_915 rfl rfl (by decide) ?_
    refine z_goto C 82 dL_law_918 (by decide) ?_
    refine z_widen (k2 := cells + 8) (n2 := slots + 48) (by omega) (by omega) ?_
    exact ih _ _ ⟨M2, t4, nD2, nK2, nG2, n2, hS, hI, hJ, hH, ht, by omega, by omega, by omega, by omega, h20, h21⟩ ⟨rfl, rfl, rfl, rfl, rfl, z_lgI rfl (z_inc e0), trivial⟩
  · exact absurd h910 (by decide)
set_option maxHeartbeats 4000000 in
set_option maxRecDepth 100000 in
theorem yw_loop (C : z_C p s m args meth c cL_law "EscapeRoomsLaw" ret 17 nm G) (hV : va_X b L xs s s.heap) (hbl : b < s.heap.size) (hL : L ≤ 260) (hR : 3 ≤ nR)
    (hnd : ∀ H Lo k n, k ≤ 600000 → n ≤ 7302250 → z_Z p l e room_1 s m args below meth c (fun q => s.heap.size ≤ q) 17 k n Q H 925 Lo [.int 1]) (h0 : y_St G s.heap.size ax nR 0 bs st H) : z_Z p l e room_1 s m args below meth c (fun q => s.heap.size ≤ q) 17 60 3000 Q H 82 [(0, .ref b), (1, .ref ax), (2, .int (nI nR)), (3, .int bs), (4, .int st), (5, .int (nI 0))] [] := by
  refine z_loopG (fun q : Nat × Int32 × Int32 => (60 + 14 * q.1, 3000 + 150 * q.1)) (fun q => 40 - q.1) (fun q H1 => q.1 ≤ 40 ∧ y_St G s.heap.size ax nR q.1 q.2.1 q.2.2 H1) (fun q => [(0, .ref b), (1, .ref ax), (2, .int (nI nR)), (3, .int q.2.1), (4, .int q.2.2), (5, .int (nI q.1))]) (0, bs, st) ⟨Nat.zero_le _, h0⟩ ⟨rfl, rfl, rfl, rfl, rfl, rfl, trivial⟩ (fun q H1 hI1 ih => ?_)
  obtain ⟨e0, bs, st⟩ := q
  obtain ⟨he, M, t4, nD, nK, nG, n, hS, hI, hJ, hH, ht, hn0, hD0, hK0, hG0, h20, h21⟩ := hI1
  dsimp only at he hn0 h20 h21 ih ⊢
  subst h20
  subst h21
  have hs := y_nsm hI
  have hS2 := hS
  obtain ⟨ad, hax, hX, hB⟩ := hS2
  refine z_iload C dL_law_82 rfl ?_
  refine z_bipush (v := 40) C dL_law_84 (by decide) ?_
  refine z_icmp_ge C 921 dL_law_86 (by decide) (fun h86 => ?_) (fun h86 => ?_)
  · have he40 : e0 = 40 := z_ge (n := 40) rfl (by omega) he h86
    subst he40
    refine z_aload_n C dL_law_921 rfl ?_
    refine z_callS (As := [.ref _]) C (c_L_errors _ _ s.heap.size ax M t4 hI hH (by omega) hR hG0) kc_L_errors wb_p663 ⟨by decide, by decide⟩ hS (fun q hq => hq) ⟨by show _ ≤ 600000; omega, by show _ ≤ 7302250; omega⟩ (Nat.le_of_ble_eq_true rfl) dL_law_922 (fun v H922 hq _ _ => ?_)
    obtain rfl := hq
    exact hnd _ _ _ _ (by omega) (by omega)
  · have he2 : e0 < 40 := z_lt (n := 40) rfl (by omega) he h86
    refine z_aload_n C dL_law_89 rfl ?_
    refine z_iconst (v := 1) C dL_law_90 (by decide) ?_
    refine z_iconst (v := 2) C dL_law_91 (by decide) ?_
    refine z_iload C dL_law_92 rfl ?_
    refine z_imul C dL_law_94 ?_
    refine z_iadd C dL_law_95 ?_
    refine z_eqst (st2 := [.int (nI (1 + 2 * e0)), .ref b]) (by rw [show nI (1 + 2 * e0) = 1 + 2 * nI e0 from (by rw [← nI_add, ← nI_mulN]; rfl)]) ?_
    refine y_callCell (k := 1 + 2 * e0) C hV hbl (Nat.not_le.mpr hbl) (by omega) (by omega) wb_p514 ⟨by decide, by decide⟩ ⟨by show _ ≤ 600000; omega, by show _ ≤ 7302250; omega⟩ (Nat.le_of_ble_eq_true rfl) dL_law_96 ?_
    refine z_istore C dL_law_99 (by decide) ?_
    refine z_aload_n C dL_law_101 rfl ?_
    refine z_iconst (v := 2) C dL_law_102 (by decide) ?_
    refine z_iconst (v := 2) C dL_law_103 (by decide) ?_
    refine z_iload C dL_law_104 rfl ?_
    refine z_imul C dL_law_106 ?_
    refine z_iadd C dL_law_107 ?_
    refine z_eqst (st2 := [.int (nI (2 + 2 * e0)), .ref b]) (by rw [show nI (2 + 2 * e0) = 2 + 2 * nI e0 from (by rw [← nI_add, ← nI_mulN]; rfl)]) ?_
    refine y_callCell (k := 2 + 2 * e0) C hV hbl (Nat.not_le.mpr hbl) (by omega) (by omega) wb_p514 ⟨by decide, by decide⟩ ⟨by show _ ≤ 600000; omega, by show _ ≤ 7302250; omega⟩ (Nat.le_of_ble_eq_true rfl) dL_law_108 ?_
    refine z_istore C dL_law_111 (by decide) ?_
    refine z_join 136 (if e0 < 6 then y_low (y_cell L xs (1 + 2 * e0)) 5 else y_low (y_cell L xs (1 + 2 * e0)) 17) ?_ (fun kJ136 => ?_)
    · refine z_istore C dL_law_136 (by decide) ?_
      refine z_iload C dL_law_138 rfl ?_
      refine z_iconst (v := 5) C dL_law_140 (by decide) ?_
      refine z_ishr C dL_law_141 ?_
      refine z_istore C dL_law_142 (by decide) ?_
      refine z_iload C dL_law_144 rfl ?_
      refine z_aload_n C dL_law_146 rfl ?_
      refine z_iconst (v := 3) C dL_law_147 (by decide) ?_
      refine y_callR (As := [.int _]) C hX hax (fun T hT4 => c_X5_countR _ _ ad M T hI _ (by decide) (fun h => absurd h (by decide))) kc_X5_count wb_p434 ⟨by decide, by decide⟩ ⟨by show _ ≤ 600000; omega, by show _ ≤ 7302250; omega⟩ (Nat.le_of_ble_eq_true rfl) dL_law_148 ?_
      rw [y_c3 hI]
      refine z_callSR (As := [.int _, .int _]) C (c_L_low _ _ _ _ (nI_ne0 (by omega) (by omega))) kc_L_low wb_p518 ⟨by decide, by decide⟩ trivial ⟨by show _ ≤ 600000; omega, by show _ ≤ 7302250; omega⟩ (Nat.le_of_ble_eq_true rfl) dL_law_151 ?_
      obtain ⟨w, hw, ew⟩ := y_low_lt (v := (y_cell L xs (2 + 2 * e0))) (n := nG) hG0 (by omega)
      rw [ew]
      refine z_istore C dL_law_154 (by decide) ?_
      refine z_iload C dL_law_156 rfl ?_
      refine z_aload_n C dL_law_158 rfl ?_
      refine z_iconst (v := 1) C dL_law_159 (by decide) ?_
      refine y_callR (As := [.int _]) C hX hax (fun T hT4 => c_X5_countR _ _ ad M T hI _ (by decide) (fun h => absurd h (by decide))) kc_X5_count wb_p434 ⟨by decide, by decide⟩ ⟨by show _ ≤ 600000; omega, by show _ ≤ 7302250; omega⟩ (Nat.le_of_ble_eq_true rfl) dL_law_160 ?_
      rw [y_c1 hI]
      refine z_callSR (As := [.int _, .int _]) C (c_L_low _ _ _ _ (nI_ne0 (by omega) (by omega))) kc_L_low wb_p518 ⟨by decide, by decide⟩ trivial ⟨by show _ ≤ 600000; omega, by show _ ≤ 7302250; omega⟩ (Nat.le_of_ble_eq_true rfl) dL_law_163 ?_
      obtain ⟨d, hd, ed⟩ := y_low_lt (v := (y_cell L xs (1 + 2 * e0)) >>> (5 &&& 31)) (n := nD) hD0 (by omega)
      rw [ed]
      refine z_istore C dL_law_166 (by decide) ?_
      refine z_iload C dL_law_168 rfl ?_
      refine z_aload_n C dL_law_170 rfl ?_
      refine z_iconst (v := 2) C dL_law_171 (by decide) ?_
      refine y_callR (As := [.int _]) C hX hax (fun T hT4 => c_X5_countR _ _ ad M T hI _ (by decide) (fun h => absurd h (by decide))) kc_X5_count wb_p434 ⟨by decide, by decide⟩ ⟨by show _ ≤ 600000; omega, by show _ ≤ 7302250; omega⟩ (Nat.le_of_ble_eq_true rfl) dL_law_172 ?_
      rw [y_c2 hI]
      refine z_callSR (As := [.int _, .int _]) C (c_L_low _ _ _ _ (nI_ne0 (by omega) (by omega))) kc_L_low wb_p518 ⟨by decide, by decide⟩ trivial ⟨by show _ ≤ 600000; omega, by show _ ≤ 7302250; omega⟩ (Nat.le_of_ble_eq_true rfl) dL_law_175 ?_
      obtain ⟨k, hk, ek⟩ := y_low_lt (v := (y_cell L xs (1 + 2 * e0)) >>> (5 &&& 31)) (n := nK) hK0 (by omega)
      rw [ek]
      refine z_istore C dL_law_178 (by decide) ?_
      refine z_sub [(0, .ref b), (1, .ref ax), (2, .int (nI nR)), (3, .int (M.1 20)), (4, .int (M.1 21)), (5, .int (nI e0)), (6, .int ((y_cell L xs (1 + 2 * e0)) >>> (5 &&& 31))), (7, .int (y_cell L xs (2 + 2 * e0))), (8, .int (if e0 < 6 then y_low (y_cell L xs (1 + 2 * e0)) 5 else y_low (y_cell L xs (1 + 2 * e0)) 17)), (9, .int (nI w)), (10, .int (nI d)), (11, .int (nI k))] ⟨rfl, rfl, rfl, rfl, rfl, rfl, rfl, rfl, rfl, rfl, rfl, rfl, trivial⟩ (yw_ev C hS hI hJ hH ht (by omega) hR hw hd hk ⟨by show _ ≤ 600000; omega, by show _ ≤ 7302250; omega⟩ (fun bs st H' hE => ?_))
      exact yw_906 C hE hn0 hR hD0 hK0 hG0 ⟨by show _ ≤ 600000; omega, by show _ ≤ 7302250; omega⟩ (fun H' L' h1 h2 => z_widen (k2 := 60 + 14 * (e0 + 1)) (n2 := 3000 + 150 * (e0 + 1)) (by omega) (by omega) (ih (e0 + 1, bs, st) _ _ ⟨he2, h1⟩ (by dsimp only; omega) h2))
    · refine z_iload C dL_law_113 rfl ?_
      refine z_bipush (v := 6) C dL_law_115 (by decide) ?_
      refine z_icmp_ge C 129 dL_law_117 (by decide) (fun h117 => ?_) (fun h117 => ?_)
      · refine z_iload C dL_law_129 rfl ?_
        refine z_bipush (v := 17) C dL_law_131 (by decide) ?_
        refine z_callSR (As := [.int _, .int _]) C (c_L_low _ _ _ _ (by decide)) kc_L_low wb_p518 ⟨by decide, by decide⟩ trivial ⟨by show _ ≤ 600000; omega, by show _ ≤ 7302250; omega⟩ (Nat.le_of_ble_eq_true rfl) dL_law_133 ?_
        exact z_joinE kJ136 (by first | exact (if_pos ((nI_ltI (b := 6) (by omega) (by omega)).mp h117)).symm | exact (if_neg (fun q => h117 (nI_lt (b := 6) q (by omega)))).symm)
      · refine z_iload C dL_law_120 rfl ?_
        refine z_iconst (v := 5) C dL_law_122 (by decide) ?_
        refine z_callSR (As := [.int _, .int _]) C (c_L_low _ _ _ _ (by decide)) kc_L_low wb_p518 ⟨by decide, by decide⟩ trivial ⟨by show _ ≤ 600000; omega, by show _ ≤ 7302250; omega⟩ (Nat.le_of_ble_eq_true rfl) dL_law_123 ?_
        refine z_goto C 136 dL_law_126 (by decide) ?_
        exact z_joinE kJ136 (by first | exact (if_pos ((nI_ltI (b := 6) (by omega) (by omega)).mp h117)).symm | exact (if_neg (fun q => h117 (nI_lt (b := 6) q (by omega)))).symm)
end YLP
