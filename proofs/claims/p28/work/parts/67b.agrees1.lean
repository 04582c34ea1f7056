/-! the law's agrees -/
theorem y_B.new {G : z_G} {b0 a : Nat} {e : va_E} {ad : Nat → Nat → Nat} {nR nD nK nG : Nat} {H H' : Heap} (h : y_B G b0 ad nR nD nK nG H) (hN : z_N G a e H H') : y_B G b0 ad nR nD nK nG H' :=
  h.fr ⟨by have := hN.2.2.1; omega, fun q hq _ => hN.2.2.2 q hq⟩
theorem y_B.put {G : z_G} {b0 a : Nat} {e : va_E} {ad : Nat → Nat → Nat} {nR nD nK nG : Nat} {H H' : Heap} (h : y_B G b0 ad nR nD nK nG H) (hU : z_U G a e H H') (ha : b0 ≤ a) : y_B G b0 ad nR nD nK nG H' := by
  obtain ⟨h1, h2, h3, h4, h5⟩ := h
  exact ⟨h1, h2.kept (hU.2.2 _ (by omega)) (hU.2.2 _ (by omega)), h3, h4, by rw [hU.2.1]; exact h5⟩
theorem y_inout {nR nD nK nG : Nat} {M : m_S} (hI : m_I nR nD nK nG M) (hJ : y_J nD nK nG M) : ¬ 24 < m_sizes M nG 0 + m_sizes M nG 1 := by
  obtain ⟨a, b, e0, e1, h, -⟩ := y_in_out hI hJ
  rw [e0, e1, nI_add]
  exact nI_nlt (a := 24) h (by omega)
section YAG
variable {p : Program} {l : Launch} {e : Env} {s : State} {m : MethodId} {args : Array Value} {below : List Frame} {meth : Method} {c : Code} {Q : State → Prop} {H : Heap} {nm : String} {G : z_G} {b0 nR nD nK nG qa qb : Nat} {ad : Nat → Nat → Nat} {M : m_S} {t4 : Int32} {f g : Nat → Int32}
set_option maxHeartbeats 4000000 in
set_option maxRecDepth 100000 in
theorem ag_F (C : z_C p s m args meth c cL_agrees "EscapeRoomsLaw" (some .boolean) 13 nm G) (hI : m_I nR nD nK nG M) (hJ : y_J nD nK nG M) (h9 : t4 = m_hints M nG) (hX : y_X G ad nR nD nK nG M t4 H) (hB : y_B G b0 ad nR nD nK nG H)  (hend : ∀ H' L', y_X G ad nR nD nK nG M t4 H' → y_B G b0 ad nR nD nK nG H' → z_Z p l e (z_rm 12 8 48) s m args below meth c (fun q => b0 ≤ q) 13 8 48 Q H' 925 L' []) : z_Z p l e (z_rm 12 8 48) s m args below meth c (fun q => b0 ≤ q) 13 8 48 Q H 821 [(0, .ref (ad 4 0)), (1, .int (m_sizes M nG 1)), (2, .int (m_sizes M nG 0)), (3, .int (m_hints M nG)), (4, .int (m_late M nG)), (5, .int (F_dead M nD nK nG)), (6, .int (m_unl M nD))] [] := by
  have hs := y_nsm hI
  refine z_iload_n C dL_agrees_821 rfl ?_
  refine z_iload_n C dL_agrees_822 rfl ?_
  refine z_iadd C dL_agrees_823 ?_
  refine z_bipush (v := 24) C dL_agrees_824 (by decide) ?_
  refine z_icmp_gt C 929 dL_agrees_826 (by decide) (fun h826 => ?_) (fun h826 => ?_)
  · exact absurd h826 (y_inout hI hJ)
  · refine z_aload_n C dL_agrees_829 rfl ?_
    refine z_iconst (v := 5) C dL_agrees_830 (by decide) ?_
    refine y_callR (As := [.int _]) C hX rfl (fun T hT4 => c_X5_countR _ _ ad M T hI _ (by decide) (fun h => absurd h (by decide))) kc_X5_count wb_p434 ⟨by decide, by decide⟩ ⟨Nat.le_of_ble_eq_true rfl, Nat.le_of_ble_eq_true rfl⟩ (Nat.le_of_ble_eq_true rfl) dL_agrees_831 ?_
    rw [y_c5 hI]
    refine z_iload C dL_agrees_834 rfl ?_
    refine z_icmp_ne C 929 dL_agrees_836 (by decide) (fun h836 => ?_) (fun h836 => ?_)
    · exact absurd rfl h836
    · refine z_aload_n C dL_agrees_839 rfl ?_
      refine z_bipush (v := 6) C dL_agrees_840 (by decide) ?_
      refine y_callR (As := [.int _]) C hX rfl (fun T hT4 => c_X5_countR _ _ ad M T hI _ (by decide) (fun h => absurd h (by decide))) kc_X5_count wb_p434 ⟨by decide, by decide⟩ ⟨Nat.le_of_ble_eq_true rfl, Nat.le_of_ble_eq_true rfl⟩ (Nat.le_of_ble_eq_true rfl) dL_agrees_842 ?_
      rw [y_c6 hI]
      refine z_iload_n C dL_agrees_845 rfl ?_
      refine z_icmp_ne C 929 dL_agrees_846 (by decide) (fun h846 => ?_) (fun h846 => ?_)
      · exact absurd rfl h846
      · refine z_aload_n C dL_agrees_849 rfl ?_
        refine z_bipush (v := 7) C dL_agrees_850 (by decide) ?_
        refine y_callR (As := [.int _]) C hX rfl (fun T hT4 => c_X5_countR _ _ ad M T hI _ (by decide) (fun h => absurd h (by decide))) kc_X5_count wb_p434 ⟨by decide, by decide⟩ ⟨Nat.le_of_ble_eq_true rfl, Nat.le_of_ble_eq_true rfl⟩ (Nat.le_of_ble_eq_true rfl) dL_agrees_852 ?_
        rw [y_c7 hI]
        refine z_iload_n C dL_agrees_855 rfl ?_
        refine z_icmp_ne C 929 dL_agrees_856 (by decide) (fun h856 => ?_) (fun h856 => ?_)
        · exact absurd rfl h856
        · refine z_aload_n C dL_agrees_859 rfl ?_
          refine z_bipush (v := 8) C dL_agrees_860 (by decide) ?_
          refine y_callR (As := [.int _]) C hX rfl (fun T hT4 => c_X5_countR _ _ ad M T hI _ (by decide) (fun h => absurd h (by decide))) kc_X5_count wb_p434 ⟨by decide, by decide⟩ ⟨Nat.le_of_ble_eq_true rfl, Nat.le_of_ble_eq_true rfl⟩ (Nat.le_of_ble_eq_true rfl) dL_agrees_862 ?_
          rw [y_c8 hI]
          refine z_iload C dL_agrees_865 rfl ?_
          refine z_icmp_ne C 929 dL_agrees_867 (by decide) (fun h867 => ?_) (fun h867 => ?_)
          · exact absurd rfl h867
          · refine z_aload_n C dL_agrees_870 rfl ?_
            refine z_bipush (v := 9) C dL_agrees_871 (by decide) ?_
            refine y_callR (As := [.int _]) C hX rfl (fun T hT4 => c_X5_countR _ _ ad M T hI _ (by decide) (fun _ => hT4.trans h9)) kc_X5_count wb_p434 ⟨by decide, by decide⟩ ⟨Nat.le_of_ble_eq_true rfl, Nat.le_of_ble_eq_true rfl⟩ (Nat.le_of_ble_eq_true rfl) dL_agrees_873 ?_
            rw [y_c9 hI]
            refine z_iload_n C dL_agrees_876 rfl ?_
            refine z_icmp_ne C 929 dL_agrees_877 (by decide) (fun h877 => ?_) (fun h877 => ?_)
            · exact absurd rfl h877
            · refine z_aload_n C dL_agrees_880 rfl ?_
              refine z_bipush (v := 10) C dL_agrees_881 (by decide) ?_
              refine y_callW (As := [.int _]) C hX rfl (fun T hT => c_X5_count _ _ ad M T hI (hT.trans h9) _) (fun T v H' hT hq => y_qS hT hq) hB.xA kc_X5_count wb_p434 ⟨by decide, by decide⟩ ⟨Nat.le_of_ble_eq_true rfl, Nat.le_of_ble_eq_true rfl⟩ (Nat.le_of_ble_eq_true rfl) dL_agrees_883 (fun H883 hX883 hF883 => ?_)
              replace hX := hX883
              replace hB := hB.fr hF883
              rw [y_c10 hI]
              refine z_iload C dL_agrees_886 rfl ?_
              refine z_icmp_ne C 929 dL_agrees_888 (by decide) (fun h888 => ?_) (fun h888 => ?_)
              · exact absurd rfl h888
              · refine z_aload_n C dL_agrees_891 rfl ?_
                refine z_bipush (v := 6) C dL_agrees_892 (by decide) ?_
                refine z_iconst (v := 0) C dL_agrees_894 (by decide) ?_
                refine y_callR (As := [.int _, .int _]) C hX rfl (fun T _ => c_X5_color _ _ ad M T hI _ _) kc_X5_color wb_p418 ⟨by decide, by decide⟩ ⟨Nat.le_of_ble_eq_true rfl, Nat.le_of_ble_eq_true rfl⟩ (Nat.le_of_ble_eq_true rfl) dL_agrees_895 ?_
                rw [y_colB]
                refine z_bipush (v := (-2)) C dL_agrees_898 (by decide) ?_
                refine z_icmp_ne C 929 dL_agrees_900 (by decide) (fun h900 => ?_) (fun h900 => ?_)
                · exact absurd rfl h900
                · refine z_aload_n C dL_agrees_903 rfl ?_
                  refine z_iconst (v := 0) C dL_agrees_904 (by decide) ?_
                  refine z_iconst (v := 2) C dL_agrees_905 (by decide) ?_
                  refine y_callR (As := [.int _, .int _]) C hX rfl (fun T _ => c_X5_color _ _ ad M T hI _ _) kc_X5_color wb_p418 ⟨by decide, by decide⟩ ⟨Nat.le_of_ble_eq_true rfl, Nat.le_of_ble_eq_true rfl⟩ (Nat.le_of_ble_eq_true rfl) dL_agrees_906 ?_
                  rw [y_colC]
                  refine z_bipush (v := (-2)) C dL_agrees_909 (by decide) ?_
                  refine z_icmp_ne C 929 dL_agrees_911 (by decide) (fun h911 => ?_) (fun h911 => ?_)
                  · exact absurd rfl h911
                  · refine z_aload_n C dL_agrees_914 rfl ?_
                    refine z_bipush (v := 11) C dL_agrees_915 (by decide) ?_
                    refine y_callR (As := [.int _]) C hX rfl (fun T hT4 => c_X5_countR _ _ ad M T hI _ (by decide) (fun h => absurd h (by decide))) kc_X5_count wb_p434 ⟨by decide, by decide⟩ ⟨Nat.le_of_ble_eq_true rfl, Nat.le_of_ble_eq_true rfl⟩ (Nat.le_of_ble_eq_true rfl) dL_agrees_917 ?_
                    rw [y_c11 hI]
                    refine z_bipush (v := (-2)) C dL_agrees_920 (by decide) ?_
                    refine z_icmp_ne C 929 dL_agrees_922 (by decide) (fun h922 => ?_) (fun h922 => ?_)
                    · exact absurd rfl h922
                    · exact hend _ _ hX hB
set_option maxHeartbeats 4000000 in
set_option maxRecDepth 100000 in
theorem ag_C (C : z_C p s m args meth c cL_agrees "EscapeRoomsLaw" (some .boolean) 13 nm G) (hI : m_I nR nD nK nG M) (hJ : y_J nD nK nG M) (h9 : t4 = m_hints M nG) (hX : y_X G ad nR nD nK nG M t4 H) (hB : y_B G b0 ad nR nD nK nG H) (hU : va_at G.1 vwCl (qa, .inl (G.2 0, 6, .inl f)) H) (hf : y_lkI M nD f) (hV : va_at G.1 vwCl (qb, .inl (G.2 0, 6, .inl g)) H) (hg : y_frI M nK g) (hend : ∀ H' L', y_X G ad nR nD nK nG M t4 H' → y_B G b0 ad nR nD nK nG H' → z_Z p l e (z_rm 12 8 48) s m args below meth c (fun q => b0 ≤ q) 13 8 48 Q H' 925 L' []) : z_Z p l e (z_rm 12 8 48) s m args below meth c (fun q => b0 ≤ q) 13 8 48 Q H 773 [(0, .ref (ad 4 0)), (1, .int (m_sizes M nG 1)), (2, .int (m_sizes M nG 0)), (3, .int (m_hints M nG)), (4, .int (m_late M nG)), (5, .int (F_dead M nD nK nG)), (6, .int (m_unl M nD)), (7, .ref qa), (8, .ref qb)] [] := by
  have hs := y_nsm hI
  refine z_iconst (v := 0) C dL_agrees_773 (by decide) ?_
  refine z_istore C dL_agrees_774 (by decide) ?_
  refine z_loopN (fun i => [(0, .ref (ad 4 0)), (1, .int (m_sizes M nG 1)), (2, .int (m_sizes M nG 0)), (3, .int (m_hints M nG)), (4, .int (m_late M nG)), (5, .int (F_dead M nD nK nG)), (6, .int (m_unl M nD)), (7, .ref qa), (8, .ref qb), (9, .int (nI i))]) 6 ⟨rfl, rfl, rfl, rfl, rfl, rfl, rfl, rfl, rfl, rfl, trivial⟩ (fun i hi1 ihI => ?_)
  refine z_iload C dL_agrees_776 rfl ?_
  refine z_bipush (v := 6) C dL_agrees_778 (by decide) ?_
  refine z_icmp_ge C 821 dL_agrees_780 (by decide) (fun h780 => ?_) (fun h780 => ?_)
  · exact z_sub [(0, .ref (ad 4 0)), (1, .int (m_sizes M nG 1)), (2, .int (m_sizes M nG 0)), (3, .int (m_hints M nG)), (4, .int (m_late M nG)), (5, .int (F_dead M nD nK nG)), (6, .int (m_unl M nD))] ⟨rfl, rfl, rfl, rfl, rfl, rfl, rfl, trivial⟩ (ag_F C hI hJ h9 hX hB hend)
  · have hi : i < 6 := z_lt (n := 6) rfl (by omega) hi1 h780
    refine z_aload_n C dL_agrees_783 rfl ?_
    refine z_iload C dL_agrees_784 rfl ?_
    refine z_iconst (v := 0) C dL_agrees_786 (by decide) ?_
    refine y_callR (As := [.int _, .int _]) C hX rfl (fun T _ => c_X5_color _ _ ad M T hI _ _) kc_X5_color wb_p418 ⟨by decide, by decide⟩ ⟨Nat.le_of_ble_eq_true rfl, Nat.le_of_ble_eq_true rfl⟩ (Nat.le_of_ble_eq_true rfl) dL_agrees_787 ?_
    rw [y_col0 hi]
    refine z_aload C dL_agrees_790 rfl ?_
    refine z_iload C dL_agrees_792 rfl ?_
    refine z_iald C (by first | exact hU | exact hV) (by exact vp_in_nI hi (by omega)) (by exact nI_clamp (by omega)) dL_agrees_794 ?_
    refine z_icmp_ne C 813 dL_agrees_795 (by decide) (fun h795 => ?_) (fun h795 => ?_)
    · exact absurd (hf i hi).symm h795
    · refine z_aload_n C dL_agrees_798 rfl ?_
      refine z_iload C dL_agrees_799 rfl ?_
      refine z_iconst (v := 1) C dL_agrees_801 (by decide) ?_
      refine y_callR (As := [.int _, .int _]) C hX rfl (fun T _ => c_X5_color _ _ ad M T hI _ _) kc_X5_color wb_p418 ⟨by decide, by decide⟩ ⟨Nat.le_of_ble_eq_true rfl, Nat.le_of_ble_eq_true rfl⟩ (Nat.le_of_ble_eq_true rfl) dL_agrees_802 ?_
      rw [y_col1 hi]
      refine z_aload C dL_agrees_805 rfl ?_
      refine z_iload C dL_agrees_807 rfl ?_
      refine z_iald C (by first | exact hU | exact hV) (by exact vp_in_nI hi (by omega)) (by exact nI_clamp (by omega)) dL_agrees_809 ?_
      refine z_icmp_eq C 815 dL_agrees_810 (by decide) (fun h810 => ?_) (fun h810 => ?_)
      · refine z_iinc C dL_agrees_815 rfl rfl (by decide) ?_
        refine z_goto C 776 dL_agrees_818 (by decide) ?_
        exact ihI hi _ ⟨rfl, rfl, rfl, rfl, rfl, rfl, rfl, rfl, rfl, z_lgI rfl (z_inc i), trivial⟩
      · exact absurd (hg i hi).symm h810
set_option maxHeartbeats 4000000 in
set_option maxRecDepth 100000 in
theorem ag_B (C : z_C p s m args meth c cL_agrees "EscapeRoomsLaw" (some .boolean) 13 nm G) (hI : m_I nR nD nK nG M) (hJ : y_J nD nK nG M) (h9 : t4 = m_hints M nG) (hX : y_X G ad nR nD nK nG M t4 H) (hB : y_B G b0 ad nR nD nK nG H) (hU : va_at G.1 vwCl (qa, .inl (G.2 0, 6, .inl f)) H) (hf : y_lkI M nD f) (hV : va_at G.1 vwCl (qb, .inl (G.2 0, 6, .inl (fun _ => 0))) H) (hna : ¬ x_A ad nR nD nK nG qa) (hnb : ¬ x_A ad nR nD nK nG qb) (hab : qa ≠ qb) (hqb : b0 ≤ qb) (hend : ∀ H' L', y_X G ad nR nD nK nG M t4 H' → y_B G b0 ad nR nD nK nG H' → z_Z p l e (z_rm 12 8 48) s m args below meth c (fun q => b0 ≤ q) 13 8 48 Q H' 925 L' []) : z_Z p l e (z_rm 12 8 48) s m args below meth c (fun q => b0 ≤ q) 13 8 48 Q H 625 [(0, .ref (ad 4 0)), (1, .int (m_sizes M nG 1)), (2, .int (m_sizes M nG 0)), (3, .int (m_hints M nG)), (4, .int (m_late M nG)), (5, .int (F_dead M nD nK nG)), (6, .int (m_unl M nD)), (7, .ref qa), (8, .ref qb)] [] := by
  have hs := y_nsm hI
  refine z_iconst (v := 0) C dL_agrees_625 (by decide) ?_
  refine z_istore C dL_agrees_626 (by decide) ?_
  refine z_loopS (fun q : Nat × (Nat → Int32) => nK - q.1) (fun q H' => q.1 ≤ nK ∧ y_X G ad nR nD nK nG M t4 H' ∧ y_B G b0 ad nR nD nK nG H' ∧ va_at G.1 vwCl (qa, .inl (G.2 0, 6, .inl f)) H' ∧ va_at G.1 vwCl (qb, .inl (G.2 0, 6, .inl q.2)) H' ∧ y_frI M q.1 q.2) (fun q => [(0, .ref (ad 4 0)), (1, .int (m_sizes M nG 1)), (2, .int (m_sizes M nG 0)), (3, .int (m_hints M nG)), (4, .int (m_late M nG)), (5, .int (F_dead M nD nK nG)), (6, .int (m_unl M nD)), (7, .ref qa), (8, .ref qb), (9, .int (nI q.1))]) (0, fun _ => 0) ⟨Nat.zero_le _, hX, hB, hU, hV, fun c _ => rfl⟩ ⟨rfl, rfl, rfl, rfl, rfl, rfl, rfl, rfl, rfl, rfl, trivial⟩ (fun q H1 hI1 ihO => ?_)
  obtain ⟨k, g⟩ := q
  obtain ⟨hk1, hX, hB, hU, hV, hg⟩ := hI1
  dsimp only at hk1 hV hg ihO ⊢
  refine z_iload C dL_agrees_628 rfl ?_
  refine z_aload_n C dL_agrees_630 rfl ?_
  refine z_iconst (v := 2) C dL_agrees_631 (by decide) ?_
  refine y_callR (As := [.int _]) C hX rfl (fun T hT4 => c_X5_countR _ _ ad M T hI _ (by decide) (fun h => absurd h (by decide))) kc_X5_count wb_p434 ⟨by decide, by decide⟩ ⟨Nat.le_of_ble_eq_true rfl, Nat.le_of_ble_eq_true rfl⟩ (Nat.le_of_ble_eq_true rfl) dL_agrees_632 ?_
  rw [y_c2 hI]
  refine z_icmp_ge C 773 dL_agrees_635 (by decide) (fun h635 => ?_) (fun h635 => ?_)
  · obtain rfl : nK = k := (z_ge rfl (by omega) hk1 h635).symm
    exact z_sub [(0, .ref (ad 4 0)), (1, .int (m_sizes M nG 1)), (2, .int (m_sizes M nG 0)), (3, .int (m_hints M nG)), (4, .int (m_late M nG)), (5, .int (F_dead M nD nK nG)), (6, .int (m_unl M nD)), (7, .ref qa), (8, .ref qb)] ⟨rfl, rfl, rfl, rfl, rfl, rfl, rfl, rfl, rfl, trivial⟩ (ag_C C hI hJ h9 hX hB hU hf hV hg hend)
  · have hk : k < nK := z_lt rfl (by omega) hk1 h635
    obtain ⟨c0, hc0, ec⟩ := y_kcol hI hk
    refine z_aload_n C dL_agrees_638 rfl ?_
    refine z_iload C dL_agrees_639 rfl ?_
    refine z_iconst (v := 1) C dL_agrees_641 (by decide) ?_
    refine y_callR (As := [.int _, .int _]) C hX rfl (fun T _ => c_X5_key _ _ ad M T hI _ _) kc_X5_key wb_p525 ⟨by decide, by decide⟩ ⟨Nat.le_of_ble_eq_true rfl, Nat.le_of_ble_eq_true rfl⟩ (Nat.le_of_ble_eq_true rfl) dL_agrees_642 ?_
    rw [y_k1 hI hk]
    refine z_istore C dL_agrees_645 (by decide) ?_
    refine z_meetH 667 (rest := []) (fun H' => y_X G ad nR nD nK nG M t4 H' ∧ y_B G b0 ad nR nD nK nG H' ∧ va_at G.1 vwCl (qa, .inl (G.2 0, 6, .inl f)) H' ∧ ∃ g', va_at G.1 vwCl (qb, .inl (G.2 0, 6, .inl g')) H' ∧ y_frI M (k + 1) g') ?_ (fun kJ667 => ?_)
    · rintro H667 ⟨hX, hB, hU, g, hV, hg⟩
      refine z_join 677 (z_b (decide (M.2 11 k = 0))) ?_ (fun kJ677 => ?_)
      · refine z_join 692 (z_b (!(decide ((if M.2 11 k = 0 then M.2 12 k else -6) < 0)))) ?_ (fun kJ692 => ?_)
        · refine z_icmp_ne C 765 dL_agrees_692 (by decide) (fun h692 => ?_) (fun h692 => ?_)
          · exact absurd (congrArg z_b (y_kat hI hk)) h692
          · refine z_join 706 (z_b (decide (M.2 11 k = 1))) ?_ (fun kJ706 => ?_)
            · refine z_join 721 (z_b (!(decide ((if M.2 11 k = 1 then M.2 12 k else -6) < 0)))) ?_ (fun kJ721 => ?_)
              · refine z_icmp_ne C 765 dL_agrees_721 (by decide) (fun h721 => ?_) (fun h721 => ?_)
                · exact absurd (congrArg z_b (y_kat hI hk)) h721
                · refine z_join 735 (z_b (decide (M.2 11 k = 2))) ?_ (fun kJ735 => ?_)
                  · refine z_join 750 (z_b (!(decide ((if M.2 11 k = 2 then M.2 12 k else -6) < 0)))) ?_ (fun kJ750 => ?_)
                    · refine z_icmp_ne C 765 dL_agrees_750 (by decide) (fun h750 => ?_) (fun h750 => ?_)
                      · exact absurd (congrArg z_b (y_kat hI hk)) h750
                      · refine z_aload_n C dL_agrees_753 rfl ?_
                        refine z_iload C dL_agrees_754 rfl ?_
                        refine z_iconst (v := 5) C dL_agrees_756 (by decide) ?_
                        refine y_callR (As := [.int _, .int _]) C hX rfl (fun T _ => c_X5_key _ _ ad M T hI _ _) kc_X5_key wb_p525 ⟨by decide, by decide⟩ ⟨Nat.le_of_ble_eq_true rfl, Nat.le_of_ble_eq_true rfl⟩ (Nat.le_of_ble_eq_true rfl) dL_agrees_757 ?_
                        rw [y_k5 hI hk]
                        refine z_bipush (v := (-2)) C dL_agrees_760 (by decide) ?_
                        refine z_icmp_eq C 767 dL_agrees_762 (by decide) (fun h762 => ?_) (fun h762 => ?_)
                        · refine z_iinc C dL_agrees_767 rfl rfl (by decide) ?_
                          refine z_goto C 628 dL_agrees_770 (by decide) ?_
                          exact ihO (k + 1, g) _ _ ⟨hk, hX, hB, hU, hV, hg⟩ (by dsimp only; omega) ⟨rfl, rfl, rfl, rfl, rfl, rfl, rfl, rfl, rfl, z_lgI rfl (z_inc k), trivial⟩
                        · exact absurd rfl h762
                    · refine z_aload_n C dL_agrees_735 rfl ?_
                      refine z_iload C dL_agrees_736 rfl ?_
                      refine z_iconst (v := 4) C dL_agrees_738 (by decide) ?_
                      refine y_callR (As := [.int _, .int _]) C hX rfl (fun T _ => c_X5_key _ _ ad M T hI _ _) kc_X5_key wb_p525 ⟨by decide, by decide⟩ ⟨Nat.le_of_ble_eq_true rfl, Nat.le_of_ble_eq_true rfl⟩ (Nat.le_of_ble_eq_true rfl) dL_agrees_739 ?_
                      rw [y_k4 hI hk]
                      refine z_if_lt C 749 dL_agrees_742 (by decide) (fun h742 => ?_) (fun h742 => ?_)
                      · refine z_iconst (v := 0) C dL_agrees_749 (by decide) ?_
                        exact z_joinE kJ750 (by simp [z_b, *])
                      · refine z_iconst (v := 1) C dL_agrees_745 (by decide) ?_
                        refine z_goto C 750 dL_agrees_746 (by decide) ?_
                        exact z_joinE kJ750 (by simp [z_b, *])
                  · refine z_iload C dL_agrees_724 rfl ?_
                    refine z_iconst (v := 2) C dL_agrees_726 (by decide) ?_
                    refine z_icmp_ne C 734 dL_agrees_727 (by decide) (fun h727 => ?_) (fun h727 => ?_)
                    · refine z_iconst (v := 0) C dL_agrees_734 (by decide) ?_
                      exact z_joinE kJ735 (by simp [z_b, *])
                    · refine z_iconst (v := 1) C dL_agrees_730 (by decide) ?_
                      refine z_goto C 735 dL_agrees_731 (by decide) ?_
                      exact z_joinE kJ735 (by simp [z_b, *])
              · refine z_aload_n C dL_agrees_706 rfl ?_
                refine z_iload C dL_agrees_707 rfl ?_
                refine z_iconst (v := 3) C dL_agrees_709 (by decide) ?_
                refine y_callR (As := [.int _, .int _]) C hX rfl (fun T _ => c_X5_key _ _ ad M T hI _ _) kc_X5_key wb_p525 ⟨by decide, by decide⟩ ⟨Nat.le_of_ble_eq_true rfl, Nat.le_of_ble_eq_true rfl⟩ (Nat.le_of_ble_eq_true rfl) dL_agrees_710 ?_
                rw [y_k3 hI hk]
                refine z_if_lt C 720 dL_agrees_713 (by decide) (fun h713 => ?_) (fun h713 => ?_)
                · refine z_iconst (v := 0) C dL_agrees_720 (by decide) ?_
                  exact z_joinE kJ721 (by simp [z_b, *])
                · refine z_iconst (v := 1) C dL_agrees_716 (by decide) ?_
                  refine z_goto C 721 dL_agrees_717 (by decide) ?_
                  exact z_joinE kJ721 (by simp [z_b, *])
            · refine z_iload C dL_agrees_695 rfl ?_
              refine z_iconst (v := 1) C dL_agrees_697 (by decide) ?_
              refine z_icmp_ne C 705 dL_agrees_698 (by decide) (fun h698 => ?_) (fun h698 => ?_)
              · refine z_iconst (v := 0) C dL_agrees_705 (by decide) ?_
                exact z_joinE kJ706 (by simp [z_b, *])
              · refine z_iconst (v := 1) C dL_agrees_701 (by decide) ?_
                refine z_goto C 706 dL_agrees_702 (by decide) ?_
                exact z_joinE kJ706 (by simp [z_b, *])
        · refine z_aload_n C dL_agrees_677 rfl ?_
          refine z_iload C dL_agrees_678 rfl ?_
          refine z_iconst (v := 2) C dL_agrees_680 (by decide) ?_
          refine y_callR (As := [.int _, .int _]) C hX rfl (fun T _ => c_X5_key _ _ ad M T hI _ _) kc_X5_key wb_p525 ⟨by decide, by decide⟩ ⟨Nat.le_of_ble_eq_true rfl, Nat.le_of_ble_eq_true rfl⟩ (Nat.le_of_ble_eq_true rfl) dL_agrees_681 ?_
          rw [y_k2 hI hk]
          refine z_if_lt C 691 dL_agrees_684 (by decide) (fun h684 => ?_) (fun h684 => ?_)
          · refine z_iconst (v := 0) C dL_agrees_691 (by decide) ?_
            exact z_joinE kJ692 (by simp [z_b, *])
          · refine z_iconst (v := 1) C dL_agrees_687 (by decide) ?_
            refine z_goto C 692 dL_agrees_688 (by decide) ?_
            exact z_joinE kJ692 (by simp [z_b, *])
      · refine z_iload C dL_agrees_667 rfl ?_
        refine z_if_ne C 676 dL_agrees_669 (by decide) (fun h669 => ?_) (fun h669 => ?_)
        · refine z_iconst (v := 0) C dL_agrees_676 (by decide) ?_
          exact z_joinE kJ677 (by simp [z_b, *])
        · refine z_iconst (v := 1) C dL_agrees_672 (by decide) ?_
          refine z_goto C 677 dL_agrees_673 (by decide) ?_
          exact z_joinE kJ677 (by simp [z_b, *])
    · refine z_iload C dL_agrees_647 rfl ?_
      refine z_iconst (v := 2) C dL_agrees_649 (by decide) ?_
      refine z_icmp_ge C 667 dL_agrees_650 (by decide) (fun h650 => ?_) (fun h650 => ?_)
      · first | exact kJ667 _ ⟨hX, hB, hU, g, hV, hg.same (Classical.not_not.mp (fun q => h650 ((y_klt2 hI hk).mpr q)))⟩ | exact kJ667 _ ⟨hX, hB, hU, _, hV, hg.up hc0 ec ((y_klt2 hI hk).mp h650)⟩
      · refine z_aload C dL_agrees_653 rfl ?_
        refine z_aload_n C dL_agrees_655 rfl ?_
        refine z_iload C dL_agrees_656 rfl ?_
        refine z_iconst (v := 0) C dL_agrees_658 (by decide) ?_
        refine y_callR (As := [.int _, .int _]) C hX rfl (fun T _ => c_X5_key _ _ ad M T hI _ _) kc_X5_key wb_p525 ⟨by decide, by decide⟩ ⟨Nat.le_of_ble_eq_true rfl, Nat.le_of_ble_eq_true rfl⟩ (Nat.le_of_ble_eq_true rfl) dL_agrees_659 ?_
        rw [y_k0 hI hk]
        refine z_dup2 C dL_agrees_662 rfl rfl ?_
        refine z_iald C (by first | exact hU | exact hV) (by rw [ec]; exact vp_in_nI hc0 (by omega)) (by rw [ec, nI_clamp (by omega)]) dL_agrees_663 ?_
        refine z_iconst (v := 1) C dL_agrees_664 (by decide) ?_
        refine z_iadd C dL_agrees_665 ?_
        refine z_iast C (by first | exact hU | exact hV) (by exact hqb) (by rw [ec]; exact vp_in_nI hc0 (by omega)) (by rw [ec, nI_clamp (by omega)]) dL_agrees_666 (fun H666 hU666 => ?_)
        have hX := hX.put hU666 hnb
        have hB := hB.put hU666 hqb
        have hU := z_at_keep hU666 hU hab
        have hV := hU666.1
        first | exact kJ667 _ ⟨hX, hB, hU, g, hV, hg.same (Classical.not_not.mp (fun q => h650 ((y_klt2 hI hk).mpr q)))⟩ | exact kJ667 _ ⟨hX, hB, hU, _, hV, hg.up hc0 ec ((y_klt2 hI hk).mp h650)⟩
set_option maxHeartbeats 4000000 in
set_option maxRecDepth 100000 in
theorem ag_D (C : z_C p s m args meth c cL_agrees "EscapeRoomsLaw" (some .boolean) 13 nm G) (hI : m_I nR nD nK nG M) (hJ : y_J nD nK nG M) (h9 : t4 = m_hints M nG) (hX : y_X G ad nR nD nK nG M t4 H) (hB : y_B G b0 ad nR nD nK nG H)  (hend : ∀ H' L', y_X G ad nR nD nK nG M t4 H' → y_B G b0 ad nR nD nK nG H' → z_Z p l e (z_rm 12 8 48) s m args below meth c (fun q => b0 ≤ q) 13 8 48 Q H' 925 L' []) : z_Z p l e (z_rm 12 8 48) s m args below meth c (fun q => b0 ≤ q) 13 6 36 Q H 361 [(0, .ref (ad 4 0)), (1, .int (m_sizes M nG 1)), (2, .int (m_sizes M nG 0)), (3, .int (m_hints M nG)), (4, .int (m_late M nG)), (5, .int (F_dead M nD nK nG))] [] := by
  have hs := y_nsm hI
  refine z_iconst (v := 0) C dL_agrees_361 (by decide) ?_
  refine z_istore C dL_agrees_362 (by decide) ?_
  refine z_bipush (v := 6) C dL_agrees_364 (by decide) ?_
  refine z_newaI C wb_92 6 (by decide) (by decide) (Nat.le_of_ble_eq_true rfl) (Nat.le_of_ble_eq_true rfl) (Nat.le_of_ble_eq_true rfl) dL_agrees_366 (fun q366 H366 hN366 => ?_)
  have hqa : b0 ≤ q366 := by have h1 := hN366.1; have h2 := hB.2.2.2.2; omega
  have hna : ¬ x_A ad nR nD nK nG q366 := fun q => by have h1 := hX.lt _ q; have h2 := hN366.1; omega
  have hX := hX.new hN366
  have hB := hB.new hN366
  have hU := hN366.2.1
  refine z_astore C dL_agrees_368 (by decide) ?_
  refine z_bipush (v := 6) C dL_agrees_370 (by decide) ?_
  refine z_newaI C wb_92 6 (by decide) (by decide) (Nat.le_of_ble_eq_true rfl) (Nat.le_of_ble_eq_true rfl) (Nat.le_of_ble_eq_true rfl) dL_agrees_372 (fun q372 H372 hN372 => ?_)
  have hqb : b0 ≤ q372 := by have h1 := hN372.1; have h2 := hB.2.2.2.2; omega
  have hnb : ¬ x_A ad nR nD nK nG q372 := fun q => by have h1 := hX.lt _ q; have h2 := hN372.1; omega
  have hab : q366 ≠ q372 := by have h1 := hU.lt; have h2 := hN372.1; omega
  have hX := hX.new hN372
  have hB := hB.new hN372
  have hU := z_at_new hN372 hU
  have hV := hN372.2.1
  refine z_astore C dL_agrees_374 (by decide) ?_
  refine z_iconst (v := 0) C dL_agrees_376 (by decide) ?_
  refine z_istore C dL_agrees_377 (by decide) ?_
  refine z_loopS (fun q : Nat × (Nat → Int32) => nD - q.1) (fun q H' => q.1 ≤ nD ∧ y_X G ad nR nD nK nG M t4 H' ∧ y_B G b0 ad nR nD nK nG H' ∧ va_at G.1 vwCl (q372, .inl (G.2 0, 6, .inl (fun _ => 0))) H' ∧ va_at G.1 vwCl (q366, .inl (G.2 0, 6, .inl q.2)) H' ∧ y_lkI M q.1 q.2) (fun q => [(0, .ref (ad 4 0)), (1, .int (m_sizes M nG 1)), (2, .int (m_sizes M nG 0)), (3, .int (m_hints M nG)), (4, .int (m_late M nG)), (5, .int (F_dead M nD nK nG)), (6, .int (m_unl M q.1)), (7, .ref q366), (8, .ref q372), (9, .int (nI q.1))]) (0, fun _ => 0) ⟨Nat.zero_le _, hX, hB, hV, hU, fun c _ => rfl⟩ ⟨rfl, rfl, rfl, rfl, rfl, rfl, rfl, rfl, rfl, rfl, trivial⟩ (fun q H1 hI1 ihO => ?_)
  obtain ⟨d, f⟩ := q
  obtain ⟨hd1, hX, hB, hV, hU, hf⟩ := hI1
  dsimp only at hd1 hU hf ihO ⊢
  refine z_iload C dL_agrees_379 rfl ?_
  refine z_aload_n C dL_agrees_381 rfl ?_
  refine z_iconst (v := 1) C dL_agrees_382 (by decide) ?_
  refine y_callR (As := [.int _]) C hX rfl (fun T hT4 => c_X5_countR _ _ ad M T hI _ (by decide) (fun h => absurd h (by decide))) kc_X5_count wb_p434 ⟨by decide, by decide⟩ ⟨Nat.le_of_ble_eq_true rfl, Nat.le_of_ble_eq_true rfl⟩ (Nat.le_of_ble_eq_true rfl) dL_agrees_383 ?_
  rw [y_c1 hI]
  refine z_icmp_ge C 625 dL_agrees_386 (by decide) (fun h386 => ?_) (fun h386 => ?_)
  · obtain rfl : nD = d := (z_ge rfl (by omega) hd1 h386).symm
    exact z_sub [(0, .ref (ad 4 0)), (1, .int (m_sizes M nG 1)), (2, .int (m_sizes M nG 0)), (3, .int (m_hints M nG)), (4, .int (m_late M nG)), (5, .int (F_dead M nD nK nG)), (6, .int (m_unl M nD)), (7, .ref q366), (8, .ref q372)] ⟨rfl, rfl, rfl, rfl, rfl, rfl, rfl, rfl, rfl, trivial⟩ (ag_B C hI hJ h9 hX hB hU hf hV hna hnb hab hqb hend)
  · have hd : d < nD := z_lt rfl (by omega) hd1 h386
    have hld := y_lohi hI hd
    refine z_aload_n C dL_agrees_389 rfl ?_
    refine z_iload C dL_agrees_390 rfl ?_
    refine z_iconst (v := 3) C dL_agrees_392 (by decide) ?_
    refine y_callR (As := [.int _, .int _]) C hX rfl (fun T _ => c_X5_door _ _ ad M T hI _ _) kc_X5_door wb_p544 ⟨by decide, by decide⟩ ⟨Nat.le_of_ble_eq_true rfl, Nat.le_of_ble_eq_true rfl⟩ (Nat.le_of_ble_eq_true rfl) dL_agrees_393 ?_
    rw [y_d3 hI hd]
    refine z_istore C dL_agrees_396 (by decide) ?_
    refine z_iconst (v := 0) C dL_agrees_398 (by decide) ?_
    refine z_istore C dL_agrees_399 (by decide) ?_
    refine z_iconst (v := 0) C dL_agrees_401 (by decide) ?_
    refine z_istore C dL_agrees_402 (by decide) ?_
    refine z_loopN (fun j => [(0, .ref (ad 4 0)), (1, .int (m_sizes M nG 1)), (2, .int (m_sizes M nG 0)), (3, .int (m_hints M nG)), (4, .int (m_late M nG)), (5, .int (F_dead M nD nK nG)), (6, .int (m_unl M d)), (7, .ref q366), (8, .ref q372), (9, .int (nI d)), (10, .int (M.2 6 d)), (11, .int (nI (k_n (fun k => decide (M.2 11 k = 2) && decide (M.2 12 k = nI d)) j))), (12, .int (nI j))]) nK ⟨rfl, rfl, rfl, rfl, rfl, rfl, rfl, rfl, rfl, rfl, rfl, rfl, rfl, trivial⟩ (fun j hj1 ihI => ?_)
    refine z_iload C dL_agrees_404 rfl ?_
    refine z_aload_n C dL_agrees_406 rfl ?_
    refine z_iconst (v := 2) C dL_agrees_407 (by decide) ?_
    refine y_callR (As := [.int _]) C hX rfl (fun T hT4 => c_X5_countR _ _ ad M T hI _ (by decide) (fun h => absurd h (by decide))) kc_X5_count wb_p434 ⟨by decide, by decide⟩ ⟨Nat.le_of_ble_eq_true rfl, Nat.le_of_ble_eq_true rfl⟩ (Nat.le_of_ble_eq_true rfl) dL_agrees_408 ?_
    rw [y_c2 hI]
    refine z_icmp_ge C 468 dL_agrees_411 (by decide) (fun h411 => ?_) (fun h411 => ?_)
    · obtain rfl : nK = j := (z_ge rfl (by omega) hj1 h411).symm
      refine z_join 483 (z_b (!(decide (M.2 8 d < 0)))) ?_ (fun kJ483 => ?_)
      · refine z_istore C dL_agrees_483 (by decide) ?_
        refine z_iload C dL_agrees_485 rfl ?_
        refine z_join 502 (z_b (y_lk M d)) ?_ (fun kJ502 => ?_)
        · refine z_iadd C dL_agrees_502 ?_
          refine z_eqst (st2 := [.int (m_unl M (d + 1))]) rfl ?_
          refine z_istore C dL_agrees_503 (by decide) ?_
          refine z_meetH 524 (rest := []) (fun H' => y_X G ad nR nD nK nG M t4 H' ∧ y_B G b0 ad nR nD nK nG H' ∧ va_at G.1 vwCl (q372, .inl (G.2 0, 6, .inl (fun _ => 0))) H' ∧ ∃ f', va_at G.1 vwCl (q366, .inl (G.2 0, 6, .inl f')) H' ∧ y_lkI M (d + 1) f') ?_ (fun kJ524 => ?_)
          · rintro H524 ⟨hX, hB, hV, f, hU, hf⟩
            refine z_aload_n C dL_agrees_524 rfl ?_
            refine z_iload C dL_agrees_525 rfl ?_
            refine z_iconst (v := 0) C dL_agrees_527 (by decide) ?_
            refine y_callR (As := [.int _, .int _]) C hX rfl (fun T _ => c_X5_door _ _ ad M T hI _ _) kc_X5_door wb_p544 ⟨by decide, by decide⟩ ⟨Nat.le_of_ble_eq_true rfl, Nat.le_of_ble_eq_true rfl⟩ (Nat.le_of_ble_eq_true rfl) dL_agrees_528 ?_
            rw [y_d0 hI hd]
            refine z_aload_n C dL_agrees_531 rfl ?_
            refine z_iload C dL_agrees_532 rfl ?_
            refine z_iconst (v := 1) C dL_agrees_534 (by decide) ?_
            refine y_callR (As := [.int _, .int _]) C hX rfl (fun T _ => c_X5_door _ _ ad M T hI _ _) kc_X5_door wb_p544 ⟨by decide, by decide⟩ ⟨Nat.le_of_ble_eq_true rfl, Nat.le_of_ble_eq_true rfl⟩ (Nat.le_of_ble_eq_true rfl) dL_agrees_535 ?_
            rw [y_d1 hI hd]
            refine z_icmp_ge C 617 dL_agrees_538 (by decide) (fun h538 => ?_) (fun h538 => ?_)
            · exact absurd (nI_lt hld.1 (by omega)) h538
            · refine z_join 551 (z_b (decide (M.2 6 d < 0))) ?_ (fun kJ551 => ?_)
              · refine z_join 566 (z_b (decide (M.2 7 d = 0))) ?_ (fun kJ566 => ?_)
                · refine z_icmp_ne C 617 dL_agrees_566 (by decide) (fun h566 => ?_) (fun h566 => ?_)
                  · exact absurd (congrArg z_b (decide_eq_decide.mpr (y_door7 hI hd))) h566
                  · refine z_meet 584 (rest := []) ?_ (fun kJ584 => ?_)
                    · refine z_iload C dL_agrees_584 rfl ?_
                      refine z_join 601 (z_b (y_lk M d)) ?_ (fun kJ601 => ?_)
                      · refine z_icmp_ne C 617 dL_agrees_601 (by decide) (fun h601 => ?_) (fun h601 => ?_)
                        · exact absurd (y_byV hJ hd) h601
                        · refine z_aload_n C dL_agrees_604 rfl ?_
                          refine z_iload C dL_agrees_605 rfl ?_
                          refine z_bipush (v := 6) C dL_agrees_607 (by decide) ?_
                          refine y_callR (As := [.int _, .int _]) C hX rfl (fun T _ => c_X5_door _ _ ad M T hI _ _) kc_X5_door wb_p544 ⟨by decide, by decide⟩ ⟨Nat.le_of_ble_eq_true rfl, Nat.le_of_ble_eq_true rfl⟩ (Nat.le_of_ble_eq_true rfl) dL_agrees_609 ?_
                          rw [y_d6 hI hd]
                          refine z_bipush (v := (-2)) C dL_agrees_612 (by decide) ?_
                          refine z_icmp_eq C 619 dL_agrees_614 (by decide) (fun h614 => ?_) (fun h614 => ?_)
                          · refine z_iinc C dL_agrees_619 rfl rfl (by decide) ?_
                            refine z_goto C 379 dL_agrees_622 (by decide) ?_
                            exact ihO (d + 1, f) _ _ ⟨hd, hX, hB, hV, hU, hf⟩ (by dsimp only; omega) ⟨rfl, rfl, rfl, rfl, rfl, rfl, rfl, rfl, rfl, z_lgI rfl (z_inc d), trivial⟩
                          · exact absurd rfl h614
                      · refine z_iload C dL_agrees_586 rfl ?_
                        refine z_if_lt C 600 dL_agrees_588 (by decide) (fun h588 => ?_) (fun h588 => ?_)
                        · refine z_iconst (v := 0) C dL_agrees_600 (by decide) ?_
                          exact z_joinE kJ601 (by first | (simp [z_b, y_lk, *]; done) | (simp_all [z_b, y_lk]; done))
                        · refine z_iload C dL_agrees_591 rfl ?_
                          refine z_ifb_eq C 600 dL_agrees_593 (by decide) (fun h593 => ?_) (fun h593 => ?_)
                          · refine z_iconst (v := 0) C dL_agrees_600 (by decide) ?_
                            exact z_joinE kJ601 (by first | (simp [z_b, y_lk, *]; done) | (simp_all [z_b, y_lk]; done))
                          · refine z_iconst (v := 1) C dL_agrees_596 (by decide) ?_
                            refine z_goto C 601 dL_agrees_597 (by decide) ?_
                            exact z_joinE kJ601 (by first | (simp [z_b, y_lk, *]; done) | (simp_all [z_b, y_lk]; done))
                    · refine z_iload C dL_agrees_569 rfl ?_
                      refine z_if_ge C 584 dL_agrees_571 (by decide) (fun h571 => ?_) (fun h571 => ?_)
                      · exact kJ584
                      · refine z_aload_n C dL_agrees_574 rfl ?_
                        refine z_iload C dL_agrees_575 rfl ?_
                        refine z_iconst (v := 5) C dL_agrees_577 (by decide) ?_
                        refine y_callR (As := [.int _, .int _]) C hX rfl (fun T _ => c_X5_door _ _ ad M T hI _ _) kc_X5_door wb_p544 ⟨by decide, by decide⟩ ⟨Nat.le_of_ble_eq_true rfl, Nat.le_of_ble_eq_true rfl⟩ (Nat.le_of_ble_eq_true rfl) dL_agrees_578 ?_
                        rw [y_d5 hI hd]
                        refine z_if_ne C 617 dL_agrees_581 (by decide) (fun h581 => ?_) (fun h581 => ?_)
                        · exact absurd (y_door8 hI hd h571) h581
                        · exact kJ584
                · refine z_aload_n C dL_agrees_551 rfl ?_
                  refine z_iload C dL_agrees_552 rfl ?_
                  refine z_iconst (v := 4) C dL_agrees_554 (by decide) ?_
                  refine y_callR (As := [.int _, .int _]) C hX rfl (fun T _ => c_X5_door _ _ ad M T hI _ _) kc_X5_door wb_p544 ⟨by decide, by decide⟩ ⟨Nat.le_of_ble_eq_true rfl, Nat.le_of_ble_eq_true rfl⟩ (Nat.le_of_ble_eq_true rfl) dL_agrees_555 ?_
                  rw [y_d4 hI hd]
                  refine z_if_ne C 565 dL_agrees_558 (by decide) (fun h558 => ?_) (fun h558 => ?_)
                  · refine z_iconst (v := 0) C dL_agrees_565 (by decide) ?_
                    exact z_joinE kJ566 (by simp [z_b, *])
                  · refine z_iconst (v := 1) C dL_agrees_561 (by decide) ?_
                    refine z_goto C 566 dL_agrees_562 (by decide) ?_
                    exact z_joinE kJ566 (by simp [z_b, *])
              · refine z_iload C dL_agrees_541 rfl ?_
                refine z_if_ge C 550 dL_agrees_543 (by decide) (fun h543 => ?_) (fun h543 => ?_)
                · refine z_iconst (v := 0) C dL_agrees_550 (by decide) ?_
                  exact z_joinE kJ551 (by simp [z_b, *])
                · refine z_iconst (v := 1) C dL_agrees_546 (by decide) ?_
                  refine z_goto C 551 dL_agrees_547 (by decide) ?_
                  exact z_joinE kJ551 (by simp [z_b, *])
          · refine z_iload C dL_agrees_505 rfl ?_
            refine z_if_lt C 524 dL_agrees_507 (by decide) (fun h507 => ?_) (fun h507 => ?_)
            · first | exact kJ524 _ ⟨hX, hB, hV, _, hU, hf.up hc0 ec (by simpa using h512)⟩ | exact kJ524 _ ⟨hX, hB, hV, f, hU, hf.same (fun c1 hc1 => by have q1 : ¬ M.2 6 d = nI c1 := (fun q => nI_pos (n := c1) (by omega) (q ▸ h507)); rw [decide_eq_false q1]; rfl)⟩ | exact kJ524 _ ⟨hX, hB, hV, f, hU, hf.same (fun c1 hc1 => by have q1 : ¬ M.2 8 d < 0 := (by simpa using h512); rw [decide_eq_false q1, Bool.and_false])⟩
            · obtain ⟨c0, hc0, ec⟩ := y_color hI hd h507
              refine z_iload C dL_agrees_510 rfl ?_
              refine z_ifb_ne C 524 dL_agrees_512 (by decide) (fun h512 => ?_) (fun h512 => ?_)
              · first | exact kJ524 _ ⟨hX, hB, hV, _, hU, hf.up hc0 ec (by simpa using h512)⟩ | exact kJ524 _ ⟨hX, hB, hV, f, hU, hf.same (fun c1 hc1 => by have q1 : ¬ M.2 6 d = nI c1 := (fun q => nI_pos (n := c1) (by omega) (q ▸ h507)); rw [decide_eq_false q1]; rfl)⟩ | exact kJ524 _ ⟨hX, hB, hV, f, hU, hf.same (fun c1 hc1 => by have q1 : ¬ M.2 8 d < 0 := (by simpa using h512); rw [decide_eq_false q1, Bool.and_false])⟩
              · refine z_aload C dL_agrees_515 rfl ?_
                refine z_iload C dL_agrees_517 rfl ?_
                refine z_dup2 C dL_agrees_519 rfl rfl ?_
                refine z_iald C (by first | exact hU | exact hV) (by rw [ec]; exact vp_in_nI hc0 (by omega)) (by rw [ec, nI_clamp (by omega)]) dL_agrees_520 ?_
                refine z_iconst (v := 1) C dL_agrees_521 (by decide) ?_
                refine z_iadd C dL_agrees_522 ?_
                refine z_iast C (by first | exact hU | exact hV) (by exact hqa) (by rw [ec]; exact vp_in_nI hc0 (by omega)) (by rw [ec, nI_clamp (by omega)]) dL_agrees_523 (fun H523 hU523 => ?_)
                have hX := hX.put hU523 hna
                have hB := hB.put hU523 hqa
                have hV := z_at_keep hU523 hV hab.symm
                have hU := hU523.1
                first | exact kJ524 _ ⟨hX, hB, hV, _, hU, hf.up hc0 ec (by simpa using h512)⟩ | exact kJ524 _ ⟨hX, hB, hV, f, hU, hf.same (fun c1 hc1 => by have q1 : ¬ M.2 6 d = nI c1 := (fun q => nI_pos (n := c1) (by omega) (q ▸ h507)); rw [decide_eq_false q1]; rfl)⟩ | exact kJ524 _ ⟨hX, hB, hV, f, hU, hf.same (fun c1 hc1 => by have q1 : ¬ M.2 8 d < 0 := (by simpa using h512); rw [decide_eq_false q1, Bool.and_false])⟩
        · refine z_iload C dL_agrees_487 rfl ?_
          refine z_if_lt C 501 dL_agrees_489 (by decide) (fun h489 => ?_) (fun h489 => ?_)
          · refine z_iconst (v := 0) C dL_agrees_501 (by decide) ?_
            exact z_joinE kJ502 (by first | (simp [z_b, y_lk, *]; done) | (simp_all [z_b, y_lk]; done))
          · refine z_iload C dL_agrees_492 rfl ?_
            refine z_ifb_eq C 501 dL_agrees_494 (by decide) (fun h494 => ?_) (fun h494 => ?_)
            · refine z_iconst (v := 0) C dL_agrees_501 (by decide) ?_
              exact z_joinE kJ502 (by first | (simp [z_b, y_lk, *]; done) | (simp_all [z_b, y_lk]; done))
            · refine z_iconst (v := 1) C dL_agrees_497 (by decide) ?_
              refine z_goto C 502 dL_agrees_498 (by decide) ?_
              exact z_joinE kJ502 (by first | (simp [z_b, y_lk, *]; done) | (simp_all [z_b, y_lk]; done))
      · refine z_aload_n C dL_agrees_468 rfl ?_
        refine z_iload C dL_agrees_469 rfl ?_
        refine z_iconst (v := 5) C dL_agrees_471 (by decide) ?_
        refine y_callR (As := [.int _, .int _]) C hX rfl (fun T _ => c_X5_door _ _ ad M T hI _ _) kc_X5_door wb_p544 ⟨by decide, by decide⟩ ⟨Nat.le_of_ble_eq_true rfl, Nat.le_of_ble_eq_true rfl⟩ (Nat.le_of_ble_eq_true rfl) dL_agrees_472 ?_
        rw [y_d5 hI hd]
        refine z_if_lt C 482 dL_agrees_475 (by decide) (fun h475 => ?_) (fun h475 => ?_)
        · refine z_iconst (v := 0) C dL_agrees_482 (by decide) ?_
          exact z_joinE kJ483 (by simp [z_b, *])
        · refine z_iconst (v := 1) C dL_agrees_478 (by decide) ?_
          refine z_goto C 483 dL_agrees_479 (by decide) ?_
          exact z_joinE kJ483 (by simp [z_b, *])
    · have hk : j < nK := z_lt rfl (by omega) hj1 h411
      refine z_iload C dL_agrees_414 rfl ?_
      refine z_join 433 (z_b ((fun k => decide (M.2 11 k = 2) && decide (M.2 12 k = nI d)) j)) ?_ (fun kJ433 => ?_)
      · refine z_iadd C dL_agrees_433 ?_
        refine z_eqst (st2 := [.int (nI (k_n (fun k => decide (M.2 11 k = 2) && decide (M.2 12 k = nI d)) (j + 1)))]) (y_cntE _ _) ?_
        refine z_istore C dL_agrees_434 (by decide) ?_
        refine z_aload_n C dL_agrees_436 rfl ?_
        refine z_iload C dL_agrees_437 rfl ?_
        refine z_iconst (v := 4) C dL_agrees_439 (by decide) ?_
        refine y_callR (As := [.int _, .int _]) C hX rfl (fun T _ => c_X5_key _ _ ad M T hI _ _) kc_X5_key wb_p525 ⟨by decide, by decide⟩ ⟨Nat.le_of_ble_eq_true rfl, Nat.le_of_ble_eq_true rfl⟩ (Nat.le_of_ble_eq_true rfl) dL_agrees_440 ?_
        rw [y_k4 hI hk]
        refine z_iload C dL_agrees_443 rfl ?_
        refine z_icmp_ne C 462 dL_agrees_445 (by decide) (fun h445 => ?_) (fun h445 => ?_)
        · refine z_iinc C dL_agrees_462 rfl rfl (by decide) ?_
          refine z_goto C 404 dL_agrees_465 (by decide) ?_
          exact ihI hk _ ⟨rfl, rfl, rfl, rfl, rfl, rfl, rfl, rfl, rfl, rfl, rfl, rfl, z_lgI rfl (z_inc j), trivial⟩
        · have q445 := (y_byE (M := M) (j := j) (d := d) (by omega)).mp h445
          simp only [Bool.and_eq_true, decide_eq_true_eq] at q445
          refine z_aload_n C dL_agrees_448 rfl ?_
          refine z_iload C dL_agrees_449 rfl ?_
          refine z_iconst (v := 0) C dL_agrees_451 (by decide) ?_
          refine y_callR (As := [.int _, .int _]) C hX rfl (fun T _ => c_X5_key _ _ ad M T hI _ _) kc_X5_key wb_p525 ⟨by decide, by decide⟩ ⟨Nat.le_of_ble_eq_true rfl, Nat.le_of_ble_eq_true rfl⟩ (Nat.le_of_ble_eq_true rfl) dL_agrees_452 ?_
          rw [y_k0 hI hk]
          refine z_iload C dL_agrees_455 rfl ?_
          refine z_icmp_eq C 462 dL_agrees_457 (by decide) (fun h457 => ?_) (fun h457 => ?_)
          · refine z_iinc C dL_agrees_462 rfl rfl (by decide) ?_
            refine z_goto C 404 dL_agrees_465 (by decide) ?_
            exact ihI hk _ ⟨rfl, rfl, rfl, rfl, rfl, rfl, rfl, rfl, rfl, rfl, rfl, rfl, z_lgI rfl (z_inc j), trivial⟩
          · exact absurd (hJ.2.2.1 j hk q445.1 d hd q445.2) h457
      · refine z_aload_n C dL_agrees_416 rfl ?_
        refine z_iload C dL_agrees_417 rfl ?_
        refine z_iconst (v := 4) C dL_agrees_419 (by decide) ?_
        refine y_callR (As := [.int _, .int _]) C hX rfl (fun T _ => c_X5_key _ _ ad M T hI _ _) kc_X5_key wb_p525 ⟨by decide, by decide⟩ ⟨Nat.le_of_ble_eq_true rfl, Nat.le_of_ble_eq_true rfl⟩ (Nat.le_of_ble_eq_true rfl) dL_agrees_420 ?_
        rw [y_k4 hI hk]
        refine z_iload C dL_agrees_423 rfl ?_
        refine z_icmp_ne C 432 dL_agrees_425 (by decide) (fun h425 => ?_) (fun h425 => ?_)
        · refine z_iconst (v := 0) C dL_agrees_432 (by decide) ?_
          exact z_joinE kJ433 (by show _ = z_b (decide (M.2 11 j = 2) && decide (M.2 12 j = nI d)); first | (rw [(y_byE (by omega)).mp h425]; rfl) | (rw [Bool.eq_false_iff.mpr (fun q => h425 ((y_byE (by omega)).mpr q))]; rfl))
        · refine z_iconst (v := 1) C dL_agrees_428 (by decide) ?_
          refine z_goto C 433 dL_agrees_429 (by decide) ?_
          exact z_joinE kJ433 (by show _ = z_b (decide (M.2 11 j = 2) && decide (M.2 12 j = nI d)); first | (rw [(y_byE (by omega)).mp h425]; rfl) | (rw [Bool.eq_false_iff.mpr (fun q => h425 ((y_byE (by omega)).mpr q))]; rfl))
end YAG
