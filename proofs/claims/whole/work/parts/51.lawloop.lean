/-! the law's loop -/
theorem z_sub6 {n : Nat} (hn : n < 2 ^ 30) : (nI n - 6).toInt = (n : Int) - 6 := by
  have h1 : (nI n).toInt = (n : Int) := nI_toInt (by omega)
  have h2 : (6 : Int32).toInt = 6 := rfl
  rw [Int32.toInt_sub, h1, h2, Int.bmod_eq_of_le (by omega) (by omega)]
section LLP
variable {p : Program} {l : Launch} {e : Env} {s : State} {m : MethodId} {args : Array Value} {below : List Frame} {meth : Method} {c : Code} {Q : State → Prop} {nm : String} {G : z_G} {b L ax a0 : Nat} {xs : Nat → Int32}
theorem z_slen {R : Room} {cells slots pc : Nat} {H : Heap} {Lo : List (Nat × Value)} {rest : List Value} (C : z_C p s m args meth c cL_law "EscapeRoomsLaw" ret 4 nm G) (hX : va_X b L xs s s.heap) (hbl : b < s.heap.size) (hdg : decode cL_law pc = .ok (.arraylength, 1)) (kk : z_Z p l e R s m args below meth c (fun q => s.heap.size ≤ q) 4 cells slots Q H (pc + 1) Lo (.int (nI L) :: rest)) : z_Z p l e R s m args below meth c (fun q => s.heap.size ≤ q) 4 cells slots Q H pc Lo (.ref b :: rest) :=
  fun ls locs hl hS => va_slen C.1 C.2.1 hX hbl (Nat.not_le.mpr hbl) hS hdg (kk ls locs hl hS)
set_option maxHeartbeats 4000000 in
set_option maxRecDepth 100000 in
theorem lw_loop (C : z_C p s m args meth c cL_law "EscapeRoomsLaw" ret 4 nm G) (hX : va_X b L xs s s.heap) (hbl : b < s.heap.size) (hL : L ≤ 3072)
    (hnd : ∀ H Lo k n, k ≤ 600000 → n ≤ 7302250 → z_Z p l e room_1 s m args below meth c (fun q => s.heap.size ≤ q) 4 k n Q H 949 Lo []) :
    ∀ k i H, L < 6 * i + k → 6 * i ≤ L → lw_J G s.heap.size ax a0 i H → z_Z p l e room_1 s m args below meth c (fun q => s.heap.size ≤ q) 4 (31 + 2 * i) (6430 + 34 * i) Q H 18 [(0, .ref b), (1, .ref ax), (2, .ref a0), (3, .int (nI (6 * i)))] [] := by
  intro k
  induction k with
  | zero => intro i H hk hi; exact absurd hk (by omega)
  | succ k ih =>
    intro i H hk hi hJ
    refine z_iload_n C dL_law_18 rfl ?_
    refine z_aload_n C dL_law_19 rfl ?_
    refine z_slen C hX hbl dL_law_20 ?_
    refine z_bipush (v := 6) C dL_law_21 (by decide) ?_
    refine z_isub C dL_law_23 ?_
    refine z_icmp_gt C 949 dL_law_24 (by decide) (fun h24 => ?_) (fun h24 => ?_)
    · exact hnd H _ _ _ (by omega) (by omega)
    · have hle : 6 * i + 6 ≤ L := by
        have h1 : ¬ (nI L - 6 : Int32) < nI (6 * i) := h24
        rw [Int32.lt_iff_toInt_lt, z_sub6 (by omega), nI_toInt (by omega)] at h1
        omega
      have hb : lw_H s b L xs i := ⟨hX, hbl, by omega, hL⟩
      have hcb : 31 + 2 * i + 2 ≤ room_1.cells ∧ 6430 + 34 * i + 34 ≤ room_1.slots := ⟨by show 31 + 2 * i + 2 ≤ 600000; omega, by show 6430 + 34 * i + 34 ≤ 7302250; omega⟩
      have hnx : ∀ H', lw_J G s.heap.size ax a0 (i + 1) H' → z_Z p l e room_1 s m args below meth c (fun q => s.heap.size ≤ q) 4 (31 + 2 * i + 2) (6430 + 34 * i + 34) Q H' 943 [(0, .ref b), (1, .ref ax), (2, .ref a0), (3, .int (nI (6 * i)))] [] := fun H' hJ2 => by
        refine z_iinc C dL_law_943 rfl rfl (by decide) ?_
        refine z_goto C 18 dL_law_946 (by decide) ?_
        exact z_sub [(0, .ref b), (1, .ref ax), (2, .ref a0), (3, .int (nI (6 * (i + 1))))] ⟨rfl, rfl, rfl, z_lgI rfl (nI_add (6 * i) 6), trivial⟩ (ih (i + 1) H' (by omega) (by omega) hJ2)
      refine z_aload_n C dL_law_27 rfl ?_
      refine z_iload_n C dL_law_28 rfl ?_
      refine z_sld (j := 6 * i) C hb rfl (by omega) dL_law_29 ?_
      refine z_bipush (v := 31) C dL_law_30 (by decide) ?_
      refine z_iand C dL_law_32 ?_
      obtain ⟨v, hv⟩ : ∃ v, v = xs (6 * i) &&& 31 := ⟨_, rfl⟩
      refine z_eqst (st2 := [.int v]) (by rw [hv]) ?_
      by_cases hsw_0 : v = 0
      · subst hsw_0
        refine z_tableIn C 148 dL_law_33 (by decide) (by decide) (by rfl) (by decide) ?_
        exact lc_0 C hb hJ hcb hnx
      by_cases hsw_1 : v = 1
      · subst hsw_1
        refine z_tableIn C 161 dL_law_33 (by decide) (by decide) (by rfl) (by decide) ?_
        exact lc_1 C hb hJ hcb hnx
      by_cases hsw_2 : v = 2
      · subst hsw_2
        refine z_tableIn C 184 dL_law_33 (by decide) (by decide) (by rfl) (by decide) ?_
        exact lc_2 C hb hJ hcb hnx
      by_cases hsw_3 : v = 3
      · subst hsw_3
        refine z_tableIn C 227 dL_law_33 (by decide) (by decide) (by rfl) (by decide) ?_
        exact lc_3 C hb hJ hcb hnx
      by_cases hsw_4 : v = 4
      · subst hsw_4
        refine z_tableIn C 290 dL_law_33 (by decide) (by decide) (by rfl) (by decide) ?_
        exact lc_4 C hb hJ hcb hnx
      by_cases hsw_5 : v = 5
      · subst hsw_5
        refine z_tableIn C 323 dL_law_33 (by decide) (by decide) (by rfl) (by decide) ?_
        exact lc_5 C hb hJ hcb hnx
      by_cases hsw_6 : v = 6
      · subst hsw_6
        refine z_tableIn C 356 dL_law_33 (by decide) (by decide) (by rfl) (by decide) ?_
        exact lc_6 C hb hJ hcb hnx
      by_cases hsw_7 : v = 7
      · subst hsw_7
        refine z_tableIn C 389 dL_law_33 (by decide) (by decide) (by rfl) (by decide) ?_
        exact lc_7 C hb hJ hcb hnx
      by_cases hsw_8 : v = 8
      · subst hsw_8
        refine z_tableIn C 422 dL_law_33 (by decide) (by decide) (by rfl) (by decide) ?_
        exact lc_8 C hb hJ hcb hnx
      by_cases hsw_9 : v = 9
      · subst hsw_9
        refine z_tableIn C 455 dL_law_33 (by decide) (by decide) (by rfl) (by decide) ?_
        exact lc_9 C hb hJ hcb hnx
      by_cases hsw_10 : v = 10
      · subst hsw_10
        refine z_tableIn C 488 dL_law_33 (by decide) (by decide) (by rfl) (by decide) ?_
        exact lc_10 C hb hJ hcb hnx
      by_cases hsw_11 : v = 11
      · subst hsw_11
        refine z_tableIn C 521 dL_law_33 (by decide) (by decide) (by rfl) (by decide) ?_
        exact lc_11 C hb hJ hcb hnx
      by_cases hsw_12 : v = 12
      · subst hsw_12
        refine z_tableIn C 554 dL_law_33 (by decide) (by decide) (by rfl) (by decide) ?_
        exact lc_12 C hb hJ hcb hnx
      by_cases hsw_13 : v = 13
      · subst hsw_13
        refine z_tableIn C 587 dL_law_33 (by decide) (by decide) (by rfl) (by decide) ?_
        exact lc_13 C hb hJ hcb hnx
      by_cases hsw_14 : v = 14
      · subst hsw_14
        refine z_tableIn C 620 dL_law_33 (by decide) (by decide) (by rfl) (by decide) ?_
        exact lc_14 C hb hJ hcb hnx
      by_cases hsw_15 : v = 15
      · subst hsw_15
        refine z_tableIn C 643 dL_law_33 (by decide) (by decide) (by rfl) (by decide) ?_
        exact lc_15 C hb hJ hcb hnx
      by_cases hsw_16 : v = 16
      · subst hsw_16
        refine z_tableIn C 666 dL_law_33 (by decide) (by decide) (by rfl) (by decide) ?_
        exact lc_16 C hb hJ hcb hnx
      by_cases hsw_17 : v = 17
      · subst hsw_17
        refine z_tableIn C 699 dL_law_33 (by decide) (by decide) (by rfl) (by decide) ?_
        exact lc_17 C hb hJ hcb hnx
      by_cases hsw_18 : v = 18
      · subst hsw_18
        refine z_tableIn C 732 dL_law_33 (by decide) (by decide) (by rfl) (by decide) ?_
        exact lc_18 C hb hJ hcb hnx
      by_cases hsw_19 : v = 19
      · subst hsw_19
        refine z_tableIn C 765 dL_law_33 (by decide) (by decide) (by rfl) (by decide) ?_
        exact lc_19 C hb hJ hcb hnx
      by_cases hsw_20 : v = 20
      · subst hsw_20
        refine z_tableIn C 788 dL_law_33 (by decide) (by decide) (by rfl) (by decide) ?_
        exact lc_20 C hb hJ hcb hnx
      by_cases hsw_21 : v = 21
      · subst hsw_21
        refine z_tableIn C 821 dL_law_33 (by decide) (by decide) (by rfl) (by decide) ?_
        exact lc_21 C hb hJ hcb hnx
      by_cases hsw_22 : v = 22
      · subst hsw_22
        refine z_tableIn C 854 dL_law_33 (by decide) (by decide) (by rfl) (by decide) ?_
        exact lc_22 C hb hJ hcb hnx
      by_cases hsw_23 : v = 23
      · subst hsw_23
        refine z_tableIn C 887 dL_law_33 (by decide) (by decide) (by rfl) (by decide) ?_
        exact lc_23 C hb hJ hcb hnx
      by_cases hsw_24 : v = 24
      · subst hsw_24
        refine z_tableIn C 920 dL_law_33 (by decide) (by decide) (by rfl) (by decide) ?_
        exact lc_24 C hb hJ hcb hnx
      have hsq_0 : v.toInt ≠ 0 := fun q => hsw_0 (Int32.toInt_inj.mp q)
      have hsq_1 : v.toInt ≠ 1 := fun q => hsw_1 (Int32.toInt_inj.mp q)
      have hsq_2 : v.toInt ≠ 2 := fun q => hsw_2 (Int32.toInt_inj.mp q)
      have hsq_3 : v.toInt ≠ 3 := fun q => hsw_3 (Int32.toInt_inj.mp q)
      have hsq_4 : v.toInt ≠ 4 := fun q => hsw_4 (Int32.toInt_inj.mp q)
      have hsq_5 : v.toInt ≠ 5 := fun q => hsw_5 (Int32.toInt_inj.mp q)
      have hsq_6 : v.toInt ≠ 6 := fun q => hsw_6 (Int32.toInt_inj.mp q)
      have hsq_7 : v.toInt ≠ 7 := fun q => hsw_7 (Int32.toInt_inj.mp q)
      have hsq_8 : v.toInt ≠ 8 := fun q => hsw_8 (Int32.toInt_inj.mp q)
      have hsq_9 : v.toInt ≠ 9 := fun q => hsw_9 (Int32.toInt_inj.mp q)
      have hsq_10 : v.toInt ≠ 10 := fun q => hsw_10 (Int32.toInt_inj.mp q)
      have hsq_11 : v.toInt ≠ 11 := fun q => hsw_11 (Int32.toInt_inj.mp q)
      have hsq_12 : v.toInt ≠ 12 := fun q => hsw_12 (Int32.toInt_inj.mp q)
      have hsq_13 : v.toInt ≠ 13 := fun q => hsw_13 (Int32.toInt_inj.mp q)
      have hsq_14 : v.toInt ≠ 14 := fun q => hsw_14 (Int32.toInt_inj.mp q)
      have hsq_15 : v.toInt ≠ 15 := fun q => hsw_15 (Int32.toInt_inj.mp q)
      have hsq_16 : v.toInt ≠ 16 := fun q => hsw_16 (Int32.toInt_inj.mp q)
      have hsq_17 : v.toInt ≠ 17 := fun q => hsw_17 (Int32.toInt_inj.mp q)
      have hsq_18 : v.toInt ≠ 18 := fun q => hsw_18 (Int32.toInt_inj.mp q)
      have hsq_19 : v.toInt ≠ 19 := fun q => hsw_19 (Int32.toInt_inj.mp q)
      have hsq_20 : v.toInt ≠ 20 := fun q => hsw_20 (Int32.toInt_inj.mp q)
      have hsq_21 : v.toInt ≠ 21 := fun q => hsw_21 (Int32.toInt_inj.mp q)
      have hsq_22 : v.toInt ≠ 22 := fun q => hsw_22 (Int32.toInt_inj.mp q)
      have hsq_23 : v.toInt ≠ 23 := fun q => hsw_23 (Int32.toInt_inj.mp q)
      have hsq_24 : v.toInt ≠ 24 := fun q => hsw_24 (Int32.toInt_inj.mp q)
      refine z_tableOut C 943 dL_law_33 (by omega) (by decide) ?_
      refine z_widen (k2 := 31 + 2 * i + 2) (n2 := 6430 + 34 * i + 34) (by omega) (by omega) ?_
      obtain ⟨ad, am, M, T, nR, nD, nK, nG, n0, hJI⟩ := hJ
      exact hnx H (lw_J.next hJI)
end LLP
