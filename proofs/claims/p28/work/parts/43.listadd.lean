/-! the list's methods that make cells -/
def x_nc (n : Nat) : Nat := n + (if n / 2 < 1 then 1 else n / 2)
def x_nr (n : Nat) : Int32 := nI n + (if nI (n + 1) - nI n < nI n >>> ((1 : Int32) &&& 31) then nI n >>> ((1 : Int32) &&& 31) else nI (n + 1) - nI n)
theorem x_nr_ok : ∀ n, n < 17 → 1 ≤ n → x_nr n = nI (x_nc n) ∧ n < x_nc n ∧ x_nc n ≤ 24 ∧ 0 < x_nr n ∧ ¬ 2147483639 < x_nr n := by decide +kernel

set_option maxHeartbeats 4000000 in
set_option maxRecDepth 100000 in
theorem c_J8_newLength_cabcc (l : Launch) (G : z_G) (x y z : Int32) (h1 : 0 < x + (if y < z then z else y)) (h2 : ¬ 2147483639 < x + (if y < z then z else y)) : z_MR l yJ8_newLength_cabcc cJ8_newLength_cabcc 4 (some .int) 1 [.int x, .int y, .int z] G (fun H => True) (.int (x + (if y < z then z else y))) := by
  refine z_M.of (by decide +kernel) (Nat.le_of_ble_eq_true rfl) ?_
  intro p e s m below meth c C hP
  refine z_iload_n C dJ8_newLength_cabcc_0 rfl ?_
  refine z_iload_n C dJ8_newLength_cabcc_1 rfl ?_
  refine z_iload_n C dJ8_newLength_cabcc_2 rfl ?_
  refine z_mmax C wb_174 wb_175 wb_9 wb_176 (by decide) (Nat.le_of_ble_eq_true rfl) (Nat.le_of_ble_eq_true rfl) (Nat.le_of_ble_eq_true rfl) dJ8_newLength_cabcc_3 ?_
  refine z_iadd C dJ8_newLength_cabcc_6 ?_
  refine z_istore_n C dJ8_newLength_cabcc_7 (by decide) ?_
  refine z_iconst (v := 0) C dJ8_newLength_cabcc_8 (by decide) ?_
  refine z_iload_n C dJ8_newLength_cabcc_9 rfl ?_
  refine z_icmp_ge C 21 dJ8_newLength_cabcc_10 (by decide) (fun h10 => ?_) (fun h10 => ?_)
  · exact absurd h1 h10
  · refine z_iload_n C dJ8_newLength_cabcc_13 rfl ?_
    refine z_ldc C wb_177 dJ8_newLength_cabcc_14 ?_
    refine z_icmp_gt C 21 dJ8_newLength_cabcc_16 (by decide) (fun h16 => ?_) (fun h16 => ?_)
    · exact absurd h16 h2
    · refine z_iload_n C dJ8_newLength_cabcc_19 rfl ?_
      exact z_iret C (by omega) (by omega) dJ8_newLength_cabcc_20 (by exact ⟨rfl, rfl⟩)

set_option maxHeartbeats 4000000 in
set_option maxRecDepth 100000 in
theorem c_J7_copyOf_6403c (l : Launch) (G : z_G) (a0 n N ci sz : Nat) (f : Nat → Option Nat) (hN : n ≤ N) (hN2 : N ≤ 24) (q : vw_C) (hc : vwCl[ci]? = some q) (hO : ∀ u, z_K G u → z_KO q.1 u) : z_M l yJ7_copyOf_6403c cJ7_copyOf_6403c 4 (some (.array (.object "java/lang/Object"))) 1 1 24 [.ref a0, .int (nI N), .ref (G.2 4)] G (fun H => H.size = sz ∧ va_at G.1 vwCl (a0, z_aq G n f) H ∧ ∀ i, i < n → ∀ y, f i = some y → ∃ fs, va_at G.1 vwCl (y, .inr (ci, fs)) H) (fun q => sz ≤ q) (fun v H H1 => ∃ a, v = some (.ref a) ∧ sz ≤ a ∧ va_at G.1 vwCl (a, z_aq G N (va_cpy f (fun _ => none) 0 0 n)) H1) := by
  refine z_M.of (by decide +kernel) (Nat.le_of_ble_eq_true rfl) ?_
  intro p e s m below meth c C hP
  obtain ⟨rfl, hE, hel⟩ := hP
  refine z_aload_n C dJ7_copyOf_6403c_0 rfl ?_
  refine z_ldcM C wb_199 dJ7_copyOf_6403c_1 ?_
  refine z_acmp_ne_rr C 13 dJ7_copyOf_6403c_3 (by decide) (fun h3 => ?_) (fun h3 => ?_)
  · exact absurd rfl h3
  · refine z_iload_n C dJ7_copyOf_6403c_6 rfl ?_
    refine z_newq C wb_201 N (nI_pos (by omega)) (nI_clamp (by omega)) (by omega) (by decide) (by show 0 + N ≤ 24; omega) dJ7_copyOf_6403c_7 (fun a7 H7 hN7 => ?_)
    have hE7 := z_at_new hN7 hE
    refine z_widen (k2 := 1) (n2 := 24) (by omega) (by omega) ?_
    refine z_goto C 24 dJ7_copyOf_6403c_10 (by decide) ?_
    refine z_astore_n C dJ7_copyOf_6403c_24 (by decide) ?_
    refine z_aload_n C dJ7_copyOf_6403c_25 rfl ?_
    refine z_iconst (v := 0) C dJ7_copyOf_6403c_26 (by decide) ?_
    refine z_aload_n C dJ7_copyOf_6403c_27 rfl ?_
    refine z_iconst (v := 0) C dJ7_copyOf_6403c_28 (by decide) ?_
    refine z_aload_n C dJ7_copyOf_6403c_29 rfl ?_
    refine z_alen C (by first | exact hE7 | exact hE) (t := 3) rfl dJ7_copyOf_6403c_30 ?_
    refine z_eqst (st2 := [.int (nI n), .int 0, .ref a7, .int 0, .ref a0]) rfl ?_
    refine z_iload_n C dJ7_copyOf_6403c_31 rfl ?_
    refine z_mmin C wb_202 wb_203 wb_9 wb_204 (by decide) (Nat.le_of_ble_eq_true rfl) (Nat.le_of_ble_eq_true rfl) (Nat.le_of_ble_eq_true rfl) dJ7_copyOf_6403c_32 ?_
    have e35 : (if nI N < nI n then nI N else nI n) = nI n := by
      rw [if_neg]
      exact nI_nlt hN (by omega)
    rw [e35]
    refine z_copyq C hE7 hN7.2.1 (by show s.heap.size ≤ a7; rw [hN7.1]; exact Nat.le_refl _) wb_205 hN (by omega) hc (hO _ C.2.2.2.2.2.2.1) (fun i hi y hy => by
      obtain ⟨fs, h⟩ := hel i hi y hy
      exact ⟨fs, z_at_new hN7 h⟩) (by decide) (Nat.le_of_ble_eq_true rfl) dJ7_copyOf_6403c_35 (fun H35 hU35 => ?_)
    refine z_aload_n C dJ7_copyOf_6403c_38 rfl ?_
    exact z_aret C (by first | exact Or.inl ⟨_, rfl⟩ | exact Or.inr ⟨_, rfl⟩) (by omega) (by omega) dJ7_copyOf_6403c_39 (by exact ⟨a7, rfl, by rw [hN7.1]; exact Nat.le_refl _, hU35.1⟩)

set_option maxHeartbeats 4000000 in
set_option maxRecDepth 100000 in
theorem c_J7_copyOf_1904c (l : Launch) (G : z_G) (a0 n N ci sz : Nat) (f : Nat → Option Nat) (hN : n ≤ N) (hN2 : N ≤ 24) (q : vw_C) (hc : vwCl[ci]? = some q) (hO : ∀ u, z_K G u → z_KO q.1 u) : z_M l yJ7_copyOf_1904c cJ7_copyOf_1904c 2 (some (.array (.object "java/lang/Object"))) 2 1 24 [.ref a0, .int (nI N)] G (fun H => H.size = sz ∧ va_at G.1 vwCl (a0, z_aq G n f) H ∧ ∀ i, i < n → ∀ y, f i = some y → ∃ fs, va_at G.1 vwCl (y, .inr (ci, fs)) H) (fun q => sz ≤ q) (fun v H H1 => ∃ a, v = some (.ref a) ∧ sz ≤ a ∧ va_at G.1 vwCl (a, z_aq G N (va_cpy f (fun _ => none) 0 0 n)) H1) := by
  refine z_M.of (by decide +kernel) (Nat.le_of_ble_eq_true rfl) ?_
  intro p e s m below meth c C hP
  have hP0 := hP
  obtain ⟨rfl, hE, hel⟩ := hP
  refine z_aload_n C dJ7_copyOf_1904c_0 rfl ?_
  refine z_iload_n C dJ7_copyOf_1904c_1 rfl ?_
  refine z_aload_n C dJ7_copyOf_1904c_2 rfl ?_
  refine z_getC C hE wb_184 (by decide) (Nat.le_of_ble_eq_true rfl) dJ7_copyOf_1904c_3 ?_
  refine z_callS (As := [.ref _, .int _, .ref _]) C (c_J7_copyOf_6403c _ _ a0 n N ci _ f hN hN2 q hc hO) kc_J7_copyOf_6403c wb_196 ⟨by decide, by decide⟩ (hP0) (fun _ h => h) ⟨Nat.le_of_ble_eq_true rfl, Nat.le_of_ble_eq_true rfl⟩ (Nat.le_of_ble_eq_true rfl) dJ7_copyOf_1904c_6 (fun v H6 hq hsz6 hfr6 => ?_)
  obtain ⟨a, rfl, ha1, ha2⟩ := hq
  exact z_aret C (by first | exact Or.inl ⟨_, rfl⟩ | exact Or.inr ⟨_, rfl⟩) (by omega) (by omega) dJ7_copyOf_1904c_9 (by exact ⟨a, rfl, ha1, ha2⟩)

set_option maxHeartbeats 4000000 in
set_option maxRecDepth 100000 in
theorem c_Jx4a65c_grow_92f84 (l : Launch) (G : z_G) (aL aE n ci sz : Nat) (f : Nat → Nat) (mod : Int32) (hn : n ≤ 16) (hne : G.2 6 ≠ aL) (q : vw_C) (hc : vwCl[ci]? = some q) (hO : ∀ u, z_K G u → z_KO q.1 u) : z_M l yJx4a65c_grow_92f84 cJx4a65c_grow_92f84 4 (some (.array (.object "java/lang/Object"))) 3 1 24 [.ref aL, .int (nI (n + 1))] G (fun H => H.size = sz ∧ va_at G.1 vwCl (aL, .inr (0, [.int mod, .ref aE, .int (nI n)])) H ∧ z_Es G H ∧ (n = 0 → aE = G.2 5) ∧ z_Al G aE n H ∧ (1 ≤ n → ∃ g, va_at G.1 vwCl (aE, z_aq G n g) H ∧ ∀ i, i < n → g i = some (f i)) ∧ ∀ i, i < n → ∃ fs, va_at G.1 vwCl (f i, .inr (ci, fs)) H) (fun q => q = aL ∨ sz ≤ q) (fun v H H1 => ∃ a cap g, v = some (.ref a) ∧ sz ≤ a ∧ va_at G.1 vwCl (aL, .inr (0, [.int mod, .ref a, .int (nI n)])) H1 ∧ va_at G.1 vwCl (a, z_aq G cap g) H1 ∧ n < cap ∧ cap ≤ 24 ∧ ∀ i, i < n → g i = some (f i)) := by
  refine z_M.of (by decide +kernel) (Nat.le_of_ble_eq_true rfl) ?_
  intro p e s m below meth c C hP
  obtain ⟨rfl, hL, hS0, hz, hAl, hEg, hel⟩ := hP
  have hlt := hL.lt
  refine z_aload_n C dJx4a65c_grow_92f84_0 rfl ?_
  refine z_get C (by first | exact hL37 | exact hL52 | exact hE | exact hL) z_cls0 hu_Jx4a65c 1 (by decide) wb_40 rfl rfl dJx4a65c_grow_92f84_1 ?_
  refine z_alenE C hAl dJx4a65c_grow_92f84_4 ?_
  refine z_istore_n C dJx4a65c_grow_92f84_5 (by decide) ?_
  refine z_iload_n C dJx4a65c_grow_92f84_6 rfl ?_
  refine z_if_gt C 20 dJx4a65c_grow_92f84_7 (by decide) (fun h7 => ?_) (fun h7 => ?_)
  · have hn1 : 1 ≤ n := by
      rcases Nat.eq_zero_or_pos n with z | z
      · subst z
        have h7b : (0 : Int32) < 0 := h7
        exact absurd h7b (by decide)
      · exact z
    have hr := x_nr_ok n (by omega) hn1
    obtain ⟨g, hE, hg⟩ := hEg hn1
    have hel2 : ∀ i, i < n → ∀ y, g i = some y → ∃ fs, va_at G.1 vwCl (y, .inr (ci, fs)) s.heap := fun i hi y hy => by
      rw [hg i hi] at hy
      cases hy
      exact hel i hi
    refine z_iload_n C dJx4a65c_grow_92f84_20 rfl ?_
    refine z_iload_n C dJx4a65c_grow_92f84_21 rfl ?_
    refine z_iload_n C dJx4a65c_grow_92f84_22 rfl ?_
    refine z_isub C dJx4a65c_grow_92f84_23 ?_
    refine z_iload_n C dJx4a65c_grow_92f84_24 rfl ?_
    refine z_iconst (v := 1) C dJx4a65c_grow_92f84_25 (by decide) ?_
    refine z_ishr C dJx4a65c_grow_92f84_26 ?_
    refine z_callSR (As := [.int _, .int _, .int _]) C (c_J8_newLength_cabcc _ _ _ _ _ hr.2.2.2.1 hr.2.2.2.2) kc_J8_newLength_cabcc wb_171 ⟨by decide, by decide⟩ (trivial) ⟨Nat.zero_le _, Nat.zero_le _⟩ (Nat.le_of_ble_eq_true rfl) dJx4a65c_grow_92f84_27 ?_
    refine z_eqst (st2 := [.int (nI (x_nc n))]) (by rw [← hr.1]; rfl) ?_
    refine z_istore_n C dJx4a65c_grow_92f84_30 (by decide) ?_
    refine z_aload_n C dJx4a65c_grow_92f84_31 rfl ?_
    refine z_aload_n C dJx4a65c_grow_92f84_32 rfl ?_
    refine z_get C (by first | exact hL37 | exact hL52 | exact hE | exact hL) z_cls0 hu_Jx4a65c 1 (by decide) wb_40 rfl rfl dJx4a65c_grow_92f84_33 ?_
    refine z_iload_n C dJx4a65c_grow_92f84_36 rfl ?_
    refine z_callS (As := [.ref _, .int _]) C (c_J7_copyOf_1904c _ _ aE n (x_nc n) ci _ g (by omega) hr.2.2.1 q hc hO) kc_J7_copyOf_1904c wb_181 ⟨by decide, by decide⟩ (⟨rfl, hE, fun i hi y hy => hel2 i hi y hy⟩) (fun _ h => Or.inr h) ⟨Nat.le_of_ble_eq_true rfl, Nat.le_of_ble_eq_true rfl⟩ (Nat.le_of_ble_eq_true rfl) dJx4a65c_grow_92f84_37 (fun v H37 hq hsz37 hfr37 => ?_)
    obtain ⟨a, rfl, ha1, ha2⟩ := hq
    have hL37 := hL.kept (hfr37 aL (hL.lt) (Nat.not_le.mpr (hL.lt)))
    have hneq : a ≠ aL := Nat.ne_of_gt (Nat.lt_of_lt_of_le hL.lt ha1)
    refine z_dup_x1 C dJx4a65c_grow_92f84_40 rfl rfl ?_
    refine z_put C (by first | exact hL37 | exact hL52 | exact hE | exact hL) z_cls0 hu_Jx4a65c (by exact Or.inl rfl) 1 (by decide) wb_40 rfl rfl (by rfl) (by rfl) (Nat.le_of_ble_eq_true rfl) dJx4a65c_grow_92f84_41 (fun H41 hU41 => ?_)
    have hpost : ∀ i, i < n → va_cpy g (fun _ => none) 0 0 n i = some (f i) := fun i hi => by
      unfold va_cpy
      rw [if_pos ⟨Nat.zero_le _, by omega⟩, Nat.zero_add, Nat.sub_zero, hg i hi]
    exact z_aret C (by first | exact Or.inl ⟨_, rfl⟩ | exact Or.inr ⟨_, rfl⟩) (by omega) (by omega) dJx4a65c_grow_92f84_44 (by exact ⟨a, x_nc n, _, rfl, ha1, hU41.1, z_at_keep hU41 ha2 hneq, hr.2.1, hr.2.2.1, hpost⟩)
  · obtain rfl : n = 0 := by
      rcases Nat.eq_zero_or_pos n with z | z
      · exact z
      · exact absurd (nI_lt (a := 0) (b := n) z (by omega)) h7
    refine z_aload_n C dJx4a65c_grow_92f84_10 rfl ?_
    refine z_get C (by first | exact hL37 | exact hL52 | exact hE | exact hL) z_cls0 hu_Jx4a65c 1 (by decide) wb_40 rfl rfl dJx4a65c_grow_92f84_11 ?_
    refine z_gets C hS0 (fun z => by
      rcases z with z | z
      · exact hne z
      · obtain ⟨⟨cell, c1, -⟩, -⟩ := hS0
        exact absurd (Array.getElem?_eq_some_iff.mp c1).1 (by omega)) wb_38 dJx4a65c_grow_92f84_14 ?_
    refine z_acmp_eq_rr C 45 dJx4a65c_grow_92f84_17 (by decide) (fun h17 => ?_) (fun h17 => ?_)
    · refine z_aload_n C dJx4a65c_grow_92f84_45 rfl ?_
      refine z_bipush (v := 10) C dJx4a65c_grow_92f84_46 (by decide) ?_
      refine z_iload_n C dJx4a65c_grow_92f84_48 rfl ?_
      refine z_mmax C wb_208 wb_175 wb_9 wb_176 (by decide) (Nat.le_of_ble_eq_true rfl) (Nat.le_of_ble_eq_true rfl) (Nat.le_of_ble_eq_true rfl) dJx4a65c_grow_92f84_49 ?_
      refine z_eqst (st2 := [.int (nI 10), .ref aL]) rfl ?_
      refine z_newq C wb_209 10 (nI_pos (by omega)) (nI_clamp (by omega)) (by omega) (by decide) (Nat.le_of_ble_eq_true rfl) dJx4a65c_grow_92f84_52 (fun a H52 hN52 => ?_)
      have hL52 := z_at_new hN52 hL
      have hneq : a ≠ aL := Nat.ne_of_gt (Nat.lt_of_lt_of_le hlt (Nat.le_of_eq hN52.1.symm))
      refine z_widen (k2 := 1) (n2 := 24) (by omega) (by omega) ?_
      refine z_dup_x1 C dJx4a65c_grow_92f84_55 rfl rfl ?_
      refine z_put C (by first | exact hL37 | exact hL52 | exact hE | exact hL) z_cls0 hu_Jx4a65c (by exact Or.inl rfl) 1 (by decide) wb_40 rfl rfl (by rfl) (by rfl) (Nat.le_of_ble_eq_true rfl) dJx4a65c_grow_92f84_56 (fun H56 hU56 => ?_)
      exact z_aret C (by first | exact Or.inl ⟨_, rfl⟩ | exact Or.inr ⟨_, rfl⟩) (by omega) (by omega) dJx4a65c_grow_92f84_59 (by exact ⟨a, 10, _, rfl, by rw [hN52.1]; exact Nat.le_refl _, hU56.1, z_at_keep hU56 hN52.2.1 hneq, by omega, by omega, fun i hi => absurd hi (by omega)⟩)
    · exact absurd (hz rfl) h17

set_option maxHeartbeats 4000000 in
set_option maxRecDepth 100000 in
theorem c_Jx4a65c_grow_d5877 (l : Launch) (G : z_G) (aL aE n ci sz : Nat) (f : Nat → Nat) (mod : Int32) (hn : n ≤ 16) (hne : G.2 6 ≠ aL) (q : vw_C) (hc : vwCl[ci]? = some q) (hO : ∀ u, z_K G u → z_KO q.1 u) : z_M l yJx4a65c_grow_d5877 cJx4a65c_grow_d5877 1 (some (.array (.object "java/lang/Object"))) 4 1 24 [.ref aL] G (fun H => H.size = sz ∧ va_at G.1 vwCl (aL, .inr (0, [.int mod, .ref aE, .int (nI n)])) H ∧ z_Es G H ∧ (n = 0 → aE = G.2 5) ∧ z_Al G aE n H ∧ (1 ≤ n → ∃ g, va_at G.1 vwCl (aE, z_aq G n g) H ∧ ∀ i, i < n → g i = some (f i)) ∧ ∀ i, i < n → ∃ fs, va_at G.1 vwCl (f i, .inr (ci, fs)) H) (fun q => q = aL ∨ sz ≤ q) (fun v H H1 => ∃ a cap g, v = some (.ref a) ∧ sz ≤ a ∧ va_at G.1 vwCl (aL, .inr (0, [.int mod, .ref a, .int (nI n)])) H1 ∧ va_at G.1 vwCl (a, z_aq G cap g) H1 ∧ n < cap ∧ cap ≤ 24 ∧ ∀ i, i < n → g i = some (f i)) := by
  refine z_M.of (by decide +kernel) (Nat.le_of_ble_eq_true rfl) ?_
  intro p e s m below meth c C hP
  have hP0 := hP
  obtain ⟨rfl, hL, -⟩ := hP
  refine z_aload_n C dJx4a65c_grow_d5877_0 rfl ?_
  refine z_aload_n C dJx4a65c_grow_d5877_1 rfl ?_
  refine z_get C (by exact hL) z_cls0 hu_Jx4a65c 2 (by decide) wb_41 rfl rfl dJx4a65c_grow_d5877_2 ?_
  refine z_iconst (v := 1) C dJx4a65c_grow_d5877_5 (by decide) ?_
  refine z_iadd C dJx4a65c_grow_d5877_6 ?_
  refine z_eqst (st2 := [.int (nI (n + 1)), .ref aL]) (by rw [nI_succ]) ?_
  refine z_callV (As := [.int _]) C (c_Jx4a65c_grow_92f84 _ _ aL aE n ci _ f mod hn hne q hc hO) kc_Jx4a65c_grow_92f84 wb_167 ⟨by decide, by decide⟩ (by exact hL) rfl (hP0) (fun _ h => h) ⟨Nat.le_of_ble_eq_true rfl, Nat.le_of_ble_eq_true rfl⟩ (Nat.le_of_ble_eq_true rfl) dJx4a65c_grow_d5877_7 (fun v H7 hq hsz7 hfr7 => ?_)
  
  obtain ⟨a, cap, g, rfl, hq⟩ := hq
  exact z_aret C (by first | exact Or.inl ⟨_, rfl⟩ | exact Or.inr ⟨_, rfl⟩) (by omega) (by omega) dJx4a65c_grow_d5877_10 (by exact ⟨a, cap, g, rfl, hq⟩)

set_option maxHeartbeats 4000000 in
set_option maxRecDepth 100000 in
theorem c_Jx4a65c_add_72be8 (l : Launch) (G : z_G) (aL aE n x ci sz : Nat) (f : Nat → Nat) (mod : Int32) (fs : List Value) (hn : n ≤ 16) (hne : G.2 6 ≠ aL) (hxL : x ≠ aL) (hLE : 0 < n → aL ≠ aE) (q : vw_C) (hc : vwCl[ci]? = some q) (hO : ∀ u, z_K G u → z_KO q.1 u) : z_M l yJx4a65c_add_72be8 cJx4a65c_add_72be8 4 none 5 1 24 [.ref aL, .ref x, .ref aE, .int (nI n)] G (fun H => H.size = sz ∧ va_at G.1 vwCl (aL, .inr (0, [.int mod, .ref aE, .int (nI n)])) H ∧ z_Es G H ∧ va_at G.1 vwCl (x, .inr (ci, fs)) H ∧ (∃ cap, z_Al G aE cap H ∧ n ≤ cap ∧ cap ≤ 100 ∧ (n = 0 → cap = 0 ∧ aE = G.2 5) ∧ (1 ≤ n → ∃ g, va_at G.1 vwCl (aE, z_aq G cap g) H ∧ ∀ i, i < n → g i = some (f i))) ∧ ∀ i, i < n → ∃ fs, va_at G.1 vwCl (f i, .inr (ci, fs)) H) (fun q => q = aL ∨ (0 < n ∧ q = aE) ∨ sz ≤ q) (fun v H H1 => v = none ∧ ∃ aE2 cap g, va_at G.1 vwCl (aL, .inr (0, [.int mod, .ref aE2, .int (nI (n + 1))])) H1 ∧ va_at G.1 vwCl (aE2, z_aq G cap g) H1 ∧ n < cap ∧ cap ≤ 100 ∧ (∀ i, i < n → g i = some (f i)) ∧ g n = some x ∧ ((0 < n ∧ aE2 = aE) ∨ sz ≤ aE2)) := by
  refine z_M.of (by decide +kernel) (Nat.le_of_ble_eq_true rfl) ?_
  intro p e s m below meth c C hP
  obtain ⟨rfl, hL, hS0, hx, ⟨cap, hAl, hn1, hn2, hz, hEg⟩, hel⟩ := hP
  have hlt := hL.lt
  have hltx := hx.lt
  refine z_iload_n C dJx4a65c_add_72be8_0 rfl ?_
  refine z_aload_n C dJx4a65c_add_72be8_1 rfl ?_
  refine z_alenE C hAl dJx4a65c_add_72be8_2 ?_
  refine z_icmp_ne C 11 dJx4a65c_add_72be8_3 (by decide) (fun h3 => ?_) (fun h3 => ?_)
  · have hlt1 : n < cap := Nat.lt_of_le_of_ne hn1 (fun z => h3 (by rw [z]))
    have hn0 : 0 < n := by
      rcases Nat.eq_zero_or_pos n with z | z
      · have := (hz z).1; omega
      · exact z
    obtain ⟨g, hE, hg⟩ := hEg hn0
    obtain ⟨aE1, eE1⟩ : ∃ y, y = aE := ⟨_, rfl⟩
    have hE1 : va_at G.1 vwCl (aE1, z_aq G cap g) s.heap := eE1 ▸ hE
    have hL1 : va_at G.1 vwCl (aL, .inr (0, [.int mod, .ref aE1, .int (nI n)])) s.heap := eE1 ▸ hL
    have hx1 := hx
    have hor : (0 < n ∧ aE1 = aE) ∨ s.heap.size ≤ aE1 := Or.inl ⟨hn0, eE1⟩
    have hLE1 : aL ≠ aE1 := eE1 ▸ hLE hn0
    refine z_sub [(0, .ref aL), (1, .ref x), (2, .ref aE1), (3, .int (nI n))] ⟨rfl, rfl, by rw [eE1]; rfl, rfl, trivial⟩ ?_
    refine z_widen (k2 := 1) (n2 := 24) (by omega) (by omega) ?_
    refine z_aload_n C dJx4a65c_add_72be8_11 rfl ?_
    refine z_iload_n C dJx4a65c_add_72be8_12 rfl ?_
    refine z_aload_n C dJx4a65c_add_72be8_13 rfl ?_
    refine z_astq C hE1 (Or.inr (hor.imp id id)) (vp_in_nI hlt1 (by omega)) (nI_clamp (by omega)) hx1 hc (hO _ C.2.2.2.2.2.2.1) dJx4a65c_add_72be8_14 (fun H14 hU14 => ?_)
    have hL19 := z_at_keep hU14 hL1 hLE1
    refine z_aload_n C dJx4a65c_add_72be8_15 rfl ?_
    refine z_iload_n C dJx4a65c_add_72be8_16 rfl ?_
    refine z_iconst (v := 1) C dJx4a65c_add_72be8_17 (by decide) ?_
    refine z_iadd C dJx4a65c_add_72be8_18 ?_
    refine z_put C (by first | exact hL19) z_cls0 hu_Jx4a65c (by exact Or.inl rfl) 2 (by decide) wb_41 rfl rfl (by rfl) (by rfl) (Nat.le_of_ble_eq_true rfl) dJx4a65c_add_72be8_19 (fun H19 hU19 => ?_)
    exact z_vret C (by omega) (by omega) dJx4a65c_add_72be8_22 (by exact ⟨rfl, aE1, _, _, by rw [nI_succ]; exact hU19.1, z_at_keep hU19 hU14.1 hLE1.symm, hlt1, hn2, fun i hi => (va_up_ne _ _ (by omega)).trans (hg i hi), va_up_self _ _ _, hor⟩)
  · obtain rfl : n = cap := (nI_inj (by omega) (by omega)).mp h3
    clear hn1 hn2
    refine z_aload_n C dJx4a65c_add_72be8_6 rfl ?_
    refine z_callV (As := []) C (c_Jx4a65c_grow_d5877 _ _ aL aE n ci _ f mod hn hne q hc hO) kc_Jx4a65c_grow_d5877 wb_163 ⟨by decide, by decide⟩ (by exact hL) rfl (⟨rfl, hL, hS0, fun z => (hz z).2, hAl, hEg, hel⟩) (fun _ h => h.imp id Or.inr) ⟨Nat.le_of_ble_eq_true rfl, Nat.le_of_ble_eq_true rfl⟩ (Nat.le_of_ble_eq_true rfl) dJx4a65c_add_72be8_7 (fun v H7 hq hsz7 hfr7 => ?_)
    
    obtain ⟨aE1, cap1, g1, rfl, hs1, hL1, hE1, hlt1, hc1, hg1⟩ := hq
    have hx1 := hx.kept (hfr7 x hltx (fun z => z.elim hxL (Nat.not_le.mpr hltx)))
    have hg := hg1
    have hn2 : cap1 ≤ 100 := by omega
    have hor : (0 < n ∧ aE1 = aE) ∨ s.heap.size ≤ aE1 := Or.inr hs1
    have hLE1 : aL ≠ aE1 := Nat.ne_of_lt (Nat.lt_of_lt_of_le hlt hs1)
    refine z_astore_n C dJx4a65c_add_72be8_10 (by decide) ?_
    refine z_aload_n C dJx4a65c_add_72be8_11 rfl ?_
    refine z_iload_n C dJx4a65c_add_72be8_12 rfl ?_
    refine z_aload_n C dJx4a65c_add_72be8_13 rfl ?_
    refine z_astq C hE1 (Or.inr (hor.imp id id)) (vp_in_nI hlt1 (by omega)) (nI_clamp (by omega)) hx1 hc (hO _ C.2.2.2.2.2.2.1) dJx4a65c_add_72be8_14 (fun H14 hU14 => ?_)
    have hL19 := z_at_keep hU14 hL1 hLE1
    refine z_aload_n C dJx4a65c_add_72be8_15 rfl ?_
    refine z_iload_n C dJx4a65c_add_72be8_16 rfl ?_
    refine z_iconst (v := 1) C dJx4a65c_add_72be8_17 (by decide) ?_
    refine z_iadd C dJx4a65c_add_72be8_18 ?_
    refine z_put C (by first | exact hL19) z_cls0 hu_Jx4a65c (by exact Or.inl rfl) 2 (by decide) wb_41 rfl rfl (by rfl) (by rfl) (Nat.le_of_ble_eq_true rfl) dJx4a65c_add_72be8_19 (fun H19 hU19 => ?_)
    exact z_vret C (by omega) (by omega) dJx4a65c_add_72be8_22 (by exact ⟨rfl, aE1, _, _, by rw [nI_succ]; exact hU19.1, z_at_keep hU19 hU14.1 hLE1.symm, hlt1, hn2, fun i hi => (va_up_ne _ _ (by omega)).trans (hg i hi), va_up_self _ _ _, hor⟩)

set_option maxHeartbeats 4000000 in
set_option maxRecDepth 100000 in
theorem c_Jx4a65c_add_9ea2d (l : Launch) (G : z_G) (aL aE n x ci sz : Nat) (f : Nat → Nat) (fs : List Value) (hn : n ≤ 16) (hne : G.2 6 ≠ aL) (hne5 : G.2 5 ≠ aL) (hxL : x ≠ aL) (hLE : 0 < n → aL ≠ aE) (hfL : ∀ i, i < n → f i ≠ aL) (q : vw_C) (hc : vwCl[ci]? = some q) (hO : ∀ u, z_K G u → z_KO q.1 u) : z_M l yJx4a65c_add_9ea2d cJx4a65c_add_9ea2d 2 (some .boolean) 6 1 24 [.ref aL, .ref x] G (fun H => H.size = sz ∧ x_L G aL aE n f H ∧ z_Es G H ∧ va_at G.1 vwCl (x, .inr (ci, fs)) H ∧ ∀ i, i < n → ∃ fs, va_at G.1 vwCl (f i, .inr (ci, fs)) H) (fun q => q = aL ∨ (0 < n ∧ q = aE) ∨ sz ≤ q) (fun v H H1 => v = some (.int 1) ∧ ∃ aE2, x_L G aL aE2 (n + 1) (fun i => if i = n then x else f i) H1 ∧ ((0 < n ∧ aE2 = aE) ∨ sz ≤ aE2)) := by
  refine z_M.of (by decide +kernel) (Nat.le_of_ble_eq_true rfl) ?_
  intro p e s m below meth c C hP
  obtain ⟨rfl, ⟨mod, hL, hE0⟩, hS0, hx, hel⟩ := hP
  refine z_aload_n C dJx4a65c_add_9ea2d_0 rfl ?_
  refine z_dup C dJx4a65c_add_9ea2d_1 rfl ?_
  refine z_getS C hL z_cls0 hu_Jx4a65c 0 (by decide) wb_43 (fun x h => u_same (C.2.2.2.2.2.1 _ wb_44) x h) rfl dJx4a65c_add_9ea2d_2 ?_
  refine z_iconst (v := 1) C dJx4a65c_add_9ea2d_5 (by decide) ?_
  refine z_iadd C dJx4a65c_add_9ea2d_6 ?_
  refine z_putS C hL z_cls0 hu_Jx4a65c (Or.inl rfl) 0 (by decide) wb_43 (fun x h => u_same (C.2.2.2.2.2.1 _ wb_44) x h) rfl (by rfl) (by rfl) (Nat.le_of_ble_eq_true rfl) dJx4a65c_add_9ea2d_7 (fun H7 hU7 => ?_)
  have hE7 : ∃ cap, z_Al G aE cap H7 ∧ n ≤ cap ∧ cap ≤ 100 ∧ (n = 0 → cap = 0 ∧ aE = G.2 5) ∧ (1 ≤ n → ∃ g, va_at G.1 vwCl (aE, z_aq G cap g) H7 ∧ ∀ i, i < n → g i = some (f i)) := by
    rcases hE0 with ⟨rfl, rfl⟩ | ⟨cap, g, h1, h2, h3, h4, h5⟩
    · exact ⟨0, hS0.2.kept (hU7.2.2 _ hne5), Nat.le_refl _, by omega, fun _ => ⟨rfl, rfl⟩, fun z => absurd z (by omega)⟩
    · have h6 := z_at_keep hU7 h4 (hLE (by omega)).symm
      exact ⟨cap, z_Al.of h6, h2, h3, fun z => absurd z (by omega), fun _ => ⟨g, h6, h5⟩⟩
  refine z_aload_n C dJx4a65c_add_9ea2d_10 rfl ?_
  refine z_aload_n C dJx4a65c_add_9ea2d_11 rfl ?_
  refine z_aload_n C dJx4a65c_add_9ea2d_12 rfl ?_
  refine z_get C (by first | exact hU7.1 | exact hL) z_cls0 hu_Jx4a65c 1 (by decide) wb_40 rfl rfl dJx4a65c_add_9ea2d_13 ?_
  refine z_aload_n C dJx4a65c_add_9ea2d_16 rfl ?_
  refine z_get C (by first | exact hU7.1 | exact hL) z_cls0 hu_Jx4a65c 2 (by decide) wb_41 rfl rfl dJx4a65c_add_9ea2d_17 ?_
  refine z_callV (As := [.ref _, .ref _, .int _]) C (c_Jx4a65c_add_72be8 _ _ aL aE n x ci _ f _ fs hn hne hxL hLE q hc hO) kc_Jx4a65c_add_72be8 wb_159 ⟨by decide, by decide⟩ (by exact hU7.1) rfl (⟨hU7.2.1, hU7.1, hS0.kept (hU7.2.2 _ hne) (hU7.2.2 _ hne5), z_at_keep hU7 hx hxL, hE7, fun i hi => by
    obtain ⟨fs, h⟩ := hel i hi
    exact ⟨fs, z_at_keep hU7 h (hfL i hi)⟩⟩) (fun _ h => h) ⟨Nat.le_of_ble_eq_true rfl, Nat.le_of_ble_eq_true rfl⟩ (Nat.le_of_ble_eq_true rfl) dJx4a65c_add_9ea2d_20 (fun v H20 hq hsz20 hfr20 => ?_)
  
  obtain ⟨rfl, aE2, cap, g, hL2, hE2, h1, h2, h3, h4, hor⟩ := hq
  refine z_iconst (v := 1) C dJx4a65c_add_9ea2d_23 (by decide) ?_
  exact z_bret C (by omega) (by omega) dJx4a65c_add_9ea2d_24 (by rfl) (by exact ⟨rfl, aE2, ⟨_, hL2, Or.inr ⟨cap, g, by omega, by omega, h2, hE2, fun i hi => by
  show g i = some (if i = n then x else f i)
  by_cases z : i = n
  · rw [if_pos z, z, h4]
  · rw [if_neg z, h3 i (by omega)]⟩⟩, hor⟩)

