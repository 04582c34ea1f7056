/-! the class's calls that make things -/
theorem x_ans {G : z_G} {ad : Nat → Nat → Nat} {nR nD nK nG sz : Nat} {T : x_T} {M' : m_S} {H : Heap} {F : Int32 × m_S} {x : Int32} (hF : F = (x, M')) (h : x_Gr G ad nR nD nK nG sz T M' H) : some (Value.int x) = some (Value.int F.1) ∧ x_Gr G ad nR nD nK nG sz T F.2 H := by
  subst hF
  exact ⟨rfl, h⟩
theorem x_A3 {ad : Nat → Nat → Nat} {nR nD nK nG k sz sz2 : Nat} (hk : k < 4) (hs : sz ≤ sz2) : ∀ q, (q = ad 4 (1 + k) ∨ (0 < x_cn nR nD nK nG k ∧ q = ad 4 (5 + k)) ∨ sz2 ≤ q) → x_A ad nR nD nK nG q ∨ sz ≤ q := by
  intro q h
  rcases h with h | ⟨h1, h2⟩ | h
  · exact Or.inl ⟨4, 1 + k, x_in_lst (by omega), h⟩
  · exact Or.inl ⟨4, 5 + k, x_in_arr hk h1, h2⟩
  · exact Or.inr (by omega)
theorem z_kp {G : z_G} {a : Nat} {e e2 : va_E} {H H1 H2 : Heap} (hN : z_N G a e H H1) (hU : z_U G a e2 H1 H2) : ∀ q, q < H.size → H2[q]? = H[q]? := fun q hq => (hU.2.2 q (by rw [hN.1]; omega)).trans (hN.2.2.2 q hq)
theorem x_two {a b : Int32} {nR : Nat} (ha : vp_in a nR) (hb : vp_in b nR) (hne : ¬ a = b) (hR : nR ≤ 12) : ∃ lo hi, lo < hi ∧ hi < nR ∧ (if a < b then a else b) = nI lo ∧ (if a < b then b else a) = nI hi ∧ (if b < a then b else a) = nI lo := by
  obtain ⟨x, hx, rfl⟩ := vp_in_of ha (by omega)
  obtain ⟨y, hy, rfl⟩ := vp_in_of hb (by omega)
  rcases Nat.lt_trichotomy x y with q | q | q
  · have h1 : nI x < nI y := nI_lt q (by omega)
    have h2 : ¬ nI y < nI x := nI_nlt (by omega) (by omega)
    exact ⟨x, y, q, hy, by rw [if_pos h1], by rw [if_pos h1], by rw [if_neg h2]⟩
  · exact absurd (by rw [q]) hne
  · have h1 : nI y < nI x := nI_lt q (by omega)
    have h2 : ¬ nI x < nI y := nI_nlt (by omega) (by omega)
    exact ⟨y, x, q, hx, by rw [if_neg h2], by rw [if_neg h2], by rw [if_pos h1]⟩
theorem m_in_1 {v : Int32} {b : Nat} (hb : b < 2 ^ 31) (hb1 : 1 ≤ b) (h : m_in v 1 (nI b) = true) : ∃ x, 1 ≤ x ∧ x ≤ b ∧ v = nI x := m_in_nI hb (by exact h) hb1
theorem m_in_0 {v : Int32} {b : Nat} (hb : b < 2 ^ 31) (h : m_in v 0 (nI b) = true) : ∃ x, x ≤ b ∧ v = nI x := by
  obtain ⟨x, -, h1, h2⟩ := m_in_nI (a := 0) hb (by exact h) (by omega)
  exact ⟨x, h1, h2⟩
theorem m_locks_lc {M : m_S} : ∀ n, m_locks M n = nI (x_lc M n)
  | 0 => rfl
  | n + 1 => by
    show m_locks M n + m_c (!(decide (M.2 6 n < 0))) = nI (x_lc M n + if M.2 6 n < 0 then 0 else 1)
    rw [m_locks_lc n]
    by_cases q : M.2 6 n < 0
    · rw [if_pos q]; simp [q, m_c]
    · rw [if_neg q, nI_succ]; simp [q, m_c]
theorem m_sum_add {f g h : Nat → Int32} : ∀ {n : Nat}, (∀ i, i < n → f i + g i = h i) → m_sum f n + m_sum g n = m_sum h n
  | 0, _ => rfl
  | n + 1, hh => by
    simp only [m_sum]
    rw [← m_sum_add (n := n) (fun i hi => hh i (by omega)), ← hh n (by omega), Int32.add_assoc, Int32.add_assoc, ← Int32.add_assoc (f n), Int32.add_comm (f n), Int32.add_assoc]
theorem m_players_2 {nR nD nK nG : Nat} {M : m_S} (hI : m_I nR nD nK nG M) : m_sizes M nG 0 + m_sizes M nG 1 = m_players M nG := by
  refine m_sum_add fun i hi => ?_
  rcases (hI.2.2.2.2.1 i hi).2.2 with q | q | ⟨q, q2⟩
  · rw [q]; simp
  · rw [q]; simp
  · rw [q, q2]; simp

theorem x_max {n K : Nat} (h1 : n ≤ K) (hK : K < 2 ^ 31) (h : ¬ nI n < nI K) : nI n = nI K := by
  rcases Nat.lt_or_ge n K with q | q
  · exact absurd (nI_lt q hK) h
  · have e : n = K := by omega
    rw [e]
theorem x_less {n K : Nat} (h1 : n ≤ K) (hK : K < 2 ^ 31) (h : nI n < nI K) : n < K ∧ ¬ nI n = nI K := by
  have h2 : n < K := (nI_ltI (by omega) hK).mp h
  exact ⟨h2, fun e => by have := (nI_inj (by omega) (by omega)).mp e; omega⟩
theorem x_pm {x : Int32} : x + 1 - 1 = x := Int32.add_sub_cancel x 1

set_option maxHeartbeats 4000000 in
set_option maxRecDepth 100000 in
theorem c_X5_addRoom (l : Launch) (G : z_G) (ad : Nat → Nat → Nat) (M : m_S) (T : x_T) {nR nD nK nG : Nat} (hI : m_I nR nD nK nG M) (sz : Nat) (hO : x_out G ad nR nD nK nG)  : z_M l yX5_addRoom cX5_addRoom 2 (some .int) 7 2 34 [.ref (ad 4 0)] G (fun H => H.size = sz ∧ x_R G ad nR nD nK nG M T H ∧ z_Es G H) (fun q => x_A ad nR nD nK nG q ∨ sz ≤ q) (fun v H H1 => v = some (.int (F_addRoom M).1) ∧ x_Gr G ad nR nD nK nG sz T (F_addRoom M).2 H1) := by
  refine z_M.of (by decide +kernel) (Nat.le_of_ble_eq_true rfl) ?_
  intro p e s m below meth c C hP
  obtain ⟨rfl, hX, hE⟩ := hP
  have hN := hI.1
  have hR12 := hN.1.2; have hD16 := hN.2.1.2; have hK16 := hN.2.2.1.2; have hG6 := hN.2.2.2.2
  refine z_aload_n C dX5_addRoom_0 rfl ?_
  refine z_get C (by first | exact hX.1.1 | exact hX.1.2.1 | exact hX.1.2.2.1 | exact hX.1.2.2.2 | exact hX.2.1.1 _ (by first | assumption | exact vp_in_clamp (x_inG hN (by assumption)) | exact vp_in_clamp (x_inD hN (by assumption)) | exact vp_in_clamp (x_inK hN (by assumption)) | exact vp_in_clamp (x_inR hN (by assumption)) | exact hI.rm (by first | assumption | exact vp_in_clamp (x_inG hN (by assumption))) | exact hI.lo (by first | assumption | exact vp_in_clamp (x_inD hN (by assumption))) | exact hI.hi (by first | assumption | exact vp_in_clamp (x_inD hN (by assumption)))) | exact hX.2.1.2.1 _ (by first | assumption | exact vp_in_clamp (x_inD hN (by assumption))) | exact hX.2.1.2.2.1 _ (by first | assumption | exact vp_in_clamp (x_inK hN (by assumption))) | exact hX.2.1.2.2.2 _ (by first | assumption | exact vp_in_clamp (x_inG hN (by assumption)))) z_cls6 hu_X5 0 (by decide) wb_94 rfl rfl dX5_addRoom_1 ?_
  refine k_size C (by first | exact hX.2.2.1.1 | exact hX.2.2.1.2.1 | exact hX.2.2.1.2.2.1 | exact hX.2.2.1.2.2.2) wb_129 ⟨by decide, by decide⟩ ⟨Nat.le_of_ble_eq_true rfl, Nat.le_of_ble_eq_true rfl⟩ (Nat.le_of_ble_eq_true rfl) dX5_addRoom_4 ?_
  refine z_istore_n C dX5_addRoom_7 (by decide) ?_
  refine z_iload_n C dX5_addRoom_8 rfl ?_
  refine z_bipush (v := 12) C dX5_addRoom_9 (by decide) ?_
  refine z_icmp_lt C 17 dX5_addRoom_11 (by decide) (fun h11 => ?_) (fun h11 => ?_)
  · have hls := x_less (K := 12) hR12 (by omega) h11
    have hnf : ¬ M.1 0 = 12 := by
      rw [hN.1.1]
      exact hls.2
    refine z_aload_n C dX5_addRoom_17 rfl ?_
    refine z_get C (by first | exact hX.1.1 | exact hX.1.2.1 | exact hX.1.2.2.1 | exact hX.1.2.2.2 | exact hX.2.1.1 _ (by first | assumption | exact vp_in_clamp (x_inG hN (by assumption)) | exact vp_in_clamp (x_inD hN (by assumption)) | exact vp_in_clamp (x_inK hN (by assumption)) | exact vp_in_clamp (x_inR hN (by assumption)) | exact hI.rm (by first | assumption | exact vp_in_clamp (x_inG hN (by assumption))) | exact hI.lo (by first | assumption | exact vp_in_clamp (x_inD hN (by assumption))) | exact hI.hi (by first | assumption | exact vp_in_clamp (x_inD hN (by assumption)))) | exact hX.2.1.2.1 _ (by first | assumption | exact vp_in_clamp (x_inD hN (by assumption))) | exact hX.2.1.2.2.1 _ (by first | assumption | exact vp_in_clamp (x_inK hN (by assumption))) | exact hX.2.1.2.2.2 _ (by first | assumption | exact vp_in_clamp (x_inG hN (by assumption)))) z_cls6 hu_X5 0 (by decide) wb_94 rfl rfl dX5_addRoom_18 ?_
    refine z_new (fs := nf_5) C z_cls5 hu_X4 wb_133 wb_134 wb_7 nw_5 (Nat.le_of_ble_eq_true rfl) (Nat.le_of_ble_eq_true rfl) dX5_addRoom_21 (fun q21 H21 hN21 => ?_)
    have hX0 := hX
    have hX := hX.kept hN21.2.2.2
    have hq21 : s.heap.size ≤ q21 := by rw [hN21.1]; exact Nat.le_refl _
    refine z_dup C dX5_addRoom_24 rfl ?_
    refine z_iload_n C dX5_addRoom_25 rfl ?_
    refine z_callI (As := [.int _]) C (c_X4_init _ _ q21 _ _ _ _) kc_X4_init wb_135 ⟨by decide, by decide⟩ (hN21.2.1) (fun z hz => by rw [hz]; exact Or.inr hq21) ⟨Nat.le_of_ble_eq_true rfl, Nat.le_of_ble_eq_true rfl⟩ (Nat.le_of_ble_eq_true rfl) dX5_addRoom_26 (fun v H26 hq _ _ => ?_)
    obtain ⟨rfl, hU26⟩ := hq
    have hs29 := hX0.side hO (k := 0) (by omega) (a := q21) (by rw [hN21.1]; exact Nat.le_refl _)
    have hp29 := hX0.pre hE (k := 0) (by omega) hN21 hU26
    obtain ⟨fsL, hLo⟩ := hp29.2.1.obj
    have hz29 : s.heap.size ≤ Array.size H26 := by rw [hU26.2.1, hN21.2.2.1]; have := Nat.le_refl s.heap.size; omega
    refine z_callV (As := [.ref _]) C (c_Jx4a65c_add_9ea2d _ _ (ad 4 1) (ad 4 5) nR q21 5 _ (ad 0) _ (by omega) hs29.1 hs29.2.1 hs29.2.2.1 hs29.2.2.2.1 hs29.2.2.2.2 (RX4, TX4, 3) rfl (fun u hu => hu.2.1.2.2.2)) kc_Jx4a65c_add_9ea2d wb_155 ⟨by decide, by decide⟩ hLo rfl hp29 (x_A3 (k := 0) (by omega) hz29) ⟨Nat.le_of_ble_eq_true rfl, Nat.le_of_ble_eq_true rfl⟩ (Nat.le_of_ble_eq_true rfl) dX5_addRoom_29 (fun v H29 hq hsz29 hfr29 => ?_)
    obtain ⟨rfl, aE, hL29, hor29⟩ := hq
    have hSt := hX0.added (k := 0) (by omega) hN21 hU26 hfr29 hL29 hor29
    refine z_pop C dX5_addRoom_32 rfl ?_
    refine z_iload_n C dX5_addRoom_33 rfl ?_
    exact z_iret C (by omega) (by omega) dX5_addRoom_34 (by exact x_ans (by unfold F_addRoom; rw [if_neg hnf, x_pm, hN.1.1]) (x_Gr.room hX0 hI hls.1 (Nat.le_refl _) hSt.1 hSt.2))
  · have hfull : M.1 0 = 12 := by
      rw [hN.1.1]
      exact x_max (K := 12) hR12 (by omega) h11
    refine z_bipush (v := (-3)) C dX5_addRoom_14 (by decide) ?_
    exact z_iret C (by omega) (by omega) dX5_addRoom_16 (by first | contradiction | exact x_ans (by simp [F_addRoom, *]; done) (x_Gr.same hX hI))

set_option maxHeartbeats 4000000 in
set_option maxRecDepth 100000 in
theorem c_X5_addDoor (l : Launch) (G : z_G) (ad : Nat → Nat → Nat) (M : m_S) (T : x_T) {nR nD nK nG : Nat} (hI : m_I nR nD nK nG M) (sz : Nat) (hO : x_out G ad nR nD nK nG) (a b w : Int32) : z_M l yX5_addDoor cX5_addDoor 5 (some .int) 7 2 34 [.ref (ad 4 0), .int a, .int b, .int w] G (fun H => H.size = sz ∧ x_R G ad nR nD nK nG M T H ∧ z_Es G H) (fun q => x_A ad nR nD nK nG q ∨ sz ≤ q) (fun v H H1 => v = some (.int (F_addDoor M a b w).1) ∧ x_Gr G ad nR nD nK nG sz T (F_addDoor M a b w).2 H1) := by
  refine z_M.of (by decide +kernel) (Nat.le_of_ble_eq_true rfl) ?_
  intro p e s m below meth c C hP
  obtain ⟨rfl, hX, hE⟩ := hP
  have hN := hI.1
  have hR12 := hN.1.2; have hD16 := hN.2.1.2; have hK16 := hN.2.2.1.2; have hG6 := hN.2.2.2.2
  refine z_aload_n C dX5_addDoor_0 rfl ?_
  refine z_iload_n C dX5_addDoor_1 rfl ?_
  refine z_callVR (As := [.int _]) C (c_X5_isRoom _ _ ad M T hI _) kc_X5_isRoom wb_214 ⟨by decide, by decide⟩ (by first | exact hX.1.1 | exact hX.1.2.1 | exact hX.1.2.2.1 | exact hX.1.2.2.2 | exact hX.2.1.1 _ (by first | assumption | exact vp_in_clamp (x_inG hN (by assumption)) | exact vp_in_clamp (x_inD hN (by assumption)) | exact vp_in_clamp (x_inK hN (by assumption)) | exact vp_in_clamp (x_inR hN (by assumption)) | exact hI.rm (by first | assumption | exact vp_in_clamp (x_inG hN (by assumption))) | exact hI.lo (by first | assumption | exact vp_in_clamp (x_inD hN (by assumption))) | exact hI.hi (by first | assumption | exact vp_in_clamp (x_inD hN (by assumption)))) | exact hX.2.1.2.1 _ (by first | assumption | exact vp_in_clamp (x_inD hN (by assumption))) | exact hX.2.1.2.2.1 _ (by first | assumption | exact vp_in_clamp (x_inK hN (by assumption))) | exact hX.2.1.2.2.2 _ (by first | assumption | exact vp_in_clamp (x_inG hN (by assumption)))) rfl (hX) ⟨Nat.le_of_ble_eq_true rfl, Nat.le_of_ble_eq_true rfl⟩ (Nat.le_of_ble_eq_true rfl) dX5_addDoor_2 ?_
  refine z_ifnb_eq C 16 dX5_addDoor_5 (by decide) (fun h5 => ?_) (fun h5 => ?_)
  · refine z_iconst (v := (-1)) C dX5_addDoor_16 (by decide) ?_
    exact z_iret C (by omega) (by omega) dX5_addDoor_17 (by first | contradiction | exact x_ans (by simp [F_addDoor, *]; done) (x_Gr.same hX hI))
  · refine z_aload_n C dX5_addDoor_8 rfl ?_
    refine z_iload_n C dX5_addDoor_9 rfl ?_
    refine z_callVR (As := [.int _]) C (c_X5_isRoom _ _ ad M T hI _) kc_X5_isRoom wb_214 ⟨by decide, by decide⟩ (by first | exact hX.1.1 | exact hX.1.2.1 | exact hX.1.2.2.1 | exact hX.1.2.2.2 | exact hX.2.1.1 _ (by first | assumption | exact vp_in_clamp (x_inG hN (by assumption)) | exact vp_in_clamp (x_inD hN (by assumption)) | exact vp_in_clamp (x_inK hN (by assumption)) | exact vp_in_clamp (x_inR hN (by assumption)) | exact hI.rm (by first | assumption | exact vp_in_clamp (x_inG hN (by assumption))) | exact hI.lo (by first | assumption | exact vp_in_clamp (x_inD hN (by assumption))) | exact hI.hi (by first | assumption | exact vp_in_clamp (x_inD hN (by assumption)))) | exact hX.2.1.2.1 _ (by first | assumption | exact vp_in_clamp (x_inD hN (by assumption))) | exact hX.2.1.2.2.1 _ (by first | assumption | exact vp_in_clamp (x_inK hN (by assumption))) | exact hX.2.1.2.2.2 _ (by first | assumption | exact vp_in_clamp (x_inG hN (by assumption)))) rfl (hX) ⟨Nat.le_of_ble_eq_true rfl, Nat.le_of_ble_eq_true rfl⟩ (Nat.le_of_ble_eq_true rfl) dX5_addDoor_10 ?_
    refine z_ifnb_ne C 18 dX5_addDoor_13 (by decide) (fun h13 => ?_) (fun h13 => ?_)
    · refine z_iload_n C dX5_addDoor_18 rfl ?_
      refine z_iload_n C dX5_addDoor_19 rfl ?_
      refine z_icmp_eq C 33 dX5_addDoor_20 (by decide) (fun h20 => ?_) (fun h20 => ?_)
      · refine z_bipush (v := (-2)) C dX5_addDoor_33 (by decide) ?_
        exact z_iret C (by omega) (by omega) dX5_addDoor_35 (by first | contradiction | exact x_ans (by simp [F_addDoor, *]; done) (x_Gr.same hX hI))
      · refine z_iload_n C dX5_addDoor_23 rfl ?_
        refine z_iconst (v := 1) C dX5_addDoor_24 (by decide) ?_
        refine z_bipush (v := 30) C dX5_addDoor_25 (by decide) ?_
        refine z_callSR (As := [.int _, .int _, .int _]) C (c_X5_isBetween _ _ _ _ _) kc_X5_isBetween wb_240 ⟨by decide, by decide⟩ (trivial) ⟨Nat.le_of_ble_eq_true rfl, Nat.le_of_ble_eq_true rfl⟩ (Nat.le_of_ble_eq_true rfl) dX5_addDoor_27 ?_
        refine z_ifb_ne C 36 dX5_addDoor_30 (by decide) (fun h30 => ?_) (fun h30 => ?_)
        · have ha := x_inR hN (r := a) (by assumption)
          have hb := x_inR hN (r := b) (by assumption)
          obtain ⟨lo, hi, hlh, hhi, e1, e2, e3⟩ := x_two ha hb (by assumption) hR12
          have e3c : (if b < a then b else a).toNatClampNeg = lo := by rw [e3, nI_clamp (by omega)]
          have e2c : (if a < b then b else a).toNatClampNeg = hi := by rw [e2, nI_clamp (by omega)]
          have hwx := m_in_1 (b := 30) (v := w) (by omega) (by omega) (by assumption)
          refine z_aload_n C dX5_addDoor_36 rfl ?_
          refine z_get C (by first | exact hX.1.1 | exact hX.1.2.1 | exact hX.1.2.2.1 | exact hX.1.2.2.2 | exact hX.2.1.1 _ (by first | assumption | exact vp_in_clamp (x_inG hN (by assumption)) | exact vp_in_clamp (x_inD hN (by assumption)) | exact vp_in_clamp (x_inK hN (by assumption)) | exact vp_in_clamp (x_inR hN (by assumption)) | exact hI.rm (by first | assumption | exact vp_in_clamp (x_inG hN (by assumption))) | exact hI.lo (by first | assumption | exact vp_in_clamp (x_inD hN (by assumption))) | exact hI.hi (by first | assumption | exact vp_in_clamp (x_inD hN (by assumption)))) | exact hX.2.1.2.1 _ (by first | assumption | exact vp_in_clamp (x_inD hN (by assumption))) | exact hX.2.1.2.2.1 _ (by first | assumption | exact vp_in_clamp (x_inK hN (by assumption))) | exact hX.2.1.2.2.2 _ (by first | assumption | exact vp_in_clamp (x_inG hN (by assumption)))) z_cls6 hu_X5 1 (by decide) wb_95 rfl rfl dX5_addDoor_37 ?_
          refine k_size C (by first | exact hX.2.2.1.1 | exact hX.2.2.1.2.1 | exact hX.2.2.1.2.2.1 | exact hX.2.2.1.2.2.2) wb_129 ⟨by decide, by decide⟩ ⟨Nat.le_of_ble_eq_true rfl, Nat.le_of_ble_eq_true rfl⟩ (Nat.le_of_ble_eq_true rfl) dX5_addDoor_40 ?_
          refine z_istore C dX5_addDoor_43 (by decide) ?_
          refine z_iload C dX5_addDoor_45 rfl ?_
          refine z_bipush (v := 16) C dX5_addDoor_47 (by decide) ?_
          refine z_icmp_lt C 55 dX5_addDoor_49 (by decide) (fun h49 => ?_) (fun h49 => ?_)
          · have hls := x_less (K := 16) hD16 (by omega) h49
            have hnf : ¬ M.1 2 = 16 := by
              rw [hN.2.1.1]
              exact hls.2
            refine z_aload_n C dX5_addDoor_55 rfl ?_
            refine z_get C (by first | exact hX.1.1 | exact hX.1.2.1 | exact hX.1.2.2.1 | exact hX.1.2.2.2 | exact hX.2.1.1 _ (by first | assumption | exact vp_in_clamp (x_inG hN (by assumption)) | exact vp_in_clamp (x_inD hN (by assumption)) | exact vp_in_clamp (x_inK hN (by assumption)) | exact vp_in_clamp (x_inR hN (by assumption)) | exact hI.rm (by first | assumption | exact vp_in_clamp (x_inG hN (by assumption))) | exact hI.lo (by first | assumption | exact vp_in_clamp (x_inD hN (by assumption))) | exact hI.hi (by first | assumption | exact vp_in_clamp (x_inD hN (by assumption)))) | exact hX.2.1.2.1 _ (by first | assumption | exact vp_in_clamp (x_inD hN (by assumption))) | exact hX.2.1.2.2.1 _ (by first | assumption | exact vp_in_clamp (x_inK hN (by assumption))) | exact hX.2.1.2.2.2 _ (by first | assumption | exact vp_in_clamp (x_inG hN (by assumption)))) z_cls6 hu_X5 1 (by decide) wb_95 rfl rfl dX5_addDoor_56 ?_
            refine z_new (fs := nf_1) C z_cls1 hu_X0 wb_243 wb_244 wb_14 nw_1 (Nat.le_of_ble_eq_true rfl) (Nat.le_of_ble_eq_true rfl) dX5_addDoor_59 (fun q59 H59 hN59 => ?_)
            have hX0 := hX
            have hX := hX.kept hN59.2.2.2
            have hq59 : s.heap.size ≤ q59 := by rw [hN59.1]; exact Nat.le_refl _
            refine z_dup C dX5_addDoor_62 rfl ?_
            refine z_iload C dX5_addDoor_63 rfl ?_
            refine z_aload_n C dX5_addDoor_65 rfl ?_
            refine z_iload_n C dX5_addDoor_66 rfl ?_
            refine z_iload_n C dX5_addDoor_67 rfl ?_
            refine z_callVR (As := [.int _, .int _]) C (c_X5_lowerRoom _ _ ad M T hI _ _ ha hb) kc_X5_lowerRoom wb_245 ⟨by decide, by decide⟩ (by first | exact hX.1.1 | exact hX.1.2.1 | exact hX.1.2.2.1 | exact hX.1.2.2.2 | exact hX.2.1.1 _ (by first | assumption | exact vp_in_clamp (x_inG hN (by assumption)) | exact vp_in_clamp (x_inD hN (by assumption)) | exact vp_in_clamp (x_inK hN (by assumption)) | exact vp_in_clamp (x_inR hN (by assumption)) | exact hI.rm (by first | assumption | exact vp_in_clamp (x_inG hN (by assumption))) | exact hI.lo (by first | assumption | exact vp_in_clamp (x_inD hN (by assumption))) | exact hI.hi (by first | assumption | exact vp_in_clamp (x_inD hN (by assumption)))) | exact hX.2.1.2.1 _ (by first | assumption | exact vp_in_clamp (x_inD hN (by assumption))) | exact hX.2.1.2.2.1 _ (by first | assumption | exact vp_in_clamp (x_inK hN (by assumption))) | exact hX.2.1.2.2.2 _ (by first | assumption | exact vp_in_clamp (x_inG hN (by assumption)))) rfl (hX) ⟨Nat.le_of_ble_eq_true rfl, Nat.le_of_ble_eq_true rfl⟩ (Nat.le_of_ble_eq_true rfl) dX5_addDoor_68 ?_
            rw [e3c]
            refine z_aload_n C dX5_addDoor_71 rfl ?_
            refine z_iload_n C dX5_addDoor_72 rfl ?_
            refine z_iload_n C dX5_addDoor_73 rfl ?_
            refine z_callVR (As := [.int _, .int _]) C (c_X5_higherRoom _ _ ad M T hI _ _ ha hb) kc_X5_higherRoom wb_250 ⟨by decide, by decide⟩ (by first | exact hX.1.1 | exact hX.1.2.1 | exact hX.1.2.2.1 | exact hX.1.2.2.2 | exact hX.2.1.1 _ (by first | assumption | exact vp_in_clamp (x_inG hN (by assumption)) | exact vp_in_clamp (x_inD hN (by assumption)) | exact vp_in_clamp (x_inK hN (by assumption)) | exact vp_in_clamp (x_inR hN (by assumption)) | exact hI.rm (by first | assumption | exact vp_in_clamp (x_inG hN (by assumption))) | exact hI.lo (by first | assumption | exact vp_in_clamp (x_inD hN (by assumption))) | exact hI.hi (by first | assumption | exact vp_in_clamp (x_inD hN (by assumption)))) | exact hX.2.1.2.1 _ (by first | assumption | exact vp_in_clamp (x_inD hN (by assumption))) | exact hX.2.1.2.2.1 _ (by first | assumption | exact vp_in_clamp (x_inK hN (by assumption))) | exact hX.2.1.2.2.2 _ (by first | assumption | exact vp_in_clamp (x_inG hN (by assumption)))) rfl (hX) ⟨Nat.le_of_ble_eq_true rfl, Nat.le_of_ble_eq_true rfl⟩ (Nat.le_of_ble_eq_true rfl) dX5_addDoor_74 ?_
            rw [e2c]
            refine z_iload_n C dX5_addDoor_77 rfl ?_
            refine z_callI (As := [.int _, .ref _, .ref _, .int _]) C (c_X0_init _ _ q59 (ad 0 lo) (ad 0 hi) _ _ _ _ _ _ _ _ _ _ _ _ _ _ _ _ none none (fun z => by have h := hX0.lt (k := 0) (i := lo) (by unfold x_in; omega); have h2 := hN59.1; omega) (fun z => by have h := hX0.lt (k := 0) (i := hi) (by unfold x_in; omega); have h2 := hN59.1; omega)) kc_X0_init wb_255 ⟨by decide, by decide⟩ (⟨hN59.2.1, hX.2.1.1 lo (by omega), hX.2.1.1 hi hhi⟩) (fun z hz => by rw [hz]; exact Or.inr hq59) ⟨Nat.le_of_ble_eq_true rfl, Nat.le_of_ble_eq_true rfl⟩ (Nat.le_of_ble_eq_true rfl) dX5_addDoor_78 (fun v H78 hq _ _ => ?_)
            obtain ⟨rfl, hU78⟩ := hq
            have hs81 := hX0.side hO (k := 1) (by omega) (a := q59) (by rw [hN59.1]; exact Nat.le_refl _)
            have hp81 := hX0.pre hE (k := 1) (by omega) hN59 hU78
            obtain ⟨fsL, hLo⟩ := hp81.2.1.obj
            have hz81 : s.heap.size ≤ Array.size H78 := by rw [hU78.2.1, hN59.2.2.1]; have := Nat.le_refl s.heap.size; omega
            refine z_callV (As := [.ref _]) C (c_Jx4a65c_add_9ea2d _ _ (ad 4 2) (ad 4 6) nD q59 1 _ (ad 1) _ (by omega) hs81.1 hs81.2.1 hs81.2.2.1 hs81.2.2.2.1 hs81.2.2.2.2 (RX0, TX0, 10) rfl (fun u hu => hu.2.1.1)) kc_Jx4a65c_add_9ea2d wb_155 ⟨by decide, by decide⟩ hLo rfl hp81 (x_A3 (k := 1) (by omega) hz81) ⟨Nat.le_of_ble_eq_true rfl, Nat.le_of_ble_eq_true rfl⟩ (Nat.le_of_ble_eq_true rfl) dX5_addDoor_81 (fun v H81 hq hsz81 hfr81 => ?_)
            obtain ⟨rfl, aE, hL81, hor81⟩ := hq
            have hSt := hX0.added (k := 1) (by omega) hN59 hU78 hfr81 hL81 hor81
            refine z_pop C dX5_addDoor_84 rfl ?_
            refine z_iload C dX5_addDoor_85 rfl ?_
            exact z_iret C (by omega) (by omega) dX5_addDoor_87 (by have hc1 : ¬ (m_no a (M.1 0) || m_no b (M.1 0)) = true := (by simp [*]); have hc2 : ¬ (decide (a = b) || !(m_in w 1 30)) = true := (by simp [*]); obtain ⟨w0, hw1, hw2, ew⟩ := hwx; exact x_ans (by unfold F_addDoor; rw [if_neg hc1, if_neg hc2, if_neg hnf]; exact Prod.ext (x_pm.trans hN.2.1.1) rfl) (x_Gr.door (lo := lo) (hi := hi) (w0 := w0) hX0 hI hls.1 (Nat.le_refl _) e1 e2 hlh hhi ew hw1 hw2 (Or.inl ⟨rfl, rfl, rfl, rfl⟩) hSt.1 (hX0.objc hSt.2 (by rw [if_pos (by decide), Nat.add_zero]))))
          · have hfull : M.1 2 = 16 := by
              rw [hN.2.1.1]
              exact x_max (K := 16) hD16 (by omega) h49
            refine z_bipush (v := (-3)) C dX5_addDoor_52 (by decide) ?_
            exact z_iret C (by omega) (by omega) dX5_addDoor_54 (by first | contradiction | exact x_ans (by simp [F_addDoor, *]; done) (x_Gr.same hX hI))
        · refine z_bipush (v := (-2)) C dX5_addDoor_33 (by decide) ?_
          exact z_iret C (by omega) (by omega) dX5_addDoor_35 (by first | contradiction | exact x_ans (by simp [F_addDoor, *]; done) (x_Gr.same hX hI))
    · refine z_iconst (v := (-1)) C dX5_addDoor_16 (by decide) ?_
      exact z_iret C (by omega) (by omega) dX5_addDoor_17 (by first | contradiction | exact x_ans (by simp [F_addDoor, *]; done) (x_Gr.same hX hI))

set_option maxHeartbeats 4000000 in
set_option maxRecDepth 100000 in
theorem c_X5_addLock (l : Launch) (G : z_G) (ad : Nat → Nat → Nat) (M : m_S) (T : x_T) {nR nD nK nG : Nat} (hI : m_I nR nD nK nG M) (sz : Nat) (hO : x_out G ad nR nD nK nG) (a b w c0 u : Int32) : z_M l yX5_addLock cX5_addLock 8 (some .int) 7 2 34 [.ref (ad 4 0), .int a, .int b, .int w, .int c0, .int u] G (fun H => H.size = sz ∧ x_R G ad nR nD nK nG M T H ∧ z_Es G H) (fun q => x_A ad nR nD nK nG q ∨ sz ≤ q) (fun v H H1 => v = some (.int (F_addLock M nD a b w c0 u).1) ∧ x_Gr G ad nR nD nK nG sz T (F_addLock M nD a b w c0 u).2 H1) := by
  refine z_M.of (by decide +kernel) (Nat.le_of_ble_eq_true rfl) ?_
  intro p e s m below meth c C hP
  obtain ⟨rfl, hX, hE⟩ := hP
  have hN := hI.1
  have hR12 := hN.1.2; have hD16 := hN.2.1.2; have hK16 := hN.2.2.1.2; have hG6 := hN.2.2.2.2
  refine z_aload_n C dX5_addLock_0 rfl ?_
  refine z_iload_n C dX5_addLock_1 rfl ?_
  refine z_callVR (As := [.int _]) C (c_X5_isRoom _ _ ad M T hI _) kc_X5_isRoom wb_214 ⟨by decide, by decide⟩ (by first | exact hX.1.1 | exact hX.1.2.1 | exact hX.1.2.2.1 | exact hX.1.2.2.2 | exact hX.2.1.1 _ (by first | assumption | exact vp_in_clamp (x_inG hN (by assumption)) | exact vp_in_clamp (x_inD hN (by assumption)) | exact vp_in_clamp (x_inK hN (by assumption)) | exact vp_in_clamp (x_inR hN (by assumption)) | exact hI.rm (by first | assumption | exact vp_in_clamp (x_inG hN (by assumption))) | exact hI.lo (by first | assumption | exact vp_in_clamp (x_inD hN (by assumption))) | exact hI.hi (by first | assumption | exact vp_in_clamp (x_inD hN (by assumption)))) | exact hX.2.1.2.1 _ (by first | assumption | exact vp_in_clamp (x_inD hN (by assumption))) | exact hX.2.1.2.2.1 _ (by first | assumption | exact vp_in_clamp (x_inK hN (by assumption))) | exact hX.2.1.2.2.2 _ (by first | assumption | exact vp_in_clamp (x_inG hN (by assumption)))) rfl (hX) ⟨Nat.le_of_ble_eq_true rfl, Nat.le_of_ble_eq_true rfl⟩ (Nat.le_of_ble_eq_true rfl) dX5_addLock_2 ?_
  refine z_ifnb_eq C 16 dX5_addLock_5 (by decide) (fun h5 => ?_) (fun h5 => ?_)
  · refine z_iconst (v := (-1)) C dX5_addLock_16 (by decide) ?_
    exact z_iret C (by omega) (by omega) dX5_addLock_17 (by first | contradiction | exact x_ans (by simp [F_addLock, m_locks_lc, *]; done) (x_Gr.same hX hI))
  · refine z_aload_n C dX5_addLock_8 rfl ?_
    refine z_iload_n C dX5_addLock_9 rfl ?_
    refine z_callVR (As := [.int _]) C (c_X5_isRoom _ _ ad M T hI _) kc_X5_isRoom wb_214 ⟨by decide, by decide⟩ (by first | exact hX.1.1 | exact hX.1.2.1 | exact hX.1.2.2.1 | exact hX.1.2.2.2 | exact hX.2.1.1 _ (by first | assumption | exact vp_in_clamp (x_inG hN (by assumption)) | exact vp_in_clamp (x_inD hN (by assumption)) | exact vp_in_clamp (x_inK hN (by assumption)) | exact vp_in_clamp (x_inR hN (by assumption)) | exact hI.rm (by first | assumption | exact vp_in_clamp (x_inG hN (by assumption))) | exact hI.lo (by first | assumption | exact vp_in_clamp (x_inD hN (by assumption))) | exact hI.hi (by first | assumption | exact vp_in_clamp (x_inD hN (by assumption)))) | exact hX.2.1.2.1 _ (by first | assumption | exact vp_in_clamp (x_inD hN (by assumption))) | exact hX.2.1.2.2.1 _ (by first | assumption | exact vp_in_clamp (x_inK hN (by assumption))) | exact hX.2.1.2.2.2 _ (by first | assumption | exact vp_in_clamp (x_inG hN (by assumption)))) rfl (hX) ⟨Nat.le_of_ble_eq_true rfl, Nat.le_of_ble_eq_true rfl⟩ (Nat.le_of_ble_eq_true rfl) dX5_addLock_10 ?_
    refine z_ifnb_ne C 18 dX5_addLock_13 (by decide) (fun h13 => ?_) (fun h13 => ?_)
    · refine z_iload_n C dX5_addLock_18 rfl ?_
      refine z_iload_n C dX5_addLock_19 rfl ?_
      refine z_icmp_eq C 52 dX5_addLock_20 (by decide) (fun h20 => ?_) (fun h20 => ?_)
      · refine z_bipush (v := (-2)) C dX5_addLock_52 (by decide) ?_
        exact z_iret C (by omega) (by omega) dX5_addLock_54 (by first | contradiction | exact x_ans (by simp [F_addLock, m_locks_lc, *]; done) (x_Gr.same hX hI))
      · refine z_iload_n C dX5_addLock_23 rfl ?_
        refine z_iconst (v := 1) C dX5_addLock_24 (by decide) ?_
        refine z_bipush (v := 30) C dX5_addLock_25 (by decide) ?_
        refine z_callSR (As := [.int _, .int _, .int _]) C (c_X5_isBetween _ _ _ _ _) kc_X5_isBetween wb_240 ⟨by decide, by decide⟩ (trivial) ⟨Nat.le_of_ble_eq_true rfl, Nat.le_of_ble_eq_true rfl⟩ (Nat.le_of_ble_eq_true rfl) dX5_addLock_27 ?_
        refine z_ifb_eq C 52 dX5_addLock_30 (by decide) (fun h30 => ?_) (fun h30 => ?_)
        · refine z_bipush (v := (-2)) C dX5_addLock_52 (by decide) ?_
          exact z_iret C (by omega) (by omega) dX5_addLock_54 (by first | contradiction | exact x_ans (by simp [F_addLock, m_locks_lc, *]; done) (x_Gr.same hX hI))
        · refine z_iload C dX5_addLock_33 rfl ?_
          refine z_callSR (As := [.int _]) C (c_X5_isColor _ _ _) kc_X5_isColor wb_309 ⟨by decide, by decide⟩ (trivial) ⟨Nat.le_of_ble_eq_true rfl, Nat.le_of_ble_eq_true rfl⟩ (Nat.le_of_ble_eq_true rfl) dX5_addLock_35 ?_
          refine z_ifb_eq C 52 dX5_addLock_38 (by decide) (fun h38 => ?_) (fun h38 => ?_)
          · refine z_bipush (v := (-2)) C dX5_addLock_52 (by decide) ?_
            exact z_iret C (by omega) (by omega) dX5_addLock_54 (by first | contradiction | exact x_ans (by simp [F_addLock, m_locks_lc, *]; done) (x_Gr.same hX hI))
          · refine z_iload C dX5_addLock_41 rfl ?_
            refine z_iconst (v := 1) C dX5_addLock_43 (by decide) ?_
            refine z_bipush (v := 60) C dX5_addLock_44 (by decide) ?_
            refine z_callSR (As := [.int _, .int _, .int _]) C (c_X5_isBetween _ _ _ _ _) kc_X5_isBetween wb_240 ⟨by decide, by decide⟩ (trivial) ⟨Nat.le_of_ble_eq_true rfl, Nat.le_of_ble_eq_true rfl⟩ (Nat.le_of_ble_eq_true rfl) dX5_addLock_46 ?_
            refine z_ifb_ne C 55 dX5_addLock_49 (by decide) (fun h49 => ?_) (fun h49 => ?_)
            · have ha := x_inR hN (r := a) (by assumption)
              have hb := x_inR hN (r := b) (by assumption)
              obtain ⟨lo, hi, hlh, hhi, e1, e2, e3⟩ := x_two ha hb (by assumption) hR12
              have e3c : (if b < a then b else a).toNatClampNeg = lo := by rw [e3, nI_clamp (by omega)]
              have e2c : (if a < b then b else a).toNatClampNeg = hi := by rw [e2, nI_clamp (by omega)]
              have hwx := m_in_1 (b := 30) (v := w) (by omega) (by omega) (by assumption)
              have hcx := m_in_0 (b := 5) (v := c0) (by omega) (by assumption)
              have hux := m_in_1 (b := 60) (v := u) (by omega) (by omega) (by assumption)
              have hl10 := hI.2.2.2.2.2.1
              refine z_aload_n C dX5_addLock_55 rfl ?_
              refine z_get C (by first | exact hX.1.1 | exact hX.1.2.1 | exact hX.1.2.2.1 | exact hX.1.2.2.2 | exact hX.2.1.1 _ (by first | assumption | exact vp_in_clamp (x_inG hN (by assumption)) | exact vp_in_clamp (x_inD hN (by assumption)) | exact vp_in_clamp (x_inK hN (by assumption)) | exact vp_in_clamp (x_inR hN (by assumption)) | exact hI.rm (by first | assumption | exact vp_in_clamp (x_inG hN (by assumption))) | exact hI.lo (by first | assumption | exact vp_in_clamp (x_inD hN (by assumption))) | exact hI.hi (by first | assumption | exact vp_in_clamp (x_inD hN (by assumption)))) | exact hX.2.1.2.1 _ (by first | assumption | exact vp_in_clamp (x_inD hN (by assumption))) | exact hX.2.1.2.2.1 _ (by first | assumption | exact vp_in_clamp (x_inK hN (by assumption))) | exact hX.2.1.2.2.2 _ (by first | assumption | exact vp_in_clamp (x_inG hN (by assumption)))) z_cls6 hu_X5 1 (by decide) wb_95 rfl rfl dX5_addLock_56 ?_
              refine k_size C (by first | exact hX.2.2.1.1 | exact hX.2.2.1.2.1 | exact hX.2.2.1.2.2.1 | exact hX.2.2.1.2.2.2) wb_129 ⟨by decide, by decide⟩ ⟨Nat.le_of_ble_eq_true rfl, Nat.le_of_ble_eq_true rfl⟩ (Nat.le_of_ble_eq_true rfl) dX5_addLock_59 ?_
              refine z_istore C dX5_addLock_62 (by decide) ?_
              refine z_iload C dX5_addLock_64 rfl ?_
              refine z_bipush (v := 16) C dX5_addLock_66 (by decide) ?_
              refine z_icmp_ge C 80 dX5_addLock_68 (by decide) (fun h68 => ?_) (fun h68 => ?_)
              · have hfull : M.1 2 = 16 := by
                  rw [hN.2.1.1]
                  exact x_max (K := 16) hD16 (by omega) h68
                refine z_bipush (v := (-3)) C dX5_addLock_80 (by decide) ?_
                exact z_iret C (by omega) (by omega) dX5_addLock_82 (by first | contradiction | exact x_ans (by simp [F_addLock, m_locks_lc, *]; done) (x_Gr.same hX hI))
              · have hls := x_less (K := 16) hD16 (by omega) h68
                have hnf : ¬ M.1 2 = 16 := by
                  rw [hN.2.1.1]
                  exact hls.2
                refine z_aload_n C dX5_addLock_71 rfl ?_
                refine z_get C (by first | exact hX.1.1 | exact hX.1.2.1 | exact hX.1.2.2.1 | exact hX.1.2.2.2 | exact hX.2.1.1 _ (by first | assumption | exact vp_in_clamp (x_inG hN (by assumption)) | exact vp_in_clamp (x_inD hN (by assumption)) | exact vp_in_clamp (x_inK hN (by assumption)) | exact vp_in_clamp (x_inR hN (by assumption)) | exact hI.rm (by first | assumption | exact vp_in_clamp (x_inG hN (by assumption))) | exact hI.lo (by first | assumption | exact vp_in_clamp (x_inD hN (by assumption))) | exact hI.hi (by first | assumption | exact vp_in_clamp (x_inD hN (by assumption)))) | exact hX.2.1.2.1 _ (by first | assumption | exact vp_in_clamp (x_inD hN (by assumption))) | exact hX.2.1.2.2.1 _ (by first | assumption | exact vp_in_clamp (x_inK hN (by assumption))) | exact hX.2.1.2.2.2 _ (by first | assumption | exact vp_in_clamp (x_inG hN (by assumption)))) z_cls6 hu_X5 6 (by decide) wb_100 rfl rfl dX5_addLock_72 ?_
                refine z_bipush (v := 10) C dX5_addLock_75 (by decide) ?_
                refine z_icmp_lt C 83 dX5_addLock_77 (by decide) (fun h77 => ?_) (fun h77 => ?_)
                · have hll := x_less (K := 10) hl10 (by omega) h77
                  refine z_new (fs := nf_1) C z_cls1 hu_X0 wb_243 wb_244 wb_14 nw_1 (Nat.le_of_ble_eq_true rfl) (Nat.le_of_ble_eq_true rfl) dX5_addLock_83 (fun q83 H83 hN83 => ?_)
                  have hX0 := hX
                  have hX := hX.kept hN83.2.2.2
                  have hq83 : s.heap.size ≤ q83 := by rw [hN83.1]; exact Nat.le_refl _
                  refine z_dup C dX5_addLock_86 rfl ?_
                  refine z_iload C dX5_addLock_87 rfl ?_
                  refine z_aload_n C dX5_addLock_89 rfl ?_
                  refine z_iload_n C dX5_addLock_90 rfl ?_
                  refine z_iload_n C dX5_addLock_91 rfl ?_
                  refine z_callVR (As := [.int _, .int _]) C (c_X5_lowerRoom _ _ ad M T hI _ _ ha hb) kc_X5_lowerRoom wb_245 ⟨by decide, by decide⟩ (by first | exact hX.1.1 | exact hX.1.2.1 | exact hX.1.2.2.1 | exact hX.1.2.2.2 | exact hX.2.1.1 _ (by first | assumption | exact vp_in_clamp (x_inG hN (by assumption)) | exact vp_in_clamp (x_inD hN (by assumption)) | exact vp_in_clamp (x_inK hN (by assumption)) | exact vp_in_clamp (x_inR hN (by assumption)) | exact hI.rm (by first | assumption | exact vp_in_clamp (x_inG hN (by assumption))) | exact hI.lo (by first | assumption | exact vp_in_clamp (x_inD hN (by assumption))) | exact hI.hi (by first | assumption | exact vp_in_clamp (x_inD hN (by assumption)))) | exact hX.2.1.2.1 _ (by first | assumption | exact vp_in_clamp (x_inD hN (by assumption))) | exact hX.2.1.2.2.1 _ (by first | assumption | exact vp_in_clamp (x_inK hN (by assumption))) | exact hX.2.1.2.2.2 _ (by first | assumption | exact vp_in_clamp (x_inG hN (by assumption)))) rfl (hX) ⟨Nat.le_of_ble_eq_true rfl, Nat.le_of_ble_eq_true rfl⟩ (Nat.le_of_ble_eq_true rfl) dX5_addLock_92 ?_
                  rw [e3c]
                  refine z_aload_n C dX5_addLock_95 rfl ?_
                  refine z_iload_n C dX5_addLock_96 rfl ?_
                  refine z_iload_n C dX5_addLock_97 rfl ?_
                  refine z_callVR (As := [.int _, .int _]) C (c_X5_higherRoom _ _ ad M T hI _ _ ha hb) kc_X5_higherRoom wb_250 ⟨by decide, by decide⟩ (by first | exact hX.1.1 | exact hX.1.2.1 | exact hX.1.2.2.1 | exact hX.1.2.2.2 | exact hX.2.1.1 _ (by first | assumption | exact vp_in_clamp (x_inG hN (by assumption)) | exact vp_in_clamp (x_inD hN (by assumption)) | exact vp_in_clamp (x_inK hN (by assumption)) | exact vp_in_clamp (x_inR hN (by assumption)) | exact hI.rm (by first | assumption | exact vp_in_clamp (x_inG hN (by assumption))) | exact hI.lo (by first | assumption | exact vp_in_clamp (x_inD hN (by assumption))) | exact hI.hi (by first | assumption | exact vp_in_clamp (x_inD hN (by assumption)))) | exact hX.2.1.2.1 _ (by first | assumption | exact vp_in_clamp (x_inD hN (by assumption))) | exact hX.2.1.2.2.1 _ (by first | assumption | exact vp_in_clamp (x_inK hN (by assumption))) | exact hX.2.1.2.2.2 _ (by first | assumption | exact vp_in_clamp (x_inG hN (by assumption)))) rfl (hX) ⟨Nat.le_of_ble_eq_true rfl, Nat.le_of_ble_eq_true rfl⟩ (Nat.le_of_ble_eq_true rfl) dX5_addLock_98 ?_
                  rw [e2c]
                  refine z_iload_n C dX5_addLock_101 rfl ?_
                  refine z_callI (As := [.int _, .ref _, .ref _, .int _]) C (c_X0_init _ _ q83 (ad 0 lo) (ad 0 hi) _ _ _ _ _ _ _ _ _ _ _ _ _ _ _ _ none none (fun z => by have h := hX0.lt (k := 0) (i := lo) (by unfold x_in; omega); have h2 := hN83.1; omega) (fun z => by have h := hX0.lt (k := 0) (i := hi) (by unfold x_in; omega); have h2 := hN83.1; omega)) kc_X0_init wb_255 ⟨by decide, by decide⟩ (⟨hN83.2.1, hX.2.1.1 lo (by omega), hX.2.1.1 hi hhi⟩) (fun z hz => by rw [hz]; exact Or.inr hq83) ⟨Nat.le_of_ble_eq_true rfl, Nat.le_of_ble_eq_true rfl⟩ (Nat.le_of_ble_eq_true rfl) dX5_addLock_102 (fun v H102 hq _ _ => ?_)
                  obtain ⟨rfl, hU102⟩ := hq
                  have hX := hX0.kept (z_kp hN83 hU102)
                  refine z_astore C dX5_addLock_105 (by decide) ?_
                  refine z_aload C dX5_addLock_107 rfl ?_
                  refine z_iconst (v := 1) C dX5_addLock_109 (by decide) ?_
                  refine z_aload_n C dX5_addLock_110 rfl ?_
                  refine z_get C (by first | exact hX.1.1 | exact hX.1.2.1 | exact hX.1.2.2.1 | exact hX.1.2.2.2 | exact hX.2.1.1 _ (by first | assumption | exact vp_in_clamp (x_inG hN (by assumption)) | exact vp_in_clamp (x_inD hN (by assumption)) | exact vp_in_clamp (x_inK hN (by assumption)) | exact vp_in_clamp (x_inR hN (by assumption)) | exact hI.rm (by first | assumption | exact vp_in_clamp (x_inG hN (by assumption))) | exact hI.lo (by first | assumption | exact vp_in_clamp (x_inD hN (by assumption))) | exact hI.hi (by first | assumption | exact vp_in_clamp (x_inD hN (by assumption)))) | exact hX.2.1.2.1 _ (by first | assumption | exact vp_in_clamp (x_inD hN (by assumption))) | exact hX.2.1.2.2.1 _ (by first | assumption | exact vp_in_clamp (x_inK hN (by assumption))) | exact hX.2.1.2.2.2 _ (by first | assumption | exact vp_in_clamp (x_inG hN (by assumption)))) z_cls6 hu_X5 6 (by decide) wb_100 rfl rfl dX5_addLock_111 ?_
                  refine z_ishl C dX5_addLock_114 ?_
                  refine z_iload C dX5_addLock_115 rfl ?_
                  refine z_iload C dX5_addLock_117 rfl ?_
                  refine z_callV (As := [.int _, .int _, .int _]) C (c_X0_putLock _ _ q83 (ad 0 lo) (ad 0 hi) _ _ _ _ _ _ _ _ _ _ _) kc_X0_putLock wb_312 ⟨by decide, by decide⟩ hU102.1 rfl hU102.1 (fun z hz => by rw [hz]; exact Or.inr hq83) ⟨Nat.le_of_ble_eq_true rfl, Nat.le_of_ble_eq_true rfl⟩ (Nat.le_of_ble_eq_true rfl) dX5_addLock_119 (fun v H119 hq _ _ => ?_)
                  obtain ⟨rfl, hU119⟩ := hq
                  have hX := hX0.kept (z_kp hN83 (hU102.trans hU119))
                  have hU102 := hU102.trans hU119
                  refine z_aload_n C dX5_addLock_122 rfl ?_
                  refine z_get C (by first | exact hX.1.1 | exact hX.1.2.1 | exact hX.1.2.2.1 | exact hX.1.2.2.2 | exact hX.2.1.1 _ (by first | assumption | exact vp_in_clamp (x_inG hN (by assumption)) | exact vp_in_clamp (x_inD hN (by assumption)) | exact vp_in_clamp (x_inK hN (by assumption)) | exact vp_in_clamp (x_inR hN (by assumption)) | exact hI.rm (by first | assumption | exact vp_in_clamp (x_inG hN (by assumption))) | exact hI.lo (by first | assumption | exact vp_in_clamp (x_inD hN (by assumption))) | exact hI.hi (by first | assumption | exact vp_in_clamp (x_inD hN (by assumption)))) | exact hX.2.1.2.1 _ (by first | assumption | exact vp_in_clamp (x_inD hN (by assumption))) | exact hX.2.1.2.2.1 _ (by first | assumption | exact vp_in_clamp (x_inK hN (by assumption))) | exact hX.2.1.2.2.2 _ (by first | assumption | exact vp_in_clamp (x_inG hN (by assumption)))) z_cls6 hu_X5 1 (by decide) wb_95 rfl rfl dX5_addLock_123 ?_
                  refine z_aload C dX5_addLock_126 rfl ?_
                  have hs128 := hX0.side hO (k := 1) (by omega) (a := q83) (by rw [hN83.1]; exact Nat.le_refl _)
                  have hp128 := hX0.pre hE (k := 1) (by omega) hN83 hU102
                  obtain ⟨fsL, hLo⟩ := hp128.2.1.obj
                  have hz128 : s.heap.size ≤ Array.size H119 := by rw [hU102.2.1, hN83.2.2.1]; have := Nat.le_refl s.heap.size; omega
                  refine z_callV (As := [.ref _]) C (c_Jx4a65c_add_9ea2d _ _ (ad 4 2) (ad 4 6) nD q83 1 _ (ad 1) _ (by omega) hs128.1 hs128.2.1 hs128.2.2.1 hs128.2.2.2.1 hs128.2.2.2.2 (RX0, TX0, 10) rfl (fun u hu => hu.2.1.1)) kc_Jx4a65c_add_9ea2d wb_155 ⟨by decide, by decide⟩ hLo rfl hp128 (x_A3 (k := 1) (by omega) hz128) ⟨Nat.le_of_ble_eq_true rfl, Nat.le_of_ble_eq_true rfl⟩ (Nat.le_of_ble_eq_true rfl) dX5_addLock_128 (fun v H128 hq hsz128 hfr128 => ?_)
                  obtain ⟨rfl, aE, hL128, hor128⟩ := hq
                  have hSt := hX0.added (k := 1) (by omega) hN83 hU102 hfr128 hL128 hor128
                  have hX := hX0
                  refine z_pop C dX5_addLock_131 rfl ?_
                  refine z_aload_n C dX5_addLock_132 rfl ?_
                  refine z_dup C dX5_addLock_133 rfl ?_
                  refine z_get C (hX0.1.1.kept hSt.2) z_cls6 hu_X5 6 (by decide) wb_100 rfl rfl dX5_addLock_134 ?_
                  refine z_iconst (v := 1) C dX5_addLock_137 (by decide) ?_
                  refine z_iadd C dX5_addLock_138 ?_
                  refine z_put C (hX0.1.1.kept hSt.2) z_cls6 hu_X5 (Or.inl ⟨4, 0, by unfold x_in; omega, rfl⟩) 6 (by decide) wb_100 rfl rfl (by rfl) (by rfl) (Nat.le_of_ble_eq_true rfl) dX5_addLock_139 (fun H139 hU139 => ?_)
                  have hSt2 := x_St.obj hX0 (k := 1) (by omega) hSt.1 hU139
                  refine z_iload C dX5_addLock_142 rfl ?_
                  exact z_iret C (by omega) (by omega) dX5_addLock_144 (by have hc1 : ¬ (m_no a (M.1 0) || m_no b (M.1 0)) = true := (by simp [*]); have hc2 : ¬ (decide (a = b) || !(m_in w 1 30) || !(m_in c0 0 5) || !(m_in u 1 60)) = true := (by simp [*]); have hc3 : ¬ (decide (M.1 2 = 16) || decide (m_locks M nD = 10)) = true := (by rw [m_locks_lc]; simp [hnf]; exact hll.2); obtain ⟨w0, hw1, hw2, ew⟩ := hwx; have hc0 : ¬ c0 < 0 := (by obtain ⟨x, hx, e⟩ := hcx; rw [e]; exact nI_pos (by omega)); exact x_ans (by unfold F_addLock; rw [if_neg hc1, if_neg hc2, if_neg hc3]; exact Prod.ext (x_pm.trans hN.2.1.1) rfl) (x_Gr.door (lo := lo) (hi := hi) (w0 := w0) hX0 hI hls.1 (Nat.le_refl _) e1 e2 hlh hhi ew hw1 hw2 (Or.inr ⟨hcx, hux, rfl, rfl, hll.1⟩) hSt2 (by rw [if_neg hc0, nI_succ]; exact hU139.1)))
                · have hfull : nI (x_lc M nD) = 10 := x_max (K := 10) hl10 (by omega) h77
                  refine z_bipush (v := (-3)) C dX5_addLock_80 (by decide) ?_
                  exact z_iret C (by omega) (by omega) dX5_addLock_82 (by first | contradiction | exact x_ans (by simp [F_addLock, m_locks_lc, *]; done) (x_Gr.same hX hI))
            · refine z_bipush (v := (-2)) C dX5_addLock_52 (by decide) ?_
              exact z_iret C (by omega) (by omega) dX5_addLock_54 (by first | contradiction | exact x_ans (by simp [F_addLock, m_locks_lc, *]; done) (x_Gr.same hX hI))
    · refine z_iconst (v := (-1)) C dX5_addLock_16 (by decide) ?_
      exact z_iret C (by omega) (by omega) dX5_addLock_17 (by first | contradiction | exact x_ans (by simp [F_addLock, m_locks_lc, *]; done) (x_Gr.same hX hI))

set_option maxHeartbeats 4000000 in
set_option maxRecDepth 100000 in
theorem c_X5_addKey (l : Launch) (G : z_G) (ad : Nat → Nat → Nat) (M : m_S) (T : x_T) {nR nD nK nG : Nat} (hI : m_I nR nD nK nG M) (sz : Nat) (hO : x_out G ad nR nD nK nG) (r c0 : Int32) : z_M l yX5_addKey cX5_addKey 4 (some .int) 7 2 34 [.ref (ad 4 0), .int r, .int c0] G (fun H => H.size = sz ∧ x_R G ad nR nD nK nG M T H ∧ z_Es G H) (fun q => x_A ad nR nD nK nG q ∨ sz ≤ q) (fun v H H1 => v = some (.int (F_addKey M r c0).1) ∧ x_Gr G ad nR nD nK nG sz T (F_addKey M r c0).2 H1) := by
  refine z_M.of (by decide +kernel) (Nat.le_of_ble_eq_true rfl) ?_
  intro p e s m below meth c C hP
  obtain ⟨rfl, hX, hE⟩ := hP
  have hN := hI.1
  have hR12 := hN.1.2; have hD16 := hN.2.1.2; have hK16 := hN.2.2.1.2; have hG6 := hN.2.2.2.2
  refine z_aload_n C dX5_addKey_0 rfl ?_
  refine z_iload_n C dX5_addKey_1 rfl ?_
  refine z_callVR (As := [.int _]) C (c_X5_isRoom _ _ ad M T hI _) kc_X5_isRoom wb_214 ⟨by decide, by decide⟩ (by first | exact hX.1.1 | exact hX.1.2.1 | exact hX.1.2.2.1 | exact hX.1.2.2.2 | exact hX.2.1.1 _ (by first | assumption | exact vp_in_clamp (x_inG hN (by assumption)) | exact vp_in_clamp (x_inD hN (by assumption)) | exact vp_in_clamp (x_inK hN (by assumption)) | exact vp_in_clamp (x_inR hN (by assumption)) | exact hI.rm (by first | assumption | exact vp_in_clamp (x_inG hN (by assumption))) | exact hI.lo (by first | assumption | exact vp_in_clamp (x_inD hN (by assumption))) | exact hI.hi (by first | assumption | exact vp_in_clamp (x_inD hN (by assumption)))) | exact hX.2.1.2.1 _ (by first | assumption | exact vp_in_clamp (x_inD hN (by assumption))) | exact hX.2.1.2.2.1 _ (by first | assumption | exact vp_in_clamp (x_inK hN (by assumption))) | exact hX.2.1.2.2.2 _ (by first | assumption | exact vp_in_clamp (x_inG hN (by assumption)))) rfl (hX) ⟨Nat.le_of_ble_eq_true rfl, Nat.le_of_ble_eq_true rfl⟩ (Nat.le_of_ble_eq_true rfl) dX5_addKey_2 ?_
  refine z_ifnb_ne C 10 dX5_addKey_5 (by decide) (fun h5 => ?_) (fun h5 => ?_)
  · refine z_iload_n C dX5_addKey_10 rfl ?_
    refine z_callSR (As := [.int _]) C (c_X5_isColor _ _ _) kc_X5_isColor wb_309 ⟨by decide, by decide⟩ (trivial) ⟨Nat.le_of_ble_eq_true rfl, Nat.le_of_ble_eq_true rfl⟩ (Nat.le_of_ble_eq_true rfl) dX5_addKey_11 ?_
    refine z_ifb_ne C 20 dX5_addKey_14 (by decide) (fun h14 => ?_) (fun h14 => ?_)
    · have hrv := x_inR hN (r := r) (by assumption)
      have hrl : r.toNatClampNeg < nR := vp_in_clamp hrv
      have hcx := m_in_0 (b := 5) (v := c0) (by omega) (by assumption)
      refine z_aload_n C dX5_addKey_20 rfl ?_
      refine z_get C (by first | exact hX.1.1 | exact hX.1.2.1 | exact hX.1.2.2.1 | exact hX.1.2.2.2 | exact hX.2.1.1 _ (by first | assumption | exact vp_in_clamp (x_inG hN (by assumption)) | exact vp_in_clamp (x_inD hN (by assumption)) | exact vp_in_clamp (x_inK hN (by assumption)) | exact vp_in_clamp (x_inR hN (by assumption)) | exact hI.rm (by first | assumption | exact vp_in_clamp (x_inG hN (by assumption))) | exact hI.lo (by first | assumption | exact vp_in_clamp (x_inD hN (by assumption))) | exact hI.hi (by first | assumption | exact vp_in_clamp (x_inD hN (by assumption)))) | exact hX.2.1.2.1 _ (by first | assumption | exact vp_in_clamp (x_inD hN (by assumption))) | exact hX.2.1.2.2.1 _ (by first | assumption | exact vp_in_clamp (x_inK hN (by assumption))) | exact hX.2.1.2.2.2 _ (by first | assumption | exact vp_in_clamp (x_inG hN (by assumption)))) z_cls6 hu_X5 2 (by decide) wb_96 rfl rfl dX5_addKey_21 ?_
      refine k_size C (by first | exact hX.2.2.1.1 | exact hX.2.2.1.2.1 | exact hX.2.2.1.2.2.1 | exact hX.2.2.1.2.2.2) wb_129 ⟨by decide, by decide⟩ ⟨Nat.le_of_ble_eq_true rfl, Nat.le_of_ble_eq_true rfl⟩ (Nat.le_of_ble_eq_true rfl) dX5_addKey_24 ?_
      refine z_istore_n C dX5_addKey_27 (by decide) ?_
      refine z_iload_n C dX5_addKey_28 rfl ?_
      refine z_bipush (v := 16) C dX5_addKey_29 (by decide) ?_
      refine z_icmp_lt C 37 dX5_addKey_31 (by decide) (fun h31 => ?_) (fun h31 => ?_)
      · have hls := x_less (K := 16) hK16 (by omega) h31
        have hnf : ¬ M.1 9 = 16 := by
          rw [hN.2.2.1.1]
          exact hls.2
        refine z_aload_n C dX5_addKey_37 rfl ?_
        refine z_get C (by first | exact hX.1.1 | exact hX.1.2.1 | exact hX.1.2.2.1 | exact hX.1.2.2.2 | exact hX.2.1.1 _ (by first | assumption | exact vp_in_clamp (x_inG hN (by assumption)) | exact vp_in_clamp (x_inD hN (by assumption)) | exact vp_in_clamp (x_inK hN (by assumption)) | exact vp_in_clamp (x_inR hN (by assumption)) | exact hI.rm (by first | assumption | exact vp_in_clamp (x_inG hN (by assumption))) | exact hI.lo (by first | assumption | exact vp_in_clamp (x_inD hN (by assumption))) | exact hI.hi (by first | assumption | exact vp_in_clamp (x_inD hN (by assumption)))) | exact hX.2.1.2.1 _ (by first | assumption | exact vp_in_clamp (x_inD hN (by assumption))) | exact hX.2.1.2.2.1 _ (by first | assumption | exact vp_in_clamp (x_inK hN (by assumption))) | exact hX.2.1.2.2.2 _ (by first | assumption | exact vp_in_clamp (x_inG hN (by assumption)))) z_cls6 hu_X5 2 (by decide) wb_96 rfl rfl dX5_addKey_38 ?_
        refine z_new (fs := nf_3) C z_cls3 hu_X2 wb_320 wb_321 wb_15 nw_3 (Nat.le_of_ble_eq_true rfl) (Nat.le_of_ble_eq_true rfl) dX5_addKey_41 (fun q41 H41 hN41 => ?_)
        have hX0 := hX
        have hX := hX.kept hN41.2.2.2
        have hq41 : s.heap.size ≤ q41 := by rw [hN41.1]; exact Nat.le_refl _
        refine z_dup C dX5_addKey_44 rfl ?_
        refine z_iload_n C dX5_addKey_45 rfl ?_
        refine z_iload_n C dX5_addKey_46 rfl ?_
        refine z_aload_n C dX5_addKey_47 rfl ?_
        refine z_get C (by first | exact hX.1.1 | exact hX.1.2.1 | exact hX.1.2.2.1 | exact hX.1.2.2.2 | exact hX.2.1.1 _ (by first | assumption | exact vp_in_clamp (x_inG hN (by assumption)) | exact vp_in_clamp (x_inD hN (by assumption)) | exact vp_in_clamp (x_inK hN (by assumption)) | exact vp_in_clamp (x_inR hN (by assumption)) | exact hI.rm (by first | assumption | exact vp_in_clamp (x_inG hN (by assumption))) | exact hI.lo (by first | assumption | exact vp_in_clamp (x_inD hN (by assumption))) | exact hI.hi (by first | assumption | exact vp_in_clamp (x_inD hN (by assumption)))) | exact hX.2.1.2.1 _ (by first | assumption | exact vp_in_clamp (x_inD hN (by assumption))) | exact hX.2.1.2.2.1 _ (by first | assumption | exact vp_in_clamp (x_inK hN (by assumption))) | exact hX.2.1.2.2.2 _ (by first | assumption | exact vp_in_clamp (x_inG hN (by assumption)))) z_cls6 hu_X5 0 (by decide) wb_94 rfl rfl dX5_addKey_48 ?_
        refine z_iload_n C dX5_addKey_51 rfl ?_
        refine k_get C (by first | exact hX.2.2.1.1 | exact hX.2.2.1.2.1 | exact hX.2.2.1.2.2.1 | exact hX.2.2.1.2.2.2) (by first | assumption | exact x_inG hN (by assumption) | exact x_inD hN (by assumption) | exact x_inK hN (by assumption) | exact x_inR hN (by assumption)) (by omega) (by first | exact hcli | rfl) wb_222 ⟨by decide, by decide⟩ ⟨Nat.le_of_ble_eq_true rfl, Nat.le_of_ble_eq_true rfl⟩ (Nat.le_of_ble_eq_true rfl) dX5_addKey_52 ?_
        refine z_cast (q := (RX4, TX4, 3)) C (by first | exact hX.1.1 | exact hX.1.2.1 | exact hX.1.2.2.1 | exact hX.1.2.2.2 | exact hX.2.1.1 _ (by first | assumption | exact vp_in_clamp (x_inG hN (by assumption)) | exact vp_in_clamp (x_inD hN (by assumption)) | exact vp_in_clamp (x_inK hN (by assumption)) | exact vp_in_clamp (x_inR hN (by assumption)) | exact hI.rm (by first | assumption | exact vp_in_clamp (x_inG hN (by assumption))) | exact hI.lo (by first | assumption | exact vp_in_clamp (x_inD hN (by assumption))) | exact hI.hi (by first | assumption | exact vp_in_clamp (x_inD hN (by assumption)))) | exact hX.2.1.2.1 _ (by first | assumption | exact vp_in_clamp (x_inD hN (by assumption))) | exact hX.2.1.2.2.1 _ (by first | assumption | exact vp_in_clamp (x_inK hN (by assumption))) | exact hX.2.1.2.2.2 _ (by first | assumption | exact vp_in_clamp (x_inG hN (by assumption)))) rfl wb_133 dX5_addKey_55 ?_
        refine z_callI (As := [.int _, .int _, .ref _]) C (c_X2_init _ _ q41 _ _ _ _ _ _ none none none) kc_X2_init wb_322 ⟨by decide, by decide⟩ (hN41.2.1) (fun z hz => by rw [hz]; exact Or.inr hq41) ⟨Nat.le_of_ble_eq_true rfl, Nat.le_of_ble_eq_true rfl⟩ (Nat.le_of_ble_eq_true rfl) dX5_addKey_58 (fun v H58 hq _ _ => ?_)
        obtain ⟨rfl, hU58⟩ := hq
        have hs61 := hX0.side hO (k := 2) (by omega) (a := q41) (by rw [hN41.1]; exact Nat.le_refl _)
        have hp61 := hX0.pre hE (k := 2) (by omega) hN41 hU58
        obtain ⟨fsL, hLo⟩ := hp61.2.1.obj
        have hz61 : s.heap.size ≤ Array.size H58 := by rw [hU58.2.1, hN41.2.2.1]; have := Nat.le_refl s.heap.size; omega
        refine z_callV (As := [.ref _]) C (c_Jx4a65c_add_9ea2d _ _ (ad 4 3) (ad 4 7) nK q41 3 _ (ad 2) _ (by omega) hs61.1 hs61.2.1 hs61.2.2.1 hs61.2.2.2.1 hs61.2.2.2.2 (RX2, TX2, 6) rfl (fun u hu => hu.2.1.2.2.1)) kc_Jx4a65c_add_9ea2d wb_155 ⟨by decide, by decide⟩ hLo rfl hp61 (x_A3 (k := 2) (by omega) hz61) ⟨Nat.le_of_ble_eq_true rfl, Nat.le_of_ble_eq_true rfl⟩ (Nat.le_of_ble_eq_true rfl) dX5_addKey_61 (fun v H61 hq hsz61 hfr61 => ?_)
        obtain ⟨rfl, aE, hL61, hor61⟩ := hq
        have hSt := hX0.added (k := 2) (by omega) hN41 hU58 hfr61 hL61 hor61
        refine z_pop C dX5_addKey_64 rfl ?_
        refine z_iload_n C dX5_addKey_65 rfl ?_
        exact z_iret C (by omega) (by omega) dX5_addKey_66 (by have hrn : nI r.toNatClampNeg = r := nI_of_clamp hrv (by omega); have hc1 : ¬ m_no r (M.1 0) = true := (by simp [*]); have hc2 : ¬ (!(m_in c0 0 5)) = true := (by simp [*]); obtain ⟨x, hx, ex⟩ := hcx; have e9 : (M.1 9).toNatClampNeg = nK := (by rw [hN.2.2.1.1, nI_clamp (by omega)]); exact x_ans (by unfold F_addKey; rw [if_neg hc1, if_neg hc2, if_neg hnf, e9]; exact Prod.ext (x_pm.trans hN.2.2.1.1) (by show m_sS (m_sA (m_sA (m_sA (m_sA M 10 nK c0) 11 nK 0) 12 nK r) 13 nK 0) 9 (M.1 9 + 1) = m_sS (m_sA (m_sA (m_sA (m_sA M 10 nK (nI x)) 11 nK 0) 12 nK (nI r.toNatClampNeg)) 13 nK 0) 9 (M.1 9 + 1); rw [hrn, ← ex])) (x_Gr.key (x := x) hX0 hI hls.1 (Nat.le_refl _) hrl hx (by rw [← ex]; exact hSt.1) hSt.2))
      · have hfull : M.1 9 = 16 := by
          rw [hN.2.2.1.1]
          exact x_max (K := 16) hK16 (by omega) h31
        refine z_bipush (v := (-3)) C dX5_addKey_34 (by decide) ?_
        exact z_iret C (by omega) (by omega) dX5_addKey_36 (by first | contradiction | exact x_ans (by simp [F_addKey, *]; done) (x_Gr.same hX hI))
    · refine z_bipush (v := (-2)) C dX5_addKey_17 (by decide) ?_
      exact z_iret C (by omega) (by omega) dX5_addKey_19 (by first | contradiction | exact x_ans (by simp [F_addKey, *]; done) (x_Gr.same hX hI))
  · refine z_iconst (v := (-1)) C dX5_addKey_8 (by decide) ?_
    exact z_iret C (by omega) (by omega) dX5_addKey_9 (by first | contradiction | exact x_ans (by simp [F_addKey, *]; done) (x_Gr.same hX hI))

set_option maxHeartbeats 4000000 in
set_option maxRecDepth 100000 in
theorem c_X5_addGroup (l : Launch) (G : z_G) (ad : Nat → Nat → Nat) (M : m_S) (T : x_T) {nR nD nK nG : Nat} (hI : m_I nR nD nK nG M) (sz : Nat) (hO : x_out G ad nR nD nK nG) (z r : Int32) : z_M l yX5_addGroup cX5_addGroup 5 (some .int) 7 2 34 [.ref (ad 4 0), .int z, .int r] G (fun H => H.size = sz ∧ x_R G ad nR nD nK nG M T H ∧ z_Es G H) (fun q => x_A ad nR nD nK nG q ∨ sz ≤ q) (fun v H H1 => v = some (.int (F_addGroup M nG z r).1) ∧ x_Gr G ad nR nD nK nG sz T (F_addGroup M nG z r).2 H1) := by
  refine z_M.of (by decide +kernel) (Nat.le_of_ble_eq_true rfl) ?_
  intro p e s m below meth c C hP
  obtain ⟨rfl, hX, hE⟩ := hP
  have hN := hI.1
  have hR12 := hN.1.2; have hD16 := hN.2.1.2; have hK16 := hN.2.2.1.2; have hG6 := hN.2.2.2.2
  refine z_aload_n C dX5_addGroup_0 rfl ?_
  refine z_iload_n C dX5_addGroup_1 rfl ?_
  refine z_callVR (As := [.int _]) C (c_X5_isRoom _ _ ad M T hI _) kc_X5_isRoom wb_214 ⟨by decide, by decide⟩ (by first | exact hX.1.1 | exact hX.1.2.1 | exact hX.1.2.2.1 | exact hX.1.2.2.2 | exact hX.2.1.1 _ (by first | assumption | exact vp_in_clamp (x_inG hN (by assumption)) | exact vp_in_clamp (x_inD hN (by assumption)) | exact vp_in_clamp (x_inK hN (by assumption)) | exact vp_in_clamp (x_inR hN (by assumption)) | exact hI.rm (by first | assumption | exact vp_in_clamp (x_inG hN (by assumption))) | exact hI.lo (by first | assumption | exact vp_in_clamp (x_inD hN (by assumption))) | exact hI.hi (by first | assumption | exact vp_in_clamp (x_inD hN (by assumption)))) | exact hX.2.1.2.1 _ (by first | assumption | exact vp_in_clamp (x_inD hN (by assumption))) | exact hX.2.1.2.2.1 _ (by first | assumption | exact vp_in_clamp (x_inK hN (by assumption))) | exact hX.2.1.2.2.2 _ (by first | assumption | exact vp_in_clamp (x_inG hN (by assumption)))) rfl (hX) ⟨Nat.le_of_ble_eq_true rfl, Nat.le_of_ble_eq_true rfl⟩ (Nat.le_of_ble_eq_true rfl) dX5_addGroup_2 ?_
  refine z_ifnb_ne C 10 dX5_addGroup_5 (by decide) (fun h5 => ?_) (fun h5 => ?_)
  · refine z_iload_n C dX5_addGroup_10 rfl ?_
    refine z_iconst (v := 1) C dX5_addGroup_11 (by decide) ?_
    refine z_bipush (v := 24) C dX5_addGroup_12 (by decide) ?_
    refine z_callSR (As := [.int _, .int _, .int _]) C (c_X5_isBetween _ _ _ _ _) kc_X5_isBetween wb_240 ⟨by decide, by decide⟩ (trivial) ⟨Nat.le_of_ble_eq_true rfl, Nat.le_of_ble_eq_true rfl⟩ (Nat.le_of_ble_eq_true rfl) dX5_addGroup_14 ?_
    refine z_ifb_ne C 23 dX5_addGroup_17 (by decide) (fun h17 => ?_) (fun h17 => ?_)
    · have hrv := x_inR hN (r := r) (by assumption)
      have hrl : r.toNatClampNeg < nR := vp_in_clamp hrv
      refine z_aload_n C dX5_addGroup_23 rfl ?_
      refine z_get C (by first | exact hX.1.1 | exact hX.1.2.1 | exact hX.1.2.2.1 | exact hX.1.2.2.2 | exact hX.2.1.1 _ (by first | assumption | exact vp_in_clamp (x_inG hN (by assumption)) | exact vp_in_clamp (x_inD hN (by assumption)) | exact vp_in_clamp (x_inK hN (by assumption)) | exact vp_in_clamp (x_inR hN (by assumption)) | exact hI.rm (by first | assumption | exact vp_in_clamp (x_inG hN (by assumption))) | exact hI.lo (by first | assumption | exact vp_in_clamp (x_inD hN (by assumption))) | exact hI.hi (by first | assumption | exact vp_in_clamp (x_inD hN (by assumption)))) | exact hX.2.1.2.1 _ (by first | assumption | exact vp_in_clamp (x_inD hN (by assumption))) | exact hX.2.1.2.2.1 _ (by first | assumption | exact vp_in_clamp (x_inK hN (by assumption))) | exact hX.2.1.2.2.2 _ (by first | assumption | exact vp_in_clamp (x_inG hN (by assumption)))) z_cls6 hu_X5 3 (by decide) wb_97 rfl rfl dX5_addGroup_24 ?_
      refine k_size C (by first | exact hX.2.2.1.1 | exact hX.2.2.1.2.1 | exact hX.2.2.1.2.2.1 | exact hX.2.2.1.2.2.2) wb_129 ⟨by decide, by decide⟩ ⟨Nat.le_of_ble_eq_true rfl, Nat.le_of_ble_eq_true rfl⟩ (Nat.le_of_ble_eq_true rfl) dX5_addGroup_27 ?_
      refine z_istore_n C dX5_addGroup_30 (by decide) ?_
      refine z_aload_n C dX5_addGroup_31 rfl ?_
      refine z_iconst (v := 0) C dX5_addGroup_32 (by decide) ?_
      refine z_callVR (As := [.int _]) C (c_X5_playersThat _ _ ad M T hI _) kc_X5_playersThat wb_356 ⟨by decide, by decide⟩ (by first | exact hX.1.1 | exact hX.1.2.1 | exact hX.1.2.2.1 | exact hX.1.2.2.2 | exact hX.2.1.1 _ (by first | assumption | exact vp_in_clamp (x_inG hN (by assumption)) | exact vp_in_clamp (x_inD hN (by assumption)) | exact vp_in_clamp (x_inK hN (by assumption)) | exact vp_in_clamp (x_inR hN (by assumption)) | exact hI.rm (by first | assumption | exact vp_in_clamp (x_inG hN (by assumption))) | exact hI.lo (by first | assumption | exact vp_in_clamp (x_inD hN (by assumption))) | exact hI.hi (by first | assumption | exact vp_in_clamp (x_inD hN (by assumption)))) | exact hX.2.1.2.1 _ (by first | assumption | exact vp_in_clamp (x_inD hN (by assumption))) | exact hX.2.1.2.2.1 _ (by first | assumption | exact vp_in_clamp (x_inK hN (by assumption))) | exact hX.2.1.2.2.2 _ (by first | assumption | exact vp_in_clamp (x_inG hN (by assumption)))) rfl (hX) ⟨Nat.le_of_ble_eq_true rfl, Nat.le_of_ble_eq_true rfl⟩ (Nat.le_of_ble_eq_true rfl) dX5_addGroup_33 ?_
      refine z_aload_n C dX5_addGroup_36 rfl ?_
      refine z_iconst (v := 1) C dX5_addGroup_37 (by decide) ?_
      refine z_callVR (As := [.int _]) C (c_X5_playersThat _ _ ad M T hI _) kc_X5_playersThat wb_356 ⟨by decide, by decide⟩ (by first | exact hX.1.1 | exact hX.1.2.1 | exact hX.1.2.2.1 | exact hX.1.2.2.2 | exact hX.2.1.1 _ (by first | assumption | exact vp_in_clamp (x_inG hN (by assumption)) | exact vp_in_clamp (x_inD hN (by assumption)) | exact vp_in_clamp (x_inK hN (by assumption)) | exact vp_in_clamp (x_inR hN (by assumption)) | exact hI.rm (by first | assumption | exact vp_in_clamp (x_inG hN (by assumption))) | exact hI.lo (by first | assumption | exact vp_in_clamp (x_inD hN (by assumption))) | exact hI.hi (by first | assumption | exact vp_in_clamp (x_inD hN (by assumption)))) | exact hX.2.1.2.1 _ (by first | assumption | exact vp_in_clamp (x_inD hN (by assumption))) | exact hX.2.1.2.2.1 _ (by first | assumption | exact vp_in_clamp (x_inK hN (by assumption))) | exact hX.2.1.2.2.2 _ (by first | assumption | exact vp_in_clamp (x_inG hN (by assumption)))) rfl (hX) ⟨Nat.le_of_ble_eq_true rfl, Nat.le_of_ble_eq_true rfl⟩ (Nat.le_of_ble_eq_true rfl) dX5_addGroup_38 ?_
      refine z_iadd C dX5_addGroup_41 ?_
      refine z_eqst (st2 := [.int (m_players M nG)]) (by rw [← m_players_2 hI]) ?_
      refine z_istore C dX5_addGroup_42 (by decide) ?_
      refine z_iload_n C dX5_addGroup_44 rfl ?_
      refine z_bipush (v := 6) C dX5_addGroup_45 (by decide) ?_
      refine z_icmp_ge C 59 dX5_addGroup_47 (by decide) (fun h47 => ?_) (fun h47 => ?_)
      · have hfull : M.1 14 = 6 := by
          rw [hN.2.2.2.1]
          exact x_max (K := 6) hG6 (by omega) h47
        refine z_bipush (v := (-3)) C dX5_addGroup_59 (by decide) ?_
        exact z_iret C (by omega) (by omega) dX5_addGroup_61 (by first | contradiction | exact x_ans (by simp [F_addGroup, *]; done) (x_Gr.same hX hI))
      · have hls := x_less (K := 6) hG6 (by omega) h47
        have hnf : ¬ M.1 14 = 6 := by
          rw [hN.2.2.2.1]
          exact hls.2
        refine z_iload C dX5_addGroup_50 rfl ?_
        refine z_iload_n C dX5_addGroup_52 rfl ?_
        refine z_iadd C dX5_addGroup_53 ?_
        refine z_bipush (v := 24) C dX5_addGroup_54 (by decide) ?_
        refine z_icmp_le C 62 dX5_addGroup_56 (by decide) (fun h56 => ?_) (fun h56 => ?_)
        · refine z_aload_n C dX5_addGroup_62 rfl ?_
          refine z_get C (by first | exact hX.1.1 | exact hX.1.2.1 | exact hX.1.2.2.1 | exact hX.1.2.2.2 | exact hX.2.1.1 _ (by first | assumption | exact vp_in_clamp (x_inG hN (by assumption)) | exact vp_in_clamp (x_inD hN (by assumption)) | exact vp_in_clamp (x_inK hN (by assumption)) | exact vp_in_clamp (x_inR hN (by assumption)) | exact hI.rm (by first | assumption | exact vp_in_clamp (x_inG hN (by assumption))) | exact hI.lo (by first | assumption | exact vp_in_clamp (x_inD hN (by assumption))) | exact hI.hi (by first | assumption | exact vp_in_clamp (x_inD hN (by assumption)))) | exact hX.2.1.2.1 _ (by first | assumption | exact vp_in_clamp (x_inD hN (by assumption))) | exact hX.2.1.2.2.1 _ (by first | assumption | exact vp_in_clamp (x_inK hN (by assumption))) | exact hX.2.1.2.2.2 _ (by first | assumption | exact vp_in_clamp (x_inG hN (by assumption)))) z_cls6 hu_X5 3 (by decide) wb_97 rfl rfl dX5_addGroup_63 ?_
          refine z_new (fs := nf_2) C z_cls2 hu_X1 wb_360 wb_361 wb_16 nw_2 (Nat.le_of_ble_eq_true rfl) (Nat.le_of_ble_eq_true rfl) dX5_addGroup_66 (fun q66 H66 hN66 => ?_)
          have hX0 := hX
          have hX := hX.kept hN66.2.2.2
          have hq66 : s.heap.size ≤ q66 := by rw [hN66.1]; exact Nat.le_refl _
          refine z_dup C dX5_addGroup_69 rfl ?_
          refine z_iload_n C dX5_addGroup_70 rfl ?_
          refine z_iload_n C dX5_addGroup_71 rfl ?_
          refine z_aload_n C dX5_addGroup_72 rfl ?_
          refine z_get C (by first | exact hX.1.1 | exact hX.1.2.1 | exact hX.1.2.2.1 | exact hX.1.2.2.2 | exact hX.2.1.1 _ (by first | assumption | exact vp_in_clamp (x_inG hN (by assumption)) | exact vp_in_clamp (x_inD hN (by assumption)) | exact vp_in_clamp (x_inK hN (by assumption)) | exact vp_in_clamp (x_inR hN (by assumption)) | exact hI.rm (by first | assumption | exact vp_in_clamp (x_inG hN (by assumption))) | exact hI.lo (by first | assumption | exact vp_in_clamp (x_inD hN (by assumption))) | exact hI.hi (by first | assumption | exact vp_in_clamp (x_inD hN (by assumption)))) | exact hX.2.1.2.1 _ (by first | assumption | exact vp_in_clamp (x_inD hN (by assumption))) | exact hX.2.1.2.2.1 _ (by first | assumption | exact vp_in_clamp (x_inK hN (by assumption))) | exact hX.2.1.2.2.2 _ (by first | assumption | exact vp_in_clamp (x_inG hN (by assumption)))) z_cls6 hu_X5 0 (by decide) wb_94 rfl rfl dX5_addGroup_73 ?_
          refine z_iload_n C dX5_addGroup_76 rfl ?_
          refine k_get C (by first | exact hX.2.2.1.1 | exact hX.2.2.1.2.1 | exact hX.2.2.1.2.2.1 | exact hX.2.2.1.2.2.2) (by first | assumption | exact x_inG hN (by assumption) | exact x_inD hN (by assumption) | exact x_inK hN (by assumption) | exact x_inR hN (by assumption)) (by omega) (by first | exact hcli | rfl) wb_222 ⟨by decide, by decide⟩ ⟨Nat.le_of_ble_eq_true rfl, Nat.le_of_ble_eq_true rfl⟩ (Nat.le_of_ble_eq_true rfl) dX5_addGroup_77 ?_
          refine z_cast (q := (RX4, TX4, 3)) C (by first | exact hX.1.1 | exact hX.1.2.1 | exact hX.1.2.2.1 | exact hX.1.2.2.2 | exact hX.2.1.1 _ (by first | assumption | exact vp_in_clamp (x_inG hN (by assumption)) | exact vp_in_clamp (x_inD hN (by assumption)) | exact vp_in_clamp (x_inK hN (by assumption)) | exact vp_in_clamp (x_inR hN (by assumption)) | exact hI.rm (by first | assumption | exact vp_in_clamp (x_inG hN (by assumption))) | exact hI.lo (by first | assumption | exact vp_in_clamp (x_inD hN (by assumption))) | exact hI.hi (by first | assumption | exact vp_in_clamp (x_inD hN (by assumption)))) | exact hX.2.1.2.1 _ (by first | assumption | exact vp_in_clamp (x_inD hN (by assumption))) | exact hX.2.1.2.2.1 _ (by first | assumption | exact vp_in_clamp (x_inK hN (by assumption))) | exact hX.2.1.2.2.2 _ (by first | assumption | exact vp_in_clamp (x_inG hN (by assumption)))) rfl wb_133 dX5_addGroup_80 ?_
          refine z_iconst (v := 0) C dX5_addGroup_83 (by decide) ?_
          refine z_callI (As := [.int _, .int _, .ref _, .int _]) C (c_X1_init _ _ q66 _ _ _ _ _ _ _ _ _ none) kc_X1_init wb_362 ⟨by decide, by decide⟩ (hN66.2.1) (fun z hz => by rw [hz]; exact Or.inr hq66) ⟨Nat.le_of_ble_eq_true rfl, Nat.le_of_ble_eq_true rfl⟩ (Nat.le_of_ble_eq_true rfl) dX5_addGroup_84 (fun v H84 hq _ _ => ?_)
          obtain ⟨rfl, hU84⟩ := hq
          have hs87 := hX0.side hO (k := 3) (by omega) (a := q66) (by rw [hN66.1]; exact Nat.le_refl _)
          have hp87 := hX0.pre hE (k := 3) (by omega) hN66 hU84
          obtain ⟨fsL, hLo⟩ := hp87.2.1.obj
          have hz87 : s.heap.size ≤ Array.size H84 := by rw [hU84.2.1, hN66.2.2.1]; have := Nat.le_refl s.heap.size; omega
          refine z_callV (As := [.ref _]) C (c_Jx4a65c_add_9ea2d _ _ (ad 4 4) (ad 4 8) nG q66 2 _ (ad 3) _ (by omega) hs87.1 hs87.2.1 hs87.2.2.1 hs87.2.2.2.1 hs87.2.2.2.2 (RX1, TX1, 6) rfl (fun u hu => hu.2.1.2.1)) kc_Jx4a65c_add_9ea2d wb_155 ⟨by decide, by decide⟩ hLo rfl hp87 (x_A3 (k := 3) (by omega) hz87) ⟨Nat.le_of_ble_eq_true rfl, Nat.le_of_ble_eq_true rfl⟩ (Nat.le_of_ble_eq_true rfl) dX5_addGroup_87 (fun v H87 hq hsz87 hfr87 => ?_)
          obtain ⟨rfl, aE, hL87, hor87⟩ := hq
          have hSt := hX0.added (k := 3) (by omega) hN66 hU84 hfr87 hL87 hor87
          refine z_pop C dX5_addGroup_90 rfl ?_
          refine z_iload_n C dX5_addGroup_91 rfl ?_
          exact z_iret C (by omega) (by omega) dX5_addGroup_92 (by have hrn : nI r.toNatClampNeg = r := nI_of_clamp hrv (by omega); have hc1 : ¬ m_no r (M.1 0) = true := (by simp [*]); have hc2 : ¬ (!(m_in z 1 24)) = true := (by simp [*]); have hc3 : ¬ (decide (M.1 14 = 6) || decide (24 < m_players M nG + z)) = true := (by simp [*]); exact x_ans (by unfold F_addGroup; rw [if_neg hc1, if_neg hc2, if_neg hc3]; exact Prod.ext (x_pm.trans hN.2.2.2.1) (by show (F_putGroup M z r 0).2 = (F_putGroup M z (nI r.toNatClampNeg) (nI 0)).2; rw [hrn]; rfl)) (x_Gr.group (t := 0) hX0 hI hls.1 (Nat.le_refl _) hrl (by omega) hSt.1 hSt.2))
        · refine z_bipush (v := (-3)) C dX5_addGroup_59 (by decide) ?_
          exact z_iret C (by omega) (by omega) dX5_addGroup_61 (by first | contradiction | exact x_ans (by simp [F_addGroup, *]; done) (x_Gr.same hX hI))
    · refine z_bipush (v := (-2)) C dX5_addGroup_20 (by decide) ?_
      exact z_iret C (by omega) (by omega) dX5_addGroup_22 (by first | contradiction | exact x_ans (by simp [F_addGroup, *]; done) (x_Gr.same hX hI))
  · refine z_iconst (v := (-1)) C dX5_addGroup_8 (by decide) ?_
    exact z_iret C (by omega) (by omega) dX5_addGroup_9 (by first | contradiction | exact x_ans (by simp [F_addGroup, *]; done) (x_Gr.same hX hI))

set_option maxHeartbeats 4000000 in
set_option maxRecDepth 100000 in
theorem c_X5_part (l : Launch) (G : z_G) (ad : Nat → Nat → Nat) (M : m_S) (T : x_T) {nR nD nK nG : Nat} (hI : m_I nR nD nK nG M) (sz : Nat) (hO : x_out G ad nR nD nK nG) (g z : Int32) : z_M l yX5_part cX5_part 5 (some .int) 7 2 34 [.ref (ad 4 0), .int g, .int z] G (fun H => H.size = sz ∧ x_R G ad nR nD nK nG M T H ∧ z_Es G H) (fun q => x_A ad nR nD nK nG q ∨ sz ≤ q) (fun v H H1 => v = some (.int (F_part M g z).1) ∧ x_Gr G ad nR nD nK nG sz T (F_part M g z).2 H1) := by
  refine z_M.of (by decide +kernel) (Nat.le_of_ble_eq_true rfl) ?_
  intro p e s m below meth c C hP
  obtain ⟨rfl, hX, hE⟩ := hP
  have hN := hI.1
  have hR12 := hN.1.2; have hD16 := hN.2.1.2; have hK16 := hN.2.2.1.2; have hG6 := hN.2.2.2.2
  refine z_aload_n C dX5_part_0 rfl ?_
  refine z_iload_n C dX5_part_1 rfl ?_
  refine z_callVR (As := [.int _]) C (c_X5_isGroup _ _ ad M T hI _) kc_X5_isGroup wb_399 ⟨by decide, by decide⟩ (by first | exact hX.1.1 | exact hX.1.2.1 | exact hX.1.2.2.1 | exact hX.1.2.2.2 | exact hX.2.1.1 _ (by first | assumption | exact vp_in_clamp (x_inG hN (by assumption)) | exact vp_in_clamp (x_inD hN (by assumption)) | exact vp_in_clamp (x_inK hN (by assumption)) | exact vp_in_clamp (x_inR hN (by assumption)) | exact hI.rm (by first | assumption | exact vp_in_clamp (x_inG hN (by assumption))) | exact hI.lo (by first | assumption | exact vp_in_clamp (x_inD hN (by assumption))) | exact hI.hi (by first | assumption | exact vp_in_clamp (x_inD hN (by assumption)))) | exact hX.2.1.2.1 _ (by first | assumption | exact vp_in_clamp (x_inD hN (by assumption))) | exact hX.2.1.2.2.1 _ (by first | assumption | exact vp_in_clamp (x_inK hN (by assumption))) | exact hX.2.1.2.2.2 _ (by first | assumption | exact vp_in_clamp (x_inG hN (by assumption)))) rfl (hX) ⟨Nat.le_of_ble_eq_true rfl, Nat.le_of_ble_eq_true rfl⟩ (Nat.le_of_ble_eq_true rfl) dX5_part_2 ?_
  refine z_ifnb_ne C 10 dX5_part_5 (by decide) (fun h5 => ?_) (fun h5 => ?_)
  · refine z_iload_n C dX5_part_10 rfl ?_
    refine z_iconst (v := 1) C dX5_part_11 (by decide) ?_
    refine z_bipush (v := 23) C dX5_part_12 (by decide) ?_
    refine z_callSR (As := [.int _, .int _, .int _]) C (c_X5_isBetween _ _ _ _ _) kc_X5_isBetween wb_240 ⟨by decide, by decide⟩ (trivial) ⟨Nat.le_of_ble_eq_true rfl, Nat.le_of_ble_eq_true rfl⟩ (Nat.le_of_ble_eq_true rfl) dX5_part_14 ?_
    refine z_ifb_ne C 23 dX5_part_17 (by decide) (fun h17 => ?_) (fun h17 => ?_)
    · have hgv := x_inG hN (r := g) (by assumption)
      have hgl : g.toNatClampNeg < nG := vp_in_clamp hgv
      have hgn : nI g.toNatClampNeg = g := nI_of_clamp hgv (by omega)
      refine z_aload_n C dX5_part_23 rfl ?_
      refine z_get C (by first | exact hX.1.1 | exact hX.1.2.1 | exact hX.1.2.2.1 | exact hX.1.2.2.2 | exact hX.2.1.1 _ (by first | assumption | exact vp_in_clamp (x_inG hN (by assumption)) | exact vp_in_clamp (x_inD hN (by assumption)) | exact vp_in_clamp (x_inK hN (by assumption)) | exact vp_in_clamp (x_inR hN (by assumption)) | exact hI.rm (by first | assumption | exact vp_in_clamp (x_inG hN (by assumption))) | exact hI.lo (by first | assumption | exact vp_in_clamp (x_inD hN (by assumption))) | exact hI.hi (by first | assumption | exact vp_in_clamp (x_inD hN (by assumption)))) | exact hX.2.1.2.1 _ (by first | assumption | exact vp_in_clamp (x_inD hN (by assumption))) | exact hX.2.1.2.2.1 _ (by first | assumption | exact vp_in_clamp (x_inK hN (by assumption))) | exact hX.2.1.2.2.2 _ (by first | assumption | exact vp_in_clamp (x_inG hN (by assumption)))) z_cls6 hu_X5 3 (by decide) wb_97 rfl rfl dX5_part_24 ?_
      refine z_iload_n C dX5_part_27 rfl ?_
      refine k_get C (by first | exact hX.2.2.1.1 | exact hX.2.2.1.2.1 | exact hX.2.2.1.2.2.1 | exact hX.2.2.1.2.2.2) (by first | assumption | exact x_inG hN (by assumption) | exact x_inD hN (by assumption) | exact x_inK hN (by assumption) | exact x_inR hN (by assumption)) (by omega) (by first | exact hcli | rfl) wb_222 ⟨by decide, by decide⟩ ⟨Nat.le_of_ble_eq_true rfl, Nat.le_of_ble_eq_true rfl⟩ (Nat.le_of_ble_eq_true rfl) dX5_part_28 ?_
      refine z_cast (q := (RX1, TX1, 6)) C (by first | exact hX.1.1 | exact hX.1.2.1 | exact hX.1.2.2.1 | exact hX.1.2.2.2 | exact hX.2.1.1 _ (by first | assumption | exact vp_in_clamp (x_inG hN (by assumption)) | exact vp_in_clamp (x_inD hN (by assumption)) | exact vp_in_clamp (x_inK hN (by assumption)) | exact vp_in_clamp (x_inR hN (by assumption)) | exact hI.rm (by first | assumption | exact vp_in_clamp (x_inG hN (by assumption))) | exact hI.lo (by first | assumption | exact vp_in_clamp (x_inD hN (by assumption))) | exact hI.hi (by first | assumption | exact vp_in_clamp (x_inD hN (by assumption)))) | exact hX.2.1.2.1 _ (by first | assumption | exact vp_in_clamp (x_inD hN (by assumption))) | exact hX.2.1.2.2.1 _ (by first | assumption | exact vp_in_clamp (x_inK hN (by assumption))) | exact hX.2.1.2.2.2 _ (by first | assumption | exact vp_in_clamp (x_inG hN (by assumption)))) rfl wb_360 dX5_part_31 ?_
      refine z_astore_n C dX5_part_34 (by decide) ?_
      refine z_aload_n C dX5_part_35 rfl ?_
      refine z_callVR (As := []) C (c_X1_isInPlay _ _ _ _ _ _ _ _ _) kc_X1_isInPlay wb_407 ⟨by decide, by decide⟩ (by first | exact hX.1.1 | exact hX.1.2.1 | exact hX.1.2.2.1 | exact hX.1.2.2.2 | exact hX.2.1.1 _ (by first | assumption | exact vp_in_clamp (x_inG hN (by assumption)) | exact vp_in_clamp (x_inD hN (by assumption)) | exact vp_in_clamp (x_inK hN (by assumption)) | exact vp_in_clamp (x_inR hN (by assumption)) | exact hI.rm (by first | assumption | exact vp_in_clamp (x_inG hN (by assumption))) | exact hI.lo (by first | assumption | exact vp_in_clamp (x_inD hN (by assumption))) | exact hI.hi (by first | assumption | exact vp_in_clamp (x_inD hN (by assumption)))) | exact hX.2.1.2.1 _ (by first | assumption | exact vp_in_clamp (x_inD hN (by assumption))) | exact hX.2.1.2.2.1 _ (by first | assumption | exact vp_in_clamp (x_inK hN (by assumption))) | exact hX.2.1.2.2.2 _ (by first | assumption | exact vp_in_clamp (x_inG hN (by assumption)))) rfl (by first | exact hX.1.1 | exact hX.1.2.1 | exact hX.1.2.2.1 | exact hX.1.2.2.2 | exact hX.2.1.1 _ (by first | assumption | exact vp_in_clamp (x_inG hN (by assumption)) | exact vp_in_clamp (x_inD hN (by assumption)) | exact vp_in_clamp (x_inK hN (by assumption)) | exact vp_in_clamp (x_inR hN (by assumption)) | exact hI.rm (by first | assumption | exact vp_in_clamp (x_inG hN (by assumption))) | exact hI.lo (by first | assumption | exact vp_in_clamp (x_inD hN (by assumption))) | exact hI.hi (by first | assumption | exact vp_in_clamp (x_inD hN (by assumption)))) | exact hX.2.1.2.1 _ (by first | assumption | exact vp_in_clamp (x_inD hN (by assumption))) | exact hX.2.1.2.2.1 _ (by first | assumption | exact vp_in_clamp (x_inK hN (by assumption))) | exact hX.2.1.2.2.2 _ (by first | assumption | exact vp_in_clamp (x_inG hN (by assumption)))) ⟨Nat.le_of_ble_eq_true rfl, Nat.le_of_ble_eq_true rfl⟩ (Nat.le_of_ble_eq_true rfl) dX5_part_36 ?_
      refine z_ifb_eq C 50 dX5_part_39 (by decide) (fun h39 => ?_) (fun h39 => ?_)
      · refine z_bipush (v := (-4)) C dX5_part_50 (by decide) ?_
        exact z_iret C (by omega) (by omega) dX5_part_52 (by first | contradiction | exact x_ans (by simp [F_part, m_pl, *]; done) (x_Gr.same hX hI))
      · refine z_aload_n C dX5_part_42 rfl ?_
        refine z_get C (by first | exact hX.1.1 | exact hX.1.2.1 | exact hX.1.2.2.1 | exact hX.1.2.2.2 | exact hX.2.1.1 _ (by first | assumption | exact vp_in_clamp (x_inG hN (by assumption)) | exact vp_in_clamp (x_inD hN (by assumption)) | exact vp_in_clamp (x_inK hN (by assumption)) | exact vp_in_clamp (x_inR hN (by assumption)) | exact hI.rm (by first | assumption | exact vp_in_clamp (x_inG hN (by assumption))) | exact hI.lo (by first | assumption | exact vp_in_clamp (x_inD hN (by assumption))) | exact hI.hi (by first | assumption | exact vp_in_clamp (x_inD hN (by assumption)))) | exact hX.2.1.2.1 _ (by first | assumption | exact vp_in_clamp (x_inD hN (by assumption))) | exact hX.2.1.2.2.1 _ (by first | assumption | exact vp_in_clamp (x_inK hN (by assumption))) | exact hX.2.1.2.2.2 _ (by first | assumption | exact vp_in_clamp (x_inG hN (by assumption)))) z_cls2 hu_X1 1 (by decide) wb_369 rfl rfl dX5_part_43 ?_
        refine z_iload_n C dX5_part_46 rfl ?_
        refine z_icmp_gt C 53 dX5_part_47 (by decide) (fun h47 => ?_) (fun h47 => ?_)
        · have hc1 : ¬ m_no g (M.1 14) = true := by simp [*]
          have hc2 : ¬ (!(m_in z 1 23)) = true := by simp [*]
          have hc3 : ¬ (!(m_pl M g) || !(decide (z < M.2 15 g.toNatClampNeg))) = true := by simp [m_pl, *]
          refine z_aload_n C dX5_part_53 rfl ?_
          refine z_get C (by first | exact hX.1.1 | exact hX.1.2.1 | exact hX.1.2.2.1 | exact hX.1.2.2.2 | exact hX.2.1.1 _ (by first | assumption | exact vp_in_clamp (x_inG hN (by assumption)) | exact vp_in_clamp (x_inD hN (by assumption)) | exact vp_in_clamp (x_inK hN (by assumption)) | exact vp_in_clamp (x_inR hN (by assumption)) | exact hI.rm (by first | assumption | exact vp_in_clamp (x_inG hN (by assumption))) | exact hI.lo (by first | assumption | exact vp_in_clamp (x_inD hN (by assumption))) | exact hI.hi (by first | assumption | exact vp_in_clamp (x_inD hN (by assumption)))) | exact hX.2.1.2.1 _ (by first | assumption | exact vp_in_clamp (x_inD hN (by assumption))) | exact hX.2.1.2.2.1 _ (by first | assumption | exact vp_in_clamp (x_inK hN (by assumption))) | exact hX.2.1.2.2.2 _ (by first | assumption | exact vp_in_clamp (x_inG hN (by assumption)))) z_cls6 hu_X5 3 (by decide) wb_97 rfl rfl dX5_part_54 ?_
          refine k_size C (by first | exact hX.2.2.1.1 | exact hX.2.2.1.2.1 | exact hX.2.2.1.2.2.1 | exact hX.2.2.1.2.2.2) wb_129 ⟨by decide, by decide⟩ ⟨Nat.le_of_ble_eq_true rfl, Nat.le_of_ble_eq_true rfl⟩ (Nat.le_of_ble_eq_true rfl) dX5_part_57 ?_
          refine z_istore C dX5_part_60 (by decide) ?_
          refine z_iload C dX5_part_62 rfl ?_
          refine z_bipush (v := 6) C dX5_part_64 (by decide) ?_
          refine z_icmp_lt C 72 dX5_part_66 (by decide) (fun h66 => ?_) (fun h66 => ?_)
          · have hls := x_less (K := 6) hG6 (by omega) h66
            have hnf : ¬ M.1 14 = 6 := by
              rw [hN.2.2.2.1]
              exact hls.2
            have hst : M.2 19 g.toNatClampNeg = 0 := of_decide_eq_true h39
            refine z_aload_n C dX5_part_72 rfl ?_
            refine z_dup C dX5_part_73 rfl ?_
            refine z_get C (by first | exact hX.1.1 | exact hX.1.2.1 | exact hX.1.2.2.1 | exact hX.1.2.2.2 | exact hX.2.1.1 _ (by first | assumption | exact vp_in_clamp (x_inG hN (by assumption)) | exact vp_in_clamp (x_inD hN (by assumption)) | exact vp_in_clamp (x_inK hN (by assumption)) | exact vp_in_clamp (x_inR hN (by assumption)) | exact hI.rm (by first | assumption | exact vp_in_clamp (x_inG hN (by assumption))) | exact hI.lo (by first | assumption | exact vp_in_clamp (x_inD hN (by assumption))) | exact hI.hi (by first | assumption | exact vp_in_clamp (x_inD hN (by assumption)))) | exact hX.2.1.2.1 _ (by first | assumption | exact vp_in_clamp (x_inD hN (by assumption))) | exact hX.2.1.2.2.1 _ (by first | assumption | exact vp_in_clamp (x_inK hN (by assumption))) | exact hX.2.1.2.2.2 _ (by first | assumption | exact vp_in_clamp (x_inG hN (by assumption)))) z_cls2 hu_X1 1 (by decide) wb_369 rfl rfl dX5_part_74 ?_
            refine z_iload_n C dX5_part_77 rfl ?_
            refine z_isub C dX5_part_78 ?_
            refine z_put C (by first | exact hX.1.1 | exact hX.1.2.1 | exact hX.1.2.2.1 | exact hX.1.2.2.2 | exact hX.2.1.1 _ (by first | assumption | exact vp_in_clamp (x_inG hN (by assumption)) | exact vp_in_clamp (x_inD hN (by assumption)) | exact vp_in_clamp (x_inK hN (by assumption)) | exact vp_in_clamp (x_inR hN (by assumption)) | exact hI.rm (by first | assumption | exact vp_in_clamp (x_inG hN (by assumption))) | exact hI.lo (by first | assumption | exact vp_in_clamp (x_inD hN (by assumption))) | exact hI.hi (by first | assumption | exact vp_in_clamp (x_inD hN (by assumption)))) | exact hX.2.1.2.1 _ (by first | assumption | exact vp_in_clamp (x_inD hN (by assumption))) | exact hX.2.1.2.2.1 _ (by first | assumption | exact vp_in_clamp (x_inK hN (by assumption))) | exact hX.2.1.2.2.2 _ (by first | assumption | exact vp_in_clamp (x_inG hN (by assumption)))) z_cls2 hu_X1 (by exact Or.inl ⟨_, _, by unfold x_in; omega, rfl⟩) 1 (by decide) wb_369 rfl rfl (by rfl) (by rfl) (Nat.le_of_ble_eq_true rfl) dX5_part_79 (fun H79 hU79 => ?_)
            have hX := hX.g15 hgl hU79
            have hI1 := hI.g15 (v := M.2 15 g.toNatClampNeg - z) hgl (Or.inl (by rw [hst]; decide))
            have hx3 : x_in nR nD nK nG 3 g.toNatClampNeg := by unfold x_in; omega
            have hE79 : z_Es G H79 := hE.kept (hU79.2.2 _ (hO _ _ hx3).2.symm) (hU79.2.2 _ (hO _ _ hx3).1.symm)
            generalize hM1 : m_sA M 15 g.toNatClampNeg (M.2 15 g.toNatClampNeg - z) = M1 at hX hI1
            have e16 : M1.2 16 = M.2 16 := by rw [← hM1]; exact m_sA_arr (by omega)
            have e17 : M1.2 17 = M.2 17 := by rw [← hM1]; exact m_sA_arr (by omega)
            refine z_aload_n C dX5_part_82 rfl ?_
            refine z_get C (by first | exact hX.1.1 | exact hX.1.2.1 | exact hX.1.2.2.1 | exact hX.1.2.2.2 | exact hX.2.1.1 _ (by first | assumption | exact vp_in_clamp (x_inG hN (by assumption)) | exact vp_in_clamp (x_inD hN (by assumption)) | exact vp_in_clamp (x_inK hN (by assumption)) | exact vp_in_clamp (x_inR hN (by assumption)) | exact hI.rm (by first | assumption | exact vp_in_clamp (x_inG hN (by assumption))) | exact hI.lo (by first | assumption | exact vp_in_clamp (x_inD hN (by assumption))) | exact hI.hi (by first | assumption | exact vp_in_clamp (x_inD hN (by assumption)))) | exact hX.2.1.2.1 _ (by first | assumption | exact vp_in_clamp (x_inD hN (by assumption))) | exact hX.2.1.2.2.1 _ (by first | assumption | exact vp_in_clamp (x_inK hN (by assumption))) | exact hX.2.1.2.2.2 _ (by first | assumption | exact vp_in_clamp (x_inG hN (by assumption)))) z_cls6 hu_X5 3 (by decide) wb_97 rfl rfl dX5_part_83 ?_
            refine z_new (fs := nf_2) C z_cls2 hu_X1 wb_360 wb_361 wb_16 nw_2 (Nat.le_of_ble_eq_true rfl) (Nat.le_of_ble_eq_true rfl) dX5_part_86 (fun q86 H86 hN86 => ?_)
            have hX0 := hX
            have hX := hX.kept hN86.2.2.2
            have hq86 : s.heap.size ≤ q86 := by rw [hN86.1, hU79.2.1]; exact Nat.le_refl _
            refine z_dup C dX5_part_89 rfl ?_
            refine z_iload C dX5_part_90 rfl ?_
            refine z_iload_n C dX5_part_92 rfl ?_
            refine z_aload_n C dX5_part_93 rfl ?_
            refine z_get C (by first | exact hX.1.1 | exact hX.1.2.1 | exact hX.1.2.2.1 | exact hX.1.2.2.2 | exact hX.2.1.1 _ (by first | assumption | exact vp_in_clamp (x_inG hN (by assumption)) | exact vp_in_clamp (x_inD hN (by assumption)) | exact vp_in_clamp (x_inK hN (by assumption)) | exact vp_in_clamp (x_inR hN (by assumption)) | exact hI.rm (by first | assumption | exact vp_in_clamp (x_inG hN (by assumption))) | exact hI.lo (by first | assumption | exact vp_in_clamp (x_inD hN (by assumption))) | exact hI.hi (by first | assumption | exact vp_in_clamp (x_inD hN (by assumption)))) | exact hX.2.1.2.1 _ (by first | assumption | exact vp_in_clamp (x_inD hN (by assumption))) | exact hX.2.1.2.2.1 _ (by first | assumption | exact vp_in_clamp (x_inK hN (by assumption))) | exact hX.2.1.2.2.2 _ (by first | assumption | exact vp_in_clamp (x_inG hN (by assumption)))) z_cls2 hu_X1 2 (by decide) wb_372 rfl rfl dX5_part_94 ?_
            refine z_aload_n C dX5_part_97 rfl ?_
            refine z_get C (by first | exact hX.1.1 | exact hX.1.2.1 | exact hX.1.2.2.1 | exact hX.1.2.2.2 | exact hX.2.1.1 _ (by first | assumption | exact vp_in_clamp (x_inG hN (by assumption)) | exact vp_in_clamp (x_inD hN (by assumption)) | exact vp_in_clamp (x_inK hN (by assumption)) | exact vp_in_clamp (x_inR hN (by assumption)) | exact hI.rm (by first | assumption | exact vp_in_clamp (x_inG hN (by assumption))) | exact hI.lo (by first | assumption | exact vp_in_clamp (x_inD hN (by assumption))) | exact hI.hi (by first | assumption | exact vp_in_clamp (x_inD hN (by assumption)))) | exact hX.2.1.2.1 _ (by first | assumption | exact vp_in_clamp (x_inD hN (by assumption))) | exact hX.2.1.2.2.1 _ (by first | assumption | exact vp_in_clamp (x_inK hN (by assumption))) | exact hX.2.1.2.2.2 _ (by first | assumption | exact vp_in_clamp (x_inG hN (by assumption)))) z_cls2 hu_X1 3 (by decide) wb_374 rfl rfl dX5_part_98 ?_
            refine z_callI (As := [.int _, .int _, .ref _, .int _]) C (c_X1_init _ _ q86 _ _ _ _ _ _ _ _ _ none) kc_X1_init wb_362 ⟨by decide, by decide⟩ (hN86.2.1) (fun z hz => by rw [hz]; exact Or.inr hq86) ⟨Nat.le_of_ble_eq_true rfl, Nat.le_of_ble_eq_true rfl⟩ (Nat.le_of_ble_eq_true rfl) dX5_part_101 (fun v H101 hq _ _ => ?_)
            obtain ⟨rfl, hU101⟩ := hq
            have hs104 := hX0.side hO (k := 3) (by omega) (a := q86) (by show Array.size H79 ≤ q86; rw [hN86.1]; exact Nat.le_refl _)
            have hp104 := hX0.pre hE79 (k := 3) (by omega) hN86 hU101
            obtain ⟨fsL, hLo⟩ := hp104.2.1.obj
            have hz104 : s.heap.size ≤ Array.size H101 := by rw [hU101.2.1, hN86.2.2.1]; have := hU79.2.1; omega
            refine z_callV (As := [.ref _]) C (c_Jx4a65c_add_9ea2d _ _ (ad 4 4) (ad 4 8) nG q86 2 _ (ad 3) _ (by omega) hs104.1 hs104.2.1 hs104.2.2.1 hs104.2.2.2.1 hs104.2.2.2.2 (RX1, TX1, 6) rfl (fun u hu => hu.2.1.2.1)) kc_Jx4a65c_add_9ea2d wb_155 ⟨by decide, by decide⟩ hLo rfl hp104 (x_A3 (k := 3) (by omega) hz104) ⟨Nat.le_of_ble_eq_true rfl, Nat.le_of_ble_eq_true rfl⟩ (Nat.le_of_ble_eq_true rfl) dX5_part_104 (fun v H104 hq hsz104 hfr104 => ?_)
            obtain ⟨rfl, aE, hL104, hor104⟩ := hq
            have hSt := hX0.added (k := 3) (by omega) hN86 hU101 hfr104 hL104 hor104
            refine z_pop C dX5_part_107 rfl ?_
            refine z_iload C dX5_part_108 rfl ?_
            exact z_iret C (by omega) (by omega) dX5_part_110 (by obtain ⟨r, hr, er⟩ := hI1.room hgl; obtain ⟨t, ht, et⟩ := hI1.time hgl; have h5 := hSt.1; rw [er, et, nI_clamp (by omega)] at h5; exact x_ans (by unfold F_part; rw [if_neg hc1, if_neg hc2, if_neg hc3, if_neg hnf, hM1]; exact Prod.ext (x_pm.trans hI1.1.2.2.2.1) (by show (F_putGroup M1 z (M.2 16 g.toNatClampNeg) (M.2 17 g.toNatClampNeg)).2 = (F_putGroup M1 z (nI r) (nI t)).2; rw [← e16, ← e17, er, et])) (x_Gr.group hX0 hI1 hls.1 (Nat.le_of_eq hU79.2.1.symm) hr ht h5 hSt.2))
          · have hfull : M.1 14 = 6 := by
              rw [hN.2.2.2.1]
              exact x_max (K := 6) hG6 (by omega) h66
            refine z_bipush (v := (-3)) C dX5_part_69 (by decide) ?_
            exact z_iret C (by omega) (by omega) dX5_part_71 (by exact x_ans (by unfold F_part; rw [if_neg hc1, if_neg hc2, if_neg hc3, if_pos hfull]) (x_Gr.same hX hI))
        · refine z_bipush (v := (-4)) C dX5_part_50 (by decide) ?_
          exact z_iret C (by omega) (by omega) dX5_part_52 (by first | contradiction | exact x_ans (by simp [F_part, m_pl, *]; done) (x_Gr.same hX hI))
    · refine z_bipush (v := (-2)) C dX5_part_20 (by decide) ?_
      exact z_iret C (by omega) (by omega) dX5_part_22 (by first | contradiction | exact x_ans (by simp [F_part, m_pl, *]; done) (x_Gr.same hX hI))
  · refine z_iconst (v := (-1)) C dX5_part_8 (by decide) ?_
    exact z_iret C (by omega) (by omega) dX5_part_9 (by first | contradiction | exact x_ans (by simp [F_part, m_pl, *]; done) (x_Gr.same hX hI))

