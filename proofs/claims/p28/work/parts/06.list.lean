/-! a list of cells: its object at aL, its array at aE, n cells f -/
def x_L (G : z_G) (aL aE n : Nat) (f : Nat → Nat) (H : Heap) : Prop := ∃ mod : Int32, va_at G.1 vwCl (aL, .inr (0, [.int mod, .ref aE, .int (nI n)])) H ∧ ((n = 0 ∧ aE = G.2 5) ∨ ∃ (cap : Nat) (g : Nat → Option Nat), 1 ≤ n ∧ n ≤ cap ∧ cap ≤ 100 ∧ va_at G.1 vwCl (aE, .inl (G.2 3, cap, .inr (.inr (.inr (.inr g))))) H ∧ ∀ i, i < n → g i = some (f i))
theorem x_L.mono {G : z_G} {aL aE n : Nat} {f : Nat → Nat} {H H' : Heap} (h : x_L G aL aE n f H) (h1 : H'[aL]? = H[aL]?) (h2 : 0 < n → H'[aE]? = H[aE]?) : x_L G aL aE n f H' := by
  obtain ⟨mod, a, b⟩ := h
  refine ⟨mod, a.kept h1, b.imp id ?_⟩
  rintro ⟨cap, g, c1, c2, c3, c4, c5⟩
  exact ⟨cap, g, c1, c2, c3, c4.kept (h2 (by omega)), c5⟩
theorem vp_in_clamp {x : Int32} {n : Nat} (h : vp_in x n) : x.toNatClampNeg < n := Nat.not_le.mp fun q => h (Or.inr q)
theorem vp_in_lt {x : Int32} {n : Nat} (h : vp_in x n) (hn : n < 2 ^ 31) : ¬ x < 0 ∧ x < nI n := by
  obtain ⟨j, hj, rfl⟩ := vp_in_of h hn
  exact ⟨nI_pos (by omega), nI_lt hj hn⟩

set_option maxHeartbeats 4000000 in
set_option maxRecDepth 100000 in
theorem c_Jx4a65c_size_8abf5 (l : Launch) (G : z_G) (aL aE n : Nat) (f : Nat → Nat) : z_MR l yJx4a65c_size_8abf5 cJx4a65c_size_8abf5 1 (some .int) 0 [.ref aL] G (fun H => x_L G aL aE n f H) (.int (nI n)) := by
  refine z_M.of (by decide +kernel) (Nat.le_of_ble_eq_true rfl) ?_
  intro p e s m below meth c C hP
  obtain ⟨mod, hL, hE⟩ := hP
  refine z_aload_n C dJx4a65c_size_8abf5_0 rfl ?_
  refine z_get C (by exact hL) z_cls0 hu_Jx4a65c 2 (by decide) wb_41 rfl rfl dJx4a65c_size_8abf5_1 ?_
  exact z_iret C (by omega) (by omega) dJx4a65c_size_8abf5_4 (by exact ⟨rfl, rfl⟩)

set_option maxHeartbeats 4000000 in
set_option maxRecDepth 100000 in
theorem c_Jx4a65c_elementData_915e3 (l : Launch) (G : z_G) (aL aE n : Nat) (f : Nat → Nat) (x : Int32) (hx : vp_in x n) : z_MR l yJx4a65c_elementData_915e3 cJx4a65c_elementData_915e3 2 (some (.object "java/lang/Object")) 0 [.ref aL, .int x] G (fun H => x_L G aL aE n f H) (.ref (f x.toNatClampNeg)) := by
  refine z_M.of (by decide +kernel) (Nat.le_of_ble_eq_true rfl) ?_
  intro p e s m below meth c C hP
  obtain ⟨mod, hL, hE⟩ := hP
  have hlt := vp_in_clamp hx
  rcases hE with ⟨hE, -⟩ | ⟨cap, g, hn1, hn2, hn3, hE, hg⟩
  · exact absurd hlt (by omega)
  have hin : vp_in x cap := fun q => hx (q.imp id (fun q => by omega))
  refine z_aload_n C dJx4a65c_elementData_915e3_0 rfl ?_
  refine z_get C (by first | exact hL | exact hE) z_cls0 hu_Jx4a65c 1 (by decide) wb_40 rfl rfl dJx4a65c_elementData_915e3_1 ?_
  refine z_iload_n C dJx4a65c_elementData_915e3_4 rfl ?_
  refine z_aald C (by first | exact hL | exact hE) (by assumption) (by rw [hg _ hlt]) dJx4a65c_elementData_915e3_5 ?_
  exact z_aret C (by first | exact Or.inl ⟨_, rfl⟩ | exact Or.inr ⟨_, rfl⟩) (by omega) (by omega) dJx4a65c_elementData_915e3_6 (by exact ⟨rfl, rfl⟩)

set_option maxHeartbeats 4000000 in
set_option maxRecDepth 100000 in
theorem c_J3_checkIndex_8e157 (l : Launch) (G : z_G) (x y : Int32) (h1 : ¬ x < 0) (h2 : x < y) : z_MR l yJ3_checkIndex_8e157 cJ3_checkIndex_8e157 3 (some .int) 0 [.int x, .int y, va_rf none] G (fun H => True) (.int x) := by
  refine z_M.of (by decide +kernel) (Nat.le_of_ble_eq_true rfl) ?_
  intro p e s m below meth c C hP
  refine z_iload_n C dJ3_checkIndex_8e157_0 rfl ?_
  refine z_if_lt C 9 dJ3_checkIndex_8e157_1 (by decide) (fun h1_ => ?_) (fun h1_ => ?_)
  · exact absurd h1_ h1
  · refine z_iload_n C dJ3_checkIndex_8e157_4 rfl ?_
    refine z_iload_n C dJ3_checkIndex_8e157_5 rfl ?_
    refine z_icmp_lt C 16 dJ3_checkIndex_8e157_6 (by decide) (fun h6 => ?_) (fun h6 => ?_)
    · refine z_iload_n C dJ3_checkIndex_8e157_16 rfl ?_
      exact z_iret C (by omega) (by omega) dJ3_checkIndex_8e157_17 (by exact ⟨rfl, rfl⟩)
    · exact absurd h2 h6

set_option maxHeartbeats 4000000 in
set_option maxRecDepth 100000 in
theorem c_J15_checkIndex_7cf53 (l : Launch) (G : z_G) (x y : Int32) (h1 : ¬ x < 0) (h2 : x < y) : z_MR l yJ15_checkIndex_7cf53 cJ15_checkIndex_7cf53 2 (some .int) 1 [.int x, .int y] G (fun H => True) (.int x) := by
  refine z_M.of (by decide +kernel) (Nat.le_of_ble_eq_true rfl) ?_
  intro p e s m below meth c C hP
  refine z_iload_n C dJ15_checkIndex_7cf53_0 rfl ?_
  refine z_iload_n C dJ15_checkIndex_7cf53_1 rfl ?_
  refine z_nullq C dJ15_checkIndex_7cf53_2 ?_
  refine z_callSR (As := [.int _, .int _, va_rf none]) C (c_J3_checkIndex_8e157 _ _ _ _ (by assumption) (by assumption)) kc_J3_checkIndex_8e157 wb_229 ⟨by decide, by decide⟩ (trivial) ⟨Nat.zero_le _, Nat.zero_le _⟩ (Nat.le_of_ble_eq_true rfl) dJ15_checkIndex_7cf53_3 ?_
  exact z_iret C (by omega) (by omega) dJ15_checkIndex_7cf53_6 (by exact ⟨rfl, rfl⟩)

set_option maxHeartbeats 4000000 in
set_option maxRecDepth 100000 in
theorem c_Jx4a65c_get_915e3 (l : Launch) (G : z_G) (aL aE n : Nat) (f : Nat → Nat) (x : Int32) (hx : vp_in x n) (hn : n < 2 ^ 31) : z_MR l yJx4a65c_get_915e3 cJx4a65c_get_915e3 2 (some (.object "java/lang/Object")) 2 [.ref aL, .int x] G (fun H => x_L G aL aE n f H) (.ref (f x.toNatClampNeg)) := by
  refine z_M.of (by decide +kernel) (Nat.le_of_ble_eq_true rfl) ?_
  intro p e s m below meth c C hP
  obtain ⟨mod, hL, hE⟩ := id hP
  obtain ⟨hx0, hx1⟩ := vp_in_lt hx hn
  refine z_iload_n C dJx4a65c_get_915e3_0 rfl ?_
  refine z_aload_n C dJx4a65c_get_915e3_1 rfl ?_
  refine z_get C (by exact hL) z_cls0 hu_Jx4a65c 2 (by decide) wb_41 rfl rfl dJx4a65c_get_915e3_2 ?_
  refine z_callSR (As := [.int _, .int _]) C (c_J15_checkIndex_7cf53 _ _ _ _ (by assumption) (by assumption)) kc_J15_checkIndex_7cf53 wb_226 ⟨by decide, by decide⟩ (trivial) ⟨Nat.zero_le _, Nat.zero_le _⟩ (Nat.le_of_ble_eq_true rfl) dJx4a65c_get_915e3_5 ?_
  refine z_pop C dJx4a65c_get_915e3_8 rfl ?_
  refine z_aload_n C dJx4a65c_get_915e3_9 rfl ?_
  refine z_iload_n C dJx4a65c_get_915e3_10 rfl ?_
  refine z_callVR (As := [.int _]) C (c_Jx4a65c_elementData_915e3 _ _ aL aE n f _ hx) kc_Jx4a65c_elementData_915e3 wb_232 ⟨by decide, by decide⟩ hL rfl (hP) ⟨Nat.zero_le _, Nat.zero_le _⟩ (Nat.le_of_ble_eq_true rfl) dJx4a65c_get_915e3_11 ?_
  exact z_aret C (by first | exact Or.inl ⟨_, rfl⟩ | exact Or.inr ⟨_, rfl⟩) (by omega) (by omega) dJx4a65c_get_915e3_14 (by exact ⟨rfl, rfl⟩)

