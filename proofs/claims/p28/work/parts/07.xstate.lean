/-! The class's cells, as they show the reference's state M. ad k i: the addresses: 0 rooms, 1 doors, 2 keys, 3 groups, 4: 0 the object, 1..4 the lists, 5..8 their arrays, 9 the search, 10 its row of rooms, 11 its row of sequences -/
abbrev x_T : Type := (Nat → Int32) × (Nat → Option Nat) × (Nat → Int32) × Int64 × (Nat → Int32) × (Nat → Int64)
def x_bit (i : Int32) : Int32 := (1 : Int32) <<< (i &&& 31)
def x_lc (M : m_S) : Nat → Nat
  | 0 => 0
  | n + 1 => x_lc M n + (if M.2 6 n < 0 then 0 else 1)
def x_lb (M : m_S) (d : Nat) : Int32 := if M.2 6 d < 0 then 0 else x_bit (nI (x_lc M d))
def x_op (M : m_S) (d : Nat) : Bool := !(decide (M.2 8 d < 0))
def x_ot (M : m_S) (d : Nat) : Int32 := if M.2 8 d < 0 then 0 else M.2 8 d
def x_room (T : x_T) (i : Nat) : va_E := .inr (5, [.int (nI i), .int (x_bit (nI i)), .int (T.1 i)])
def x_door (ad : Nat → Nat → Nat) (M : m_S) (d : Nat) : va_E := .inr (1, [.int (nI d), .ref (ad 0 (M.2 3 d).toNatClampNeg), .ref (ad 0 (M.2 4 d).toNatClampNeg), .int (M.2 5 d), .int (x_bit (M.2 3 d) ||| x_bit (M.2 4 d)), .int (M.2 6 d), .int (M.2 7 d), .int (x_lb M d), .int (z_b (x_op M d)), .int (x_ot M d)])
def x_kr (ad : Nat → Nat → Nat) (M : m_S) (k : Nat) : Option Nat := if M.2 11 k = 0 then some (ad 0 (M.2 12 k).toNatClampNeg) else none
def x_kh (ad : Nat → Nat → Nat) (M : m_S) (k : Nat) : Option Nat := if M.2 11 k = 1 then some (ad 3 (M.2 12 k).toNatClampNeg) else none
def x_ku (ad : Nat → Nat → Nat) (M : m_S) (k : Nat) : Option Nat := if M.2 11 k = 2 then some (ad 1 (M.2 12 k).toNatClampNeg) else none
def x_key (ad : Nat → Nat → Nat) (M : m_S) (k : Nat) : va_E := .inr (3, [.int (nI k), .int (M.2 10 k), va_rf (x_kr ad M k), .int (M.2 13 k), va_rf (x_kh ad M k), va_rf (x_ku ad M k)])
def x_group (ad : Nat → Nat → Nat) (M : m_S) (g : Nat) : va_E := .inr (2, [.int (nI g), .int (M.2 15 g), .ref (ad 0 (M.2 16 g).toNatClampNeg), .int (M.2 17 g), .int (M.2 18 g), .int (M.2 19 g)])
def x_ex (ad : Nat → Nat → Nat) (M : m_S) : Option Nat := if M.1 1 < 0 then none else some (ad 0 (M.1 1).toNatClampNeg)
def x_obj (ad : Nat → Nat → Nat) (nD : Nat) (M : m_S) (T : x_T) : va_E := .inr (6, [.ref (ad 4 1), .ref (ad 4 2), .ref (ad 4 3), .ref (ad 4 4), .ref (ad 4 9), va_rf (x_ex ad M), .int (nI (x_lc M nD)), .int (M.1 20), .int (M.1 21), .int (T.2.2.1 4)])
def x_search (ad : Nat → Nat → Nat) (T : x_T) : va_E := .inr (4, [.ref (ad 4 10), .ref (ad 4 11), va_rf (T.2.1 0), va_rf (T.2.1 1), va_rf (T.2.1 2), .int (T.2.2.1 0), .int (T.2.2.1 1), .int (T.2.2.1 2), .int (T.2.2.1 3), .long T.2.2.2.1])
def x_in (nR nD nK nG k i : Nat) : Prop := (k = 0 ∧ i < nR) ∨ (k = 1 ∧ i < nD) ∨ (k = 2 ∧ i < nK) ∨ (k = 3 ∧ i < nG) ∨ (k = 4 ∧ i < 12 ∧ (i = 5 → 0 < nR) ∧ (i = 6 → 0 < nD) ∧ (i = 7 → 0 < nK) ∧ (i = 8 → 0 < nG))
def x_inj (ad : Nat → Nat → Nat) (nR nD nK nG : Nat) : Prop := ∀ k i k' i', x_in nR nD nK nG k i → x_in nR nD nK nG k' i' → ad k i = ad k' i' → k = k' ∧ i = i'
def x_R (G : z_G) (ad : Nat → Nat → Nat) (nR nD nK nG : Nat) (M : m_S) (T : x_T) (H : Heap) : Prop :=
  (va_at G.1 vwCl (ad 4 0, x_obj ad nD M T) H ∧ va_at G.1 vwCl (ad 4 9, x_search ad T) H ∧ va_at G.1 vwCl (ad 4 10, .inl (G.2 0, 1024, .inl T.2.2.2.2.1)) H ∧ va_at G.1 vwCl (ad 4 11, .inl (G.2 1, 1024, .inr (.inl T.2.2.2.2.2))) H) ∧
  ((∀ i, i < nR → va_at G.1 vwCl (ad 0 i, x_room T i) H) ∧ (∀ i, i < nD → va_at G.1 vwCl (ad 1 i, x_door ad M i) H) ∧ (∀ i, i < nK → va_at G.1 vwCl (ad 2 i, x_key ad M i) H) ∧ (∀ i, i < nG → va_at G.1 vwCl (ad 3 i, x_group ad M i) H)) ∧
  (x_L G (ad 4 1) (ad 4 5) nR (ad 0) H ∧ x_L G (ad 4 2) (ad 4 6) nD (ad 1) H ∧ x_L G (ad 4 3) (ad 4 7) nK (ad 2) H ∧ x_L G (ad 4 4) (ad 4 8) nG (ad 3) H) ∧
  x_inj ad nR nD nK nG
def x_A (ad : Nat → Nat → Nat) (nR nD nK nG : Nat) : Nat → Prop := fun q => ∃ k i, x_in nR nD nK nG k i ∧ q = ad k i
def x_cell (ad : Nat → Nat → Nat) (nD : Nat) (M : m_S) (T : x_T) (k i : Nat) : va_E := if k = 0 then x_room T i else if k = 1 then x_door ad M i else if k = 2 then x_key ad M i else if k = 3 then x_group ad M i else
  if i = 0 then x_obj ad nD M T else if i = 9 then x_search ad T else if i = 10 then .inl (0, 1024, .inl T.2.2.2.2.1) else .inl (1, 1024, .inr (.inl T.2.2.2.2.2))
theorem x_cell9 (ad : Nat → Nat → Nat) (nD : Nat) (M : m_S) (T : x_T) : x_cell ad nD M T 4 9 = x_search ad T := by simp [x_cell]
theorem x_cell10 (ad : Nat → Nat → Nat) (nD : Nat) (M : m_S) (T : x_T) : x_cell ad nD M T 4 10 = .inl (0, 1024, .inl T.2.2.2.2.1) := by simp [x_cell]
theorem x_cell11 (ad : Nat → Nat → Nat) (nD : Nat) (M : m_S) (T : x_T) : x_cell ad nD M T 4 11 = .inl (1, 1024, .inr (.inl T.2.2.2.2.2)) := by simp [x_cell]
theorem x_cell_0 (ad : Nat → Nat → Nat) (nD : Nat) (M : m_S) (T : x_T) (i : Nat) : x_cell ad nD M T 0 i = x_room T i := by simp [x_cell]
def x_fix (G : z_G) (e : va_E) : va_E := match e with
  | .inl (c, x) => .inl (G.2 c, x)
  | .inr o => .inr o
def x_pl (nR nD nK nG k i : Nat) : Prop := x_in nR nD nK nG k i ∧ (k = 4 → i = 0 ∨ i = 9 ∨ i = 10 ∨ i = 11)
theorem x_pl_cases {nR nD nK nG k i : Nat} (h : x_pl nR nD nK nG k i) : (k = 0 ∧ i < nR) ∨ (k = 1 ∧ i < nD) ∨ (k = 2 ∧ i < nK) ∨ (k = 3 ∧ i < nG) ∨ (k = 4 ∧ i = 0) ∨ (k = 4 ∧ i = 9) ∨ (k = 4 ∧ i = 10) ∨ (k = 4 ∧ i = 11) := by
  obtain ⟨h1, h2⟩ := h
  unfold x_in at h1
  omega
theorem x_R.cell {G : z_G} {ad : Nat → Nat → Nat} {nR nD nK nG : Nat} {M : m_S} {T : x_T} {H : Heap} (h : x_R G ad nR nD nK nG M T H) {k i : Nat} (hp : x_pl nR nD nK nG k i) : va_at G.1 vwCl (ad k i, x_fix G (x_cell ad nD M T k i)) H := by
  rcases x_pl_cases hp with ⟨rfl, q⟩ | ⟨rfl, q⟩ | ⟨rfl, q⟩ | ⟨rfl, q⟩ | ⟨rfl, rfl⟩ | ⟨rfl, rfl⟩ | ⟨rfl, rfl⟩ | ⟨rfl, rfl⟩
  · exact h.2.1.1 _ q
  · exact h.2.1.2.1 _ q
  · exact h.2.1.2.2.1 _ q
  · exact h.2.1.2.2.2 _ q
  · exact h.1.1
  · exact h.1.2.1
  · exact h.1.2.2.1
  · exact h.1.2.2.2
theorem x_in_lst {nR nD nK nG i : Nat} (h : 1 ≤ i ∧ i ≤ 4) : x_in nR nD nK nG 4 i := by unfold x_in; omega
theorem x_R.upd {G : z_G} {ad : Nat → Nat → Nat} {nR nD nK nG : Nat} {M M' : m_S} {T T' : x_T} {H H' : Heap} (h : x_R G ad nR nD nK nG M T H) {k0 i0 : Nat} {e : va_E} (hp : x_pl nR nD nK nG k0 i0) (hU : z_U G (ad k0 i0) e H H') (he : e = x_fix G (x_cell ad nD M' T' k0 i0)) (hc : ∀ k i, x_pl nR nD nK nG k i → (k ≠ k0 ∨ i ≠ i0) → x_cell ad nD M' T' k i = x_cell ad nD M T k i) : x_R G ad nR nD nK nG M' T' H' := by
  subst he
  have key : ∀ k i, x_pl nR nD nK nG k i → va_at G.1 vwCl (ad k i, x_fix G (x_cell ad nD M' T' k i)) H' := by
    intro k i hki
    by_cases q : k = k0 ∧ i = i0
    · rw [q.1, q.2]; exact hU.1
    · have q2 : k ≠ k0 ∨ i ≠ i0 := by omega
      rw [hc k i hki q2]
      refine z_at_keep hU (h.cell hki) (fun z => q ?_)
      exact h.2.2.2 k i k0 i0 hki.1 hp.1 z
  have keep : ∀ i, x_in nR nD nK nG 4 i → 1 ≤ i → i ≤ 8 → H'[ad 4 i]? = H[ad 4 i]? := by
    intro i hi h1 h8
    refine hU.2.2 _ (fun z => ?_)
    obtain ⟨e1, e2⟩ := h.2.2.2 4 i k0 i0 hi hp.1 z
    have := hp.2 e1.symm
    omega
  obtain ⟨-, -, ⟨l1, l2, l3, l4⟩, hinj⟩ := h
  refine ⟨⟨key 4 0 ⟨by unfold x_in; omega, by omega⟩, key 4 9 ⟨by unfold x_in; omega, by omega⟩, key 4 10 ⟨by unfold x_in; omega, by omega⟩, key 4 11 ⟨by unfold x_in; omega, by omega⟩⟩, ⟨fun i hi => key 0 i ⟨by unfold x_in; omega, by omega⟩, fun i hi => key 1 i ⟨by unfold x_in; omega, by omega⟩, fun i hi => key 2 i ⟨by unfold x_in; omega, by omega⟩, fun i hi => key 3 i ⟨by unfold x_in; omega, by omega⟩⟩, ⟨?_, ?_, ?_, ?_⟩, hinj⟩
  · exact l1.mono (keep 1 (by unfold x_in; omega) (by omega) (by omega)) (fun q => keep 5 (by unfold x_in; omega) (by omega) (by omega))
  · exact l2.mono (keep 2 (by unfold x_in; omega) (by omega) (by omega)) (fun q => keep 6 (by unfold x_in; omega) (by omega) (by omega))
  · exact l3.mono (keep 3 (by unfold x_in; omega) (by omega) (by omega)) (fun q => keep 7 (by unfold x_in; omega) (by omega) (by omega))
  · exact l4.mono (keep 4 (by unfold x_in; omega) (by omega) (by omega)) (fun q => keep 8 (by unfold x_in; omega) (by omega) (by omega))
theorem x_lc_congr {M M' : m_S} (h : M'.2 6 = M.2 6) : ∀ n, x_lc M' n = x_lc M n
  | 0 => rfl
  | n + 1 => by simp only [x_lc]; rw [x_lc_congr h n, h]
theorem x_door_congr {ad : Nat → Nat → Nat} {M M' : m_S} {d : Nat} (h6 : M'.2 6 = M.2 6) (h : ∀ j, 3 ≤ j → j ≤ 8 → M'.2 j d = M.2 j d) : x_door ad M' d = x_door ad M d := by
  simp only [x_door, x_lb, x_op, x_ot]
  rw [x_lc_congr h6, h 3 (by omega) (by omega), h 4 (by omega) (by omega), h 5 (by omega) (by omega), h 6 (by omega) (by omega), h 7 (by omega) (by omega), h 8 (by omega) (by omega)]
theorem x_key_congr {ad : Nat → Nat → Nat} {M M' : m_S} {k : Nat} (h : ∀ j, 10 ≤ j → j ≤ 13 → M'.2 j k = M.2 j k) : x_key ad M' k = x_key ad M k := by
  simp only [x_key, x_kr, x_kh, x_ku]
  rw [h 10 (by omega) (by omega), h 11 (by omega) (by omega), h 12 (by omega) (by omega), h 13 (by omega) (by omega)]
theorem x_group_congr {ad : Nat → Nat → Nat} {M M' : m_S} {g : Nat} (h : ∀ j, 15 ≤ j → j ≤ 19 → M'.2 j g = M.2 j g) : x_group ad M' g = x_group ad M g := by
  simp only [x_group]
  rw [h 15 (by omega) (by omega), h 16 (by omega) (by omega), h 17 (by omega) (by omega), h 18 (by omega) (by omega), h 19 (by omega) (by omega)]
theorem x_obj_congr {ad : Nat → Nat → Nat} {nD : Nat} {M M' : m_S} {T T' : x_T} (h6 : M'.2 6 = M.2 6) (h1 : M'.1 1 = M.1 1) (h20 : M'.1 20 = M.1 20) (h21 : M'.1 21 = M.1 21) (hT : T'.2.2.1 4 = T.2.2.1 4) : x_obj ad nD M' T' = x_obj ad nD M T := by
  simp only [x_obj, x_ex]
  rw [x_lc_congr h6, h1, h20, h21, hT]
/-- a key's cell changes -/
theorem x_R.key {G : z_G} {ad : Nat → Nat → Nat} {nR nD nK nG : Nat} {M M' : m_S} {T : x_T} {H H' : Heap} (h : x_R G ad nR nD nK nG M T H) {k : Nat} (hk : k < nK) (hU : z_U G (ad 2 k) (x_key ad M' k) H H') (h1 : M'.1 = M.1) (h2 : ∀ j, j < 10 ∨ 13 < j → M'.2 j = M.2 j) (h3 : ∀ j i, i ≠ k → M'.2 j i = M.2 j i) : x_R G ad nR nD nK nG M' T H' := by
  refine h.upd (k0 := 2) (i0 := k) ⟨by unfold x_in; omega, by omega⟩ hU rfl ?_
  intro k' i hp hne
  rcases x_pl_cases hp with ⟨rfl, q⟩ | ⟨rfl, q⟩ | ⟨rfl, q⟩ | ⟨rfl, q⟩ | ⟨rfl, rfl⟩ | ⟨rfl, rfl⟩ | ⟨rfl, rfl⟩ | ⟨rfl, rfl⟩
  · rw [x_cell_0, x_cell_0]
  · exact x_door_congr (h2 6 (by omega)) (fun j a b => by rw [h2 j (by omega)])
  · exact x_key_congr (fun j a b => h3 j i (by omega))
  · exact x_group_congr (fun j a b => by rw [h2 j (by omega)])
  · exact x_obj_congr (h2 6 (by omega)) (by rw [h1]) (by rw [h1]) (by rw [h1]) rfl
  · rw [x_cell9, x_cell9]
  · rw [x_cell10, x_cell10]
  · rw [x_cell11, x_cell11]
theorem x_R.group {G : z_G} {ad : Nat → Nat → Nat} {nR nD nK nG : Nat} {M M' : m_S} {T : x_T} {H H' : Heap} (h : x_R G ad nR nD nK nG M T H) {g : Nat} (hg : g < nG) (hU : z_U G (ad 3 g) (x_group ad M' g) H H') (h1 : M'.1 = M.1) (h2 : ∀ j, j < 15 ∨ 19 < j → M'.2 j = M.2 j) (h3 : ∀ j i, i ≠ g → M'.2 j i = M.2 j i) : x_R G ad nR nD nK nG M' T H' := by
  refine h.upd (k0 := 3) (i0 := g) ⟨by unfold x_in; omega, by omega⟩ hU rfl ?_
  intro k' i hp hne
  rcases x_pl_cases hp with ⟨rfl, q⟩ | ⟨rfl, q⟩ | ⟨rfl, q⟩ | ⟨rfl, q⟩ | ⟨rfl, rfl⟩ | ⟨rfl, rfl⟩ | ⟨rfl, rfl⟩ | ⟨rfl, rfl⟩
  · rw [x_cell_0, x_cell_0]
  · exact x_door_congr (h2 6 (by omega)) (fun j a b => by rw [h2 j (by omega)])
  · exact x_key_congr (fun j a b => by rw [h2 j (by omega)])
  · exact x_group_congr (fun j a b => h3 j i (by omega))
  · exact x_obj_congr (h2 6 (by omega)) (by rw [h1]) (by rw [h1]) (by rw [h1]) rfl
  · rw [x_cell9, x_cell9]
  · rw [x_cell10, x_cell10]
  · rw [x_cell11, x_cell11]
theorem x_R.door {G : z_G} {ad : Nat → Nat → Nat} {nR nD nK nG : Nat} {M M' : m_S} {T : x_T} {H H' : Heap} (h : x_R G ad nR nD nK nG M T H) {d : Nat} (hd : d < nD) (hU : z_U G (ad 1 d) (x_door ad M' d) H H') (h1 : M'.1 = M.1) (h2 : ∀ j, j ≠ 8 → M'.2 j = M.2 j) (h3 : ∀ j i, i ≠ d → M'.2 j i = M.2 j i) : x_R G ad nR nD nK nG M' T H' := by
  refine h.upd (k0 := 1) (i0 := d) ⟨by unfold x_in; omega, by omega⟩ hU rfl ?_
  intro k' i hp hne
  rcases x_pl_cases hp with ⟨rfl, q⟩ | ⟨rfl, q⟩ | ⟨rfl, q⟩ | ⟨rfl, q⟩ | ⟨rfl, rfl⟩ | ⟨rfl, rfl⟩ | ⟨rfl, rfl⟩ | ⟨rfl, rfl⟩
  · rw [x_cell_0, x_cell_0]
  · exact x_door_congr (h2 6 (by omega)) (fun j a b => h3 j i (by omega))
  · exact x_key_congr (fun j a b => by rw [h2 j (by omega)])
  · exact x_group_congr (fun j a b => by rw [h2 j (by omega)])
  · exact x_obj_congr (h2 6 (by omega)) (by rw [h1]) (by rw [h1]) (by rw [h1]) rfl
  · rw [x_cell9, x_cell9]
  · rw [x_cell10, x_cell10]
  · rw [x_cell11, x_cell11]
/-- the object's own numbers change -/
theorem x_R.obj {G : z_G} {ad : Nat → Nat → Nat} {nR nD nK nG : Nat} {M M' : m_S} {T T' : x_T} {H H' : Heap} (h : x_R G ad nR nD nK nG M T H) (hU : z_U G (ad 4 0) (x_obj ad nD M' T') H H') (h2 : M'.2 = M.2) (hT1 : T'.1 = T.1) (hT2 : T'.2.1 = T.2.1) (hT3 : ∀ j, j ≠ 4 → T'.2.2.1 j = T.2.2.1 j) (hT4 : T'.2.2.2 = T.2.2.2) : x_R G ad nR nD nK nG M' T' H' := by
  refine h.upd (k0 := 4) (i0 := 0) ⟨by unfold x_in; omega, by omega⟩ hU rfl ?_
  intro k' i hp hne
  rcases x_pl_cases hp with ⟨rfl, q⟩ | ⟨rfl, q⟩ | ⟨rfl, q⟩ | ⟨rfl, q⟩ | ⟨rfl, rfl⟩ | ⟨rfl, rfl⟩ | ⟨rfl, rfl⟩ | ⟨rfl, rfl⟩
  · show x_room T' i = x_room T i
    simp only [x_room, hT1]
  · exact x_door_congr (by rw [h2]) (fun j a b => by rw [h2])
  · exact x_key_congr (fun j a b => by rw [h2])
  · exact x_group_congr (fun j a b => by rw [h2])
  · omega
  · show x_search ad T' = x_search ad T
    simp only [x_search, hT2, hT4, hT3 0 (by omega), hT3 1 (by omega), hT3 2 (by omega), hT3 3 (by omega)]
  · show (Sum.inl (0, 1024, .inl T'.2.2.2.2.1) : va_E) = Sum.inl (0, 1024, .inl T.2.2.2.2.1)
    rw [hT4]
  · show (Sum.inl (1, 1024, .inr (.inl T'.2.2.2.2.2)) : va_E) = Sum.inl (1, 1024, .inr (.inl T.2.2.2.2.2))
    rw [hT4]
theorem z_U.trans {G : z_G} {a : Nat} {e e2 : va_E} {H H1 H2 : Heap} (h : z_U G a e H H1) (h2 : z_U G a e2 H1 H2) : z_U G a e2 H H2 := ⟨h2.1, h2.2.1.trans h.2.1, fun q hq => (h2.2.2 q hq).trans (h.2.2 q hq)⟩

