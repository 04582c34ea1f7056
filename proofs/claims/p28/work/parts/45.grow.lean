/-! one thing more: where the cells lie then, and what holds of the state -/
def x_n (k0 k n : Nat) : Nat := if k = k0 then n + 1 else n
def x_cn (nR nD nK nG k : Nat) : Nat := if k = 0 then nR else if k = 1 then nD else if k = 2 then nK else nG
def x_ga (ad : Nat → Nat → Nat) (k0 n0 a aE : Nat) : Nat → Nat → Nat := fun k i => if k = k0 ∧ i = n0 then a else if k = 4 ∧ i = 5 + k0 then aE else ad k i
theorem x_ga_new {ad : Nat → Nat → Nat} {k0 n0 a aE : Nat} : x_ga ad k0 n0 a aE k0 n0 = a := if_pos ⟨rfl, rfl⟩
theorem x_ga_arr {ad : Nat → Nat → Nat} {k0 n0 a aE : Nat} (h : k0 < 4) : x_ga ad k0 n0 a aE 4 (5 + k0) = aE := by
  unfold x_ga
  rw [if_neg (by omega), if_pos ⟨rfl, rfl⟩]
theorem x_ga_old {ad : Nat → Nat → Nat} {k0 n0 a aE k i : Nat} (h1 : ¬ (k = k0 ∧ i = n0)) (h2 : ¬ (k = 4 ∧ i = 5 + k0)) : x_ga ad k0 n0 a aE k i = ad k i := by
  unfold x_ga
  rw [if_neg h1, if_neg h2]
theorem x_ga_lt {ad : Nat → Nat → Nat} {nR nD nK nG k0 a aE k i : Nat} (hk : k < 4) (hi : i < x_cn nR nD nK nG k) : x_ga ad k0 (x_cn nR nD nK nG k0) a aE k i = ad k i :=
  x_ga_old (fun h => by rw [h.1] at hi; omega) (fun h => by omega)
theorem x_in_grow {nR nD nK nG k0 k i : Nat} (hk : k0 < 4) (h : x_in (x_n k0 0 nR) (x_n k0 1 nD) (x_n k0 2 nK) (x_n k0 3 nG) k i) : (k = k0 ∧ i = x_cn nR nD nK nG k0) ∨ (k = 4 ∧ i = 5 + k0) ∨ x_in nR nD nK nG k i := by
  have h4 : k0 = 0 ∨ k0 = 1 ∨ k0 = 2 ∨ k0 = 3 := by omega
  unfold x_in at *
  rcases h4 with rfl | rfl | rfl | rfl <;> simp [x_n, x_cn] at * <;> omega
theorem x_pl_grow {nR nD nK nG k0 k i : Nat} (hk : k0 < 4) (h : x_pl (x_n k0 0 nR) (x_n k0 1 nD) (x_n k0 2 nK) (x_n k0 3 nG) k i) : (k = k0 ∧ i = x_cn nR nD nK nG k0) ∨ x_pl nR nD nK nG k i := by
  rcases x_in_grow hk h.1 with q | q | q
  · exact Or.inl q
  · have := h.2 q.1
    omega
  · exact Or.inr ⟨q, h.2⟩
theorem x_L.congr {G : z_G} {aL aE n : Nat} {f f2 : Nat → Nat} {H : Heap} (h : x_L G aL aE n f H) (hf : ∀ i, i < n → f2 i = f i) : x_L G aL aE n f2 H := by
  obtain ⟨mod, h1, h2⟩ := h
  refine ⟨mod, h1, h2.imp id ?_⟩
  rintro ⟨cap, g, c1, c2, c3, c4, c5⟩
  exact ⟨cap, g, c1, c2, c3, c4, fun i hi => by rw [c5 i hi, hf i hi]⟩
theorem x_L.lt {G : z_G} {aL aE n : Nat} {f : Nat → Nat} {H : Heap} (h : x_L G aL aE n f H) : aL < H.size ∧ (0 < n → aE < H.size) := by
  obtain ⟨mod, h1, h2⟩ := h
  refine ⟨h1.lt, fun hn => ?_⟩
  rcases h2 with ⟨z, -⟩ | ⟨cap, g, c1, c2, c3, c4, c5⟩
  · omega
  · exact c4.lt
theorem x_R.lt {G : z_G} {ad : Nat → Nat → Nat} {nR nD nK nG : Nat} {M : m_S} {T : x_T} {H : Heap} (h : x_R G ad nR nD nK nG M T H) {k i : Nat} (hi : x_in nR nD nK nG k i) : ad k i < H.size := by
  by_cases hp : k = 4 → i = 0 ∨ i = 9 ∨ i = 10 ∨ i = 11
  · exact (h.cell ⟨hi, hp⟩).lt
  · obtain ⟨-, -, ⟨l1, l2, l3, l4⟩, -⟩ := h
    unfold x_in at hi
    have hk : k = 4 := by omega
    subst hk
    have h8 : i = 1 ∨ i = 2 ∨ i = 3 ∨ i = 4 ∨ i = 5 ∨ i = 6 ∨ i = 7 ∨ i = 8 := by omega
    rcases h8 with rfl | rfl | rfl | rfl | rfl | rfl | rfl | rfl
    · exact l1.lt.1
    · exact l2.lt.1
    · exact l3.lt.1
    · exact l4.lt.1
    · exact l1.lt.2 (by omega)
    · exact l2.lt.2 (by omega)
    · exact l3.lt.2 (by omega)
    · exact l4.lt.2 (by omega)
/-- the list of a kind -/
theorem x_R.list {G : z_G} {ad : Nat → Nat → Nat} {nR nD nK nG : Nat} {M : m_S} {T : x_T} {H : Heap} (h : x_R G ad nR nD nK nG M T H) {k : Nat} (hk : k < 4) : x_L G (ad 4 (1 + k)) (ad 4 (5 + k)) (x_cn nR nD nK nG k) (ad k) H := by
  obtain ⟨-, -, ⟨l1, l2, l3, l4⟩, -⟩ := h
  have h4 : k = 0 ∨ k = 1 ∨ k = 2 ∨ k = 3 := by omega
  rcases h4 with rfl | rfl | rfl | rfl
  · exact l1
  · exact l2
  · exact l3
  · exact l4
theorem x_in_cn {nR nD nK nG k i : Nat} (hk : k < 4) (hi : i < x_cn nR nD nK nG k) : x_in nR nD nK nG k i := by
  have h4 : k = 0 ∨ k = 1 ∨ k = 2 ∨ k = 3 := by omega
  unfold x_in
  rcases h4 with rfl | rfl | rfl | rfl <;> simp [x_cn] at hi <;> omega
theorem x_in_arr {nR nD nK nG k : Nat} (hk : k < 4) (h : 0 < x_cn nR nD nK nG k) : x_in nR nD nK nG 4 (5 + k) := by
  have h4 : k = 0 ∨ k = 1 ∨ k = 2 ∨ k = 3 := by omega
  unfold x_in
  rcases h4 with rfl | rfl | rfl | rfl <;> simp [x_cn] at h <;> omega
theorem x_R.grow {G : z_G} {ad : Nat → Nat → Nat} {nR nD nK nG : Nat} {M M' : m_S} {T T' : x_T} {H H' : Heap} (h : x_R G ad nR nD nK nG M T H) {k0 a aE : Nat} (hk : k0 < 4) (ha : H.size ≤ a) (hE : (0 < x_cn nR nD nK nG k0 ∧ aE = ad 4 (5 + k0)) ∨ (H.size ≤ aE ∧ aE ≠ a))
    (hkeep : ∀ q, q < H.size → q ≠ ad 4 (1 + k0) → (0 < x_cn nR nD nK nG k0 → q ≠ ad 4 (5 + k0)) → q ≠ ad 4 0 → H'[q]? = H[q]?)
    (hL : x_L G (ad 4 (1 + k0)) aE (x_cn nR nD nK nG k0 + 1) (fun i => if i = x_cn nR nD nK nG k0 then a else ad k0 i) H')
    (hnew : va_at G.1 vwCl (a, x_fix G (x_cell (x_ga ad k0 (x_cn nR nD nK nG k0) a aE) (x_n k0 1 nD) M' T' k0 (x_cn nR nD nK nG k0))) H')
    (hobj : va_at G.1 vwCl (ad 4 0, x_obj (x_ga ad k0 (x_cn nR nD nK nG k0) a aE) (x_n k0 1 nD) M' T') H')
    (hcell : ∀ k i, x_pl nR nD nK nG k i → ¬ (k = 4 ∧ i = 0) → x_cell (x_ga ad k0 (x_cn nR nD nK nG k0) a aE) (x_n k0 1 nD) M' T' k i = x_cell ad nD M T k i) :
    x_R G (x_ga ad k0 (x_cn nR nD nK nG k0) a aE) (x_n k0 0 nR) (x_n k0 1 nD) (x_n k0 2 nK) (x_n k0 3 nG) M' T' H' := by
  have hinj := h.2.2.2
  have hold : ∀ k i, x_in nR nD nK nG k i → ¬ (k = 4 ∧ i = 5 + k0) → x_ga ad k0 (x_cn nR nD nK nG k0) a aE k i = ad k i := fun k i hi hn =>
    x_ga_old (fun e => by
      have h4 : k0 = 0 ∨ k0 = 1 ∨ k0 = 2 ∨ k0 = 3 := by omega
      obtain ⟨rfl, rfl⟩ := e
      unfold x_in at hi
      rcases h4 with rfl | rfl | rfl | rfl <;> simp [x_cn] at hi) hn
  have key : ∀ k i, x_pl (x_n k0 0 nR) (x_n k0 1 nD) (x_n k0 2 nK) (x_n k0 3 nG) k i → va_at G.1 vwCl (x_ga ad k0 (x_cn nR nD nK nG k0) a aE k i, x_fix G (x_cell (x_ga ad k0 (x_cn nR nD nK nG k0) a aE) (x_n k0 1 nD) M' T' k i)) H' := by
    intro k i hki
    rcases x_pl_grow hk hki with ⟨rfl, rfl⟩ | hp
    · rw [x_ga_new]; exact hnew
    · have h5 : ¬ (k = 4 ∧ i = 5 + k0) := fun e => by have := hp.2 e.1; omega
      rw [hold k i hp.1 h5]
      by_cases q : k = 4 ∧ i = 0
      · obtain ⟨rfl, rfl⟩ := q
        exact hobj
      · rw [hcell k i hp q]
        refine (h.cell hp).kept (hkeep _ (h.lt hp.1) (fun e => ?_) (fun hn e => ?_) (fun e => ?_))
        · have h2 := hinj k i 4 (1 + k0) hp.1 (x_in_lst (by omega)) e
          have := hp.2 h2.1
          omega
        · have h2 := hinj k i 4 (5 + k0) hp.1 (x_in_arr hk hn) e
          have := hp.2 h2.1
          omega
        · exact q (hinj k i 4 0 hp.1 (by unfold x_in; omega) e)
  have lst : ∀ k, k < 4 → x_L G (x_ga ad k0 (x_cn nR nD nK nG k0) a aE 4 (1 + k)) (x_ga ad k0 (x_cn nR nD nK nG k0) a aE 4 (5 + k)) (x_n k0 k (x_cn nR nD nK nG k)) (x_ga ad k0 (x_cn nR nD nK nG k0) a aE k) H' := by
    intro k hk4
    rw [hold 4 (1 + k) (x_in_lst (by omega)) (by omega)]
    by_cases e : k = k0
    · subst e
      rw [x_ga_arr hk]
      have e1 : x_n k k (x_cn nR nD nK nG k) = x_cn nR nD nK nG k + 1 := if_pos rfl
      rw [e1]
      refine hL.congr fun i hi => ?_
      show x_ga ad k _ a aE k i = if i = x_cn nR nD nK nG k then a else ad k i
      by_cases z : i = x_cn nR nD nK nG k
      · rw [if_pos z, z, x_ga_new]
      · rw [if_neg z, x_ga_old (fun w => z w.2) (by omega)]
    · have e1 : x_n k0 k (x_cn nR nD nK nG k) = x_cn nR nD nK nG k := if_neg e
      rw [e1, x_ga_old (by omega) (by omega)]
      refine ((h.list hk4).congr fun i hi => x_ga_lt hk4 hi).mono ?_ (fun hn => ?_)
      · refine hkeep _ (h.lt (x_in_lst (by omega))) (fun z => ?_) (fun hn z => ?_) (fun z => ?_)
        · have := hinj 4 (1 + k) 4 (1 + k0) (x_in_lst (by omega)) (x_in_lst (by omega)) z; omega
        · have := hinj 4 (1 + k) 4 (5 + k0) (x_in_lst (by omega)) (x_in_arr hk hn) z; omega
        · have := hinj 4 (1 + k) 4 0 (x_in_lst (by omega)) (by unfold x_in; omega) z; omega
      · refine hkeep _ (h.lt (x_in_arr hk4 hn)) (fun z => ?_) (fun hn2 z => ?_) (fun z => ?_)
        · have := hinj 4 (5 + k) 4 (1 + k0) (x_in_arr hk4 hn) (x_in_lst (by omega)) z; omega
        · have := hinj 4 (5 + k) 4 (5 + k0) (x_in_arr hk4 hn) (x_in_arr hk hn2) z; omega
        · have := hinj 4 (5 + k) 4 0 (x_in_arr hk4 hn) (by unfold x_in; omega) z; omega
  have k0' := key 4 0 ⟨by unfold x_in; omega, by omega⟩
  have k9 := key 4 9 ⟨by unfold x_in; omega, by omega⟩
  have k10 := key 4 10 ⟨by unfold x_in; omega, by omega⟩
  have k11 := key 4 11 ⟨by unfold x_in; omega, by omega⟩
  rw [x_cell9] at k9
  rw [x_cell10] at k10
  rw [x_cell11] at k11
  refine ⟨⟨k0', k9, k10, k11⟩, ⟨fun i hi => ?_, fun i hi => ?_, fun i hi => ?_, fun i hi => ?_⟩, ⟨lst 0 (by omega), lst 1 (by omega), lst 2 (by omega), lst 3 (by omega)⟩, ?_⟩
  · have := key 0 i ⟨by unfold x_in; omega, by omega⟩
    rw [x_cell_0] at this; exact this
  · exact key 1 i ⟨by unfold x_in; omega, by omega⟩
  · exact key 2 i ⟨by unfold x_in; omega, by omega⟩
  · exact key 3 i ⟨by unfold x_in; omega, by omega⟩
  · have side : ∀ k i, x_in (x_n k0 0 nR) (x_n k0 1 nD) (x_n k0 2 nK) (x_n k0 3 nG) k i → (k = k0 ∧ i = x_cn nR nD nK nG k0 ∧ x_ga ad k0 (x_cn nR nD nK nG k0) a aE k i = a) ∨ (k = 4 ∧ i = 5 + k0 ∧ x_ga ad k0 (x_cn nR nD nK nG k0) a aE k i = aE) ∨ (x_in nR nD nK nG k i ∧ ¬ (k = 4 ∧ i = 5 + k0) ∧ x_ga ad k0 (x_cn nR nD nK nG k0) a aE k i = ad k i) := by
      intro k i hi
      rcases x_in_grow hk hi with ⟨rfl, rfl⟩ | q | q
      · exact Or.inl ⟨rfl, rfl, x_ga_new⟩
      · obtain ⟨rfl, rfl⟩ := q
        exact Or.inr (Or.inl ⟨rfl, rfl, x_ga_arr hk⟩)
      · by_cases z : k = 4 ∧ i = 5 + k0
        · obtain ⟨rfl, rfl⟩ := z
          exact Or.inr (Or.inl ⟨rfl, rfl, x_ga_arr hk⟩)
        · exact Or.inr (Or.inr ⟨q, z, hold k i q z⟩)
    have hEo : ∀ k i, x_in nR nD nK nG k i → ¬ (k = 4 ∧ i = 5 + k0) → ad k i ≠ aE := fun k i hi hz e => by
      rcases hE with ⟨c1, c2⟩ | ⟨c1, c2⟩
      · exact hz (hinj k i 4 (5 + k0) hi (x_in_arr hk c1) (e.trans c2))
      · have := h.lt hi; omega
    have hEa : aE ≠ a := fun e => by
      rcases hE with ⟨c1, c2⟩ | ⟨c1, c2⟩
      · have := h.lt (x_in_arr hk c1); omega
      · exact c2 e
    intro k i k2 i2 h1 h2 e
    rcases side k i h1 with ⟨p1, p2, p3⟩ | ⟨p1, p2, p3⟩ | ⟨p1, p2, p3⟩ <;> rcases side k2 i2 h2 with ⟨q1, q2, q3⟩ | ⟨q1, q2, q3⟩ | ⟨q1, q2, q3⟩ <;> rw [p3, q3] at e
    · omega
    · exact absurd e.symm hEa
    · have := h.lt q1; omega
    · exact absurd e hEa
    · omega
    · exact absurd e.symm (hEo k2 i2 q1 q2)
    · have := h.lt p1; omega
    · exact absurd e (hEo k i p1 p2)
    · exact hinj k i k2 i2 p1 q1 e
/-- the things that were there have stayed -/
def x_Ag (nD nK nG : Nat) (M M' : m_S) : Prop := (M'.1 1 = M.1 1 ∧ M'.1 20 = M.1 20 ∧ M'.1 21 = M.1 21) ∧ (∀ j, 3 ≤ j → j ≤ 8 → ∀ i, i < nD → M'.2 j i = M.2 j i) ∧ (∀ j, 10 ≤ j → j ≤ 13 → ∀ i, i < nK → M'.2 j i = M.2 j i) ∧ ∀ j, 15 ≤ j → j ≤ 19 → ∀ i, i < nG → M'.2 j i = M.2 j i
theorem x_lc_pre {M M' : m_S} : ∀ {n : Nat}, (∀ i, i < n → M'.2 6 i = M.2 6 i) → x_lc M' n = x_lc M n
  | 0, _ => rfl
  | n + 1, h => by
    simp only [x_lc]
    rw [x_lc_pre (fun i hi => h i (by omega)), h n (by omega)]
theorem x_grow_cell {ad ad2 : Nat → Nat → Nat} {nR nD nK nG nD2 : Nat} {M M' : m_S} {T T' : x_T} (hI : m_I nR nD nK nG M) (hA : x_Ag nD nK nG M M') (had : ∀ k i, k < 4 → i < x_cn nR nD nK nG k → ad2 k i = ad k i) (h4 : ∀ i, 9 ≤ i → i < 12 → ad2 4 i = ad 4 i) (hT : T'.2 = T.2) (hT1 : ∀ i, i < nR → T'.1 i = T.1 i) :
    ∀ k i, x_pl nR nD nK nG k i → ¬ (k = 4 ∧ i = 0) → x_cell ad2 nD2 M' T' k i = x_cell ad nD M T k i := by
  obtain ⟨-, aD, aK, aG⟩ := hA
  have hN := hI.1
  have hr : ∀ x, x < nR → ad2 0 x = ad 0 x := fun x hx => had 0 x (by omega) hx
  have hd : ∀ x, x < nD → ad2 1 x = ad 1 x := fun x hx => had 1 x (by omega) hx
  have hg : ∀ x, x < nG → ad2 3 x = ad 3 x := fun x hx => had 3 x (by omega) hx
  have n1 := hN.1.2
  have n2 := hN.2.1.2
  have n4 := hN.2.2.2.2
  intro k i hp hne
  rcases x_pl_cases hp with ⟨rfl, q⟩ | ⟨rfl, q⟩ | ⟨rfl, q⟩ | ⟨rfl, q⟩ | ⟨rfl, rfl⟩ | ⟨rfl, rfl⟩ | ⟨rfl, rfl⟩ | ⟨rfl, rfl⟩
  · rw [x_cell_0, x_cell_0]
    unfold x_room
    rw [hT1 i q]
  · show x_door ad2 M' i = x_door ad M i
    obtain ⟨lo, hi2, c1, c2, c3, c4⟩ := hI.lohi q
    simp only [x_door, x_lb, x_op, x_ot]
    rw [aD 3 (by omega) (by omega) i q, aD 4 (by omega) (by omega) i q, aD 5 (by omega) (by omega) i q, aD 6 (by omega) (by omega) i q, aD 7 (by omega) (by omega) i q, aD 8 (by omega) (by omega) i q, x_lc_pre (fun j hj => aD 6 (by omega) (by omega) j (by omega)), c3, c4, nI_clamp (by omega), nI_clamp (by omega), hr lo (by omega), hr hi2 c2]
  · show x_key ad2 M' i = x_key ad M i
    simp only [x_key, x_kr, x_kh, x_ku]
    rw [aK 10 (by omega) (by omega) i q, aK 11 (by omega) (by omega) i q, aK 12 (by omega) (by omega) i q, aK 13 (by omega) (by omega) i q]
    rcases (hI.2.2.2.1 i q).2.1 with ⟨z, x, hx, e⟩ | ⟨z, x, hx, e⟩ | ⟨z, x, hx, e⟩
    · rw [z, e, nI_clamp (by omega), hr x hx]; simp
    · rw [z, e, nI_clamp (by omega), hg x hx]; simp
    · rw [z, e, nI_clamp (by omega), hd x hx]; simp
  · show x_group ad2 M' i = x_group ad M i
    simp only [x_group]
    rw [aG 15 (by omega) (by omega) i q, aG 16 (by omega) (by omega) i q, aG 17 (by omega) (by omega) i q, aG 18 (by omega) (by omega) i q, aG 19 (by omega) (by omega) i q]
    obtain ⟨r, hr2, er⟩ := hI.room q
    rw [er, nI_clamp (by omega), hr r hr2]
  · exact absurd ⟨rfl, rfl⟩ hne
  · rw [x_cell9, x_cell9]
    simp only [x_search]
    rw [h4 10 (by omega) (by omega), h4 11 (by omega) (by omega), hT]
  · rw [x_cell10, x_cell10, hT]
  · rw [x_cell11, x_cell11, hT]
theorem x_grow_ex {ad ad2 : Nat → Nat → Nat} {nR nD nK nG : Nat} {M M' : m_S} (hI : m_I nR nD nK nG M) (h1 : M'.1 1 = M.1 1) (had : ∀ i, i < nR → ad2 0 i = ad 0 i) : x_ex ad2 M' = x_ex ad M := by
  have n1 := hI.1.1.2
  unfold x_ex
  rw [h1]
  rcases hI.2.1 with q | ⟨x, hx, e⟩
  · rw [q, if_pos (by decide), if_pos (by decide)]
  · rw [e, nI_clamp (by omega), had x hx]
theorem m_I.grow {nR nD nK nG nR2 nD2 nK2 nG2 : Nat} {M M' : m_S} (hI : m_I nR nD nK nG M) (hA : x_Ag nD nK nG M M') (hR : nR ≤ nR2) (hD : nD ≤ nD2) (hG : nG ≤ nG2) (hN : m_N M' nR2 nD2 nK2 nG2)
    (hd : ∀ d, nD ≤ d → d < nD2 → (∃ lo hi, lo < hi ∧ hi < nR2 ∧ M'.2 3 d = nI lo ∧ M'.2 4 d = nI hi) ∧ (∃ w, 1 ≤ w ∧ w ≤ 30 ∧ M'.2 5 d = nI w) ∧ ((M'.2 6 d = -6 ∧ M'.2 7 d = 0 ∧ M'.2 8 d = 0) ∨ ((∃ x, x ≤ 5 ∧ M'.2 6 d = nI x) ∧ (∃ u, 1 ≤ u ∧ u ≤ 60 ∧ M'.2 7 d = nI u) ∧ (M'.2 8 d = -6 ∨ ∃ t, t ≤ 100000 ∧ M'.2 8 d = nI t))))
    (hk : ∀ k, nK ≤ k → k < nK2 → (∃ x, x ≤ 5 ∧ M'.2 10 k = nI x) ∧ ((M'.2 11 k = 0 ∧ ∃ r, r < nR2 ∧ M'.2 12 k = nI r) ∨ (M'.2 11 k = 1 ∧ ∃ g, g < nG2 ∧ M'.2 12 k = nI g) ∨ (M'.2 11 k = 2 ∧ ∃ d, d < nD2 ∧ M'.2 12 k = nI d)) ∧ (∃ t, t ≤ 100000 ∧ M'.2 13 k = nI t))
    (hg : ∀ g, nG ≤ g → g < nG2 → (∃ r, r < nR2 ∧ M'.2 16 g = nI r) ∧ (∃ t, t ≤ 100000 ∧ M'.2 17 g = nI t) ∧ (M'.2 19 g = 0 ∨ M'.2 19 g = 1 ∨ (M'.2 19 g = 2 ∧ M'.2 15 g = 0)))
    (hl : x_lc M' nD2 ≤ 10) : m_I nR2 nD2 nK2 nG2 M' := by
  obtain ⟨-, i1, iD, iK, iG, -, i20, i21⟩ := hI
  obtain ⟨⟨a1, a20, a21⟩, aD, aK, aG⟩ := hA
  refine ⟨hN, ?_, fun d h => ?_, fun k h => ?_, fun g h => ?_, hl, by rw [a20]; exact i20, by rw [a21]; exact i21⟩
  · rw [a1]
    exact i1.imp id (fun ⟨x, hx, e⟩ => ⟨x, by omega, e⟩)
  · by_cases c : nD ≤ d
    · exact hd d c h
    · have q : d < nD := by omega
      rw [aD 3 (by omega) (by omega) d q, aD 4 (by omega) (by omega) d q, aD 5 (by omega) (by omega) d q, aD 6 (by omega) (by omega) d q, aD 7 (by omega) (by omega) d q, aD 8 (by omega) (by omega) d q]
      obtain ⟨⟨lo, hi, c1, c2, c3⟩, b⟩ := iD d q
      exact ⟨⟨lo, hi, c1, by omega, c3⟩, b⟩
  · by_cases c : nK ≤ k
    · exact hk k c h
    · have q : k < nK := by omega
      rw [aK 10 (by omega) (by omega) k q, aK 11 (by omega) (by omega) k q, aK 12 (by omega) (by omega) k q, aK 13 (by omega) (by omega) k q]
      obtain ⟨b1, b2, b3⟩ := iK k q
      refine ⟨b1, ?_, b3⟩
      rcases b2 with ⟨z, x, hx, e⟩ | ⟨z, x, hx, e⟩ | ⟨z, x, hx, e⟩
      · exact Or.inl ⟨z, x, by omega, e⟩
      · exact Or.inr (Or.inl ⟨z, x, by omega, e⟩)
      · exact Or.inr (Or.inr ⟨z, x, by omega, e⟩)
  · by_cases c : nG ≤ g
    · exact hg g c h
    · have q : g < nG := by omega
      rw [aG 15 (by omega) (by omega) g q, aG 16 (by omega) (by omega) g q, aG 17 (by omega) (by omega) g q, aG 19 (by omega) (by omega) g q]
      obtain ⟨⟨r, hr, e⟩, b⟩ := iG g q
      exact ⟨⟨r, by omega, e⟩, b⟩

