/-! the invariant is kept -/
theorem m_sA_arr {M : m_S} {k i j : Nat} {v : Int32} (h : j ≠ k) : (m_sA M k i v).2 j = M.2 j := if_neg h
theorem m_sA_ix {M : m_S} {k i j q : Nat} {v : Int32} (h : q ≠ i) : (m_sA M k i v).2 j q = M.2 j q := by
  rw [m_sA2]
  by_cases e : j = k
  · subst e; simp [h]
  · simp [e]
theorem m_sA_at {M : m_S} {k i : Nat} {v : Int32} : (m_sA M k i v).2 k i = v := by rw [m_sA2]; simp
theorem nI_of_clamp {x : Int32} {n : Nat} (h : vp_in x n) (hn : n < 2 ^ 31) : nI x.toNatClampNeg = x := by
  obtain ⟨j, hj, rfl⟩ := vp_in_of h hn
  rw [nI_clamp (by omega)]
theorem m_I.key {nR nD nK nG : Nat} {M M' : m_S} (h : m_I nR nD nK nG M) {k : Nat} (h1 : M'.1 = M.1) (h2 : ∀ j, j < 10 ∨ 13 < j → M'.2 j = M.2 j) (h3 : ∀ j i, i ≠ k → M'.2 j i = M.2 j i)
    (hk : (∃ x, x ≤ 5 ∧ M'.2 10 k = nI x) ∧ ((M'.2 11 k = 0 ∧ ∃ r, r < nR ∧ M'.2 12 k = nI r) ∨ (M'.2 11 k = 1 ∧ ∃ g, g < nG ∧ M'.2 12 k = nI g) ∨ (M'.2 11 k = 2 ∧ ∃ d, d < nD ∧ M'.2 12 k = nI d)) ∧ (∃ t, t ≤ 100000 ∧ M'.2 13 k = nI t)) : m_I nR nD nK nG M' := by
  obtain ⟨a, b, d, e, g, x, y, z⟩ := h
  refine ⟨by unfold m_N at a ⊢; rw [h1]; exact a, by rw [h1]; exact b, ?_, ?_, ?_, ?_, by rw [h1]; exact y, by rw [h1]; exact z⟩
  · intro q hq
    rw [h2 3 (by omega), h2 4 (by omega), h2 5 (by omega), h2 6 (by omega), h2 7 (by omega), h2 8 (by omega)]; exact d q hq
  · intro q hq
    by_cases e2 : q = k
    · subst e2; exact hk
    · rw [h3 10 q e2, h3 11 q e2, h3 12 q e2, h3 13 q e2]; exact e q hq
  · intro q hq
    rw [h2 15 (by omega), h2 16 (by omega), h2 17 (by omega), h2 19 (by omega)]; exact g q hq
  · rw [x_lc_congr (h2 6 (by omega))]; exact x
theorem m_I.group {nR nD nK nG : Nat} {M M' : m_S} (h : m_I nR nD nK nG M) {g0 : Nat} (h1 : M'.1 = M.1) (h2 : ∀ j, j < 15 ∨ 19 < j → M'.2 j = M.2 j) (h3 : ∀ j i, i ≠ g0 → M'.2 j i = M.2 j i)
    (hg : (∃ r, r < nR ∧ M'.2 16 g0 = nI r) ∧ (∃ t, t ≤ 100000 ∧ M'.2 17 g0 = nI t) ∧ (M'.2 19 g0 = 0 ∨ M'.2 19 g0 = 1 ∨ (M'.2 19 g0 = 2 ∧ M'.2 15 g0 = 0))) : m_I nR nD nK nG M' := by
  obtain ⟨a, b, d, e, g, x, y, z⟩ := h
  refine ⟨by unfold m_N at a ⊢; rw [h1]; exact a, by rw [h1]; exact b, ?_, ?_, ?_, ?_, by rw [h1]; exact y, by rw [h1]; exact z⟩
  · intro q hq
    rw [h2 3 (by omega), h2 4 (by omega), h2 5 (by omega), h2 6 (by omega), h2 7 (by omega), h2 8 (by omega)]; exact d q hq
  · intro q hq
    rw [h2 10 (by omega), h2 11 (by omega), h2 12 (by omega), h2 13 (by omega)]; exact e q hq
  · intro q hq
    by_cases e2 : q = g0
    · subst e2; exact hg
    · rw [h3 15 q e2, h3 16 q e2, h3 17 q e2, h3 19 q e2]; exact g q hq
  · rw [x_lc_congr (h2 6 (by omega))]; exact x
theorem m_I.door {nR nD nK nG : Nat} {M : m_S} (h : m_I nR nD nK nG M) {d0 t : Nat} (ht : t ≤ 100000) (hl : M.2 8 d0 < 0) : m_I nR nD nK nG (m_sA M 8 d0 (nI t)) := by
  obtain ⟨a, b, d, e, g, x, y, z⟩ := h
  refine ⟨a, b, ?_, ?_, ?_, ?_, y, z⟩
  · intro q hq
    rw [m_sA_arr (by omega), m_sA_arr (by omega), m_sA_arr (by omega), m_sA_arr (by omega), m_sA_arr (by omega)]
    obtain ⟨d1, d2, d3⟩ := d q hq
    refine ⟨d1, d2, ?_⟩
    by_cases e2 : q = d0
    · subst e2
      rw [m_sA_at]
      rcases d3 with ⟨-, -, w⟩ | ⟨w1, w2, -⟩
      · rw [w] at hl; exact absurd hl (by decide)
      · exact Or.inr ⟨w1, w2, Or.inr ⟨t, ht, rfl⟩⟩
    · rw [m_sA_ix e2]; exact d3
  · intro q hq
    rw [m_sA_arr (by omega), m_sA_arr (by omega), m_sA_arr (by omega), m_sA_arr (by omega)]; exact e q hq
  · intro q hq
    rw [m_sA_arr (by omega), m_sA_arr (by omega), m_sA_arr (by omega), m_sA_arr (by omega)]; exact g q hq
  · rw [x_lc_congr (m_sA_arr (by omega))]; exact x
theorem m_I.g17 {nR nD nK nG : Nat} {M : m_S} (h : m_I nR nD nK nG M) {g t : Nat} (hg : g < nG) (ht : t ≤ 100000) : m_I nR nD nK nG (m_sA M 17 g (nI t)) := by
  refine h.group (g0 := g) rfl (fun j hj => m_sA_arr (by omega)) (fun j i hi => m_sA_ix hi) ?_
  obtain ⟨a, b, c⟩ := h.2.2.2.2.1 g hg
  rw [m_sA_arr (by omega), m_sA_at, m_sA_arr (by omega), m_sA_arr (by omega)]
  exact ⟨a, ⟨t, ht, rfl⟩, c⟩
theorem m_I.g16 {nR nD nK nG : Nat} {M : m_S} (h : m_I nR nD nK nG M) {g r : Nat} (hg : g < nG) (hr : r < nR) : m_I nR nD nK nG (m_sA M 16 g (nI r)) := by
  refine h.group (g0 := g) rfl (fun j hj => m_sA_arr (by omega)) (fun j i hi => m_sA_ix hi) ?_
  obtain ⟨a, b, c⟩ := h.2.2.2.2.1 g hg
  rw [m_sA_at, m_sA_arr (by omega), m_sA_arr (by omega), m_sA_arr (by omega)]
  exact ⟨⟨r, hr, rfl⟩, b, c⟩
theorem m_I.g18 {nR nD nK nG : Nat} {M : m_S} (h : m_I nR nD nK nG M) {g : Nat} {v : Int32} (hg : g < nG) : m_I nR nD nK nG (m_sA M 18 g v) := by
  refine h.group (g0 := g) rfl (fun j hj => m_sA_arr (by omega)) (fun j i hi => m_sA_ix hi) ?_
  obtain ⟨a, b, c⟩ := h.2.2.2.2.1 g hg
  rw [m_sA_arr (by omega), m_sA_arr (by omega), m_sA_arr (by omega), m_sA_arr (by omega)]
  exact ⟨a, b, c⟩
theorem m_I.g15 {nR nD nK nG : Nat} {M : m_S} (h : m_I nR nD nK nG M) {g : Nat} {v : Int32} (hg : g < nG) (hv : M.2 19 g ≠ 2 ∨ v = 0) : m_I nR nD nK nG (m_sA M 15 g v) := by
  refine h.group (g0 := g) rfl (fun j hj => m_sA_arr (by omega)) (fun j i hi => m_sA_ix hi) ?_
  obtain ⟨a, b, c⟩ := h.2.2.2.2.1 g hg
  rw [m_sA_arr (by omega), m_sA_arr (by omega), m_sA_arr (by omega), m_sA_at]
  refine ⟨a, b, ?_⟩
  rcases c with c | c | c
  · exact Or.inl c
  · exact Or.inr (Or.inl c)
  · rcases hv with q | q
    · exact absurd c.1 q
    · exact Or.inr (Or.inr ⟨c.1, q⟩)
theorem m_I.g19 {nR nD nK nG : Nat} {M : m_S} (h : m_I nR nD nK nG M) {g : Nat} {v : Int32} (hg : g < nG) (hv : v = 0 ∨ v = 1 ∨ (v = 2 ∧ M.2 15 g = 0)) : m_I nR nD nK nG (m_sA M 19 g v) := by
  refine h.group (g0 := g) rfl (fun j hj => m_sA_arr (by omega)) (fun j i hi => m_sA_ix hi) ?_
  obtain ⟨a, b, c⟩ := h.2.2.2.2.1 g hg
  rw [m_sA_arr (by omega), m_sA_arr (by omega), m_sA_at, m_sA_arr (by omega)]
  exact ⟨a, b, hv⟩
/-- a key's place changes -/
theorem m_I.put {nR nD nK nG : Nat} {M : m_S} (h : m_I nR nD nK nG M) {k : Nat} {z a : Int32} (hk : k < nK) (hv : (z = 0 ∧ ∃ r, r < nR ∧ a = nI r) ∨ (z = 1 ∧ ∃ g, g < nG ∧ a = nI g) ∨ (z = 2 ∧ ∃ d, d < nD ∧ a = nI d)) : m_I nR nD nK nG (m_sA (m_sA M 11 k z) 12 k a) := by
  refine h.key (k := k) rfl (fun j hj => by rw [m_sA_arr (by omega), m_sA_arr (by omega)]) (fun j i hi => by rw [m_sA_ix hi, m_sA_ix hi]) ?_
  obtain ⟨q1, q2, q3⟩ := h.2.2.2.1 k hk
  rw [m_sA_at, m_sA_arr (by omega), m_sA_arr (by omega), m_sA_arr (j := 11) (by omega), m_sA_at, m_sA_arr (by omega), m_sA_arr (by omega)]
  exact ⟨q1, hv, q3⟩
theorem m_I.k13 {nR nD nK nG : Nat} {M : m_S} (h : m_I nR nD nK nG M) {k t : Nat} (hk : k < nK) (ht : t ≤ 100000) : m_I nR nD nK nG (m_sA M 13 k (nI t)) := by
  refine h.key (k := k) rfl (fun j hj => by rw [m_sA_arr (by omega)]) (fun j i hi => by rw [m_sA_ix hi]) ?_
  obtain ⟨q1, q2, q3⟩ := h.2.2.2.1 k hk
  rw [m_sA_arr (by omega), m_sA_arr (by omega), m_sA_arr (by omega), m_sA_at]
  exact ⟨q1, q2, t, ht, rfl⟩
theorem m_later_nI {a b : Nat} (ha : a < 2 ^ 31) (hb : b < 2 ^ 31) : m_later (nI a) (nI b) = nI (max a b) := by
  unfold m_later
  by_cases h : a < b
  · rw [if_pos (nI_lt h hb), Nat.max_eq_right (by omega)]
  · rw [if_neg (nI_nlt (by omega) ha), Nat.max_eq_left (by omega)]
theorem z_100000 : (100000 : Int32) = nI 100000 := rfl
theorem m_le_last {x : Nat} (hx : x < 2 ^ 31) (h : ¬ 100000 < nI x) : x ≤ 100000 := by
  rw [z_100000] at h
  exact Nat.not_lt.mp (fun q => h (nI_lt q hx))
theorem m_pl_iff {M : m_S} {g : Int32} : m_pl M g = true ↔ M.2 19 g.toNatClampNeg = 0 := by simp [m_pl]
/-- the clock, the open times, the walking times as numbers -/
theorem m_I.time {nR nD nK nG : Nat} {M : m_S} (h : m_I nR nD nK nG M) {g : Nat} (hg : g < nG) : ∃ t, t ≤ 100000 ∧ M.2 17 g = nI t := (h.2.2.2.2.1 g hg).2.1
theorem m_I.room {nR nD nK nG : Nat} {M : m_S} (h : m_I nR nD nK nG M) {g : Nat} (hg : g < nG) : ∃ r, r < nR ∧ M.2 16 g = nI r := (h.2.2.2.2.1 g hg).1
theorem m_I.wt {nR nD nK nG : Nat} {M : m_S} (h : m_I nR nD nK nG M) {d : Nat} (hd : d < nD) : ∃ w, 1 ≤ w ∧ w ≤ 30 ∧ M.2 5 d = nI w := (h.2.2.1 d hd).2.1
theorem m_I.ut {nR nD nK nG : Nat} {M : m_S} (h : m_I nR nD nK nG M) {d : Nat} (hd : d < nD) : ∃ u, u ≤ 60 ∧ M.2 7 d = nI u := by
  rcases (h.2.2.1 d hd).2.2 with ⟨-, q, -⟩ | ⟨-, ⟨u, -, q1, q2⟩, -⟩
  · exact ⟨0, by omega, q⟩
  · exact ⟨u, q1, q2⟩
theorem m_I.ot {nR nD nK nG : Nat} {M : m_S} (h : m_I nR nD nK nG M) {d : Nat} (hd : d < nD) (ho : ¬ M.2 8 d < 0) : ∃ t, t ≤ 100000 ∧ M.2 8 d = nI t := by
  rcases (h.2.2.1 d hd).2.2 with ⟨-, -, q⟩ | ⟨-, -, q | q⟩
  · exact ⟨0, by omega, q⟩
  · rw [q] at ho; exact absurd (by decide) ho
  · exact q
theorem m_I.lohi {nR nD nK nG : Nat} {M : m_S} (h : m_I nR nD nK nG M) {d : Nat} (hd : d < nD) : ∃ lo hi, lo < hi ∧ hi < nR ∧ M.2 3 d = nI lo ∧ M.2 4 d = nI hi := (h.2.2.1 d hd).1
theorem z_otherL {a b : Int32} : a + b - a = b := by rw [Int32.add_comm]; exact Int32.add_sub_cancel b a
theorem m_I_walk {nR nD nK nG : Nat} {M : m_S} (h : m_I nR nD nK nG M) (g d : Int32) : m_I nR nD nK nG (F_walk M g d).2 := by
  have h12 := h.1.1.2
  have h16 := h.1.2.1.2
  have h6 := h.1.2.2.2.2
  unfold F_walk
  by_cases c1 : (m_no g (M.1 14) || m_no d (M.1 2)) = true
  · rw [if_pos c1]; exact h
  rw [if_neg c1]
  by_cases c2 : (!(m_pl M g) || !(m_at M d (M.2 16 g.toNatClampNeg)) || decide (M.2 8 d.toNatClampNeg < 0)) = true
  · rw [if_pos c2]; exact h
  rw [if_neg c2]
  by_cases c3 : 100000 < m_later (M.2 17 g.toNatClampNeg) (M.2 8 d.toNatClampNeg) + M.2 5 d.toNatClampNeg
  · rw [if_pos c3]; exact h
  rw [if_neg c3]
  simp only [Bool.or_eq_true, not_or, Bool.not_eq_true] at c1 c2
  have hg : g.toNatClampNeg < nG := vp_in_clamp (x_inG h.1 c1.1)
  have hd : d.toNatClampNeg < nD := vp_in_clamp (x_inD h.1 c1.2)
  obtain ⟨t, ht, et⟩ := h.time hg
  obtain ⟨w, -, hw, ew⟩ := h.wt hd
  obtain ⟨o, ho, eo⟩ := h.ot hd (by simpa using c2.2)
  obtain ⟨lo, hi, hl, hh, el, eh⟩ := h.lohi hd
  rw [et, eo, ew, m_later_nI (by omega) (by omega), nI_add] at c3
  have hx := m_le_last (by omega) c3
  have hat : m_at M d (M.2 16 g.toNatClampNeg) = true := by simpa using c2.1.2
  refine m_I.group (M := m_sA M 17 g.toNatClampNeg (m_later (M.2 17 g.toNatClampNeg) (M.2 8 d.toNatClampNeg) + M.2 5 d.toNatClampNeg)) ?_ (g0 := g.toNatClampNeg) rfl (fun j hj => m_sA_arr (by omega)) (fun j i hi => m_sA_ix hi) ?_
  · rw [et, eo, ew, m_later_nI (by omega) (by omega), nI_add]; exact h.g17 hg hx
  · obtain ⟨-, -, st⟩ := h.2.2.2.2.1 _ hg
    rw [m_sA_at, m_sA_arr (by omega), m_sA_at, m_sA_arr (by omega), m_sA_arr (by omega), m_sA_arr (by omega), m_sA_arr (by omega)]
    refine ⟨?_, ⟨_, hx, by rw [et, eo, ew, m_later_nI (by omega) (by omega), nI_add]⟩, st⟩
    simp only [m_at, Bool.or_eq_true, decide_eq_true_eq] at hat
    rcases hat with q | q
    · refine ⟨hi, hh, ?_⟩
      rw [← q, z_otherL, eh]
    · refine ⟨lo, by omega, ?_⟩
      rw [← q, Int32.add_comm, z_otherL, el]
theorem m_I_unlock {nR nD nK nG : Nat} {M : m_S} (h : m_I nR nD nK nG M) (g d : Int32) : m_I nR nD nK nG (F_unlock M nK g d).2 := by
  have h12 := h.1.1.2
  have h16 := h.1.2.1.2
  have hk16 := h.1.2.2.1.2
  have h6 := h.1.2.2.2.2
  unfold F_unlock
  by_cases c1 : (m_no g (M.1 14) || m_no d (M.1 2)) = true
  · rw [if_pos c1]; exact h
  rw [if_neg c1]
  by_cases c2 : (!(m_pl M g) || !(m_at M d (M.2 16 g.toNatClampNeg)) || !(decide (M.2 8 d.toNatClampNeg < 0))) = true
  · rw [if_pos c2]; exact h
  rw [if_neg c2]
  by_cases c3 : m_kf M nK g (M.2 6 d.toNatClampNeg) < 0
  · rw [if_pos c3]; exact h
  rw [if_neg c3]
  by_cases c4 : 100000 < M.2 17 g.toNatClampNeg + M.2 7 d.toNatClampNeg
  · rw [if_pos c4]; exact h
  rw [if_neg c4]
  simp only [Bool.or_eq_true, not_or, Bool.not_eq_true] at c1 c2
  have hg : g.toNatClampNeg < nG := vp_in_clamp (x_inG h.1 c1.1)
  have hdv := x_inD h.1 c1.2
  have hd : d.toNatClampNeg < nD := vp_in_clamp hdv
  obtain ⟨t, ht, et⟩ := h.time hg
  obtain ⟨u, hu, eu⟩ := h.ut hd
  obtain ⟨k, hk, -, -, ek⟩ := m_kf_in hk16 c3
  rw [et, eu, nI_add] at c4
  have hx := m_le_last (by omega) c4
  have hop : M.2 8 d.toNatClampNeg < 0 := by simpa using c2.2
  rw [et, eu, nI_add, ek, nI_clamp (by omega)]
  exact ((h.g17 hg hx).door hx (by rw [m_sA_arr (by omega)]; exact hop)).put hk (Or.inr (Or.inr ⟨rfl, d.toNatClampNeg, hd, (nI_of_clamp hdv (by omega)).symm⟩))
theorem m_I_take {nR nD nK nG : Nat} {M : m_S} (h : m_I nR nD nK nG M) (g k : Int32) : m_I nR nD nK nG (F_take M nK g k).2 := by
  have h12 := h.1.1.2
  have hk16 := h.1.2.2.1.2
  have h6 := h.1.2.2.2.2
  unfold F_take
  by_cases c1 : (m_no g (M.1 14) || m_no k (M.1 9)) = true
  · rw [if_pos c1]; exact h
  rw [if_neg c1]
  by_cases c2 : (!(m_pl M g) || !(decide (M.2 11 k.toNatClampNeg = 0)) || !(decide (M.2 12 k.toNatClampNeg = M.2 16 g.toNatClampNeg))) = true
  · rw [if_pos c2]; exact h
  rw [if_neg c2]
  simp only [Bool.or_eq_true, not_or, Bool.not_eq_true] at c1 c2
  have hgv := x_inG h.1 c1.1
  have hg : g.toNatClampNeg < nG := vp_in_clamp hgv
  have hk : k.toNatClampNeg < nK := vp_in_clamp (x_inK h.1 c1.2)
  obtain ⟨t, ht, et⟩ := h.time hg
  obtain ⟨-, -, u, hu, eu⟩ := h.2.2.2.1 _ hk
  dsimp only
  rw [et, eu, m_later_nI (by omega) (by omega)]
  exact (h.g17 hg (by omega)).put hk (Or.inr (Or.inl ⟨rfl, g.toNatClampNeg, hg, (nI_of_clamp hgv (by omega)).symm⟩))
theorem m_I_drop {nR nD nK nG : Nat} {M : m_S} (h : m_I nR nD nK nG M) (g k : Int32) : m_I nR nD nK nG (F_drop M nK g k).2 := by
  unfold F_drop
  by_cases c1 : (m_no g (M.1 14) || m_no k (M.1 9)) = true
  · rw [if_pos c1]; exact h
  rw [if_neg c1]
  by_cases c2 : (!(m_pl M g) || !(m_ho M g k)) = true
  · rw [if_pos c2]; exact h
  rw [if_neg c2]
  simp only [Bool.or_eq_true, not_or, Bool.not_eq_true] at c1 c2
  have hg : g.toNatClampNeg < nG := vp_in_clamp (x_inG h.1 c1.1)
  have hk : k.toNatClampNeg < nK := vp_in_clamp (x_inK h.1 c1.2)
  obtain ⟨t, ht, et⟩ := h.time hg
  obtain ⟨r, hr, er⟩ := h.room hg
  dsimp only
  rw [et, er]
  exact (h.put hk (Or.inl ⟨rfl, r, hr, rfl⟩)).k13 hk ht
theorem m_in_iff {v lo hi : Int32} : m_in v lo hi = true ↔ ¬ v < lo ∧ ¬ hi < v := by
  unfold m_in
  by_cases c1 : v < lo <;> by_cases c2 : hi < v <;> simp [c1, c2]
theorem m_in_nI {v : Int32} {a b : Nat} (hb : b < 2 ^ 31) (h : m_in v (nI a) (nI b) = true) (ha : a ≤ b) : ∃ x, a ≤ x ∧ x ≤ b ∧ v = nI x := by
  obtain ⟨h1, h2⟩ := m_in_iff.mp h
  have h0 : ¬ v < 0 := fun q => h1 (by
    rw [Int32.lt_iff_toInt_lt] at q ⊢
    rw [nI_toInt (by omega)]
    have : (0 : Int32).toInt = 0 := rfl
    omega)
  obtain ⟨x, hx, rfl⟩ := nI_of h0
  exact ⟨x, Nat.not_lt.mp (fun q => h1 (nI_lt q (by omega))), Nat.not_lt.mp (fun q => h2 (nI_lt q hx)), rfl⟩
theorem m_I_idle {nR nD nK nG : Nat} {M : m_S} (h : m_I nR nD nK nG M) (g t : Int32) : m_I nR nD nK nG (F_idle M g t).2 := by
  unfold F_idle
  by_cases c1 : m_no g (M.1 14) = true
  · rw [if_pos c1]; exact h
  rw [if_neg c1]
  by_cases c2 : (!(m_in t 1 1000)) = true
  · rw [if_pos c2]; exact h
  rw [if_neg c2]
  by_cases c3 : (!(m_pl M g)) = true
  · rw [if_pos c3]; exact h
  rw [if_neg c3]
  by_cases c4 : 100000 < M.2 17 g.toNatClampNeg + t
  · rw [if_pos c4]; exact h
  rw [if_neg c4]
  have hg : g.toNatClampNeg < nG := vp_in_clamp (x_inG h.1 (by simpa using c1))
  obtain ⟨u, hu, eu⟩ := h.time hg
  have hc : m_in t 1 1000 = true := by simpa using c2
  obtain ⟨x, -, hx, rfl⟩ := m_in_nI (v := t) (a := 1) (b := 1000) (by decide) hc (by decide)
  rw [eu, nI_add] at c4 ⊢
  exact h.g17 hg (m_le_last (by omega) c4)
theorem m_I_leave {nR nD nK nG : Nat} {M : m_S} (h : m_I nR nD nK nG M) (g : Int32) : m_I nR nD nK nG (F_leave M g).2 := by
  unfold F_leave
  by_cases c1 : m_no g (M.1 14) = true
  · rw [if_pos c1]; exact h
  rw [if_neg c1]
  by_cases c2 : (!(m_pl M g) || !(decide (M.2 16 g.toNatClampNeg = M.1 1))) = true
  · rw [if_pos c2]; exact h
  rw [if_neg c2]
  exact h.g19 (vp_in_clamp (x_inG h.1 (by simpa using c1))) (Or.inr (Or.inl rfl))
theorem m_over_arr {M : m_S} {g o : Int32} {j : Nat} (hj : j ≠ 12) : ∀ n, (m_over M g o n).2 j = M.2 j
  | 0 => rfl
  | n + 1 => by simp only [m_over]; rw [m_sA_arr hj, m_over_arr hj n]
theorem m_over_fst {M : m_S} {g o : Int32} : ∀ n, (m_over M g o n).1 = M.1
  | 0 => rfl
  | n + 1 => m_over_fst n
theorem m_I_over {nR nD nK nG : Nat} {M : m_S} (h : m_I nR nD nK nG M) {g o : Int32} (ho : o.toNatClampNeg < nG) (eo : nI o.toNatClampNeg = o) : ∀ n, n ≤ nK → m_I nR nD nK nG (m_over M g o n)
  | 0, _ => h
  | n + 1, hn => by
    have ih := m_I_over (g := g) h ho eo n (by omega)
    have h16 := h.1.2.2.1.2
    simp only [m_over]
    refine ih.key (k := n) rfl (fun j hj => m_sA_arr (by omega)) (fun j i hi => m_sA_ix hi) ?_
    obtain ⟨q1, q2, q3⟩ := ih.2.2.2.1 n (by omega)
    rw [m_sA_arr (by omega), m_sA_arr (by omega), m_sA_at, m_sA_arr (by omega)]
    refine ⟨q1, ?_, q3⟩
    by_cases c : m_ho (m_over M g o n) g (nI n) = true
    · rw [if_pos c]
      have c2 : (m_over M g o n).2 11 n = 1 := by
        unfold m_ho at c
        rw [nI_clamp (by omega)] at c
        simp only [Bool.and_eq_true, decide_eq_true_eq] at c
        exact c.1
      exact Or.inr (Or.inl ⟨c2, _, ho, eo.symm⟩)
    · rw [if_neg c]; exact q2
theorem m_I_joinS {nR nD nK nG : Nat} {M : m_S} (h : m_I nR nD nK nG M) {g o : Int32} (hg : g.toNatClampNeg < nG) (ho : o.toNatClampNeg < nG) (hne : g.toNatClampNeg ≠ o.toNatClampNeg) (so : M.2 19 o.toNatClampNeg = 0) : m_I nR nD nK nG (m_join M g o) := by
  obtain ⟨t, ht, et⟩ := h.time hg
  obtain ⟨u, hu, eu⟩ := h.time ho
  unfold m_join
  dsimp only
  rw [et, eu, m_later_nI (by omega) (by omega)]
  refine ((((h.g15 ho (Or.inl (by rw [so]; decide))).g15 hg (Or.inr rfl)).g19 hg (Or.inr (Or.inr ⟨rfl, by rw [m_sA_at]⟩))).g17 ho (by omega)).g18 ho
theorem m_I_join {nR nD nK nG : Nat} {M : m_S} (h : m_I nR nD nK nG M) (g o : Int32) : m_I nR nD nK nG (F_join M nK g o).2 := by
  have h6 := h.1.2.2.2.2
  unfold F_join
  by_cases c1 : (m_no g (M.1 14) || m_no o (M.1 14)) = true
  · rw [if_pos c1]; exact h
  rw [if_neg c1]
  by_cases c0 : g = o
  · rw [if_pos c0]; exact h
  rw [if_neg c0]
  by_cases c2 : (!(m_pl M g) || !(m_pl M o) || !(decide (M.2 16 g.toNatClampNeg = M.2 16 o.toNatClampNeg))) = true
  · rw [if_pos c2]; exact h
  rw [if_neg c2]
  simp only [Bool.or_eq_true, not_or, Bool.not_eq_true] at c1 c2
  have hgv := x_inG h.1 c1.1
  have hov := x_inG h.1 c1.2
  have hg : g.toNatClampNeg < nG := vp_in_clamp hgv
  have ho : o.toNatClampNeg < nG := vp_in_clamp hov
  have hne : g.toNatClampNeg ≠ o.toNatClampNeg := fun q => c0 (by rw [← nI_of_clamp hgv (by omega), ← nI_of_clamp hov (by omega), q])
  exact m_I_over (m_I_joinS h hg ho hne (m_pl_iff.mp (by simpa using c2.1.2))) ho (nI_of_clamp hov (by omega)) nK (Nat.le_refl _)
theorem m_I.scal {nR nD nK nG : Nat} {M M' : m_S} (h : m_I nR nD nK nG M) (h2 : M'.2 = M.2) (e0 : M'.1 0 = M.1 0) (e2 : M'.1 2 = M.1 2) (e9 : M'.1 9 = M.1 9) (e14 : M'.1 14 = M.1 14) (x1 : M'.1 1 = -6 ∨ ∃ x, x < nR ∧ M'.1 1 = nI x) (x20 : ∃ b, 1 ≤ b ∧ b ≤ 30 ∧ M'.1 20 = nI b) (x21 : ∃ t, t ≤ 30 ∧ M'.1 21 = nI t) : m_I nR nD nK nG M' := by
  obtain ⟨a, b, d, e, g, x, y, z⟩ := h
  refine ⟨by unfold m_N at a ⊢; rw [e0, e2, e9, e14]; exact a, x1, by rw [h2]; exact d, by rw [h2]; exact e, by rw [h2]; exact g, by rw [x_lc_congr (M := M) (M' := M') (congrFun h2 6)]; exact x, x20, x21⟩
theorem m_I_setExit {nR nD nK nG : Nat} {M : m_S} (h : m_I nR nD nK nG M) (r : Int32) : m_I nR nD nK nG (F_setExit M r).2 := by
  have h12 := h.1.1.2
  unfold F_setExit
  by_cases c1 : m_no r (M.1 0) = true
  · rw [if_pos c1]; exact h
  rw [if_neg c1]
  have hrv := x_inR h.1 (by simpa using c1)
  exact h.scal rfl rfl rfl rfl rfl (Or.inr ⟨_, vp_in_clamp hrv, (nI_of_clamp hrv (by omega)).symm⟩) h.2.2.2.2.2.2.1 h.2.2.2.2.2.2.2
theorem m_I_setHints {nR nD nK nG : Nat} {M : m_S} (h : m_I nR nD nK nG M) (b t : Int32) : m_I nR nD nK nG (F_setHints M b t).2 := by
  unfold F_setHints
  by_cases c1 : (!(m_in b 1 30) || !(m_in t 0 30)) = true
  · rw [if_pos c1]; exact h
  rw [if_neg c1]
  simp only [Bool.or_eq_true, not_or, Bool.not_eq_true] at c1
  have hc1 : m_in b 1 30 = true := by simpa using c1.1
  have hc2 : m_in t 0 30 = true := by simpa using c1.2
  obtain ⟨x, h1, h2, e1⟩ := m_in_nI (v := b) (a := 1) (b := 30) (by decide) hc1 (by decide)
  obtain ⟨y, -, h3, e2⟩ := m_in_nI (v := t) (a := 0) (b := 30) (by decide) hc2 (by decide)
  exact h.scal rfl rfl rfl rfl rfl h.2.1 ⟨x, h1, h2, e1⟩ ⟨y, h3, e2⟩

