/-! the hints taken, through the calls -/
section HN
variable {nR nD nK nG n : Nat} {M M' : m_S} {g o : Int32}
theorem m_Hn.hints (h : m_Hn M nG n) : m_hints M nG = nI n := by
  obtain ⟨f, h1, h2⟩ := h
  unfold m_hints
  rw [m_sum_s (f' := fun g => if M.2 19 g = 2 then 0 else f g) (fun k hk => ?_), h2]
  by_cases q : M.2 19 k = 2
  · rw [if_pos q, if_pos q]; rfl
  · rw [if_neg q, if_neg q]; exact h1 k hk
/-- nothing of it changes -/
theorem m_Hn.same (h : m_Hn M nG n) (h18 : M'.2 18 = M.2 18) (h19 : ∀ i, i < nG → (M'.2 19 i = 2 ↔ M.2 19 i = 2)) : m_Hn M' nG n := by
  obtain ⟨f, h1, h2⟩ := h
  refine ⟨f, fun i hi => by rw [h18]; exact h1 i hi, ?_⟩
  rw [← h2]
  refine k_s_congr fun i hi => ?_
  by_cases q : M.2 19 i = 2
  · rw [if_pos q, if_pos ((h19 i hi).mpr q)]
  · rw [if_neg q, if_neg (fun z => q ((h19 i hi).mp z))]
/-- a new group with none -/
theorem m_Hn.more (h : m_Hn M nG n) (h18 : ∀ i, i < nG → M'.2 18 i = M.2 18 i) (h19 : ∀ i, i < nG → M'.2 19 i = M.2 19 i) (hz : M'.2 18 nG = 0) : m_Hn M' (nG + 1) n := by
  obtain ⟨f, h1, h2⟩ := h
  refine ⟨fun i => if i < nG then f i else 0, fun i hi => ?_, ?_⟩
  · show M'.2 18 i = nI (if i < nG then f i else 0)
    by_cases q : i < nG
    · rw [if_pos q, h18 i q]; exact h1 i q
    · have e : i = nG := by omega
      rw [if_neg q, e, hz]; rfl
  · show k_s _ nG + (if M'.2 19 nG = 2 then 0 else if nG < nG then f nG else 0) = n
    have e1 : (if M'.2 19 nG = 2 then 0 else if nG < nG then f nG else 0) = 0 := by
      split
      · rfl
      · rw [if_neg (Nat.lt_irrefl _)]
    rw [e1, Nat.add_zero, ← h2]
    refine k_s_congr fun i hi => ?_
    rw [h19 i hi]
    show (if M.2 19 i = 2 then 0 else if i < nG then f i else 0) = _
    rw [if_pos hi]
/-- a hint more -/
theorem m_Hn.hint (h : m_Hn M nG n) (hg : g.toNatClampNeg < nG) (hp : m_pl M g = true) : m_Hn (m_hS M g) nG (n + 1) := by
  obtain ⟨f, h1, h2⟩ := h
  have hp0 := m_pl_iff.mp hp
  have e19 : (m_hS M g).2 19 = M.2 19 := rfl
  refine ⟨fun i => if i = g.toNatClampNeg then f i + 1 else f i, fun i hi => ?_, ?_⟩
  · show (m_sA (m_sA M 17 g.toNatClampNeg (F_ht M g)) 18 g.toNatClampNeg (M.2 18 g.toNatClampNeg + 1)).2 18 i = nI (if i = g.toNatClampNeg then f i + 1 else f i)
    by_cases q : i = g.toNatClampNeg
    · rw [q, m_sA_at, if_pos rfl, h1 _ hg]; exact z_inc _
    · rw [m_sA_ix q, if_neg q, m_sA_arr (by decide)]; exact h1 i hi
  · rw [e19]
    rw [k_s_add (f := fun g => if M.2 19 g = 2 then 0 else f g) (d := g.toNatClampNeg) (v := 1) (fun i hi => by show (if M.2 19 i = 2 then 0 else if i = g.toNatClampNeg then f i + 1 else f i) = _; rw [if_neg hi]) (by rw [hp0]; simp) nG, if_pos hg, h2]
end HN

