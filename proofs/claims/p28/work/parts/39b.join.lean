section HJ
variable {nR nD nK nG n : Nat} {M : m_S} {g o : Int32}
theorem m_over_2 {k i : Nat} (hk : k ≠ 12) : (m_over M g o i).2 k = M.2 k := m_over_arr hk i
/-- joining moves the hints -/
theorem m_Hn.joinS (h : m_Hn M nG n) (hg : g.toNatClampNeg < nG) (ho : o.toNatClampNeg < nG) (hne : g.toNatClampNeg ≠ o.toNatClampNeg) (pg : M.2 19 g.toNatClampNeg = 0) (po : M.2 19 o.toNatClampNeg = 0) : m_Hn (m_join M g o) nG n := by
  obtain ⟨f, h1, h2⟩ := h
  have e19 : (m_join M g o).2 19 = (m_sA M 19 g.toNatClampNeg 2).2 19 := rfl
  have e18 : ∀ i, (m_join M g o).2 18 i = if i = o.toNatClampNeg then M.2 18 o.toNatClampNeg + M.2 18 g.toNatClampNeg else M.2 18 i := fun i => by
    by_cases q : i = o.toNatClampNeg
    · rw [if_pos q, q]
      show (m_sA _ 18 o.toNatClampNeg _).2 18 o.toNatClampNeg = _
      rw [m_sA_at]
    · rw [if_neg q]
      show (m_sA _ 18 o.toNatClampNeg _).2 18 i = _
      rw [m_sA_ix q]; rfl
  refine ⟨fun i => if i = o.toNatClampNeg then f o.toNatClampNeg + f g.toNatClampNeg else f i, fun i hi => ?_, ?_⟩
  · rw [e18 i]
    by_cases q : i = o.toNatClampNeg
    · rw [if_pos q, h1 _ ho, h1 _ hg, nI_add]
      show _ = nI (if i = o.toNatClampNeg then f o.toNatClampNeg + f g.toNatClampNeg else f i)
      rw [if_pos q]
    · rw [if_neg q]
      show _ = nI (if i = o.toNatClampNeg then f o.toNatClampNeg + f g.toNatClampNeg else f i)
      rw [if_neg q]; exact h1 i hi
  · have s1 := k_s_add (f := fun i => if M.2 19 i = 2 then 0 else if i = g.toNatClampNeg then 0 else f i) (g := fun i => if M.2 19 i = 2 then 0 else f i) (d := g.toNatClampNeg) (v := f g.toNatClampNeg) (fun i hi => by rw [if_neg hi]) (by rw [pg]; simp) nG
    have s2 := k_s_add (f := fun i => if M.2 19 i = 2 then 0 else if i = g.toNatClampNeg then 0 else f i) (g := fun i => if (m_join M g o).2 19 i = 2 then 0 else if i = o.toNatClampNeg then f o.toNatClampNeg + f g.toNatClampNeg else f i) (d := o.toNatClampNeg) (v := f g.toNatClampNeg) (fun i hi => by
      rw [e19]
      by_cases q : i = g.toNatClampNeg
      · rw [q, m_sA_at]; simp
      · rw [m_sA_ix q, if_neg hi, if_neg q]) (by
      have hne2 : ¬ o.toNatClampNeg = g.toNatClampNeg := fun q => hne q.symm
      rw [e19, m_sA_ix hne2, po]
      simp [hne2]) nG
    rw [if_pos hg] at s1
    rw [if_pos ho] at s2
    show k_s (fun i => if (m_join M g o).2 19 i = 2 then 0 else if i = o.toNatClampNeg then f o.toNatClampNeg + f g.toNatClampNeg else f i) nG = n
    omega
theorem m_Hn.join (hI : m_I nR nD nK nG M) (h : m_Hn M nG n) : m_Hn (F_join M nK g o).2 nG n := by
  unfold F_join
  by_cases c1 : (m_no g (M.1 14) || m_no o (M.1 14)) = true
  · rw [if_pos c1]; exact h
  · rw [if_neg c1]
    by_cases c2 : g = o
    · rw [if_pos c2]; exact h
    · rw [if_neg c2]
      by_cases c3 : (!(m_pl M g) || !(m_pl M o) || !(decide (M.2 16 g.toNatClampNeg = M.2 16 o.toNatClampNeg))) = true
      · rw [if_pos c3]; exact h
      · rw [if_neg c3]
        have n1 : m_no g (M.1 14) = false := by
          cases q : m_no g (M.1 14) with
          | false => rfl
          | true => exact absurd (by rw [q]; rfl) c1
        have n2 : m_no o (M.1 14) = false := by
          cases q : m_no o (M.1 14) with
          | false => rfl
          | true => exact absurd (by rw [q]; simp) c1
        have p1 : m_pl M g = true := by
          cases q : m_pl M g with
          | true => rfl
          | false => exact absurd (by rw [q]; rfl) c3
        have p2 : m_pl M o = true := by
          cases q : m_pl M o with
          | true => rfl
          | false => exact absurd (by rw [q]; simp) c3
        have v1 := x_inG hI.1 n1
        have v2 := x_inG hI.1 n2
        have h6 := hI.1.2.2.2.2
        have hne : g.toNatClampNeg ≠ o.toNatClampNeg := fun q => c2 (by rw [← nI_of_clamp v1 (by omega), ← nI_of_clamp v2 (by omega), q])
        exact (h.joinS (vp_in_clamp v1) (vp_in_clamp v2) hne (m_pl_iff.mp p1) (m_pl_iff.mp p2)).same (m_over_arr (by decide) nK) (fun i _ => by rw [m_over_arr (by decide) nK])
end HJ

