/-! what the calls keep that make things, part and join -/
section YG
variable {nR nD nK nG g d k o r : Nat} {M M' : m_S}
theorem y_Nx.same (hI : m_I nR nD nK nG M) (hJ : y_J nD nK nG M) : y_Nx nR nD nK nG M := y_Nx.of hI hJ
theorem y_uniq (hI : m_I nR nD nK nG M) {a b c e : Nat} (h : m_I a b c e M') {x y z w : Nat} (h0 : M'.1 0 = nI x) (h2 : M'.1 2 = nI y) (h9 : M'.1 9 = nI z) (h14 : M'.1 14 = nI w) (hx : x < 100) (hy : y < 100) (hz : z < 100) (hw : w < 100) : a = x ∧ b = y ∧ c = z ∧ e = w := by
  have hs := y_nsm h
  obtain ⟨⟨⟨e1, -⟩, ⟨e2, -⟩, ⟨e3, -⟩, ⟨e4, -⟩⟩, -⟩ := h
  exact ⟨(nI_inj (by omega) (by omega)).mp (e1.symm.trans h0), (nI_inj (by omega) (by omega)).mp (e2.symm.trans h2), (nI_inj (by omega) (by omega)).mp (e3.symm.trans h9), (nI_inj (by omega) (by omega)).mp (e4.symm.trans h14)⟩
theorem y_N_addKey (hI : m_I nR nD nK nG M) (hJ : y_J nD nK nG M) {x y : Int32} : y_Nx nR nD nK nG (F_addKey M x y).2 := by
  have hs := y_nsm hI
  obtain ⟨⟨e0, -⟩, ⟨e2, -⟩, ⟨e9, -⟩, ⟨e14, -⟩⟩ := hI.1
  unfold F_addKey
  repeat' split
  · exact y_Nx.same hI hJ
  · exact y_Nx.same hI hJ
  · exact y_Nx.same hI hJ
  · intro a b c e h
    obtain ⟨rfl, rfl, rfl, rfl⟩ := y_uniq (x := nR) (y := nD) (z := nK + 1) (w := nG) hI h e0 e2 (by show M.1 9 + 1 = _; rw [e9, nI_succ]) e14 (by omega) (by omega) (by omega) (by omega)
    have hc : (M.1 9).toNatClampNeg = nK := by rw [e9, nI_clamp (by omega)]
    have hs2 := y_nsm h
    refine ⟨?_, rfl, Nat.le_refl _, Nat.le_succ _, Nat.le_refl _⟩
    rw [hc]
    refine y_J_gen hI hJ (Nat.le_refl _) (Nat.le_succ _) (by omega) (by omega) (fun i hi => ?_) (fun i hi => ?_) (fun i hi => ?_) (fun i hi => ?_) (fun i hi => ?_) (fun i h1 h2 => by omega) (fun i h1 h2 => ?_) (hJ.1.same (fun i hi => ?_) (fun i hi => ?_)) (fun i hi => ?_)
    all_goals (first | (simp [m_sS2, m_sA2]; done) | (have hne : ¬ i = nK := (by omega); simp [m_sS2, m_sA2, hne]; done) | (have heq : i = nK := (by omega); simp [m_sS2, m_sA2, heq]; done))
theorem y_N_putDoor (hI : m_I nR nD nK nG M) (hJ : y_J nD nK nG M) {a b w c u : Int32} (hlk : (!(decide (c < 0)) && !(decide ((if c < 0 then (0 : Int32) else -6) < 0))) = false) : y_Nx nR nD nK nG (F_putDoor M a b w c u).2 := by
  have hs := y_nsm hI
  obtain ⟨⟨e0, -⟩, ⟨e2, -⟩, ⟨e9, -⟩, ⟨e14, -⟩⟩ := hI.1
  unfold F_putDoor
  intro a' b' c' e' h
  obtain ⟨rfl, rfl, rfl, rfl⟩ := y_uniq (x := nR) (y := nD + 1) (z := nK) (w := nG) hI h e0 (by show M.1 2 + 1 = _; rw [e2, nI_succ]) e9 e14 (by omega) (by omega) (by omega) (by omega)
  have hc : (M.1 2).toNatClampNeg = nD := by rw [e2, nI_clamp (by omega)]
  have hs2 := y_nsm h
  refine ⟨?_, rfl, Nat.le_succ _, Nat.le_refl _, Nat.le_refl _⟩
  rw [hc]
  refine y_J_gen hI hJ (Nat.le_succ _) (Nat.le_refl _) (by omega) (by omega) (fun i hi => ?_) (fun i hi => ?_) (fun i hi => ?_) (fun i hi => ?_) (fun i hi => ?_) (fun i h1 h2 => ?_) (fun i h1 h2 => by omega) (hJ.1.same (fun i hi => ?_) (fun i hi => ?_)) (fun i hi => ?_)
  case refine_6 =>
    have heq : i = nD := by omega
    subst heq
    unfold y_lk
    simpa [m_sS2, m_sA2] using hlk
  all_goals (first | (simp [m_sS2, m_sA2]; done) | (have hne : ¬ i = nD := (by omega); simp [m_sS2, m_sA2, hne]; done))
theorem y_N_addDoor (hI : m_I nR nD nK nG M) (hJ : y_J nD nK nG M) {a b w : Int32} : y_Nx nR nD nK nG (F_addDoor M a b w).2 := by
  unfold F_addDoor
  repeat' split
  · exact y_Nx.same hI hJ
  · exact y_Nx.same hI hJ
  · exact y_Nx.same hI hJ
  · exact y_N_putDoor hI hJ (by decide)
theorem y_N_addLock (hI : m_I nR nD nK nG M) (hJ : y_J nD nK nG M) {a b w c u : Int32} : y_Nx nR nD nK nG (F_addLock M nD a b w c u).2 := by
  unfold F_addLock
  repeat' split
  · exact y_Nx.same hI hJ
  · exact y_Nx.same hI hJ
  · exact y_Nx.same hI hJ
  · refine y_N_putDoor hI hJ ?_
    by_cases q : c < 0
    · rw [decide_eq_true q]; rfl
    · rw [if_neg q]; simp
theorem y_N_addRoom (hI : m_I nR nD nK nG M) (hJ : y_J nD nK nG M) (hR : nR < 12) : ∀ a b c e, m_I a b c e (F_addRoom M).2 → y_J b c e (F_addRoom M).2 ∧ a = nR + 1 ∧ b = nD ∧ c = nK ∧ e = nG := by
  have hs := y_nsm hI
  obtain ⟨⟨e0, -⟩, ⟨e2, -⟩, ⟨e9, -⟩, ⟨e14, -⟩⟩ := hI.1
  unfold F_addRoom
  rw [if_neg (fun q => by rw [e0] at q; have := (nI_inj (b := 12) (by omega) (by omega)).mp q; omega)]
  intro a b c e h
  obtain ⟨rfl, rfl, rfl, rfl⟩ := y_uniq (x := nR + 1) (y := nD) (z := nK) (w := nG) hI h (by show M.1 0 + 1 = _; rw [e0, nI_succ]) e2 e9 e14 (by omega) (by omega) (by omega) (by omega)
  exact ⟨hJ.same hI (fun j _ => rfl), rfl, rfl, rfl, rfl⟩
/-- a new group -/
theorem y_N_putGroup (hI : m_I nR nD nK nG M) {M0 : m_S} (hI0 : m_I nR nD nK nG M0) (hJ0 : y_J nD nK nG M0) (hG : nG < 6) (e1 : M.1 = M0.1) (e2 : ∀ j, j ≠ 15 → M.2 j = M0.2 j) {z : Nat → Nat} {j : Nat} {x t : Int32} (hz : ∀ g, g < nG → M.2 15 g = nI (z g) ∧ (M.2 19 g = 2 ↔ z g = 0)) (hj : 1 ≤ j) (hs24 : k_s z nG + j ≤ 24) : y_Nx nR nD nK nG (F_putGroup M (nI j) x t).2 := by
  have hs := y_nsm hI
  obtain ⟨⟨e0, -⟩, ⟨e2', -⟩, ⟨e9, -⟩, ⟨e14, -⟩⟩ := hI.1
  unfold F_putGroup
  intro a b c e h
  obtain ⟨rfl, rfl, rfl, rfl⟩ := y_uniq (x := nR) (y := nD) (z := nK) (w := nG + 1) hI h e0 e2' e9 (by show M.1 14 + 1 = _; rw [e14, nI_succ]) (by omega) (by omega) (by omega) (by omega)
  have hc : (M.1 14).toNatClampNeg = nG := by rw [e14, nI_clamp (by omega)]
  have hs2 := y_nsm h
  refine ⟨?_, rfl, Nat.le_refl _, Nat.le_refl _, Nat.le_succ _⟩
  rw [hc]
  refine y_J_gen hI0 hJ0 (Nat.le_refl _) (Nat.le_refl _) (by omega) (by omega) (fun i hi => ?_) (fun i hi => ?_) (fun i hi => ?_) (fun i hi => ?_) (fun i hi => ?_) (fun i h1 h2 => by omega) (fun i h1 h2 => by omega) ?_ (fun i hi => ?_)
  case refine_6 =>
    refine ⟨fun i => if i = nG then j else z i, fun i hi => ?_, ?_⟩
    · by_cases q : i = nG
      · subst q
        simp [m_sS2, m_sA2]
        omega
      · have h1 := hz i (by omega)
        simp [m_sS2, m_sA2, q]
        exact h1
    · show k_s _ nG + (if nG = nG then j else z nG) ≤ 24
      rw [if_pos rfl, k_s_congr (q := z) (fun i hi => if_neg (by omega))]
      exact hs24
  case refine_7 =>
    have hne : ¬ i = nG := by omega
    simp [m_sS2, m_sA2, hne, e2 19 (by decide)]
  all_goals simp [m_sS2, m_sA2, e2 6 (by decide), e2 8 (by decide), e2 10 (by decide), e2 11 (by decide), e2 12 (by decide)]
theorem y_N_addGroup (hI : m_I nR nD nK nG M) (hJ : y_J nD nK nG M) {j : Nat} {x : Int32} (hj : 1 ≤ j) (hj2 : j ≤ 100) : y_Nx nR nD nK nG (F_addGroup M nG (nI j) x).2 := by
  have hs := y_nsm hI
  obtain ⟨a, b, -, -, hab, ep⟩ := y_in_out hI hJ
  unfold F_addGroup
  repeat' split
  · exact y_Nx.same hI hJ
  · exact y_Nx.same hI hJ
  · exact y_Nx.same hI hJ
  · rename_i q
    obtain ⟨⟨z, hz, hz24⟩, -⟩ := id hJ
    have hP : m_players M nG = nI (k_s z nG) := by
      unfold m_players
      exact m_sum_s fun k hk => (hz k hk).1
    rw [hP, hI.1.2.2.2.1, nI_add] at q
    have q1 : ¬ nG = 6 := fun w => q (by rw [w]; rfl)
    have q2 : ¬ 24 < k_s z nG + j := fun w => q (by
      have : (24 : Int32) < nI (k_s z nG + j) := nI_lt (a := 24) w (by omega)
      rw [decide_eq_true this, Bool.or_true])
    exact y_N_putGroup hI hI hJ (by omega) rfl (fun _ _ => rfl) hz hj (by omega)
/-- part -/
theorem y_part_eq (hI : m_I nR nD nK nG M) (hg : g < nG) {z : Int32} (hz : m_in z 1 23 = true) : F_part M (nI g) z = if (!(m_pl M (nI g)) || !(decide (z < M.2 15 g))) = true then (-4, M) else if M.1 14 = 6 then (-3, M) else F_putGroup (m_sA M 15 g (M.2 15 g - z)) z (M.2 16 g) (M.2 17 g) := by
  unfold F_part
  rw [y_nog hI hg, hz, y_cg hI hg, if_neg (by decide), if_neg (by decide)]
theorem y_part_no (hI : m_I nR nD nK nG M) (hg : g < nG) {z : Int32} (hz : m_in z 1 23 = false) : F_part M (nI g) z = (-2, M) := by
  unfold F_part
  rw [y_nog hI hg, hz, if_neg (by decide), if_pos (by decide)]
theorem y_N_part (hI : m_I nR nD nK nG M) (hJ : y_J nD nK nG M) (hg : g < nG) {j : Nat} (hj : 1 ≤ j) (hj2 : j ≤ 23) : y_Nx nR nD nK nG (F_part M (nI g) (nI j)).2 := by
  have hs := y_nsm hI
  have hin : m_in (nI j) 1 23 = true := m_in_iff.mpr ⟨nI_nlt (b := 1) hj (by omega), nI_nlt (a := 23) hj2 (by omega)⟩
  rw [y_part_eq hI hg hin]
  repeat' split
  · exact y_Nx.same hI hJ
  · exact y_Nx.same hI hJ
  · rename_i q1 q2
    obtain ⟨⟨z, hz, hz24⟩, -⟩ := id hJ
    obtain ⟨eg, -⟩ := hz g hg
    have hzg := k_s_get (f := z) hg
    have hlt : j < z g := by
      by_cases w : j < z g
      · exact w
      · refine absurd ?_ q1
        rw [eg, decide_eq_false (nI_nlt (by omega) (by omega))]; simp
    have hne : ¬ nG = 6 := fun w => q2 (by rw [hI.1.2.2.2.1, w]; rfl)
    have hpl : M.2 19 g = 0 := by
      by_cases w : M.2 19 g = 0
      · exact w
      · refine absurd ?_ q1
        simp [m_pl, y_cg hI hg, w]
    have e15 : M.2 15 g - nI j = nI (z g - j) := by rw [eg]; exact nI_subN (by omega)
    rw [e15]
    have hI1 : m_I nR nD nK nG (m_sA M 15 g (nI (z g - j))) := hI.g15 hg (Or.inl (by rw [hpl]; decide))
    refine y_N_putGroup (z := fun i => if i = g then z g - j else z i) hI1 hI hJ (by omega) rfl (fun i hi => m_sA_arr hi) (fun i hi => ?_) hj ?_
    · by_cases w : i = g
      · subst w
        rw [m_sA_at, m_sA_arr (by decide), hpl, if_pos rfl]
        exact ⟨rfl, fun q => absurd q (by decide), fun q => by omega⟩
      · rw [m_sA_ix w, m_sA_arr (by decide), if_neg w]
        exact hz i hi
    · have h1 := k_s_add (f := fun i => if i = g then z g - j else z i) (g := z) (d := g) (v := j) (fun i hi => (if_neg hi).symm) (by show z g = (if g = g then z g - j else z g) + j; rw [if_pos rfl]; omega) nG
      rw [if_pos hg] at h1
      omega
end YG
