/-! join -/
section YJ
variable {nR nD nK nG g d k o r : Nat} {M M' : m_S}
def y_jn (M : m_S) (nK g o : Nat) : m_S := m_over (m_join M (nI g) (nI o)) (nI g) (nI o) nK
theorem y_over12 (hK : nK ≤ 16) : ∀ n, n ≤ nK → ∀ k, k < nK → (m_over M (nI g) (nI o) n).2 12 k = if k < n ∧ y_hp M (nI g) k = true then nI o else M.2 12 k
  | 0, _, k, _ => by rw [if_neg (fun q => by omega)]; rfl
  | n + 1, hn, k, hk => by
    have ih := y_over12 hK n (by omega)
    have e : m_over M (nI g) (nI o) (n + 1) = m_sA (m_over M (nI g) (nI o) n) 12 n (if m_ho (m_over M (nI g) (nI o) n) (nI g) (nI n) then nI o else (m_over M (nI g) (nI o) n).2 12 n) := rfl
    have hc : (nI n).toNatClampNeg = n := nI_clamp (by omega)
    have h1 : m_ho (m_over M (nI g) (nI o) n) (nI g) (nI n) = y_hp M (nI g) n := by
      unfold m_ho y_hp
      rw [hc, m_over_arr (by decide), ih n (by omega), if_neg (fun q => by omega)]
    rw [e, h1]
    by_cases c : k = n
    · subst c
      have ihk : (m_over M (nI g) (nI o) k).2 12 k = M.2 12 k := by rw [ih k hk, if_neg (fun q => absurd q.1 (Nat.lt_irrefl _))]
      rw [m_sA_at, ihk]
      by_cases q : y_hp M (nI g) k = true
      · rw [if_pos q, if_pos ⟨by omega, q⟩]
      · rw [if_neg q, if_neg (fun w => q w.2)]
    · rw [m_sA_ix c, ih k hk]
      by_cases q : k < n ∧ y_hp M (nI g) k = true
      · rw [if_pos q, if_pos ⟨by omega, q.2⟩]
      · rw [if_neg q, if_neg (fun w => q ⟨by omega, w.2⟩)]
theorem y_jn_arr {j : Nat} (hj : j ≠ 12) : (y_jn M nK g o).2 j = (m_join M (nI g) (nI o)).2 j := m_over_arr hj _
theorem y_jnJ (hg : g < 2 ^ 31) (ho : o < 2 ^ 31) {j : Nat} (h15 : j ≠ 15) (h17 : j ≠ 17) (h18 : j ≠ 18) (h19 : j ≠ 19) : (m_join M (nI g) (nI o)).2 j = M.2 j := by
  unfold m_join
  rw [m_sA_arr h18, m_sA_arr h17, m_sA_arr h19, m_sA_arr h15, m_sA_arr h15]
theorem y_jn12 (hI : m_I nR nD nK nG M) (hg : g < nG) (ho : o < nG) (hk : k < nK) : (y_jn M nK g o).2 12 k = if y_hp M (nI g) k = true then nI o else M.2 12 k := by
  have hs := y_nsm hI
  have e12 : (m_join M (nI g) (nI o)).2 12 = M.2 12 := y_jnJ (by omega) (by omega) (by decide) (by decide) (by decide) (by decide)
  have e11 : (m_join M (nI g) (nI o)).2 11 = M.2 11 := y_jnJ (by omega) (by omega) (by decide) (by decide) (by decide) (by decide)
  have h := y_over12 (M := m_join M (nI g) (nI o)) (g := g) (o := o) (nK := nK) (by omega) nK (Nat.le_refl _) k hk
  have e : y_hp (m_join M (nI g) (nI o)) (nI g) k = y_hp M (nI g) k := by unfold y_hp; rw [e11, e12]
  unfold y_jn
  rw [h, e, e12]
  by_cases c : y_hp M (nI g) k = true
  · rw [if_pos ⟨hk, c⟩, if_pos c]
  · rw [if_neg (fun q => c q.2), if_neg c]
theorem y_jn11 (hg : g < 2 ^ 31) (ho : o < 2 ^ 31) : (y_jn M nK g o).2 11 = M.2 11 := by rw [y_jn_arr (by decide), y_jnJ hg ho (by decide) (by decide) (by decide) (by decide)]
theorem y_jn15 (hg : g < 2 ^ 31) (ho : o < 2 ^ 31) (hne : g ≠ o) (i : Nat) : (y_jn M nK g o).2 15 i = if i = g then 0 else if i = o then M.2 15 o + M.2 15 g else M.2 15 i := by
  rw [y_jn_arr (by decide)]
  unfold m_join
  rw [nI_clamp hg, nI_clamp ho, m_sA_arr (by decide), m_sA_arr (by decide), m_sA_arr (by decide)]
  by_cases c : i = g
  · rw [c, m_sA_at, if_pos rfl]
  · rw [m_sA_ix c, if_neg c]
    by_cases q : i = o
    · rw [q, m_sA_at, if_pos rfl]
    · rw [m_sA_ix q, if_neg q]
theorem y_jn19 (hg : g < 2 ^ 31) (i : Nat) : (y_jn M nK g o).2 19 i = if i = g then 2 else M.2 19 i := by
  rw [y_jn_arr (by decide)]
  unfold m_join
  rw [nI_clamp hg, m_sA_arr (by decide), m_sA_arr (by decide)]
  by_cases c : i = g
  · rw [c, m_sA_at, if_pos rfl]
  · rw [m_sA_ix c, if_neg c, m_sA_arr (by decide), m_sA_arr (by decide)]
theorem y_jn17 (hg : g < 2 ^ 31) (ho : o < 2 ^ 31) : (y_jn M nK g o).2 17 o = m_later (M.2 17 o) (M.2 17 g) := by
  rw [y_jn_arr (by decide)]
  unfold m_join
  rw [nI_clamp hg, nI_clamp ho, m_sA_arr (by decide), m_sA_at]
theorem y_jn18 (hg : g < 2 ^ 31) (ho : o < 2 ^ 31) : (y_jn M nK g o).2 18 o = M.2 18 o + M.2 18 g := by
  rw [y_jn_arr (by decide)]
  unfold m_join
  rw [nI_clamp hg, nI_clamp ho, m_sA_at]
def y_jnB (M : m_S) (g o : Nat) : Bool := m_pl M (nI g) && m_pl M (nI o) && decide (M.2 16 g = M.2 16 o)
theorem y_join_eq (hI : m_I nR nD nK nG M) (hg : g < nG) (ho : o < nG) (hne : g ≠ o) : F_join M nK (nI g) (nI o) = if y_jnB M g o = true then (M.2 15 o + M.2 15 g, y_jn M nK g o) else (-4, M) := by
  have hs := y_nsm hI
  have h15 := y_jn15 (M := M) (nK := nK) (g := g) (o := o) (by omega) (by omega) hne o
  rw [if_neg (fun q => hne q.symm), if_pos rfl] at h15
  unfold F_join
  rw [y_nog hI hg, y_nog hI ho, if_neg (by decide), if_neg (fun q => hne ((nI_inj (by omega) (by omega)).mp q)), y_cg hI hg, y_cg hI ho]
  have e : m_over (m_join M (nI g) (nI o)) (nI g) (nI o) nK = y_jn M nK g o := rfl
  rw [e, h15]
  unfold y_jnB
  cases a : m_pl M (nI g) <;> cases b : m_pl M (nI o) <;> cases c : decide (M.2 16 g = M.2 16 o) <;> rfl
theorem y_join_self (hI : m_I nR nD nK nG M) (hg : g < nG) : F_join M nK (nI g) (nI g) = (-2, M) := by
  unfold F_join
  rw [y_nog hI hg, if_neg (by decide), if_pos rfl]
theorem y_jnP (hI : m_I nR nD nK nG M) (hg : g < nG) (ho : o < nG) (h : y_jnB M g o = true) : M.2 19 g = 0 ∧ M.2 19 o = 0 := by
  unfold y_jnB at h
  simp only [Bool.and_eq_true, decide_eq_true_eq, m_pl, y_cg hI hg, y_cg hI ho] at h
  exact ⟨h.1.1, h.1.2⟩
theorem y_jn_hp (hI : m_I nR nD nK nG M) (hg : g < nG) (ho : o < nG) (hne : g ≠ o) (hk : k < nK) : y_hp (y_jn M nK g o) (nI o) k = (y_hp M (nI g) k || y_hp M (nI o) k) ∧ y_hp (y_jn M nK g o) (nI g) k = false := by
  have hs := y_nsm hI
  have h1 : ∀ x, y_hp (y_jn M nK g o) x k = (decide (M.2 11 k = 1) && decide ((if y_hp M (nI g) k = true then nI o else M.2 12 k) = x)) := fun x => by
    unfold y_hp
    rw [y_jn11 (by omega) (by omega), y_jn12 hI hg ho hk]; rfl
  have no : ¬ nI o = nI g := fun q => hne ((nI_inj (by omega) (by omega)).mp q).symm
  rw [h1, h1]
  cases q : y_hp M (nI g) k with
  | true =>
    have q2 := q
    unfold y_hp at q2
    simp only [Bool.and_eq_true, decide_eq_true_eq] at q2
    rw [if_pos rfl, q2.1, decide_eq_false no]; simp
  | false =>
    have q2 := q
    unfold y_hp at q2
    rw [if_neg (by decide)]
    exact ⟨by rw [Bool.false_or]; rfl, q2⟩
theorem k_n_or {p q r : Nat → Bool} : ∀ {n : Nat}, (∀ i, i < n → r i = (p i || q i)) → (∀ i, i < n → p i = true → q i = false) → k_n r n = k_n p n + k_n q n
  | 0, _, _ => rfl
  | n + 1, h, hd => by
    have ih := k_n_or (n := n) (fun i hi => h i (by omega)) (fun i hi => hd i (by omega))
    have h1 := h n (by omega)
    have h2 := hd n (by omega)
    unfold k_n
    rw [ih, h1]
    cases a : p n with
    | true => rw [h2 a]; simp; omega
    | false =>
      cases b : q n with
      | true => simp; omega
      | false => simp
theorem y_hp_dis (hg : g < 2 ^ 31) (ho : o < 2 ^ 31) (hne : g ≠ o) (h : y_hp M (nI g) k = true) : y_hp M (nI o) k = false := by
  cases q : y_hp M (nI o) k with
  | false => rfl
  | true =>
    unfold y_hp at h q
    simp only [Bool.and_eq_true, decide_eq_true_eq] at h q
    exact absurd ((nI_inj hg ho).mp (h.2.symm.trans q.2)) hne
theorem y_jn_held (hI : m_I nR nD nK nG M) (hI2 : m_I nR nD nK nG (y_jn M nK g o)) (hg : g < nG) (ho : o < nG) (hne : g ≠ o) : m_held (y_jn M nK g o) nK (nI o) = m_held M nK (nI g) + m_held M nK (nI o) ∧ m_held (y_jn M nK g o) nK (nI g) = 0 := by
  have hs := y_nsm hI
  rw [y_held hI2, y_held hI2, y_held hI, y_held hI, nI_add]
  refine ⟨congrArg nI (k_n_or (fun i hi => (y_jn_hp hI hg ho hne hi).1) (fun i hi => y_hp_dis (by omega) (by omega) hne)), ?_⟩
  rw [k_n_zero (fun i hi => (y_jn_hp hI hg ho hne hi).2)]; rfl
theorem y_J_join (hI : m_I nR nD nK nG M) (hJ : y_J nD nK nG M) (hg : g < nG) (ho : o < nG) : y_J nD nK nG (F_join M nK (nI g) (nI o)).2 := by
  have hs := y_nsm hI
  by_cases hne : g = o
  · subst hne; rw [y_join_self hI hg]; exact hJ
  rw [y_join_eq hI hg ho hne]
  split
  · rename_i hB
    obtain ⟨pg, po⟩ := y_jnP hI hg ho hB
    show y_J nD nK nG (y_jn M nK g o)
    have r : ∀ j, j = 6 ∨ j = 8 ∨ j = 10 ∨ j = 11 → (y_jn M nK g o).2 j = M.2 j := fun j hj => by rw [y_jn_arr (by omega), y_jnJ (by omega) (by omega) (by omega) (by omega) (by omega) (by omega)]
    have h19 := y_jn19 (M := M) (nK := nK) (o := o) (g := g) (by omega)
    have h15 := y_jn15 (M := M) (nK := nK) (g := g) (o := o) (by omega) (by omega) hne
    have used : ∀ i, i < nK → M.2 11 i = 2 → (y_jn M nK g o).2 12 i = M.2 12 i := fun i hi a => by
      rw [y_jn12 hI hg ho hi, if_neg (fun q => by
        unfold y_hp at q
        simp only [Bool.and_eq_true, decide_eq_true_eq] at q
        rw [a] at q; exact absurd q.1 (by decide))]
    refine ⟨?_, fun i hi a x hx b => ?_, fun i hi a x hx b => ?_, fun x hx => ?_⟩
    · obtain ⟨⟨z, hz, hz24⟩, -⟩ := hJ
      refine ⟨fun i => if i = g then 0 else if i = o then z o + z g else z i, fun i hi => ?_, ?_⟩
      · show (y_jn M nK g o).2 15 i = nI (if i = g then 0 else if i = o then z o + z g else z i) ∧ ((y_jn M nK g o).2 19 i = 2 ↔ (if i = g then 0 else if i = o then z o + z g else z i) = 0)
        rw [h15 i, h19 i]
        by_cases c : i = g
        · rw [if_pos c, if_pos c, if_pos c]; exact ⟨rfl, fun _ => rfl, fun _ => rfl⟩
        · rw [if_neg c, if_neg c, if_neg c]
          by_cases q : i = o
          · rw [if_pos q, if_pos q, q, po, (hz o ho).1, (hz g hg).1, nI_add]
            refine ⟨rfl, fun w => absurd w (by decide), fun w => ?_⟩
            have h1 := (hz o ho).2.mpr (by omega)
            rw [po] at h1; exact absurd h1 (by decide)
          · rw [if_neg q, if_neg q]; exact hz i hi
      · have h1 := k_s_add (f := fun i => if i = g then 0 else z i) (g := z) (d := g) (v := z g) (fun i hi => (if_neg hi).symm) (by show z g = (if g = g then 0 else z g) + z g; rw [if_pos rfl]; omega) nG
        have h2 := k_s_add (f := fun i => if i = g then 0 else z i) (g := fun i => if i = g then 0 else if i = o then z o + z g else z i) (d := o) (v := z g) (fun i hi => by
          show (if i = g then 0 else if i = o then z o + z g else z i) = (if i = g then 0 else z i)
          rw [if_neg hi]) (by
          show (if o = g then 0 else if o = o then z o + z g else z o) = (if o = g then 0 else z o) + z g
          rw [if_neg (fun q => hne q.symm), if_pos rfl, if_neg (fun q => hne q.symm)]) nG
        rw [if_pos hg] at h1
        rw [if_pos ho] at h2
        omega
    · rw [r 11 (by omega)] at a
      rw [y_jn12 hI hg ho hi] at b
      rw [h19 x]
      by_cases c : y_hp M (nI g) i = true
      · rw [if_pos c] at b
        have : o = x := (nI_inj (by omega) (by omega)).mp b
        rw [← this, if_neg (fun q => hne q.symm), po]; decide
      · rw [if_neg c] at b
        have hxg : ¬ x = g := fun q => c (by unfold y_hp; rw [a, b, q]; simp)
        rw [if_neg hxg]
        exact hJ.2.1 i hi a x hx b
    · rw [r 11 (by omega)] at a
      rw [used i hi a] at b
      rw [r 10 (by omega), r 6 (by omega)]
      exact hJ.2.2.1 i hi a x hx b
    · have h1 : y_by (y_jn M nK g o) nK x = y_by M nK x := by
        unfold y_by
        refine k_n_congr fun i hi => ?_
        rw [r 11 (by omega)]
        by_cases c : M.2 11 i = 2
        · rw [used i hi c]
        · rw [decide_eq_false c]; rfl
      have h2 : y_lk (y_jn M nK g o) x = y_lk M x := by unfold y_lk; rw [r 6 (by omega), r 8 (by omega)]
      rw [h1, h2]; exact hJ.2.2.2 x hx
  · exact hJ
end YJ
