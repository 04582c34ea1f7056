/-! what the law's own cases look at -/
section YL
variable {nR nD nK nG g d k o r a b : Nat} {M : m_S} {w c u : Int32}
theorem y_ad1 (hI : m_I nR nD nK nG M) (ha : a < nR) : F_addDoor M (nI a) (nI a) w = (-2, M) := by
  unfold F_addDoor
  rw [y_nor hI ha, if_neg (by decide), decide_eq_true rfl]; rfl
theorem y_ad2 (hI : m_I nR nD nK nG M) (ha : a < nR) (hb : b < nR) (hne : ¬ a = b) (hw : m_in w 1 30 = true) (hD : nD < 16) : F_addDoor M (nI a) (nI b) w = F_putDoor M (nI a) (nI b) w (-6) 0 := by
  have hs := y_nsm hI
  have h1 : ¬ nI a = nI b := fun q => hne ((nI_inj (by omega) (by omega)).mp q)
  have h2 : ¬ M.1 2 = 16 := fun q => by rw [hI.1.2.1.1] at q; have := (nI_inj (b := 16) (by omega) (by omega)).mp q; omega
  unfold F_addDoor
  rw [y_nor hI ha, y_nor hI hb, if_neg (by decide), decide_eq_false h1, hw, if_neg (by decide), if_neg h2]
theorem y_al1 (hI : m_I nR nD nK nG M) (ha : a < nR) : F_addLock M nD (nI a) (nI a) w c u = (-2, M) := by
  unfold F_addLock
  rw [y_nor hI ha, if_neg (by decide), decide_eq_true rfl]; rfl
theorem y_al2 (hI : m_I nR nD nK nG M) (ha : a < nR) (hb : b < nR) (hne : ¬ a = b) (hw : m_in w 1 30 = true) (hc : m_in c 0 5 = true) (hu : m_in u 1 60 = true) (hD : nD < 16) (hL : ¬ m_locks M nD = 10) : F_addLock M nD (nI a) (nI b) w c u = F_putDoor M (nI a) (nI b) w c u := by
  have hs := y_nsm hI
  have h1 : ¬ nI a = nI b := fun q => hne ((nI_inj (by omega) (by omega)).mp q)
  have h2 : ¬ M.1 2 = 16 := fun q => by rw [hI.1.2.1.1] at q; have := (nI_inj (b := 16) (by omega) (by omega)).mp q; omega
  unfold F_addLock
  rw [y_nor hI ha, y_nor hI hb, if_neg (by decide), decide_eq_false h1, hw, hc, hu, if_neg (by decide), decide_eq_false h2, decide_eq_false hL, if_neg (by decide)]
theorem y_pd0 (hI : m_I nR nD nK nG M) {x y : Int32} : (F_putDoor M x y w c u).1 = nI nD := by
  show M.1 2 + 1 - 1 = _
  rw [hI.1.2.1.1]
  exact Int32.add_sub_cancel _ 1
theorem y_inW {j n : Nat} (hj : j < n) (hn : n < 2 ^ 30) : m_in (nI (1 + j)) 1 (nI n) = true := m_in_iff.mpr ⟨nI_nlt (b := 1) (by omega) (by omega), nI_nlt (a := n) (by omega) (by omega)⟩
theorem y_in0 {j n : Nat} (hj : j ≤ n) (hn : n < 2 ^ 30) : m_in (nI j) 0 (nI n) = true := m_in_iff.mpr ⟨nI_pos (by omega), nI_nlt (a := n) (by omega) (by omega)⟩
/-- all locks, as the law counts them -/
def y_cl (M : m_S) (c : Nat) (d : Nat) : Bool := decide (M.2 6 d = nI c) && decide (M.2 8 d < 0)
theorem y_locks_eq (hI : m_I nR nD nK nG M) : ∀ n, n ≤ nD → k_n (fun d => !(decide (M.2 6 d < 0))) n = k_n (y_lk M) n + k_s (fun c => k_n (y_cl M c) n) 6
  | 0, _ => rfl
  | n + 1, hn => by
    have ih := y_locks_eq hI n (by omega)
    have e1 : ∀ p : Nat → Bool, k_n p (n + 1) = k_n p n + (if p n = true then 1 else 0) := fun _ => rfl
    rw [e1, e1, ih]
    by_cases hc : M.2 6 n < 0
    · have h1 : y_lk M n = false := by unfold y_lk; rw [decide_eq_true hc]; rfl
      have h2 : ∀ c, c < 6 → y_cl M c n = false := fun c h6 => by
        unfold y_cl
        have : ¬ M.2 6 n = nI c := fun q => nI_pos (n := c) (by omega) (q ▸ hc)
        rw [decide_eq_false this]; rfl
      rw [decide_eq_true hc, h1, k_s_congr (p := fun c => k_n (y_cl M c) (n + 1)) (q := fun c => k_n (y_cl M c) n) (fun c h6 => by show k_n (y_cl M c) (n + 1) = _; rw [e1, h2 c h6]; rfl)]
      simp
    · obtain ⟨c0, hc0, ec⟩ := y_color hI (d := n) (by omega) hc
      rw [decide_eq_false hc]
      by_cases ho : M.2 8 n < 0
      · have h1 : y_lk M n = false := by unfold y_lk; rw [decide_eq_true ho, Bool.not_true, Bool.and_false]
        have h2 : ∀ c, c ≠ c0 → c < 6 → y_cl M c n = false := fun c h0 h6 => by
          unfold y_cl
          have : ¬ M.2 6 n = nI c := fun q => h0 ((nI_inj (by omega) (by omega)).mp (q.symm.trans ec))
          rw [decide_eq_false this]; rfl
        have h3 : y_cl M c0 n = true := by unfold y_cl; rw [decide_eq_true ec, decide_eq_true ho]; rfl
        have h4 := k_s_add (f := fun c => if c < 6 then k_n (y_cl M c) n else 0) (g := fun c => if c < 6 then k_n (y_cl M c) (n + 1) else 0) (d := c0) (v := 1) (fun c h0 => by
          show (if c < 6 then k_n (y_cl M c) (n + 1) else 0) = (if c < 6 then k_n (y_cl M c) n else 0)
          by_cases h6 : c < 6
          · rw [if_pos h6, if_pos h6, e1, h2 c h0 h6]; rfl
          · rw [if_neg h6, if_neg h6]) (by
          show (if c0 < 6 then k_n (y_cl M c0) (n + 1) else 0) = (if c0 < 6 then k_n (y_cl M c0) n else 0) + 1
          rw [if_pos hc0, if_pos hc0, e1, h3]; rfl) 6
        rw [if_pos hc0] at h4
        have g1 : k_s (fun c => k_n (y_cl M c) (n + 1)) 6 = k_s (fun c => if c < 6 then k_n (y_cl M c) (n + 1) else 0) 6 := k_s_congr (fun c h6 => (if_pos h6).symm)
        have g2 : k_s (fun c => k_n (y_cl M c) n) 6 = k_s (fun c => if c < 6 then k_n (y_cl M c) n else 0) 6 := k_s_congr (fun c h6 => (if_pos h6).symm)
        rw [g1, h4, ← g2, h1]
        simp
        omega
      · have h1 : y_lk M n = true := by unfold y_lk; rw [decide_eq_false hc, decide_eq_false ho]; rfl
        have h2 : ∀ c, c < 6 → y_cl M c n = false := fun c h6 => by
          unfold y_cl
          rw [decide_eq_false ho, Bool.and_false]
        rw [h1, k_s_congr (p := fun c => k_n (y_cl M c) (n + 1)) (q := fun c => k_n (y_cl M c) n) (fun c h6 => by show k_n (y_cl M c) (n + 1) = _; rw [e1, h2 c h6]; rfl)]
        simp
        omega
theorem y_unlN : m_unl M nD = nI (k_n (y_lk M) nD) := m_cnt_n _ _
theorem y_clN {i : Nat} (hi : i < 6) : F_color M nD nK (nI i) 0 = nI (k_n (y_cl M i) nD) := (y_col0 hi).trans (m_cnt_n _ _)
theorem y_lkS {i : Nat} : nI (k_n (y_lk M) nD + k_s (fun c => k_n (y_cl M c) nD) i) + nI (k_n (y_cl M i) nD) = nI (k_n (y_lk M) nD + k_s (fun c => k_n (y_cl M c) nD) (i + 1)) := by
  rw [nI_add, Nat.add_assoc]; rfl
theorem y_few (hI : m_I nR nD nK nG M) (h : nI (k_n (y_lk M) nD + k_s (fun c => k_n (y_cl M c) nD) 6) < 6) : ¬ m_locks M nD = 10 := by
  have hs := y_nsm hI
  have e := y_locks_eq hI nD (Nat.le_refl _)
  have h2 := k_n_le (fun d => !(decide (M.2 6 d < 0))) nD
  have h3 : k_n (y_lk M) nD + k_s (fun c => k_n (y_cl M c) nD) 6 < 6 := (nI_ltI (b := 6) (by omega) (by omega)).mp h
  intro q
  have h4 : m_locks M nD = nI (k_n (fun d => !(decide (M.2 6 d < 0))) nD) := m_cnt_n _ _
  rw [h4] at q
  have := (nI_inj (b := 10) (by omega) (by omega)).mp q
  omega
/-- keys -/
theorem y_ak1 (hI : m_I nR nD nK nG M) (hr : r < nR) (hc : m_in c 0 5 = true) (h : nI nK = 16) : F_addKey M (nI r) c = (-3, M) := by
  unfold F_addKey
  rw [y_nor hI hr, hc, if_neg (by decide), if_neg (by decide), if_pos (hI.1.2.2.1.1.trans h)]
theorem y_ak2 (hI : m_I nR nD nK nG M) (hr : r < nR) (hc : m_in c 0 5 = true) (h : ¬ nI nK = 16) : (F_addKey M (nI r) c).1 = nI nK ∧ (F_addKey M (nI r) c).2.1 9 = nI (nK + 1) := by
  unfold F_addKey
  rw [y_nor hI hr, hc, if_neg (by decide), if_neg (by decide), if_neg (fun q => h (hI.1.2.2.1.1.symm.trans q))]
  refine ⟨?_, ?_⟩
  · show M.1 9 + 1 - 1 = _
    rw [hI.1.2.2.1.1]
    exact Int32.add_sub_cancel _ 1
  · show M.1 9 + 1 = _
    rw [hI.1.2.2.1.1, nI_succ]
/-- the exit -/
theorem y_se (hI : m_I nR nD nK nG M) (hr : r < nR) : F_setExit M (nI r) = (M.1 1, m_sS M 1 (nI r)) := by
  unfold F_setExit
  rw [y_nor hI hr, if_neg (by decide)]
/-- groups -/
theorem y_ag1 (hI : m_I nR nD nK nG M) (hr : r < nR) (hz : m_in w 1 24 = true) (h : nI nG = 6) : F_addGroup M nG w (nI r) = (-3, M) := by
  unfold F_addGroup
  rw [y_nor hI hr, hz, if_neg (by decide), if_neg (by decide), decide_eq_true (hI.1.2.2.2.1.trans h)]; rfl
theorem y_agP (hI : m_I nR nD nK nG M) (hJ : y_J nD nK nG M) : m_players M nG = m_sizes M nG 1 + m_sizes M nG 0 := by
  obtain ⟨x, y, e0, e1, -, e2⟩ := y_in_out hI hJ
  rw [e0, e1, e2, nI_add, Nat.add_comm]
theorem y_ag2 (hI : m_I nR nD nK nG M) (hJ : y_J nD nK nG M) (hr : r < nR) (hz : m_in w 1 24 = true) (h : 24 < m_sizes M nG 1 + m_sizes M nG 0 + w) : F_addGroup M nG w (nI r) = (-3, M) := by
  unfold F_addGroup
  rw [y_nor hI hr, hz, if_neg (by decide), if_neg (by decide), y_agP hI hJ, decide_eq_true h, if_pos (by rw [Bool.or_true])]
theorem y_ag3 (hI : m_I nR nD nK nG M) (hJ : y_J nD nK nG M) (hr : r < nR) (hz : m_in w 1 24 = true) (h6 : ¬ nI nG = 6) (h : ¬ 24 < m_sizes M nG 1 + m_sizes M nG 0 + w) : F_addGroup M nG w (nI r) = F_putGroup M w (nI r) 0 := by
  unfold F_addGroup
  rw [y_nor hI hr, hz, if_neg (by decide), if_neg (by decide), y_agP hI hJ, decide_eq_false h, decide_eq_false (fun q => h6 (hI.1.2.2.2.1.symm.trans q)), if_neg (by decide)]
theorem y_pg0 (hI : m_I nR nD nK nG M) {x y z : Int32} : (F_putGroup M x y z).1 = nI nG ∧ (F_putGroup M x y z).2.1 14 = nI (nG + 1) := by
  refine ⟨?_, ?_⟩
  · show M.1 14 + 1 - 1 = _
    rw [hI.1.2.2.2.1]
    exact Int32.add_sub_cancel _ 1
  · show M.1 14 + 1 = _
    rw [hI.1.2.2.2.1, nI_succ]
/-- waiting and leaving -/
theorem y_id0 (hI : m_I nR nD nK nG M) (hg : g < nG) (hw : m_in w 1 1000 = true) : F_idle M (nI g) w = if m_pl M (nI g) = true then (if 100000 < M.2 17 g + w then (-5, M) else (M.2 17 g + w, m_sA M 17 g (M.2 17 g + w))) else (-4, M) := by
  unfold F_idle
  rw [y_nog hI hg, hw, y_cg hI hg, if_neg (by decide), if_neg (by decide)]
  cases m_pl M (nI g) <;> rfl
theorem y_lv0 (hI : m_I nR nD nK nG M) (hg : g < nG) : F_leave M (nI g) = if m_pl M (nI g) = true ∧ M.2 16 g = M.1 1 then (M.2 17 g, m_sA M 19 g 1) else (-4, M) := by
  unfold F_leave
  rw [y_nog hI hg, y_cg hI hg, if_neg (by decide)]
  cases h : m_pl M (nI g) with
  | false => rw [if_pos (by rfl), if_neg (fun q => by cases q.1)]
  | true =>
    by_cases q : M.2 16 g = M.1 1
    · rw [decide_eq_true q, if_neg (by decide), if_pos ⟨rfl, q⟩]
    · rw [decide_eq_false q, if_pos (by decide), if_neg (fun z => q z.2)]
theorem y_lv16 (hI : m_I nR nD nK nG M) (hg : g < nG) : (F_leave M (nI g)).2.2 16 = M.2 16 := by
  rw [y_lv0 hI hg]
  split
  · show (m_sA M 19 g 1).2 16 = _
    rw [m_sA_arr (by decide)]
  · rfl
theorem y_sh (hI : m_I nR nD nK nG M) (hb : m_in w 1 30 = true) (hc : m_in c 0 30 = true) : F_setHints M w c = (M.1 20, m_sS (m_sS M 20 w) 21 c) := by
  unfold F_setHints
  rw [hb, hc, if_neg (by decide)]
theorem y_ar (hI : m_I nR nD nK nG M) (h : nR < 12) : (F_addRoom M).1 = nI nR ∧ (F_addRoom M).2.1 20 = M.1 20 ∧ (F_addRoom M).2.1 21 = M.1 21 := by
  have h1 : ¬ M.1 0 = 12 := fun q => by rw [hI.1.1.1] at q; have := (nI_inj (b := 12) (by omega) (by omega)).mp q; omega
  unfold F_addRoom
  rw [if_neg h1]
  refine ⟨?_, rfl, rfl⟩
  show M.1 0 + 1 - 1 = _
  rw [hI.1.1.1]
  exact Int32.add_sub_cancel _ 1
end YL
