/-! calls that change the state: what the law looks at -/
theorem y_ff {p : Nat → Bool} : ∀ f i, (m_ff p f i = -6 ∧ ∀ k, i ≤ k → k < i + f → p k = false) ∨ ∃ k, i ≤ k ∧ k < i + f ∧ m_ff p f i = nI k ∧ p k = true ∧ ∀ j, i ≤ j → j < k → p j = false
  | 0, i => Or.inl ⟨rfl, fun k h1 h2 => absurd h2 (by omega)⟩
  | f + 1, i => by
    show ((bif p i then nI i else m_ff p f (i + 1)) = -6 ∧ _) ∨ ∃ k, _ ∧ _ ∧ (bif p i then nI i else m_ff p f (i + 1)) = nI k ∧ _
    cases hp : p i with
    | true => exact Or.inr ⟨i, Nat.le_refl _, by omega, rfl, hp, fun j h1 h2 => absurd h2 (by omega)⟩
    | false =>
      rcases y_ff (p := p) f (i + 1) with ⟨h1, h2⟩ | ⟨k, h1, h2, h3, h4, h5⟩
      · refine Or.inl ⟨h1, fun k a b => ?_⟩
        by_cases e : k = i
        · rw [e]; exact hp
        · exact h2 k (by omega) (by omega)
      · refine Or.inr ⟨k, by omega, by omega, h3, h4, fun j a b => ?_⟩
        by_cases e : j = i
        · rw [e]; exact hp
        · exact h5 j (by omega) b
/-- the lowest place from i on, as the law looks for it from above -/
def y_kI (p : Nat → Bool) (n i : Nat) (v : Int32) : Prop := (v = -1 ∧ ∀ k, i ≤ k → k < n → p k = false) ∨ ∃ k, i ≤ k ∧ k < n ∧ v = nI k ∧ p k = true ∧ ∀ j, i ≤ j → j < k → p j = false
theorem y_kI.zero {p : Nat → Bool} {n : Nat} : y_kI p n n (-1) := Or.inl ⟨rfl, fun k h1 h2 => absurd h2 (by omega)⟩
theorem y_kI.next {p : Nat → Bool} {n i : Nat} {v : Int32} (h : y_kI p n (i + 1) v) (hi : i < n) : y_kI p n i (if p i = true then nI i else v) := by
  cases hp : p i with
  | true => exact Or.inr ⟨i, Nat.le_refl _, hi, rfl, hp, fun j h1 h2 => absurd h2 (by omega)⟩
  | false =>
    rcases h with ⟨h1, h2⟩ | ⟨k, h1, h2, h3, h4, h5⟩
    · refine Or.inl ⟨h1, fun k a b => ?_⟩
      by_cases e : k = i
      · rw [e]; exact hp
      · exact h2 k (by omega) b
    · refine Or.inr ⟨k, by omega, h2, h3, h4, fun j a b => ?_⟩
      by_cases e : j = i
      · rw [e]; exact hp
      · exact h5 j (by omega) b
theorem y_kI.done {p : Nat → Bool} {n : Nat} {v : Int32} (h : y_kI p n 0 v) : (v = -1 ∧ m_ff p n 0 = -6) ∨ ∃ k, k < n ∧ v = nI k ∧ m_ff p n 0 = nI k ∧ p k = true := by
  rcases h with ⟨h1, h2⟩ | ⟨k, h1, h2, h3, h4, h5⟩
  · rcases y_ff (p := p) n 0 with ⟨g1, -⟩ | ⟨k, g1, g2, g3, g4, -⟩
    · exact Or.inl ⟨h1, g1⟩
    · rw [h2 k g1 (by omega)] at g4; cases g4
  · rcases y_ff (p := p) n 0 with ⟨-, g2⟩ | ⟨k', g1, g2, g3, g4, g5⟩
    · rw [g2 k h1 (by omega)] at h4; cases h4
    · have e : k' = k := by
        by_cases a : k' < k
        · rw [h5 k' g1 a] at g4; cases g4
        · by_cases b : k < k'
          · rw [g5 k h1 b] at h4; cases h4
          · omega
      rw [e] at g3
      exact Or.inr ⟨k, h2, h3, g3, h4⟩
theorem y_dec0 {i : Nat} (hi : i < 2 ^ 31) (h : nI i - 1 < 0) : i = 0 := by
  cases i with
  | zero => rfl
  | succ j => rw [nI_pred] at h; exact absurd h (nI_pos (by omega))
theorem y_decS {i : Nat} (hi : i < 2 ^ 31) (h : ¬ nI i - 1 < 0) : ∃ j, i = j + 1 := by
  cases i with
  | zero => exact absurd (by decide) h
  | succ j => exact ⟨j, rfl⟩
theorem y_dec (x : Int32) : x + Int32.ofInt (-1) = x - 1 := by rw [Int32.sub_eq_add_neg]; rfl
theorem y_cnt_up {p p' : Nat → Bool} {k n : Nat} (hk : k < n) (h : ∀ i, i ≠ k → p' i = p i) (h0 : p k = false) (h1 : p' k = true) : k_n p' n = k_n p n + 1 := by
  rw [k_n_s p', k_n_s p, k_s_add (f := fun i => if p i = true then 1 else 0) (g := fun i => if p' i = true then 1 else 0) (d := k) (v := 1) (fun i hi => by show (if p' i = true then 1 else 0) = _; rw [h i hi]) (by simp [h0, h1]) n, if_pos hk]
section YE
variable {nR nD nK nG g d k o : Nat} {M : m_S}
theorem y_nsm (hI : m_I nR nD nK nG M) : nR ≤ 12 ∧ nD ≤ 16 ∧ nK ≤ 16 ∧ nG ≤ 6 := ⟨hI.1.1.2, hI.1.2.1.2, hI.1.2.2.1.2, hI.1.2.2.2.2⟩
theorem y_ne6 {k : Nat} (h : k < 2 ^ 31) : ¬ (-6 : Int32) = nI k := fun q => nI_pos h (q ▸ (by decide : (-6 : Int32) < 0))
/-- walk -/
theorem y_walk_eq (hI : m_I nR nD nK nG M) (hg : g < nG) (hd : d < nD) : F_walk M (nI g) (nI d) = if (!(m_pl M (nI g)) || !(m_at M (nI d) (M.2 16 g)) || decide (M.2 8 d < 0)) = true then (-4, M) else if 100000 < m_later (M.2 17 g) (M.2 8 d) + M.2 5 d then (-5, M) else (m_later (M.2 17 g) (M.2 8 d) + M.2 5 d, m_sA (m_sA M 17 g (m_later (M.2 17 g) (M.2 8 d) + M.2 5 d)) 16 g (M.2 3 d + M.2 4 d - M.2 16 g)) := by
  unfold F_walk
  rw [y_nog hI hg, y_nod hI hd, y_cg hI hg, y_cd hI hd]
  rw [if_neg (by decide)]
theorem y_walk_num (hI : m_I nR nD nK nG M) (hg : g < nG) (hd : d < nD) (ho : ¬ M.2 8 d < 0) : ∃ t, t < 2 ^ 31 ∧ m_later (M.2 17 g) (M.2 8 d) + M.2 5 d = nI t := by
  obtain ⟨e, h⟩ := y_tmE hI hg
  rw [e]
  obtain ⟨e2, h2⟩ := m_f_nI hI hd (t := y_tm M g) (by unfold x_op; simp [Int32.not_lt.mp ho]) (by omega)
  exact ⟨_, h2, e2⟩
theorem y_walk_neg (hI : m_I nR nD nK nG M) (hg : g < nG) (hd : d < nD) (h : (F_walk M (nI g) (nI d)).1 < 0) : (F_walk M (nI g) (nI d)).2 = M := by
  rw [y_walk_eq hI hg hd] at h ⊢
  by_cases c1 : (!(m_pl M (nI g)) || !(m_at M (nI d) (M.2 16 g)) || decide (M.2 8 d < 0)) = true
  · rw [if_pos c1]
  · rw [if_neg c1] at h ⊢
    by_cases c2 : 100000 < m_later (M.2 17 g) (M.2 8 d) + M.2 5 d
    · rw [if_pos c2]
    · rw [if_neg c2] at h
      obtain ⟨t, ht, e⟩ := y_walk_num hI hg hd (fun q => c1 (by simp [q]))
      rw [e] at h
      exact absurd h (nI_pos ht)
theorem y_walk_pos (hI : m_I nR nD nK nG M) (hg : g < nG) (hd : d < nD) (h : ¬ (F_walk M (nI g) (nI d)).1 < 0) : (F_walk M (nI g) (nI d)).2.2 17 g = m_later (M.2 17 g) (M.2 8 d) + M.2 5 d ∧ (F_walk M (nI g) (nI d)).2.2 16 g = (F_walk M (nI g) (nI d)).2.2 3 d + (F_walk M (nI g) (nI d)).2.2 4 d - M.2 16 g := by
  rw [y_walk_eq hI hg hd] at h ⊢
  by_cases c1 : (!(m_pl M (nI g)) || !(m_at M (nI d) (M.2 16 g)) || decide (M.2 8 d < 0)) = true
  · rw [if_pos c1] at h
    exact absurd (by show (-4 : Int32) < 0; decide) h
  · rw [if_neg c1] at h ⊢
    by_cases c2 : 100000 < m_later (M.2 17 g) (M.2 8 d) + M.2 5 d
    · rw [if_pos c2] at h
      exact absurd (by show (-5 : Int32) < 0; decide) h
    · rw [if_neg c2]
      refine ⟨?_, ?_⟩
      · show (m_sA (m_sA M 17 g _) 16 g _).2 17 g = _
        rw [m_sA_arr (by decide), m_sA_at]
      · show (m_sA (m_sA M 17 g _) 16 g _).2 16 g = _
        rw [m_sA_at]; rfl
/-- unlock -/
theorem y_unlock_eq (hI : m_I nR nD nK nG M) (hg : g < nG) (hd : d < nD) : F_unlock M nK (nI g) (nI d) = if (!(m_pl M (nI g)) || !(m_at M (nI d) (M.2 16 g)) || !(decide (M.2 8 d < 0))) = true then (-4, M) else if m_kf M nK (nI g) (M.2 6 d) < 0 then (-4, M) else if 100000 < M.2 17 g + M.2 7 d then (-5, M) else (m_kf M nK (nI g) (M.2 6 d), m_sA (m_sA (m_sA (m_sA M 17 g (M.2 17 g + M.2 7 d)) 8 d (M.2 17 g + M.2 7 d)) 11 (m_kf M nK (nI g) (M.2 6 d)).toNatClampNeg 2) 12 (m_kf M nK (nI g) (M.2 6 d)).toNatClampNeg (nI d)) := by
  unfold F_unlock
  rw [y_nog hI hg, y_nod hI hd, y_cg hI hg, y_cd hI hd]
  rw [if_neg (by decide)]
theorem y_unlock_neg (hI : m_I nR nD nK nG M) (hg : g < nG) (hd : d < nD) (h : (F_unlock M nK (nI g) (nI d)).1 < 0) : (F_unlock M nK (nI g) (nI d)).2 = M := by
  rw [y_unlock_eq hI hg hd] at h ⊢
  by_cases c1 : (!(m_pl M (nI g)) || !(m_at M (nI d) (M.2 16 g)) || !(decide (M.2 8 d < 0))) = true
  · rw [if_pos c1]
  · rw [if_neg c1] at h ⊢
    by_cases c3 : m_kf M nK (nI g) (M.2 6 d) < 0
    · rw [if_pos c3]
    · rw [if_neg c3] at h ⊢
      by_cases c2 : 100000 < M.2 17 g + M.2 7 d
      · rw [if_pos c2]
      · rw [if_neg c2] at h
        exact absurd h c3
theorem y_kf (hI : m_I nR nD nK nG M) {c : Int32} (h : ¬ m_kf M nK (nI g) c < 0) : ∃ k, k < nK ∧ m_kf M nK (nI g) c = nI k ∧ M.2 11 k = 1 ∧ M.2 12 k = nI g ∧ M.2 10 k = c := by
  unfold m_kf at h ⊢
  rcases y_ff (p := fun k => m_ho M (nI g) (nI k) && decide (M.2 10 k = c)) nK 0 with ⟨g1, -⟩ | ⟨k, g1, g2, g3, g4, -⟩
  · rw [g1] at h; exact absurd (by decide) h
  · have hk : k < nK := by omega
    refine ⟨k, hk, g3, ?_⟩
    simp only [Bool.and_eq_true, decide_eq_true_eq, m_ho, y_ck hI hk] at g4
    exact ⟨g4.1.1, g4.1.2, g4.2⟩
theorem y_unlock_pos (hI : m_I nR nD nK nG M) (hg : g < nG) (hd : d < nD) (h : ¬ (F_unlock M nK (nI g) (nI d)).1 < 0) : ∃ k, k < nK ∧ (F_unlock M nK (nI g) (nI d)).1 = nI k ∧ (F_unlock M nK (nI g) (nI d)).2 = m_sA (m_sA (m_sA (m_sA M 17 g (M.2 17 g + M.2 7 d)) 8 d (M.2 17 g + M.2 7 d)) 11 k 2) 12 k (nI d) ∧ M.2 11 k = 1 ∧ M.2 12 k = nI g ∧ M.2 10 k = M.2 6 d ∧ M.2 8 d < 0 ∧ ¬ 100000 < M.2 17 g + M.2 7 d ∧ m_pl M (nI g) = true ∧ m_kf M nK (nI g) (M.2 6 d) = nI k := by
  rw [y_unlock_eq hI hg hd] at h ⊢
  by_cases c1 : (!(m_pl M (nI g)) || !(m_at M (nI d) (M.2 16 g)) || !(decide (M.2 8 d < 0))) = true
  · rw [if_pos c1] at h
    exact absurd (by show (-4 : Int32) < 0; decide) h
  · rw [if_neg c1] at h ⊢
    by_cases c3 : m_kf M nK (nI g) (M.2 6 d) < 0
    · rw [if_pos c3] at h
      exact absurd (by show (-4 : Int32) < 0; decide) h
    · rw [if_neg c3] at h ⊢
      by_cases c2 : 100000 < M.2 17 g + M.2 7 d
      · rw [if_pos c2] at h
        exact absurd (by show (-5 : Int32) < 0; decide) h
      · rw [if_neg c2]
        obtain ⟨k, hk, e, e11, e12, e10⟩ := y_kf hI c3
        have hs := (y_nsm hI).2.2.1
        refine ⟨k, hk, e, ?_, e11, e12, e10, ?_, c2, ?_, e⟩
        · show m_sA (m_sA (m_sA (m_sA M 17 g _) 8 d _) 11 (m_kf M nK (nI g) (M.2 6 d)).toNatClampNeg 2) 12 (m_kf M nK (nI g) (M.2 6 d)).toNatClampNeg (nI d) = _
          rw [e, nI_clamp (by omega)]
        · by_cases q : M.2 8 d < 0
          · exact q
          · exact absurd (by simp [q]) c1
        · cases q : m_pl M (nI g) with
          | true => rfl
          | false => exact absurd (by simp [q]) c1
/-- keys held -/
def y_hp (M : m_S) (g : Int32) (k : Nat) : Bool := decide (M.2 11 k = 1) && decide (M.2 12 k = g)
theorem y_ho (hI : m_I nR nD nK nG M) (hk : k < nK) {x : Int32} : m_ho M x (nI k) = y_hp M x k := by unfold m_ho y_hp; rw [y_ck hI hk]
theorem y_held (hI : m_I nR nD nK nG M) {x : Int32} : m_held M nK x = nI (k_n (y_hp M x) nK) := by
  unfold m_held
  rw [m_cnt_n, k_n_congr (fun i hi => y_ho hI hi)]
theorem y_hpI (hg : g < 2 ^ 31) : (if M.2 11 k = 1 then M.2 12 k else -6) = nI g ↔ y_hp M (nI g) k = true := by
  unfold y_hp
  by_cases c : M.2 11 k = 1
  · simp [c]
  · simp [c, y_ne6 hg]
/-- take -/
def y_tk (M : m_S) (g k : Nat) : m_S := m_sA (m_sA (m_sA M 17 g (m_later (M.2 17 g) (M.2 13 k))) 11 k 1) 12 k (nI g)
def y_tkB (M : m_S) (g k : Nat) : Bool := m_pl M (nI g) && decide (M.2 11 k = 0) && decide (M.2 12 k = M.2 16 g)
theorem y_take_eq (hI : m_I nR nD nK nG M) (hg : g < nG) (hk : k < nK) : F_take M nK (nI g) (nI k) = if y_tkB M g k = true then (m_held (y_tk M g k) nK (nI g), y_tk M g k) else (-4, M) := by
  unfold F_take
  rw [y_nog hI hg, y_nok hI hk, y_cg hI hg, y_ck hI hk]
  rw [if_neg (by decide)]
  unfold y_tkB
  cases a : m_pl M (nI g) <;> cases b : decide (M.2 11 k = 0) <;> cases c : decide (M.2 12 k = M.2 16 g) <;> rfl
theorem y_heldU {M M' : m_S} {nR2 nD2 nG2 : Nat} (hI : m_I nR nD nK nG M) (hI2 : m_I nR2 nD2 nK nG2 M') {x : Int32} (hk : k < nK) (h : ∀ i, i ≠ k → y_hp M' x i = y_hp M x i) (h0 : y_hp M x k = false) (h1 : y_hp M' x k = true) : m_held M' nK x = m_held M nK x + 1 := by
  rw [y_held hI2, y_held hI, y_cnt_up hk h h0 h1, nI_succ]
theorem y_take (hI : m_I nR nD nK nG M) (hg : g < nG) (hk : k < nK) (h : y_tkB M g k = true) : (F_take M nK (nI g) (nI k)).1 = m_held M nK (nI g) + 1 ∧ (F_take M nK (nI g) (nI k)).2 = y_tk M g k := by
  have hI2 := m_I_take hI (nI g) (nI k)
  rw [y_take_eq hI hg hk, if_pos h] at hI2 ⊢
  have hs := y_nsm hI
  unfold y_tkB at h
  simp only [Bool.and_eq_true, decide_eq_true_eq] at h
  refine ⟨y_heldU hI hI2 hk (fun i hi => ?_) ?_ ?_, rfl⟩
  · unfold y_hp y_tk
    rw [m_sA_ix (k := 12) (j := 12) hi, m_sA_arr (k := 12) (j := 11) (by decide), m_sA_ix (k := 11) (j := 11) hi, m_sA_arr (k := 11) (j := 12) (by decide), m_sA_arr (k := 17) (j := 11) (by decide), m_sA_arr (k := 17) (j := 12) (by decide)]
  · unfold y_hp; rw [h.1.2]; rfl
  · unfold y_hp y_tk
    rw [m_sA_at, m_sA_arr (k := 12) (j := 11) (by decide), m_sA_at]; simp
theorem y_later_ge {a b : Int32} : ¬ m_later a b < a := by
  unfold m_later
  split
  · rename_i h; exact fun q => absurd (Int32.lt_trans h q) (Int32.lt_irrefl)
  · exact Int32.lt_irrefl
theorem y_tk17 : (y_tk M g k).2 17 g = m_later (M.2 17 g) (M.2 13 k) := by
  unfold y_tk
  rw [m_sA_arr (by decide), m_sA_arr (by decide), m_sA_at]
theorem y_tkH : (if (y_tk M g k).2 11 k = 1 then (y_tk M g k).2 12 k else -6) = nI g := by
  unfold y_tk
  rw [m_sA_at, m_sA_arr (k := 12) (j := 11) (by decide), m_sA_at, if_pos rfl]
/-- drop -/
def y_dp (M : m_S) (g k : Nat) : m_S := m_sA (m_sA (m_sA M 11 k 0) 12 k (M.2 16 g)) 13 k (M.2 17 g)
theorem y_drop_eq (hI : m_I nR nD nK nG M) (hg : g < nG) (hk : k < nK) : F_drop M nK (nI g) (nI k) = if (m_pl M (nI g) && y_hp M (nI g) k) = true then (m_held (y_dp M g k) nK (nI g), y_dp M g k) else (-4, M) := by
  unfold F_drop
  rw [y_nog hI hg, y_nok hI hk, y_ho hI hk, y_cg hI hg, y_ck hI hk]
  rw [if_neg (by decide)]
  cases a : m_pl M (nI g) <;> cases b : y_hp M (nI g) k <;> rfl
theorem y_drop (hI : m_I nR nD nK nG M) (hg : g < nG) (hk : k < nK) (h : (m_pl M (nI g) && y_hp M (nI g) k) = true) : (F_drop M nK (nI g) (nI k)).1 = m_held M nK (nI g) - 1 ∧ (F_drop M nK (nI g) (nI k)).2 = y_dp M g k := by
  have hI2 := m_I_drop hI (nI g) (nI k)
  rw [y_drop_eq hI hg hk, if_pos h] at hI2 ⊢
  rw [Bool.and_eq_true] at h
  refine ⟨?_, rfl⟩
  show m_held (y_dp M g k) nK (nI g) = _
  have e := y_heldU hI2 hI (x := nI g) hk (fun i hi => ?_) ?_ h.2
  · rw [e]
    exact (Int32.add_sub_cancel _ 1).symm
  · unfold y_hp y_dp
    rw [m_sA_arr (k := 13) (j := 11) (by decide), m_sA_arr (k := 13) (j := 12) (by decide), m_sA_ix (k := 12) (j := 12) hi, m_sA_arr (k := 12) (j := 11) (by decide), m_sA_ix (k := 11) (j := 11) hi, m_sA_arr (k := 11) (j := 12) (by decide)]
  · unfold y_hp y_dp
    rw [m_sA_arr (k := 13) (j := 11) (by decide), m_sA_arr (k := 12) (j := 11) (by decide), m_sA_at]; rfl
theorem y_dpR : (if (y_dp M g k).2 11 k = 0 then (y_dp M g k).2 12 k else -6) = (y_dp M g k).2 16 g := by
  unfold y_dp
  rw [m_sA_arr (k := 13) (j := 11) (by decide), m_sA_arr (k := 13) (j := 12) (by decide), m_sA_arr (k := 13) (j := 16) (by decide), m_sA_at, m_sA_arr (k := 12) (j := 11) (by decide), m_sA_arr (k := 12) (j := 16) (by decide), m_sA_at, m_sA_arr (k := 11) (j := 16) (by decide), if_pos rfl]
theorem y_drop17 (hI : m_I nR nD nK nG M) (hg : g < nG) (hk : k < nK) : (F_drop M nK (nI g) (nI k)).2.2 17 g = M.2 17 g := by
  rw [y_drop_eq hI hg hk]
  by_cases c : (m_pl M (nI g) && y_hp M (nI g) k) = true
  · rw [if_pos c]
    show (y_dp M g k).2 17 g = _
    unfold y_dp
    rw [m_sA_arr (by decide), m_sA_arr (by decide), m_sA_arr (by decide)]
  · rw [if_neg c]
/-- hints -/
theorem y_best_congr {M M' : m_S} {x : Int32} (h1 : M'.1 1 = M.1 1) (e : ∀ j, j ≠ 17 → j ≠ 18 → M'.2 j = M.2 j) : k_best M' nD nK x = k_best M nD nK x := by
  unfold k_best k_cA k_esc k_u k_used k_keys k_near m_ho k_R m_Rch m_lo m_hi x_op m_r0
  simp only [h1, e 3 (by decide) (by decide), e 4 (by decide) (by decide), e 6 (by decide) (by decide), e 7 (by decide) (by decide), e 8 (by decide) (by decide), e 10 (by decide) (by decide), e 11 (by decide) (by decide), e 12 (by decide) (by decide), e 16 (by decide) (by decide)]
theorem y_bestS {x y : Int32} : k_best (m_hS M x) nD nK y = k_best M nD nK y :=
  y_best_congr rfl (fun j h1 h2 => by unfold m_hS; rw [m_sA_arr h2, m_sA_arr h1])
theorem y_hint_eq (hI : m_I nR nD nK nG M) (hg : g < nG) : F_hint M nD nK (nI g) = if m_pl M (nI g) = true then (if 100000 < F_ht M (nI g) then (-5, M) else (match k_best M nD nK (nI g) with
  | none => 17
  | some p => if p.length = 0 then 16 else nI (p_at p 0), m_hS M (nI g))) else (-4, M) := by
  unfold F_hint
  rw [y_nog hI hg, y_bestS, if_neg (by decide)]
  cases m_pl M (nI g) <;> rfl
theorem y_plan_eq (hI : m_I nR nD nK nG M) (hg : g < nG) (hp : m_pl M (nI g) = true) {w : Int32} (hw : m_in w 0 1 = true) : F_plan M nD nK (nI g) w = match k_best M nD nK (nI g) with
  | none => -6
  | some p => if w = 0 then nI (p_cost (k_u M) p) else nI p.length := by
  unfold F_plan
  rw [y_nog hI hg, hp, hw, if_neg (by decide), if_neg (by decide), if_neg (by decide)]
  cases k_best M nD nK (nI g) <;> rfl
theorem y_planned_eq (hI : m_I nR nD nK nG M) (hg : g < nG) (hp : m_pl M (nI g) = true) {x : Int32} (hx : ¬ x < 0) : F_planned M nD nK (nI g) x = match k_best M nD nK (nI g) with
  | none => -6
  | some p => if x < nI p.length then nI (p_at p x.toNatClampNeg) else -6 := by
  unfold F_planned
  rw [y_nog hI hg, hp, if_neg (by decide), if_neg hx, if_neg (by decide)]
  cases k_best M nD nK (nI g) <;> rfl
/-- the best plan's own words -/
theorem y_best_B {p : List Nat} (h : k_best M nD nK (nI g) = some p) : p_B (k_cA M nD nK (m_r0 M (nI g)) (nI g)) (k_esc M nD (m_r0 M (nI g))) (k_u M) p := by
  unfold k_best p_best at h
  by_cases c : ∃ p, p_B (k_cA M nD nK (m_r0 M (nI g)) (nI g)) (k_esc M nD (m_r0 M (nI g))) (k_u M) p
  · rw [dif_pos c] at h
    cases h
    exact Classical.choose_spec c
  · rw [dif_neg c] at h; cases h
theorem y_best_len (hI : m_I nR nD nK nG M) {p : List Nat} (h : k_best M nD nK (nI g) = some p) : p.length ≤ 16 ∧ p_cost (k_u M) p ≤ 960 ∧ ∀ x, x ∈ p → x < nD := by
  have hB := y_best_B h
  have hH := k_H (g := nI g) (r0 := m_r0 M (nI g)) hI
  have hs := y_nsm hI
  have hl := p_F.lt hH hB.1.1
  have hn := p_F.nodup hH hB.1.1
  have h1 := p_len_set hn hl
  have h2 := k_n_le (p_mem p) nD
  refine ⟨by omega, ?_, hl⟩
  have key : ∀ q : List Nat, (∀ x, x ∈ q → x < nD) → p_cost (k_u M) q ≤ 60 * q.length := by
    intro q
    induction q with
    | nil => intro _; exact Nat.le_refl _
    | cons a q ih =>
      intro hq
      have h3 := ih (fun x hx => hq x (List.mem_cons_of_mem _ hx))
      have h4 := (y_ut hI (hq a (List.mem_cons_self ..))).2
      show p_cost (k_u M) q + k_u M a ≤ 60 * (q.length + 1)
      omega
  have := key p hl
  omega
theorem y_at_mem : ∀ {p : List Nat} {i : Nat}, i < p.length → p_at p i ∈ p
  | [], i, h => absurd h (by simp)
  | d :: ds, i, h => by
    show (if i = ds.length then d else p_at ds i) ∈ d :: ds
    by_cases c : i = ds.length
    · rw [if_pos c]; exact List.mem_cons_self ..
    · rw [if_neg c]
      have : i < ds.length := by simp at h; omega
      exact List.mem_cons_of_mem _ (y_at_mem this)
theorem y_ht (g : Nat) (hg : g < 2 ^ 31) : F_ht M (nI g) = M.2 17 g + (M.1 20 + M.1 21 * M.2 18 g) := by
  unfold F_ht
  rw [nI_clamp hg, Int32.add_assoc]
theorem y_hint_no (hI : m_I nR nD nK nG M) (hg : g < nG) (h : m_pl M (nI g) = false) : F_hint M nD nK (nI g) = (-4, M) := by rw [y_hint_eq hI hg, h, if_neg (by decide)]
theorem y_hint_late (hI : m_I nR nD nK nG M) (hg : g < nG) (h : m_pl M (nI g) = true) (h2 : 100000 < M.2 17 g + (M.1 20 + M.1 21 * M.2 18 g)) : F_hint M nD nK (nI g) = (-5, M) := by
  rw [y_hint_eq hI hg, h, if_pos rfl, y_ht g (by have := y_nsm hI; omega), if_pos h2]
theorem y_hint_none (hI : m_I nR nD nK nG M) (hg : g < nG) (h : m_pl M (nI g) = true) (h2 : ¬ 100000 < M.2 17 g + (M.1 20 + M.1 21 * M.2 18 g)) (h3 : F_plan M nD nK (nI g) 1 < 0) : F_hint M nD nK (nI g) = (17, m_hS M (nI g)) := by
  rw [y_hint_eq hI hg, h, if_pos rfl, y_ht g (by have := y_nsm hI; omega), if_neg h2]
  rw [y_plan_eq hI hg h rfl] at h3
  cases hb : k_best M nD nK (nI g) with
  | none => rfl
  | some p =>
    have := (y_best_len hI hb).1
    rw [hb] at h3
    exact absurd h3 (nI_pos (by omega))
theorem y_hint_0 (hI : m_I nR nD nK nG M) (hg : g < nG) (h : m_pl M (nI g) = true) (h2 : ¬ 100000 < M.2 17 g + (M.1 20 + M.1 21 * M.2 18 g)) (h3 : F_plan M nD nK (nI g) 1 = 0) : F_hint M nD nK (nI g) = (16, m_hS M (nI g)) := by
  rw [y_hint_eq hI hg, h, if_pos rfl, y_ht g (by have := y_nsm hI; omega), if_neg h2]
  rw [y_plan_eq hI hg h rfl] at h3
  cases hb : k_best M nD nK (nI g) with
  | none => rw [hb] at h3; exact absurd h3 (by show ¬ (-6 : Int32) = 0; decide)
  | some p =>
    have := (y_best_len hI hb).1
    rw [hb] at h3
    have h4 : p.length = 0 := (nI_inj (b := 0) (by omega) (by omega)).mp h3
    simp [h4]
theorem y_hint_door (hI : m_I nR nD nK nG M) (hg : g < nG) (h : m_pl M (nI g) = true) (h2 : ¬ 100000 < M.2 17 g + (M.1 20 + M.1 21 * M.2 18 g)) (h3 : ¬ F_plan M nD nK (nI g) 1 < 0) (h4 : ¬ F_plan M nD nK (nI g) 1 = 0) : F_hint M nD nK (nI g) = (F_planned M nD nK (nI g) 0, m_hS M (nI g)) ∧ ¬ F_planned M nD nK (nI g) 0 < 0 := by
  rw [y_hint_eq hI hg, h, if_pos rfl, y_ht g (by have := y_nsm hI; omega), if_neg h2]
  rw [y_plan_eq hI hg h rfl] at h3 h4
  rw [y_planned_eq hI hg h (by decide)]
  cases hb : k_best M nD nK (nI g) with
  | none => rw [hb] at h3; exact absurd (by show (-6 : Int32) < 0; decide) h3
  | some p =>
    obtain ⟨hl, -, hm⟩ := y_best_len hI hb
    rw [hb] at h4
    have h5 : ¬ p.length = 0 := fun q => h4 (by show nI p.length = 0; rw [q]; rfl)
    have h6 : (0 : Int32) < nI p.length := (nI_ltI (a := 0) (by omega) (by omega)).mpr (by omega)
    have h7 := hm _ (y_at_mem (p := p) (i := 0) (by omega))
    have hs := y_nsm hI
    have h8 : (0 : Int32).toNatClampNeg = 0 := rfl
    simp only [h5, h6, h8, if_true, if_false]
    exact ⟨trivial, nI_pos (by omega)⟩
theorem y_hint_neg (hI : m_I nR nD nK nG M) (hg : g < nG) (h : (F_hint M nD nK (nI g)).1 < 0) : (F_hint M nD nK (nI g)).2 = M := by
  rw [y_hint_eq hI hg] at h ⊢
  by_cases c1 : m_pl M (nI g) = true
  · rw [if_pos c1] at h ⊢
    by_cases c2 : 100000 < F_ht M (nI g)
    · rw [if_pos c2]
    · rw [if_neg c2] at h
      exfalso
      cases hb : k_best M nD nK (nI g) with
      | none => rw [hb] at h; exact absurd h (by show ¬ (17 : Int32) < 0; decide)
      | some p =>
        obtain ⟨hl, -, hm⟩ := y_best_len hI hb
        have hs := y_nsm hI
        rw [hb] at h
        by_cases c3 : p.length = 0
        · simp only [c3, if_true] at h
          exact absurd h (by decide)
        · simp only [c3, if_false] at h
          have := hm _ (y_at_mem (p := p) (i := 0) (by omega))
          exact absurd h (nI_pos (by omega))
  · rw [if_neg c1]
theorem y_hint_pos (hI : m_I nR nD nK nG M) (hg : g < nG) (h : ¬ (F_hint M nD nK (nI g)).1 < 0) : (F_hint M nD nK (nI g)).2 = m_hS M (nI g) ∧ (F_hint M nD nK (nI g)).2.2 17 g = M.2 17 g + (M.1 20 + M.1 21 * M.2 18 g) ∧ (F_hint M nD nK (nI g)).2.2 18 g = M.2 18 g + 1 := by
  have hs := y_nsm hI
  rw [y_hint_eq hI hg] at h ⊢
  by_cases c1 : m_pl M (nI g) = true
  · rw [if_pos c1] at h ⊢
    by_cases c2 : 100000 < F_ht M (nI g)
    · rw [if_pos c2] at h; exact absurd (by show (-5 : Int32) < 0; decide) h
    · rw [if_neg c2]
      refine ⟨rfl, ?_, ?_⟩
      · show (m_hS M (nI g)).2 17 g = _
        unfold m_hS
        rw [m_sA_arr (by decide), y_cg hI hg, m_sA_at, y_ht g (by omega)]
      · show (m_hS M (nI g)).2 18 g = _
        unfold m_hS
        rw [y_cg hI hg, m_sA_at]
  · rw [if_neg c1] at h; exact absurd (by show (-4 : Int32) < 0; decide) h
end YE
