/-! what the calls keep of the law's games -/
theorem k_n_ext {p : Nat → Bool} {n : Nat} : ∀ {n' : Nat}, n ≤ n' → (∀ i, n ≤ i → i < n' → p i = false) → k_n p n' = k_n p n
  | 0, h, _ => by
    have : n = 0 := by omega
    rw [this]
  | n' + 1, h, hp => by
    by_cases c : n = n' + 1
    · rw [c]
    · have ih := k_n_ext (n' := n') (by omega) (fun i h1 h2 => hp i h1 (by omega))
      show k_n p n' + (if p n' = true then 1 else 0) = _
      rw [ih, hp n' (by omega) (by omega)]; rfl
section YK
variable {nR nD nK nG nD' nK' nG' g d k o r : Nat} {M M' : m_S}
theorem y_used_lt (hI : m_I nR nD nK nG M) (hk : k < nK) (h : M.2 11 k = 2) (hd : d < 2 ^ 31) (e : M.2 12 k = nI d) : d < nD := by
  have hs := y_nsm hI
  rcases (hI.2.2.2.1 k hk).2.1 with ⟨q, -⟩ | ⟨q, -⟩ | ⟨-, d0, h0, e0⟩
  · rw [q] at h; exact absurd h (by decide)
  · rw [q] at h; exact absurd h (by decide)
  · have := (nI_inj hd (by omega)).mp (e.symm.trans e0)
    omega
theorem y_held_lt (hI : m_I nR nD nK nG M) (hk : k < nK) (h : M.2 11 k = 1) (hd : d < 2 ^ 31) (e : M.2 12 k = nI d) : d < nG := by
  have hs := y_nsm hI
  rcases (hI.2.2.2.1 k hk).2.1 with ⟨q, -⟩ | ⟨-, d0, h0, e0⟩ | ⟨q, -⟩
  · rw [q] at h; exact absurd h (by decide)
  · have := (nI_inj hd (by omega)).mp (e.symm.trans e0)
    omega
  · rw [q] at h; exact absurd h (by decide)
/-- more things, and groups that change -/
theorem y_J_gen (hI : m_I nR nD nK nG M) (hJ : y_J nD nK nG M) (hD : nD ≤ nD') (hK : nK ≤ nK') (hD2 : nD' ≤ 16) (hG2 : nG' ≤ 6)
    (r6 : ∀ i, i < nD → M'.2 6 i = M.2 6 i) (r8 : ∀ i, i < nD → M'.2 8 i = M.2 8 i) (r10 : ∀ i, i < nK → M'.2 10 i = M.2 10 i) (r11 : ∀ i, i < nK → M'.2 11 i = M.2 11 i) (r12 : ∀ i, i < nK → M'.2 12 i = M.2 12 i)
    (hd : ∀ i, nD ≤ i → i < nD' → y_lk M' i = false) (hk : ∀ i, nK ≤ i → i < nK' → M'.2 11 i = 0) (hz : y_Sz M' nG') (h19 : ∀ i, i < nG → M'.2 19 i = 2 → M.2 19 i = 2) : y_J nD' nK' nG' M' := by
  have lt : ∀ k, k < nK' → ¬ M'.2 11 k = 0 → k < nK := fun k q w => by
    by_cases c : k < nK
    · exact c
    · exact absurd (hk k (by omega) q) w
  have by1 : ∀ d, y_by M' nK' d = y_by M nK d := fun d => by
    unfold y_by
    rw [k_n_ext hK (fun i h1 h2 => by rw [hk i h1 h2]; rfl)]
    exact k_n_congr fun i hi => by rw [r11 i hi, r12 i hi]
  refine ⟨hz, fun k q h1 x hx e => ?_, fun k q h1 x hx e => ?_, fun x hx => ?_⟩
  · have q1 := lt k q (by rw [h1]; decide)
    rw [r11 k q1] at h1
    rw [r12 k q1] at e
    have hxG := y_held_lt hI q1 h1 (by omega) e
    exact fun w => hJ.2.1 k q1 h1 x hxG e (h19 x hxG w)
  · have q1 := lt k q (by rw [h1]; decide)
    rw [r11 k q1] at h1
    rw [r12 k q1] at e
    have hxD := y_used_lt hI q1 h1 (by omega) e
    rw [r10 k q1, r6 x hxD]
    exact hJ.2.2.1 k q1 h1 x hxD e
  · rw [by1 x]
    by_cases c : x < nD
    · rw [hJ.2.2.2 x c]
      have : y_lk M' x = y_lk M x := by unfold y_lk; rw [r6 x c, r8 x c]
      rw [this]
    · rw [hd x (by omega) hx, if_neg (by decide)]
      refine k_n_zero fun i hi => ?_
      cases q : (decide (M.2 11 i = 2) && decide (M.2 12 i = nI x)) with
      | false => rfl
      | true =>
        simp only [Bool.and_eq_true, decide_eq_true_eq] at q
        have := y_used_lt hI hi q.1 (by omega) q.2
        omega
/-- what a call leaves, whatever it was -/
def y_Nx (nR nD nK nG : Nat) (M' : m_S) : Prop := ∀ a b c d, m_I a b c d M' → y_J b c d M' ∧ a = nR ∧ nD ≤ b ∧ nK ≤ c ∧ nG ≤ d
theorem y_Nx.of (hI : m_I nR nD nK nG M') (hJ : y_J nD nK nG M') : y_Nx nR nD nK nG M' := fun a b c d h => by
  obtain ⟨rfl, rfl, rfl, rfl⟩ := hI.uniq h
  exact ⟨hJ, rfl, Nat.le_refl _, Nat.le_refl _, Nat.le_refl _⟩
theorem y_Sz.same (h : y_Sz M nG) (r15 : ∀ i, i < nG → M'.2 15 i = M.2 15 i) (r19 : ∀ i, i < nG → (M'.2 19 i = 2 ↔ M.2 19 i = 2)) : y_Sz M' nG := by
  obtain ⟨z, hz, hs⟩ := h
  exact ⟨z, fun i hi => ⟨by rw [r15 i hi]; exact (hz i hi).1, (r19 i hi).trans (hz i hi).2⟩, hs⟩
/-- nothing of it changes -/
theorem y_J.same (hI : m_I nR nD nK nG M) (hJ : y_J nD nK nG M) (e : ∀ j, j = 6 ∨ j = 8 ∨ j = 10 ∨ j = 11 ∨ j = 12 ∨ j = 15 ∨ j = 19 → M'.2 j = M.2 j) : y_J nD nK nG M' := by
  have hs := y_nsm hI
  refine y_J_gen hI hJ (Nat.le_refl _) (Nat.le_refl _) (by omega) (by omega) (fun i _ => by rw [e 6 (by omega)]) (fun i _ => by rw [e 8 (by omega)]) (fun i _ => by rw [e 10 (by omega)]) (fun i _ => by rw [e 11 (by omega)]) (fun i _ => by rw [e 12 (by omega)]) (fun i h1 h2 => by omega) (fun i h1 h2 => by omega) (hJ.1.same (fun i _ => by rw [e 15 (by omega)]) (fun i _ => by rw [e 19 (by omega)])) (fun i _ q => by rw [e 19 (by omega)] at q; exact q)
theorem y_J_walk (hI : m_I nR nD nK nG M) (hJ : y_J nD nK nG M) (hg : g < nG) (hd : d < nD) : y_J nD nK nG (F_walk M (nI g) (nI d)).2 := by
  rw [y_walk_eq hI hg hd]
  repeat' split
  · exact hJ
  · exact hJ
  · refine hJ.same hI fun j hj => ?_
    show (m_sA (m_sA M 17 g _) 16 g _).2 j = _
    rw [m_sA_arr (by omega), m_sA_arr (by omega)]
theorem y_J_setExit (hI : m_I nR nD nK nG M) (hJ : y_J nD nK nG M) {x : Int32} : y_J nD nK nG (F_setExit M x).2 := by
  unfold F_setExit
  split
  · exact hJ
  · exact hJ.same hI fun j _ => rfl
theorem y_J_setHints (hI : m_I nR nD nK nG M) (hJ : y_J nD nK nG M) {x y : Int32} : y_J nD nK nG (F_setHints M x y).2 := by
  unfold F_setHints
  split
  · exact hJ
  · exact hJ.same hI fun j _ => rfl
theorem y_J_idle (hI : m_I nR nD nK nG M) (hJ : y_J nD nK nG M) {x y : Int32} : y_J nD nK nG (F_idle M x y).2 := by
  unfold F_idle
  repeat' split
  · exact hJ
  · exact hJ
  · exact hJ
  · exact hJ
  · refine hJ.same hI fun j hj => ?_
    show (m_sA M 17 _ _).2 j = _
    rw [m_sA_arr (by omega)]
theorem y_J_hint (hI : m_I nR nD nK nG M) (hJ : y_J nD nK nG M) (hg : g < nG) : y_J nD nK nG (F_hint M nD nK (nI g)).2 := by
  by_cases c : (F_hint M nD nK (nI g)).1 < 0
  · rw [y_hint_neg hI hg c]; exact hJ
  · rw [(y_hint_pos hI hg c).1]
    refine hJ.same hI fun j hj => ?_
    unfold m_hS
    rw [m_sA_arr (by omega), m_sA_arr (by omega)]
theorem y_J_leave (hI : m_I nR nD nK nG M) (hJ : y_J nD nK nG M) (hg : g < nG) : y_J nD nK nG (F_leave M (nI g)).2 := by
  have hs := y_nsm hI
  unfold F_leave
  rw [y_nog hI hg, if_neg (by decide)]
  split
  · exact hJ
  · rename_i q
    have hp : M.2 19 g = 0 := by
      unfold m_pl at q
      rw [y_cg hI hg] at q
      by_cases z : M.2 19 g = 0
      · exact z
      · exact absurd (by simp [z]) q
    show y_J nD nK nG (m_sA M 19 (nI g).toNatClampNeg 1)
    rw [y_cg hI hg]
    have h19 : ∀ i, ((m_sA M 19 g 1).2 19 i = 2 ↔ M.2 19 i = 2) := fun i => by
      by_cases c : i = g
      · rw [c, m_sA_at, hp]; decide
      · rw [m_sA_ix c]
    exact y_J_gen hI hJ (Nat.le_refl _) (Nat.le_refl _) (by omega) (by omega) (fun i _ => by rw [m_sA_arr (by decide)]) (fun i _ => by rw [m_sA_arr (by decide)]) (fun i _ => by rw [m_sA_arr (by decide)]) (fun i _ => by rw [m_sA_arr (by decide)]) (fun i _ => by rw [m_sA_arr (by decide)]) (fun i h1 h2 => by omega) (fun i h1 h2 => by omega) (hJ.1.same (fun i _ => by rw [m_sA_arr (by decide)]) (fun i _ => h19 i)) (fun i _ => (h19 i).mp)
/-- a key that is not used up changes -/
theorem y_J.key (hJ : y_J nD nK nG M) {k : Nat} (e : ∀ j, j = 6 ∨ j = 8 ∨ j = 15 ∨ j = 19 ∨ j = 10 → M'.2 j = M.2 j) (h11 : ∀ i, i ≠ k → M'.2 11 i = M.2 11 i) (h12 : ∀ i, i ≠ k → M'.2 12 i = M.2 12 i) (h0 : ¬ M.2 11 k = 2) (h1 : ¬ M'.2 11 k = 2)
    (hH : M'.2 11 k = 1 → ∀ g, g < nG → M'.2 12 k = nI g → ¬ M.2 19 g = 2) : y_J nD nK nG M' := by
  refine ⟨hJ.1.same (fun i _ => by rw [e 15 (by omega)]) (fun i _ => by rw [e 19 (by omega)]), fun i hi a x hx b => ?_, fun i hi a x hx b => ?_, fun x hx => ?_⟩
  · rw [e 19 (by omega)]
    by_cases c : i = k
    · subst c; exact hH a x hx b
    · rw [h11 i c] at a; rw [h12 i c] at b; exact hJ.2.1 i hi a x hx b
  · rw [e 6 (by omega), e 10 (by omega)]
    by_cases c : i = k
    · subst c; exact absurd a h1
    · rw [h11 i c] at a; rw [h12 i c] at b; exact hJ.2.2.1 i hi a x hx b
  · have h2 : y_by M' nK x = y_by M nK x := by
      unfold y_by
      refine k_n_congr fun i _ => ?_
      by_cases c : i = k
      · subst c; rw [decide_eq_false h0, decide_eq_false h1]; rfl
      · rw [h11 i c, h12 i c]
    have h3 : y_lk M' x = y_lk M x := by unfold y_lk; rw [e 6 (by omega), e 8 (by omega)]
    rw [h2, h3]; exact hJ.2.2.2 x hx
theorem y_J_take (hI : m_I nR nD nK nG M) (hJ : y_J nD nK nG M) (hg : g < nG) (hk : k < nK) : y_J nD nK nG (F_take M nK (nI g) (nI k)).2 := by
  have hs := y_nsm hI
  rw [y_take_eq hI hg hk]
  split
  · rename_i q
    unfold y_tkB at q
    simp only [Bool.and_eq_true, decide_eq_true_eq, m_pl, y_cg hI hg] at q
    show y_J nD nK nG (y_tk M g k)
    refine hJ.key (k := k) (fun j hj => ?_) (fun i hi => ?_) (fun i hi => ?_) (by rw [q.1.2]; decide) ?_ (fun _ x hx b => ?_)
    · unfold y_tk; rw [m_sA_arr (by omega), m_sA_arr (by omega), m_sA_arr (by omega)]
    · unfold y_tk; rw [m_sA_arr (k := 12) (j := 11) (by decide), m_sA_ix hi, m_sA_arr (by decide)]
    · unfold y_tk; rw [m_sA_ix hi, m_sA_arr (k := 11) (j := 12) (by decide), m_sA_arr (by decide)]
    · unfold y_tk; rw [m_sA_arr (k := 12) (j := 11) (by decide), m_sA_at]; decide
    · have h1 : (y_tk M g k).2 12 k = nI g := by unfold y_tk; rw [m_sA_at]
      have : x = g := (nI_inj (by omega) (by omega)).mp (b.symm.trans h1)
      rw [this, q.1.1]; decide
  · exact hJ
theorem y_J_drop (hI : m_I nR nD nK nG M) (hJ : y_J nD nK nG M) (hg : g < nG) (hk : k < nK) : y_J nD nK nG (F_drop M nK (nI g) (nI k)).2 := by
  rw [y_drop_eq hI hg hk]
  split
  · rename_i q
    rw [Bool.and_eq_true] at q
    have q2 := q.2
    unfold y_hp at q2
    simp only [Bool.and_eq_true, decide_eq_true_eq] at q2
    show y_J nD nK nG (y_dp M g k)
    have h1 : (y_dp M g k).2 11 k = 0 := by unfold y_dp; rw [m_sA_arr (k := 13) (j := 11) (by decide), m_sA_arr (k := 12) (j := 11) (by decide), m_sA_at]
    refine hJ.key (k := k) (fun j hj => ?_) (fun i hi => ?_) (fun i hi => ?_) (by rw [q2.1]; decide) (by rw [h1]; decide) (fun a => by rw [h1] at a; exact absurd a (by decide))
    · unfold y_dp; rw [m_sA_arr (by omega), m_sA_arr (by omega), m_sA_arr (by omega)]
    · unfold y_dp; rw [m_sA_arr (k := 13) (j := 11) (by decide), m_sA_arr (k := 12) (j := 11) (by decide), m_sA_ix hi]
    · unfold y_dp; rw [m_sA_arr (k := 13) (j := 12) (by decide), m_sA_ix hi, m_sA_arr (k := 11) (j := 12) (by decide)]
  · exact hJ
theorem y_J_unlock (hI : m_I nR nD nK nG M) (hJ : y_J nD nK nG M) (hg : g < nG) (hd : d < nD) : y_J nD nK nG (F_unlock M nK (nI g) (nI d)).2 := by
  have hs := y_nsm hI
  by_cases c : (F_unlock M nK (nI g) (nI d)).1 < 0
  · rw [y_unlock_neg hI hg hd c]; exact hJ
  · obtain ⟨k, hk, -, e, e11, e12, e10, e8, elt, -⟩ := y_unlock_pos hI hg hd c
    obtain ⟨u, hu1, hu2⟩ : ∃ u, u < 2 ^ 31 ∧ M.2 17 g + M.2 7 d = nI u := by
      obtain ⟨a, a2⟩ := y_tmE hI hg
      obtain ⟨b, b2⟩ := y_ut hI hd
      exact ⟨_, (by omega : y_tm M g + k_u M d < 2 ^ 31), by rw [a, b, nI_add]⟩
    have s6 : (F_unlock M nK (nI g) (nI d)).2.2 6 = M.2 6 := by rw [e, m_sA_arr (by decide), m_sA_arr (by decide), m_sA_arr (by decide), m_sA_arr (by decide)]
    have s10 : (F_unlock M nK (nI g) (nI d)).2.2 10 = M.2 10 := by rw [e, m_sA_arr (by decide), m_sA_arr (by decide), m_sA_arr (by decide), m_sA_arr (by decide)]
    have s15 : (F_unlock M nK (nI g) (nI d)).2.2 15 = M.2 15 := by rw [e, m_sA_arr (by decide), m_sA_arr (by decide), m_sA_arr (by decide), m_sA_arr (by decide)]
    have s19 : (F_unlock M nK (nI g) (nI d)).2.2 19 = M.2 19 := by rw [e, m_sA_arr (by decide), m_sA_arr (by decide), m_sA_arr (by decide), m_sA_arr (by decide)]
    have s8 : (F_unlock M nK (nI g) (nI d)).2.2 8 d = nI u := by rw [e, m_sA_arr (k := 12) (j := 8) (by decide), m_sA_arr (k := 11) (j := 8) (by decide), m_sA_at, hu2]
    have s8n : ∀ i, i ≠ d → (F_unlock M nK (nI g) (nI d)).2.2 8 i = M.2 8 i := fun i hi => by rw [e, m_sA_arr (k := 12) (j := 8) (by decide), m_sA_arr (k := 11) (j := 8) (by decide), m_sA_ix hi, m_sA_arr (by decide)]
    have s11 : (F_unlock M nK (nI g) (nI d)).2.2 11 k = 2 := by rw [e, m_sA_arr (k := 12) (j := 11) (by decide), m_sA_at]
    have s11n : ∀ i, i ≠ k → (F_unlock M nK (nI g) (nI d)).2.2 11 i = M.2 11 i := fun i hi => by rw [e, m_sA_arr (k := 12) (j := 11) (by decide), m_sA_ix hi, m_sA_arr (by decide), m_sA_arr (by decide)]
    have s12 : (F_unlock M nK (nI g) (nI d)).2.2 12 k = nI d := by rw [e, m_sA_at]
    have s12n : ∀ i, i ≠ k → (F_unlock M nK (nI g) (nI d)).2.2 12 i = M.2 12 i := fun i hi => by rw [e, m_sA_ix hi, m_sA_arr (by decide), m_sA_arr (by decide), m_sA_arr (by decide)]
    refine ⟨hJ.1.same (fun i _ => by rw [s15]) (fun i _ => by rw [s19]), fun i hi a x hx b => ?_, fun i hi a x hx b => ?_, fun x hx => ?_⟩
    · by_cases q : i = k
      · subst q; rw [s11] at a; exact absurd a (by decide)
      · rw [s11n i q] at a; rw [s12n i q] at b; rw [s19]; exact hJ.2.1 i hi a x hx b
    · rw [s6, s10]
      by_cases q : i = k
      · subst q
        have : x = d := (nI_inj (by omega) (by omega)).mp (b.symm.trans s12)
        rw [this]; exact e10
      · rw [s11n i q] at a; rw [s12n i q] at b; exact hJ.2.2.1 i hi a x hx b
    · by_cases q : x = d
      · subst q
        have h0 := hJ.2.2.2 x hx
        have l0 : y_lk M x = false := by unfold y_lk; rw [decide_eq_true e8]; simp
        rw [l0, if_neg (by decide)] at h0
        obtain ⟨-, c0, hc0, ec⟩ := y_closed hI hx (by unfold x_op; rw [decide_eq_true e8]; rfl)
        have l1 : y_lk (F_unlock M nK (nI g) (nI x)).2 x = true := by
          unfold y_lk
          rw [s6, s8, ec, decide_eq_false (nI_pos (by omega)), decide_eq_false (nI_pos hu1)]; rfl
        rw [l1, if_pos rfl]
        have h1 := y_cnt_up (p := fun k => decide (M.2 11 k = 2) && decide (M.2 12 k = nI x)) (p' := fun k => decide ((F_unlock M nK (nI g) (nI x)).2.2 11 k = 2) && decide ((F_unlock M nK (nI g) (nI x)).2.2 12 k = nI x)) (k := k) hk (fun i hi => by show (decide _ && decide _) = (decide _ && decide _); rw [s11n i hi, s12n i hi]) (by show (decide _ && decide _) = false; rw [e11]; rfl) (by show (decide _ && decide _) = true; rw [s11, s12]; simp)
        unfold y_by at h0 ⊢
        rw [h1, h0]
      · have h1 : y_by (F_unlock M nK (nI g) (nI d)).2 nK x = y_by M nK x := by
          unfold y_by
          refine k_n_congr fun i _ => ?_
          by_cases w : i = k
          · subst w
            have : ¬ nI d = nI x := fun z => q ((nI_inj (by omega) (by omega)).mp z).symm
            rw [s12, decide_eq_false this, e11, Bool.and_false]; rfl
          · rw [s11n i w, s12n i w]
        have h2 : y_lk (F_unlock M nK (nI g) (nI d)).2 x = y_lk M x := by unfold y_lk; rw [s6, s8n x q]
        rw [h1, h2]; exact hJ.2.2.2 x hx
end YK
