/-! what always holds in the law's games besides; what agrees looks at -/
def y_by (M : m_S) (nK d : Nat) : Nat := k_n (fun k => decide (M.2 11 k = 2) && decide (M.2 12 k = nI d)) nK
def y_lk (M : m_S) (d : Nat) : Bool := !(decide (M.2 6 d < 0)) && !(decide (M.2 8 d < 0))
def y_Sz (M : m_S) (nG : Nat) : Prop := ∃ z : Nat → Nat, (∀ g, g < nG → M.2 15 g = nI (z g) ∧ (M.2 19 g = 2 ↔ z g = 0)) ∧ k_s z nG ≤ 24
def y_J (nD nK nG : Nat) (M : m_S) : Prop :=
  y_Sz M nG ∧
  (∀ k, k < nK → M.2 11 k = 1 → ∀ g, g < nG → M.2 12 k = nI g → ¬ M.2 19 g = 2) ∧
  (∀ k, k < nK → M.2 11 k = 2 → ∀ d, d < nD → M.2 12 k = nI d → M.2 10 k = M.2 6 d) ∧
  (∀ d, d < nD → y_by M nK d = if y_lk M d = true then 1 else 0)
section YA
variable {nR nD nK nG g d k : Nat} {M : m_S}
theorem y_size (hJ : y_J nD nK nG M) (hg : g < nG) : M.2 19 g = 2 ↔ M.2 15 g = 0 := by
  obtain ⟨⟨z, hz, hs⟩, -⟩ := hJ
  obtain ⟨e, h⟩ := hz g hg
  have := k_s_get (f := z) hg
  rw [h, e]
  exact ⟨fun q => by rw [q]; rfl, fun q => (nI_inj (b := 0) (by omega) (by omega)).mp q⟩
theorem y_state (hI : m_I nR nD nK nG M) (hg : g < nG) : M.2 19 g = 0 ∨ M.2 19 g = 1 ∨ M.2 19 g = 2 := by
  rcases (hI.2.2.2.2.1 g hg).2.2 with h | h | h
  · exact Or.inl h
  · exact Or.inr (Or.inl h)
  · exact Or.inr (Or.inr h.1)
theorem k_n_zero {p : Nat → Bool} : ∀ {n : Nat}, (∀ i, i < n → p i = false) → k_n p n = 0
  | 0, _ => rfl
  | n + 1, h => by
    unfold k_n
    rw [k_n_zero (n := n) (fun i hi => h i (by omega)), h n (by omega)]; rfl
theorem y_held0 (hI : m_I nR nD nK nG M) (hJ : y_J nD nK nG M) (hg : g < nG) (h : M.2 19 g = 2) : k_n (y_hp M (nI g)) nK = 0 := by
  refine k_n_zero fun i hi => ?_
  cases q : y_hp M (nI g) i with
  | false => rfl
  | true =>
    unfold y_hp at q
    simp only [Bool.and_eq_true, decide_eq_true_eq] at q
    exact absurd h (hJ.2.1 i hi q.1 g hg q.2)
theorem y_byE {j : Nat} (hd : d < 2 ^ 31) : (if M.2 11 j = 2 then M.2 12 j else -6) = nI d ↔ (decide (M.2 11 j = 2) && decide (M.2 12 j = nI d)) = true := by
  by_cases c : M.2 11 j = 2
  · simp [c]
  · simp [c, y_ne6 hd]
theorem y_dead_yes (hI : m_I nR nD nK nG M) (hg : g < nG) (hp : m_pl M (nI g) = true) (h : F_plan M nD nK (nI g) 0 = -6) : F_dead M nD nK (g + 1) = F_dead M nD nK g + 1 := by
  show F_dead M nD nK g + m_c (m_pl M (nI g) && (k_best M nD nK (nI g)).isNone) = _
  rw [hp]
  cases hb : k_best M nD nK (nI g) with
  | none => rfl
  | some p =>
    have := (y_best_len hI hb).2.1
    rw [y_plan0 hI hg hp hb] at h
    exact absurd h.symm (y_ne6 (by omega))
theorem y_dead_no (hI : m_I nR nD nK nG M) (hg : g < nG) (hp : m_pl M (nI g) = true) (h : ¬ F_plan M nD nK (nI g) 0 = -6) : F_dead M nD nK (g + 1) = F_dead M nD nK g + 0 := by
  show F_dead M nD nK g + m_c (m_pl M (nI g) && (k_best M nD nK (nI g)).isNone) = _
  cases hb : k_best M nD nK (nI g) with
  | none => exact absurd (y_planN hI hg hp hb rfl) h
  | some p => rw [hp]; rfl
theorem y_dead_out (hp : m_pl M (nI g) = false) : F_dead M nD nK (g + 1) = F_dead M nD nK g := by
  show F_dead M nD nK g + m_c (m_pl M (nI g) && (k_best M nD nK (nI g)).isNone) = _
  rw [hp]
  exact Int32.add_zero _
theorem y_plan4 (hI : m_I nR nD nK nG M) (hg : g < nG) (hp : m_pl M (nI g) = false) : F_plan M nD nK (nI g) 0 = -4 := by
  unfold F_plan
  rw [y_nog hI hg, hp, if_neg (by decide), if_neg (by decide), if_pos (by decide)]
theorem y_planned4 (hI : m_I nR nD nK nG M) (hg : g < nG) (hp : m_pl M (nI g) = false) : F_planned M nD nK (nI g) 0 = -4 := by
  unfold F_planned
  rw [y_nog hI hg, hp, if_neg (by decide), if_neg (by decide), if_pos (by decide)]
theorem y_reach4 (hI : m_I nR nD nK nG M) (hg : g < nG) (hp : m_pl M (nI g) = false) : F_reach M nD (nI g) = -4 := by
  unfold F_reach
  rw [y_nog hI hg, hp, if_neg (by decide), if_neg (by decide)]
theorem y_way4 (hI : m_I nR nD nK nG M) (hg : g < nG) (hp : m_pl M (nI g) = false) (hr : 0 < nR) : F_way M nD (nI g) 0 = -4 := by
  have h0 : m_no (0 : Int32) (M.1 0) = false := y_nor (r := 0) hI hr
  unfold F_way
  rw [y_nog hI hg, h0, hp, if_neg (by decide), if_neg (by decide)]
/-- the law's rows of locks and keys by color -/
def y_lkI (M : m_S) (i : Nat) (f : Nat → Int32) : Prop := ∀ c, c < 6 → f c = m_cnt (fun d => decide (M.2 6 d = nI c) && decide (M.2 8 d < 0)) i
def y_frI (M : m_S) (i : Nat) (f : Nat → Int32) : Prop := ∀ c, c < 6 → f c = m_cnt (fun k => decide (M.2 10 k = nI c) && !(decide (M.2 11 k = 2))) i
theorem m_cnt_S {p : Nat → Bool} {i : Nat} : m_cnt p (i + 1) = m_cnt p i + m_c (p i) := rfl
theorem y_lkI.same {i : Nat} {f : Nat → Int32} (h : y_lkI M i f) (hn : ∀ c, c < 6 → (decide (M.2 6 i = nI c) && decide (M.2 8 i < 0)) = false) : y_lkI M (i + 1) f := fun c hc => by
  rw [m_cnt_S, hn c hc, h c hc]
  exact (Int32.add_zero _).symm
theorem y_lkI.up {i c0 : Nat} {f : Nat → Int32} (h : y_lkI M i f) (hc0 : c0 < 6) (e : M.2 6 i = nI c0) (h8 : M.2 8 i < 0) : y_lkI M (i + 1) (upd f c0 (f c0 + 1)) := fun c hc => by
  rw [m_cnt_S, e, decide_eq_true h8, Bool.and_true]
  show (if c = c0 then f c0 + 1 else f c) = _
  by_cases q : c = c0
  · subst q
    rw [if_pos rfl, decide_eq_true rfl, h c hc]; rfl
  · rw [if_neg q, decide_eq_false (fun w => q ((nI_inj (by omega) (by omega)).mp w).symm), h c hc]
    exact (Int32.add_zero _).symm
theorem y_frI.same {i : Nat} {f : Nat → Int32} (h : y_frI M i f) (hn : M.2 11 i = 2) : y_frI M (i + 1) f := fun c hc => by
  rw [m_cnt_S, decide_eq_true hn, h c hc]
  rw [show (decide (M.2 10 i = nI c) && !true) = false from by simp]
  exact (Int32.add_zero _).symm
theorem y_frI.up {i c0 : Nat} {f : Nat → Int32} (h : y_frI M i f) (hc0 : c0 < 6) (e : M.2 10 i = nI c0) (hn : ¬ M.2 11 i = 2) : y_frI M (i + 1) (upd f c0 (f c0 + 1)) := fun c hc => by
  rw [m_cnt_S, e, decide_eq_false hn]
  show (if c = c0 then f c0 + 1 else f c) = _
  by_cases q : c = c0
  · subst q
    rw [if_pos rfl, decide_eq_true rfl, h c hc]; rfl
  · rw [if_neg q, decide_eq_false (fun w => q ((nI_inj (by omega) (by omega)).mp w).symm), h c hc]
    exact (Int32.add_zero _).symm
theorem y_col0 {c : Nat} (hc : c < 6) : F_color M nD nK (nI c) 0 = m_cnt (fun d => decide (M.2 6 d = nI c) && decide (M.2 8 d < 0)) nD := by
  have h : m_in (nI c) 0 5 = true := m_in_iff.mpr ⟨nI_pos (by omega), nI_nlt (a := 5) (by omega) (by omega)⟩
  unfold F_color
  rw [h, if_neg (by decide), if_pos rfl]
theorem y_col1 {c : Nat} (hc : c < 6) : F_color M nD nK (nI c) 1 = m_cnt (fun k => decide (M.2 10 k = nI c) && !(decide (M.2 11 k = 2))) nK := by
  have h : m_in (nI c) 0 5 = true := m_in_iff.mpr ⟨nI_pos (by omega), nI_nlt (a := 5) (by omega) (by omega)⟩
  unfold F_color
  rw [h, if_neg (by decide), if_neg (by decide)]
theorem y_colB : F_color M nD nK 6 0 = -2 := rfl
theorem y_colC : F_color M nD nK 0 2 = -2 := rfl
/-- doors -/
theorem y_color (hI : m_I nR nD nK nG M) (hd : d < nD) (h : ¬ M.2 6 d < 0) : ∃ c, c < 6 ∧ M.2 6 d = nI c := by
  rcases (hI.2.2.1 d hd).2.2 with ⟨e, -⟩ | ⟨⟨x, hx, e⟩, -⟩
  · rw [e] at h; exact absurd (by decide) h
  · exact ⟨x, by omega, e⟩
theorem y_door7 (hI : m_I nR nD nK nG M) (hd : d < nD) : M.2 6 d < 0 ↔ M.2 7 d = 0 := by
  rcases (hI.2.2.1 d hd).2.2 with ⟨e, e7, -⟩ | ⟨⟨x, hx, e⟩, ⟨u, u1, u2, e7⟩, -⟩
  · rw [e, e7]; decide
  · rw [e, e7]
    exact ⟨fun q => absurd q (nI_pos (by omega)), fun q => by have := (nI_inj (b := 0) (by omega) (by omega)).mp q; omega⟩
theorem y_door8 (hI : m_I nR nD nK nG M) (hd : d < nD) (h : M.2 6 d < 0) : M.2 8 d = 0 := by
  rcases (hI.2.2.1 d hd).2.2 with ⟨-, -, e8⟩ | ⟨⟨x, hx, e⟩, -⟩
  · exact e8
  · rw [e] at h; exact absurd h (nI_pos (by omega))
theorem y_byV (hJ : y_J nD nK nG M) (hd : d < nD) : nI (y_by M nK d) = z_b (y_lk M d) := by
  rw [hJ.2.2.2 d hd]
  cases y_lk M d <;> rfl
/-- keys -/
theorem y_kcol (hI : m_I nR nD nK nG M) (hk : k < nK) : ∃ c, c < 6 ∧ M.2 10 k = nI c := by
  obtain ⟨x, hx, e⟩ := (hI.2.2.2.1 k hk).1
  exact ⟨x, by omega, e⟩
theorem y_kst (hI : m_I nR nD nK nG M) (hk : k < nK) : ∃ j, j < 2 ^ 20 ∧ M.2 12 k = nI j ∧ (M.2 11 k = 0 ∨ M.2 11 k = 1 ∨ M.2 11 k = 2) := by
  have hs := y_nsm hI
  rcases (hI.2.2.2.1 k hk).2.1 with ⟨e, r, hr, e2⟩ | ⟨e, r, hr, e2⟩ | ⟨e, r, hr, e2⟩
  · exact ⟨r, by omega, e2, Or.inl e⟩
  · exact ⟨r, by omega, e2, Or.inr (Or.inl e)⟩
  · exact ⟨r, by omega, e2, Or.inr (Or.inr e)⟩
theorem y_kat (hI : m_I nR nD nK nG M) (hk : k < nK) {z : Int32} : decide (M.2 11 k = z) = !(decide ((if M.2 11 k = z then M.2 12 k else -6) < 0)) := by
  obtain ⟨j, hj, e, -⟩ := y_kst hI hk
  by_cases c : M.2 11 k = z
  · rw [if_pos c, decide_eq_true c, e, decide_eq_false (nI_pos (by omega))]; rfl
  · rw [if_neg c, decide_eq_false c]; decide
theorem y_klt2 (hI : m_I nR nD nK nG M) (hk : k < nK) : M.2 11 k < 2 ↔ ¬ M.2 11 k = 2 := by
  obtain ⟨-, -, -, h⟩ := y_kst hI hk
  rcases h with h | h | h <;> rw [h] <;> decide
/-- sizes in play and escaped -/
theorem y_in_out (hI : m_I nR nD nK nG M) (hJ : y_J nD nK nG M) : ∃ a b, m_sizes M nG 0 = nI a ∧ m_sizes M nG 1 = nI b ∧ a + b ≤ 24 ∧ m_players M nG = nI (a + b) := by
  obtain ⟨⟨z, hz, hs⟩, -⟩ := hJ
  have e0 : ∀ v : Int32, m_sizes M nG v = nI (k_s (fun g => if M.2 19 g = v then z g else 0) nG) := fun v => by
    unfold m_sizes
    refine m_sum_s fun k hk => ?_
    by_cases c : M.2 19 k = v
    · rw [if_pos c, if_pos c]; exact (hz k hk).1
    · rw [if_neg c, if_neg c]; rfl
  have key : ∀ n, n ≤ nG → k_s (fun g => if M.2 19 g = 0 then z g else 0) n + k_s (fun g => if M.2 19 g = 1 then z g else 0) n = k_s z n := by
    intro n
    induction n with
    | zero => intro _; rfl
    | succ n ih =>
      intro hn
      have h1 := ih (by omega)
      unfold k_s
      rcases y_state hI (g := n) (by omega) with h | h | h
      · rw [h, if_pos rfl, if_neg (by decide)]; omega
      · rw [h, if_neg (by decide), if_pos rfl]; omega
      · have := ((hz n (by omega)).2).mp h
        rw [h, if_neg (by decide), if_neg (by decide)]; omega
  refine ⟨_, _, e0 0, e0 1, ?_, ?_⟩
  · rw [key nG (Nat.le_refl _)]; exact hs
  · rw [key nG (Nat.le_refl _)]
    unfold m_players
    exact m_sum_s fun k hk => (hz k hk).1
end YA
theorem z_loopG {σ : Type} {p : Program} {l : Launch} {e : Env} {R : Room} {s : State} {m : MethodId} {args : Array Value} {below : List Frame} {meth : Method} {c : Code} {A : Nat → Prop} {n : Nat} {Q : State → Prop} {H : Heap} {pc : Nat} {L : List (Nat × Value)} {st : List Value} (cS : σ → Nat × Nat) (μ : σ → Nat) (I : σ → Heap → Prop) (Lf : σ → List (Nat × Value)) (x0 : σ) (h0 : I x0 H) (hL : z_all (Lf x0) L)
    (h : ∀ x H1, I x H1 → (∀ y H2 L', I y H2 → μ y < μ x → z_all (Lf y) L' → z_Z p l e R s m args below meth c A n (cS y).1 (cS y).2 Q H2 pc L' st) → z_Z p l e R s m args below meth c A n (cS x).1 (cS x).2 Q H1 pc (Lf x) st) : z_Z p l e R s m args below meth c A n (cS x0).1 (cS x0).2 Q H pc L st := by
  have key : ∀ k x H1, μ x < k → I x H1 → z_Z p l e R s m args below meth c A n (cS x).1 (cS x).2 Q H1 pc (Lf x) st := by
    intro k
    induction k with
    | zero => intro x H1 hk; exact absurd hk (by omega)
    | succ k ih => intro x H1 hk hx; exact h x H1 hx (fun y H2 L' hy hm hL' => z_sub _ hL' (ih y H2 (by omega) hy))
  exact z_sub _ hL (key _ x0 H (Nat.lt_succ_self _) h0)
section YMH
variable {p : Program} {l : Launch} {e : Env} {R : Room} {s : State} {m : MethodId} {args : Array Value} {below : List Frame} {meth : Method} {c : Code} {A : Nat → Prop} {n cells slots : Nat} {Q : State → Prop} {H : Heap} {pc : Nat} {L : List (Nat × Value)} {rest : List Value}
/-- two ways that meet at J with other heaps -/
theorem z_meetH (J : Nat) (I : Heap → Prop) {st : List Value} (kJ : ∀ H', I H' → z_Z p l e R s m args below meth c A n cells slots Q H' J L rest) (kb : (∀ H', I H' → z_Z p l e R s m args below meth c A n cells slots Q H' J L rest) → z_Z p l e R s m args below meth c A n cells slots Q H pc L st) : z_Z p l e R s m args below meth c A n cells slots Q H pc L st := kb kJ
end YMH
theorem c_L_plans (l : Launch) (G : z_G) (ad : Nat → Nat → Nat) (M : m_S) (t4 : Int32) (sz : Nat) {nR nD nK nG : Nat} (hI : m_I nR nD nK nG M) (g : Nat) (hg : g < nG) (hp : m_pl M (nI g) = true) : z_M l yL_plans cL_plans 16 (some .boolean) 8 1 6 [.ref (ad 4 0), .int (nI g)] G (fun H => H.size = sz ∧ y_X G ad nR nD nK nG M t4 H) (fun q => x_A ad nR nD nK nG q ∨ sz ≤ q) (fun v _ H => v = some (.int 1) ∧ y_X G ad nR nD nK nG M t4 H) := by
  cases hb : k_best M nD nK (nI g) with
  | none => exact c_L_plansN l G ad M t4 sz hI g hg hp hb
  | some p => exact c_L_plansS l G ad M t4 sz hI g hg hp hb
