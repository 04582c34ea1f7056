/-! which numbers are met, and which lead to a best plan -/
def q_Met (M : m_S) (nD : Nat) (cA : (Nat → Bool) → Nat → Bool) (t : Nat) : Prop := ∃ ds, p_F cA ds ∧ p_num 0 (k_ci M) ds = t
def q_B (M : m_S) (nD : Nat) (cA : (Nat → Bool) → Nat → Bool) (s k t : Nat) : Prop := t = 0 ∨ ∃ s' d, (s' < s ∨ (s' = s ∧ k_ci M d < k)) ∧ q_Met M nD cA s' ∧ cA (k_C M nD (k_ci M) s') d = true ∧ t = s' ||| 2 ^ k_ci M d
section MET
variable {nR nD nK nG r0 : Nat} {M : m_S} {cA : (Nat → Bool) → Nat → Bool} {esc : (Nat → Bool) → Bool} {u : Nat → Nat}
/-- what a door that can come next must be -/
def q_A (M : m_S) (nD : Nat) (cA : (Nat → Bool) → Nat → Bool) : Prop := ∀ S d, cA S d = true → d < nD ∧ x_op M d = false ∧ S d = false
theorem p_F.ok (hA : q_A M nD cA) : ∀ {ds : List Nat}, p_F cA ds → ∀ x, x ∈ ds → x < nD ∧ x_op M x = false
  | [], _, x, hx => by cases hx
  | d :: ds, h, x, hx => by
    rcases List.mem_cons.mp hx with e | e
    · subst e; exact ⟨(hA _ _ h.2).1, (hA _ _ h.2).2.1⟩
    · exact p_F.ok hA h.1 x e
theorem q_C (hI : m_I nR nD nK nG M) (hA : q_A M nD cA) {ds : List Nat} (h : p_F cA ds) : k_C M nD (k_ci M) (p_num 0 (k_ci M) ds) = p_mem ds := k_C_num (k_X_ci hI) (h.ok hA)
theorem q_Met.zero : q_Met M nD cA 0 := ⟨[], trivial, rfl⟩
theorem q_Met.lt (hI : m_I nR nD nK nG M) (hA : q_A M nD cA) {t : Nat} (h : q_Met M nD cA t) : t < 2 ^ k_ci M nD := by
  obtain ⟨ds, h1, rfl⟩ := h
  exact p_num_lt (k_X_ci hI) (h1.ok hA)
theorem q_Met.step (hI : m_I nR nD nK nG M) (hA : q_A M nD cA) {t d : Nat} (h : q_Met M nD cA t) (hc : cA (k_C M nD (k_ci M) t) d = true) : q_Met M nD cA (t ||| 2 ^ k_ci M d) := by
  obtain ⟨ds, h1, rfl⟩ := h
  rw [q_C hI hA h1] at hc
  exact ⟨d :: ds, ⟨h1, hc⟩, rfl⟩
theorem q_up (hI : m_I nR nD nK nG M) (hA : q_A M nD cA) {t d : Nat} (hc : cA (k_C M nD (k_ci M) t) d = true) : t < t ||| 2 ^ k_ci M d := by
  obtain ⟨h1, h2, h3⟩ := hA _ _ hc
  rw [k_C_t h1 h2] at h3
  exact lt_or h3
theorem q_Met_iff (hI : m_I nR nD nK nG M) (hA : q_A M nD cA) {t : Nat} : q_Met M nD cA t ↔ q_B M nD cA t 0 t := by
  constructor
  · rintro ⟨ds, h1, rfl⟩
    cases ds with
    | nil => exact Or.inl rfl
    | cons d ds =>
      have hc : cA (k_C M nD (k_ci M) (p_num 0 (k_ci M) ds)) d = true := by rw [q_C hI hA h1.1]; exact h1.2
      exact Or.inr ⟨p_num 0 (k_ci M) ds, d, Or.inl (q_up hI hA hc), ⟨ds, h1.1, rfl⟩, hc, rfl⟩
  · rintro (h | ⟨s', d, -, h1, h2, h3⟩)
    · rw [h]; exact q_Met.zero
    · rw [h3]; exact h1.step hI hA h2
theorem q_B_up (hI : m_I nR nD nK nG M) (hA : q_A M nD cA) {s k t : Nat} : q_B M nD cA s k t → t ≤ s → q_B M nD cA s 0 t := by
  rintro (h | ⟨s', d, h0, h1, h2, h3⟩) hts
  · exact Or.inl h
  · refine Or.inr ⟨s', d, ?_, h1, h2, h3⟩
    have := q_up hI hA h2
    omega
theorem q_B.met (hI : m_I nR nD nK nG M) (hA : q_A M nD cA) {s k : Nat} : q_B M nD cA s k s ↔ q_Met M nD cA s :=
  ⟨fun h => (q_Met_iff hI hA).mpr (q_B_up hI hA h (Nat.le_refl _)), fun h => by
    rcases (q_Met_iff hI hA).mp h with q | ⟨s', d, h0, h1⟩
    · exact Or.inl q
    · exact Or.inr ⟨s', d, by omega, h1⟩⟩
/-- nothing comes from a number that is not met -/
theorem q_B.pass {s k t : Nat} (h : ¬ q_Met M nD cA s) : q_B M nD cA (s + 1) 0 t ↔ q_B M nD cA s k t := by
  constructor
  · rintro (q | ⟨s', d, h0, h1, h2⟩)
    · exact Or.inl q
    · have : s' ≠ s := fun e => h (e ▸ h1)
      exact Or.inr ⟨s', d, by omega, h1, h2⟩
  · rintro (q | ⟨s', d, h0, h1, h2⟩)
    · exact Or.inl q
    · exact Or.inr ⟨s', d, by omega, h1, h2⟩
theorem q_B.full (hA : q_A M nD cA) {s t : Nat} : q_B M nD cA (s + 1) 0 t ↔ q_B M nD cA s (k_ci M nD) t := by
  constructor
  · rintro (q | ⟨s', d, h0, h1, h2, h3⟩)
    · exact Or.inl q
    · have := k_ci_lt (hA _ _ h2).1 (hA _ _ h2).2.1
      exact Or.inr ⟨s', d, by omega, h1, h2, h3⟩
  · rintro (q | ⟨s', d, h0, h1, h2, h3⟩)
    · exact Or.inl q
    · exact Or.inr ⟨s', d, by omega, h1, h2, h3⟩
/-- one lock more was tried at s, that of door e -/
theorem q_B.next (hI : m_I nR nD nK nG M) (hA : q_A M nD cA) {s t e : Nat} (he : e < nD) (ho : x_op M e = false) (hm : q_Met M nD cA s) : q_B M nD cA s (k_ci M e + 1) t ↔ (q_B M nD cA s (k_ci M e) t ∨ (cA (k_C M nD (k_ci M) s) e = true ∧ t = s ||| 2 ^ k_ci M e)) := by
  constructor
  · rintro (q | ⟨s', d, h0, h1, h2, h3⟩)
    · exact Or.inl (Or.inl q)
    · by_cases c : s' = s ∧ k_ci M d = k_ci M e
      · have : d = e := (k_X_ci hI).1 d e (hA _ _ h2).1 he (hA _ _ h2).2.1 ho c.2
        subst this
        rw [c.1] at h2 h3
        exact Or.inr ⟨h2, h3⟩
      · exact Or.inl (Or.inr ⟨s', d, by omega, h1, h2, h3⟩)
  · rintro ((q | ⟨s', d, h0, h1, h2, h3⟩) | ⟨h2, h3⟩)
    · exact Or.inl q
    · exact Or.inr ⟨s', d, by omega, h1, h2, h3⟩
    · exact Or.inr ⟨s, e, Or.inr ⟨rfl, by omega⟩, hm, h2, h3⟩
def q_cost (M : m_S) (nD : Nat) (u : Nat → Nat) (t : Nat) : Nat := k_s (fun x => if k_C M nD (k_ci M) t x = true then u x else 0) nD
def q_size (M : m_S) (nD t : Nat) : Nat := k_n (k_C M nD (k_ci M) t) nD
/-- the best cost and size among the numbers below s that are met and escape -/
def q_best (M : m_S) (nD : Nat) (cA : (Nat → Bool) → Nat → Bool) (esc : (Nat → Bool) → Bool) (u : Nat → Nat) (s : Nat) (x y : Int32) : Prop :=
  (x = -6 ∧ y = 0 ∧ ∀ t, t < s → q_Met M nD cA t → esc (k_C M nD (k_ci M) t) = false) ∨
  ∃ c m, c < 2 ^ 20 ∧ m ≤ 16 ∧ x = nI c ∧ y = nI m ∧ (∃ t, t < s ∧ q_Met M nD cA t ∧ esc (k_C M nD (k_ci M) t) = true ∧ q_cost M nD u t = c ∧ q_size M nD t = m) ∧ ∀ t, t < s → q_Met M nD cA t → esc (k_C M nD (k_ci M) t) = true → c < q_cost M nD u t ∨ (c = q_cost M nD u t ∧ m ≤ q_size M nD t)
theorem q_best.zero : q_best M nD cA esc u 0 (-6) 0 := Or.inl ⟨rfl, rfl, fun t ht => absurd ht (by omega)⟩
theorem q_best.pass {s : Nat} {x y : Int32} (h : q_best M nD cA esc u s x y) (hn : q_Met M nD cA s → esc (k_C M nD (k_ci M) s) = false) : q_best M nD cA esc u (s + 1) x y := by
  rcases h with ⟨h1, h2, h3⟩ | ⟨c, m, hc, hm, h1, h2, ⟨t, t1, t2⟩, h4⟩
  · refine Or.inl ⟨h1, h2, fun t ht hq => ?_⟩
    by_cases e : t = s
    · subst e; exact hn hq
    · exact h3 t (by omega) hq
  · refine Or.inr ⟨c, m, hc, hm, h1, h2, ⟨t, by omega, t2⟩, fun t ht hq he => ?_⟩
    by_cases e : t = s
    · subst e; rw [hn hq] at he; cases he
    · exact h4 t (by omega) hq he
theorem q_size_le {t : Nat} : q_size M nD t ≤ nD := k_n_le _ _
theorem k_s_le {f : Nat → Nat} {b : Nat} : ∀ {n : Nat}, (∀ i, i < n → f i ≤ b) → k_s f n ≤ n * b
  | 0, _ => by simp [k_s]
  | n + 1, h => by
    have ih := k_s_le (n := n) (fun i hi => h i (by omega))
    have := h n (by omega)
    unfold k_s
    rw [Nat.succ_mul]; omega
theorem q_cost_le (hI : m_I nR nD nK nG M) {t : Nat} : q_cost M nD (k_u M) t < 2 ^ 20 := by
  have h16 := hI.1.2.1.2
  have : q_cost M nD (k_u M) t ≤ nD * 60 := k_s_le (fun i hi => by
    split
    · obtain ⟨v, hv, e⟩ := hI.ut hi
      unfold k_u; rw [e, nI_clamp (by omega)]; exact hv
    · omega)
  have : nD * 60 ≤ 16 * 60 := Nat.mul_le_mul_right _ h16
  omega
/-- what the reference asks before it keeps a set -/
def q_better (x y : Int32) (c m : Nat) : Bool := decide (x < 0) || decide (nI c < x) || (decide (nI c = x) && decide (nI m < y))
theorem q_best.take {s : Nat} {x y : Int32} (h : q_best M nD cA esc u s x y) (h16 : nD ≤ 16) (hc : q_cost M nD u s < 2 ^ 20) (hq : q_Met M nD cA s) (he : esc (k_C M nD (k_ci M) s) = true) (hb : q_better x y (q_cost M nD u s) (q_size M nD s) = true) : q_best M nD cA esc u (s + 1) (nI (q_cost M nD u s)) (nI (q_size M nD s)) := by
  have hs := q_size_le (M := M) (nD := nD) (t := s)
  refine Or.inr ⟨_, _, hc, by omega, rfl, rfl, ⟨s, by omega, hq, he, rfl, rfl⟩, fun t ht hq2 he2 => ?_⟩
  by_cases e : t = s
  · subst e; omega
  · rcases h with ⟨h1, h2, h3⟩ | ⟨c, m, hc2, hm, h1, h2, -, h4⟩
    · rw [h3 t (by omega) hq2] at he2; cases he2
    · have h5 := h4 t (by omega) hq2 he2
      unfold q_better at hb
      rw [h1, h2] at hb
      simp only [Bool.or_eq_true, Bool.and_eq_true, decide_eq_true_eq] at hb
      have n1 := nI_pos (n := c) (by omega)
      have n2 := nI_ltI (a := q_cost M nD u s) (b := c) (by omega) (by omega)
      have n3 := nI_ltI (a := q_size M nD s) (b := m) (by omega) (by omega)
      have n4 := nI_inj (a := q_cost M nD u s) (b := c) (by omega) (by omega)
      rw [n2, n3, n4] at hb
      rcases hb with (q | q) | q
      · exact absurd q n1
      · omega
      · omega
theorem q_best.keep {s : Nat} {x y : Int32} (h : q_best M nD cA esc u s x y) (h16 : nD ≤ 16) (hc : q_cost M nD u s < 2 ^ 20) (hb : q_better x y (q_cost M nD u s) (q_size M nD s) = false) : q_best M nD cA esc u (s + 1) x y := by
  have hs := q_size_le (M := M) (nD := nD) (t := s)
  unfold q_better at hb
  simp only [Bool.or_eq_false_iff, Bool.and_eq_false_iff, decide_eq_false_iff_not] at hb
  rcases h with ⟨h1, h2, h3⟩ | ⟨c, m, hc2, hm, h1, h2, ⟨t, t1, t2⟩, h4⟩
  · rw [h1] at hb
    exact absurd (by decide) hb.1.1
  · refine Or.inr ⟨c, m, hc2, hm, h1, h2, ⟨t, by omega, t2⟩, fun t ht hq he => ?_⟩
    by_cases e : t = s
    · subst e
      rw [h1, h2] at hb
      have n2 := nI_ltI (a := q_cost M nD u t) (b := c) (by omega) (by omega)
      have n3 := nI_ltI (a := q_size M nD t) (b := m) (by omega) (by omega)
      have n4 := nI_inj (a := q_cost M nD u t) (b := c) (by omega) (by omega)
      rw [n2, n3, n4] at hb
      omega
    · exact h4 t (by omega) hq he
end MET

