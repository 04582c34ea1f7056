def z_is (x : Int32) (P : Prop) : Prop := (x = 1 ∧ P) ∨ (x = 0 ∧ ¬ P)
theorem z_is.iff {x : Int32} {P Q : Prop} (h : z_is x P) (e : P ↔ Q) : z_is x Q := by
  rcases h with ⟨h1, h2⟩ | ⟨h1, h2⟩
  · exact Or.inl ⟨h1, e.mp h2⟩
  · exact Or.inr ⟨h1, fun q => h2 (e.mpr q)⟩
theorem z_is.yes {x : Int32} {P : Prop} (h : z_is x P) (hx : ¬ x = 0) : P := by
  rcases h with ⟨-, q⟩ | ⟨q, -⟩
  · exact q
  · exact absurd q hx
theorem z_is.no {x : Int32} {P : Prop} (h : z_is x P) (hx : x = 0) : ¬ P := by
  rcases h with ⟨q, -⟩ | ⟨-, q⟩
  · rw [q] at hx; exact absurd hx (by decide)
  · exact q
/-- the door at a place of a list, the first one at 0 -/
def p_at : List Nat → Nat → Nat
  | [], _ => 0
  | d :: ds, i => if i = ds.length then d else p_at ds i
section LEAD
variable {nR nD nK nG r0 : Nat} {M : m_S} {cA : (Nat → Bool) → Nat → Bool} {esc : (Nat → Bool) → Bool} {u : Nat → Nat} {c m : Nat}
def q_T (M : m_S) (nD : Nat) (cA : (Nat → Bool) → Nat → Bool) (esc : (Nat → Bool) → Bool) (u : Nat → Nat) (c m t : Nat) : Prop := q_Met M nD cA t ∧ esc (k_C M nD (k_ci M) t) = true ∧ q_cost M nD u t = c ∧ q_size M nD t = m
def q_Ld (M : m_S) (nD : Nat) (cA : (Nat → Bool) → Nat → Bool) (esc : (Nat → Bool) → Bool) (u : Nat → Nat) (c m t : Nat) : Prop := ∀ P : Nat → Prop, (∀ t, q_T M nD cA esc u c m t → P t) → (∀ t d, q_Met M nD cA t → cA (k_C M nD (k_ci M) t) d = true → P (t ||| 2 ^ k_ci M d) → P t) → P t
theorem q_Ld.base {t : Nat} (h : q_T M nD cA esc u c m t) : q_Ld M nD cA esc u c m t := fun _ h1 _ => h1 t h
theorem q_Ld.step {t d : Nat} (hm : q_Met M nD cA t) (hc : cA (k_C M nD (k_ci M) t) d = true) (h : q_Ld M nD cA esc u c m (t ||| 2 ^ k_ci M d)) : q_Ld M nD cA esc u c m t := fun P h1 h2 => h2 t d hm hc (h P h1 h2)
theorem q_Ld.inv {t : Nat} (h : q_Ld M nD cA esc u c m t) : q_T M nD cA esc u c m t ∨ (q_Met M nD cA t ∧ ∃ d, cA (k_C M nD (k_ci M) t) d = true ∧ q_Ld M nD cA esc u c m (t ||| 2 ^ k_ci M d)) := by
  have h1 := h (fun t => q_Ld M nD cA esc u c m t ∧ (q_T M nD cA esc u c m t ∨ (q_Met M nD cA t ∧ ∃ d, cA (k_C M nD (k_ci M) t) d = true ∧ q_Ld M nD cA esc u c m (t ||| 2 ^ k_ci M d)))) (fun t q => ⟨q_Ld.base q, Or.inl q⟩) (fun t d hm hc q => ⟨q_Ld.step hm hc q.1, Or.inr ⟨hm, d, hc, q.1⟩⟩)
  exact h1.2
theorem q_Ld.met {t : Nat} (h : q_Ld M nD cA esc u c m t) : q_Met M nD cA t := by
  rcases h.inv with q | q
  · exact q.1
  · exact q.1
theorem q_Met.size (hI : m_I nR nD nK nG M) (hA : q_A M nD cA) (hH : ∀ {ds : List Nat}, p_F cA ds → ds.Nodup) {ds : List Nat} (h : p_F cA ds) : q_size M nD (p_num 0 (k_ci M) ds) = ds.length := by
  unfold q_size
  rw [q_C hI hA h, p_len_set (hH h) (fun x hx => (h.ok hA x hx).1)]
theorem q_Met.cost (hI : m_I nR nD nK nG M) (hA : q_A M nD cA) (hH : ∀ {ds : List Nat}, p_F cA ds → ds.Nodup) {ds : List Nat} (h : p_F cA ds) : q_cost M nD u (p_num 0 (k_ci M) ds) = p_cost u ds := by
  unfold q_cost
  rw [q_C hI hA h, p_cost_set (hH h) (fun x hx => (h.ok hA x hx).1)]
theorem q_size_up (hI : m_I nR nD nK nG M) (hA : q_A M nD cA) (hH : ∀ {ds : List Nat}, p_F cA ds → ds.Nodup) {t d : Nat} (hm : q_Met M nD cA t) (hc : cA (k_C M nD (k_ci M) t) d = true) : q_size M nD (t ||| 2 ^ k_ci M d) = q_size M nD t + 1 := by
  obtain ⟨ds, h1, rfl⟩ := hm
  rw [q_C hI hA h1] at hc
  have h2 : p_F cA (d :: ds) := ⟨h1, hc⟩
  have e1 := q_Met.size hI hA hH h1
  have e2 := q_Met.size hI hA hH h2
  have e3 : p_num 0 (k_ci M) (d :: ds) = p_num 0 (k_ci M) ds ||| 2 ^ k_ci M d := rfl
  rw [← e3, e1, e2]; rfl
theorem q_Ld.size (hI : m_I nR nD nK nG M) (hA : q_A M nD cA) (hH : ∀ {ds : List Nat}, p_F cA ds → ds.Nodup) {t : Nat} (h : q_Ld M nD cA esc u c m t) : q_size M nD t ≤ m :=
  h (fun t => q_size M nD t ≤ m) (fun t q => Nat.le_of_eq q.2.2.2) (fun t d hm hc q => by rw [q_size_up hI hA hH hm hc] at q; omega)
def q_Lk (M : m_S) (nD : Nat) (cA : (Nat → Bool) → Nat → Bool) (esc : (Nat → Bool) → Bool) (u : Nat → Nat) (c m s k : Nat) : Prop := q_T M nD cA esc u c m s ∨ (q_Met M nD cA s ∧ ∃ d, k_ci M d < k ∧ cA (k_C M nD (k_ci M) s) d = true ∧ q_Ld M nD cA esc u c m (s ||| 2 ^ k_ci M d))
theorem q_Lk.zero {s : Nat} : q_T M nD cA esc u c m s ↔ q_Lk M nD cA esc u c m s 0 := ⟨Or.inl, fun h => by
  rcases h with h | ⟨-, d, q, -⟩
  · exact h
  · omega⟩
theorem q_Lk.next (hI : m_I nR nD nK nG M) (hA : q_A M nD cA) {s e : Nat} (he : e < nD) (ho : x_op M e = false) : q_Lk M nD cA esc u c m s (k_ci M e + 1) ↔ (q_Lk M nD cA esc u c m s (k_ci M e) ∨ (q_Met M nD cA s ∧ cA (k_C M nD (k_ci M) s) e = true ∧ q_Ld M nD cA esc u c m (s ||| 2 ^ k_ci M e))) := by
  constructor
  · rintro (h | ⟨h1, d, h2, h3, h4⟩)
    · exact Or.inl (Or.inl h)
    · by_cases q : k_ci M d = k_ci M e
      · have : d = e := (k_X_ci hI).1 d e (hA _ _ h3).1 he (hA _ _ h3).2.1 ho q
        subst this
        exact Or.inr ⟨h1, h3, h4⟩
      · exact Or.inl (Or.inr ⟨h1, d, by omega, h3, h4⟩)
  · rintro ((h | ⟨h1, d, h2, h3, h4⟩) | ⟨h1, h3, h4⟩)
    · exact Or.inl h
    · exact Or.inr ⟨h1, d, by omega, h3, h4⟩
    · exact Or.inr ⟨h1, e, by omega, h3, h4⟩
theorem q_Lk.full (hA : q_A M nD cA) {s : Nat} : q_Lk M nD cA esc u c m s (k_ci M nD) ↔ q_Ld M nD cA esc u c m s := by
  constructor
  · rintro (h | ⟨h1, d, h2, h3, h4⟩)
    · exact q_Ld.base h
    · exact q_Ld.step h1 h3 h4
  · intro h
    rcases h.inv with q | ⟨h1, d, h3, h4⟩
    · exact Or.inl q
    · exact Or.inr ⟨h1, d, k_ci_lt (hA _ _ h3).1 (hA _ _ h3).2.1, h3, h4⟩
theorem q_Lk.none {s k : Nat} (hn : ¬ q_Met M nD cA s) : q_Lk M nD cA esc u c m s k ↔ q_Ld M nD cA esc u c m s := by
  constructor
  · rintro (h | h)
    · exact absurd h.1 hn
    · exact absurd h.1 hn
  · intro h; exact absurd h.met hn
theorem q_ld_of (hI : m_I nR nD nK nG M) (hA : q_A M nD cA) {ds : List Nat} : ∀ {as : List Nat}, p_F cA (as ++ ds) → q_Ld M nD cA esc u c m (p_num 0 (k_ci M) (as ++ ds)) → q_Ld M nD cA esc u c m (p_num 0 (k_ci M) ds)
  | [], _, h => h
  | a :: as, hF, h => by
    refine q_ld_of hI hA (as := as) hF.1 (q_Ld.step ⟨_, hF.1, rfl⟩ (d := a) ?_ h)
    rw [q_C hI hA (ds := as ++ ds) hF.1]; exact hF.2
/-- the least sequence of n doors that leads to a best plan -/
def q_pre (M : m_S) (nD : Nat) (cA : (Nat → Bool) → Nat → Bool) (esc : (Nat → Bool) → Bool) (u : Nat → Nat) (c m : Nat) (pre : List Nat) : Prop :=
  p_F cA pre ∧ q_Ld M nD cA esc u c m (p_num 0 (k_ci M) pre) ∧ ∀ as ds, p_F cA (as ++ ds) → q_T M nD cA esc u c m (p_num 0 (k_ci M) (as ++ ds)) → ds.length = pre.length → p_enc pre ≤ p_enc ds
theorem q_pre.nil (h : q_Ld M nD cA esc u c m 0) : q_pre M nD cA esc u c m [] := ⟨trivial, h, fun _ _ _ _ _ => Nat.zero_le _⟩
theorem q_pre.more (hI : m_I nR nD nK nG M) (hA : q_A M nD cA) (hH : ∀ {ds : List Nat}, p_F cA ds → ds.Nodup) {pre : List Nat} (h : q_pre M nD cA esc u c m pre) (hl : pre.length < m) : ∃ d, cA (k_C M nD (k_ci M) (p_num 0 (k_ci M) pre)) d = true ∧ q_Ld M nD cA esc u c m (p_num 0 (k_ci M) pre ||| 2 ^ k_ci M d) := by
  rcases h.2.1.inv with q | q
  · have := q.2.2.2
    rw [q_Met.size hI hA hH h.1] at this
    omega
  · exact q.2
theorem q_pre.add (hI : m_I nR nD nK nG M) (hA : q_A M nD cA) {pre : List Nat} {e : Nat} (h : q_pre M nD cA esc u c m pre) (hc : cA (k_C M nD (k_ci M) (p_num 0 (k_ci M) pre)) e = true) (hL : q_Ld M nD cA esc u c m (p_num 0 (k_ci M) pre ||| 2 ^ k_ci M e)) (hmin : ∀ d, cA (k_C M nD (k_ci M) (p_num 0 (k_ci M) pre)) d = true → q_Ld M nD cA esc u c m (p_num 0 (k_ci M) pre ||| 2 ^ k_ci M d) → k_ci M e ≤ k_ci M d) : q_pre M nD cA esc u c m (e :: pre) := by
  have h16 := hI.1.2.1.2
  have he := (hA _ _ hc).1
  refine ⟨⟨h.1, by rw [← q_C hI hA h.1]; exact hc⟩, hL, fun as ds hF hT hl => ?_⟩
  cases ds with
  | nil => simp at hl
  | cons d ds =>
    have hF2 : p_F cA ((as ++ [d]) ++ ds) := by simpa using hF
    have hT2 : q_T M nD cA esc u c m (p_num 0 (k_ci M) ((as ++ [d]) ++ ds)) := by simpa using hT
    have hle := h.2.2 (as ++ [d]) ds hF2 hT2 (by simpa using hl)
    have hd := p_F_tail hF
    show p_enc pre * 16 + e ≤ p_enc ds * 16 + d
    by_cases q : p_enc pre = p_enc ds
    · have hok1 := h.1.ok hA
      have hok2 := hd.1.ok hA
      have : pre = ds := p_enc_inj (fun x hx => by have := (hok1 x hx).1; omega) (fun x hx => by have := (hok2 x hx).1; omega) (by simpa using hl.symm) q
      subst this
      have w := hmin d (by rw [q_C hI hA h.1]; exact hd.2) (q_ld_of hI hA hF (q_Ld.base hT))
      have hdd := hA _ _ hd.2
      by_cases z : d < e
      · have := k_ci_lt z hdd.2.1; omega
      · omega
    · omega
theorem q_pre.done (hI : m_I nR nD nK nG M) (hA : q_A M nD cA) (hH : ∀ {ds : List Nat}, p_F cA ds → ds.Nodup) {pre : List Nat} (h : q_pre M nD cA esc u c m pre) (hl : pre.length = m) : q_T M nD cA esc u c m (p_num 0 (k_ci M) pre) := by
  rcases h.2.1.inv with q | ⟨q1, d, q2, q3⟩
  · exact q
  · have h1 := q_Ld.size hI hA hH q3
    rw [q_size_up hI hA hH q1 q2, q_Met.size hI hA hH h.1] at h1
    omega
theorem q_pre.best (hI : m_I nR nD nK nG M) (hA : q_A M nD cA) (hH : ∀ {ds : List Nat}, p_F cA ds → ds.Nodup) {pre : List Nat} (h : q_pre M nD cA esc u c m pre) (hl : pre.length = m) (hb : ∀ t, q_Met M nD cA t → esc (k_C M nD (k_ci M) t) = true → c < q_cost M nD u t ∨ (c = q_cost M nD u t ∧ m ≤ q_size M nD t)) : p_B cA esc u pre ∧ p_cost u pre = c := by
  have hT := h.done hI hA hH hl
  have hcost : p_cost u pre = c := by rw [← q_Met.cost hI hA hH h.1]; exact hT.2.2.1
  refine ⟨⟨⟨h.1, by rw [← q_C hI hA h.1]; exact hT.2.1⟩, fun q hq => ?_⟩, hcost⟩
  have h1 : esc (k_C M nD (k_ci M) (p_num 0 (k_ci M) q)) = true := by rw [q_C hI hA hq.1]; exact hq.2
  have h2 := hb _ ⟨q, hq.1, rfl⟩ h1
  rw [q_Met.cost hI hA hH hq.1, q_Met.size hI hA hH hq.1] at h2
  unfold p_le
  rw [hcost, hl]
  by_cases e : c = p_cost u q ∧ m = q.length
  · have h3 := h.2.2 [] q hq.1 ⟨⟨q, hq.1, rfl⟩, h1, by rw [show ([] ++ q) = q from rfl, q_Met.cost hI hA hH hq.1]; exact e.1.symm, by rw [show ([] ++ q) = q from rfl, q_Met.size hI hA hH hq.1]; exact e.2.symm⟩ (by omega)
    omega
  · omega
end LEAD

