/-! the earliest times at which rooms can be entered -/
def w_E (nD : Nat) (lo hi : Nat → Nat) (op : Nat → Bool) (d r r' : Nat) : Prop := d < nD ∧ op d = true ∧ ((r = lo d ∧ r' = hi d) ∨ (r = hi d ∧ r' = lo d))
def w_P (nD : Nat) (lo hi : Nat → Nat) (op : Nat → Bool) (f : Nat → Nat → Nat) (r0 t0 r t : Nat) : Prop := ∀ P : Nat → Nat → Prop, P r0 t0 → (∀ d x y t, w_E nD lo hi op d x y → P x t → P y (f d t)) → P r t
/-- how many of the first n places keep p -/
noncomputable def g_cnt (p : Nat → Prop) : Nat → Nat
  | 0 => 0
  | n + 1 => g_cnt p n + @ite _ (p n) (Classical.propDecidable _) 1 0
theorem g_cnt_le (p : Nat → Prop) : ∀ n, g_cnt p n ≤ n
  | 0 => Nat.le_refl _
  | n + 1 => by
    have := g_cnt_le p n
    unfold g_cnt
    split <;> omega
theorem g_cnt_mono {p q : Nat → Prop} : ∀ n, (∀ i, i < n → p i → q i) → g_cnt p n ≤ g_cnt q n
  | 0, _ => Nat.le_refl _
  | n + 1, h => by
    have ih := g_cnt_mono n (fun i hi => h i (by omega))
    unfold g_cnt
    by_cases c : p n
    · rw [if_pos c, if_pos (h n (by omega) c)]; omega
    · rw [if_neg c]; split <;> omega
theorem g_cnt_lt {p q : Nat → Prop} {k : Nat} (hp : ¬ p k) (hq : q k) : ∀ n, k < n → (∀ i, i < n → p i → q i) → g_cnt p n + 1 ≤ g_cnt q n
  | 0, hk, _ => absurd hk (by omega)
  | n + 1, hk, h => by
    unfold g_cnt
    by_cases e : k = n
    · subst e
      have := g_cnt_mono k (fun i hi => h i (by omega))
      rw [if_neg hp, if_pos hq]; omega
    · have ih := g_cnt_lt hp hq n (by omega) (fun i hi => h i (by omega))
      by_cases c : p n
      · rw [if_pos c, if_pos (h n (by omega) c)]; omega
      · rw [if_neg c]; split <;> omega
theorem g_cnt_miss {p : Nat → Prop} {k : Nat} (hp : ¬ p k) (n : Nat) (hk : k < n) : g_cnt p n + 1 ≤ n := by
  have h1 := g_cnt_lt (p := p) (q := fun _ => True) hp trivial n hk (fun _ _ _ => trivial)
  have h2 := g_cnt_le (fun _ => True) n
  omega
section WAY
variable {nD : Nat} {lo hi : Nat → Nat} {op : Nat → Bool} {f : Nat → Nat → Nat} {r0 t0 : Nat}
theorem w_P.start : w_P nD lo hi op f r0 t0 r0 t0 := fun _ h _ => h
theorem w_P.step {d r r' t : Nat} (hE : w_E nD lo hi op d r r') (h : w_P nD lo hi op f r0 t0 r t) : w_P nD lo hi op f r0 t0 r' (f d t) := fun P h1 h2 => h2 d r r' t hE (h P h1 h2)
theorem w_P.inv {r t : Nat} (h : w_P nD lo hi op f r0 t0 r t) : (r = r0 ∧ t = t0) ∨ ∃ d x u, w_E nD lo hi op d x r ∧ w_P nD lo hi op f r0 t0 x u ∧ t = f d u := by
  have h1 := h (fun r t => w_P nD lo hi op f r0 t0 r t ∧ ((r = r0 ∧ t = t0) ∨ ∃ d x u, w_E nD lo hi op d x r ∧ w_P nD lo hi op f r0 t0 x u ∧ t = f d u)) ⟨w_P.start, Or.inl ⟨rfl, rfl⟩⟩ (fun d x y u hE q => ⟨q.1.step hE, Or.inr ⟨d, x, u, hE, q.1, rfl⟩⟩)
  exact h1.2
theorem w_P.lt {n r t : Nat} (h : w_P nD lo hi op f r0 t0 r t) (h0 : r0 < n) (hl : ∀ d, d < nD → lo d < n ∧ hi d < n) : r < n :=
  h (fun r _ => r < n) h0 (fun d x y u hE _ => by
    obtain ⟨q1, -, ⟨-, q2⟩ | ⟨-, q2⟩⟩ := hE
    · rw [q2]; exact (hl d q1).2
    · rw [q2]; exact (hl d q1).1)
/-- times that are right as far as they go; N: no time yet -/
def w_A (nD : Nat) (lo hi : Nat → Nat) (op : Nat → Bool) (f : Nat → Nat → Nat) (r0 t0 N : Nat) (a : Nat → Nat) : Prop :=
  (∀ r, a r ≤ N) ∧ (∀ r, a r < N → w_P nD lo hi op f r0 t0 r (a r)) ∧ a r0 ≤ t0 ∧ (∀ r, a r < N → a r ≤ 100000 + 30 * g_cnt (fun i => a i < N) 12)
def w_F (nD : Nat) (f : Nat → Nat → Nat) : Prop := (∀ d t u, t ≤ u → f d t ≤ f d u) ∧ (∀ d t, d < nD → t + 1 ≤ f d t) ∧ (∀ d t u, d < nD → 100000 ≤ u → t ≤ u → f d t ≤ u + 30)
variable {N : Nat} {a x y : Nat → Nat}
def w_u (a : Nat → Nat) (k v i : Nat) : Nat := if i = k then v else a i
theorem w_u_at {a : Nat → Nat} {k v : Nat} : w_u a k v k = v := if_pos rfl
theorem w_u_ne {a : Nat → Nat} {k v i : Nat} (h : i ≠ k) : w_u a k v i = a i := if_neg h
theorem w_u_le {a : Nat → Nat} {k v : Nat} (h : v ≤ a k) (i : Nat) : w_u a k v i ≤ a i := by
  by_cases e : i = k
  · subst e; rw [w_u_at]; exact h
  · rw [w_u_ne e]; exact Nat.le_refl _
theorem w_A.upd {d r r' : Nat} (hF : w_F nD f) (h : w_A nD lo hi op f r0 t0 N a) (hE : w_E nD lo hi op d r r') (hr : a r < N) (hv : f d (a r) < a r') (hr' : r' < 12) : w_A nD lo hi op f r0 t0 N (w_u a r' (f d (a r))) := by
  obtain ⟨h1, h2, h3, h4⟩ := h
  have hle := w_u_le (a := a) (k := r') (v := f d (a r)) (Nat.le_of_lt hv)
  have hN := h1 r'
  refine ⟨fun i => Nat.le_trans (hle i) (h1 i), fun i hi => ?_, Nat.le_trans (hle r0) h3, fun i hi => ?_⟩
  · by_cases e : i = r'
    · subst e; rw [w_u_at]; exact (h2 r hr).step hE
    · rw [w_u_ne e] at hi ⊢; exact h2 i hi
  · have hm : g_cnt (fun i => a i < N) 12 ≤ g_cnt (fun i => w_u a r' (f d (a r)) i < N) 12 := g_cnt_mono 12 (fun i _ q => Nat.lt_of_le_of_lt (hle i) q)
    by_cases e : i = r'
    · subst e
      rw [w_u_at]
      have hc := hF.2.2 d (a r) (100000 + 30 * g_cnt (fun i => a i < N) 12) hE.1 (by omega) (h4 r hr)
      by_cases c : a i < N
      · have := h4 i c; omega
      · have hl := g_cnt_lt (p := fun i => a i < N) (q := fun j => w_u a i (f d (a r)) j < N) (k := i) c (by show w_u a i (f d (a r)) i < N; rw [w_u_at]; omega) 12 hr' (fun j _ q => Nat.lt_of_le_of_lt (hle j) q)
        omega
    · rw [w_u_ne e] at hi ⊢
      have := h4 i hi; omega
/-- no door makes a time earlier -/
def w_Q (nD : Nat) (lo hi : Nat → Nat) (op : Nat → Bool) (f : Nat → Nat → Nat) (a : Nat → Nat) : Prop := ∀ d r r', w_E nD lo hi op d r r' → a r' ≤ f d (a r)
theorem w_done (hF : w_F nD f) (h : w_A nD lo hi op f r0 t0 N a) (hQ : w_Q nD lo hi op f a) {r t : Nat} (hp : w_P nD lo hi op f r0 t0 r t) : a r ≤ t :=
  hp (fun r t => a r ≤ t) h.2.2.1 (fun d x y u hE q => Nat.le_trans (hQ d x y hE) (hF.1 d _ _ q))
theorem w_A.bound (h : w_A nD lo hi op f r0 t0 N a) {r : Nat} (hr : a r < N) : a r ≤ 100360 := by
  have h1 := h.2.2.2 r hr
  have h2 := g_cnt_le (fun i => a i < N) 12
  omega
theorem w_seen (hF : w_F nD f) (h : w_A nD lo hi op f r0 t0 N a) (hQ : w_Q nD lo hi op f a) (hN : 200000 < N) (ht : t0 ≤ 100000) {r t : Nat} (hp : w_P nD lo hi op f r0 t0 r t) : a r < N :=
  hp (fun r _ => a r < N) (Nat.lt_of_le_of_lt h.2.2.1 (by omega)) (fun d x y u hE q => by
    have h1 := h.bound q
    have h2 := hF.2.2 d (a x) 100360 hE.1 (by omega) h1
    have h3 := hQ d x y hE
    omega)
noncomputable def w_best (P : Nat → Prop) (t0 : Nat) : Int32 := @dite _ (∃ t, P t ∧ ∀ u, P u → t ≤ u) (Classical.propDecidable _) (fun h => nI (Classical.choose h) - nI t0) (fun _ => -6)
theorem w_best_yes {P : Nat → Prop} {t : Nat} (h1 : P t) (h2 : ∀ u, P u → t ≤ u) : w_best P t0 = nI t - nI t0 := by
  have h : ∃ t, P t ∧ ∀ u, P u → t ≤ u := ⟨t, h1, h2⟩
  unfold w_best
  rw [dif_pos h]
  have q := Classical.choose_spec h
  have e : Classical.choose h = t := Nat.le_antisymm (q.2 t h1) (h2 _ q.1)
  rw [e]
theorem w_best_no {P : Nat → Prop} (h1 : ∀ t, ¬ P t) : w_best P t0 = -6 := by
  unfold w_best
  rw [dif_neg (fun ⟨t, q, _⟩ => h1 t q)]
theorem w_best_eq (hF : w_F nD f) (h : w_A nD lo hi op f r0 t0 N a) (hQ : w_Q nD lo hi op f a) (hN : 200000 < N) (ht : t0 ≤ 100000) (r : Nat) : (if a r = N then -6 else nI (a r) - nI t0) = w_best (w_P nD lo hi op f r0 t0 r) t0 := by
  by_cases c : a r = N
  · rw [if_pos c]
    exact (w_best_no (fun t q => by have := w_seen hF h hQ hN ht q; omega)).symm
  · rw [if_neg c]
    have h1 : a r < N := Nat.lt_of_le_of_ne (h.1 r) c
    exact (w_best_yes (h.2.1 r h1) (fun u q => w_done hF h hQ q)).symm
/-- how many rooms have not their earliest time yet -/
noncomputable def w_un (nD : Nat) (lo hi : Nat → Nat) (op : Nat → Bool) (f : Nat → Nat → Nat) (r0 t0 : Nat) (a : Nat → Nat) : Nat := g_cnt (fun r => ∃ t, w_P nD lo hi op f r0 t0 r t ∧ t < a r) 12
theorem w_least {P : Nat → Nat → Prop} : ∀ n r t, t < n → P r t → ∃ r t, P r t ∧ ∀ r' t', P r' t' → t ≤ t'
  | 0, _, _, h, _ => absurd h (by omega)
  | n + 1, r, t, h, hp => by
    by_cases c : ∃ r' t', P r' t' ∧ t' < t
    · obtain ⟨r', t', h1, h2⟩ := c
      exact w_least n r' t' (by omega) h1
    · refine ⟨r, t, hp, fun r' t' q => ?_⟩
      by_cases w : t ≤ t'
      · exact w
      · exact absurd ⟨r', t', q, by omega⟩ c
theorem w_settle (hF : w_F nD f) (hx : w_A nD lo hi op f r0 t0 N x) (hy : w_A nD lo hi op f r0 t0 N y) (hle : ∀ r, y r ≤ x r) (hp : ∀ d r r', w_E nD lo hi op d r r' → y r' ≤ f d (x r)) (hm : ∃ r, y r < x r) (h0 : r0 < 12) (hl : ∀ d, d < nD → lo d < 12 ∧ hi d < 12) : w_un nD lo hi op f r0 t0 y + 1 ≤ w_un nD lo hi op f r0 t0 x := by
  obtain ⟨r1, h1⟩ := hm
  have hp1 := hy.2.1 r1 (Nat.lt_of_lt_of_le h1 (hx.1 r1))
  obtain ⟨r, t, ⟨hr, hlt⟩, hmin⟩ := w_least (P := fun r t => w_P nD lo hi op f r0 t0 r t ∧ t < x r) _ r1 (y r1) (Nat.lt_succ_self _) ⟨hp1, h1⟩
  have hyr : y r ≤ t := by
    rcases hr.inv with ⟨e1, e2⟩ | ⟨d, u, v, hE, hu, e⟩
    · subst e1; subst e2; exact hy.2.2.1
    · have hv := hF.2.1 d v hE.1
      have hxu : x u ≤ v := by
        by_cases c : x u ≤ v
        · exact c
        · have := hmin u v ⟨hu, by omega⟩
          omega
      have := hp d u r hE
      have := hF.1 d _ _ hxu
      omega
  refine g_cnt_lt (k := r) (fun ⟨u, q1, q2⟩ => ?_) ⟨t, hr, hlt⟩ 12 (hr.lt h0 hl) (fun i _ ⟨u, q1, q2⟩ => ⟨u, q1, Nat.lt_of_lt_of_le q2 (hle i)⟩)
  have := hmin r u ⟨q1, by omega⟩
  omega
theorem w_un_start (h : w_A nD lo hi op f r0 t0 N a) (hF : w_F nD f) (ha : a r0 = t0) (h0 : r0 < 12) : w_un nD lo hi op f r0 t0 a + 1 ≤ 12 := by
  refine g_cnt_miss (k := r0) (fun ⟨t, q1, q2⟩ => ?_) 12 h0
  have h1 : t0 ≤ t := q1 (fun _ t => t0 ≤ t) (Nat.le_refl _) (fun d x y u hE q => by have := hF.2.1 d u hE.1; omega)
  omega
/-- a pass over the doors: the first i of them were tried, from x to y -/
def w_I (nD : Nat) (lo hi : Nat → Nat) (op : Nat → Bool) (f : Nat → Nat → Nat) (r0 t0 N : Nat) (x : Nat → Nat) (i : Nat) (y : Nat → Nat) (mi : Bool) : Prop :=
  w_A nD lo hi op f r0 t0 N y ∧ (∀ r, y r ≤ x r) ∧ (mi = false → y = x) ∧ (mi = true → ∃ r, y r < x r) ∧ ∀ d r r', d < i → w_E nD lo hi op d r r' → y r' ≤ f d (x r)
def w_O (nD : Nat) (lo hi : Nat → Nat) (op : Nat → Bool) (f : Nat → Nat → Nat) (r0 t0 N : Nat) (x : Nat → Nat) (mo : Bool) : Prop := w_A nD lo hi op f r0 t0 N x ∧ (mo = false → w_Q nD lo hi op f x)
variable {i : Nat} {mi mo m2 : Bool}
theorem w_I.zero (h : w_O nD lo hi op f r0 t0 N x mo) : w_I nD lo hi op f r0 t0 N x 0 x false := ⟨h.1, fun _ => Nat.le_refl _, fun _ => rfl, (fun q => by cases q), fun d _ _ q => absurd q (by omega)⟩
theorem w_I.out (h : w_I nD lo hi op f r0 t0 N x nD y mi) : w_O nD lo hi op f r0 t0 N y mi := ⟨h.1, fun q d r r' hE => by
  have h1 := h.2.2.2.2 d r r' hE.1 hE
  rw [h.2.2.1 q]; rw [h.2.2.1 q] at h1; exact h1⟩
/-- a step within the pass at door i: from y to z, so that both of its ways are tried -/
theorem w_I.next {z : Nat → Nat} (hF : w_F nD f) (h : w_I nD lo hi op f r0 t0 N x i y mi) (hz : w_A nD lo hi op f r0 t0 N z) (hle : ∀ r, z r ≤ y r) (h0 : m2 = false → z = y ∧ mi = false) (h1 : m2 = true → mi = true ∨ ∃ r, z r < y r) (hd : ∀ r r', w_E nD lo hi op i r r' → z r' ≤ f i (y r)) : w_I nD lo hi op f r0 t0 N x (i + 1) z m2 := by
  refine ⟨hz, fun r => Nat.le_trans (hle r) (h.2.1 r), fun q => ?_, fun q => ?_, fun d r r' hd2 hE => ?_⟩
  · rw [(h0 q).1]; exact h.2.2.1 (h0 q).2
  · rcases h1 q with w | ⟨r, w⟩
    · obtain ⟨r, w⟩ := h.2.2.2.1 w
      exact ⟨r, Nat.lt_of_le_of_lt (hle r) w⟩
    · exact ⟨r, Nat.lt_of_lt_of_le w (h.2.1 r)⟩
  · by_cases e : d = i
    · subst e
      exact Nat.le_trans (hd r r' hE) (hF.1 d _ _ (h.2.1 r))
    · exact Nat.le_trans (hle r') (h.2.2.2.2 d r r' (by omega) hE)
theorem w_I.skip (h : w_I nD lo hi op f r0 t0 N x i y mi) (hF : w_F nD f) (ho : op i = false) : w_I nD lo hi op f r0 t0 N x (i + 1) y mi :=
  h.next hF h.1 (fun _ => Nat.le_refl _) (fun q => ⟨rfl, q⟩) (fun q => Or.inl q) (fun r r' hE => by have q := hE.2.1; rw [ho] at q; exact absurd q (by decide))
/-- one way through door d: the new times, and whether they differ -/
def w_s (f : Nat → Nat → Nat) (N : Nat) (a : Nat → Nat) (d r r' : Nat) : Bool := !(decide (a r = N)) && decide (f d (a r) < a r')
def w_v (f : Nat → Nat → Nat) (N : Nat) (a : Nat → Nat) (d r r' : Nat) : Nat → Nat := if w_s f N a d r r' = true then w_u a r' (f d (a r)) else a
theorem w_v_A {d r r' : Nat} (hF : w_F nD f) (h : w_A nD lo hi op f r0 t0 N a) (hE : w_E nD lo hi op d r r') (hr' : r' < 12) : w_A nD lo hi op f r0 t0 N (w_v f N a d r r') := by
  unfold w_v
  by_cases c : w_s f N a d r r' = true
  · rw [if_pos c]
    unfold w_s at c
    simp only [Bool.and_eq_true, Bool.not_eq_true', decide_eq_true_eq, decide_eq_false_iff_not] at c
    exact h.upd hF hE (Nat.lt_of_le_of_ne (h.1 r) c.1) c.2 hr'
  · rw [if_neg c]; exact h
theorem w_v_le {d r r' : Nat} (i : Nat) : w_v f N a d r r' i ≤ a i := by
  unfold w_v
  by_cases c : w_s f N a d r r' = true
  · rw [if_pos c]
    unfold w_s at c
    simp only [Bool.and_eq_true, Bool.not_eq_true', decide_eq_true_eq, decide_eq_false_iff_not] at c
    exact w_u_le (Nat.le_of_lt c.2) i
  · rw [if_neg c]; exact Nat.le_refl _
theorem w_v_lt {d r r' : Nat} (h : w_s f N a d r r' = true) : w_v f N a d r r' r' < a r' := by
  have c := h
  unfold w_s at c
  simp only [Bool.and_eq_true, Bool.not_eq_true', decide_eq_true_eq, decide_eq_false_iff_not] at c
  unfold w_v
  rw [if_pos h, w_u_at]; exact c.2
theorem w_v_no {d r r' : Nat} (h : w_s f N a d r r' = false) : w_v f N a d r r' = a := by
  unfold w_v; rw [if_neg (by rw [h]; decide)]
theorem w_v_is {d r r' : Nat} (hF : w_F nD f) (hd : d < nD) (h : w_A nD lo hi op f r0 t0 N a) : w_v f N a d r r' r' ≤ f d (a r) := by
  unfold w_v
  by_cases c : w_s f N a d r r' = true
  · rw [if_pos c, w_u_at]; exact Nat.le_refl _
  · rw [if_neg c]
    unfold w_s at c
    simp only [Bool.and_eq_true, Bool.not_eq_true', decide_eq_true_eq, decide_eq_false_iff_not] at c
    by_cases e : a r = N
    · have h1 := hF.2.1 d (a r) hd
      have h2 := h.1 r'
      omega
    · have : ¬ f d (a r) < a r' := fun q => c ⟨e, q⟩
      omega
theorem w_E_lo (hd : i < nD) (ho : op i = true) : w_E nD lo hi op i (lo i) (hi i) := ⟨hd, ho, Or.inl ⟨rfl, rfl⟩⟩
theorem w_E_hi (hd : i < nD) (ho : op i = true) : w_E nD lo hi op i (hi i) (lo i) := ⟨hd, ho, Or.inr ⟨rfl, rfl⟩⟩
theorem w_I.both (h : w_I nD lo hi op f r0 t0 N x i y mi) (hF : w_F nD f) (hd : i < nD) (ho : op i = true) (hl : lo i < 12 ∧ hi i < 12) : w_I nD lo hi op f r0 t0 N x (i + 1) (w_v f N (w_v f N y i (lo i) (hi i)) i (hi i) (lo i)) (w_s f N (w_v f N y i (lo i) (hi i)) i (hi i) (lo i) || (w_s f N y i (lo i) (hi i) || mi)) := by
  have hA1 := w_v_A hF h.1 (w_E_lo hd ho) hl.2
  have hA2 := w_v_A hF hA1 (w_E_hi hd ho) hl.1
  have le1 := fun j => w_v_le (f := f) (N := N) (a := y) (d := i) (r := lo i) (r' := hi i) j
  have le2 := fun j => w_v_le (f := f) (N := N) (a := w_v f N y i (lo i) (hi i)) (d := i) (r := hi i) (r' := lo i) j
  refine h.next hF hA2 (fun j => Nat.le_trans (le2 j) (le1 j)) (fun q => ?_) (fun q => ?_) (fun r r' hE => ?_)
  · simp only [Bool.or_eq_false_iff] at q
    exact ⟨by rw [w_v_no q.1, w_v_no q.2.1], q.2.2⟩
  · simp only [Bool.or_eq_true] at q
    rcases q with q | q | q
    · exact Or.inr ⟨lo i, Nat.lt_of_lt_of_le (w_v_lt q) (le1 _)⟩
    · exact Or.inr ⟨hi i, Nat.lt_of_le_of_lt (le2 _) (w_v_lt q)⟩
    · exact Or.inl q
  · rcases hE.2.2 with ⟨e1, e2⟩ | ⟨e1, e2⟩
    · rw [e1, e2]; exact Nat.le_trans (le2 _) (w_v_is hF hd h.1)
    · rw [e1, e2]; exact Nat.le_trans (w_v_is hF hd hA1) (hF.1 i _ _ (le1 _))
theorem w_I.one (h : w_I nD lo hi op f r0 t0 N x i y mi) (hF : w_F nD f) (hd : i < nD) (ho : op i = true) (hl : lo i < 12 ∧ hi i < 12) (hs : w_s f N y i (lo i) (hi i) = true) : w_I nD lo hi op f r0 t0 N x (i + 1) (w_v f N y i (lo i) (hi i)) true := by
  have hA1 := w_v_A hF h.1 (w_E_lo hd ho) hl.2
  have le1 := fun j => w_v_le (f := f) (N := N) (a := y) (d := i) (r := lo i) (r' := hi i) j
  refine h.next hF hA1 le1 (fun q => by cases q) (fun _ => Or.inr ⟨hi i, w_v_lt hs⟩) (fun r r' hE => ?_)
  rcases hE.2.2 with ⟨e1, e2⟩ | ⟨e1, e2⟩
  · rw [e1, e2]; exact w_v_is hF hd h.1
  · rw [e1, e2]
    have c := hs
    unfold w_s at c
    simp only [Bool.and_eq_true, Bool.not_eq_true', decide_eq_true_eq, decide_eq_false_iff_not] at c
    have q1 := hF.2.1 i (y (lo i)) hd
    have q2 := hF.2.1 i (y (hi i)) hd
    have q3 := le1 (lo i)
    omega
theorem w_I.two (h : w_I nD lo hi op f r0 t0 N x i y mi) (hF : w_F nD f) (hd : i < nD) (ho : op i = true) (hl : lo i < 12 ∧ hi i < 12) (hs : w_s f N y i (lo i) (hi i) = false) : w_I nD lo hi op f r0 t0 N x (i + 1) (w_v f N y i (hi i) (lo i)) (w_s f N y i (hi i) (lo i) || mi) := by
  have q := h.both hF hd ho hl
  rw [w_v_no hs, hs] at q
  exact q
theorem w_I.mu (h : w_I nD lo hi op f r0 t0 N x nD y mi) (hF : w_F nD f) (hx : w_A nD lo hi op f r0 t0 N x) (h0 : r0 < 12) (hl : ∀ d, d < nD → lo d < 12 ∧ hi d < 12) : 2 * w_un nD lo hi op f r0 t0 y + (if mi = true then 1 else 0) < 2 * w_un nD lo hi op f r0 t0 x + (if true = true then 1 else 0) := by
  cases mi with
  | true =>
    have := w_settle hF hx h.1 h.2.1 (fun d r r' hE => h.2.2.2.2 d r r' hE.1 hE) (h.2.2.2.1 rfl) h0 hl
    simp; omega
  | false => rw [h.2.2.1 rfl]; simp
end WAY

