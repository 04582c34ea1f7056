theorem p_min {P : List Nat → Prop} (f : List Nat → Nat) (h : ∃ p, P p) : ∃ p, P p ∧ ∀ q, P q → f p ≤ f q := by
  obtain ⟨p, hp⟩ := h
  have key : ∀ n p, f p < n → P p → ∃ p, P p ∧ ∀ q, P q → f p ≤ f q := by
    intro n
    induction n with
    | zero => intro p h; omega
    | succ n ih =>
      intro p h hp
      by_cases c : ∃ q, P q ∧ f q < f p
      · obtain ⟨q, h1, h2⟩ := c
        exact ih q (by omega) h1
      · refine ⟨p, hp, fun q hq => ?_⟩
        by_cases w : f p ≤ f q
        · exact w
        · exact absurd ⟨q, hq, by omega⟩ c
  exact key _ p (Nat.lt_succ_self _) hp
theorem p_best_ex {cA : (Nat → Bool) → Nat → Bool} {esc : (Nat → Bool) → Bool} {u : Nat → Nat} (h : ∃ p, p_P cA esc p) : ∃ p, p_B cA esc u p := by
  obtain ⟨p1, h1, m1⟩ := p_min (p_cost u) h
  obtain ⟨p2, ⟨h2, e2⟩, m2⟩ := p_min (P := fun p => p_P cA esc p ∧ p_cost u p = p_cost u p1) List.length ⟨p1, h1, rfl⟩
  obtain ⟨p3, ⟨h3, e3, e4⟩, m3⟩ := p_min (P := fun p => p_P cA esc p ∧ p_cost u p = p_cost u p1 ∧ p.length = p2.length) p_enc ⟨p2, h2, e2, rfl⟩
  refine ⟨p3, h3, fun q hq => ?_⟩
  have a1 := m1 q hq
  unfold p_le
  by_cases c1 : p_cost u q = p_cost u p1
  · have a2 := m2 q ⟨hq, c1⟩
    by_cases c2 : q.length = p2.length
    · have a3 := m3 q ⟨hq, c1, c2⟩
      omega
    · omega
  · omega
/-- the best plan, if there is one -/
noncomputable def p_best (cA : (Nat → Bool) → Nat → Bool) (esc : (Nat → Bool) → Bool) (u : Nat → Nat) : Option (List Nat) := @dite _ (∃ p, p_B cA esc u p) (Classical.propDecidable _) (fun h => some (Classical.choose h)) (fun _ => none)
theorem p_best_some {n : Nat} {cA : (Nat → Bool) → Nat → Bool} {esc : (Nat → Bool) → Bool} {out : (Nat → Bool) → Nat → Bool} {u : Nat → Nat} (hH : p_H n cA esc out u) {p : List Nat} (h : p_B cA esc u p) : p_best cA esc u = some p := by
  unfold p_best
  have h1 : ∃ p, p_B cA esc u p := ⟨p, h⟩
  rw [dif_pos h1, (Classical.choose_spec h1).uniq hH h]
theorem p_best_none {cA : (Nat → Bool) → Nat → Bool} {esc : (Nat → Bool) → Bool} {u : Nat → Nat} (h : ∀ p, ¬ p_P cA esc p) : p_best cA esc u = none := by
  unfold p_best
  rw [dif_neg (fun ⟨p, hp⟩ => h p hp.1)]
theorem p_RB.is {n : Nat} {cA : (Nat → Bool) → Nat → Bool} {esc : (Nat → Bool) → Bool} {out : (Nat → Bool) → Nat → Bool} {u : Nat → Nat} (hH : p_H n cA esc out u) {p : List Nat} (h : p_RB cA esc out u p) : p_best cA esc u = some p := by
  obtain ⟨q, hq⟩ := p_best_ex (u := u) ⟨p, h.1.1.feas, h.1.2⟩
  exact p_best_some hH (h.best hH hq)
theorem p_RB.no {n : Nat} {cA : (Nat → Bool) → Nat → Bool} {esc : (Nat → Bool) → Bool} {out : (Nat → Bool) → Nat → Bool} {u : Nat → Nat} (hH : p_H n cA esc out u) (h : ∀ p, p_RF cA esc out p → esc (p_mem p) = true → False) : p_best cA esc u = none := by
  refine p_best_none fun p hp => ?_
  obtain ⟨q, hq⟩ := p_best_ex (u := u) ⟨p, hp⟩
  exact h q (hq.rf hH) hq.1.2
/-! counts -/
def k_n (p : Nat → Bool) : Nat → Nat
  | 0 => 0
  | n + 1 => k_n p n + (if p n = true then 1 else 0)
def k_s (f : Nat → Nat) : Nat → Nat
  | 0 => 0
  | n + 1 => k_s f n + f n
theorem k_n_le (p : Nat → Bool) : ∀ n, k_n p n ≤ n
  | 0 => Nat.le_refl _
  | n + 1 => by
    have := k_n_le p n
    unfold k_n
    split <;> omega
theorem k_n_mono {p q : Nat → Bool} : ∀ {n : Nat}, (∀ i, i < n → p i = true → q i = true) → k_n p n ≤ k_n q n
  | 0, _ => Nat.le_refl _
  | n + 1, h => by
    have ih := k_n_mono (n := n) (fun i hi => h i (by omega))
    unfold k_n
    by_cases c : p n = true
    · rw [if_pos c, if_pos (h n (by omega) c)]; omega
    · rw [if_neg c]; split <;> omega
theorem k_n_congr {p q : Nat → Bool} : ∀ {n : Nat}, (∀ i, i < n → p i = q i) → k_n p n = k_n q n
  | 0, _ => rfl
  | n + 1, h => by
    unfold k_n
    rw [k_n_congr (n := n) (fun i hi => h i (by omega)), h n (by omega)]
theorem k_s_congr {p q : Nat → Nat} : ∀ {n : Nat}, (∀ i, i < n → p i = q i) → k_s p n = k_s q n
  | 0, _ => rfl
  | n + 1, h => by
    unfold k_s
    rw [k_s_congr (n := n) (fun i hi => h i (by omega)), h n (by omega)]
/-- one more counts one more -/
theorem k_s_add {f g : Nat → Nat} {d v : Nat} (h : ∀ i, i ≠ d → g i = f i) (hv : g d = f d + v) : ∀ n, k_s g n = k_s f n + (if d < n then v else 0)
  | 0 => rfl
  | n + 1 => by
    have ih := k_s_add h hv n
    unfold k_s
    by_cases e : n = d
    · subst e
      rw [ih, hv, if_neg (by omega), if_pos (by omega)]; omega
    · rw [ih, h n e]
      by_cases c : d < n
      · rw [if_pos c, if_pos (by omega)]; omega
      · rw [if_neg c, if_neg (by omega)]; omega
theorem k_n_s (p : Nat → Bool) : ∀ n, k_n p n = k_s (fun i => if p i = true then 1 else 0) n
  | 0 => rfl
  | n + 1 => by unfold k_n k_s; rw [k_n_s p n]
theorem m_cnt_n (p : Nat → Bool) : ∀ n, m_cnt p n = nI (k_n p n)
  | 0 => rfl
  | n + 1 => by
    have e : m_cnt p (n + 1) = m_cnt p n + m_c (p n) := rfl
    rw [e, m_cnt_n p n]
    show nI (k_n p n) + m_c (p n) = nI (k_n p n + (if p n = true then 1 else 0))
    cases p n with
    | true => exact z_inc _
    | false => exact (Int32.add_zero _).trans rfl
/-- the costs of a list, by its set -/
theorem p_cost_set {u : Nat → Nat} {n : Nat} : ∀ {ds : List Nat}, ds.Nodup → (∀ x, x ∈ ds → x < n) → p_cost u ds = k_s (fun x => if p_mem ds x = true then u x else 0) n
  | [], _, _ => by
    have : ∀ n, k_s (fun x => if p_mem [] x = true then u x else 0) n = 0 := by
      intro n
      induction n with
      | zero => rfl
      | succ n ih => unfold k_s; rw [ih]; simp [p_mem]
    rw [this]; rfl
  | d :: ds, hn, hl => by
    obtain ⟨h1, h2⟩ := List.nodup_cons.mp hn
    have ih := p_cost_set (u := u) (n := n) h2 (fun x hx => hl x (List.mem_cons_of_mem _ hx))
    have e := k_s_add (f := fun x => if p_mem ds x = true then u x else 0) (g := fun x => if p_mem (d :: ds) x = true then u x else 0) (d := d) (v := u d) (fun i hi => by simp [p_mem, hi]) (by simp [p_mem, h1]) n
    rw [e, if_pos (hl d (List.mem_cons_self ..))]
    show p_cost u ds + u d = _
    rw [ih]
theorem p_len_set {n : Nat} {ds : List Nat} (hn : ds.Nodup) (hl : ∀ x, x ∈ ds → x < n) : ds.length = k_n (p_mem ds) n := by
  have h1 : ∀ ds : List Nat, p_cost (fun _ => 1) ds = ds.length := by
    intro ds
    induction ds with
    | nil => rfl
    | cons d ds ih => simp only [p_cost, List.length_cons]; rw [ih]
  rw [← h1 ds, p_cost_set hn hl, k_n_s]
/-! what a plan of a group is, in the state M -/
noncomputable def k_R (M : m_S) (nD r0 : Nat) (S : Nat → Bool) : Int32 := g_bits (m_Rch M nD (fun d => x_op M d || S d) (fun q => q = r0)) 32
def k_near (M : m_S) (g y : Int32) (k : Nat) : Bool := (decide (M.2 11 k = 0) && m_has y (M.2 12 k)) || m_ho M g (nI k)
def k_keys (M : m_S) (nK : Nat) (g y c : Int32) : Nat := k_n (fun k => decide (M.2 10 k = c) && k_near M g y k) nK
def k_used (M : m_S) (nD : Nat) (S : Nat → Bool) (c : Int32) : Nat := k_n (fun x => !(x_op M x) && S x && decide (M.2 6 x = c)) nD
noncomputable def k_cA (M : m_S) (nD nK r0 : Nat) (g : Int32) (S : Nat → Bool) (d : Nat) : Bool := decide (d < nD) && !(x_op M d) && !(S d) && (tb (k_R M nD r0 S) (m_lo M d) || tb (k_R M nD r0 S) (m_hi M d)) && decide (k_used M nD S (M.2 6 d) < k_keys M nK g (k_R M nD r0 S) (M.2 6 d))
noncomputable def k_esc (M : m_S) (nD r0 : Nat) (S : Nat → Bool) : Bool := !(decide (M.1 1 < 0)) && m_has (k_R M nD r0 S) (M.1 1)
noncomputable def k_out (M : m_S) (nD r0 : Nat) (S : Nat → Bool) (d : Nat) : Bool := !(decide (tb (k_R M nD r0 S) (m_lo M d) = tb (k_R M nD r0 S) (m_hi M d)))
def k_u (M : m_S) (d : Nat) : Nat := (M.2 7 d).toNatClampNeg
section KP
variable {nR nD nK nG r0 : Nat} {M : m_S} {g : Int32}
theorem m_I.closed (hI : m_I nR nD nK nG M) {d : Nat} (hd : d < nD) (ho : x_op M d = false) : M.2 8 d = -6 ∧ (∃ x, x ≤ 5 ∧ M.2 6 d = nI x) ∧ ∃ u, 1 ≤ u ∧ u ≤ 60 ∧ M.2 7 d = nI u := by
  have h8 : M.2 8 d < 0 := x_op_f ho
  rcases (hI.2.2.1 d hd).2.2 with ⟨-, -, e⟩ | ⟨h1, h2, h3⟩
  · rw [e] at h8; exact absurd h8 (by decide)
  · exact ⟨x_shut hI hd h8, h1, h2⟩
theorem k_R_tb {S : Nat → Bool} {i : Nat} (hi : i < 32) : tb (k_R M nD r0 S) i = true ↔ m_Rch M nD (fun d => x_op M d || S d) (fun q => q = r0) i := g_bits_tb hi
theorem k_R_mono {S T : Nat → Bool} (h : ∀ x, S x = true → T x = true) {i : Nat} (hi : i < 32) (hS : tb (k_R M nD r0 S) i = true) : tb (k_R M nD r0 T) i = true := by
  rw [k_R_tb hi] at hS ⊢
  refine hS.mono (fun _ q => q) (fun d _ q => ?_)
  rw [Bool.or_eq_true] at q ⊢
  exact q.imp id (h d)
/-- a door between two rooms that are reached without it adds no room -/
theorem k_R_wo {T : Nat → Bool} {d : Nat} (hl : m_lo M d < 32) (hh : m_hi M d < 32) (h1 : tb (k_R M nD r0 (p_wo T d)) (m_lo M d) = true) (h2 : tb (k_R M nD r0 (p_wo T d)) (m_hi M d) = true) : k_R M nD r0 T = k_R M nD r0 (p_wo T d) := by
  rw [k_R_tb hl] at h1
  rw [k_R_tb hh] at h2
  refine g_bits_congr fun i _ => ⟨fun h => ?_, fun h => h.mono (fun _ q => q) (fun e _ q => ?_)⟩
  · refine h _ (fun x hx => g_R.start hx) (fun e he q => ?_)
    by_cases c : e = d
    · subst c; exact ⟨fun _ => h2, fun _ => h1⟩
    · refine g_R.step he ?_
      rw [Bool.or_eq_true] at q ⊢
      exact q.imp id (fun w => by unfold p_wo; simp [c, w])
  · rw [Bool.or_eq_true] at q ⊢
    refine q.imp id (fun w => ?_)
    unfold p_wo at w
    rw [Bool.and_eq_true] at w
    exact w.1
theorem k_cA_iff {S : Nat → Bool} {d : Nat} : k_cA M nD nK r0 g S d = true ↔ d < nD ∧ x_op M d = false ∧ S d = false ∧ (tb (k_R M nD r0 S) (m_lo M d) = true ∨ tb (k_R M nD r0 S) (m_hi M d) = true) ∧ k_used M nD S (M.2 6 d) < k_keys M nK g (k_R M nD r0 S) (M.2 6 d) := by
  unfold k_cA
  simp only [Bool.and_eq_true, Bool.or_eq_true, Bool.not_eq_true', decide_eq_true_eq, and_assoc]
theorem k_H (hI : m_I nR nD nK nG M) : p_H nD (k_cA M nD nK r0 g) (k_esc M nD r0) (k_out M nD r0) (k_u M) := by
  have h16 := hI.1.2.1.2
  have h12 := hI.1.1.2
  refine ⟨h16, fun S d h => ?_, fun S d T h ho hS hT => ?_⟩
  · obtain ⟨h1, h2, h3, -⟩ := k_cA_iff.mp h
    obtain ⟨-, -, u, u1, u2, e⟩ := hI.closed h1 h2
    refine ⟨h1, h3, ?_⟩
    unfold k_u
    rw [e, nI_clamp (by omega)]; exact u1
  · obtain ⟨h1, h2, h3, h4, h5⟩ := k_cA_iff.mp h
    have hl := m_lo12 hI h1
    have hh := m_hi12 hI h1
    have hb : tb (k_R M nD r0 S) (m_lo M d) = true ∧ tb (k_R M nD r0 S) (m_hi M d) = true := by
      unfold k_out at ho
      simp only [Bool.not_eq_false', decide_eq_true_eq] at ho
      rcases h4 with q | q
      · exact ⟨q, ho ▸ q⟩
      · exact ⟨ho ▸ q, q⟩
    have hsub : ∀ x, S x = true → p_wo T d x = true := fun x hx => by
      unfold p_wo
      have : x ≠ d := fun e => by rw [e, h3] at hx; cases hx
      simp [hS x hx, this]
    have hR := k_R_wo (T := T) (by omega) (by omega) (k_R_mono hsub (by omega) hb.1) (k_R_mono hsub (by omega) hb.2)
    refine ⟨fun e he => ?_, fun he => ?_⟩
    · obtain ⟨g1, g2, g3, g4, g5⟩ := k_cA_iff.mp he
      rw [hR] at g4 g5
      refine k_cA_iff.mpr ⟨g1, g2, by unfold p_wo; rw [g3]; rfl, g4, Nat.lt_of_le_of_lt (k_n_mono fun i _ q => ?_) g5⟩
      simp only [Bool.and_eq_true] at q ⊢
      have w := q.1.2
      unfold p_wo at w
      rw [Bool.and_eq_true] at w
      exact ⟨⟨q.1.1, w.1⟩, q.2⟩
    · unfold k_esc at he ⊢
      rw [hR] at he; exact he
end KP

