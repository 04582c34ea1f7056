/-! plans: lists of doors, the last one first -/
def p_mem (ds : List Nat) : Nat → Bool := fun x => decide (x ∈ ds)
theorem p_mem_t {ds : List Nat} {x : Nat} : p_mem ds x = true ↔ x ∈ ds := by simp [p_mem]
theorem p_mem_f {ds : List Nat} {x : Nat} : p_mem ds x = false ↔ x ∉ ds := by simp [p_mem]
def p_F (cA : (Nat → Bool) → Nat → Bool) : List Nat → Prop
  | [] => True
  | d :: ds => p_F cA ds ∧ cA (p_mem ds) d = true
def p_cost (u : Nat → Nat) : List Nat → Nat
  | [] => 0
  | d :: ds => p_cost u ds + u d
def p_enc : List Nat → Nat
  | [] => 0
  | d :: ds => p_enc ds * 16 + d
def p_P (cA : (Nat → Bool) → Nat → Bool) (esc : (Nat → Bool) → Bool) (ds : List Nat) : Prop := p_F cA ds ∧ esc (p_mem ds) = true
def p_le (u : Nat → Nat) (p q : List Nat) : Prop := p_cost u p < p_cost u q ∨ (p_cost u p = p_cost u q ∧ (p.length < q.length ∨ (p.length = q.length ∧ p_enc p ≤ p_enc q)))
def p_B (cA : (Nat → Bool) → Nat → Bool) (esc : (Nat → Bool) → Bool) (u : Nat → Nat) (p : List Nat) : Prop := p_P cA esc p ∧ ∀ q, p_P cA esc q → p_le u p q
/-- the set T without d -/
def p_wo (T : Nat → Bool) (d : Nat) : Nat → Bool := fun x => T x && !(decide (x = d))
def p_H (n : Nat) (cA : (Nat → Bool) → Nat → Bool) (esc : (Nat → Bool) → Bool) (out : (Nat → Bool) → Nat → Bool) (u : Nat → Nat) : Prop :=
  n ≤ 16 ∧ (∀ S d, cA S d = true → d < n ∧ S d = false ∧ 1 ≤ u d) ∧ (∀ S d T, cA S d = true → out S d = false → (∀ x, S x = true → T x = true) → T d = true → (∀ e, cA T e = true → cA (p_wo T d) e = true) ∧ (esc T = true → esc (p_wo T d) = true))
/-- those that take only doors that lead out, and stop at the exit -/
def p_RF (cA : (Nat → Bool) → Nat → Bool) (esc : (Nat → Bool) → Bool) (out : (Nat → Bool) → Nat → Bool) : List Nat → Prop
  | [] => True
  | d :: ds => p_RF cA esc out ds ∧ esc (p_mem ds) = false ∧ cA (p_mem ds) d = true ∧ out (p_mem ds) d = true
section PLAN
variable {n : Nat} {cA : (Nat → Bool) → Nat → Bool} {esc : (Nat → Bool) → Bool} {out : (Nat → Bool) → Nat → Bool} {u : Nat → Nat}
theorem p_RF.feas : ∀ {ds : List Nat}, p_RF cA esc out ds → p_F cA ds
  | [], _ => trivial
  | _ :: _, h => ⟨h.1.feas, h.2.2.1⟩
theorem p_F.lt (hH : p_H n cA esc out u) : ∀ {ds : List Nat}, p_F cA ds → ∀ x, x ∈ ds → x < n
  | [], _, x, hx => by cases hx
  | d :: ds, h, x, hx => by
    rcases List.mem_cons.mp hx with e | e
    · subst e; exact (hH.2.1 _ _ h.2).1
    · exact p_F.lt hH h.1 x e
theorem p_F.nodup (hH : p_H n cA esc out u) : ∀ {ds : List Nat}, p_F cA ds → ds.Nodup
  | [], _ => List.nodup_nil
  | d :: ds, h => List.nodup_cons.mpr ⟨p_mem_f.mp (hH.2.1 _ _ h.2).2.1, p_F.nodup hH h.1⟩
theorem p_le_total (p q : List Nat) : p_le u p q ∨ p_le u q p := by unfold p_le; omega
theorem p_le_trans {p q r : List Nat} (h1 : p_le u p q) (h2 : p_le u q r) : p_le u p r := by unfold p_le at *; omega
theorem p_le_refl {p : List Nat} : p_le u p p := by unfold p_le; omega
theorem p_enc_inj : ∀ {p q : List Nat}, (∀ x, x ∈ p → x < 16) → (∀ x, x ∈ q → x < 16) → p.length = q.length → p_enc p = p_enc q → p = q
  | [], [], _, _, _, _ => rfl
  | [], _ :: _, _, _, h, _ => by simp at h
  | _ :: _, [], _, _, h, _ => by simp at h
  | a :: p, b :: q, hp, hq, hl, he => by
    have ha := hp a (List.mem_cons_self ..)
    have hb := hq b (List.mem_cons_self ..)
    have e1 : p_enc p * 16 + a = p_enc q * 16 + b := he
    have e2 : p_enc p = p_enc q := by omega
    have e3 : a = b := by omega
    have e4 : p = q := p_enc_inj (fun x hx => hp x (List.mem_cons_of_mem _ hx)) (fun x hx => hq x (List.mem_cons_of_mem _ hx)) (by simpa using hl) e2
    rw [e3, e4]
theorem p_B.uniq (hH : p_H n cA esc out u) {p q : List Nat} (hp : p_B cA esc u p) (hq : p_B cA esc u q) : p = q := by
  have h1 := hp.2 q hq.1
  have h2 := hq.2 p hp.1
  have h16 := hH.1
  have hl1 := p_F.lt hH hp.1.1
  have hl2 := p_F.lt hH hq.1.1
  unfold p_le at h1 h2
  exact p_enc_inj (fun x hx => by have := hl1 x hx; omega) (fun x hx => by have := hl2 x hx; omega) (by omega) (by omega)
theorem p_wo_mem {as ds : List Nat} {d : Nat} (h : (as ++ d :: ds).Nodup) : p_wo (p_mem (as ++ d :: ds)) d = p_mem (as ++ ds) := by
  funext x
  unfold p_wo p_mem
  have h1 : d ∉ as ∧ d ∉ ds := by
    have h2 := List.nodup_append.mp h
    refine ⟨fun q => h2.2.2 d q d (List.mem_cons_self ..) rfl, (List.nodup_cons.mp h2.2.1).1⟩
  by_cases e : x = d
  · subst e; simp [h1.1, h1.2]
  · simp [e]
/-- a door that gives nothing can be left out -/
theorem p_drop (hH : p_H n cA esc out u) {d : Nat} {ds : List Nat} : ∀ {as : List Nat}, p_F cA (as ++ d :: ds) → out (p_mem ds) d = false → p_F cA (as ++ ds) ∧ (esc (p_mem (as ++ d :: ds)) = true → esc (p_mem (as ++ ds)) = true)
  | as, h, ho => by
    have hnd := p_F.nodup hH h
    have hd : ∀ as : List Nat, p_F cA (as ++ d :: ds) → cA (p_mem ds) d = true := by
      intro as
      induction as with
      | nil => intro h; exact h.2
      | cons a as ih => intro h; exact ih h.1
    have hcd := hd as h
    have hsub : ∀ as : List Nat, ∀ x, p_mem ds x = true → p_mem (as ++ d :: ds) x = true := fun as x hx => by
      rw [p_mem_t] at hx ⊢
      exact List.mem_append_right _ (List.mem_cons_of_mem _ hx)
    have hin : ∀ as : List Nat, p_mem (as ++ d :: ds) d = true := fun as => p_mem_t.mpr (List.mem_append_right _ (List.mem_cons_self ..))
    refine ⟨?_, fun q => ?_⟩
    · clear hd
      induction as with
      | nil => exact h.1
      | cons a as ih =>
        have hnd2 := p_F.nodup hH h.1
        refine ⟨ih h.1 hnd2, ?_⟩
        have := (hH.2.2 _ d _ hcd ho (hsub as) (hin as)).1 a h.2
        rw [p_wo_mem hnd2] at this
        exact this
    · have := (hH.2.2 _ d _ hcd ho (hsub as) (hin as)).2 q
      rw [p_wo_mem hnd] at this
      exact this
theorem p_cost_app : ∀ (as : List Nat) (ds : List Nat), p_cost u (as ++ ds) = p_cost u as + p_cost u ds
  | [], ds => by simp [p_cost]
  | a :: as, ds => by simp only [List.cons_append, p_cost]; rw [p_cost_app as ds]; omega
theorem p_F_tail : ∀ {as : List Nat} {ds : List Nat}, p_F cA (as ++ ds) → p_F cA ds
  | [], _, h => h
  | _ :: _, _, h => p_F_tail h.1
/-- the best plan takes only doors that lead out -/
theorem p_B.rf (hH : p_H n cA esc out u) {p : List Nat} (hp : p_B cA esc u p) : p_RF cA esc out p := by
  have key : ∀ ds as : List Nat, p = as ++ ds → p_RF cA esc out ds := by
    intro ds
    induction ds with
    | nil => intro _ _; exact trivial
    | cons d ds ih =>
      intro as e
      have hF : p_F cA (as ++ d :: ds) := e ▸ hp.1.1
      have hd := (p_F_tail hF).2
      have hu := (hH.2.1 _ _ hd).2.2
      have hc : p_cost u p = p_cost u as + (p_cost u ds + u d) := by rw [e, p_cost_app]; rfl
      refine ⟨ih (as ++ [d]) (by rw [e]; simp), ?_, hd, ?_⟩
      · cases q : esc (p_mem ds) with
        | false => rfl
        | true =>
          have := hp.2 ds ⟨(p_F_tail hF).1, q⟩
          unfold p_le at this
          omega
      · cases q : out (p_mem ds) d with
        | true => rfl
        | false =>
          obtain ⟨h1, h2⟩ := p_drop hH hF q
          have := hp.2 (as ++ ds) ⟨h1, h2 (e ▸ hp.1.2)⟩
          unfold p_le at this
          rw [p_cost_app] at this
          omega
  exact key p [] rfl
/-- the best among those that lead out is the best -/
def p_RB (cA : (Nat → Bool) → Nat → Bool) (esc : (Nat → Bool) → Bool) (out : (Nat → Bool) → Nat → Bool) (u : Nat → Nat) (p : List Nat) : Prop := (p_RF cA esc out p ∧ esc (p_mem p) = true) ∧ ∀ q, p_RF cA esc out q → esc (p_mem q) = true → p_le u p q
theorem p_RB.best (hH : p_H n cA esc out u) {p : List Nat} (h : p_RB cA esc out u p) {q : List Nat} (hq : p_B cA esc u q) : p_B cA esc u p :=
  ⟨⟨h.1.1.feas, h.1.2⟩, fun r hr => p_le_trans (h.2 q (hq.rf hH) hq.1.2) (hq.2 r hr)⟩
end PLAN

