/-! plans, door by door, as the law carries them out -/
def y_pre (p : List Nat) (k : Nat) : List Nat := p.drop (p.length - k)
theorem y_pre_0 {p : List Nat} : y_pre p 0 = [] := by unfold y_pre; rw [Nat.sub_zero]; exact List.drop_length
theorem y_pre_all {p : List Nat} : y_pre p p.length = p := by unfold y_pre; rw [Nat.sub_self]; exact List.drop_zero
theorem y_pre_succ : ∀ {p : List Nat} {k : Nat}, k < p.length → y_pre p (k + 1) = p_at p k :: y_pre p k
  | [], k, h => absurd h (by simp)
  | d :: ds, k, h => by
    have hl : (d :: ds).length = ds.length + 1 := rfl
    rw [hl] at h
    unfold y_pre
    rw [hl]
    show _ = (if k = ds.length then d else p_at ds k) :: _
    by_cases c : k = ds.length
    · subst c
      have e1 : ds.length + 1 - (ds.length + 1) = 0 := by omega
      have e2 : ds.length + 1 - ds.length = 1 := by omega
      rw [if_pos rfl, e1, e2]; rfl
    · rw [if_neg c]
      have ih := y_pre_succ (p := ds) (k := k) (by omega)
      unfold y_pre at ih
      have e1 : ds.length + 1 - (k + 1) = (ds.length - (k + 1)) + 1 := by omega
      have e2 : ds.length + 1 - k = (ds.length - k) + 1 := by omega
      rw [e1, e2]
      exact ih
theorem y_RF_drop {cA : (Nat → Bool) → Nat → Bool} {esc : (Nat → Bool) → Bool} {out : (Nat → Bool) → Nat → Bool} : ∀ {ds : List Nat} (j : Nat), p_RF cA esc out ds → p_RF cA esc out (ds.drop j)
  | ds, 0, h => h
  | [], j + 1, h => h
  | _ :: ds, j + 1, h => y_RF_drop (ds := ds) j h.1
theorem y_mem_cons {d : Nat} {ds : List Nat} {x : Nat} : p_mem (d :: ds) x = (decide (x = d) || p_mem ds x) := by
  unfold p_mem
  by_cases c : x = d
  · subst c; simp
  · simp [c]
/-- the bits of a set of doors -/
def y_dI (x : Int32) (S : Nat → Bool) : Prop := ∀ i, i < 32 → tb x i = S i
theorem y_dI.zero : y_dI 0 (p_mem []) := fun i _ => by rw [tb_0]; rfl
theorem y_dI.next {x : Int32} {d : Nat} {ds : List Nat} (h : y_dI x (p_mem ds)) (hd : d < 32) : y_dI (x ||| x_bit (nI d)) (p_mem (d :: ds)) := fun i hi => by
  rw [tb_or, tb_bit hd, h i hi, y_mem_cons, Bool.or_comm]
section YP
variable {nR nD nK nG g k : Nat} {M : m_S} {p : List Nat}
theorem y_reachK (hI : m_I nR nD nK nG M) {x : Int32} {S : Nat → Bool} (h : y_dI x S) {r0 : Nat} : g_bits (m_Rch M nD (m_opS M x) (fun q => q = r0)) 32 = k_R M nD r0 S := by
  have hs := y_nsm hI
  have key : ∀ d, d < nD → m_opS M x d = (x_op M d || S d) := fun d hd => by
    unfold m_opS x_op
    rw [m_has_tb (by omega), h d (by omega)]
  unfold k_R
  exact g_bits_congr fun i _ => ⟨fun w => w.mono (fun _ q => q) (fun d hd q => (key d hd) ▸ q), fun w => w.mono (fun _ q => q) (fun d hd q => (key d hd).symm ▸ q)⟩
theorem y_plan_none (h : k_best M nD nK (nI g) = none) : k_esc M nD (m_r0 M (nI g)) (p_mem []) = false := by
  cases q : k_esc M nD (m_r0 M (nI g)) (p_mem []) with
  | false => rfl
  | true =>
    obtain ⟨p, hp⟩ := p_best_ex (cA := k_cA M nD nK (m_r0 M (nI g)) (nI g)) (esc := k_esc M nD (m_r0 M (nI g))) (u := k_u M) ⟨[], trivial, q⟩
    unfold k_best p_best at h
    rw [dif_pos ⟨p, hp⟩] at h
    cases h
theorem y_plan_rf (hI : m_I nR nD nK nG M) (h : k_best M nD nK (nI g) = some p) : p_RF (k_cA M nD nK (m_r0 M (nI g)) (nI g)) (k_esc M nD (m_r0 M (nI g))) (k_out M nD (m_r0 M (nI g))) p := (y_best_B h).rf (k_H hI)
theorem y_plan_end (h : k_best M nD nK (nI g) = some p) : k_esc M nD (m_r0 M (nI g)) (p_mem p) = true := (y_best_B h).1.2
theorem y_plan_step (hI : m_I nR nD nK nG M) (h : k_best M nD nK (nI g) = some p) (hk : k < p.length) : k_esc M nD (m_r0 M (nI g)) (p_mem (y_pre p k)) = false ∧ p_at p k < nD ∧ x_op M (p_at p k) = false ∧ p_mem (y_pre p k) (p_at p k) = false ∧ (tb (k_R M nD (m_r0 M (nI g)) (p_mem (y_pre p k))) (m_lo M (p_at p k)) || tb (k_R M nD (m_r0 M (nI g)) (p_mem (y_pre p k))) (m_hi M (p_at p k))) = true ∧ k_used M nD (p_mem (y_pre p k)) (M.2 6 (p_at p k)) < k_keys M nK (nI g) (k_R M nD (m_r0 M (nI g)) (p_mem (y_pre p k))) (M.2 6 (p_at p k)) := by
  have h1 := y_RF_drop (p.length - (k + 1)) (y_plan_rf hI h)
  have e : p.drop (p.length - (k + 1)) = p_at p k :: y_pre p k := y_pre_succ hk
  rw [e] at h1
  obtain ⟨-, h2, h3, -⟩ := h1
  obtain ⟨a1, a2, a3, a4, a5⟩ := k_cA_iff.mp h3
  refine ⟨h2, a1, a2, a3, ?_, a5⟩
  rw [Bool.or_eq_true]; exact a4
theorem y_plan_near (hI : m_I nR nD nK nG M) (h : k_best M nD nK (nI g) = some p) : k_esc M nD (m_r0 M (nI g)) (p_mem []) = decide (p.length = 0) := by
  by_cases c : p.length = 0
  · have e : p = [] := List.eq_nil_of_length_eq_zero c
    have := y_plan_end h
    rw [e] at this
    rw [this, e]; rfl
  · have := (y_plan_step (k := 0) hI h (by omega)).1
    rw [y_pre_0] at this
    rw [this, decide_eq_false c]
theorem y_plan_exit (h : k_best M nD nK (nI g) = some p) : ¬ M.1 1 < 0 := fun q => by
  have := y_plan_end h
  unfold k_esc at this
  rw [decide_eq_true q] at this
  cases this
theorem y_used_cons {d : Nat} {ds : List Nat} {c : Int32} (hd : d < nD) (ho : x_op M d = false) (hn : p_mem ds d = false) : k_used M nD (p_mem (d :: ds)) c = k_used M nD (p_mem ds) c + (if M.2 6 d = c then 1 else 0) := by
  unfold k_used
  by_cases e : M.2 6 d = c
  · rw [if_pos e]
    refine y_cnt_up hd (fun i hi => ?_) ?_ ?_
    · show (!(x_op M i) && p_mem (d :: ds) i && decide (M.2 6 i = c)) = _
      rw [y_mem_cons, decide_eq_false hi, Bool.false_or]
    · show (!(x_op M d) && p_mem ds d && decide (M.2 6 d = c)) = false
      rw [hn]; simp
    · show (!(x_op M d) && p_mem (d :: ds) d && decide (M.2 6 d = c)) = true
      rw [y_mem_cons, ho, decide_eq_true e]; simp
  · rw [if_neg e, Nat.add_zero]
    refine k_n_congr (fun i _ => ?_)
    show (!(x_op M i) && p_mem (d :: ds) i && decide (M.2 6 i = c)) = (!(x_op M i) && p_mem ds i && decide (M.2 6 i = c))
    by_cases q : i = d
    · subst q
      rw [decide_eq_false e, Bool.and_false, Bool.and_false]
    · rw [y_mem_cons, decide_eq_false q, Bool.false_or]
/-- the law's row of used keys -/
def y_uI (M : m_S) (nD : Nat) (ds : List Nat) (f : Nat → Int32) : Prop := ∀ c, c < 6 → f c = nI (k_used M nD (p_mem ds) (nI c))
theorem y_uI.zero : y_uI M nD [] (fun _ => 0) := fun c _ => by
  have : k_used M nD (p_mem []) (nI c) = 0 := by
    have h := k_n_congr (p := fun x => !(x_op M x) && p_mem [] x && decide (M.2 6 x = nI c)) (q := fun _ => false) (n := nD) (fun i _ => by show (!(x_op M i) && p_mem [] i && _) = false; unfold p_mem; simp)
    have h2 : ∀ n, k_n (fun _ => false) n = 0 := by
      intro n
      induction n with
      | zero => rfl
      | succ n ih => unfold k_n; rw [ih]; rfl
    unfold k_used
    rw [h, h2]
  rw [this]; rfl
theorem y_uI.next {d c0 : Nat} {ds : List Nat} {f : Nat → Int32} (h : y_uI M nD ds f) (hd : d < nD) (ho : x_op M d = false) (hn : p_mem ds d = false) (hc0 : c0 < 6) (hc : M.2 6 d = nI c0) : y_uI M nD (d :: ds) (upd f c0 (f c0 + 1)) := fun c hc6 => by
  rw [y_used_cons hd ho hn, hc]
  by_cases e : c = c0
  · subst e
    rw [if_pos rfl]
    show (if c = c then f c + 1 else f c) = _
    rw [if_pos rfl, h c hc6, nI_succ]
  · rw [if_neg (fun q => e ((nI_inj (by omega) (by omega)).mp q).symm), Nat.add_zero]
    show (if c = c0 then _ else f c) = _
    rw [if_neg e, h c hc6]
theorem y_planN (hI : m_I nR nD nK nG M) (hg : g < nG) (hp : m_pl M (nI g) = true) (h : k_best M nD nK (nI g) = none) {w : Int32} (hw : m_in w 0 1 = true) : F_plan M nD nK (nI g) w = -6 := by rw [y_plan_eq hI hg hp hw, h]
theorem y_plannedN (hI : m_I nR nD nK nG M) (hg : g < nG) (hp : m_pl M (nI g) = true) (h : k_best M nD nK (nI g) = none) : F_planned M nD nK (nI g) 0 = -6 := by rw [y_planned_eq hI hg hp (by decide), h]
theorem y_plan0 (hI : m_I nR nD nK nG M) (hg : g < nG) (hp : m_pl M (nI g) = true) (h : k_best M nD nK (nI g) = some p) : F_plan M nD nK (nI g) 0 = nI (p_cost (k_u M) p) := by rw [y_plan_eq hI hg hp rfl, h]; rfl
theorem y_plan1 (hI : m_I nR nD nK nG M) (hg : g < nG) (hp : m_pl M (nI g) = true) (h : k_best M nD nK (nI g) = some p) : F_plan M nD nK (nI g) 1 = nI p.length := by rw [y_plan_eq hI hg hp rfl, h]; rfl
theorem y_plan2 (hI : m_I nR nD nK nG M) (hg : g < nG) : F_plan M nD nK (nI g) 2 = -2 := by
  unfold F_plan
  rw [y_nog hI hg, if_neg (by decide), if_pos (by decide)]
theorem y_plannedK (hI : m_I nR nD nK nG M) (hg : g < nG) (hp : m_pl M (nI g) = true) (h : k_best M nD nK (nI g) = some p) (hk : k < p.length) : F_planned M nD nK (nI g) (nI k) = nI (p_at p k) := by
  have := (y_best_len hI h).1
  rw [y_planned_eq hI hg hp (nI_pos (by omega)), h]
  show (if nI k < nI p.length then nI (p_at p (nI k).toNatClampNeg) else -6) = _
  rw [if_pos (nI_lt hk (by omega)), nI_clamp (by omega)]
theorem y_plannedE (hI : m_I nR nD nK nG M) (hg : g < nG) (hp : m_pl M (nI g) = true) (h : k_best M nD nK (nI g) = some p) : F_planned M nD nK (nI g) (nI p.length) = -6 := by
  have := (y_best_len hI h).1
  rw [y_planned_eq hI hg hp (nI_pos (by omega)), h]
  show (if nI p.length < nI p.length then nI (p_at p (nI p.length).toNatClampNeg) else -6) = _
  rw [if_neg (nI_nlt (Nat.le_refl _) (by omega))]
theorem y_plannedM (hI : m_I nR nD nK nG M) (hg : g < nG) : F_planned M nD nK (nI g) (-1) = -2 := by
  unfold F_planned
  rw [y_nog hI hg, if_neg (by decide), if_pos (by decide)]
theorem y_pR0 (hI : m_I nR nD nK nG M) (hg : g < nG) : m_r0 M (nI g) = y_rm M g := by unfold m_r0 y_rm; rw [y_cg hI hg]
theorem y_escE {S : Nat → Bool} {r0 : Nat} (hx : ¬ M.1 1 < 0) : k_esc M nD r0 S = decide ((k_R M nD r0 S >>> (M.1 1 &&& 31)) &&& 1 = 1) := by
  unfold k_esc m_has
  rw [decide_eq_false hx]; rfl
theorem y_closed (hI : m_I nR nD nK nG M) {d : Nat} (hd : d < nD) (ho : x_op M d = false) : M.2 8 d < 0 ∧ ∃ c, c < 6 ∧ M.2 6 d = nI c := by
  obtain ⟨h1, ⟨x, hx, e⟩, -⟩ := hI.closed hd ho
  exact ⟨by rw [h1]; decide, x, by omega, e⟩
end YP
/-! cells beside the class's -/
theorem y_X.new {G : z_G} {ad : Nat → Nat → Nat} {nR nD nK nG : Nat} {M : m_S} {t4 : Int32} {H H' : Heap} {a : Nat} {e : va_E} (h : y_X G ad nR nD nK nG M t4 H) (hN : z_N G a e H H') : y_X G ad nR nD nK nG M t4 H' := by
  obtain ⟨T, hT, hx⟩ := h
  exact ⟨T, hT, hx.kept hN.2.2.2⟩
theorem y_X.lt {G : z_G} {ad : Nat → Nat → Nat} {nR nD nK nG : Nat} {M : m_S} {t4 : Int32} {H : Heap} (h : y_X G ad nR nD nK nG M t4 H) : ∀ q, x_A ad nR nD nK nG q → q < H.size := by
  obtain ⟨T, -, hx⟩ := h
  rintro q ⟨k, i, hk, rfl⟩
  exact hx.lt hk
theorem y_X.put {G : z_G} {ad : Nat → Nat → Nat} {nR nD nK nG : Nat} {M : m_S} {t4 : Int32} {H H' : Heap} {a : Nat} {e : va_E} (h : y_X G ad nR nD nK nG M t4 H) (hU : z_U G a e H H') (ha : ¬ x_A ad nR nD nK nG a) : y_X G ad nR nD nK nG M t4 H' := by
  obtain ⟨T, hT, hx⟩ := h
  exact ⟨T, hT, hx.keptA (fun k i hk => hU.2.2 _ (fun q => ha ⟨k, i, hk, q.symm⟩))⟩
