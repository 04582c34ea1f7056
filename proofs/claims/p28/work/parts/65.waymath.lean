/-! ways: the times that the law compares -/
theorem k_s_lt {f g : Nat → Nat} {d n : Nat} (h : ∀ i, i ≠ d → g i = f i) (hv : f d < g d) (hd : d < n) : k_s f n < k_s g n := by
  have := k_s_add (f := f) (g := g) (d := d) (v := g d - f d) h (by omega) n
  rw [this, if_pos hd]; omega
theorem w_ex {nD : Nat} {lo hi : Nat → Nat} {op : Nat → Bool} {f : Nat → Nat → Nat} {r0 t0 N : Nat} (hF : w_F nD f) (hN : 200000 < N) (ht : t0 ≤ 100000) (h0 : r0 < 12) (hl : ∀ d, d < nD → lo d < 12 ∧ hi d < 12) : ∃ a, w_A nD lo hi op f r0 t0 N a ∧ w_Q nD lo hi op f a := by
  have key : ∀ n a, k_s a 12 < n → w_A nD lo hi op f r0 t0 N a → ∃ a, w_A nD lo hi op f r0 t0 N a ∧ w_Q nD lo hi op f a := by
    intro n
    induction n with
    | zero => intro a h; omega
    | succ n ih =>
      intro a h hA
      by_cases c : w_Q nD lo hi op f a
      · exact ⟨a, hA, c⟩
      · have h2 : ∃ d x y, w_E nD lo hi op d x y ∧ f d (a x) < a y := by
          by_cases c2 : ∃ d x y, w_E nD lo hi op d x y ∧ f d (a x) < a y
          · exact c2
          · exact absurd (fun d x y hE => Nat.not_lt.mp (fun q => c2 ⟨d, x, y, hE, q⟩)) c
        obtain ⟨d, x, y, hE, hlt⟩ := h2
        have hy : y < 12 := by
          obtain ⟨q1, -, ⟨-, q2⟩ | ⟨-, q2⟩⟩ := hE
          · rw [q2]; exact (hl d q1).2
          · rw [q2]; exact (hl d q1).1
        have hx : a x < N := by
          have h3 := hF.2.1 d (a x) hE.1
          have h4 := hA.1 y
          omega
        refine ih (w_u a y (f d (a x))) ?_ (hA.upd hF hE hx hlt hy)
        have := k_s_lt (f := w_u a y (f d (a x))) (g := a) (d := y) (fun i hi => (w_u_ne hi).symm) (by rw [w_u_at]; exact hlt) hy
        omega
  exact key _ (w_a0 N r0 t0) (Nat.lt_succ_self _) (w_a0_A hN ht h0)
theorem y_and1 (y : BitVec 32) : y &&& 1#32 = 0#32 ↔ y.getLsbD 0 = false := by
  constructor
  · intro h
    have h3 : (y &&& 1#32).getLsbD 0 = false := by rw [h]; rfl
    simpa using h3
  · intro h
    apply BitVec.eq_of_getLsbD_eq
    intro i hi
    by_cases e : i = 0
    · subst e
      rw [BitVec.getLsbD_and, h]; rfl
    · simp [e]
theorem y_bit1 {x : Int32} {j : Nat} (hj : j < 32) : ((x >>> (nI j &&& 31)) &&& 1 = 1) ↔ tb x j = true := by
  have h := m_has_tb (x := x) hj
  unfold m_has at h
  rw [← h, decide_eq_true_eq]
theorem y_bit0 {x : Int32} {j : Nat} (hj : j < 32) : ((x >>> (nI j &&& 31)) &&& 1 = 0) ↔ tb x j = false := by
  have h1 : ((x >>> (nI j &&& 31)) &&& 1).toBitVec = (x.toBitVec.sshiftRight j) &&& 1#32 := by
    rw [Int32.toBitVec_and, Int32.toBitVec_shiftRight]
    show x.toBitVec.sshiftRight ((nI j &&& 31).toBitVec.smod 32).toNat &&& 1#32 = _
    rw [m_has_sh j hj]
  rw [← Int32.toBitVec_inj, h1]
  show (x.toBitVec.sshiftRight j &&& 1#32 = 0#32) ↔ _
  rw [y_and1, BitVec.getLsbD_sshiftRight]
  simp [hj, tb]
/-- the earliest times, from the group g on -/
def y_Wa (M : m_S) (nD g : Nat) (a : Nat → Nat) : Prop := w_A nD (m_lo M) (m_hi M) (x_op M) (m_f M) (y_rm M g) (y_tm M g) 1000000 a ∧ w_Q nD (m_lo M) (m_hi M) (x_op M) (m_f M) a
def y_its (a : Nat → Nat) (t0 r : Nat) : Int32 := if a r = 1000000 then -6 else nI (a r - t0)
def y_ot (M : m_S) (r d : Nat) : Int32 := if m_lo M d = r then nI (m_hi M d) else if m_hi M d = r then nI (m_lo M d) else -1
section YW
variable {nR nD nK nG g r d x : Nat} {M : m_S} {a : Nat → Nat}
theorem y_Wa_ex (hI : m_I nR nD nK nG M) (hg : g < nG) : ∃ a, y_Wa M nD g a := by
  have h1 := (y_tmE hI hg).2
  have h2 := (y_rmE hI hg).2
  have := y_nsm hI
  exact w_ex (m_wF hI) (by omega) h1 (by omega) (m_l12 hI)
theorem y_Wa.ge (h : y_Wa M nD g a) (hI : m_I nR nD nK nG M) (hr : a r < 1000000) : y_tm M g ≤ a r :=
  h.1.2.1 r hr (fun _ t => y_tm M g ≤ t) (Nat.le_refl _) (fun d x y u hE q => by have := (m_wF hI).2.1 d u hE.1; omega)
theorem y_Wa.own (h : y_Wa M nD g a) (hI : m_I nR nD nK nG M) (hg : g < nG) : a (y_rm M g) = y_tm M g := by
  have h1 := (y_tmE hI hg).2
  have h2 := h.1.2.2.1
  have h3 := h.ge hI (r := y_rm M g) (by omega)
  omega
theorem y_Wa.le (h : y_Wa M nD g a) (hr : a r < 1000000) : a r ≤ 100360 := h.1.bound hr
theorem y_way_eq (h : y_Wa M nD g a) (hI : m_I nR nD nK nG M) (hg : g < nG) (hp : m_pl M (nI g) = true) (hr : r < nR) : F_way M nD (nI g) (nI r) = y_its a (y_tm M g) r := by
  have ht := (y_tmE hI hg).2
  have e := w_best_eq (m_wF hI) h.1 h.2 (by omega) ht r
  unfold F_way
  rw [y_nog hI hg, y_nor hI hr, y_cr hI hr, hp, if_neg (by decide), if_pos rfl]
  unfold m_r0 m_t0
  rw [y_cg hI hg]
  show w_best (w_P nD (m_lo M) (m_hi M) (x_op M) (m_f M) (y_rm M g) (y_tm M g) r) (y_tm M g) = _
  rw [← e]
  unfold y_its
  by_cases c : a r = 1000000
  · rw [if_pos c, if_pos c]
  · rw [if_neg c, if_neg c]
    have := h.1.1 r
    exact nI_subN (h.ge hI (by omega))
theorem y_its_yes {t0 : Nat} (hr : a r < 1000000) : y_its a t0 r = nI (a r - t0) := by unfold y_its; rw [if_neg (by omega)]
theorem y_its_lt (h : y_Wa M nD g a) {t0 : Nat} : y_its a t0 r < 0 ↔ ¬ a r < 1000000 := by
  have h1 := h.1.1 r
  unfold y_its
  by_cases c : a r = 1000000
  · rw [if_pos c]
    exact ⟨fun _ => by omega, fun _ => by decide⟩
  · rw [if_neg c]
    exact ⟨fun q => absurd q (nI_pos (by omega)), fun q => absurd (by omega) q⟩
theorem y_its_0 (h : y_Wa M nD g a) (hI : m_I nR nD nK nG M) (hg : g < nG) : y_its a (y_tm M g) r = 0 ↔ r = y_rm M g := by
  constructor
  · intro q
    unfold y_its at q
    by_cases c : a r = 1000000
    · rw [if_pos c] at q; exact absurd q (by decide)
    · rw [if_neg c] at q
      have h1 := h.1.1 r
      have hlt : a r < 1000000 := by omega
      have h2 : a r - y_tm M g = 0 := (nI_inj (b := 0) (by omega) (by omega)).mp q
      have h3 := h.ge hI hlt
      rcases (h.1.2.1 r hlt).inv with ⟨e, -⟩ | ⟨d, x, u, hE, hu, e⟩
      · exact e
      · have h4 : y_tm M g ≤ u := hu (fun _ t => y_tm M g ≤ t) (Nat.le_refl _) (fun d x y u hE q => by have := (m_wF hI).2.1 d u hE.1; omega)
        have h5 := (m_wF hI).2.1 d u hE.1
        omega
  · intro q
    have h1 := h.own hI hg
    have ht := (y_tmE hI hg).2
    rw [← q] at h1
    rw [y_its_yes (by omega), h1, Nat.sub_self]; rfl
theorem y_Wa.reach (h : y_Wa M nD g a) (hI : m_I nR nD nK nG M) (hg : g < nG) : a r < 1000000 ↔ g_R nD (m_lo M) (m_hi M) (x_op M) (fun q => q = y_rm M g) r := by
  have ht := (y_tmE hI hg).2
  constructor
  · intro q
    exact h.1.2.1 r q (fun r _ => g_R nD (m_lo M) (m_hi M) (x_op M) (fun q => q = y_rm M g) r) (g_R.start rfl) (fun d x y u hE w => by
      obtain ⟨q1, q2, ⟨e1, e2⟩ | ⟨e1, e2⟩⟩ := hE
      · rw [e2]; rw [e1] at w; exact (g_R.step q1 q2).mp w
      · rw [e2]; rw [e1] at w; exact (g_R.step q1 q2).mpr w)
  · intro q
    obtain ⟨t, w⟩ := q (fun r => ∃ t, w_P nD (m_lo M) (m_hi M) (x_op M) (m_f M) (y_rm M g) (y_tm M g) r t) (fun x hx => by subst hx; exact ⟨_, w_P.start⟩) (fun d hd ho => ⟨fun ⟨t, w⟩ => ⟨_, w.step (w_E_lo hd ho)⟩, fun ⟨t, w⟩ => ⟨_, w.step (w_E_hi hd ho)⟩⟩)
    exact w_seen (m_wF hI) h.1 h.2 (by omega) ht w
theorem y_Wa.nb (h : y_Wa M nD g a) (hI : m_I nR nD nK nG M) (hg : g < nG) (hE : w_E nD (m_lo M) (m_hi M) (x_op M) d x r) (hr : a r < 1000000) : a x < 1000000 ∧ a r ≤ m_f M d (a x) := by
  refine ⟨?_, h.2 d x r hE⟩
  rw [h.reach hI hg] at hr ⊢
  obtain ⟨q1, q2, ⟨e1, e2⟩ | ⟨e1, e2⟩⟩ := hE
  · rw [e1]; rw [e2] at hr; exact (g_R.step q1 q2).mpr hr
  · rw [e1]; rw [e2] at hr; exact (g_R.step q1 q2).mp hr
theorem y_Wa.last (h : y_Wa M nD g a) (hI : m_I nR nD nK nG M) (hg : g < nG) (hr : a r < 1000000) (hne : ¬ r = y_rm M g) : ∃ d x, w_E nD (m_lo M) (m_hi M) (x_op M) d x r ∧ m_f M d (a x) = a r := by
  rcases (h.1.2.1 r hr).inv with ⟨e, -⟩ | ⟨d, x, u, hE, hu, e⟩
  · exact absurd e hne
  · refine ⟨d, x, hE, ?_⟩
    have h1 := w_done (m_wF hI) h.1 h.2 hu
    have h2 := (m_wF hI).1 d _ _ h1
    have h3 := h.2 d x r hE
    omega
/-- whether a door was met that gives the time: what the law's flag says -/
def y_Wm (M : m_S) (nD g : Nat) (a : Nat → Nat) (r d : Nat) (b : Bool) : Prop := b = false → ¬ r = y_rm M g ∧ ∀ d' x, d' < d → w_E nD (m_lo M) (m_hi M) (x_op M) d' x r → ¬ m_f M d' (a x) = a r
theorem y_Wm.zero (h : y_Wa M nD g a) (hI : m_I nR nD nK nG M) (hg : g < nG) : y_Wm M nD g a r 0 (decide (y_its a (y_tm M g) r = 0)) := fun q => ⟨fun e => by
  rw [decide_eq_false_iff_not] at q
  exact q ((y_its_0 h hI hg).mpr e), fun d' x q => absurd q (by omega)⟩
theorem y_Wm.skip {b : Bool} (h : y_Wm M nD g a r d b) (hn : ∀ x, ¬ w_E nD (m_lo M) (m_hi M) (x_op M) d x r) : y_Wm M nD g a r (d + 1) b := fun q => ⟨(h q).1, fun d' x hd hE => by
  by_cases e : d' = d
  · subst e; exact absurd hE (hn x)
  · exact (h q).2 d' x (by omega) hE⟩
theorem y_Wm.take {b : Bool} (h : y_Wm M nD g a r d b) (hI : m_I nR nD nK nG M) (hE : w_E nD (m_lo M) (m_hi M) (x_op M) d x r) : y_Wm M nD g a r (d + 1) (b || decide (m_f M d (a x) = a r)) := fun q => by
  rw [Bool.or_eq_false_iff, decide_eq_false_iff_not] at q
  refine ⟨(h q.1).1, fun d' x' hd hE' => ?_⟩
  by_cases e : d' = d
  · subst e
    have hne := m_lohi_ne hI hE.1
    have : x' = x := by
      obtain ⟨-, -, ⟨e1, e2⟩ | ⟨e1, e2⟩⟩ := hE <;> obtain ⟨-, -, ⟨f1, f2⟩ | ⟨f1, f2⟩⟩ := hE'
      · rw [e1, f1]
      · exact absurd (f2.symm.trans e2) hne
      · exact absurd (e2.symm.trans f2) hne
      · rw [e1, f1]
    rw [this]; exact q.2
  · exact (h q.1).2 d' x' (by omega) hE'
theorem y_Wm.done {b : Bool} (h : y_Wm M nD g a r nD b) (hW : y_Wa M nD g a) (hI : m_I nR nD nK nG M) (hg : g < nG) (hr : a r < 1000000) : b = true := by
  cases b with
  | true => rfl
  | false =>
    obtain ⟨h1, h2⟩ := h rfl
    obtain ⟨d, x, hE, e⟩ := hW.last hI hg hr h1
    exact absurd e (h2 d x hE.1 hE)
theorem y_ot_pos (h : ¬ y_ot M r d < 0) : ∃ x, y_ot M r d = nI x ∧ ((x = m_lo M d ∧ r = m_hi M d) ∨ (x = m_hi M d ∧ r = m_lo M d)) := by
  unfold y_ot at h ⊢
  by_cases c1 : m_lo M d = r
  · rw [if_pos c1]; exact ⟨_, rfl, Or.inr ⟨rfl, c1.symm⟩⟩
  · rw [if_neg c1] at h ⊢
    by_cases c2 : m_hi M d = r
    · rw [if_pos c2]; exact ⟨_, rfl, Or.inl ⟨rfl, c2.symm⟩⟩
    · rw [if_neg c2] at h; exact absurd (by decide) h
theorem y_ot_neg (hI : m_I nR nD nK nG M) (hd : d < nD) (h : y_ot M r d < 0) : ∀ x, ¬ w_E nD (m_lo M) (m_hi M) (x_op M) d x r := by
  intro x hE
  have hl := y_lohi hI hd
  have := y_nsm hI
  unfold y_ot at h
  by_cases c1 : m_lo M d = r
  · rw [if_pos c1] at h; exact absurd h (nI_pos (by omega))
  · rw [if_neg c1] at h
    by_cases c2 : m_hi M d = r
    · rw [if_pos c2] at h; exact absurd h (nI_pos (by omega))
    · obtain ⟨-, -, ⟨-, f2⟩ | ⟨-, f2⟩⟩ := hE
      · exact c2 f2.symm
      · exact c1 f2.symm
theorem y_setE (h : y_Wa M nD g a) (hI : m_I nR nD nK nG M) (hg : g < nG) (hp : m_pl M (nI g) = true) (hr : r < nR) : decide (y_its a (y_tm M g) r < 0) = !(tb (F_reach M nD (nI g)) r) := by
  have hs := y_nsm hI
  have e : F_reach M nD (nI g) = g_bits (g_R nD (m_lo M) (m_hi M) (x_op M) (fun q => q = y_rm M g)) 32 := by
    unfold F_reach
    rw [y_nog hI hg, hp, if_neg (by decide), if_pos rfl, y_cg hI hg]
    rfl
  have h1 := y_its_lt (r := r) (t0 := y_tm M g) h
  have h2 := h.reach (r := r) hI hg
  have h3 := g_bits_tb (P := g_R nD (m_lo M) (m_hi M) (x_op M) (fun q => q = y_rm M g)) (i := r) (by omega)
  rw [e]
  by_cases c : a r < 1000000
  · rw [h3.mpr (h2.mp c), decide_eq_false (fun q => h1.mp q c)]; rfl
  · have : tb (g_bits (g_R nD (m_lo M) (m_hi M) (x_op M) (fun q => q = y_rm M g)) 32) r = false := by
      cases q : tb (g_bits (g_R nD (m_lo M) (m_hi M) (x_op M) (fun q => q = y_rm M g)) 32) r with
      | false => rfl
      | true => exact absurd (h2.mpr (h3.mp q)) c
    rw [this, decide_eq_true (h1.mpr c)]; rfl
theorem y_reachE (hI : m_I nR nD nK nG M) (hg : g < nG) (hp : m_pl M (nI g) = true) : g_bits (m_Rch M nD (m_opS M 0) (fun q => q = y_rm M g)) 32 = F_reach M nD (nI g) := by
  rw [m_reach0 hI]
  unfold F_reach
  rw [y_nog hI hg, hp, if_neg (by decide), if_pos rfl, y_cg hI hg]
  rfl
end YW
