/-! the rows that the ways are kept in -/
def m_Q (M M' : m_S) : Prop := (∀ j, j ≤ 21 → M'.1 j = M.1 j) ∧ ∀ j, j ≤ 19 → M'.2 j = M.2 j
theorem m_Q.refl {M : m_S} : m_Q M M := ⟨fun _ _ => rfl, fun _ _ => rfl⟩
theorem m_Q.trans {M M' M'' : m_S} (h : m_Q M M') (h2 : m_Q M' M'') : m_Q M M'' := ⟨fun j hj => (h2.1 j hj).trans (h.1 j hj), fun j hj => (h2.2 j hj).trans (h.2 j hj)⟩
theorem m_I.scratch {nR nD nK nG : Nat} {M M' : m_S} (h : m_I nR nD nK nG M) (hq : m_Q M M') : m_I nR nD nK nG M' := by
  obtain ⟨q1, q2⟩ := hq
  unfold m_I m_N at *
  rw [x_lc_congr (q2 6 (by omega)), q1 0 (by omega), q1 1 (by omega), q1 2 (by omega), q1 9 (by omega), q1 14 (by omega), q1 20 (by omega), q1 21 (by omega), q2 3 (by omega), q2 4 (by omega), q2 5 (by omega), q2 6 (by omega), q2 7 (by omega), q2 8 (by omega), q2 10 (by omega), q2 11 (by omega), q2 12 (by omega), q2 13 (by omega), q2 15 (by omega), q2 16 (by omega), q2 17 (by omega), q2 19 (by omega)]
  exact h
theorem x_R.scratch {G : z_G} {ad : Nat → Nat → Nat} {nR nD nK nG : Nat} {M M' : m_S} {T : x_T} {H : Heap} (h : x_R G ad nR nD nK nG M T H) (hq : m_Q M M') : x_R G ad nR nD nK nG M' T H := by
  obtain ⟨q1, q2⟩ := hq
  obtain ⟨⟨h1, h2⟩, ⟨h3, h4, h5, h6⟩, h7⟩ := h
  refine ⟨⟨?_, h2⟩, ⟨h3, fun i hi => ?_, fun i hi => ?_, fun i hi => ?_⟩, h7⟩
  · rw [x_obj_congr (q2 6 (by omega)) (q1 1 (by omega)) (q1 20 (by omega)) (q1 21 (by omega)) rfl]; exact h1
  · rw [x_door_congr (q2 6 (by omega)) (fun j a b => by rw [q2 j (by omega)])]; exact h4 i hi
  · rw [x_key_congr (M := M) (M' := M') (fun j a b => by rw [q2 j (by omega)])]; exact h5 i hi
  · rw [x_group_congr (M := M) (M' := M') (fun j a b => by rw [q2 j (by omega)])]; exact h6 i hi
def m_f (M : m_S) (d t : Nat) : Nat := max t (M.2 8 d).toNatClampNeg + (M.2 5 d).toNatClampNeg
def m_t0 (M : m_S) (g : Int32) : Nat := (M.2 17 g.toNatClampNeg).toNatClampNeg
def m_r0 (M : m_S) (g : Int32) : Nat := (M.2 16 g.toNatClampNeg).toNatClampNeg
noncomputable def F_way (M : m_S) (nD : Nat) (g r : Int32) : Int32 := if m_no g (M.1 14) || m_no r (M.1 0) then -1 else if m_pl M g then w_best (w_P nD (m_lo M) (m_hi M) (x_op M) (m_f M) (m_r0 M g) (m_t0 M g) r.toNatClampNeg) (m_t0 M g) else -4
theorem m_wF {nR nD nK nG : Nat} {M : m_S} (hI : m_I nR nD nK nG M) : w_F nD (m_f M) := by
  refine ⟨fun d t u h => ?_, fun d t hd => ?_, fun d t u hd hu h => ?_⟩
  · unfold m_f; omega
  · obtain ⟨w, h1, h2, e⟩ := hI.wt hd
    unfold m_f; rw [e, nI_clamp (by omega)]; omega
  · obtain ⟨w, h1, h2, e⟩ := hI.wt hd
    unfold m_f; rw [e, nI_clamp (by omega)]
    have h3 : (M.2 8 d).toNatClampNeg ≤ 100000 := by
      rcases (hI.2.2.1 d hd).2.2 with ⟨-, -, h8⟩ | ⟨-, -, h8 | ⟨t, ht, h8⟩⟩
      · rw [h8]; decide
      · rw [h8]; decide
      · rw [h8, nI_clamp (by omega)]; exact ht
    omega
theorem m_l12 {nR nD nK nG : Nat} {M : m_S} (hI : m_I nR nD nK nG M) : ∀ d, d < nD → m_lo M d < 12 ∧ m_hi M d < 12 := fun d hd => by
  have h1 := m_lo12 hI hd
  have h2 := m_hi12 hI hd
  have := hI.1.1.2
  omega
/-- a row of times in place of row 31 -/
def w_row (M : m_S) (n : Nat) (a : Nat → Nat) : m_S := (M.1, fun j => if j = 31 then (fun i => if i < n then nI (a i) else M.2 31 i) else M.2 j)
theorem w_row_ne {M : m_S} {n j : Nat} {a : Nat → Nat} (h : j ≠ 31) : (w_row M n a).2 j = M.2 j := if_neg h
theorem w_row_at {M : m_S} {n i : Nat} {a : Nat → Nat} (h : i < n) : (w_row M n a).2 31 i = nI (a i) := by
  show (if i < n then nI (a i) else M.2 31 i) = _
  rw [if_pos h]
theorem w_row_Q {M : m_S} {n : Nat} {a : Nat → Nat} : m_Q M (w_row M n a) := ⟨fun _ _ => rfl, fun j hj => w_row_ne (by omega)⟩
theorem w_row_0 {M : m_S} {a : Nat → Nat} : w_row M 0 a = M := by
  refine Prod.ext rfl (funext fun j => ?_)
  show (if j = 31 then (fun i => if i < 0 then nI (a i) else M.2 31 i) else M.2 j) = M.2 j
  by_cases e : j = 31
  · subst e; simp
  · simp [e]
theorem w_row_ext {M M' : m_S} {n : Nat} {a : Nat → Nat} (h1 : M'.1 = M.1) (h2 : ∀ j, j ≠ 31 → M'.2 j = M.2 j) (h3 : ∀ i, i < n → M'.2 31 i = nI (a i)) (h4 : ∀ i, ¬ i < n → M'.2 31 i = M.2 31 i) : M' = w_row M n a := by
  refine Prod.ext h1 (funext fun j => ?_)
  by_cases e : j = 31
  · subst e
    funext i
    by_cases c : i < n
    · rw [h3 i c, w_row_at c]
    · rw [h4 i c]
      show _ = (if i < n then nI (a i) else M.2 31 i)
      rw [if_neg c]
  · rw [h2 j e, w_row_ne e]
theorem w_row_fill {M : m_S} {n : Nat} {a : Nat → Nat} {v : Int32} (hv : v = nI (a n)) : m_sA (w_row M n a) 31 n v = w_row M (n + 1) a := by
  refine w_row_ext rfl (fun j hj => by rw [m_sA_arr hj, w_row_ne hj]) (fun i hi => ?_) (fun i hi => ?_)
  · by_cases e : i = n
    · subst e; rw [m_sA_at, hv]
    · rw [m_sA_ix e, w_row_at (by omega)]
  · rw [m_sA_ix (by omega)]
    show (if i < n then nI (a i) else M.2 31 i) = _
    rw [if_neg (by omega)]
theorem w_row_put {M : m_S} {n t v : Nat} {a : Nat → Nat} (ht : t < n) : m_sA (w_row M n a) 31 t (nI v) = w_row M n (w_u a t v) := by
  refine w_row_ext rfl (fun j hj => by rw [m_sA_arr hj, w_row_ne hj]) (fun i hi => ?_) (fun i hi => ?_)
  · by_cases e : i = t
    · subst e; rw [m_sA_at, w_u_at]
    · rw [m_sA_ix e, w_row_at hi, w_u_ne e]
  · rw [m_sA_ix (by omega)]
    show (if i < n then nI (a i) else M.2 31 i) = _
    rw [if_neg hi]
def F_passes (M : m_S) (f t d : Int32) : Bool × m_S := if M.2 31 f.toNatClampNeg = 1000000000 ∨ ¬ m_later (M.2 31 f.toNatClampNeg) (M.2 8 d.toNatClampNeg) + M.2 5 d.toNatClampNeg < M.2 31 t.toNatClampNeg then (false, M) else (true, m_sA M 31 t.toNatClampNeg (m_later (M.2 31 f.toNatClampNeg) (M.2 8 d.toNatClampNeg) + M.2 5 d.toNatClampNeg))
/-- the time behind a door in numbers of the machine -/
theorem m_f_nI {nR nD nK nG : Nat} {M : m_S} (hI : m_I nR nD nK nG M) {d t : Nat} (hd : d < nD) (ho : x_op M d = true) (ht : t < 2 ^ 30) : m_later (nI t) (M.2 8 d) + M.2 5 d = nI (m_f M d t) ∧ m_f M d t < 2 ^ 31 := by
  obtain ⟨w, h1, h2, e⟩ := hI.wt hd
  obtain ⟨o, h3, e8⟩ := hI.ot hd (x_op_iff.mp ho)
  unfold m_f
  rw [e, e8, m_later_nI (by omega) (by omega), nI_add, nI_clamp (by omega), nI_clamp (by omega)]
  exact ⟨rfl, by omega⟩
theorem m_step {nR nD nK nG N : Nat} {M : m_S} (hI : m_I nR nD nK nG M) {d r r' : Nat} {a : Nat → Nat} (hd : d < nD) (ho : x_op M d = true) (hN : N < 2 ^ 30) (ha : ∀ q, a q ≤ N) : (nI (a r) = nI N ∨ ¬ m_later (nI (a r)) (M.2 8 d) + M.2 5 d < nI (a r')) ↔ ¬ w_s (m_f M) N a d r r' = true := by
  have h1 := ha r
  have h2 := ha r'
  obtain ⟨e, hb⟩ := m_f_nI hI hd ho (t := a r) (by omega)
  rw [e, nI_inj (by omega) (by omega), nI_ltI hb (by omega)]
  unfold w_s
  simp only [Bool.and_eq_true, Bool.not_eq_true', decide_eq_true_eq, decide_eq_false_iff_not]
  omega
theorem m_passes {nR nD nK nG : Nat} {M : m_S} (hI : m_I nR nD nK nG M) {d r r' : Nat} {a : Nat → Nat} {x y z : Int32} (hx : x.toNatClampNeg = r) (hy : y.toNatClampNeg = r') (hz : z.toNatClampNeg = d) (hr : r < nR) (hr' : r' < nR) (hd : d < nD) (ho : x_op M d = true) (ha : ∀ q, a q ≤ 1000000000) : F_passes (w_row M nR a) x y z = (w_s (m_f M) 1000000000 a d r r', w_row M nR (w_v (m_f M) 1000000000 a d r r')) := by
  have hs := m_step hI (r := r) (r' := r') hd ho (N := 1000000000) (by omega) ha
  rw [show nI 1000000000 = (1000000000 : Int32) from rfl] at hs
  have h1 := ha r
  obtain ⟨e, hb⟩ := m_f_nI hI hd ho (t := a r) (by omega)
  unfold F_passes
  rw [hx, hy, hz, w_row_at hr, w_row_at hr', w_row_ne (by decide), w_row_ne (by decide)]
  unfold w_v
  by_cases c : w_s (m_f M) 1000000000 a d r r' = true
  · rw [if_neg (fun q => hs.mp q c), if_pos c, e, w_row_put hr', c]
  · rw [if_pos (hs.mpr c), if_neg c]
    have : w_s (m_f M) 1000000000 a d r r' = false := by simpa using c
    rw [this]
def w_a0 (N r0 t0 : Nat) : Nat → Nat := w_u (fun _ => N) r0 t0
theorem w_a0_A {nD : Nat} {lo hi : Nat → Nat} {op : Nat → Bool} {f : Nat → Nat → Nat} {N r0 t0 : Nat} (hN : 200000 < N) (ht : t0 ≤ 100000) (h0 : r0 < 12) : w_A nD lo hi op f r0 t0 N (w_a0 N r0 t0) := by
  have hc : ∀ i, w_a0 N r0 t0 i < N → i = r0 := fun i hi => by
    by_cases e : i = r0
    · exact e
    · unfold w_a0 at hi; rw [w_u_ne e] at hi; omega
  refine ⟨fun i => ?_, fun i hi => ?_, ?_, fun i hi => ?_⟩
  · by_cases e : i = r0
    · subst e; unfold w_a0; rw [w_u_at]; omega
    · unfold w_a0; rw [w_u_ne e]; exact Nat.le_refl _
  · rw [hc i hi]; unfold w_a0; rw [w_u_at]; exact w_P.start
  · unfold w_a0; rw [w_u_at]; exact Nat.le_refl _
  · rw [hc i hi]; unfold w_a0; rw [w_u_at]; omega
/-- the arrivals of the class's rooms -/
def x_arr (T : x_T) (n : Nat) (a : Nat → Nat) : x_T := (fun i => if i < n then nI (a i) else T.1 i, T.2)
theorem x_arr_at {T : x_T} {n i : Nat} {a : Nat → Nat} (h : i < n) : (x_arr T n a).1 i = nI (a i) := if_pos h
theorem x_R.arr {G : z_G} {ad : Nat → Nat → Nat} {nR nD nK nG : Nat} {M : m_S} {T T' : x_T} {H H' : Heap} (h : x_R G ad nR nD nK nG M T H) {i : Nat} {v : Int32} (hi : i < nR) (hU : z_U G (ad 0 i) (.inr (5, [.int (nI i), .int (x_bit (nI i)), .int v])) H H') (hv : T'.1 i = v) (hT : T'.2 = T.2) (hn : ∀ j, j < nR → j ≠ i → T'.1 j = T.1 j) : x_R G ad nR nD nK nG M T' H' := by
  subst hv
  refine h.upd (k0 := 0) (i0 := i) ⟨by unfold x_in; omega, by omega⟩ hU (by rw [x_cell_0]; rfl) ?_
  intro k' j hp hne
  rcases x_pl_cases hp with ⟨rfl, q⟩ | ⟨rfl, q⟩ | ⟨rfl, q⟩ | ⟨rfl, q⟩ | ⟨rfl, rfl⟩ | ⟨rfl, rfl⟩ | ⟨rfl, rfl⟩ | ⟨rfl, rfl⟩
  · rw [x_cell_0, x_cell_0]
    unfold x_room
    rw [hn j q (by omega)]
  · rfl
  · rfl
  · rfl
  · exact x_obj_congr rfl rfl rfl rfl (by rw [hT])
  · rw [x_cell9, x_cell9]; simp only [x_search, hT]
  · rw [x_cell10, x_cell10, hT]
  · rw [x_cell11, x_cell11, hT]

