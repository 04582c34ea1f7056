/-! a field of a cell changes: the state that the cells show then -/
section XPUT
variable {G : z_G} {ad : Nat → Nat → Nat} {nR nD nK nG : Nat} {M : m_S} {T : x_T} {H H' : Heap}
theorem x_R.g15 (h : x_R G ad nR nD nK nG M T H) {g : Nat} {v : Int32} (hg : g < nG) (hU : z_U G (ad 3 g) (.inr (2, [.int (nI g), .int v, .ref (ad 0 (M.2 16 g).toNatClampNeg), .int (M.2 17 g), .int (M.2 18 g), .int (M.2 19 g)])) H H') : x_R G ad nR nD nK nG (m_sA M 15 g v) T H' :=
  h.group hg (by simp only [x_group, m_sA_at, m_sA_arr (show (16 : Nat) ≠ 15 by decide), m_sA_arr (show (17 : Nat) ≠ 15 by decide), m_sA_arr (show (18 : Nat) ≠ 15 by decide), m_sA_arr (show (19 : Nat) ≠ 15 by decide)]; exact hU) rfl (fun j hj => m_sA_arr (by omega)) (fun j i hi => m_sA_ix hi)
theorem x_R.g16 (h : x_R G ad nR nD nK nG M T H) {g : Nat} {v : Int32} (hg : g < nG) (hU : z_U G (ad 3 g) (.inr (2, [.int (nI g), .int (M.2 15 g), .ref (ad 0 v.toNatClampNeg), .int (M.2 17 g), .int (M.2 18 g), .int (M.2 19 g)])) H H') : x_R G ad nR nD nK nG (m_sA M 16 g v) T H' :=
  h.group hg (by simp only [x_group, m_sA_at, m_sA_arr (show (15 : Nat) ≠ 16 by decide), m_sA_arr (show (17 : Nat) ≠ 16 by decide), m_sA_arr (show (18 : Nat) ≠ 16 by decide), m_sA_arr (show (19 : Nat) ≠ 16 by decide)]; exact hU) rfl (fun j hj => m_sA_arr (by omega)) (fun j i hi => m_sA_ix hi)
theorem x_R.g17 (h : x_R G ad nR nD nK nG M T H) {g : Nat} {v : Int32} (hg : g < nG) (hU : z_U G (ad 3 g) (.inr (2, [.int (nI g), .int (M.2 15 g), .ref (ad 0 (M.2 16 g).toNatClampNeg), .int v, .int (M.2 18 g), .int (M.2 19 g)])) H H') : x_R G ad nR nD nK nG (m_sA M 17 g v) T H' :=
  h.group hg (by simp only [x_group, m_sA_at, m_sA_arr (show (15 : Nat) ≠ 17 by decide), m_sA_arr (show (16 : Nat) ≠ 17 by decide), m_sA_arr (show (18 : Nat) ≠ 17 by decide), m_sA_arr (show (19 : Nat) ≠ 17 by decide)]; exact hU) rfl (fun j hj => m_sA_arr (by omega)) (fun j i hi => m_sA_ix hi)
theorem x_R.g18 (h : x_R G ad nR nD nK nG M T H) {g : Nat} {v : Int32} (hg : g < nG) (hU : z_U G (ad 3 g) (.inr (2, [.int (nI g), .int (M.2 15 g), .ref (ad 0 (M.2 16 g).toNatClampNeg), .int (M.2 17 g), .int v, .int (M.2 19 g)])) H H') : x_R G ad nR nD nK nG (m_sA M 18 g v) T H' :=
  h.group hg (by simp only [x_group, m_sA_at, m_sA_arr (show (15 : Nat) ≠ 18 by decide), m_sA_arr (show (16 : Nat) ≠ 18 by decide), m_sA_arr (show (17 : Nat) ≠ 18 by decide), m_sA_arr (show (19 : Nat) ≠ 18 by decide)]; exact hU) rfl (fun j hj => m_sA_arr (by omega)) (fun j i hi => m_sA_ix hi)
theorem x_R.g19 (h : x_R G ad nR nD nK nG M T H) {g : Nat} {v : Int32} (hg : g < nG) (hU : z_U G (ad 3 g) (.inr (2, [.int (nI g), .int (M.2 15 g), .ref (ad 0 (M.2 16 g).toNatClampNeg), .int (M.2 17 g), .int (M.2 18 g), .int v])) H H') : x_R G ad nR nD nK nG (m_sA M 19 g v) T H' :=
  h.group hg (by simp only [x_group, m_sA_at, m_sA_arr (show (15 : Nat) ≠ 19 by decide), m_sA_arr (show (16 : Nat) ≠ 19 by decide), m_sA_arr (show (17 : Nat) ≠ 19 by decide), m_sA_arr (show (18 : Nat) ≠ 19 by decide)]; exact hU) rfl (fun j hj => m_sA_arr (by omega)) (fun j i hi => m_sA_ix hi)
theorem x_R.d8 (h : x_R G ad nR nD nK nG M T H) {d : Nat} {v : Int32} (hd : d < nD) (hv : ¬ v < 0) (hU : z_U G (ad 1 d) (.inr (1, [.int (nI d), .ref (ad 0 (M.2 3 d).toNatClampNeg), .ref (ad 0 (M.2 4 d).toNatClampNeg), .int (M.2 5 d), .int (x_bit (M.2 3 d) ||| x_bit (M.2 4 d)), .int (M.2 6 d), .int (M.2 7 d), .int (x_lb M d), .int 1, .int v])) H H') : x_R G ad nR nD nK nG (m_sA M 8 d v) T H' :=
  h.door hd (by
    have e : x_door ad (m_sA M 8 d v) d = .inr (1, [.int (nI d), .ref (ad 0 (M.2 3 d).toNatClampNeg), .ref (ad 0 (M.2 4 d).toNatClampNeg), .int (M.2 5 d), .int (x_bit (M.2 3 d) ||| x_bit (M.2 4 d)), .int (M.2 6 d), .int (M.2 7 d), .int (x_lb M d), .int 1, .int v]) := by
      have e1 : x_lb (m_sA M 8 d v) d = x_lb M d := by
        unfold x_lb; rw [x_lc_congr (m_sA_arr (show (6 : Nat) ≠ 8 by decide)), m_sA_arr (show (6 : Nat) ≠ 8 by decide)]
      have e2 : z_b (x_op (m_sA M 8 d v) d) = 1 := by unfold x_op; rw [m_sA_at]; simp [hv, z_b]
      have e3 : x_ot (m_sA M 8 d v) d = v := by unfold x_ot; rw [m_sA_at, if_neg hv]
      simp only [x_door, e1, e2, e3, m_sA_arr (show (3 : Nat) ≠ 8 by decide), m_sA_arr (show (4 : Nat) ≠ 8 by decide), m_sA_arr (show (5 : Nat) ≠ 8 by decide), m_sA_arr (show (6 : Nat) ≠ 8 by decide), m_sA_arr (show (7 : Nat) ≠ 8 by decide)]
    rw [e]; exact hU) rfl (fun j hj => m_sA_arr hj) (fun j i hi => m_sA_ix hi)
/-- a key comes to a place: z a -/
theorem x_R.put (h : x_R G ad nR nD nK nG M T H) {k : Nat} {z a t : Int32} (hk : k < nK) (hU : z_U G (ad 2 k) (.inr (3, [.int (nI k), .int (M.2 10 k), va_rf (if z = 0 then some (ad 0 a.toNatClampNeg) else none), .int t, va_rf (if z = 1 then some (ad 3 a.toNatClampNeg) else none), va_rf (if z = 2 then some (ad 1 a.toNatClampNeg) else none)])) H H') : x_R G ad nR nD nK nG (m_sA (m_sA (m_sA M 11 k z) 12 k a) 13 k t) T H' :=
  h.key hk (by
    simp only [x_key, x_kr, x_kh, x_ku, m_sA_at, m_sA_arr (show (10 : Nat) ≠ 13 by decide), m_sA_arr (show (11 : Nat) ≠ 13 by decide), m_sA_arr (show (12 : Nat) ≠ 13 by decide), m_sA_arr (show (10 : Nat) ≠ 12 by decide), m_sA_arr (show (11 : Nat) ≠ 12 by decide), m_sA_arr (show (10 : Nat) ≠ 11 by decide)]
    exact hU) rfl (fun j hj => by rw [m_sA_arr (by omega), m_sA_arr (by omega), m_sA_arr (by omega)]) (fun j i hi => by rw [m_sA_ix hi, m_sA_ix hi, m_sA_ix hi])
theorem m_sA_self {M : m_S} {k i : Nat} : m_sA M k i (M.2 k i) = M := by
  refine Prod.ext rfl (funext fun j => ?_)
  show (if j = k then upd (M.2 k) i (M.2 k i) else M.2 j) = M.2 j
  by_cases e : j = k
  · subst e
    rw [if_pos rfl]
    funext q
    unfold upd
    by_cases e2 : q = i
    · rw [if_pos e2, e2]
    · rw [if_neg e2]
  · rw [if_neg e]
theorem x_R.put0 (h : x_R G ad nR nD nK nG M T H) {k : Nat} {z a : Int32} (hk : k < nK) (hU : z_U G (ad 2 k) (.inr (3, [.int (nI k), .int (M.2 10 k), va_rf (if z = 0 then some (ad 0 a.toNatClampNeg) else none), .int (M.2 13 k), va_rf (if z = 1 then some (ad 3 a.toNatClampNeg) else none), va_rf (if z = 2 then some (ad 1 a.toNatClampNeg) else none)])) H H') : x_R G ad nR nD nK nG (m_sA (m_sA M 11 k z) 12 k a) T H' := by
  have h2 := h.put (t := M.2 13 k) hk hU
  have e : m_sA (m_sA (m_sA M 11 k z) 12 k a) 13 k (M.2 13 k) = m_sA (m_sA M 11 k z) 12 k a := by
    have e1 : M.2 13 k = (m_sA (m_sA M 11 k z) 12 k a).2 13 k := by rw [m_sA_arr (by omega), m_sA_arr (by omega)]
    rw [e1]; exact m_sA_self
  rw [e] at h2; exact h2
theorem x_R.put1 (h : x_R G ad nR nD nK nG M T H) {k : Nat} {a : Int32} (hk : k < nK) (hz : M.2 11 k = 1) (hU : z_U G (ad 2 k) (.inr (3, [.int (nI k), .int (M.2 10 k), va_rf none, .int (M.2 13 k), .ref (ad 3 a.toNatClampNeg), va_rf none])) H H') : x_R G ad nR nD nK nG (m_sA M 12 k a) T H' := by
  have h2 := h.put0 (z := 1) (a := a) hk hU
  have e : m_sA M 11 k 1 = M := by rw [← hz]; exact m_sA_self
  rw [e] at h2; exact h2
/-- at its room -/
theorem x_isAt (hI : m_I nR nD nK nG M) (h : x_inj ad nR nD nK nG) {g : Nat} {d : Int32} (hg : g < nG) (hd : d.toNatClampNeg < nD) : (decide (ad 0 (M.2 16 g).toNatClampNeg = ad 0 (M.2 3 d.toNatClampNeg).toNatClampNeg) || decide (ad 0 (M.2 16 g).toNatClampNeg = ad 0 (M.2 4 d.toNatClampNeg).toNatClampNeg)) = m_at M d (M.2 16 g) := by
  obtain ⟨r, hr, er⟩ := hI.room hg
  obtain ⟨lo, hi, hl, hh, el, eh⟩ := hI.lohi hd
  have := hI.1.1.2
  unfold m_at
  rw [er, el, eh, nI_clamp (by omega), nI_clamp (by omega), nI_clamp (by omega)]
  rw [show decide (ad 0 r = ad 0 lo) = decide (nI lo = nI r) from decide_eq_decide.mpr (by rw [x_ref0 h hr (by omega), nI_inj (by omega) (by omega)]; omega)]
  rw [show decide (ad 0 r = ad 0 hi) = decide (nI hi = nI r) from decide_eq_decide.mpr (by rw [x_ref0 h hr hh, nI_inj (by omega) (by omega)]; omega)]
theorem x_other (hI : m_I nR nD nK nG M) (h : x_inj ad nR nD nK nG) {g : Nat} {d : Int32} (hg : g < nG) (hd : d.toNatClampNeg < nD) (ha : m_at M d (M.2 16 g) = true) : (if ad 0 (M.2 16 g).toNatClampNeg = ad 0 (M.2 3 d.toNatClampNeg).toNatClampNeg then ad 0 (M.2 4 d.toNatClampNeg).toNatClampNeg else ad 0 (M.2 3 d.toNatClampNeg).toNatClampNeg) = ad 0 (M.2 3 d.toNatClampNeg + M.2 4 d.toNatClampNeg - M.2 16 g).toNatClampNeg := by
  obtain ⟨r, hr, er⟩ := hI.room hg
  obtain ⟨lo, hi, hl, hh, el, eh⟩ := hI.lohi hd
  have := hI.1.1.2
  unfold m_at at ha
  simp only [Bool.or_eq_true, decide_eq_true_eq] at ha
  rcases ha with q | q
  · rw [← q, if_pos rfl, z_otherL]
  · have hne : ¬ ad 0 (M.2 16 g).toNatClampNeg = ad 0 (M.2 3 d.toNatClampNeg).toNatClampNeg := by
      rw [← q, el, eh, nI_clamp (by omega), nI_clamp (by omega), x_ref0 h hh (by omega)]; omega
    rw [if_neg hne, ← q, Int32.add_comm, z_otherL]
theorem x_kr_iff (hI : m_I nR nD nK nG M) (h : x_inj ad nR nD nK nG) {g k : Nat} (hg : g < nG) (hk : k < nK) : x_kr ad M k = some (ad 0 (M.2 16 g).toNatClampNeg) ↔ M.2 11 k = 0 ∧ M.2 12 k = M.2 16 g := by
  obtain ⟨r, hr, er⟩ := hI.room hg
  have := hI.1.1.2
  unfold x_kr
  rw [er, nI_clamp (by omega)]
  by_cases q : M.2 11 k = 0
  · rcases (hI.2.2.2.1 k hk).2.1 with ⟨z, x, hx, e⟩ | ⟨z, -⟩ | ⟨z, -⟩
    · rw [if_pos q, e, nI_clamp (by omega), nI_inj (by omega) (by omega)]
      exact ⟨fun w => ⟨q, (x_ref0 h hx hr).mp (Option.some.inj w)⟩, fun w => by rw [w.2]⟩
    · rw [q] at z; exact absurd z (by decide)
    · rw [q] at z; exact absurd z (by decide)
  · rw [if_neg q]
    simp [q]
theorem x_ex_iff (hI : m_I nR nD nK nG M) (h : x_inj ad nR nD nK nG) {g : Nat} (hg : g < nG) : some (ad 0 (M.2 16 g).toNatClampNeg) = x_ex ad M ↔ M.2 16 g = M.1 1 := by
  obtain ⟨r, hr, er⟩ := hI.room hg
  have := hI.1.1.2
  unfold x_ex
  rw [er, nI_clamp (by omega)]
  rcases hI.2.1 with q | ⟨x, hx, e⟩
  · rw [q, if_pos (by decide)]
    refine ⟨fun z => (by cases z), fun z => ?_⟩
    have h1 : (nI r).toInt = (-6 : Int32).toInt := by rw [z]
    rw [nI_toInt (by omega)] at h1
    have h2 : (-6 : Int32).toInt = -6 := rfl
    omega
  · rw [e, if_neg (nI_pos (by omega)), nI_clamp (by omega), nI_inj (by omega) (by omega)]
    exact ⟨fun w => (x_ref0 h hr hx).mp (Option.some.inj w), fun w => by rw [w]⟩
theorem x_room_iff (hI : m_I nR nD nK nG M) (h : x_inj ad nR nD nK nG) {g o : Nat} (hg : g < nG) (ho : o < nG) : ad 0 (M.2 16 g).toNatClampNeg = ad 0 (M.2 16 o).toNatClampNeg ↔ M.2 16 g = M.2 16 o := by
  obtain ⟨r, hr, er⟩ := hI.room hg
  obtain ⟨r2, hr2, er2⟩ := hI.room ho
  have := hI.1.1.2
  rw [er, er2, nI_clamp (by omega), nI_clamp (by omega), x_ref0 h hr hr2, nI_inj (by omega) (by omega)]
end XPUT
section XPUT2
variable {G : z_G} {ad : Nat → Nat → Nat} {nR nD nK nG : Nat} {M : m_S} {T : x_T} {H H' : Heap}
theorem x_lc_S {k : Nat} {v : Int32} {n : Nat} : x_lc (m_sS M k v) n = x_lc M n := x_lc_congr (M := M) (M' := m_sS M k v) rfl n
theorem x_R.o1 (h : x_R G ad nR nD nK nG M T H) {r : Int32} (hr : ¬ r < 0) (hU : z_U G (ad 4 0) (.inr (6, [.ref (ad 4 1), .ref (ad 4 2), .ref (ad 4 3), .ref (ad 4 4), .ref (ad 4 9), .ref (ad 0 r.toNatClampNeg), .int (nI (x_lc M nD)), .int (M.1 20), .int (M.1 21), .int (T.2.2.1 4)])) H H') : x_R G ad nR nD nK nG (m_sS M 1 r) T H' :=
  h.obj (T' := T) (by
    have e : x_ex ad (m_sS M 1 r) = some (ad 0 r.toNatClampNeg) := by unfold x_ex; rw [m_sS1]; simp [hr]
    simp only [x_obj, e, x_lc_S, m_sS1]; exact hU) rfl rfl rfl (fun _ _ => rfl) rfl
theorem x_ex_S {k : Nat} {v : Int32} (hk : k ≠ 1) : x_ex ad (m_sS M k v) = x_ex ad M := by
  have e : (m_sS M k v).1 1 = M.1 1 := by rw [m_sS1]; exact if_neg (fun e => hk e.symm)
  unfold x_ex; rw [e]
theorem x_R.o20 (h : x_R G ad nR nD nK nG M T H) {b : Int32} (hU : z_U G (ad 4 0) (.inr (6, [.ref (ad 4 1), .ref (ad 4 2), .ref (ad 4 3), .ref (ad 4 4), .ref (ad 4 9), va_rf (x_ex ad M), .int (nI (x_lc M nD)), .int b, .int (M.1 21), .int (T.2.2.1 4)])) H H') : x_R G ad nR nD nK nG (m_sS M 20 b) T H' :=
  h.obj (T' := T) (by simp only [x_obj, x_ex_S (show (20 : Nat) ≠ 1 by decide), x_lc_S, m_sS1]; exact hU) rfl rfl rfl (fun _ _ => rfl) rfl
theorem x_R.o21 (h : x_R G ad nR nD nK nG M T H) {b : Int32} (hU : z_U G (ad 4 0) (.inr (6, [.ref (ad 4 1), .ref (ad 4 2), .ref (ad 4 3), .ref (ad 4 4), .ref (ad 4 9), va_rf (x_ex ad M), .int (nI (x_lc M nD)), .int (M.1 20), .int b, .int (T.2.2.1 4)])) H H') : x_R G ad nR nD nK nG (m_sS M 21 b) T H' :=
  h.obj (T' := T) (by simp only [x_obj, x_ex_S (show (21 : Nat) ≠ 1 by decide), x_lc_S, m_sS1]; exact hU) rfl rfl rfl (fun _ _ => rfl) rfl
theorem x_ot_eq {d : Nat} (h : x_op M d = true) : x_ot M d = M.2 8 d := by
  unfold x_op at h; unfold x_ot
  rw [if_neg (by simpa using h)]
theorem x_op_t {d : Nat} (h : x_op M d = true) : ¬ M.2 8 d < 0 := by unfold x_op at h; simpa using h
theorem x_op_f {d : Nat} (h : x_op M d = false) : M.2 8 d < 0 := by unfold x_op at h; simpa using h
end XPUT2

