/-! one pass over the doors, and passes until nothing comes: what both sides do -/
def r_S (nD : Nat) (lo hi : Nat → Nat) (op : Nat → Bool) (S : Nat → Prop) (y : Int32) : Prop := (∀ r, S r → tb y r = true) ∧ ∀ r, tb y r = true → g_R nD lo hi op S r
def r_O (nD : Nat) (lo hi : Nat → Nat) (op : Nat → Bool) (S : Nat → Prop) (x : Int32) (mo : Bool) : Prop := r_S nD lo hi op S x ∧ (mo = false → ∀ d, d < nD → op d = true → tb x (lo d) = tb x (hi d))
def r_I (nD : Nat) (lo hi : Nat → Nat) (op : Nat → Bool) (S : Nat → Prop) (x : Int32) (i : Nat) (y : Int32) (mi : Bool) : Prop :=
  r_S nD lo hi op S y ∧ (∀ q, tb x q = true → tb y q = true) ∧ (mi = false → y = x ∧ ∀ d, d < i → op d = true → tb x (lo d) = tb x (hi d)) ∧ (mi = true → g_miss y 12 < g_miss x 12)
section RR
variable {nD : Nat} {lo hi : Nat → Nat} {op : Nat → Bool} {S : Nat → Prop} {x y : Int32} {i : Nat} {mi mo : Bool}
theorem r_I.zero (h : r_O nD lo hi op S x mo) : r_I nD lo hi op S x 0 x false := ⟨h.1, fun _ q => q, fun _ => ⟨rfl, fun d hd => absurd hd (by omega)⟩, fun q => by cases q⟩
theorem r_I.skip (h : r_I nD lo hi op S x i y mi) (ho : op i = false) : r_I nD lo hi op S x (i + 1) y mi := by
  refine ⟨h.1, h.2.1, fun q => ⟨(h.2.2.1 q).1, fun d hd hod => ?_⟩, h.2.2.2⟩
  by_cases e : d = i
  · subst e; rw [ho] at hod; cases hod
  · exact (h.2.2.1 q).2 d (by omega) hod
theorem r_I.same (h : r_I nD lo hi op S x i y mi) (hs : tb y (lo i) = tb y (hi i)) : r_I nD lo hi op S x (i + 1) y mi := by
  refine ⟨h.1, h.2.1, fun q => ⟨(h.2.2.1 q).1, fun d hd hod => ?_⟩, h.2.2.2⟩
  by_cases e : d = i
  · subst e; rw [← (h.2.2.1 q).1]; exact hs
  · exact (h.2.2.1 q).2 d (by omega) hod
theorem r_I.cross (h : r_I nD lo hi op S x i y mi) (hi2 : i < nD) (hl : lo i < 12) (hh : hi i < 12) (ho : op i = true) (hne : tb y (lo i) ≠ tb y (hi i)) : r_I nD lo hi op S x (i + 1) (y ||| (x_bit (nI (lo i)) ||| x_bit (nI (hi i)))) true := by
  obtain ⟨c1, c2, k, hk, c3, c4⟩ := g_R_cross hi2 (by omega) (by omega) ho hne h.1.2
  refine ⟨⟨fun r hr => c2 r (h.1.1 r hr), c1⟩, fun q hq => c2 q (h.2.1 q hq), (fun q => by cases q), fun _ => ?_⟩
  have h1 := g_miss_lt c2 c3 c4 12 (by omega)
  have h2 := g_miss_mono h.2.1 12
  omega
theorem r_I.out (h : r_I nD lo hi op S x nD y mi) : r_O nD lo hi op S y mi := ⟨h.1, fun q d hd ho => by rw [(h.2.2.1 q).1]; exact (h.2.2.1 q).2 d hd ho⟩
def r_mu (q : Int32 × Bool) : Nat := 2 * g_miss q.1 12 + (if q.2 = true then 1 else 0)
theorem r_I.mu (h : r_I nD lo hi op S x nD y mi) : r_mu (y, mi) < r_mu (x, true) := by
  unfold r_mu
  cases mi with
  | true => have := h.2.2.2 rfl; simp; omega
  | false => rw [(h.2.2.1 rfl).1]; simp
theorem r_O.done (h : r_O nD lo hi op S x false) : x = g_bits (g_R nD lo hi op S) 32 := g_R_done h.1.1 (h.2 rfl) h.1.2
end RR
def m_lo (M : m_S) (d : Nat) : Nat := (M.2 3 d).toNatClampNeg
def m_hi (M : m_S) (d : Nat) : Nat := (M.2 4 d).toNatClampNeg
/-- what can be reached in the state M -/
def m_Rch (M : m_S) (nD : Nat) (op : Nat → Bool) (S : Nat → Prop) : Nat → Prop := g_R nD (m_lo M) (m_hi M) op S
def m_opS (M : m_S) (st : Int32) (d : Nat) : Bool := !(decide (M.2 8 d < 0)) || m_has st (nI d)
theorem m_lo12 {nR nD nK nG : Nat} {M : m_S} (h : m_I nR nD nK nG M) {d : Nat} (hd : d < nD) : m_lo M d < nR := h.lo hd
theorem m_hi12 {nR nD nK nG : Nat} {M : m_S} (h : m_I nR nD nK nG M) {d : Nat} (hd : d < nD) : m_hi M d < nR := h.hi hd
theorem m_lohi_ne {nR nD nK nG : Nat} {M : m_S} (h : m_I nR nD nK nG M) {d : Nat} (hd : d < nD) : m_lo M d ≠ m_hi M d := by
  obtain ⟨lo, hi, h1, h2, e1, e2⟩ := h.lohi hd
  have := h.1.1.2
  unfold m_lo m_hi
  rw [e1, e2, nI_clamp (by omega), nI_clamp (by omega)]; omega
theorem m_hasL {nR nD nK nG : Nat} {M : m_S} (h : m_I nR nD nK nG M) {d : Nat} (hd : d < nD) (y : Int32) : m_has y (M.2 3 d) = tb y (m_lo M d) := by
  obtain ⟨lo, hi, h1, h2, e1, e2⟩ := h.lohi hd
  have := h.1.1.2
  unfold m_lo
  rw [e1, nI_clamp (by omega), m_has_tb (by omega)]
theorem m_hasH {nR nD nK nG : Nat} {M : m_S} (h : m_I nR nD nK nG M) {d : Nat} (hd : d < nD) (y : Int32) : m_has y (M.2 4 d) = tb y (m_hi M d) := by
  obtain ⟨lo, hi, h1, h2, e1, e2⟩ := h.lohi hd
  have := h.1.1.2
  unfold m_hi
  rw [e2, nI_clamp (by omega), m_has_tb (by omega)]
theorem m_bitL {nR nD nK nG : Nat} {M : m_S} (h : m_I nR nD nK nG M) {d : Nat} (hd : d < nD) : x_bit (M.2 3 d) = x_bit (nI (m_lo M d)) := by
  obtain ⟨lo, hi, h1, h2, e1, e2⟩ := h.lohi hd
  have := h.1.1.2
  unfold m_lo
  rw [e1, nI_clamp (by omega)]
theorem m_bitH {nR nD nK nG : Nat} {M : m_S} (h : m_I nR nD nK nG M) {d : Nat} (hd : d < nD) : x_bit (M.2 4 d) = x_bit (nI (m_hi M d)) := by
  obtain ⟨lo, hi, h1, h2, e1, e2⟩ := h.lohi hd
  have := h.1.1.2
  unfold m_hi
  rw [e2, nI_clamp (by omega)]

