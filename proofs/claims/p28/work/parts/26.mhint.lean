section HINT
variable {nR nD nK nG r0 : Nat} {M M2 : m_S} {g : Int32}
theorem k_kept.no (h : k_kept M nD nK g M2) (hx : M2.1 28 < 0) : k_best M nD nK g = none := by
  rcases h.2 with ⟨-, q⟩ | ⟨p, -, e, -, -, hc, -⟩
  · exact q
  · rw [e] at hx; exact absurd hx (nI_pos (by omega))
theorem k_kept.yes (h : k_kept M nD nK g M2) (hx : ¬ M2.1 28 < 0) : ∃ p, k_best M nD nK g = some p ∧ M2.1 28 = nI (p_cost (k_u M) p) ∧ M2.1 29 = nI p.length ∧ p.length ≤ 10 ∧ p_cost (k_u M) p < 2 ^ 20 ∧ ∀ i, i < p.length → M2.2 30 i = nI (p_at p i) := by
  rcases h.2 with ⟨e, -⟩ | q
  · rw [e] at hx; exact absurd (by decide) hx
  · exact q
theorem m_Q.lo (hQ : m_Q M M2) : m_lo M2 = m_lo M := by funext d; unfold m_lo; rw [hQ.2 3 (by decide)]
theorem m_Q.hi (hQ : m_Q M M2) : m_hi M2 = m_hi M := by funext d; unfold m_hi; rw [hQ.2 4 (by decide)]
theorem m_Q.op (hQ : m_Q M M2) : x_op M2 = x_op M := by funext d; unfold x_op; rw [hQ.2 8 (by decide)]
theorem m_Q.kR (hQ : m_Q M M2) : k_R M2 nD r0 = k_R M nD r0 := by
  funext S
  unfold k_R m_Rch
  rw [hQ.lo, hQ.hi, hQ.op]
theorem m_Q.best (hQ : m_Q M M2) : k_best M2 nD nK g = k_best M nD nK g := by
  have e0 : m_r0 M2 g = m_r0 M g := by unfold m_r0; rw [hQ.2 16 (by decide)]
  have e1 : k_cA M2 nD nK (m_r0 M g) g = k_cA M nD nK (m_r0 M g) g := by
    funext S d
    unfold k_cA k_used k_keys
    rw [hQ.op, hQ.kR, hQ.lo, hQ.hi, hQ.2 6 (by decide), hQ.2 10 (by decide)]
    simp only [k_near_Q hQ]
  have e2 : k_esc M2 nD (m_r0 M g) = k_esc M nD (m_r0 M g) := by
    funext S
    unfold k_esc
    rw [hQ.kR, hQ.1 1 (by decide)]
  have e3 : k_u M2 = k_u M := by funext d; unfold k_u; rw [hQ.2 7 (by decide)]
  unfold k_best
  rw [e0, e1, e2, e3]
noncomputable def F_plan (M : m_S) (nD nK : Nat) (g w : Int32) : Int32 := if m_no g (M.1 14) then -1 else if !(m_in w 0 1) then -2 else if !(m_pl M g) then -4 else
  match k_best M nD nK g with
  | none => -6
  | some p => if w = 0 then nI (p_cost (k_u M) p) else nI p.length
noncomputable def F_planned (M : m_S) (nD nK : Nat) (g x : Int32) : Int32 := if m_no g (M.1 14) then -1 else if x < 0 then -2 else if !(m_pl M g) then -4 else
  match k_best M nD nK g with
  | none => -6
  | some p => if x < nI p.length then nI (p_at p x.toNatClampNeg) else -6
def F_ht (M : m_S) (g : Int32) : Int32 := M.2 17 g.toNatClampNeg + M.1 20 + M.1 21 * M.2 18 g.toNatClampNeg
def m_hS (M : m_S) (g : Int32) : m_S := m_sA (m_sA M 17 g.toNatClampNeg (F_ht M g)) 18 g.toNatClampNeg (M.2 18 g.toNatClampNeg + 1)
noncomputable def F_hint (M : m_S) (nD nK : Nat) (g : Int32) : Int32 × m_S := if m_no g (M.1 14) then (-1, M) else if !(m_pl M g) then (-4, M) else if 100000 < F_ht M g then (-5, M) else
  (match k_best (m_hS M g) nD nK g with
  | none => 17
  | some p => if p.length = 0 then 16 else nI (p_at p 0), m_hS M g)
noncomputable def F_dead (M : m_S) (nD nK nG : Nat) : Int32 := m_cnt (fun g => m_pl M (nI g) && (k_best M nD nK (nI g)).isNone) nG
/-- the hints taken: none is lost but in groups that joined others, which give theirs on -/
def m_Hn (M : m_S) (nG n : Nat) : Prop := ∃ h : Nat → Nat, (∀ g, g < nG → M.2 18 g = nI (h g)) ∧ k_s (fun g => if M.2 19 g = 2 then 0 else h g) nG = n
theorem k_s_get {f : Nat → Nat} : ∀ {n i : Nat}, i < n → f i ≤ k_s f n
  | 0, _, h => absurd h (by omega)
  | n + 1, i, h => by
    unfold k_s
    by_cases e : i = n
    · subst e; omega
    · have := k_s_get (f := f) (n := n) (i := i) (by omega)
      omega
theorem m_Hn.get {n : Nat} (h : m_Hn M nG n) {i : Nat} (hi : i < nG) (hp : M.2 19 i ≠ 2) : ∃ k, k ≤ n ∧ M.2 18 i = nI k := by
  obtain ⟨f, h1, h2⟩ := h
  refine ⟨f i, ?_, h1 i hi⟩
  have := k_s_get (f := fun g => if M.2 19 g = 2 then 0 else f g) hi
  simp only [if_neg hp] at this
  omega
theorem nI_mulN (a b : Nat) : nI a * nI b = nI (a * b) := by
  apply Int32.toBitVec_inj.mp
  show BitVec.ofNat 32 a * BitVec.ofNat 32 b = BitVec.ofNat 32 (a * b)
  rw [BitVec.ofNat_mul]
theorem F_ht_nI (hI : m_I nR nD nK nG M) {n : Nat} (hH : m_Hn M nG n) (hn : n ≤ 100000) (hg : g.toNatClampNeg < nG) (hp : m_pl M g = true) : ∃ t, t < 2 ^ 31 ∧ F_ht M g = nI t := by
  have hp0 := m_pl_iff.mp hp
  obtain ⟨k, hk, e18⟩ := hH.get hg (by rw [hp0]; decide)
  obtain ⟨t, ht, e17⟩ := hI.time hg
  obtain ⟨b, b1, b2, e20⟩ := hI.2.2.2.2.2.2.1
  obtain ⟨c, c1, e21⟩ := hI.2.2.2.2.2.2.2
  refine ⟨t + b + c * k, ?_, ?_⟩
  · have := Nat.mul_le_mul c1 hk
    omega
  · unfold F_ht
    rw [e17, e18, e20, e21, nI_mulN, nI_add, nI_add]
theorem m_I_hS (hI : m_I nR nD nK nG M) {n : Nat} (hH : m_Hn M nG n) (hn : n ≤ 100000) (hg : g.toNatClampNeg < nG) (hp : m_pl M g = true) (hl : ¬ 100000 < F_ht M g) : m_I nR nD nK nG (m_hS M g) := by
  obtain ⟨t, ht, e⟩ := F_ht_nI hI hH hn hg hp
  unfold m_hS
  rw [e] at hl ⊢
  exact (hI.g17 hg (m_le_last ht hl)).g18 hg
end HINT
noncomputable def F_count (M : m_S) (nD nK nG : Nat) (w : Int32) : Int32 :=
  if w = 0 then M.1 0 else if w = 1 then M.1 2 else if w = 2 then M.1 9 else if w = 3 then M.1 14 else if w = 4 then M.1 1 else if w = 5 then m_unl M nD else if w = 6 then m_sizes M nG 1 else if w = 7 then m_sizes M nG 0 else if w = 8 then m_late M nG else if w = 9 then m_hints M nG else if w = 10 then F_dead M nD nK nG else -2

