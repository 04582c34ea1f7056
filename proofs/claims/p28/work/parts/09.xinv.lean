/-! what always holds of the state; rows of the lists -/
def m_I (nR nD nK nG : Nat) (M : m_S) : Prop :=
  m_N M nR nD nK nG ∧ (M.1 1 = -6 ∨ ∃ x, x < nR ∧ M.1 1 = nI x) ∧
  (∀ d, d < nD → (∃ lo hi, lo < hi ∧ hi < nR ∧ M.2 3 d = nI lo ∧ M.2 4 d = nI hi) ∧ (∃ w, 1 ≤ w ∧ w ≤ 30 ∧ M.2 5 d = nI w) ∧ ((M.2 6 d = -6 ∧ M.2 7 d = 0 ∧ M.2 8 d = 0) ∨ ((∃ x, x ≤ 5 ∧ M.2 6 d = nI x) ∧ (∃ u, 1 ≤ u ∧ u ≤ 60 ∧ M.2 7 d = nI u) ∧ (M.2 8 d = -6 ∨ ∃ t, t ≤ 100000 ∧ M.2 8 d = nI t)))) ∧
  (∀ k, k < nK → (∃ x, x ≤ 5 ∧ M.2 10 k = nI x) ∧ ((M.2 11 k = 0 ∧ ∃ r, r < nR ∧ M.2 12 k = nI r) ∨ (M.2 11 k = 1 ∧ ∃ g, g < nG ∧ M.2 12 k = nI g) ∨ (M.2 11 k = 2 ∧ ∃ d, d < nD ∧ M.2 12 k = nI d)) ∧ (∃ t, t ≤ 100000 ∧ M.2 13 k = nI t)) ∧
  (∀ g, g < nG → (∃ r, r < nR ∧ M.2 16 g = nI r) ∧ (∃ t, t ≤ 100000 ∧ M.2 17 g = nI t) ∧ (M.2 19 g = 0 ∨ M.2 19 g = 1 ∨ (M.2 19 g = 2 ∧ M.2 15 g = 0))) ∧
  x_lc M nD ≤ 10 ∧ (∃ b, 1 ≤ b ∧ b ≤ 30 ∧ M.1 20 = nI b) ∧ (∃ t, t ≤ 30 ∧ M.1 21 = nI t)
theorem m_no_eq {r : Int32} {n : Nat} (hn : n < 2 ^ 31) : m_no r (nI n) = !(!(decide (r < 0)) && decide (r < nI n)) := by
  cases h : m_no r (nI n) with
  | false =>
    obtain ⟨j, hj, rfl⟩ := (m_no_iff hn).mp h
    simp [nI_pos (n := j) (by omega), nI_lt hj hn]
  | true =>
    by_cases h1 : r < 0
    · simp [h1]
    · by_cases h2 : r < nI n
      · obtain ⟨j, hj, rfl⟩ := nI_of h1
        have h3 : j < n := (nI_ltI hj hn).mp h2
        rw [(m_no_iff hn).mpr ⟨j, h3, rfl⟩] at h
        cases h
      · simp [h1, h2]
theorem m_no_vp {r : Int32} {n : Nat} (hn : n < 2 ^ 31) (h : m_no r (nI n) = false) : vp_in r n := by
  obtain ⟨j, hj, rfl⟩ := (m_no_iff hn).mp h
  exact vp_in_nI hj hn
theorem x_L.obj {G : z_G} {aL aE n : Nat} {f : Nat → Nat} {H : Heap} (h : x_L G aL aE n f H) : ∃ fs, va_at G.1 vwCl (aL, .inr (0, fs)) H := by
  obtain ⟨mod, h1, -⟩ := h
  exact ⟨_, h1⟩
section KROWS
variable {p : Program} {l : Launch} {e : Env} {R : Room} {s : State} {m : MethodId} {args : Array Value} {below : List Frame} {meth : Method} {c : Code} {A : Nat → Prop} {n cells slots : Nat} {Q : State → Prop} {H : Heap} {pc : Nat} {L : List (Nat × Value)} {rest : List Value}
variable {cc : ByteArray} {own : String} {ret : Option FieldType} {nm : String} {G : z_G}
theorem k_size (C : z_C p s m args meth c cc own ret n nm G) {aL aE nn idx : Nat} {f : Nat → Nat} (hL : x_L G aL aE nn f H) (hlk : Cond.methodLink own idx yJx4a65c_size_8abf5 ∈ z_B) (hR : 1 ≤ R.frames ∧ 20 ≤ R.locals) (hf : cells ≤ R.cells ∧ slots ≤ R.slots) (hrest : (rest.map fun v => v.category).sum ≤ 8) (hdg : decode cc pc = .ok (.invokevirtual idx, 3))
    (kk : z_Z p l e R s m args below meth c A n cells slots Q H (pc + 3) L (.int (nI nn) :: rest)) : z_Z p l e R s m args below meth c A n cells slots Q H pc L (.ref aL :: rest) := by
  obtain ⟨fs, ho⟩ := hL.obj
  exact z_callVR (As := []) C (c_Jx4a65c_size_8abf5 _ _ aL aE nn f) kc_Jx4a65c_size_8abf5 hlk ⟨by omega, by omega⟩ ho rfl hL hf hrest hdg kk
theorem k_get (C : z_C p s m args meth c cc own ret n nm G) {aL aE nn idx j : Nat} {f : Nat → Nat} {x : Int32} (hL : x_L G aL aE nn f H) (hx : vp_in x nn) (hn : nn < 2 ^ 31) (hj : x.toNatClampNeg = j) (hlk : Cond.methodLink own idx yJx4a65c_get_915e3 ∈ z_B) (hR : 3 ≤ R.frames ∧ 81 ≤ R.locals) (hf : cells ≤ R.cells ∧ slots ≤ R.slots) (hrest : (rest.map fun v => v.category).sum ≤ 8) (hdg : decode cc pc = .ok (.invokevirtual idx, 3))
    (kk : z_Z p l e R s m args below meth c A n cells slots Q H (pc + 3) L (.ref (f j) :: rest)) : z_Z p l e R s m args below meth c A n cells slots Q H pc L (.int x :: .ref aL :: rest) := by
  subst hj
  obtain ⟨fs, ho⟩ := hL.obj
  exact z_callVR (As := [.int x]) C (c_Jx4a65c_get_915e3 _ _ aL aE nn f x hx hn) kc_Jx4a65c_get_915e3 hlk ⟨by omega, by omega⟩ ho rfl hL hf hrest hdg kk
end KROWS

