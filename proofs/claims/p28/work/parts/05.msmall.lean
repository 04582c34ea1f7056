theorem m_ff_step {p : Nat → Bool} {n i : Nat} (h : i < n) (hp : p i = false) : m_ff p (n - i) i = m_ff p (n - (i + 1)) (i + 1) := by
  have e2 : n - i = (n - (i + 1)) + 1 := by omega
  rw [e2]; simp [m_ff, hp]
theorem m_ff_hit {p : Nat → Bool} {n i : Nat} (h : i < n) (hp : p i = true) : m_ff p (n - i) i = nI i := by
  have e2 : n - i = (n - (i + 1)) + 1 := by omega
  rw [e2]; simp [m_ff, hp]
theorem z_loopI {p : Program} {l : Launch} {e : Env} {R : Room} {s : State} {m : MethodId} {args : Array Value} {below : List Frame} {meth : Method} {c : Code} {A : Nat → Prop} {n cells slots : Nat} {Q : State → Prop} {H : Heap} {pc : Nat} {L : List (Nat × Value)} {st : List Value} (I : Nat → Prop) (h0 : I 0) (Lf : Nat → List (Nat × Value)) (n0 : Nat) (hL : z_all (Lf 0) L)
    (h : ∀ i, i ≤ n0 → I i → (i < n0 → I (i + 1) → ∀ L', z_all (Lf (i + 1)) L' → z_Z p l e R s m args below meth c A n cells slots Q H pc L' st) → z_Z p l e R s m args below meth c A n cells slots Q H pc (Lf i) st) : z_Z p l e R s m args below meth c A n cells slots Q H pc L st := by
  have key : ∀ j i, i + j = n0 → I i → z_Z p l e R s m args below meth c A n cells slots Q H pc (Lf i) st := by
    intro j
    induction j with
    | zero => intro i hi hI; exact h i (by omega) hI (fun q => absurd q (by omega))
    | succ j ih => intro i hi hI; exact h i (by omega) hI (fun _ hI2 L' hL' => z_sub _ hL' (ih (i + 1) (by omega) hI2))
  exact z_sub _ hL (key n0 0 (by omega) h0)
theorem m_ff_range {p : Nat → Bool} : ∀ {f i : Nat}, m_ff p f i = -6 ∨ ∃ j, i ≤ j ∧ j < i + f ∧ p j = true ∧ m_ff p f i = nI j
  | 0, i => Or.inl rfl
  | f + 1, i => by
    cases hp : p i with
    | true => exact Or.inr ⟨i, Nat.le_refl _, by omega, hp, by simp [m_ff, hp]⟩
    | false =>
      have e : m_ff p (f + 1) i = m_ff p f (i + 1) := by simp [m_ff, hp]
      rw [e]
      rcases m_ff_range (p := p) (f := f) (i := i + 1) with h | ⟨j, h1, h2, h3, h4⟩
      · exact Or.inl h
      · exact Or.inr ⟨j, by omega, by omega, h3, h4⟩
theorem m_kf_in {M : m_S} {nK : Nat} {g c0 : Int32} (hK : nK ≤ 16) (h : ¬ m_kf M nK g c0 < 0) : ∃ k, k < nK ∧ m_ho M g (nI k) = true ∧ M.2 10 k = c0 ∧ m_kf M nK g c0 = nI k := by
  rcases m_ff_range (p := fun k => m_ho M g (nI k) && decide (M.2 10 k = c0)) (f := nK) (i := 0) with h1 | ⟨j, -, h2, h3, h4⟩
  · exact absurd (by show m_ff _ nK 0 < 0; rw [h1]; decide) h
  · have h5 : m_ho M g (nI j) = true ∧ M.2 10 j = c0 := by simpa using h3
    exact ⟨j, by omega, h5.1, h5.2, h4⟩
theorem m_kf_vp {M : m_S} {nK : Nat} {g c0 : Int32} (hK : nK ≤ 16) (h : ¬ m_kf M nK g c0 < 0) : vp_in (m_kf M nK g c0) 16 := by
  obtain ⟨k, h1, -, -, h4⟩ := m_kf_in hK h
  rw [h4]; exact vp_in_nI (by omega) (by decide)
theorem m_in01 {w : Int32} (h : m_in w 0 1 = true) (h0 : ¬ w = 0) : w = 1 := by
  have h1 : ¬ w < 0 ∧ ¬ 1 < w := by
    unfold m_in at h
    by_cases c1 : w < 0 <;> by_cases c2 : 1 < w <;> simp [c1, c2] at h ⊢
  have h2 : w.toInt ≠ 0 := fun q => h0 (Int32.toInt_inj.mp q)
  rw [Int32.lt_iff_toInt_lt, Int32.lt_iff_toInt_lt] at h1
  have e0 : (0 : Int32).toInt = 0 := rfl
  have e1 : (1 : Int32).toInt = 1 := rfl
  exact Int32.toInt_inj.mp (by omega)
theorem m_over1 {M : m_S} {g o : Int32} : ∀ n, (m_over (m_join M g o) g o n).1 = M.1
  | 0 => rfl
  | n + 1 => m_over1 n
