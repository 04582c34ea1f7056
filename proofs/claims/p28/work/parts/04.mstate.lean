/-! The reference's state: numbers by the slots of its fields, rows of numbers by the slots of its arrays. -/
abbrev m_S : Type := (Nat → Int32) × (Nat → Nat → Int32)
def m_sS (M : m_S) (k : Nat) (v : Int32) : m_S := (upd M.1 k v, M.2)
def m_sA (M : m_S) (k i : Nat) (v : Int32) : m_S := (M.1, fun j => if j = k then upd (M.2 k) i v else M.2 j)
theorem m_sA1 (M : m_S) (k i : Nat) (v : Int32) : (m_sA M k i v).1 = M.1 := rfl
theorem m_sS2 (M : m_S) (k : Nat) (v : Int32) : (m_sS M k v).2 = M.2 := rfl
theorem m_sS1 (M : m_S) (k j : Nat) (v : Int32) : (m_sS M k v).1 j = if j = k then v else M.1 j := rfl
theorem m_sA2 (M : m_S) (k i j q : Nat) (v : Int32) : (m_sA M k i v).2 j q = if j = k then (if q = i then v else M.2 k q) else M.2 j q := by
  show (if j = k then upd (M.2 k) i v else M.2 j) q = _
  by_cases h : j = k
  · simp [h, upd]
  · simp [h]
theorem m_sA2r (M : m_S) (k i j : Nat) (v : Int32) : (m_sA M k i v).2 j = if j = k then upd (M.2 k) i v else M.2 j := rfl
def m_isS (k : Nat) : Bool := [0, 1, 2, 9, 14, 20, 21, 22, 28, 29].contains k
def m_isI (k : Nat) : Bool := [3, 4, 5, 6, 7, 8, 10, 11, 12, 13, 15, 16, 17, 18, 19, 23, 24, 25, 30, 31].contains k
def m_isZ (k : Nat) : Bool := [26, 27].contains k
def m_is (k : Nat) : Bool := Nat.beq k 0 || m_isI k || m_isZ k
def m_len (k : Nat) : Nat := if k ≤ 13 then 16 else if k ≤ 19 then 6 else if k = 23 then 10 else if k = 30 then 10 else if k = 31 then 12 else 1024
def m_fs (M : m_S) (ad : Nat → Nat) : List Value := [.int (M.1 0), .int (M.1 1), .int (M.1 2), .ref (ad 3), .ref (ad 4), .ref (ad 5), .ref (ad 6), .ref (ad 7), .ref (ad 8), .int (M.1 9), .ref (ad 10), .ref (ad 11), .ref (ad 12), .ref (ad 13), .int (M.1 14), .ref (ad 15), .ref (ad 16), .ref (ad 17), .ref (ad 18), .ref (ad 19), .int (M.1 20), .int (M.1 21), .int (M.1 22), .ref (ad 23), .ref (ad 24), .ref (ad 25), .ref (ad 26), .ref (ad 27), .int (M.1 28), .int (M.1 29), .ref (ad 30), .ref (ad 31)]
/-- the reference's cells hold the state M: its object at ad 0, its arrays at ad k -/
def m_R (G : z_G) (ad : Nat → Nat) (M : m_S) (H : Heap) : Prop :=
  va_at G.1 vwCl (ad 0, .inr (7, m_fs M ad)) H ∧ (∀ k, m_isI k = true → va_at G.1 vwCl (ad k, .inl (G.2 0, m_len k, .inl (M.2 k))) H) ∧ (∀ k, m_isZ k = true → va_at G.1 vwCl (ad k, .inl (G.2 2, m_len k, .inl (M.2 k))) H) ∧ ∀ j k, m_is j = true → m_is k = true → ad j = ad k → j = k
def m_A (ad : Nat → Nat) : Nat → Prop := fun q => ∃ k, m_is k = true ∧ q = ad k
theorem m_is_I {k : Nat} (h : m_isI k = true) : m_is k = true := by simp [m_is, h]
theorem m_is_Z {k : Nat} (h : m_isZ k = true) : m_is k = true := by simp [m_is, h]
theorem m_fs_set {M : m_S} {ad : Nat → Nat} {k : Nat} {v : Int32} (h : m_isS k = true) : (m_fs M ad).set k (.int v) = m_fs (m_sS M k v) ad := by
  simp [m_isS] at h
  rcases h with rfl | rfl | rfl | rfl | rfl | rfl | rfl | rfl | rfl | rfl <;> rfl
theorem m_R.sS {G : z_G} {ad : Nat → Nat} {M : m_S} {H H' : Heap} {k : Nat} {v : Int32} (h : m_R G ad M H) (hU : z_U G (ad 0) (.inr (7, (m_fs M ad).set k (.int v))) H H') (hk : m_isS k = true) : m_R G ad (m_sS M k v) H' := by
  refine ⟨?_, fun j hj => ?_, fun j hj => ?_, h.2.2.2⟩
  · rw [← m_fs_set hk]; exact hU.1
  · exact z_at_keep hU (h.2.1 j hj) (fun e => absurd (h.2.2.2 j 0 (m_is_I hj) rfl e) (by intro e2; subst e2; exact absurd hj (by decide)))
  · exact z_at_keep hU (h.2.2.1 j hj) (fun e => absurd (h.2.2.2 j 0 (m_is_Z hj) rfl e) (by intro e2; subst e2; exact absurd hj (by decide)))
theorem m_R.sI {G : z_G} {ad : Nat → Nat} {M : m_S} {H H' : Heap} {k i : Nat} {v : Int32} (h : m_R G ad M H) (hU : z_U G (ad k) (.inl (G.2 0, m_len k, .inl (upd (M.2 k) i v))) H H') (hk : m_isI k = true) : m_R G ad (m_sA M k i v) H' := by
  refine ⟨?_, fun j hj => ?_, fun j hj => ?_, h.2.2.2⟩
  · exact z_at_keep hU h.1 (fun e => absurd (h.2.2.2 0 k rfl (m_is_I hk) e) (by intro e2; subst e2; exact absurd hk (by decide)))
  · by_cases e : j = k
    · subst e
      have e2 : (m_sA M j i v).2 j = upd (M.2 j) i v := if_pos rfl
      rw [e2]; exact hU.1
    · have e2 : (m_sA M k i v).2 j = M.2 j := if_neg e
      rw [e2]; exact z_at_keep hU (h.2.1 j hj) (fun q => e (h.2.2.2 j k (m_is_I hj) (m_is_I hk) q))
  · have e : j ≠ k := by
      intro e; subst e
      simp [m_isI] at hk; simp [m_isZ] at hj; omega
    have e2 : (m_sA M k i v).2 j = M.2 j := if_neg e
    rw [e2]; exact z_at_keep hU (h.2.2.1 j hj) (fun q => e (h.2.2.2 j k (m_is_Z hj) (m_is_I hk) q))
theorem m_R.sZ {G : z_G} {ad : Nat → Nat} {M : m_S} {H H' : Heap} {k i : Nat} {v : Int32} (h : m_R G ad M H) (hU : z_U G (ad k) (.inl (G.2 2, m_len k, .inl (upd (M.2 k) i v))) H H') (hk : m_isZ k = true) : m_R G ad (m_sA M k i v) H' := by
  refine ⟨?_, fun j hj => ?_, fun j hj => ?_, h.2.2.2⟩
  · exact z_at_keep hU h.1 (fun e => absurd (h.2.2.2 0 k rfl (m_is_Z hk) e) (by intro e2; subst e2; exact absurd hk (by decide)))
  · have e : j ≠ k := by
      intro e; subst e
      simp [m_isI] at hj; simp [m_isZ] at hk; omega
    have e2 : (m_sA M k i v).2 j = M.2 j := if_neg e
    rw [e2]; exact z_at_keep hU (h.2.1 j hj) (fun q => e (h.2.2.2 j k (m_is_I hj) (m_is_Z hk) q))
  · by_cases e : j = k
    · subst e
      have e2 : (m_sA M j i v).2 j = upd (M.2 j) i v := if_pos rfl
      rw [e2]; exact hU.1
    · have e2 : (m_sA M k i v).2 j = M.2 j := if_neg e
      rw [e2]; exact z_at_keep hU (h.2.2.1 j hj) (fun q => e (h.2.2.2 j k (m_is_Z hj) (m_is_Z hk) q))
/-! what the reference's small methods answer -/
def m_in (v lo hi : Int32) : Bool := !(decide (v < lo)) && !(decide (hi < v))
def m_no (r n : Int32) : Bool := !(m_in r 0 (n - 1))

