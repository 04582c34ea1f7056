/-! what a case of the law's loop leaves -/
def y_End (G : z_G) (b0 ax nR nD nK nG i : Nat) (bs st : Int32) (H : Heap) : Prop := ∃ (M' : m_S) (t4 : Int32) (nD2 nK2 nG2 n2 : Nat), y_S G b0 ax nR nD2 nK2 nG2 M' t4 H ∧ m_I nR nD2 nK2 nG2 M' ∧ y_J nD2 nK2 nG2 M' ∧ m_Hn M' nG2 n2 ∧ t4 = nI n2 ∧ n2 ≤ i + 1 ∧ nD ≤ nD2 ∧ nK ≤ nK2 ∧ nG ≤ nG2 ∧ M'.1 20 = bs ∧ M'.1 21 = st
theorem y_End.g {G : z_G} {b0 ax nR nD nK nG i nR2 nD2 nK2 nG2 : Nat} {bs st : Int32} {M' : m_S} {t4 : Int32} {H : Heap} (hS : y_S G b0 ax nR2 nD2 nK2 nG2 M' t4 H) (hI2 : m_I nR2 nD2 nK2 nG2 M') (hN : y_Nx nR nD nK nG M') (hH : ∀ a b c d, m_I a b c d M' → ∃ n1, n1 ≤ i + 1 ∧ m_Hn M' d n1 ∧ t4 = nI n1) (h20 : M'.1 20 = bs) (h21 : M'.1 21 = st) : y_End G b0 ax nR nD nK nG i bs st H := by
  obtain ⟨h1, rfl, h2, h3, h4⟩ := hN _ _ _ _ hI2
  obtain ⟨n1, g1, g2, g3⟩ := hH _ _ _ _ hI2
  exact ⟨M', t4, nD2, nK2, nG2, n1, hS, hI2, h1, g2, g3, g1, h2, h3, h4, h20, h21⟩
section YEN
variable {nR nD nK nG g d k o r : Nat} {M M' : m_S} {x y z w u : Int32}
theorem b_walk : (F_walk M x y).2.1 = M.1 := by
  unfold F_walk
  repeat' split
  all_goals rfl
theorem b_unlock : (F_unlock M nK x y).2.1 = M.1 := by
  unfold F_unlock
  repeat' split
  all_goals rfl
theorem b_take : (F_take M nK x y).2.1 = M.1 := by
  unfold F_take
  repeat' split
  all_goals rfl
theorem b_drop : (F_drop M nK x y).2.1 = M.1 := by
  unfold F_drop
  repeat' split
  all_goals rfl
theorem b_idle : (F_idle M x y).2.1 = M.1 := by
  unfold F_idle
  repeat' split
  all_goals rfl
theorem b_leave : (F_leave M x).2.1 = M.1 := by
  unfold F_leave
  repeat' split
  all_goals rfl
theorem b_hint : (F_hint M nD nK x).2.1 = M.1 := by
  unfold F_hint
  repeat' split
  all_goals rfl
theorem b_join : (F_join M nK x y).2.1 = M.1 := by
  unfold F_join
  repeat' split
  · rfl
  · rfl
  · rfl
  · exact m_over_fst _
theorem b_addKey {j : Nat} (hj : j = 20 ∨ j = 21) : (F_addKey M x y).2.1 j = M.1 j := by
  unfold F_addKey
  repeat' split
  · rfl
  · rfl
  · rfl
  · rw [m_sS1, if_neg (by omega)]; rfl
theorem b_putDoor {j : Nat} (hj : j = 20 ∨ j = 21) : (F_putDoor M x y z w u).2.1 j = M.1 j := by
  unfold F_putDoor
  rw [m_sS1, if_neg (by omega)]; rfl
theorem b_addDoor {j : Nat} (hj : j = 20 ∨ j = 21) : (F_addDoor M x y z).2.1 j = M.1 j := by
  unfold F_addDoor
  repeat' split
  · rfl
  · rfl
  · rfl
  · exact b_putDoor hj
theorem b_addLock {j : Nat} (hj : j = 20 ∨ j = 21) : (F_addLock M nD x y z w u).2.1 j = M.1 j := by
  unfold F_addLock
  repeat' split
  · rfl
  · rfl
  · rfl
  · exact b_putDoor hj
theorem b_putGroup {j : Nat} (hj : j = 20 ∨ j = 21) : (F_putGroup M x y z).2.1 j = M.1 j := by
  unfold F_putGroup
  rw [m_sS1, if_neg (by omega)]; rfl
theorem b_addGroup {j : Nat} (hj : j = 20 ∨ j = 21) : (F_addGroup M nG x y).2.1 j = M.1 j := by
  unfold F_addGroup
  repeat' split
  · rfl
  · rfl
  · rfl
  · exact b_putGroup hj
theorem b_part {j : Nat} (hj : j = 20 ∨ j = 21) : (F_part M x y).2.1 j = M.1 j := by
  unfold F_part
  repeat' split
  · rfl
  · rfl
  · rfl
  · rfl
  · rw [b_putGroup hj]; rfl
theorem b_setExit {j : Nat} (hj : j = 20 ∨ j = 21) : (F_setExit M x).2.1 j = M.1 j := by
  unfold F_setExit
  split
  · rfl
  · rw [m_sS1, if_neg (by omega)]
/-- part, as the law looks at it -/
theorem y_part_neg (hI : m_I nR nD nK nG M) (hg : g < nG) (hz : m_in z 1 23 = true) (h : (F_part M (nI g) z).1 < 0) : (F_part M (nI g) z).2 = M := by
  have hs := y_nsm hI
  rw [y_part_eq hI hg hz] at h ⊢
  by_cases c1 : (!(m_pl M (nI g)) || !(decide (z < M.2 15 g))) = true
  · rw [if_pos c1]
  · rw [if_neg c1] at h ⊢
    by_cases c2 : M.1 14 = 6
    · rw [if_pos c2]
    · rw [if_neg c2] at h
      refine absurd h ?_
      show ¬ M.1 14 + 1 - 1 < 0
      rw [hI.1.2.2.2.1, ← nI_succ, nI_pred]
      exact nI_pos (by omega)
theorem y_part_pos (hI : m_I nR nD nK nG M) (hg : g < nG) (hz : m_in z 1 23 = true) (h : ¬ (F_part M (nI g) z).1 < 0) : (F_part M (nI g) z).2 = (F_putGroup (m_sA M 15 g (M.2 15 g - z)) z (M.2 16 g) (M.2 17 g)).2 := by
  rw [y_part_eq hI hg hz] at h ⊢
  by_cases c1 : (!(m_pl M (nI g)) || !(decide (z < M.2 15 g))) = true
  · rw [if_pos c1] at h; exact absurd (by show (-4 : Int32) < 0; decide) h
  · rw [if_neg c1] at h ⊢
    by_cases c2 : M.1 14 = 6
    · rw [if_pos c2] at h; exact absurd (by show (-3 : Int32) < 0; decide) h
    · rw [if_neg c2]
theorem y_part_rows (hI : m_I nR nD nK nG M) (hg : g < nG) {N : m_S} (e : N = (F_putGroup (m_sA M 15 g (M.2 15 g - z)) z (M.2 16 g) (M.2 17 g)).2) : N.1 14 = nI (nG + 1) ∧ N.2 15 g = M.2 15 g - z ∧ N.2 15 nG = z ∧ N.2 16 nG = N.2 16 g ∧ N.2 17 nG = N.2 17 g ∧ N.2 18 nG = 0 ∧ N.2 11 = M.2 11 ∧ N.2 12 = M.2 12 := by
  have hs := y_nsm hI
  have hc : (M.1 14).toNatClampNeg = nG := by rw [hI.1.2.2.2.1, nI_clamp (by omega)]
  have h1 : (m_sA M 15 g (M.2 15 g - z)).1 14 = M.1 14 := rfl
  have hne : ¬ g = nG := by omega
  subst e
  unfold F_putGroup
  rw [h1, hc]
  refine ⟨?_, ?_, ?_, ?_, ?_, ?_, ?_, ?_⟩
  · show M.1 14 + 1 = _
    rw [hI.1.2.2.2.1, nI_succ]
  all_goals simp [m_sS2, m_sA2, m_sA2r, hne]
theorem y_held_new (hI : m_I nR nD nK nG M) {N : m_S} {a b c e : Nat} (hN : m_I a b c e N) (hc : c = nK) (h11 : N.2 11 = M.2 11) (h12 : N.2 12 = M.2 12) : m_held N c (nI nG) = 0 := by
  have hs := y_nsm hI
  subst hc
  rw [y_held hN, k_n_zero (fun i hi => ?_)]; rfl
  cases q : y_hp N (nI nG) i with
  | false => rfl
  | true =>
    unfold y_hp at q
    rw [h11, h12] at q
    simp only [Bool.and_eq_true, decide_eq_true_eq] at q
    have := y_held_lt hI hi q.1 (by omega) q.2
    omega
end YEN
section YG0
variable {p : Program} {l : Launch} {e : Env} {R : Room} {s : State} {m : MethodId} {args : Array Value} {below : List Frame} {meth : Method} {c : Code} {A : Nat → Prop} {n cells slots : Nat} {Q : State → Prop} {H : Heap} {pc : Nat} {L : List (Nat × Value)} {rest : List Value}
variable {cc : ByteArray} {own : String} {ret : Option FieldType} {nm : String} {G : z_G} {ad : Nat → Nat → Nat} {ax nR nD nK nG : Nat} {M : m_S} {t4 : Int32}
/-- a call of the class that might have made a thing, but did not -/
theorem y_callG0 (C : z_C p s m args meth c cc own ret n nm G) {b0 : Nat} {y : MethodName} {k idx maxL : Nat} {As : List Value} {bytes : ByteArray} {rt : Option FieldType} {val : Value} (hX : y_X G ad nR nD nK nG M t4 H) (hax : ad 4 0 = ax) (hB : y_B G b0 ad nR nD nK nG H) (hI : m_I nR nD nK nG M)
    (hM : ∀ T : x_T, T.2.2.1 4 = t4 → x_out G ad nR nD nK nG → z_M l y bytes maxL rt k 2 34 (.ref (ad 4 0) :: As) G (fun H1 => H1.size = H.size ∧ x_R G ad nR nD nK nG M T H1 ∧ z_Es G H1) (fun q => x_A ad nR nD nK nG q ∨ H.size ≤ q) (fun v _ H' => v = some val ∧ x_Gr G ad nR nD nK nG H.size T M H')) (hA : ∀ q, b0 ≤ q → A q) (hT : z_cal y bytes maxL rt RX5 As.length) (hlk : Cond.methodLink own idx y ∈ z_B) (hR : k + 1 ≤ R.frames ∧ 8 + (maxL + 11) + 30 * k ≤ R.locals) (hf : cells + 2 ≤ R.cells ∧ slots + 34 ≤ R.slots) (hrest : (rest.map fun v => v.category).sum ≤ 8) (hdg : decode cc pc = .ok (.invokevirtual idx, 3))
    (kk : ∀ H' ad2, ad2 4 0 = ax → y_X G ad2 nR nD nK nG M t4 H' → y_B G b0 ad2 nR nD nK nG H' → z_Z p l e R s m args below meth c A n (cells + 2) (slots + 34) Q H' (pc + 3) L (val :: rest)) : z_Z p l e R s m args below meth c A n cells slots Q H pc L (As.reverse ++ .ref ax :: rest) :=
  y_callG C hX hax hB hM hA hT hlk hR hf hrest hdg (fun H' ad2 nR2 nD2 nK2 nG2 h1 h2 h3 h4 => by
    obtain ⟨rfl, rfl, rfl, rfl⟩ := hI.uniq h3
    exact kk H' ad2 h1 h2 h4)
end YG0
