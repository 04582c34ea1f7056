/-! the law's loop: what holds between two calls -/
theorem x_R.keptA {G : z_G} {ad : Nat → Nat → Nat} {nR nD nK nG : Nat} {M : m_S} {T : x_T} {H H' : Heap} (h : x_R G ad nR nD nK nG M T H) (hk : ∀ k i, x_in nR nD nK nG k i → H'[ad k i]? = H[ad k i]?) : x_R G ad nR nD nK nG M T H' := by
  obtain ⟨⟨a1, a2, a3, a4⟩, ⟨b1, b2, b3, b4⟩, ⟨l1, l2, l3, l4⟩, hi⟩ := h
  refine ⟨⟨a1.kept (hk _ _ ?_), a2.kept (hk _ _ ?_), a3.kept (hk _ _ ?_), a4.kept (hk _ _ ?_)⟩, ⟨fun i q => (b1 i q).kept (hk _ _ ?_), fun i q => (b2 i q).kept (hk _ _ ?_), fun i q => (b3 i q).kept (hk _ _ ?_), fun i q => (b4 i q).kept (hk _ _ ?_)⟩, ⟨l1.mono (hk _ _ ?_) (fun q => hk _ _ ?_), l2.mono (hk _ _ ?_) (fun q => hk _ _ ?_), l3.mono (hk _ _ ?_) (fun q => hk _ _ ?_), l4.mono (hk _ _ ?_) (fun q => hk _ _ ?_)⟩, hi⟩ <;> unfold x_in <;> omega
theorem m_R.keptA {G : z_G} {am : Nat → Nat} {M : m_S} {H H' : Heap} (h : m_R G am M H) (hk : ∀ j, m_is j = true → H'[am j]? = H[am j]?) : m_R G am M H' :=
  ⟨h.1.kept (hk 0 rfl), fun k q => (h.2.1 k q).kept (hk k (m_is_I q)), fun k q => (h.2.2.1 k q).kept (hk k (m_is_Z q)), h.2.2.2⟩
theorem m_R.lt {G : z_G} {am : Nat → Nat} {M : m_S} {H : Heap} (h : m_R G am M H) {j : Nat} (hj : m_is j = true) : am j < H.size := by
  have h1 : j = 0 ∨ m_isI j = true ∨ m_isZ j = true := by
    unfold m_is at hj
    simp only [Bool.or_eq_true] at hj
    rcases hj with (h | h) | h
    · exact Or.inl (Nat.eq_of_beq_eq_true h)
    · exact Or.inr (Or.inl h)
    · exact Or.inr (Or.inr h)
  rcases h1 with rfl | q | q
  · exact h.1.lt
  · exact (h.2.1 j q).lt
  · exact (h.2.2.1 j q).lt
/-- as x_Gr, with the count of hints named -/
def x_Gt (G : z_G) (ad : Nat → Nat → Nat) (nR nD nK nG sz : Nat) (t4 : Int32) (M' : m_S) (H : Heap) : Prop :=
  ∃ (ad2 : Nat → Nat → Nat) (T2 : x_T) (nR2 nD2 nK2 nG2 : Nat), x_R G ad2 nR2 nD2 nK2 nG2 M' T2 H ∧ m_I nR2 nD2 nK2 nG2 M' ∧ T2.2.2.1 4 = t4 ∧ ad2 4 0 = ad 4 0 ∧ ∀ k i, x_in nR2 nD2 nK2 nG2 k i → sz ≤ ad2 k i ∨ x_A ad nR nD nK nG (ad2 k i)
theorem x_Gt.w {G : z_G} {ad : Nat → Nat → Nat} {nR nD nK nG sz : Nat} {M : m_S} {T : x_T} {t4 : Int32} {H : Heap} (h : x_R G ad nR nD nK nG M T H) (hI : m_I nR nD nK nG M) (ht : T.2.2.1 4 = t4) : x_Gt G ad nR nD nK nG sz t4 M H :=
  ⟨ad, T, nR, nD, nK, nG, h, hI, ht, rfl, fun k i hi => Or.inr ⟨k, i, hi, rfl⟩⟩
theorem x_Gt.g {G : z_G} {ad : Nat → Nat → Nat} {nR nD nK nG sz : Nat} {M : m_S} {T : x_T} {t4 : Int32} {H : Heap} (h : x_Gr G ad nR nD nK nG sz T M H) (ht : T.2.2.1 4 = t4) : x_Gt G ad nR nD nK nG sz t4 M H := by
  subst ht
  exact h
/-- between two calls: both sides show one game; nothing of theirs is old; the empty array lies there -/
def lw_I (G : z_G) (b0 ax a0 i : Nat) (ad : Nat → Nat → Nat) (am : Nat → Nat) (M : m_S) (T : x_T) (nR nD nK nG n0 : Nat) (H : Heap) : Prop :=
  (x_R G ad nR nD nK nG M T H ∧ m_R G am M H ∧ m_I nR nD nK nG M ∧ m_Hn M nG n0 ∧ n0 ≤ i ∧ T.2.2.1 4 = nI n0) ∧ (ad 4 0 = ax ∧ am 0 = a0) ∧ (∀ k j, x_in nR nD nK nG k j → b0 ≤ ad k j) ∧ (∀ j, m_is j = true → b0 ≤ am j) ∧ (∀ k j q, x_in nR nD nK nG k j → m_is q = true → ad k j ≠ am q) ∧ z_Es G H ∧ G.2 5 < b0 ∧ G.2 6 < b0
def lw_J (G : z_G) (b0 ax a0 i : Nat) (H : Heap) : Prop := ∃ (ad : Nat → Nat → Nat) (am : Nat → Nat) (M : m_S) (T : x_T) (nR nD nK nG n0 : Nat), lw_I G b0 ax a0 i ad am M T nR nD nK nG n0 H
theorem lw_J.next {G : z_G} {b0 ax a0 i : Nat} {ad : Nat → Nat → Nat} {am : Nat → Nat} {M : m_S} {T : x_T} {nR nD nK nG n0 : Nat} {H : Heap} (h : lw_I G b0 ax a0 i ad am M T nR nD nK nG n0 H) : lw_J G b0 ax a0 (i + 1) H := by
  obtain ⟨⟨h1, h2, h3, h4, h5, h6⟩, h7⟩ := h
  exact ⟨ad, am, M, T, nR, nD, nK, nG, n0, ⟨h1, h2, h3, h4, by omega, h6⟩, h7⟩
section LWI
variable {G : z_G} {b0 ax a0 i : Nat} {ad : Nat → Nat → Nat} {am : Nat → Nat} {M M' : m_S} {T : x_T} {nR nD nK nG n0 : Nat} {H H1 H2 : Heap}
theorem lw_I.out (h : lw_I G b0 ax a0 i ad am M T nR nD nK nG n0 H) : x_out G ad nR nD nK nG := by
  obtain ⟨-, -, hb, -, -, -, h5, h6⟩ := h
  exact fun k j hj => ⟨by have := hb k j hj; omega, by have := hb k j hj; omega⟩
theorem lw_I.xA (h : lw_I G b0 ax a0 i ad am M T nR nD nK nG n0 H) : ∀ q, x_A ad nR nD nK nG q → b0 ≤ q := by
  obtain ⟨-, -, hb, -⟩ := h
  rintro q ⟨k, j, hj, rfl⟩
  exact hb k j hj
theorem lw_I.xG (h : lw_I G b0 ax a0 i ad am M T nR nD nK nG n0 H) : ∀ q, (x_A ad nR nD nK nG q ∨ H.size ≤ q) → b0 ≤ q := by
  intro q hq
  have h0 : x_in nR nD nK nG 4 0 := by unfold x_in; omega
  have h1 := h.2.2.1 4 0 h0
  have h2 := h.1.1.lt h0
  rcases hq with hq | hq
  · exact h.xA q hq
  · omega
theorem lw_I.mA (h : lw_I G b0 ax a0 i ad am M T nR nD nK nG n0 H) : ∀ q, m_A am q → b0 ≤ q := by
  obtain ⟨-, -, -, hb, -⟩ := h
  rintro q ⟨k, hk, rfl⟩
  exact hb k hk
/-- the class's call leaves the reference's cells -/
theorem lw_I.mid (h : lw_I G b0 ax a0 i ad am M T nR nD nK nG n0 H) {Ax : Nat → Prop} (hA : ∀ q, Ax q → x_A ad nR nD nK nG q ∨ H.size ≤ q) (hf : ∀ q : Nat, q < H.size → ¬ Ax q → H1[q]? = H[q]?) : m_R G am M H1 := by
  obtain ⟨⟨-, hR, -⟩, -, -, -, hd, -⟩ := h
  refine hR.keptA fun j hj => hf _ (hR.lt hj) (fun hq => ?_)
  have := hR.lt hj
  rcases hA _ hq with ⟨k, q, hk, e⟩ | z
  · exact hd k q j hk hj e.symm
  · omega
theorem lw_I.step (h : lw_I G b0 ax a0 i ad am M T nR nD nK nG n0 H) {t4 : Int32} {Ax : Nat → Prop} (hA : ∀ q, Ax q → x_A ad nR nD nK nG q ∨ H.size ≤ q) (hf : ∀ q : Nat, q < H.size → ¬ Ax q → H1[q]? = H[q]?) (hz : H.size ≤ H1.size) (hx : x_Gt G ad nR nD nK nG H.size t4 M' H1)
    (hf2 : ∀ q : Nat, q < H1.size → ¬ m_A am q → H2[q]? = H1[q]?) (hm : ∃ M'', m_Q M' M'' ∧ m_R G am M'' H2) (hh : ∀ nR2 nD2 nK2 nG2, m_I nR2 nD2 nK2 nG2 M' → ∃ n1, n1 ≤ i + 1 ∧ m_Hn M' nG2 n1 ∧ t4 = nI n1) : lw_J G b0 ax a0 (i + 1) H2 := by
  obtain ⟨ad2, T2, nR2, nD2, nK2, nG2, hX2, hI2, hT2, h0, hadd⟩ := hx
  obtain ⟨M'', hQ, hR2⟩ := hm
  obtain ⟨n1, hn1, hH1, ht1⟩ := hh _ _ _ _ hI2
  have hxG := h.xG
  have hmA := h.mA
  obtain ⟨⟨hX, hR, -⟩, ⟨hx0, hm0⟩, hbx, hbm, hd, hE, h5, h6⟩ := h
  have hin0 : x_in nR nD nK nG 4 0 := by unfold x_in; omega
  have hb0 : b0 ≤ H.size := by have h1 := hbx 4 0 hin0; have h2 := hX.lt hin0; omega
  have hd2 : ∀ k j q, x_in nR2 nD2 nK2 nG2 k j → m_is q = true → ad2 k j ≠ am q := fun k j q hk hq e => by
    have := hR.lt hq
    rcases hadd k j hk with z | ⟨k', j', hk', e'⟩
    · omega
    · exact hd k' j' q hk' hq (e'.symm.trans e)
  have hX3 : x_R G ad2 nR2 nD2 nK2 nG2 M' T2 H2 := hX2.keptA fun k j hk => hf2 _ (hX2.lt hk) (fun ⟨q, hq, e⟩ => hd2 k j q hk hq e)
  have hold : ∀ q : Nat, q < b0 → H2[q]? = H[q]? := fun q hq => (hf2 q (by omega) (fun z => by have := hmA q z; omega)).trans (hf q (by omega) (fun z => by have := hxG q (hA q z); omega))
  refine ⟨ad2, am, M'', T2, nR2, nD2, nK2, nG2, n1, ⟨hX3.scratch hQ, hR2, hI2.scratch hQ, hH1.same (hQ.2 18 (by omega)) (fun q _ => by rw [hQ.2 19 (by omega)]), hn1, hT2.trans ht1⟩, ⟨h0.trans hx0, hm0⟩, fun k j hk => ?_, hbm, hd2, hE.kept (hold _ h6) (hold _ h5), h5, h6⟩
  rcases hadd k j hk with z | ⟨k', j', hk', e'⟩
  · omega
  · rw [e']; exact hbx k' j' hk'
end LWI
/-! the hints, call by call -/
section HHH
variable {nR nD nK nG n i : Nat} {M M' : m_S} {t4 : Int32}
theorem lw_hh (hI : m_I nR nD nK nG M) (hn : n ≤ i) (ht : t4 = nI n) (hM : m_Hn M' nG n) (h14 : M'.1 14 = M.1 14) : ∀ nR2 nD2 nK2 nG2, m_I nR2 nD2 nK2 nG2 M' → ∃ n1, n1 ≤ i + 1 ∧ m_Hn M' nG2 n1 ∧ t4 = nI n1 := by
  intro nR2 nD2 nK2 nG2 hI2
  have h1 := hI2.1.2.2.2.1
  have h2 := hI.1.2.2.2.1
  have h3 := hI2.1.2.2.2.2
  have h4 := hI.1.2.2.2.2
  have e : nG2 = nG := (nI_inj (by omega) (by omega)).mp (h1.symm.trans (h14.trans h2))
  subst e
  exact ⟨n, by omega, hM, ht⟩
theorem lw_hh1 (hI : m_I nR nD nK nG M) (hn : n ≤ i) (ht : t4 = nI n) (hM : m_Hn M' (nG + 1) n) (h14 : M'.1 14 = M.1 14 + 1) : ∀ nR2 nD2 nK2 nG2, m_I nR2 nD2 nK2 nG2 M' → ∃ n1, n1 ≤ i + 1 ∧ m_Hn M' nG2 n1 ∧ t4 = nI n1 := by
  intro nR2 nD2 nK2 nG2 hI2
  have h1 := hI2.1.2.2.2.1
  have h2 := hI.1.2.2.2.1
  have h3 := hI2.1.2.2.2.2
  have h4 := hI.1.2.2.2.2
  have e : nG2 = nG + 1 := (nI_inj (by omega) (by omega)).mp (h1.symm.trans (h14.trans (by rw [h2, nI_succ])))
  subst e
  exact ⟨n, by omega, hM, ht⟩
theorem hn_addRoom (h : m_Hn M nG n) : m_Hn (F_addRoom M).2 nG n ∧ (F_addRoom M).2.1 14 = M.1 14 := by
  unfold F_addRoom
  repeat' split
  all_goals exact ⟨h.same rfl (fun _ _ => Iff.rfl), rfl⟩
theorem hn_setExit {r : Int32} (h : m_Hn M nG n) : m_Hn (F_setExit M r).2 nG n ∧ (F_setExit M r).2.1 14 = M.1 14 := by
  unfold F_setExit
  repeat' split
  all_goals exact ⟨h.same rfl (fun _ _ => Iff.rfl), rfl⟩
theorem hn_setHints {b t : Int32} (h : m_Hn M nG n) : m_Hn (F_setHints M b t).2 nG n ∧ (F_setHints M b t).2.1 14 = M.1 14 := by
  unfold F_setHints
  repeat' split
  all_goals exact ⟨h.same rfl (fun _ _ => Iff.rfl), rfl⟩
theorem hn_addDoor {a b w : Int32} (h : m_Hn M nG n) : m_Hn (F_addDoor M a b w).2 nG n ∧ (F_addDoor M a b w).2.1 14 = M.1 14 := by
  unfold F_addDoor
  repeat' split
  all_goals exact ⟨h.same rfl (fun _ _ => Iff.rfl), rfl⟩
theorem hn_addLock {a b w c u : Int32} (h : m_Hn M nG n) : m_Hn (F_addLock M nD a b w c u).2 nG n ∧ (F_addLock M nD a b w c u).2.1 14 = M.1 14 := by
  unfold F_addLock
  repeat' split
  all_goals exact ⟨h.same rfl (fun _ _ => Iff.rfl), rfl⟩
theorem hn_addKey {r c : Int32} (h : m_Hn M nG n) : m_Hn (F_addKey M r c).2 nG n ∧ (F_addKey M r c).2.1 14 = M.1 14 := by
  unfold F_addKey
  repeat' split
  all_goals exact ⟨h.same rfl (fun _ _ => Iff.rfl), rfl⟩
theorem hn_walk {g d : Int32} (h : m_Hn M nG n) : m_Hn (F_walk M g d).2 nG n ∧ (F_walk M g d).2.1 14 = M.1 14 := by
  unfold F_walk
  repeat' split
  all_goals exact ⟨h.same rfl (fun _ _ => Iff.rfl), rfl⟩
theorem hn_unlock {g d : Int32} (h : m_Hn M nG n) : m_Hn (F_unlock M nK g d).2 nG n ∧ (F_unlock M nK g d).2.1 14 = M.1 14 := by
  unfold F_unlock
  repeat' split
  all_goals exact ⟨h.same rfl (fun _ _ => Iff.rfl), rfl⟩
theorem hn_take {g k : Int32} (h : m_Hn M nG n) : m_Hn (F_take M nK g k).2 nG n ∧ (F_take M nK g k).2.1 14 = M.1 14 := by
  unfold F_take
  repeat' split
  all_goals exact ⟨h.same rfl (fun _ _ => Iff.rfl), rfl⟩
theorem hn_drop {g k : Int32} (h : m_Hn M nG n) : m_Hn (F_drop M nK g k).2 nG n ∧ (F_drop M nK g k).2.1 14 = M.1 14 := by
  unfold F_drop
  repeat' split
  all_goals exact ⟨h.same rfl (fun _ _ => Iff.rfl), rfl⟩
theorem hn_idle {g t : Int32} (h : m_Hn M nG n) : m_Hn (F_idle M g t).2 nG n ∧ (F_idle M g t).2.1 14 = M.1 14 := by
  unfold F_idle
  repeat' split
  all_goals exact ⟨h.same rfl (fun _ _ => Iff.rfl), rfl⟩
theorem hn_leave {g : Int32} (h : m_Hn M nG n) : m_Hn (F_leave M g).2 nG n ∧ (F_leave M g).2.1 14 = M.1 14 := by
  unfold F_leave
  split
  · exact ⟨h, rfl⟩
  · split
    · exact ⟨h, rfl⟩
    · rename_i q
      have hp : M.2 19 g.toNatClampNeg = 0 := by
        unfold m_pl at q
        by_cases z : M.2 19 g.toNatClampNeg = 0
        · exact z
        · exact absurd (by simp [z]) q
      refine ⟨h.same rfl (fun i _ => ?_), rfl⟩
      show (m_sA M 19 g.toNatClampNeg 1).2 19 i = 2 ↔ _
      by_cases z : i = g.toNatClampNeg
      · rw [z, m_sA_at, hp]
        exact ⟨fun w => absurd w (by decide), fun w => absurd w (by decide)⟩
      · rw [m_sA_ix z]
theorem hn_over {g o : Int32} : ∀ k, (m_over M g o k).1 = M.1
  | 0 => rfl
  | k + 1 => hn_over k
theorem hn_join {g o : Int32} (hI : m_I nR nD nK nG M) (h : m_Hn M nG n) : m_Hn (F_join M nK g o).2 nG n ∧ (F_join M nK g o).2.1 14 = M.1 14 := by
  refine ⟨m_Hn.join hI h, ?_⟩
  unfold F_join
  repeat' split
  · rfl
  · rfl
  · rfl
  · show (m_over (m_join M g o) g o nK).1 14 = _
    rw [hn_over]
    rfl
theorem hn_put {z r t : Int32} (hI : m_I nR nD nK nG M) (h : m_Hn M nG n) : m_Hn (F_putGroup M z r t).2 (nG + 1) n ∧ (F_putGroup M z r t).2.1 14 = M.1 14 + 1 := by
  have h6 := hI.1.2.2.2.2
  have e14 : (M.1 14).toNatClampNeg = nG := by rw [hI.1.2.2.2.1, nI_clamp (by omega)]
  refine ⟨h.more (fun i hi => ?_) (fun i hi => ?_) ?_, rfl⟩
  · unfold F_putGroup; rw [e14]; show (m_sS _ _ _).2 18 i = _; rw [m_sS2, m_sA_ix (by omega), m_sA_ix (by omega), m_sA_ix (by omega), m_sA_ix (by omega), m_sA_ix (by omega)]
  · unfold F_putGroup; rw [e14]; show (m_sS _ _ _).2 19 i = _; rw [m_sS2, m_sA_ix (by omega), m_sA_ix (by omega), m_sA_ix (by omega), m_sA_ix (by omega), m_sA_ix (by omega)]
  · unfold F_putGroup; rw [e14]; show (m_sS _ _ _).2 18 nG = _; rw [m_sS2, m_sA_arr (by omega), m_sA_at]
theorem hh_addGroup {z r : Int32} (hI : m_I nR nD nK nG M) (h : m_Hn M nG n) (hn : n ≤ i) (ht : t4 = nI n) : ∀ nR2 nD2 nK2 nG2, m_I nR2 nD2 nK2 nG2 (F_addGroup M nG z r).2 → ∃ n1, n1 ≤ i + 1 ∧ m_Hn (F_addGroup M nG z r).2 nG2 n1 ∧ t4 = nI n1 := by
  unfold F_addGroup
  repeat' split
  · exact lw_hh hI hn ht h rfl
  · exact lw_hh hI hn ht h rfl
  · exact lw_hh hI hn ht h rfl
  · exact lw_hh1 hI hn ht (hn_put hI h).1 (hn_put hI h).2
theorem hh_part {g z : Int32} (hI : m_I nR nD nK nG M) (h : m_Hn M nG n) (hn : n ≤ i) (ht : t4 = nI n) : ∀ nR2 nD2 nK2 nG2, m_I nR2 nD2 nK2 nG2 (F_part M g z).2 → ∃ n1, n1 ≤ i + 1 ∧ m_Hn (F_part M g z).2 nG2 n1 ∧ t4 = nI n1 := by
  unfold F_part
  by_cases c1 : m_no g (M.1 14) = true
  · rw [if_pos c1]; exact lw_hh hI hn ht h rfl
  rw [if_neg c1]
  by_cases c2 : (!(m_in z 1 23)) = true
  · rw [if_pos c2]; exact lw_hh hI hn ht h rfl
  rw [if_neg c2]
  by_cases c3 : (!(m_pl M g) || !(decide (z < M.2 15 g.toNatClampNeg))) = true
  · rw [if_pos c3]; exact lw_hh hI hn ht h rfl
  rw [if_neg c3]
  by_cases c4 : M.1 14 = 6
  · rw [if_pos c4]; exact lw_hh hI hn ht h rfl
  rw [if_neg c4]
  have hgl : g.toNatClampNeg < nG := vp_in_clamp (x_inG hI.1 (r := g) (by simpa using c1))
  have hp : M.2 19 g.toNatClampNeg = 0 := by
    unfold m_pl at c3
    by_cases q : M.2 19 g.toNatClampNeg = 0
    · exact q
    · exact absurd (by simp [q]) c3
  have hI1 : m_I nR nD nK nG (m_sA M 15 g.toNatClampNeg (M.2 15 g.toNatClampNeg - z)) := hI.g15 hgl (Or.inl (by rw [hp]; decide))
  have h1 : m_Hn (m_sA M 15 g.toNatClampNeg (M.2 15 g.toNatClampNeg - z)) nG n := h.same rfl (fun _ _ => Iff.rfl)
  exact lw_hh1 hI hn ht (hn_put hI1 h1).1 (hn_put hI1 h1).2
theorem hI_hint {g : Int32} (hI : m_I nR nD nK nG M) (h : m_Hn M nG n) (hn : n ≤ 100000) : m_I nR nD nK nG (F_hint M nD nK g).2 := by
  unfold F_hint
  by_cases c1 : m_no g (M.1 14) = true
  · rw [if_pos c1]; exact hI
  rw [if_neg c1]
  by_cases c2 : (!(m_pl M g)) = true
  · rw [if_pos c2]; exact hI
  rw [if_neg c2]
  by_cases c3 : 100000 < F_ht M g
  · rw [if_pos c3]; exact hI
  rw [if_neg c3]
  exact m_I_hS hI h hn (vp_in_clamp (x_inG hI.1 (r := g) (by simpa using c1))) (by simpa using c2) c3
theorem hh_hint {g : Int32} (hI : m_I nR nD nK nG M) (h : m_Hn M nG n) (hn : n ≤ i) (ht : t4 = nI n) : ∀ nR2 nD2 nK2 nG2, m_I nR2 nD2 nK2 nG2 (F_hint M nD nK g).2 → ∃ n1, n1 ≤ i + 1 ∧ m_Hn (F_hint M nD nK g).2 nG2 n1 ∧ x_h4 M g t4 = nI n1 := by
  unfold F_hint x_h4
  by_cases c1 : m_no g (M.1 14) = true
  · rw [if_pos c1, if_pos c1]; exact lw_hh hI hn ht h rfl
  rw [if_neg c1, if_neg c1]
  by_cases c2 : (!(m_pl M g)) = true
  · rw [if_pos c2, if_pos c2]; exact lw_hh hI hn ht h rfl
  rw [if_neg c2, if_neg c2]
  by_cases c3 : 100000 < F_ht M g
  · rw [if_pos c3, if_pos c3]; exact lw_hh hI hn ht h rfl
  rw [if_neg c3, if_neg c3]
  have h2 := m_Hn.hint h (vp_in_clamp (x_inG hI.1 (r := g) (by simpa using c1))) (by simpa using c2)
  intro nR2 nD2 nK2 nG2 hI2
  have h3 := hI2.1.2.2.2.1
  have h4 := hI2.1.2.2.2.2
  have h5 := hI.1.2.2.2.2
  have e : nG2 = nG := (nI_inj (by omega) (by omega)).mp (h3.symm.trans hI.1.2.2.2.1)
  subst e
  exact ⟨n + 1, by omega, h2, by rw [ht, nI_succ]⟩
end HHH

