/-! a thing is made and put into its list -/
def x_ci (k : Nat) : Nat := if k = 0 then 5 else if k = 1 then 1 else if k = 2 then 3 else 2
def x_out (G : z_G) (ad : Nat → Nat → Nat) (nR nD nK nG : Nat) : Prop := ∀ k i, x_in nR nD nK nG k i → ad k i ≠ G.2 5 ∧ ad k i ≠ G.2 6
theorem x_R.kept {G : z_G} {ad : Nat → Nat → Nat} {nR nD nK nG : Nat} {M : m_S} {T : x_T} {H H' : Heap} (h : x_R G ad nR nD nK nG M T H) (hk : ∀ q, q < H.size → H'[q]? = H[q]?) : x_R G ad nR nD nK nG M T H' := by
  obtain ⟨⟨a1, a2, a3, a4⟩, ⟨b1, b2, b3, b4⟩, ⟨l1, l2, l3, l4⟩, hi⟩ := h
  exact ⟨⟨a1.kept (hk _ a1.lt), a2.kept (hk _ a2.lt), a3.kept (hk _ a3.lt), a4.kept (hk _ a4.lt)⟩, ⟨fun i q => (b1 i q).kept (hk _ (b1 i q).lt), fun i q => (b2 i q).kept (hk _ (b2 i q).lt), fun i q => (b3 i q).kept (hk _ (b3 i q).lt), fun i q => (b4 i q).kept (hk _ (b4 i q).lt)⟩, ⟨l1.mono (hk _ l1.lt.1) (fun q => hk _ (l1.lt.2 q)), l2.mono (hk _ l2.lt.1) (fun q => hk _ (l2.lt.2 q)), l3.mono (hk _ l3.lt.1) (fun q => hk _ (l3.lt.2 q)), l4.mono (hk _ l4.lt.1) (fun q => hk _ (l4.lt.2 q))⟩, hi⟩
theorem x_R.elem {G : z_G} {ad : Nat → Nat → Nat} {nR nD nK nG : Nat} {M : m_S} {T : x_T} {H : Heap} (h : x_R G ad nR nD nK nG M T H) {k : Nat} (hk : k < 4) : ∀ i, i < x_cn nR nD nK nG k → ∃ fs, va_at G.1 vwCl (ad k i, .inr (x_ci k, fs)) H := by
  have h4 : k = 0 ∨ k = 1 ∨ k = 2 ∨ k = 3 := by omega
  rcases h4 with rfl | rfl | rfl | rfl
  · exact fun i hi => ⟨_, h.2.1.1 i hi⟩
  · exact fun i hi => ⟨_, h.2.1.2.1 i hi⟩
  · exact fun i hi => ⟨_, h.2.1.2.2.1 i hi⟩
  · exact fun i hi => ⟨_, h.2.1.2.2.2 i hi⟩
theorem x_R.side {G : z_G} {ad : Nat → Nat → Nat} {nR nD nK nG : Nat} {M : m_S} {T : x_T} {H : Heap} (h : x_R G ad nR nD nK nG M T H) (hO : x_out G ad nR nD nK nG) {k a : Nat} (hk : k < 4) (ha : H.size ≤ a) : G.2 6 ≠ ad 4 (1 + k) ∧ G.2 5 ≠ ad 4 (1 + k) ∧ a ≠ ad 4 (1 + k) ∧ (0 < x_cn nR nD nK nG k → ad 4 (1 + k) ≠ ad 4 (5 + k)) ∧ ∀ i, i < x_cn nR nD nK nG k → ad k i ≠ ad 4 (1 + k) := by
  have hl : x_in nR nD nK nG 4 (1 + k) := x_in_lst (by omega)
  refine ⟨(hO _ _ hl).2.symm, (hO _ _ hl).1.symm, fun e => ?_, fun hn e => ?_, fun i hi e => ?_⟩
  · have := h.lt hl; omega
  · have := h.2.2.2 4 (1 + k) 4 (5 + k) hl (x_in_arr hk hn) e; omega
  · have := h.2.2.2 k i 4 (1 + k) (x_in_cn hk hi) hl e; omega
theorem x_R.pre {G : z_G} {ad : Nat → Nat → Nat} {nR nD nK nG : Nat} {M : m_S} {T : x_T} {H H1 H2 : Heap} (h : x_R G ad nR nD nK nG M T H) (hE : z_Es G H) {k a : Nat} {e : va_E} {fs : List Value} (hk : k < 4) (hN : z_N G a e H H1) (hU : z_U G a (.inr (x_ci k, fs)) H1 H2) : H2.size = H2.size ∧ x_L G (ad 4 (1 + k)) (ad 4 (5 + k)) (x_cn nR nD nK nG k) (ad k) H2 ∧ z_Es G H2 ∧ va_at G.1 vwCl (a, .inr (x_ci k, fs)) H2 ∧ ∀ i, i < x_cn nR nD nK nG k → ∃ fs, va_at G.1 vwCl (ad k i, .inr (x_ci k, fs)) H2 := by
  have hb : ∀ q, q < H.size → H2[q]? = H[q]? := fun q hq => (hU.2.2 q (by rw [hN.1]; omega)).trans (hN.2.2.2 q hq)
  have h2 := h.kept hb
  exact ⟨rfl, h2.list hk, hE.kept (hb _ hE.ne.1) (hb _ hE.ne.2), hU.1, h2.elem hk⟩
/-- what the making leaves: all old cells but the list's own and the object's, the list with one more -/
def x_St (G : z_G) (ad : Nat → Nat → Nat) (k0 n0 a aE : Nat) (e : va_E) (H H' : Heap) : Prop :=
  (∀ q, q < H.size → q ≠ ad 4 (1 + k0) → (0 < n0 → q ≠ ad 4 (5 + k0)) → q ≠ ad 4 0 → H'[q]? = H[q]?) ∧ x_L G (ad 4 (1 + k0)) aE (n0 + 1) (fun i => if i = n0 then a else ad k0 i) H' ∧ va_at G.1 vwCl (a, e) H' ∧ H.size ≤ a ∧ ((0 < n0 ∧ aE = ad 4 (5 + k0)) ∨ (H.size ≤ aE ∧ aE ≠ a))
theorem x_R.added {G : z_G} {ad : Nat → Nat → Nat} {nR nD nK nG : Nat} {M : m_S} {T : x_T} {H H1 H2 H3 : Heap} (h : x_R G ad nR nD nK nG M T H) {k a aE : Nat} {e e2 : va_E} (hk : k < 4) (hN : z_N G a e H H1) (hU : z_U G a e2 H1 H2)
    (hfr : ∀ q, q < H2.size → ¬ (q = ad 4 (1 + k) ∨ (0 < x_cn nR nD nK nG k ∧ q = ad 4 (5 + k)) ∨ H2.size ≤ q) → H3[q]? = H2[q]?) (hL : x_L G (ad 4 (1 + k)) aE (x_cn nR nD nK nG k + 1) (fun i => if i = x_cn nR nD nK nG k then a else ad k i) H3) (hor : (0 < x_cn nR nD nK nG k ∧ aE = ad 4 (5 + k)) ∨ H2.size ≤ aE) : x_St G ad k (x_cn nR nD nK nG k) a aE e2 H H3 ∧ H3[ad 4 0]? = H[ad 4 0]? := by
  have hb : ∀ q, q < H.size → H2[q]? = H[q]? := fun q hq => (hU.2.2 q (by rw [hN.1]; omega)).trans (hN.2.2.2 q hq)
  have hz : H2.size = H.size + 1 := by rw [hU.2.1, hN.2.2.1]
  have ha : a = H.size := hN.1
  have h0 : x_in nR nD nK nG 4 0 := by unfold x_in; omega
  have hkp : ∀ q, q < H.size → q ≠ ad 4 (1 + k) → (0 < x_cn nR nD nK nG k → q ≠ ad 4 (5 + k)) → H3[q]? = H[q]? := fun q hq h1 h2 => (hfr q (by omega) (fun w => by
    rcases w with w | ⟨w1, w2⟩ | w
    · exact h1 w
    · exact h2 w1 w2
    · omega)).trans (hb q hq)
  refine ⟨⟨fun q hq h1 h2 _ => hkp q hq h1 h2, hL, ?_, by omega, ?_⟩, ?_⟩
  · refine hU.1.kept (hfr a (by omega) (fun w => ?_))
    rcases w with w | ⟨w1, w2⟩ | w
    · have := h.lt (x_in_lst (nR := nR) (nD := nD) (nK := nK) (nG := nG) (i := 1 + k) (by omega)); omega
    · have := h.lt (x_in_arr hk w1); omega
    · omega
  · rcases hor with w | w
    · exact Or.inl w
    · exact Or.inr ⟨by omega, by omega⟩
  · refine hkp _ (h.lt h0) (fun w => ?_) (fun hn w => ?_)
    · have := h.2.2.2 4 0 4 (1 + k) h0 (x_in_lst (by omega)) w; omega
    · have := h.2.2.2 4 0 4 (5 + k) h0 (x_in_arr hk hn) w; omega
theorem x_St.obj {G : z_G} {ad : Nat → Nat → Nat} {nR nD nK nG : Nat} {M : m_S} {T : x_T} {H H3 H4 : Heap} (h : x_R G ad nR nD nK nG M T H) {k a aE : Nat} {e e2 : va_E} (hk : k < 4) (hS : x_St G ad k (x_cn nR nD nK nG k) a aE e H H3) (hU : z_U G (ad 4 0) e2 H3 H4) : x_St G ad k (x_cn nR nD nK nG k) a aE e H H4 := by
  obtain ⟨s1, s2, s3, s4, s5⟩ := hS
  have h0 : x_in nR nD nK nG 4 0 := by unfold x_in; omega
  have hl := h.lt h0
  refine ⟨fun q hq h1 h2 h3 => (hU.2.2 q h3).trans (s1 q hq h1 h2 h3), s2.mono (hU.2.2 _ (fun w => ?_)) (fun _ => hU.2.2 _ (fun w => ?_)), z_at_keep hU s3 (by omega), s4, s5⟩
  · have := h.2.2.2 4 (1 + k) 4 0 (x_in_lst (by omega)) h0 w; omega
  · rcases s5 with ⟨c1, c2⟩ | ⟨c1, c2⟩
    · have := h.2.2.2 4 (5 + k) 4 0 (x_in_arr hk c1) h0 (c2.symm.trans w); omega
    · omega
/-- the class's cells show M' at last, with what has come -/
def x_Gr (G : z_G) (ad : Nat → Nat → Nat) (nR nD nK nG sz : Nat) (T : x_T) (M' : m_S) (H : Heap) : Prop :=
  ∃ (ad2 : Nat → Nat → Nat) (T2 : x_T) (nR2 nD2 nK2 nG2 : Nat), x_R G ad2 nR2 nD2 nK2 nG2 M' T2 H ∧ m_I nR2 nD2 nK2 nG2 M' ∧ T2.2.2.1 4 = T.2.2.1 4 ∧ ad2 4 0 = ad 4 0 ∧ ∀ k i, x_in nR2 nD2 nK2 nG2 k i → sz ≤ ad2 k i ∨ x_A ad nR nD nK nG (ad2 k i)
theorem x_Gr.same {G : z_G} {ad : Nat → Nat → Nat} {nR nD nK nG sz : Nat} {M : m_S} {T : x_T} {H : Heap} (h : x_R G ad nR nD nK nG M T H) (hI : m_I nR nD nK nG M) : x_Gr G ad nR nD nK nG sz T M H :=
  ⟨ad, T, nR, nD, nK, nG, h, hI, rfl, rfl, fun k i hi => Or.inr ⟨k, i, hi, rfl⟩⟩
theorem x_Gr.of {G : z_G} {ad : Nat → Nat → Nat} {nR nD nK nG sz : Nat} {M M' : m_S} {T T' : x_T} {H H3 : Heap} (h : x_R G ad nR nD nK nG M T H) (hI : m_I nR nD nK nG M) {k0 a aE : Nat} (hk : k0 < 4) (hsz : sz ≤ H.size) {e : va_E} (hS : x_St G ad k0 (x_cn nR nD nK nG k0) a aE e H H3) (hA : x_Ag nD nK nG M M') (hT : T'.2 = T.2) (hT1 : ∀ i, i < nR → T'.1 i = T.1 i)
    (he : ∀ ad2 : Nat → Nat → Nat, (∀ k i, k < 4 → i < x_cn nR nD nK nG k → ad2 k i = ad k i) → e = x_fix G (x_cell ad2 (x_n k0 1 nD) M' T' k0 (x_cn nR nD nK nG k0)))
    (hobj : va_at G.1 vwCl (ad 4 0, .inr (6, [.ref (ad 4 1), .ref (ad 4 2), .ref (ad 4 3), .ref (ad 4 4), .ref (ad 4 9), va_rf (x_ex ad M), .int (nI (x_lc M' (x_n k0 1 nD))), .int (M.1 20), .int (M.1 21), .int (T.2.2.1 4)])) H3)
    (hI2 : m_I (x_n k0 0 nR) (x_n k0 1 nD) (x_n k0 2 nK) (x_n k0 3 nG) M') : x_Gr G ad nR nD nK nG sz T M' H3 := by
  obtain ⟨s1, s2, s3, s4, s5⟩ := hS
  have had : ∀ k i, k < 4 → i < x_cn nR nD nK nG k → x_ga ad k0 (x_cn nR nD nK nG k0) a aE k i = ad k i := fun k i h1 h2 => x_ga_lt h1 h2
  have h4 : ∀ i, i < 5 ∨ 9 ≤ i → x_ga ad k0 (x_cn nR nD nK nG k0) a aE 4 i = ad 4 i := fun i hi => x_ga_old (by omega) (by omega)
  refine ⟨x_ga ad k0 (x_cn nR nD nK nG k0) a aE, T', _, _, _, _, h.grow hk s4 s5 s1 s2 (he _ had ▸ s3) ?_ (x_grow_cell hI hA had (fun i h1 h2 => h4 i (by omega)) hT hT1), hI2, by rw [hT], h4 0 (by omega), fun k i hi => ?_⟩
  · unfold x_obj
    rw [h4 1 (by omega), h4 2 (by omega), h4 3 (by omega), h4 4 (by omega), h4 9 (by omega), x_grow_ex hI hA.1.1 (fun i hi => had 0 i (by omega) hi), hA.1.2.1, hA.1.2.2, hT]
    exact hobj
  · rcases x_in_grow hk hi with ⟨rfl, rfl⟩ | ⟨rfl, rfl⟩ | q
    · rw [x_ga_new]; exact Or.inl (by omega)
    · rw [x_ga_arr hk]
      rcases s5 with ⟨c1, c2⟩ | ⟨c1, c2⟩
      · exact Or.inr ⟨4, 5 + k0, x_in_arr hk c1, c2⟩
      · exact Or.inl (by omega)
    · by_cases z1 : k = k0 ∧ i = x_cn nR nD nK nG k0
      · obtain ⟨rfl, rfl⟩ := z1
        rw [x_ga_new]; exact Or.inl (by omega)
      · by_cases z2 : k = 4 ∧ i = 5 + k0
        · obtain ⟨rfl, rfl⟩ := z2
          rw [x_ga_arr hk]
          rcases s5 with ⟨c1, c2⟩ | ⟨c1, c2⟩
          · exact Or.inr ⟨4, 5 + k0, x_in_arr hk c1, c2⟩
          · exact Or.inl (by omega)
        · rw [x_ga_old z1 z2]
          exact Or.inr ⟨k, i, q, rfl⟩
theorem x_R.objc {G : z_G} {ad : Nat → Nat → Nat} {nR nD nK nG : Nat} {M : m_S} {T : x_T} {H H3 : Heap} (h : x_R G ad nR nD nK nG M T H) (hb : H3[ad 4 0]? = H[ad 4 0]?) {c : Nat} (hc : c = x_lc M nD) : va_at G.1 vwCl (ad 4 0, .inr (6, [.ref (ad 4 1), .ref (ad 4 2), .ref (ad 4 3), .ref (ad 4 4), .ref (ad 4 9), va_rf (x_ex ad M), .int (nI c), .int (M.1 20), .int (M.1 21), .int (T.2.2.1 4)])) H3 := by
  subst hc
  exact h.1.1.kept hb
section XGR
variable {G : z_G} {ad : Nat → Nat → Nat} {nR nD nK nG sz : Nat} {M : m_S} {T : x_T} {H H3 : Heap}
theorem x_Gr.room (h : x_R G ad nR nD nK nG M T H) (hI : m_I nR nD nK nG M) (hn : nR < 12) (hsz : sz ≤ H.size) {a aE : Nat} (hS : x_St G ad 0 nR a aE (.inr (5, [.int (nI nR), .int (x_bit (nI nR)), .int 0])) H H3) (hb : H3[ad 4 0]? = H[ad 4 0]?) : x_Gr G ad nR nD nK nG sz T (m_sS M 0 (M.1 0 + 1)) H3 := by
  have hA : x_Ag nD nK nG M (m_sS M 0 (M.1 0 + 1)) := ⟨⟨rfl, rfl, rfl⟩, fun _ _ _ _ _ => rfl, fun _ _ _ _ _ => rfl, fun _ _ _ _ _ => rfl⟩
  have hlc : x_lc (m_sS M 0 (M.1 0 + 1)) nD = x_lc M nD := x_lc_congr (M := M) (M' := m_sS M 0 (M.1 0 + 1)) rfl nD
  refine x_Gr.of (k0 := 0) (T' := (fun i => if i = nR then 0 else T.1 i, T.2)) h hI (by omega) hsz hS hA rfl (fun i hi => if_neg (by omega)) (fun ad2 _ => ?_) (h.objc hb hlc) ?_
  · show _ = x_fix G (x_cell ad2 nD _ _ 0 nR)
    rw [x_cell_0]
    show _ = Sum.inr (5, [Value.int (nI nR), Value.int (x_bit (nI nR)), Value.int (if nR = nR then 0 else T.1 nR)])
    rw [if_pos rfl]
  · obtain ⟨⟨e1, c1⟩, hN⟩ := hI.1
    refine hI.grow (nR2 := nR + 1) (nD2 := nD) (nK2 := nK) (nG2 := nG) hA (by omega) (by omega) (by omega) ⟨⟨?_, by omega⟩, hN⟩ (fun d h1 h2 => absurd h1 (by omega)) (fun d h1 h2 => absurd h1 (by omega)) (fun d h1 h2 => absurd h1 (by omega)) ?_
    · show M.1 0 + 1 = _
      rw [e1, nI_succ]
    · rw [hlc]; exact hI.2.2.2.2.2.1
theorem x_Gr.key (h : x_R G ad nR nD nK nG M T H) (hI : m_I nR nD nK nG M) (hn : nK < 16) (hsz : sz ≤ H.size) {a aE r x : Nat} (hr : r < nR) (hx : x ≤ 5) (hS : x_St G ad 2 nK a aE (.inr (3, [.int (nI nK), .int (nI x), .ref (ad 0 r), .int 0, .null, .null])) H H3) (hb : H3[ad 4 0]? = H[ad 4 0]?) : x_Gr G ad nR nD nK nG sz T (m_sS (m_sA (m_sA (m_sA (m_sA M 10 nK (nI x)) 11 nK 0) 12 nK (nI r)) 13 nK 0) 9 (M.1 9 + 1)) H3 := by
  generalize hM : m_sS (m_sA (m_sA (m_sA (m_sA M 10 nK (nI x)) 11 nK 0) 12 nK (nI r)) 13 nK 0) 9 (M.1 9 + 1) = M'
  have hN := hI.1
  have n1 := hN.1.2
  have r10 : M'.2 10 nK = nI x := by subst hM; simp [m_sS2, m_sA2]
  have r11 : M'.2 11 nK = 0 := by subst hM; simp [m_sS2, m_sA2]
  have r12 : M'.2 12 nK = nI r := by subst hM; simp [m_sS2, m_sA2]
  have r13 : M'.2 13 nK = 0 := by subst hM; simp [m_sS2, m_sA2]
  have hix : ∀ j i, i ≠ nK → M'.2 j i = M.2 j i := fun j i hi => by subst hM; rw [m_sS2, m_sA_ix hi, m_sA_ix hi, m_sA_ix hi, m_sA_ix hi]
  have har : ∀ j, j < 10 ∨ 13 < j → M'.2 j = M.2 j := fun j hj => by subst hM; rw [m_sS2, m_sA_arr (by omega), m_sA_arr (by omega), m_sA_arr (by omega), m_sA_arr (by omega)]
  have h1' : ∀ j, j ≠ 9 → M'.1 j = M.1 j := fun j hj => by subst hM; rw [m_sS1, if_neg hj, m_sA1, m_sA1, m_sA1, m_sA1]
  have h9 : M'.1 9 = nI (nK + 1) := by subst hM; rw [m_sS1, if_pos rfl, hN.2.2.1.1, nI_succ]
  have hA : x_Ag nD nK nG M M' := ⟨⟨h1' 1 (by omega), h1' 20 (by omega), h1' 21 (by omega)⟩, fun j _ _ i _ => by rw [har j (by omega)], fun j _ _ i hi => hix j i (by omega), fun j _ _ i _ => by rw [har j (by omega)]⟩
  have hlc : x_lc M' nD = x_lc M nD := x_lc_congr (har 6 (by omega)) nD
  refine x_Gr.of (k0 := 2) (T' := T) h hI (by omega) hsz hS hA rfl (fun i hi => rfl) (fun ad2 had => ?_) (h.objc hb hlc) ?_
  · show _ = x_key ad2 M' nK
    simp only [x_key, x_kr, x_kh, x_ku]
    rw [r10, r11, r12, r13, nI_clamp (by omega), had 0 r (by omega) hr]
    rfl
  · refine hI.grow (nR2 := nR) (nD2 := nD) (nK2 := nK + 1) (nG2 := nG) hA (by omega) (by omega) (by omega) ⟨by rw [h1' 0 (by omega)]; exact hN.1, by rw [h1' 2 (by omega)]; exact hN.2.1, ⟨h9, by omega⟩, by rw [h1' 14 (by omega)]; exact hN.2.2.2⟩ (fun d h1 h2 => absurd h1 (by omega)) (fun d h1 h2 => ?_) (fun d h1 h2 => absurd h1 (by omega)) ?_
    · have e : d = nK := by omega
      subst e
      exact ⟨⟨x, hx, r10⟩, Or.inl ⟨r11, r, hr, r12⟩, 0, by omega, r13⟩
    · rw [hlc]; exact hI.2.2.2.2.2.1
theorem x_Gr.group (h : x_R G ad nR nD nK nG M T H) (hI : m_I nR nD nK nG M) (hn : nG < 6) (hsz : sz ≤ H.size) {a aE r t : Nat} {z : Int32} (hr : r < nR) (ht : t ≤ 100000) (hS : x_St G ad 3 nG a aE (.inr (2, [.int (nI nG), .int z, .ref (ad 0 r), .int (nI t), .int 0, .int 0])) H H3) (hb : H3[ad 4 0]? = H[ad 4 0]?) : x_Gr G ad nR nD nK nG sz T (F_putGroup M z (nI r) (nI t)).2 H3 := by
  generalize hM : (F_putGroup M z (nI r) (nI t)).2 = M'
  have hN := hI.1
  have n1 := hN.1.2
  have e14 : (M.1 14).toNatClampNeg = nG := by rw [hN.2.2.2.1, nI_clamp (by omega)]
  have r15 : M'.2 15 nG = z := by subst hM; simp [F_putGroup, m_sS2, m_sA2, e14]
  have r16 : M'.2 16 nG = nI r := by subst hM; simp [F_putGroup, m_sS2, m_sA2, e14]
  have r17 : M'.2 17 nG = nI t := by subst hM; simp [F_putGroup, m_sS2, m_sA2, e14]
  have r18 : M'.2 18 nG = 0 := by subst hM; simp [F_putGroup, m_sS2, m_sA2, e14]
  have r19 : M'.2 19 nG = 0 := by subst hM; simp [F_putGroup, m_sS2, m_sA2, e14]
  have hix : ∀ j i, i ≠ nG → M'.2 j i = M.2 j i := fun j i hi => by subst hM; unfold F_putGroup; rw [e14]; show (m_sS _ _ _).2 j i = _; rw [m_sS2, m_sA_ix hi, m_sA_ix hi, m_sA_ix hi, m_sA_ix hi, m_sA_ix hi]
  have har : ∀ j, j < 15 ∨ 19 < j → M'.2 j = M.2 j := fun j hj => by subst hM; unfold F_putGroup; show (m_sS _ _ _).2 j = _; rw [m_sS2, m_sA_arr (by omega), m_sA_arr (by omega), m_sA_arr (by omega), m_sA_arr (by omega), m_sA_arr (by omega)]
  have h1' : ∀ j, j ≠ 14 → M'.1 j = M.1 j := fun j hj => by subst hM; unfold F_putGroup; show (m_sS _ _ _).1 j = _; rw [m_sS1, if_neg hj, m_sA1, m_sA1, m_sA1, m_sA1, m_sA1]
  have h14 : M'.1 14 = nI (nG + 1) := by subst hM; unfold F_putGroup; show (m_sS _ _ _).1 14 = _; rw [m_sS1, if_pos rfl, hN.2.2.2.1, nI_succ]
  have hA : x_Ag nD nK nG M M' := ⟨⟨h1' 1 (by omega), h1' 20 (by omega), h1' 21 (by omega)⟩, fun j _ _ i _ => by rw [har j (by omega)], fun j _ _ i hi => by rw [har j (by omega)], fun j _ _ i hi => hix j i (by omega)⟩
  have hlc : x_lc M' nD = x_lc M nD := x_lc_congr (har 6 (by omega)) nD
  refine x_Gr.of (k0 := 3) (T' := T) h hI (by omega) hsz hS hA rfl (fun i hi => rfl) (fun ad2 had => ?_) (h.objc hb hlc) ?_
  · show _ = x_group ad2 M' nG
    simp only [x_group]
    rw [r15, r16, r17, r18, r19, nI_clamp (by omega), had 0 r (by omega) hr]
  · refine hI.grow (nR2 := nR) (nD2 := nD) (nK2 := nK) (nG2 := nG + 1) hA (by omega) (by omega) (by omega) ⟨by rw [h1' 0 (by omega)]; exact hN.1, by rw [h1' 2 (by omega)]; exact hN.2.1, by rw [h1' 9 (by omega)]; exact hN.2.2.1, ⟨h14, by omega⟩⟩ (fun d h1 h2 => absurd h1 (by omega)) (fun d h1 h2 => absurd h1 (by omega)) (fun d h1 h2 => ?_) ?_
    · have e : d = nG := by omega
      subst e
      exact ⟨⟨r, hr, r16⟩, ⟨t, ht, r17⟩, Or.inl r19⟩
    · rw [hlc]; exact hI.2.2.2.2.2.1
theorem x_Gr.door (h : x_R G ad nR nD nK nG M T H) (hI : m_I nR nD nK nG M) (hn : nD < 16) (hsz : sz ≤ H.size) {a aE lo hi w0 : Nat} {x y w c u lb io : Int32} (hlo : (if x < y then x else y) = nI lo) (hhi : (if x < y then y else x) = nI hi) (hlt : lo < hi) (hr : hi < nR) (hw : w = nI w0) (hw1 : 1 ≤ w0) (hw2 : w0 ≤ 30)
    (hc : (c = -6 ∧ u = 0 ∧ lb = 0 ∧ io = 1) ∨ ((∃ x, x ≤ 5 ∧ c = nI x) ∧ (∃ v, 1 ≤ v ∧ v ≤ 60 ∧ u = nI v) ∧ lb = x_bit (nI (x_lc M nD)) ∧ io = 0 ∧ x_lc M nD < 10))
    (hS : x_St G ad 1 nD a aE (.inr (1, [.int (nI nD), .ref (ad 0 lo), .ref (ad 0 hi), .int w, .int (x_bit (nI lo) ||| x_bit (nI hi)), .int c, .int u, .int lb, .int io, .int 0])) H H3)
    (hobj : va_at G.1 vwCl (ad 4 0, .inr (6, [.ref (ad 4 1), .ref (ad 4 2), .ref (ad 4 3), .ref (ad 4 4), .ref (ad 4 9), va_rf (x_ex ad M), .int (nI (x_lc M nD + if c < 0 then 0 else 1)), .int (M.1 20), .int (M.1 21), .int (T.2.2.1 4)])) H3) : x_Gr G ad nR nD nK nG sz T (F_putDoor M x y w c u).2 H3 := by
  generalize hM : (F_putDoor M x y w c u).2 = M'
  have hN := hI.1
  have n1 := hN.1.2
  have e2 : (M.1 2).toNatClampNeg = nD := by rw [hN.2.1.1, nI_clamp (by omega)]
  have r3 : M'.2 3 nD = nI lo := by subst hM; rw [← hlo]; simp [F_putDoor, m_sS2, m_sA2, e2]
  have r4 : M'.2 4 nD = nI hi := by subst hM; rw [← hhi]; simp [F_putDoor, m_sS2, m_sA2, e2]
  have r5 : M'.2 5 nD = w := by subst hM; simp [F_putDoor, m_sS2, m_sA2, e2]
  have r6 : M'.2 6 nD = c := by subst hM; simp [F_putDoor, m_sS2, m_sA2, e2]
  have r7 : M'.2 7 nD = u := by subst hM; simp [F_putDoor, m_sS2, m_sA2, e2]
  have r8 : M'.2 8 nD = if c < 0 then 0 else -6 := by subst hM; simp [F_putDoor, m_sS2, m_sA2, e2]
  have hix : ∀ j i, i ≠ nD → M'.2 j i = M.2 j i := fun j i hi => by subst hM; unfold F_putDoor; rw [e2]; show (m_sS _ _ _).2 j i = _; rw [m_sS2, m_sA_ix hi, m_sA_ix hi, m_sA_ix hi, m_sA_ix hi, m_sA_ix hi, m_sA_ix hi]
  have har : ∀ j, j < 3 ∨ 8 < j → M'.2 j = M.2 j := fun j hj => by subst hM; unfold F_putDoor; show (m_sS _ _ _).2 j = _; rw [m_sS2, m_sA_arr (by omega), m_sA_arr (by omega), m_sA_arr (by omega), m_sA_arr (by omega), m_sA_arr (by omega), m_sA_arr (by omega)]
  have h1' : ∀ j, j ≠ 2 → M'.1 j = M.1 j := fun j hj => by subst hM; unfold F_putDoor; show (m_sS _ _ _).1 j = _; rw [m_sS1, if_neg hj, m_sA1, m_sA1, m_sA1, m_sA1, m_sA1, m_sA1]
  have h2' : M'.1 2 = nI (nD + 1) := by subst hM; unfold F_putDoor; show (m_sS _ _ _).1 2 = _; rw [m_sS1, if_pos rfl, hN.2.1.1, nI_succ]
  have hA : x_Ag nD nK nG M M' := ⟨⟨h1' 1 (by omega), h1' 20 (by omega), h1' 21 (by omega)⟩, fun j _ _ i hi => hix j i (by omega), fun j _ _ i hi => by rw [har j (by omega)], fun j _ _ i hi => by rw [har j (by omega)]⟩
  have hl0 : x_lc M' nD = x_lc M nD := x_lc_pre (fun i hi => hix 6 i (by omega))
  have hlc : x_lc M' (nD + 1) = x_lc M nD + if c < 0 then 0 else 1 := by
    show x_lc M' nD + (if M'.2 6 nD < 0 then 0 else 1) = _
    rw [hl0, r6]
  have hl10 := hI.2.2.2.2.2.1
  refine x_Gr.of (k0 := 1) (T' := T) h hI (by omega) hsz hS hA rfl (fun i hi => rfl) (fun ad2 had => ?_) ?_ ?_
  · show _ = x_door ad2 M' nD
    simp only [x_door, x_lb, x_op, x_ot]
    rw [r3, r4, r5, r6, r7, r8, hl0, nI_clamp (by omega), nI_clamp (by omega), had 0 lo (by omega) (by show lo < nR; omega), had 0 hi (by omega) hr]
    rcases hc with ⟨rfl, rfl, rfl, rfl⟩ | ⟨⟨v, hv, rfl⟩, -, rfl, rfl, -⟩
    · rfl
    · have hn0 : ¬ nI v < 0 := nI_pos (by omega)
      rw [if_neg hn0, if_neg hn0]
      rfl
  · show va_at G.1 vwCl (ad 4 0, .inr (6, [.ref (ad 4 1), .ref (ad 4 2), .ref (ad 4 3), .ref (ad 4 4), .ref (ad 4 9), va_rf (x_ex ad M), .int (nI (x_lc M' (nD + 1))), .int (M.1 20), .int (M.1 21), .int (T.2.2.1 4)])) H3
    rw [hlc]; exact hobj
  · refine hI.grow (nR2 := nR) (nD2 := nD + 1) (nK2 := nK) (nG2 := nG) hA (by omega) (by omega) (by omega) ⟨by rw [h1' 0 (by omega)]; exact hN.1, ⟨h2', by omega⟩, by rw [h1' 9 (by omega)]; exact hN.2.2.1, by rw [h1' 14 (by omega)]; exact hN.2.2.2⟩ (fun d h1 h2 => ?_) (fun d h1 h2 => absurd h1 (by omega)) (fun d h1 h2 => absurd h1 (by omega)) ?_
    · have e : d = nD := by omega
      subst e
      refine ⟨⟨lo, hi, hlt, hr, r3, r4⟩, ⟨w0, hw1, hw2, by rw [r5, hw]⟩, ?_⟩
      rw [r6, r7, r8]
      rcases hc with ⟨rfl, rfl, rfl, rfl⟩ | ⟨⟨v, hv, rfl⟩, ⟨v2, hv1, hv2, rfl⟩, -, -, -⟩
      · exact Or.inl ⟨rfl, rfl, rfl⟩
      · exact Or.inr ⟨⟨v, hv, rfl⟩, ⟨v2, hv1, hv2, rfl⟩, Or.inl (if_neg (nI_pos (by omega)))⟩
    · rw [hlc]
      rcases hc with ⟨rfl, -⟩ | ⟨-, -, -, -, hl⟩
      · rw [if_pos (by decide)]; exact hl10
      · split <;> omega
end XGR

