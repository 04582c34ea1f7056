/-! the law's side: the class's world by its state alone, rows of calls -/
def y_X (G : z_G) (ad : Nat → Nat → Nat) (nR nD nK nG : Nat) (M : m_S) (t4 : Int32) (H : Heap) : Prop := ∃ T : x_T, T.2.2.1 4 = t4 ∧ x_R G ad nR nD nK nG M T H
def y_Fr (ad : Nat → Nat → Nat) (nR nD nK nG : Nat) (H H' : Heap) : Prop := H.size ≤ H'.size ∧ ∀ q : Nat, q < H.size → ¬ x_A ad nR nD nK nG q → H'[q]? = H[q]?
theorem y_Fr.refl {ad : Nat → Nat → Nat} {nR nD nK nG : Nat} {H : Heap} : y_Fr ad nR nD nK nG H H := ⟨Nat.le_refl _, fun _ _ _ => rfl⟩
theorem y_Fr.trans {ad : Nat → Nat → Nat} {nR nD nK nG : Nat} {H H1 H2 : Heap} (h : y_Fr ad nR nD nK nG H H1) (h2 : y_Fr ad nR nD nK nG H1 H2) : y_Fr ad nR nD nK nG H H2 :=
  ⟨Nat.le_trans h.1 h2.1, fun q hq hn => (h2.2 q (Nat.lt_of_lt_of_le hq h.1) hn).trans (h.2 q hq hn)⟩
/-- the cells of one game from b0 on, its object at ax -/
def y_B (G : z_G) (b0 : Nat) (ad : Nat → Nat → Nat) (nR nD nK nG : Nat) (H : Heap) : Prop := (∀ k i, x_in nR nD nK nG k i → b0 ≤ ad k i) ∧ z_Es G H ∧ G.2 5 < b0 ∧ G.2 6 < b0 ∧ b0 ≤ H.size
def y_S (G : z_G) (b0 ax nR nD nK nG : Nat) (M : m_S) (t4 : Int32) (H : Heap) : Prop := ∃ ad : Nat → Nat → Nat, ad 4 0 = ax ∧ y_X G ad nR nD nK nG M t4 H ∧ y_B G b0 ad nR nD nK nG H
theorem y_B.xA {G : z_G} {b0 : Nat} {ad : Nat → Nat → Nat} {nR nD nK nG : Nat} {H : Heap} (h : y_B G b0 ad nR nD nK nG H) : ∀ q, x_A ad nR nD nK nG q → b0 ≤ q := by
  rintro q ⟨k, j, hj, rfl⟩
  exact h.1 k j hj
theorem y_B.fr {G : z_G} {b0 : Nat} {ad : Nat → Nat → Nat} {nR nD nK nG : Nat} {H H' : Heap} (h : y_B G b0 ad nR nD nK nG H) (hf : y_Fr ad nR nD nK nG H H') : y_B G b0 ad nR nD nK nG H' := by
  have hA := h.xA
  obtain ⟨h1, h2, h3, h4, h5⟩ := h
  exact ⟨h1, h2.kept (hf.2 _ (by omega) (fun q => by have := hA _ q; omega)) (hf.2 _ (by omega) (fun q => by have := hA _ q; omega)), h3, h4, Nat.le_trans h5 hf.1⟩
theorem y_S.of {G : z_G} {b0 : Nat} {ad : Nat → Nat → Nat} {nR nD nK nG : Nat} {M : m_S} {t4 : Int32} {H : Heap} (h : y_X G ad nR nD nK nG M t4 H) (hB : y_B G b0 ad nR nD nK nG H) : y_S G b0 (ad 4 0) nR nD nK nG M t4 H := ⟨ad, rfl, h, hB⟩
section YROWS
variable {p : Program} {l : Launch} {e : Env} {R : Room} {s : State} {m : MethodId} {args : Array Value} {below : List Frame} {meth : Method} {c : Code} {A : Nat → Prop} {n cells slots : Nat} {Q : State → Prop} {H : Heap} {pc : Nat} {L : List (Nat × Value)} {rest : List Value}
variable {cc : ByteArray} {own : String} {ret : Option FieldType} {nm : String} {G : z_G}
theorem z_irem (C : z_C p s m args meth c cc own ret n nm G) {x y : Int32} (hdg : decode cc pc = .ok (.irem, 1)) (hne : ¬ y = 0) (k : z_Z p l e R s m args below meth c A n cells slots Q H (pc + 1) L (.int (x - x / y * y) :: rest)) : z_Z p l e R s m args below meth c A n cells slots Q H pc L (.int y :: .int x :: rest) :=
  fun ls locs hl hS => lv_irem C.1 C.2.1 hdg hne (k ls locs hl hS)
/-- two ways that meet at J with a number on the stack -/
theorem z_join (J : Nat) (v : Int32) (kJ : z_Z p l e R s m args below meth c A n cells slots Q H J L (.int v :: rest)) (kb : z_Z p l e R s m args below meth c A n cells slots Q H J L (.int v :: rest) → z_Z p l e R s m args below meth c A n cells slots Q H pc L rest) : z_Z p l e R s m args below meth c A n cells slots Q H pc L rest := kb kJ
theorem z_joinE {v v' : Int32} (kJ : z_Z p l e R s m args below meth c A n cells slots Q H pc L (.int v :: rest)) (h : v' = v) : z_Z p l e R s m args below meth c A n cells slots Q H pc L (.int v' :: rest) := h ▸ kJ
/-- two ways that meet at J with nothing on the stack -/
theorem z_meet (J : Nat) {st : List Value} (kJ : z_Z p l e R s m args below meth c A n cells slots Q H J L rest) (kb : z_Z p l e R s m args below meth c A n cells slots Q H J L rest → z_Z p l e R s m args below meth c A n cells slots Q H pc L st) : z_Z p l e R s m args below meth c A n cells slots Q H pc L st := kb kJ
variable {ad : Nat → Nat → Nat} {ax nR nD nK nG : Nat} {M M' : m_S} {t4 t4' : Int32}
/-- a call of the class that only reads -/
theorem y_callR (C : z_C p s m args meth c cc own ret n nm G) {y : MethodName} {k idx maxL : Nat} {As : List Value} {bytes : ByteArray} {rt : Option FieldType} {val : Value} (hX : y_X G ad nR nD nK nG M t4 H) (hax : ad 4 0 = ax)
    (hM : ∀ T : x_T, T.2.2.1 4 = t4 → z_MR l y bytes maxL rt k (.ref (ad 4 0) :: As) G (fun H => x_R G ad nR nD nK nG M T H) val) (hT : z_cal y bytes maxL rt RX5 As.length) (hlk : Cond.methodLink own idx y ∈ z_B) (hR : k + 1 ≤ R.frames ∧ 8 + (maxL + 11) + 30 * k ≤ R.locals) (hf : cells ≤ R.cells ∧ slots ≤ R.slots) (hrest : (rest.map fun v => v.category).sum ≤ 8) (hdg : decode cc pc = .ok (.invokevirtual idx, 3))
    (kk : z_Z p l e R s m args below meth c A n cells slots Q H (pc + 3) L (val :: rest)) : z_Z p l e R s m args below meth c A n cells slots Q H pc L (As.reverse ++ .ref ax :: rest) := by
  subst hax
  obtain ⟨T, hT4, hx⟩ := hX
  exact z_callVR C (hM T hT4) hT hlk hR hx.1.1 rfl hx hf hrest hdg kk
/-- a call of the class that leaves the state M' -/
theorem y_callW (C : z_C p s m args meth c cc own ret n nm G) {y : MethodName} {k idx maxL : Nat} {As : List Value} {bytes : ByteArray} {rt : Option FieldType} {val : Value} {Q2 : x_T → Option Value → Heap → Heap → Prop} (hX : y_X G ad nR nD nK nG M t4 H) (hax : ad 4 0 = ax)
    (hM : ∀ T : x_T, T.2.2.1 4 = t4 → z_M l y bytes maxL rt k 0 0 (.ref (ad 4 0) :: As) G (fun H => x_R G ad nR nD nK nG M T H) (x_A ad nR nD nK nG) (Q2 T)) (hQ : ∀ T v H', T.2.2.1 4 = t4 → Q2 T v H H' → v = some val ∧ y_X G ad nR nD nK nG M' t4' H') (hA : ∀ q, x_A ad nR nD nK nG q → A q) (hT : z_cal y bytes maxL rt RX5 As.length) (hlk : Cond.methodLink own idx y ∈ z_B) (hR : k + 1 ≤ R.frames ∧ 8 + (maxL + 11) + 30 * k ≤ R.locals) (hf : cells ≤ R.cells ∧ slots ≤ R.slots) (hrest : (rest.map fun v => v.category).sum ≤ 8) (hdg : decode cc pc = .ok (.invokevirtual idx, 3))
    (kk : ∀ H', y_X G ad nR nD nK nG M' t4' H' → y_Fr ad nR nD nK nG H H' → z_Z p l e R s m args below meth c A n cells slots Q H' (pc + 3) L (val :: rest)) : z_Z p l e R s m args below meth c A n cells slots Q H pc L (As.reverse ++ .ref ax :: rest) := by
  subst hax
  obtain ⟨T, hT4, hx⟩ := hX
  exact z_callV C (hM T hT4) hT hlk hR hx.1.1 rfl hx hA hf hrest hdg (fun v H' hq h1 h2 => by obtain ⟨rfl, hX'⟩ := hQ T v H' hT4 hq; exact kk H' hX' ⟨h1, h2⟩)
theorem m_I.uniq {nR2 nD2 nK2 nG2 : Nat} (h : m_I nR nD nK nG M) (h2 : m_I nR2 nD2 nK2 nG2 M) : nR2 = nR ∧ nD2 = nD ∧ nK2 = nK ∧ nG2 = nG := by
  obtain ⟨⟨⟨a1, b1⟩, ⟨a2, b2⟩, ⟨a3, b3⟩, a4, b4⟩, -⟩ := h
  obtain ⟨⟨⟨c1, d1⟩, ⟨c2, d2⟩, ⟨c3, d3⟩, c4, d4⟩, -⟩ := h2
  exact ⟨(nI_inj (by omega) (by omega)).mp (c1.symm.trans a1), (nI_inj (by omega) (by omega)).mp (c2.symm.trans a2), (nI_inj (by omega) (by omega)).mp (c3.symm.trans a3), (nI_inj (by omega) (by omega)).mp (c4.symm.trans a4)⟩
/-- a call of the class that may make a thing more -/
theorem y_callG (C : z_C p s m args meth c cc own ret n nm G) {b0 : Nat} {y : MethodName} {k idx maxL : Nat} {As : List Value} {bytes : ByteArray} {rt : Option FieldType} {val : Value} (hX : y_X G ad nR nD nK nG M t4 H) (hax : ad 4 0 = ax) (hB : y_B G b0 ad nR nD nK nG H)
    (hM : ∀ T : x_T, T.2.2.1 4 = t4 → x_out G ad nR nD nK nG → z_M l y bytes maxL rt k 2 34 (.ref (ad 4 0) :: As) G (fun H1 => H1.size = H.size ∧ x_R G ad nR nD nK nG M T H1 ∧ z_Es G H1) (fun q => x_A ad nR nD nK nG q ∨ H.size ≤ q) (fun v _ H' => v = some val ∧ x_Gr G ad nR nD nK nG H.size T M' H')) (hA : ∀ q, b0 ≤ q → A q) (hT : z_cal y bytes maxL rt RX5 As.length) (hlk : Cond.methodLink own idx y ∈ z_B) (hR : k + 1 ≤ R.frames ∧ 8 + (maxL + 11) + 30 * k ≤ R.locals) (hf : cells + 2 ≤ R.cells ∧ slots + 34 ≤ R.slots) (hrest : (rest.map fun v => v.category).sum ≤ 8) (hdg : decode cc pc = .ok (.invokevirtual idx, 3))
    (kk : ∀ H' ad2 nR2 nD2 nK2 nG2, ad2 4 0 = ax → y_X G ad2 nR2 nD2 nK2 nG2 M' t4 H' → m_I nR2 nD2 nK2 nG2 M' → y_B G b0 ad2 nR2 nD2 nK2 nG2 H' → z_Z p l e R s m args below meth c A n (cells + 2) (slots + 34) Q H' (pc + 3) L (val :: rest)) : z_Z p l e R s m args below meth c A n cells slots Q H pc L (As.reverse ++ .ref ax :: rest) := by
  subst hax
  obtain ⟨T, hT4, hx⟩ := hX
  have hxA := hB.xA
  obtain ⟨b1, b2, b3, b4, b5⟩ := hB
  have hout : x_out G ad nR nD nK nG := fun k i hi => ⟨by have := b1 k i hi; omega, by have := b1 k i hi; omega⟩
  refine z_callV C (hM T hT4 hout) hT hlk hR hx.1.1 rfl ⟨rfl, hx, b2⟩ (fun q hq => hA q ?_) hf hrest hdg (fun v H' hq h1 h2 => ?_)
  · rcases hq with hq | hq
    · exact hxA q hq
    · omega
  · obtain ⟨rfl, ad2, T2, nR2, nD2, nK2, nG2, g1, g2, g3, g4, g5⟩ := hq
    have hn : ∀ q : Nat, q < b0 → H'[q]? = H[q]? := fun q hq => h2 q (by omega) (fun z => by
      rcases z with z | z
      · have := hxA q z; omega
      · omega)
    refine kk H' ad2 nR2 nD2 nK2 nG2 g4 ⟨T2, g3.trans hT4, g1⟩ g2 ⟨fun k i hi => ?_, b2.kept (hn _ b4) (hn _ b3), b3, b4, Nat.le_trans b5 h1⟩
    rcases g5 k i hi with z | z
    · omega
    · exact hxA _ z
end YROWS
theorem y_qS {G : z_G} {ad : Nat → Nat → Nat} {nR nD nK nG : Nat} {M : m_S} {t4 : Int32} {val : Value} {T : x_T} {v : Option Value} {H' : Heap} (hT : T.2.2.1 4 = t4) (h : v = some val ∧ ∃ T' : x_T, T'.2.2.1 4 = T.2.2.1 4 ∧ x_R G ad nR nD nK nG M T' H') : v = some val ∧ y_X G ad nR nD nK nG M t4 H' := by
  obtain ⟨h1, T', h2, h3⟩ := h
  exact ⟨h1, T', h2.trans hT, h3⟩
theorem y_qW {G : z_G} {ad : Nat → Nat → Nat} {nR nD nK nG : Nat} {M : m_S} {t4 : Int32} {val : Value} {T : x_T} {v : Option Value} {H' : Heap} (hT : T.2.2.1 4 = t4) (h : v = some val ∧ x_R G ad nR nD nK nG M T H') : v = some val ∧ y_X G ad nR nD nK nG M t4 H' := ⟨h.1, T, hT, h.2⟩
