/-! the empty array that all new lists share -/
/-- at a lies an array of objects of n places (a weak word: what the places hold is not said) -/
def z_Al (G : z_G) (a n : Nat) (H : Heap) : Prop := ∃ cell : Cell, H[a]? = some cell ∧ cell.cls = G.2 3 ∧ (∀ k, cell.vm ≠ .statics k) ∧ cell.slots.size.toInt32 = Int32.ofNat n ∧ cell.vm ≠ .unknown
theorem z_Al.kept {G : z_G} {a n : Nat} {H H' : Heap} (h : z_Al G a n H) (hk : H'[a]? = H[a]?) : z_Al G a n H' := by
  obtain ⟨cell, c1, c2⟩ := h
  exact ⟨cell, hk.trans c1, c2⟩
theorem z_Al.lt {G : z_G} {a n : Nat} {H : Heap} (h : z_Al G a n H) : a < H.size := by
  obtain ⟨cell, c1, -⟩ := h
  exact (Array.getElem?_eq_some_iff.mp c1).1
theorem z_Al.of {G : z_G} {a n : Nat} {f : Nat → Option Nat} {H : Heap} (h : va_at G.1 vwCl (a, .inl (G.2 3, n, .inr (.inr (.inr (.inr f))))) H) : z_Al G a n H :=
  ⟨_, h, rfl, (fun _ q => by cases q), (by show (arrV _ _ _).slots.size.toInt32 = _; rw [arrV_size]), (fun q => by cases q)⟩
def z_Es (G : z_G) (H : Heap) : Prop := (∃ cell : Cell, H[G.2 6]? = some cell ∧ cell.vm.isStatics = true ∧ cell.slots[G.2 7]? = some (.ref (G.2 5))) ∧ z_Al G (G.2 5) 0 H
theorem z_Es.kept {G : z_G} {H H' : Heap} (h : z_Es G H) (h6 : H'[G.2 6]? = H[G.2 6]?) (h5 : H'[G.2 5]? = H[G.2 5]?) : z_Es G H' := by
  obtain ⟨⟨cell, c1, c2⟩, c3⟩ := h
  exact ⟨⟨cell, h6.trans c1, c2⟩, c3.kept h5⟩
section KST
variable {p : Program} {l : Launch} {e : Env} {R : Room} {s : State} {m : MethodId} {args : Array Value} {below : List Frame} {meth : Method} {c : Code} {A : Nat → Prop} {n cells slots : Nat} {Q : State → Prop} {H : Heap} {pc : Nat} {L : List (Nat × Value)} {rest : List Value}
variable {cc : ByteArray} {own : String} {ret : Option FieldType} {nm : String} {G : z_G}
theorem z_gets (C : z_C p s m args meth c cc own ret n nm G) {index : Nat} (hE : z_Es G s.heap) (hA : ¬ A (G.2 6)) (hw : Cond.fieldLink own index "java/util/ArrayList" "DEFAULTCAPACITY_EMPTY_ELEMENTDATA" "[Ljava/lang/Object;" ∈ z_B) (hdg : decode cc pc = .ok (.getstatic index, 3))
    (kk : z_Z p l e R s m args below meth c A n cells slots Q H (pc + 3) L (.ref (G.2 5) :: rest)) : z_Z p l e R s m args below meth c A n cells slots Q H pc L rest := by
  intro ls locs hl hS
  obtain ⟨cf, kf, fi, f, h1, h2, h3, h4, h5⟩ := C.2.2.2.2.2.2.1.2.2.2.2.2.2.2
  obtain ⟨⟨cell, c1, c2, c3⟩, -⟩ := hE
  exact va_gets C.1 C.2.1 (C := "java/util/ArrayList") (n := "DEFAULTCAPACITY_EMPTY_ELEMENTDATA") (d := "[Ljava/lang/Object;") ⟨cf, kf, fi, f, G.2 6, cell, h1, h2, h3, h4, c1, c2, by rw [h5]; exact c3, hA⟩ hS C.2.2.2.2.1 (C.2.2.2.2.2.1 _ hw) (fun x hx => hx) hdg (kk ls locs hl hS)
theorem z_alenE (C : z_C p s m args meth c cc own ret n nm G) {a N : Nat} (h : z_Al G a N H) (hdg : decode cc pc = .ok (.arraylength, 1)) (kk : z_Z p l e R s m args below meth c A n cells slots Q H (pc + 1) L (.int (nI N) :: rest)) : z_Z p l e R s m args below meth c A n cells slots Q H pc L (.ref a :: rest) := by
  intro ls locs hl hS
  obtain ⟨cell, c1, c2, c3, c4, -⟩ := h
  obtain ⟨kA, comp, r1, r2, -⟩ := (C.2.2.2.2.2.2.1.1.2 3 _ rfl).2
  exact W.alen (n := Int32.ofNat N) C.1 C.2.1 c1 ⟨c3, kA, by rw [c2]; exact r1, comp, r2⟩ c4 rfl rfl hdg (kk ls locs hl hS)
end KST

