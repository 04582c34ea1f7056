/-! rows of arrays of references: made, stored into, copied; the class of one -/
section ARW
variable {p : Program} {l : Launch} {e : Env} {R : Room} {s : State} {m : MethodId} {args : Array Value} {below : List Frame} {meth : Method} {c : Code} {A : Nat → Prop} {n cells slots : Nat} {Q : State → Prop} {H : Heap} {pc : Nat} {L : List (Nat × Value)} {rest : List Value}
variable {cc : ByteArray} {own : String} {ret : Option FieldType} {nm : String} {G : z_G}
def z_aq (G : z_G) (N : Nat) (f : Nat → Option Nat) : va_E := .inl (G.2 3, N, .inr (.inr (.inr (.inr f))))
theorem z_newq (C : z_C p s m args meth c cc own ret n nm G) {index : Nat} (hw : Cond.classLink own index "java/lang/Object" ∈ z_B) {i : Int32} (N : Nat) (hn : ¬ i < 0) (hN : i.toNatClampNeg = N) (hbytes : N * 4 ≤ 536870912) (hcells : cells + 1 ≤ R.cells) (hslots : slots + N ≤ R.slots) (hdg : decode cc pc = .ok (.anewarray index, 3))
    (kk : ∀ (q : Nat) (H' : Heap), z_N G q (z_aq G N (fun _ => none)) H H' → z_Z p l e R s m args below meth c A n (cells + 1) (slots + N) Q H' (pc + 3) L (.ref q :: rest)) : z_Z p l e R s m args below meth c A n cells slots Q H pc L (.int i :: rest) := by
  intro ls locs hl0 hS
  subst hN
  have K := C.2.2.2.2.2.2.1
  refine W.anew C.1 C.2.1 C.2.2.2.2.1 (C.2.2.2.2.2.1 _ hw) (va_AO.use K.2.2.2.2.1) rfl hdg rfl hn hbytes hcells hslots fun cA kA comp f1 f2 f3 f4 => ?_
  obtain ⟨-, -, -, -, -, -, h4⟩ := K.1.2 3 _ rfl
  have hcy : cA = G.2 3 := Option.some.inj (f1.symm.trans h4)
  subst hcy
  generalize hH1 : H.push ({ cls := G.2 3, slots := Array.replicate i.toNatClampNeg .null, vm := .none } : Cell) = H1
  have z1 : H1.size = H.size + 1 := by rw [← hH1, Array.size_push]
  have e1 : H1[H.size]? = some (arrV (G.2 3) i.toNatClampNeg (fun _ => .null)) := by rw [← hH1, Array.getElem?_push_size, ← arrV_new]
  have o1 : ∀ q : Nat, q < H.size → H1[q]? = H[q]? := fun q hq => by rw [← hH1, Array.getElem?_push, if_neg (Nat.ne_of_lt hq)]
  refine kk H.size H1 ⟨rfl, ?_, z1, o1⟩ ls locs hl0 ⟨Nat.le_trans hS.1 (by omega), fun x h1 h2 => (o1 x (Nat.lt_of_lt_of_le h1 hS.1)).trans (hS.2.1 x h1 h2), hS.2.2⟩
  show H1[H.size]? = some (vp_cell _ _)
  rw [vp_cell_q]
  exact e1
theorem z_astq (C : z_C p s m args meth c cc own ret n nm G) {a N v ci : Nat} {q : vw_C} {fs : List Value} {f : Nat → Option Nat} (hat : va_at G.1 vwCl (a, z_aq G N f) H) (hA : A a) {i : Int32} {j : Nat} (hi : vp_in i N) (hj : i.toNatClampNeg = j) (hv : va_at G.1 vwCl (v, .inr (ci, fs)) H) (hc : vwCl[ci]? = some q) (hO : z_KO q.1 s) (hdg : decode cc pc = .ok (.aastore, 1))
    (kk : ∀ H' : Heap, z_U G a (z_aq G N (va_up f j (some v))) H H' → z_Z p l e R s m args below meth c A n cells slots Q H' (pc + 1) L rest) : z_Z p l e R s m args below meth c A n cells slots Q H pc L (.ref v :: .int i :: .ref a :: rest) := by
  intro ls locs hl0 hS
  subst hj
  have K := C.2.2.2.2.2.2.1.1
  have hlt : i.toNatClampNeg < N := Nat.not_le.mp fun z => hi (Or.inr z)
  have h0 : ¬ i < 0 := fun z => hi (Or.inl z)
  obtain ⟨cellV, g1, g3, g2⟩ := va_recv K (z_P1 hv) hc (q0 := 0) rfl
  obtain ⟨kA, comp, k1, k2, k3, -⟩ := (K.2 3 _ rfl).2
  obtain ⟨kE, hkE, -⟩ := Vm.findClass_spec k3
  obtain ⟨kC, hkC, -⟩ := Vm.findClass_spec g2
  refine W.aast C.1 C.2.1 hat (fun q h => by cases h) (fun h => by cases h) k1 k2 rfl hkE ⟨h0, by show _ < (arrV _ _ _).slots.size; rw [arrV_size]; exact hlt⟩ g1 (fun q h => by rw [h] at g3; cases g3) hkC (vb_asgC hO _ _ k3 g2) rfl rfl hdg fun H1 e1 z1 oq => ?_
  refine kk H1 ⟨?_, z1, oq⟩ ls _ hl0 (hS.put z1 oq hA)
  show H1[a]? = some (vp_cell _ _)
  rw [e1, vp_cell_q, vp_cell_q, arrV_store]
  congr 2
  funext q
  by_cases hq : q = i.toNatClampNeg
  · subst hq
    simp [updV, va_up, va_rf]
  · simp [updV, va_up, hq]
theorem z_ldcM (C : z_C p s m args meth c cc own ret n nm G) {index : Nat} (hw : Cond.classLink own index "[Ljava/lang/Object;" ∈ z_B) (hdg : decode cc pc = .ok (.ldc index, 2)) (kk : z_Z p l e R s m args below meth c A n cells slots Q H (pc + 2) L (.ref (G.2 4) :: rest)) : z_Z p l e R s m args below meth c A n cells slots Q H pc L rest :=
  fun ls locs hl hS => va_ldcM C.1 C.2.1 C.2.2.2.2.1 (C.2.2.2.2.2.1 _ hw) C.2.2.2.2.2.2.1.2.2.2.2.2.1 hdg (kk ls locs hl hS)
theorem z_getC (C : z_C p s m args meth c cc own ret n nm G) {index a N : Nat} {f : Nat → Option Nat} (hat : va_at G.1 vwCl (a, z_aq G N f) H) (hw : Cond.methodLink own index ⟨"java/lang/Object", "getClass", "()Ljava/lang/Class;"⟩ ∈ z_B) (hf : 1 ≤ R.frames) (hlo : (rest.map fun v => v.category).sum + 14 ≤ R.locals) (hdg : decode cc pc = .ok (.invokevirtual index, 3))
    (kk : z_Z p l e R s m args below meth c A n cells slots Q H (pc + 3) L (.ref (G.2 4) :: rest)) : z_Z p l e R s m args below meth c A n cells slots Q H pc L (.ref a :: rest) := by
  intro ls locs hl hS
  have K := C.2.2.2.2.2.2.1
  have hts := C.2.2.2.2.2.1
  refine va_getC C.1 C.2.1 (C.2.2.2.1.trans hl.1.symm) C.2.2.2.2.1 (hts _ hw) (va_Dc.use K.2.2.2.2.2.2.1) (hts _ wb_958) (hts _ wb_185) (hts _ wb_195) K.2.2.2.2.2.1 ⟨_, hat, rfl, ?_⟩ hf hlo hdg (kk ls locs hl hS)
  exact va_nmO (K.1.2 3 _ rfl).2 (by decide)
/-- System.arraycopy of all n0 references of a row to the start of another one -/
theorem z_copyq (C : z_C p s m args meth c cc own ret n nm G) {index a0 a n0 N ci : Nat} {q : vw_C} {f g : Nat → Option Nat} (h0 : va_at G.1 vwCl (a0, z_aq G n0 f) H) (hat : va_at G.1 vwCl (a, z_aq G N g) H) (hA : A a) (hw : Cond.methodLink own index arraycopyName ∈ z_B) (hn : n0 ≤ N) (hb : n0 < 2 ^ 31) (hc : vwCl[ci]? = some q) (hO : z_KO q.1 s) (hel : ∀ i, i < n0 → ∀ y, f i = some y → ∃ fs, va_at G.1 vwCl (y, .inr (ci, fs)) H) (hf : 1 ≤ R.frames) (hlo : (rest.map fun v => v.category).sum + (nativeFrameWords "java/lang/System" "arraycopy" 5 + 11) ≤ R.locals) (hdg : decode cc pc = .ok (.invokestatic index, 3))
    (kk : ∀ H' : Heap, z_U G a (z_aq G N (va_cpy f g 0 0 n0)) H H' → z_Z p l e R s m args below meth c A n cells slots Q H' (pc + 3) L rest) : z_Z p l e R s m args below meth c A n cells slots Q H pc L (.int (nI n0) :: .int 0 :: .ref a :: .int 0 :: .ref a0 :: rest) := by
  intro ls locs hl0 hS T hT X
  have hts := C.2.2.2.2.2.1
  have K := C.2.2.2.2.2.2.1.1
  have hc0 : H[a0]? = some (vp_cell (G.2 3) (n0, .inr (.inr (.inr (.inr f))))) := h0
  have hc1 : H[a]? = some (vp_cell (G.2 3) (N, .inr (.inr (.inr (.inr g))))) := hat
  obtain ⟨-, k0, hk0, cm0, hkk0⟩ := (K.2 3 _ rfl).1 n0 (fun j => va_rf (f j))
  obtain ⟨kA, comp, r1, r2, r3, -⟩ := (K.2 3 _ rfl).2
  have hz : (0 : Int32).toNatClampNeg = 0 := rfl
  have hcl : (nI n0).toNatClampNeg = n0 := nI_clamp hb
  have hti : (nI n0).toInt = (n0 : Int) := nI_toInt hb
  have ht0 : (0 : Int32).toInt = 0 := rfl
  obtain ⟨vm', X', step⟩ := X.arraycopy C.1 C.2.2.2.2.1 (hts _ hw) (hts _ wb_207) (hts _ wb_206) (hts _ wb_11) (src := a0) (dst := a) (cs := vp_cell (G.2 3) (n0, .inr (.inr (.inr (.inr f))))) (cd := vp_cell (G.2 3) (N, .inr (.inr (.inr (.inr g))))) (srcPos := 0) (destPos := 0) (n := nI n0) (by rw [hT]; exact hc0) (by rw [hT]; exact hc1)
    (fun _ h => by cases h) (fun _ h => by cases h) (fun h => by cases h) (fun h => by cases h) r1 r1 r2 r2 rfl (by decide) (by decide) (nI_pos hb)
    (by rw [ht0, hti]; show ¬ _ > ((arrV (G.2 3) n0 (fun j => va_rf (f j))).slots.size : Int); rw [arrV_size]; omega)
    (by rw [ht0, hti]; show ¬ _ > ((arrV (G.2 3) N (fun j => va_rf (g j))).slots.size : Int); rw [arrV_size]; omega)
    (fun vm₁ hal i hi => by
      rw [hcl] at hi
      have e1 : (vp_cell (G.2 3) (n0, .inr (.inr (.inr (.inr f))))).slots.getD ((0 : Int32).toNatClampNeg + i) .null = va_rf (f i) := by
        show (arrV (G.2 3) n0 (fun j => va_rf (f j))).slots.getD _ _ = _
        rw [hz, Nat.zero_add, Array.getD_eq_getD_getElem?, arrV_read _ _ hi]
        rfl
      rw [e1]
      cases hy : f i with
      | none => exact ⟨rfl, trivial⟩
      | some y =>
        obtain ⟨fs, hv⟩ := hel i hi y hy
        obtain ⟨cellV, g1, g2, g3⟩ := va_recv K (z_P1 hv) hc (q0 := 0) rfl
        obtain ⟨kC, hkC, -⟩ := Vm.findClass_spec g3
        obtain ⟨kE, hkE, -⟩ := Vm.findClass_spec r3
        obtain ⟨kC', hkC', -⟩ := hal.2.2 _ _ hkC
        obtain ⟨kE', hkE', -⟩ := hal.2.2 _ _ hkE
        refine ⟨rfl, cellV, (show T.heap[y]? = some cellV by rw [hT]; exact g1), (fun q h => by rw [h] at g2; cases g2), ⟨kC', hkC'⟩, ⟨kE', hkE'⟩, ?_⟩
        show vm₁.assignable _ _ = true
        rw [hal.assignable]
        exact vb_asgC hO _ _ r3 g3)
    (g := F0 m pc ls (.int (nI n0) :: .int 0 :: .ref a :: .int 0 :: .ref a0 :: rest)) rfl (by rw [C.2.2.2.1]; exact hl0.1) (rest := rest) rfl (by rw [C.2.1]; exact hdg) hf (by show 2 * 0 + _ + _ ≤ _; omega)
  have e1 : copied (vp_cell (G.2 3) (n0, .inr (.inr (.inr (.inr f))))) (vp_cell (G.2 3) (N, .inr (.inr (.inr (.inr g))))) 0 0 (nI n0) = vp_cell (G.2 3) (N, .inr (.inr (.inr (.inr (va_cpy f g 0 0 n0))))) := by
    rw [vp_cell_q, vp_cell_q, vp_cell_q]
    have := va_copied (fun z => va_rf z) (G.2 3) (G.2 3) (n0 := n0) (n1 := N) (sp := 0) (dp := 0) (n := n0) f g (by omega)
    rw [← this]
    unfold copied
    rw [hcl, hz]
  rw [e1] at X' step
  have hl : a < H.size := (Array.getElem?_eq_some_iff.mp hc1).1
  generalize hCe : vp_cell (G.2 3) (N, .inr (.inr (.inr (.inr (va_cpy f g 0 0 n0))))) = ce at X' step
  have hheap : ((T.setVm vm').setCell a ce).heap = H.setIfInBounds a ce := by rw [← hT]; rfl
  have oq : ∀ q : Nat, q ≠ a → (H.setIfInBounds a ce)[q]? = H[q]? := fun q hq => by simp [Array.getElem?_setIfInBounds, Ne.symm hq]
  obtain ⟨t, a1, b1⟩ := kk (H.setIfInBounds a ce) ⟨(by show (H.setIfInBounds a ce)[a]? = some _; rw [← hCe]; simp [Array.getElem?_setIfInBounds, hl]), by simp, oq⟩ ls _ hl0 ⟨by simp; exact hS.1, fun q g1 g2 => by
      rw [oq q (fun e => g2 (by rw [e]; exact hA))]
      exact hS.2.1 q g1 g2, fun q hq => by
      rcases List.mem_append.mp hq with h | h
      · exact hS.2.2 q h
      · obtain ⟨z, -, hz⟩ := List.mem_map.mp h
        rw [← hz]
        exact hA⟩ _ hheap X'
  exact ⟨t, step t a1, b1⟩
end ARW

