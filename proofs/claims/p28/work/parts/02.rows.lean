/-! A thin layer over the kit: one judgement z_Z that hides the slots and the frame, contracts z_M over the real heap, and a row an instruction. -/
/-- numbers of the launch: class ids and slots, and: 0 the class of int[], 1 of long[], 2 of boolean[], 3 of Object[], 4 the mirror of Object[], 5 the cell of ArrayList's empty array, 6 the cell and 7 the slot of the static that holds it -/
abbrev z_G : Type := va_G × (Nat → Nat)
def z_tys (G : z_G) : List (ClassId × FieldType) := [(G.2 0, .int), (G.2 1, .long), (G.2 0, .int), (G.2 3, .object "java/lang/Object")]
def z_KO (C : String) (U : State) : Prop := va_Nw (.castable C "java/lang/Object") U
def z_Kst (G : z_G) (U : State) : Prop := ∃ (cf : ClassId) (kf : Class) (fi : Nat) (f : Field), U.fieldFound? "java/util/ArrayList" "DEFAULTCAPACITY_EMPTY_ELEMENTDATA" "[Ljava/lang/Object;" = some (cf, kf, fi, f) ∧ f.isStatic = true ∧ kf.init = .initialized ∧ kf.statics = some (G.2 6) ∧ f.slot = G.2 7
/-- what the tables say of the classes, and goes along with every call -/
def z_K (G : z_G) (U : State) : Prop :=
  va_K G.1 vwCl (z_tys G) U ∧ (z_KO RX0 U ∧ z_KO RX1 U ∧ z_KO RX2 U ∧ z_KO RX4 U) ∧ va_Nw (.methodLinkNest RX3 34 yX5_openLocks RX5) U ∧ va_Nw (.methodLinkNest RX3 77 yX5_spread RX5) U ∧ va_AO "java/lang/Object" U ∧ va_Mi "[Ljava/lang/Object;" (G.2 4) U ∧ va_Dc U ∧ z_Kst G U
theorem z_Kst.moved {G : z_G} {u U : State} (hvm : u.vm.Alike U.vm) (h : z_Kst G u) : z_Kst G U := by
  obtain ⟨cf, kf, fi, f, h1, h2, h3, h4, h5⟩ := h
  obtain ⟨k', hi', he⟩ := State.fieldFound?_setVm hvm h1
  exact ⟨cf, k', fi, f, hi', h2, by rw [he]; exact h3, by rw [he]; exact h4, h5⟩
theorem z_K.warm {G : z_G} {s U : State} (hW : s.WarmedH U.vm) (h : z_K G s) : z_K G U := by
  obtain ⟨h1, ⟨a1, a2, a3, a4⟩, b1, b2, c1, c2, c3, c4⟩ := h
  exact ⟨h1.moved hW.alike, ⟨va_Nw.warmC hW a1, va_Nw.warmC hW a2, va_Nw.warmC hW a3, va_Nw.warmC hW a4⟩, va_Nw.warmM hW b1, va_Nw.warmM hW b2, c1.moved hW.alike, c2.moved hW.alike, c3.moved hW.alike, c4.moved hW.alike⟩
theorem z_K.calling {G : z_G} {U : State} (g : JFrame) (mk : MethodId) (a : Array Value) (h : z_K G U) : z_K G (U.calling g mk a) := by
  obtain ⟨h1, ⟨a1, a2, a3, a4⟩, b1, b2, c1, c2, c3, c4⟩ := h
  have al : U.vm.Alike (U.calling g mk a).vm := Vm.Alike.refl U.vm
  exact ⟨h1.moved al, ⟨a1.same rfl rfl, a2.same rfl rfl, a3.same rfl rfl, a4.same rfl rfl⟩, b1.same rfl rfl, b2.same rfl rfl, c1.moved al, c2.moved al, c3.moved al, c4.moved al⟩
/-- the empty array of ArrayList and the static that holds it -/
def z_S (G : z_G) (H : Heap) : Prop := (∃ cell : Cell, H[G.2 6]? = some cell ∧ cell.vm.isStatics = true ∧ cell.slots[G.2 7]? = some (.ref (G.2 5))) ∧ ∃ cell : Cell, H[G.2 5]? = some cell ∧ cell.cls = G.2 3 ∧ cell.slots.size = 0 ∧ cell.vm ≠ .unknown
/-- what holds in a method's body all along -/
def z_C (p : Program) (s : State) (m : MethodId) (args : Array Value) (meth : Method) (c : Code) (cc : ByteArray) (own : String) (ret : Option FieldType) (n : Nat) (nm : String) (G : z_G) : Prop :=
  p.tables.exec = Jvm.exec ∧ c.code = cc ∧ meth.sig.returnType = ret ∧ c.maxLocals = n ∧ s.vm.findClass own = some m.cls ∧ (∀ w ∈ z_B, w.before args s = true) ∧ z_K G s ∧ meth.locks = false ∧ meth.name = nm
/-- the judgement -/
def z_Z (p : Program) (l : Launch) (e : Env) (R : Room) (s : State) (m : MethodId) (args : Array Value) (below : List Frame) (meth : Method) (c : Code) (A : Nat → Prop) (n cells slots : Nat) (Q : State → Prop) (H : Heap) (pc : Nat) (L : List (Nat × Value)) (st : List Value) : Prop :=
  ∀ (ls : Array Slot) (locs : List Loc), lv_has ls n L → va_S A s.heap H locs → W p l e R s m args below meth c H locs cells slots Q (F0 m pc ls st)
/-- a method's end -/
def z_Q (Q : Option Value → Heap → Heap → Prop) (A : Nat → Prop) : Array Value → State → Outcome → State → Prop := fun _ st oc t => (∃ v : Option Value, oc = .returned v ∧ Q v st.heap t.heap) ∧ va_F A st t
def z_rm (k mc ms : Nat) : Room := { frames := k, cells := mc, slots := ms, locals := 30 * k }
/-- a contract: any heap with P, any caller; mc cells of ms slots may come, A is what may change -/
def z_M (l : Launch) (y : MethodName) (cc : ByteArray) (nL : Nat) (rt : Option FieldType) (k mc ms : Nat) (av : List Value) (G : z_G) (P : Heap → Prop) (A : Nat → Prop) (Q : Option Value → Heap → Heap → Prop) : Prop :=
  Met l y (Cond.code y cc nL rt :: z_B) (z_rm k mc ms) (va_Pc av (fun U => P U.heap ∧ z_K G U)) (z_Q Q A) mc ms A
/-- a contract of a method that only reads -/
def z_MR (l : Launch) (y : MethodName) (cc : ByteArray) (nL : Nat) (rt : Option FieldType) (k : Nat) (av : List Value) (G : z_G) (P : Heap → Prop) (val : Value) : Prop :=
  z_M l y cc nL rt k 0 0 av G P (fun _ => False) (fun v H H' => v = some val ∧ H' = H)
/-- one cell has become e, the others stay -/
def z_U (G : z_G) (a : Nat) (e : va_E) (H H' : Heap) : Prop := va_at G.1 vwCl (a, e) H' ∧ H'.size = H.size ∧ ∀ q : Nat, q ≠ a → H'[q]? = H[q]?
/-- one cell has come -/
def z_N (G : z_G) (a : Nat) (e : va_E) (H H' : Heap) : Prop := a = H.size ∧ va_at G.1 vwCl (a, e) H' ∧ H'.size = H.size + 1 ∧ ∀ q : Nat, q < H.size → H'[q]? = H[q]?
theorem z_at_keep {G : z_G} {a b : Nat} {e e2 : va_E} {H H' : Heap} (hU : z_U G a e H H') (h : va_at G.1 vwCl (b, e2) H) (hne : b ≠ a) : va_at G.1 vwCl (b, e2) H' := h.kept (hU.2.2 b hne)
theorem z_at_new {G : z_G} {a b : Nat} {e e2 : va_E} {H H' : Heap} (hN : z_N G a e H H') (h : va_at G.1 vwCl (b, e2) H) : va_at G.1 vwCl (b, e2) H' := h.kept (hN.2.2.2 b h.lt)
theorem z_at_in {G : z_G} {a : Nat} {o o2 : va_E} {H : Heap} (h : va_at G.1 vwCl (a, o) H) : a < H.size := h.lt
theorem z_P1 {D : va_G} {a : Nat} {e : va_E} {H : Heap} (h : va_at D vwCl (a, e) H) : va_P D vwCl [(a, e)] H := by
  intro k q hk
  match k, hk with
  | 0, hk => cases hk; exact h
  | k + 1, hk => simp at hk
/-! locals -/
def z_lg (L : List (Nat × Value)) (k : Nat) : Option Value := match L with
  | [] => none
  | q :: r => bif Nat.beq q.1 k then some q.2 else z_lg r k
theorem z_lg_mem : ∀ {L : List (Nat × Value)} {k : Nat} {v : Value}, z_lg L k = some v → (k, v) ∈ L
  | [], k, v, h => by cases h
  | q :: r, k, v, h => by
    unfold z_lg at h
    by_cases hq : q.1 = k
    · have hb : Nat.beq q.1 k = true := by rw [hq]; exact Nat.beq_refl k
      rw [hb] at h
      have h2 : q.2 = v := Option.some.inj h
      rw [← hq, ← h2]
      exact List.mem_cons_self
    · have hb : Nat.beq q.1 k = false := by
        cases hz : Nat.beq q.1 k with
        | false => rfl
        | true => exact absurd (Nat.eq_of_beq_eq_true hz) hq
      rw [hb] at h
      exact List.mem_cons_of_mem _ (z_lg_mem h)
theorem z_lg_at {ls : Array Slot} {n : Nat} {L : List (Nat × Value)} (h : lv_has ls n L) {k : Nat} {v : Value} (hk : z_lg L k = some v) : ls[k]? = some (.val v) := h.2.2 (k, v) (z_lg_mem hk)
def z_ls (L : List (Nat × Value)) (i : Nat) (v : Value) : List (Nat × Value) := (i, v) :: L.filter (fun q => !(q.1 == i) && !(q.1 + 1 == i && q.2.category == 2))
def z_ls2 (L : List (Nat × Value)) (i : Nat) (v : Value) : List (Nat × Value) := (i, v) :: L.filter (fun q => !(q.1 == i) && (!(q.1 == i + 1) && !(q.1 + 1 == i && q.2.category == 2)))
def z_all : List (Nat × Value) → List (Nat × Value) → Prop
  | [], _ => True
  | q :: r, L => z_lg L q.1 = some q.2 ∧ z_all r L
theorem z_all_sub : ∀ {L' L : List (Nat × Value)}, z_all L' L → ∀ q ∈ L', q ∈ L
  | [], _, _, q, hq => by cases hq
  | x :: r, L, h, q, hq => by
    rcases List.mem_cons.mp hq with rfl | hq
    · exact z_lg_mem h.1
    · exact z_all_sub h.2 q hq
def z_cal (y : MethodName) (cc : ByteArray) (nL : Nat) (rt : Option FieldType) (Cn : String) (n : Nat) : Prop := (Cond.instanceMethod y ∈ z_B ∧ Cond.selects Cn y y ∈ z_B ∧ Cond.initialized Cn ∈ z_B ∧ Cond.code y cc nL rt ∈ z_B) ∧ y.cls = Cn ∧ y.cls ≠ "java/lang/invoke/MethodHandle" ∧ y.cls ≠ "java/lang/invoke/VarHandle" ∧ (parseMethodDescriptor y.desc).map (fun d => d.parameters.length) = some n
def z_calS (y : MethodName) (cc : ByteArray) (nL : Nat) (rt : Option FieldType) (n : Nat) : Prop := (Cond.static y ∈ z_B ∧ Cond.initialized y.cls ∈ z_B ∧ Cond.code y cc nL rt ∈ z_B) ∧ y.cls ≠ "java/lang/invoke/MethodHandle" ∧ y.cls ≠ "java/lang/invoke/VarHandle" ∧ (parseMethodDescriptor y.desc).map (fun d => d.parameters.length) = some n
def z_calI (y : MethodName) (cc : ByteArray) (nL : Nat) (n : Nat) : Prop := (Cond.initialized y.cls ∈ z_B ∧ Cond.instanceMethod y ∈ z_B ∧ Cond.code y cc nL none ∈ z_B ∧ y.name = "<init>") ∧ y.cls ≠ "java/lang/invoke/MethodHandle" ∧ y.cls ≠ "java/lang/invoke/VarHandle" ∧ (parseMethodDescriptor y.desc).map (fun d => d.parameters.length) = some n
theorem z_goodc {w : Cond} (h : w ∈ z_B) : GoodIn z_B (w :: z_B) := fun v hv => by
  rcases List.mem_cons.mp hv with rfl | hv
  · exact z_goodB _ h
  · exact z_goodB _ hv
theorem z_goodl : ∀ {ws : List Cond}, (∀ w ∈ ws, w ∈ z_B) → GoodIn z_B ws := fun h w hw => z_goodB w (h w hw)
theorem z_cal.good {y : MethodName} {cc : ByteArray} {nL n : Nat} {rt : Option FieldType} {Cn own : String} {idx : Nat} (h : z_cal y cc nL rt Cn n) (hl : Cond.methodLink own idx y ∈ z_B) : GoodIn z_B (wsV own idx Cn y (Cond.code y cc nL rt :: z_B)) := by
  refine z_goodl fun w hw => ?_
  unfold wsV at hw
  simp only [List.cons_append, List.nil_append, List.mem_cons] at hw
  rcases hw with rfl | rfl | rfl | rfl | rfl | hw
  · exact hl
  · exact h.1.1
  · exact h.1.2.1
  · exact h.1.2.2.1
  · exact h.1.2.2.2
  · exact hw
theorem z_calS.good {y : MethodName} {cc : ByteArray} {nL n : Nat} {rt : Option FieldType} {own : String} {idx : Nat} (h : z_calS y cc nL rt n) (hl : Cond.methodLink own idx y ∈ z_B) : GoodIn z_B (va_wsS own idx y (Cond.code y cc nL rt :: z_B)) := by
  refine z_goodl fun w hw => ?_
  unfold va_wsS at hw
  simp only [List.cons_append, List.nil_append, List.mem_cons] at hw
  rcases hw with rfl | rfl | rfl | rfl | hw
  · exact hl
  · exact h.1.1
  · exact h.1.2.1
  · exact h.1.2.2
  · exact hw
def z_b (b : Bool) : Int32 := bif b then 1 else 0
theorem z_b_bool (b : Bool) : narrow .boolean (.int (z_b b)) = .int (z_b b) := by cases b <;> rfl
theorem z_mem {ws : List Cond} {w : Cond} (i : Nat) (h : ws[i]? = some w) : w ∈ ws := List.mem_of_getElem? h
theorem z_subw {ws small : List Cond} (ps : List Nat) (h : ps.map (fun i => ws[i]?) = small.map some) : ∀ w ∈ small, w ∈ ws := by
  intro w hw
  have h1 : some w ∈ ps.map (fun i => ws[i]?) := by rw [h]; exact List.mem_map_of_mem hw
  obtain ⟨i, -, hi⟩ := List.mem_map.mp h1
  exact List.mem_of_getElem? hi
theorem z_uw {C : String} {T : u_T} {N : Nat} (h : ∀ k, k < N → u_lay C T k ∈ z_B) : ∀ w ∈ u_ws C T N, w ∈ z_B := by
  intro w hw
  unfold u_ws at hw
  obtain ⟨k, hk, rfl⟩ := List.mem_map.mp hw
  exact h k (List.mem_range.mp hk)
section ZROWS
variable {p : Program} {l : Launch} {e : Env} {R : Room} {s : State} {m : MethodId} {args : Array Value} {below : List Frame} {meth : Method} {c : Code} {A : Nat → Prop} {n cells slots : Nat} {Q : State → Prop} {H : Heap} {pc : Nat} {L : List (Nat × Value)} {rest : List Value}
variable {cc : ByteArray} {own : String} {ret : Option FieldType} {nm : String} {G : z_G}
theorem z_sub (L' : List (Nat × Value)) {st : List Value} (h : z_all L' L) (k : z_Z p l e R s m args below meth c A n cells slots Q H pc L' st) : z_Z p l e R s m args below meth c A n cells slots Q H pc L st :=
  fun ls locs hl hS => k ls locs ⟨hl.1, hl.2.1, fun q hq => hl.2.2 q (z_all_sub h q hq)⟩ hS
theorem z_widen {st : List Value} {k2 n2 : Nat} (h1 : cells ≤ k2) (h2 : slots ≤ n2) (k : z_Z p l e R s m args below meth c A n k2 n2 Q H pc L st) : z_Z p l e R s m args below meth c A n cells slots Q H pc L st :=
  fun ls locs hl hS => W.widen h1 h2 (k ls locs hl hS)
theorem z_eqst {st st2 : List Value} (h : st = st2) (k : z_Z p l e R s m args below meth c A n cells slots Q H pc L st2) : z_Z p l e R s m args below meth c A n cells slots Q H pc L st := h ▸ k
theorem z_iconst (C : z_C p s m args meth c cc own ret n nm G) {i : Int} {v : Int32} (hdg : decode cc pc = .ok (.iconst i, 1)) (hv : Int32.ofInt i = v) (k : z_Z p l e R s m args below meth c A n cells slots Q H (pc + 1) L (.int v :: rest)) : z_Z p l e R s m args below meth c A n cells slots Q H pc L rest :=
  fun ls locs hl hS => lv_iconst C.1 C.2.1 hdg hv (k ls locs hl hS)
theorem z_bipush (C : z_C p s m args meth c cc own ret n nm G) {i : Int} {v : Int32} (hdg : decode cc pc = .ok (.bipush i, 2)) (hv : (Int8.ofInt i).toInt32 = v) (k : z_Z p l e R s m args below meth c A n cells slots Q H (pc + 2) L (.int v :: rest)) : z_Z p l e R s m args below meth c A n cells slots Q H pc L rest :=
  fun ls locs hl hS => lv_bipush C.1 C.2.1 hdg hv (k ls locs hl hS)
theorem z_sipush (C : z_C p s m args meth c cc own ret n nm G) {i : Int} {v : Int32} (hdg : decode cc pc = .ok (.sipush i, 3)) (hv : (Int16.ofInt i).toInt32 = v) (k : z_Z p l e R s m args below meth c A n cells slots Q H (pc + 3) L (.int v :: rest)) : z_Z p l e R s m args below meth c A n cells slots Q H pc L rest :=
  fun ls locs hl hS => lv_sipush C.1 C.2.1 hdg hv (k ls locs hl hS)
theorem z_ldc (C : z_C p s m args meth c cc own ret n nm G) {index : Nat} {v : Int32} (hw : Cond.constant own index v ∈ z_B) (hdg : decode cc pc = .ok (.ldc index, 2)) (k : z_Z p l e R s m args below meth c A n cells slots Q H (pc + 2) L (.int v :: rest)) : z_Z p l e R s m args below meth c A n cells slots Q H pc L rest :=
  fun ls locs hl hS => lv_ldc C.1 C.2.1 C.2.2.2.2.1 (C.2.2.2.2.2.1 _ hw) hdg (k ls locs hl hS)
theorem z_ldcw (C : z_C p s m args meth c cc own ret n nm G) {index : Nat} {v : Int32} (hw : Cond.constant own index v ∈ z_B) (hdg : decode cc pc = .ok (.ldc_w index, 3)) (k : z_Z p l e R s m args below meth c A n cells slots Q H (pc + 3) L (.int v :: rest)) : z_Z p l e R s m args below meth c A n cells slots Q H pc L rest :=
  fun ls locs hl hS => lv_ldcw C.1 C.2.1 C.2.2.2.2.1 (C.2.2.2.2.2.1 _ hw) hdg (k ls locs hl hS)
theorem z_lconst (C : z_C p s m args meth c cc own ret n nm G) {i : Fin 2} {v : Int64} (hdg : decode cc pc = .ok (.lconst i, 1)) (hv : Int64.ofNat (i : Nat) = v) (k : z_Z p l e R s m args below meth c A n cells slots Q H (pc + 1) L (.long v :: rest)) : z_Z p l e R s m args below meth c A n cells slots Q H pc L rest :=
  fun ls locs hl hS => lv_lconst C.1 C.2.1 hdg hv (k ls locs hl hS)
theorem z_iload_n (C : z_C p s m args meth c cc own ret n nm G) {k : Fin 4} {x : Int32} (hdg : decode cc pc = .ok (.iload_n k, 1)) (hv : z_lg L k = some (.int x)) (kk : z_Z p l e R s m args below meth c A n cells slots Q H (pc + 1) L (.int x :: rest)) : z_Z p l e R s m args below meth c A n cells slots Q H pc L rest :=
  fun ls locs hl hS => lv_iload_n C.1 C.2.1 hdg rfl (z_lg_at hl hv) (kk ls locs hl hS)
theorem z_iload (C : z_C p s m args meth c cc own ret n nm G) {k : Nat} {x : Int32} (hdg : decode cc pc = .ok (.iload k, 2)) (hv : z_lg L k = some (.int x)) (kk : z_Z p l e R s m args below meth c A n cells slots Q H (pc + 2) L (.int x :: rest)) : z_Z p l e R s m args below meth c A n cells slots Q H pc L rest :=
  fun ls locs hl hS => lv_iload C.1 C.2.1 hdg (z_lg_at hl hv) (kk ls locs hl hS)
theorem z_lload_n (C : z_C p s m args meth c cc own ret n nm G) {k : Fin 4} {x : Int64} (hdg : decode cc pc = .ok (.lload_n k, 1)) (hv : z_lg L k = some (.long x)) (kk : z_Z p l e R s m args below meth c A n cells slots Q H (pc + 1) L (.long x :: rest)) : z_Z p l e R s m args below meth c A n cells slots Q H pc L rest :=
  fun ls locs hl hS => lv_lload_n C.1 C.2.1 hdg rfl (z_lg_at hl hv) (kk ls locs hl hS)
theorem z_lload (C : z_C p s m args meth c cc own ret n nm G) {k : Nat} {x : Int64} (hdg : decode cc pc = .ok (.lload k, 2)) (hv : z_lg L k = some (.long x)) (kk : z_Z p l e R s m args below meth c A n cells slots Q H (pc + 2) L (.long x :: rest)) : z_Z p l e R s m args below meth c A n cells slots Q H pc L rest :=
  fun ls locs hl hS => lv_lload C.1 C.2.1 hdg (z_lg_at hl hv) (kk ls locs hl hS)
theorem z_aload_n (C : z_C p s m args meth c cc own ret n nm G) {k : Fin 4} {x : Nat} (hdg : decode cc pc = .ok (.aload_n k, 1)) (hv : z_lg L k = some (.ref x)) (kk : z_Z p l e R s m args below meth c A n cells slots Q H (pc + 1) L (.ref x :: rest)) : z_Z p l e R s m args below meth c A n cells slots Q H pc L rest :=
  fun ls locs hl hS => lv_aload_n C.1 C.2.1 hdg rfl (z_lg_at hl hv) (kk ls locs hl hS)
theorem z_aload (C : z_C p s m args meth c cc own ret n nm G) {k : Nat} {x : Nat} (hdg : decode cc pc = .ok (.aload k, 2)) (hv : z_lg L k = some (.ref x)) (kk : z_Z p l e R s m args below meth c A n cells slots Q H (pc + 2) L (.ref x :: rest)) : z_Z p l e R s m args below meth c A n cells slots Q H pc L rest :=
  fun ls locs hl hS => lv_aload C.1 C.2.1 hdg (z_lg_at hl hv) (kk ls locs hl hS)
theorem z_aload_nq (C : z_C p s m args meth c cc own ret n nm G) {k : Fin 4} {x : Option Nat} (hdg : decode cc pc = .ok (.aload_n k, 1)) (hv : z_lg L k = some (va_rf x)) (kk : z_Z p l e R s m args below meth c A n cells slots Q H (pc + 1) L (va_rf x :: rest)) : z_Z p l e R s m args below meth c A n cells slots Q H pc L rest := by
  intro ls locs hl hS
  cases x with
  | none => exact lv_aload_nN C.1 C.2.1 hdg rfl (z_lg_at hl hv) (kk ls locs hl hS)
  | some a => exact lv_aload_n C.1 C.2.1 hdg rfl (z_lg_at hl hv) (kk ls locs hl hS)
theorem z_aloadq (C : z_C p s m args meth c cc own ret n nm G) {k : Nat} {x : Option Nat} (hdg : decode cc pc = .ok (.aload k, 2)) (hv : z_lg L k = some (va_rf x)) (kk : z_Z p l e R s m args below meth c A n cells slots Q H (pc + 2) L (va_rf x :: rest)) : z_Z p l e R s m args below meth c A n cells slots Q H pc L rest := by
  intro ls locs hl hS
  cases x with
  | none => exact lv_aloadN C.1 C.2.1 hdg (z_lg_at hl hv) (kk ls locs hl hS)
  | some a => exact lv_aload C.1 C.2.1 hdg (z_lg_at hl hv) (kk ls locs hl hS)
theorem z_istore_n (C : z_C p s m args meth c cc own ret n nm G) {k : Fin 4} {x : Int32} (hdg : decode cc pc = .ok (.istore_n k, 1)) (hn : (k : Nat) < n) (kk : z_Z p l e R s m args below meth c A n cells slots Q H (pc + 1) (z_ls L k (.int x)) rest) : z_Z p l e R s m args below meth c A n cells slots Q H pc L (.int x :: rest) :=
  fun _ locs hl hS => lv_istore_n C.1 C.2.1 hdg rfl hl hn rfl (fun ls' hl' => kk ls' locs hl' hS)
theorem z_istore (C : z_C p s m args meth c cc own ret n nm G) {k : Nat} {x : Int32} (hdg : decode cc pc = .ok (.istore k, 2)) (hn : k < n) (kk : z_Z p l e R s m args below meth c A n cells slots Q H (pc + 2) (z_ls L k (.int x)) rest) : z_Z p l e R s m args below meth c A n cells slots Q H pc L (.int x :: rest) :=
  fun _ locs hl hS => lv_istore C.1 C.2.1 hdg hl hn rfl (fun ls' hl' => kk ls' locs hl' hS)
theorem z_lstore (C : z_C p s m args meth c cc own ret n nm G) {k : Nat} {x : Int64} (hdg : decode cc pc = .ok (.lstore k, 2)) (hn : k + 1 < n) (kk : z_Z p l e R s m args below meth c A n cells slots Q H (pc + 2) (z_ls2 L k (.long x)) rest) : z_Z p l e R s m args below meth c A n cells slots Q H pc L (.long x :: rest) :=
  fun _ locs hl hS => lv_lstore C.1 C.2.1 hdg hl hn rfl (fun ls' hl' => kk ls' locs hl' hS)
theorem z_astore_n (C : z_C p s m args meth c cc own ret n nm G) {k : Fin 4} {x : Nat} (hdg : decode cc pc = .ok (.astore_n k, 1)) (hn : (k : Nat) < n) (kk : z_Z p l e R s m args below meth c A n cells slots Q H (pc + 1) (z_ls L k (.ref x)) rest) : z_Z p l e R s m args below meth c A n cells slots Q H pc L (.ref x :: rest) :=
  fun _ locs hl hS => lv_astore_n C.1 C.2.1 hdg rfl hl hn rfl (fun ls' hl' => kk ls' locs hl' hS)
theorem z_astore (C : z_C p s m args meth c cc own ret n nm G) {k : Nat} {x : Nat} (hdg : decode cc pc = .ok (.astore k, 2)) (hn : k < n) (kk : z_Z p l e R s m args below meth c A n cells slots Q H (pc + 2) (z_ls L k (.ref x)) rest) : z_Z p l e R s m args below meth c A n cells slots Q H pc L (.ref x :: rest) :=
  fun _ locs hl hS => lv_astore C.1 C.2.1 hdg hl hn rfl (fun ls' hl' => kk ls' locs hl' hS)
theorem z_astore_nq (C : z_C p s m args meth c cc own ret n nm G) {k : Fin 4} {x : Option Nat} (hdg : decode cc pc = .ok (.astore_n k, 1)) (hn : (k : Nat) < n) (kk : z_Z p l e R s m args below meth c A n cells slots Q H (pc + 1) (z_ls L k (va_rf x)) rest) : z_Z p l e R s m args below meth c A n cells slots Q H pc L (va_rf x :: rest) := by
  intro ls locs hl hS
  cases x with
  | none => exact lv_astore_nN C.1 C.2.1 hdg rfl hl hn rfl (fun ls' hl' => kk ls' locs hl' hS)
  | some a => exact lv_astore_n C.1 C.2.1 hdg rfl hl hn rfl (fun ls' hl' => kk ls' locs hl' hS)
theorem z_astoreq (C : z_C p s m args meth c cc own ret n nm G) {k : Nat} {x : Option Nat} (hdg : decode cc pc = .ok (.astore k, 2)) (hn : k < n) (kk : z_Z p l e R s m args below meth c A n cells slots Q H (pc + 2) (z_ls L k (va_rf x)) rest) : z_Z p l e R s m args below meth c A n cells slots Q H pc L (va_rf x :: rest) := by
  intro ls locs hl hS
  cases x with
  | none => exact lv_astoreN C.1 C.2.1 hdg hl hn rfl (fun ls' hl' => kk ls' locs hl' hS)
  | some a => exact lv_astore C.1 C.2.1 hdg hl hn rfl (fun ls' hl' => kk ls' locs hl' hS)
theorem z_iinc (C : z_C p s m args meth c cc own ret n nm G) {k : Nat} {i : Int} {x v : Int32} (hdg : decode cc pc = .ok (.iinc k i, 3)) (hx : z_lg L k = some (.int x)) (hv : x + Int32.ofInt i = v) (hn : k < n) (kk : z_Z p l e R s m args below meth c A n cells slots Q H (pc + 3) (z_ls L k (.int v)) rest) : z_Z p l e R s m args below meth c A n cells slots Q H pc L rest := by
  intro ls locs hl hS
  obtain ⟨j, hj⟩ := List.getElem?_of_mem (z_lg_mem hx)
  exact lv_iinc C.1 C.2.1 hdg hl hj hv hn rfl (fun ls' hl' => kk ls' locs hl' hS)
theorem z_iadd (C : z_C p s m args meth c cc own ret n nm G) {x y : Int32} (hdg : decode cc pc = .ok (.iadd, 1)) (k : z_Z p l e R s m args below meth c A n cells slots Q H (pc + 1) L (.int (x + y) :: rest)) : z_Z p l e R s m args below meth c A n cells slots Q H pc L (.int y :: .int x :: rest) :=
  fun ls locs hl hS => lv_iadd C.1 C.2.1 hdg (k ls locs hl hS)
theorem z_isub (C : z_C p s m args meth c cc own ret n nm G) {x y : Int32} (hdg : decode cc pc = .ok (.isub, 1)) (k : z_Z p l e R s m args below meth c A n cells slots Q H (pc + 1) L (.int (x - y) :: rest)) : z_Z p l e R s m args below meth c A n cells slots Q H pc L (.int y :: .int x :: rest) :=
  fun ls locs hl hS => lv_isub C.1 C.2.1 hdg (k ls locs hl hS)
theorem z_imul (C : z_C p s m args meth c cc own ret n nm G) {x y : Int32} (hdg : decode cc pc = .ok (.imul, 1)) (k : z_Z p l e R s m args below meth c A n cells slots Q H (pc + 1) L (.int (x * y) :: rest)) : z_Z p l e R s m args below meth c A n cells slots Q H pc L (.int y :: .int x :: rest) :=
  fun ls locs hl hS => lv_imul C.1 C.2.1 hdg (k ls locs hl hS)
theorem z_iand (C : z_C p s m args meth c cc own ret n nm G) {x y : Int32} (hdg : decode cc pc = .ok (.iand, 1)) (k : z_Z p l e R s m args below meth c A n cells slots Q H (pc + 1) L (.int (x &&& y) :: rest)) : z_Z p l e R s m args below meth c A n cells slots Q H pc L (.int y :: .int x :: rest) :=
  fun ls locs hl hS => lv_iand C.1 C.2.1 hdg (k ls locs hl hS)
theorem z_ior (C : z_C p s m args meth c cc own ret n nm G) {x y : Int32} (hdg : decode cc pc = .ok (.ior, 1)) (k : z_Z p l e R s m args below meth c A n cells slots Q H (pc + 1) L (.int (x ||| y) :: rest)) : z_Z p l e R s m args below meth c A n cells slots Q H pc L (.int y :: .int x :: rest) :=
  fun ls locs hl hS => lv_ior C.1 C.2.1 hdg (k ls locs hl hS)
theorem z_ixor (C : z_C p s m args meth c cc own ret n nm G) {x y : Int32} (hdg : decode cc pc = .ok (.ixor, 1)) (k : z_Z p l e R s m args below meth c A n cells slots Q H (pc + 1) L (.int (x ^^^ y) :: rest)) : z_Z p l e R s m args below meth c A n cells slots Q H pc L (.int y :: .int x :: rest) :=
  fun ls locs hl hS => lv_ixor C.1 C.2.1 hdg (k ls locs hl hS)
theorem z_ishl (C : z_C p s m args meth c cc own ret n nm G) {x y : Int32} (hdg : decode cc pc = .ok (.ishl, 1)) (k : z_Z p l e R s m args below meth c A n cells slots Q H (pc + 1) L (.int (x <<< (y &&& 31)) :: rest)) : z_Z p l e R s m args below meth c A n cells slots Q H pc L (.int y :: .int x :: rest) :=
  fun ls locs hl hS => lv_ishl C.1 C.2.1 hdg (k ls locs hl hS)
theorem z_ishr (C : z_C p s m args meth c cc own ret n nm G) {x y : Int32} (hdg : decode cc pc = .ok (.ishr, 1)) (k : z_Z p l e R s m args below meth c A n cells slots Q H (pc + 1) L (.int (x >>> (y &&& 31)) :: rest)) : z_Z p l e R s m args below meth c A n cells slots Q H pc L (.int y :: .int x :: rest) :=
  fun ls locs hl hS => lv_ishr C.1 C.2.1 hdg (k ls locs hl hS)
theorem z_iushr (C : z_C p s m args meth c cc own ret n nm G) {x y : Int32} (hdg : decode cc pc = .ok (.iushr, 1)) (k : z_Z p l e R s m args below meth c A n cells slots Q H (pc + 1) L (.int ((x.toUInt32 >>> (y.toUInt32 &&& Int32.toUInt32 31)).toInt32) :: rest)) : z_Z p l e R s m args below meth c A n cells slots Q H pc L (.int y :: .int x :: rest) :=
  fun ls locs hl hS => lv_iushr C.1 C.2.1 hdg rfl (k ls locs hl hS)
theorem z_i2l (C : z_C p s m args meth c cc own ret n nm G) {x : Int32} (hdg : decode cc pc = .ok (.i2l, 1)) (k : z_Z p l e R s m args below meth c A n cells slots Q H (pc + 1) L (.long x.toInt64 :: rest)) : z_Z p l e R s m args below meth c A n cells slots Q H pc L (.int x :: rest) :=
  fun ls locs hl hS => lv_i2l C.1 C.2.1 hdg rfl (k ls locs hl hS)
theorem z_l2i (C : z_C p s m args meth c cc own ret n nm G) {x : Int64} (hdg : decode cc pc = .ok (.l2i, 1)) (k : z_Z p l e R s m args below meth c A n cells slots Q H (pc + 1) L (.int x.toInt32 :: rest)) : z_Z p l e R s m args below meth c A n cells slots Q H pc L (.long x :: rest) :=
  fun ls locs hl hS => lv_l2i C.1 C.2.1 hdg rfl (k ls locs hl hS)
theorem z_lor (C : z_C p s m args meth c cc own ret n nm G) {x y : Int64} (hdg : decode cc pc = .ok (.lor, 1)) (k : z_Z p l e R s m args below meth c A n cells slots Q H (pc + 1) L (.long (x ||| y) :: rest)) : z_Z p l e R s m args below meth c A n cells slots Q H pc L (.long y :: .long x :: rest) :=
  fun ls locs hl hS => lv_lor C.1 C.2.1 hdg (k ls locs hl hS)
theorem z_lshl (C : z_C p s m args meth c cc own ret n nm G) {x : Int64} {y : Int32} (hdg : decode cc pc = .ok (.lshl, 1)) (k : z_Z p l e R s m args below meth c A n cells slots Q H (pc + 1) L (.long (x <<< (y.toInt64 &&& 63)) :: rest)) : z_Z p l e R s m args below meth c A n cells slots Q H pc L (.int y :: .long x :: rest) :=
  fun ls locs hl hS => lv_lshl C.1 C.2.1 hdg rfl (k ls locs hl hS)
theorem z_lshr (C : z_C p s m args meth c cc own ret n nm G) {x : Int64} {y : Int32} (hdg : decode cc pc = .ok (.lshr, 1)) (k : z_Z p l e R s m args below meth c A n cells slots Q H (pc + 1) L (.long (x >>> (y.toInt64 &&& 63)) :: rest)) : z_Z p l e R s m args below meth c A n cells slots Q H pc L (.int y :: .long x :: rest) :=
  fun ls locs hl hS => lv_lshr C.1 C.2.1 hdg rfl (k ls locs hl hS)
theorem z_lcmp (C : z_C p s m args meth c cc own ret n nm G) {x y : Int64} (hdg : decode cc pc = .ok (.lcmp, 1)) (k : z_Z p l e R s m args below meth c A n cells slots Q H (pc + 1) L (.int (lg_cmp x y) :: rest)) : z_Z p l e R s m args below meth c A n cells slots Q H pc L (.long y :: .long x :: rest) :=
  fun ls locs hl hS => W.lcmp C.1 C.2.1 hdg (k ls locs hl hS)
theorem z_dup (C : z_C p s m args meth c cc own ret n nm G) {va : Value} (hdg : decode cc pc = .ok (.dup, 1)) (hva : va.category = 1) (k : z_Z p l e R s m args below meth c A n cells slots Q H (pc + 1) L (va :: va :: rest)) : z_Z p l e R s m args below meth c A n cells slots Q H pc L (va :: rest) :=
  fun ls locs hl hS => lv_dup C.1 C.2.1 hdg hva (k ls locs hl hS)
theorem z_dup2 (C : z_C p s m args meth c cc own ret n nm G) {va vb : Value} (hdg : decode cc pc = .ok (.dup2, 1)) (hva : va.category = 1) (hvb : vb.category = 1) (k : z_Z p l e R s m args below meth c A n cells slots Q H (pc + 1) L (va :: vb :: va :: vb :: rest)) : z_Z p l e R s m args below meth c A n cells slots Q H pc L (va :: vb :: rest) :=
  fun ls locs hl hS => lv_dup2_11 C.1 C.2.1 hdg hva hvb (k ls locs hl hS)
theorem z_dup_x1 (C : z_C p s m args meth c cc own ret n nm G) {va vb : Value} (hdg : decode cc pc = .ok (.dup_x1, 1)) (hva : va.category = 1) (hvb : vb.category = 1) (k : z_Z p l e R s m args below meth c A n cells slots Q H (pc + 1) L (va :: vb :: va :: rest)) : z_Z p l e R s m args below meth c A n cells slots Q H pc L (va :: vb :: rest) :=
  fun ls locs hl hS => lv_dup_x1 C.1 C.2.1 hdg hva hvb (k ls locs hl hS)
theorem z_pop (C : z_C p s m args meth c cc own ret n nm G) {va : Value} (hdg : decode cc pc = .ok (.pop, 1)) (hva : va.category = 1) (k : z_Z p l e R s m args below meth c A n cells slots Q H (pc + 1) L rest) : z_Z p l e R s m args below meth c A n cells slots Q H pc L (va :: rest) :=
  fun ls locs hl hS => lv_pop C.1 C.2.1 hdg hva (k ls locs hl hS)
theorem z_null (C : z_C p s m args meth c cc own ret n nm G) (hdg : decode cc pc = .ok (.aconst_null, 1)) (k : z_Z p l e R s m args below meth c A n cells slots Q H (pc + 1) L (.null :: rest)) : z_Z p l e R s m args below meth c A n cells slots Q H pc L rest :=
  fun ls locs hl hS => lv_null C.1 C.2.1 hdg (k ls locs hl hS)
theorem z_nullq (C : z_C p s m args meth c cc own ret n nm G) (hdg : decode cc pc = .ok (.aconst_null, 1)) (k : z_Z p l e R s m args below meth c A n cells slots Q H (pc + 1) L (va_rf none :: rest)) : z_Z p l e R s m args below meth c A n cells slots Q H pc L rest :=
  fun ls locs hl hS => lv_null C.1 C.2.1 hdg (k ls locs hl hS)
theorem z_goto (C : z_C p s m args meth c cc own ret n nm G) {off : Int} (tgt : Nat) (hdg : decode cc pc = .ok (.goto off, 3)) (ht : (pc : Int) + off = (tgt : Int)) (k : z_Z p l e R s m args below meth c A n cells slots Q H tgt L rest) : z_Z p l e R s m args below meth c A n cells slots Q H pc L rest :=
  fun ls locs hl hS => lv_goto C.1 C.2.1 hdg ht (k ls locs hl hS)
theorem z_if_eq (C : z_C p s m args meth c cc own ret n nm G) {x : Int32} {off : Int} (tgt : Nat) (hdg : decode cc pc = .ok (.ifCond .eq off, 3)) (ht : (pc : Int) + off = (tgt : Int)) (kt : x = 0 → z_Z p l e R s m args below meth c A n cells slots Q H tgt L rest) (kf : ¬ x = 0 → z_Z p l e R s m args below meth c A n cells slots Q H (pc + 3) L rest) : z_Z p l e R s m args below meth c A n cells slots Q H pc L (.int x :: rest) :=
  fun ls locs hl hS => lv_if_eq C.1 C.2.1 hdg ht (fun z => kt z ls locs hl hS) (fun z => kf z ls locs hl hS)
theorem z_icmp_eq (C : z_C p s m args meth c cc own ret n nm G) {x y : Int32} {off : Int} (tgt : Nat) (hdg : decode cc pc = .ok (.if_icmp .eq off, 3)) (ht : (pc : Int) + off = (tgt : Int)) (kt : x = y → z_Z p l e R s m args below meth c A n cells slots Q H tgt L rest) (kf : ¬ x = y → z_Z p l e R s m args below meth c A n cells slots Q H (pc + 3) L rest) : z_Z p l e R s m args below meth c A n cells slots Q H pc L (.int y :: .int x :: rest) :=
  fun ls locs hl hS => lv_icmp_eq C.1 C.2.1 hdg ht (fun z => kt z ls locs hl hS) (fun z => kf z ls locs hl hS)
theorem z_if_ne (C : z_C p s m args meth c cc own ret n nm G) {x : Int32} {off : Int} (tgt : Nat) (hdg : decode cc pc = .ok (.ifCond .ne off, 3)) (ht : (pc : Int) + off = (tgt : Int)) (kt : ¬ x = 0 → z_Z p l e R s m args below meth c A n cells slots Q H tgt L rest) (kf : x = 0 → z_Z p l e R s m args below meth c A n cells slots Q H (pc + 3) L rest) : z_Z p l e R s m args below meth c A n cells slots Q H pc L (.int x :: rest) :=
  fun ls locs hl hS => lv_if_ne C.1 C.2.1 hdg ht (fun z => kt z ls locs hl hS) (fun z => kf z ls locs hl hS)
theorem z_icmp_ne (C : z_C p s m args meth c cc own ret n nm G) {x y : Int32} {off : Int} (tgt : Nat) (hdg : decode cc pc = .ok (.if_icmp .ne off, 3)) (ht : (pc : Int) + off = (tgt : Int)) (kt : ¬ x = y → z_Z p l e R s m args below meth c A n cells slots Q H tgt L rest) (kf : x = y → z_Z p l e R s m args below meth c A n cells slots Q H (pc + 3) L rest) : z_Z p l e R s m args below meth c A n cells slots Q H pc L (.int y :: .int x :: rest) :=
  fun ls locs hl hS => lv_icmp_ne C.1 C.2.1 hdg ht (fun z => kt z ls locs hl hS) (fun z => kf z ls locs hl hS)
theorem z_if_lt (C : z_C p s m args meth c cc own ret n nm G) {x : Int32} {off : Int} (tgt : Nat) (hdg : decode cc pc = .ok (.ifCond .lt off, 3)) (ht : (pc : Int) + off = (tgt : Int)) (kt : x < 0 → z_Z p l e R s m args below meth c A n cells slots Q H tgt L rest) (kf : ¬ x < 0 → z_Z p l e R s m args below meth c A n cells slots Q H (pc + 3) L rest) : z_Z p l e R s m args below meth c A n cells slots Q H pc L (.int x :: rest) :=
  fun ls locs hl hS => lv_if_lt C.1 C.2.1 hdg ht (fun z => kt z ls locs hl hS) (fun z => kf z ls locs hl hS)
theorem z_icmp_lt (C : z_C p s m args meth c cc own ret n nm G) {x y : Int32} {off : Int} (tgt : Nat) (hdg : decode cc pc = .ok (.if_icmp .lt off, 3)) (ht : (pc : Int) + off = (tgt : Int)) (kt : x < y → z_Z p l e R s m args below meth c A n cells slots Q H tgt L rest) (kf : ¬ x < y → z_Z p l e R s m args below meth c A n cells slots Q H (pc + 3) L rest) : z_Z p l e R s m args below meth c A n cells slots Q H pc L (.int y :: .int x :: rest) :=
  fun ls locs hl hS => lv_icmp_lt C.1 C.2.1 hdg ht (fun z => kt z ls locs hl hS) (fun z => kf z ls locs hl hS)
theorem z_if_ge (C : z_C p s m args meth c cc own ret n nm G) {x : Int32} {off : Int} (tgt : Nat) (hdg : decode cc pc = .ok (.ifCond .ge off, 3)) (ht : (pc : Int) + off = (tgt : Int)) (kt : ¬ x < 0 → z_Z p l e R s m args below meth c A n cells slots Q H tgt L rest) (kf : x < 0 → z_Z p l e R s m args below meth c A n cells slots Q H (pc + 3) L rest) : z_Z p l e R s m args below meth c A n cells slots Q H pc L (.int x :: rest) :=
  fun ls locs hl hS => lv_if_ge C.1 C.2.1 hdg ht (fun z => kt (Int32.not_lt.mpr z) ls locs hl hS) (fun z => kf (Int32.not_le.mp z) ls locs hl hS)
theorem z_icmp_ge (C : z_C p s m args meth c cc own ret n nm G) {x y : Int32} {off : Int} (tgt : Nat) (hdg : decode cc pc = .ok (.if_icmp .ge off, 3)) (ht : (pc : Int) + off = (tgt : Int)) (kt : ¬ x < y → z_Z p l e R s m args below meth c A n cells slots Q H tgt L rest) (kf : x < y → z_Z p l e R s m args below meth c A n cells slots Q H (pc + 3) L rest) : z_Z p l e R s m args below meth c A n cells slots Q H pc L (.int y :: .int x :: rest) :=
  fun ls locs hl hS => lv_icmp_ge C.1 C.2.1 hdg ht (fun z => kt (Int32.not_lt.mpr z) ls locs hl hS) (fun z => kf (Int32.not_le.mp z) ls locs hl hS)
theorem z_if_gt (C : z_C p s m args meth c cc own ret n nm G) {x : Int32} {off : Int} (tgt : Nat) (hdg : decode cc pc = .ok (.ifCond .gt off, 3)) (ht : (pc : Int) + off = (tgt : Int)) (kt : 0 < x → z_Z p l e R s m args below meth c A n cells slots Q H tgt L rest) (kf : ¬ 0 < x → z_Z p l e R s m args below meth c A n cells slots Q H (pc + 3) L rest) : z_Z p l e R s m args below meth c A n cells slots Q H pc L (.int x :: rest) :=
  fun ls locs hl hS => lv_if_gt C.1 C.2.1 hdg ht (fun z => kt z ls locs hl hS) (fun z => kf z ls locs hl hS)
theorem z_icmp_gt (C : z_C p s m args meth c cc own ret n nm G) {x y : Int32} {off : Int} (tgt : Nat) (hdg : decode cc pc = .ok (.if_icmp .gt off, 3)) (ht : (pc : Int) + off = (tgt : Int)) (kt : y < x → z_Z p l e R s m args below meth c A n cells slots Q H tgt L rest) (kf : ¬ y < x → z_Z p l e R s m args below meth c A n cells slots Q H (pc + 3) L rest) : z_Z p l e R s m args below meth c A n cells slots Q H pc L (.int y :: .int x :: rest) :=
  fun ls locs hl hS => lv_icmp_gt C.1 C.2.1 hdg ht (fun z => kt z ls locs hl hS) (fun z => kf z ls locs hl hS)
theorem z_if_le (C : z_C p s m args meth c cc own ret n nm G) {x : Int32} {off : Int} (tgt : Nat) (hdg : decode cc pc = .ok (.ifCond .le off, 3)) (ht : (pc : Int) + off = (tgt : Int)) (kt : ¬ 0 < x → z_Z p l e R s m args below meth c A n cells slots Q H tgt L rest) (kf : 0 < x → z_Z p l e R s m args below meth c A n cells slots Q H (pc + 3) L rest) : z_Z p l e R s m args below meth c A n cells slots Q H pc L (.int x :: rest) :=
  fun ls locs hl hS => lv_if_le C.1 C.2.1 hdg ht (fun z => kt (Int32.not_lt.mpr z) ls locs hl hS) (fun z => kf (Int32.not_le.mp z) ls locs hl hS)
theorem z_icmp_le (C : z_C p s m args meth c cc own ret n nm G) {x y : Int32} {off : Int} (tgt : Nat) (hdg : decode cc pc = .ok (.if_icmp .le off, 3)) (ht : (pc : Int) + off = (tgt : Int)) (kt : ¬ y < x → z_Z p l e R s m args below meth c A n cells slots Q H tgt L rest) (kf : y < x → z_Z p l e R s m args below meth c A n cells slots Q H (pc + 3) L rest) : z_Z p l e R s m args below meth c A n cells slots Q H pc L (.int y :: .int x :: rest) :=
  fun ls locs hl hS => lv_icmp_le C.1 C.2.1 hdg ht (fun z => kt (Int32.not_lt.mpr z) ls locs hl hS) (fun z => kf (Int32.not_le.mp z) ls locs hl hS)
theorem z_acmp_eq_qq (C : z_C p s m args meth c cc own ret n nm G) {rx : Option Nat} {ry : Option Nat} {off : Int} (tgt : Nat) (hdg : decode cc pc = .ok (.if_acmp .eq off, 3)) (ht : (pc : Int) + off = (tgt : Int)) (kt : rx = ry → z_Z p l e R s m args below meth c A n cells slots Q H tgt L rest) (kf : ¬ rx = ry → z_Z p l e R s m args below meth c A n cells slots Q H (pc + 3) L rest) : z_Z p l e R s m args below meth c A n cells slots Q H pc L (va_rf ry :: va_rf rx :: rest) :=
  fun ls locs hl hS => lv_acmp_eq (rx := rx) (ry := ry) C.1 C.2.1 hdg ht (fun z => kt z ls locs hl hS) (fun z => kf z ls locs hl hS)
theorem z_acmp_eq_rq (C : z_C p s m args meth c cc own ret n nm G) {rx : Option Nat} {ry : Nat} {off : Int} (tgt : Nat) (hdg : decode cc pc = .ok (.if_acmp .eq off, 3)) (ht : (pc : Int) + off = (tgt : Int)) (kt : rx = some ry → z_Z p l e R s m args below meth c A n cells slots Q H tgt L rest) (kf : ¬ rx = some ry → z_Z p l e R s m args below meth c A n cells slots Q H (pc + 3) L rest) : z_Z p l e R s m args below meth c A n cells slots Q H pc L (.ref ry :: va_rf rx :: rest) :=
  fun ls locs hl hS => lv_acmp_eq (rx := rx) (ry := some ry) C.1 C.2.1 hdg ht (fun z => kt z ls locs hl hS) (fun z => kf z ls locs hl hS)
theorem z_acmp_eq_qr (C : z_C p s m args meth c cc own ret n nm G) {rx : Nat} {ry : Option Nat} {off : Int} (tgt : Nat) (hdg : decode cc pc = .ok (.if_acmp .eq off, 3)) (ht : (pc : Int) + off = (tgt : Int)) (kt : some rx = ry → z_Z p l e R s m args below meth c A n cells slots Q H tgt L rest) (kf : ¬ some rx = ry → z_Z p l e R s m args below meth c A n cells slots Q H (pc + 3) L rest) : z_Z p l e R s m args below meth c A n cells slots Q H pc L (va_rf ry :: .ref rx :: rest) :=
  fun ls locs hl hS => lv_acmp_eq (rx := some rx) (ry := ry) C.1 C.2.1 hdg ht (fun z => kt z ls locs hl hS) (fun z => kf z ls locs hl hS)
theorem z_acmp_eq_rr (C : z_C p s m args meth c cc own ret n nm G) {rx : Nat} {ry : Nat} {off : Int} (tgt : Nat) (hdg : decode cc pc = .ok (.if_acmp .eq off, 3)) (ht : (pc : Int) + off = (tgt : Int)) (kt : rx = ry → z_Z p l e R s m args below meth c A n cells slots Q H tgt L rest) (kf : ¬ rx = ry → z_Z p l e R s m args below meth c A n cells slots Q H (pc + 3) L rest) : z_Z p l e R s m args below meth c A n cells slots Q H pc L (.ref ry :: .ref rx :: rest) :=
  fun ls locs hl hS => lv_acmp_eq (rx := some rx) (ry := some ry) C.1 C.2.1 hdg ht (fun z => kt (Option.some.inj z) ls locs hl hS) (fun z => kf (fun w => z (congrArg some w)) ls locs hl hS)
theorem z_acmp_ne_qq (C : z_C p s m args meth c cc own ret n nm G) {rx : Option Nat} {ry : Option Nat} {off : Int} (tgt : Nat) (hdg : decode cc pc = .ok (.if_acmp .ne off, 3)) (ht : (pc : Int) + off = (tgt : Int)) (kt : ¬ rx = ry → z_Z p l e R s m args below meth c A n cells slots Q H tgt L rest) (kf : rx = ry → z_Z p l e R s m args below meth c A n cells slots Q H (pc + 3) L rest) : z_Z p l e R s m args below meth c A n cells slots Q H pc L (va_rf ry :: va_rf rx :: rest) :=
  fun ls locs hl hS => lv_acmp_ne (rx := rx) (ry := ry) C.1 C.2.1 hdg ht (fun z => kt z ls locs hl hS) (fun z => kf z ls locs hl hS)
theorem z_acmp_ne_rq (C : z_C p s m args meth c cc own ret n nm G) {rx : Option Nat} {ry : Nat} {off : Int} (tgt : Nat) (hdg : decode cc pc = .ok (.if_acmp .ne off, 3)) (ht : (pc : Int) + off = (tgt : Int)) (kt : ¬ rx = some ry → z_Z p l e R s m args below meth c A n cells slots Q H tgt L rest) (kf : rx = some ry → z_Z p l e R s m args below meth c A n cells slots Q H (pc + 3) L rest) : z_Z p l e R s m args below meth c A n cells slots Q H pc L (.ref ry :: va_rf rx :: rest) :=
  fun ls locs hl hS => lv_acmp_ne (rx := rx) (ry := some ry) C.1 C.2.1 hdg ht (fun z => kt z ls locs hl hS) (fun z => kf z ls locs hl hS)
theorem z_acmp_ne_qr (C : z_C p s m args meth c cc own ret n nm G) {rx : Nat} {ry : Option Nat} {off : Int} (tgt : Nat) (hdg : decode cc pc = .ok (.if_acmp .ne off, 3)) (ht : (pc : Int) + off = (tgt : Int)) (kt : ¬ some rx = ry → z_Z p l e R s m args below meth c A n cells slots Q H tgt L rest) (kf : some rx = ry → z_Z p l e R s m args below meth c A n cells slots Q H (pc + 3) L rest) : z_Z p l e R s m args below meth c A n cells slots Q H pc L (va_rf ry :: .ref rx :: rest) :=
  fun ls locs hl hS => lv_acmp_ne (rx := some rx) (ry := ry) C.1 C.2.1 hdg ht (fun z => kt z ls locs hl hS) (fun z => kf z ls locs hl hS)
theorem z_acmp_ne_rr (C : z_C p s m args meth c cc own ret n nm G) {rx : Nat} {ry : Nat} {off : Int} (tgt : Nat) (hdg : decode cc pc = .ok (.if_acmp .ne off, 3)) (ht : (pc : Int) + off = (tgt : Int)) (kt : ¬ rx = ry → z_Z p l e R s m args below meth c A n cells slots Q H tgt L rest) (kf : rx = ry → z_Z p l e R s m args below meth c A n cells slots Q H (pc + 3) L rest) : z_Z p l e R s m args below meth c A n cells slots Q H pc L (.ref ry :: .ref rx :: rest) :=
  fun ls locs hl hS => lv_acmp_ne (rx := some rx) (ry := some ry) C.1 C.2.1 hdg ht (fun z => kt (fun w => z (congrArg some w)) ls locs hl hS) (fun z => kf (Option.some.inj z) ls locs hl hS)
theorem z_ifnull (C : z_C p s m args meth c cc own ret n nm G) {x : Option Nat} {off : Int} (tgt : Nat) (hdg : decode cc pc = .ok (.ifnull off, 3)) (ht : (pc : Int) + off = (tgt : Int)) (kt : x = none → z_Z p l e R s m args below meth c A n cells slots Q H tgt L rest) (kf : ∀ a, x = some a → z_Z p l e R s m args below meth c A n cells slots Q H (pc + 3) L rest) : z_Z p l e R s m args below meth c A n cells slots Q H pc L (va_rf x :: rest) := by
  intro ls locs hl hS
  cases x with
  | none => exact lv_ifnullN C.1 C.2.1 hdg ht (kt rfl ls locs hl hS)
  | some a => exact lv_ifnull C.1 C.2.1 hdg (kf a rfl ls locs hl hS)
theorem z_ifnonnull (C : z_C p s m args meth c cc own ret n nm G) {x : Option Nat} {off : Int} (tgt : Nat) (hdg : decode cc pc = .ok (.ifnonnull off, 3)) (ht : (pc : Int) + off = (tgt : Int)) (kt : ∀ a, x = some a → z_Z p l e R s m args below meth c A n cells slots Q H tgt L rest) (kf : x = none → z_Z p l e R s m args below meth c A n cells slots Q H (pc + 3) L rest) : z_Z p l e R s m args below meth c A n cells slots Q H pc L (va_rf x :: rest) := by
  intro ls locs hl hS
  cases x with
  | none => exact lv_ifnonnullN C.1 C.2.1 hdg (kf rfl ls locs hl hS)
  | some a => exact lv_ifnonnull C.1 C.2.1 hdg ht (kt a rfl ls locs hl hS)
theorem z_tableIn (C : z_C p s m args meth c cc own ret n nm G) {dflt lo hi : Int} {offs : Array Int} {len : Nat} {x : Int32} {off : Int} (tgt : Nat) (hdg : decode cc pc = .ok (.tableswitch dflt lo hi offs, len)) (h1 : ¬ x.toInt < lo) (h2 : ¬ hi < x.toInt) (ho : offs[(x.toInt - lo).toNat]? = some off) (ht : (pc : Int) + off = (tgt : Int)) (k : z_Z p l e R s m args below meth c A n cells slots Q H tgt L rest) : z_Z p l e R s m args below meth c A n cells slots Q H pc L (.int x :: rest) :=
  fun ls locs hl hS => lv_tableIn C.1 C.2.1 hdg h1 h2 ho ht (k ls locs hl hS)
theorem z_tableOut (C : z_C p s m args meth c cc own ret n nm G) {dflt lo hi : Int} {offs : Array Int} {len : Nat} {x : Int32} (tgt : Nat) (hdg : decode cc pc = .ok (.tableswitch dflt lo hi offs, len)) (h : x.toInt < lo ∨ hi < x.toInt) (ht : (pc : Int) + dflt = (tgt : Int)) (k : z_Z p l e R s m args below meth c A n cells slots Q H tgt L rest) : z_Z p l e R s m args below meth c A n cells slots Q H pc L (.int x :: rest) :=
  fun ls locs hl hS => lv_tableOut C.1 C.2.1 hdg h ht (k ls locs hl hS)

/-! heap rows -/
def z_cls (ci : Nat) (Cn : String) (T : u_T) (N : Nat) (ty0 : Nat → FieldType) : Prop := vwCl[ci]? = some (Cn, T, N) ∧ (∀ k, k < N → parseFieldDescriptor (T k).2.2.1 = some (ty0 k)) ∧ (∀ a, a < N → ∀ b, b < N → a ≠ b → (T a).2.1 ≠ (T b).2.1)
theorem z_cls0 : z_cls 0 RJx4a65c TJx4a65c 3 tyJx4a65c := ⟨rfl, tyJx4a65c_ok, nmJx4a65c⟩
theorem z_cls1 : z_cls 1 RX0 TX0 10 tyX0 := ⟨rfl, tyX0_ok, nmX0⟩
theorem z_cls2 : z_cls 2 RX1 TX1 6 tyX1 := ⟨rfl, tyX1_ok, nmX1⟩
theorem z_cls3 : z_cls 3 RX2 TX2 6 tyX2 := ⟨rfl, tyX2_ok, nmX2⟩
theorem z_cls4 : z_cls 4 RX3 TX3 10 tyX3 := ⟨rfl, tyX3_ok, nmX3⟩
theorem z_cls5 : z_cls 5 RX4 TX4 3 tyX4 := ⟨rfl, tyX4_ok, nmX4⟩
theorem z_cls6 : z_cls 6 RX5 TX5 10 tyX5 := ⟨rfl, tyX5_ok, nmX5⟩
theorem z_get (C : z_C p s m args meth c cc own ret n nm G) {ci a index N : Nat} {Cn ref : String} {T : u_T} {ty0 : Nat → FieldType} {fs : List Value} {v : Value} (hat : va_at G.1 vwCl (a, .inr (ci, fs)) H) (K : z_cls ci Cn T N ty0) (hin : ∀ w ∈ u_ws Cn T N, w ∈ z_B) (k : Nat) (hk : k < N) (hw : Cond.fieldLink own index ref (T k).2.1 (T k).2.2.1 ∈ z_B) (hr : ref = (T k).1) (hv : fs[k]? = some v) (hdg : decode cc pc = .ok (.getfield index, 3))
    (kk : z_Z p l e R s m args below meth c A n cells slots Q H (pc + 3) L (v :: rest)) : z_Z p l e R s m args below meth c A n cells slots Q H pc L (.ref a :: rest) :=
  fun ls locs hl hS => va_get C.1 C.2.1 C.2.2.2.2.2.1 hin C.2.2.2.2.1 C.2.2.2.2.2.2.1.1 (z_P1 hat) 0 rfl K.1 k hk (C.2.2.2.2.2.1 _ hw) (fun _ h => hr ▸ h) hv hdg (kk ls locs hl hS)
theorem z_getS (C : z_C p s m args meth c cc own ret n nm G) {ci a index N : Nat} {Cn ref : String} {T : u_T} {ty0 : Nat → FieldType} {fs : List Value} {v : Value} (hat : va_at G.1 vwCl (a, .inr (ci, fs)) H) (K : z_cls ci Cn T N ty0) (hin : ∀ w ∈ u_ws Cn T N, w ∈ z_B) (k : Nat) (hk : k < N) (hw : Cond.fieldLink own index ref (T k).2.1 (T k).2.2.1 ∈ z_B) (hr : ∀ x, s.fieldFound? (T k).1 (T k).2.1 (T k).2.2.1 = some x → s.fieldFound? ref (T k).2.1 (T k).2.2.1 = some x) (hv : fs[k]? = some v) (hdg : decode cc pc = .ok (.getfield index, 3))
    (kk : z_Z p l e R s m args below meth c A n cells slots Q H (pc + 3) L (v :: rest)) : z_Z p l e R s m args below meth c A n cells slots Q H pc L (.ref a :: rest) :=
  fun ls locs hl hS => va_get C.1 C.2.1 C.2.2.2.2.2.1 hin C.2.2.2.2.1 C.2.2.2.2.2.2.1.1 (z_P1 hat) 0 rfl K.1 k hk (C.2.2.2.2.2.1 _ hw) hr hv hdg (kk ls locs hl hS)
theorem z_putS (C : z_C p s m args meth c cc own ret n nm G) {ci a index N : Nat} {Cn ref : String} {T : u_T} {ty0 : Nat → FieldType} {fs : List Value} {v : Value} (hat : va_at G.1 vwCl (a, .inr (ci, fs)) H) (K : z_cls ci Cn T N ty0) (hin : ∀ w ∈ u_ws Cn T N, w ∈ z_B) (hA : A a) (k : Nat) (hk : k < N) (hw : Cond.fieldLink own index ref (T k).2.1 (T k).2.2.1 ∈ z_B) (hr : ∀ x, s.fieldFound? (T k).1 (T k).2.1 (T k).2.2.1 = some x → s.fieldFound? ref (T k).2.1 (T k).2.2.1 = some x) (hfin : (T k).2.2.2 = false) (hn : narrow (ty0 k) v = v) (hfit : fits (ty0 k) v = true) (hl : k < fs.length) (hdg : decode cc pc = .ok (.putfield index, 3))
    (kk : ∀ H' : Heap, z_U G a (.inr (ci, fs.set k v)) H H' → z_Z p l e R s m args below meth c A n cells slots Q H' (pc + 3) L rest) : z_Z p l e R s m args below meth c A n cells slots Q H pc L (v :: .ref a :: rest) := by
  intro ls locs hl0 hS0
  have hK := C.2.2.2.2.2.2.1.1
  have hts := C.2.2.2.2.2.1
  have hap := va_apart (own := own) hts hin ty0 K.2.1 K.2.2 hK K.1
  obtain ⟨r, h1, cell, q1, q2, q3, q4⟩ := hat
  have hr2 : r = (Cn, T, N) := Option.some.inj (h1.symm.trans K.1)
  subst hr2
  obtain ⟨hS, hfc, kC, hkC, hkind⟩ := hK.1 ci _ K.1
  obtain ⟨cf, kf, fi, f, hi, hsl⟩ := hS k hk
  have hlay := hts _ (hin _ (u_in_lay hk))
  unfold u_lay at hlay
  rw [if_neg (by rw [hfin]; decide)] at hlay
  have hst := (u_facts hfc hkC (u_lays hts hin hk) hi).1
  have h6 := u_store hfc hkC hkind hlay hi (K.2.1 k hk) hn hfit
  refine W.putK C.1 C.2.1 (f := f) ⟨C.2.2.2.2.1, hts _ hw, ⟨_, _, _, hr _ hi⟩, hst⟩ (by rw [q2]; exact h6) q1 q3 (by rw [hsl]; exact k2_hasslot (q4 k hk)) rfl rfl hdg fun H' e1 e2 e3 => ?_
  rw [hsl] at e1 ⊢
  exact kk H' ⟨⟨_, K.1, t_OB.to (V := updV (vp_V fs) k v) ⟨_, e1, q2, q3, t_set q4 hap hk v⟩ (fun j _ => vp_updV_set hl v j)⟩, e2, e3⟩ ls _ hl0 (hS0.put e2 e3 hA)
theorem z_put (C : z_C p s m args meth c cc own ret n nm G) {ci a index N : Nat} {Cn ref : String} {T : u_T} {ty0 : Nat → FieldType} {fs : List Value} {v : Value} (hat : va_at G.1 vwCl (a, .inr (ci, fs)) H) (K : z_cls ci Cn T N ty0) (hin : ∀ w ∈ u_ws Cn T N, w ∈ z_B) (hA : A a) (k : Nat) (hk : k < N) (hw : Cond.fieldLink own index ref (T k).2.1 (T k).2.2.1 ∈ z_B) (hr : ref = (T k).1) (hfin : (T k).2.2.2 = false) (hn : narrow (ty0 k) v = v) (hfit : fits (ty0 k) v = true) (hl : k < fs.length) (hdg : decode cc pc = .ok (.putfield index, 3))
    (kk : ∀ H' : Heap, z_U G a (.inr (ci, fs.set k v)) H H' → z_Z p l e R s m args below meth c A n cells slots Q H' (pc + 3) L rest) : z_Z p l e R s m args below meth c A n cells slots Q H pc L (v :: .ref a :: rest) :=
  z_putS C hat K hin hA k hk hw (fun _ h => hr ▸ h) hfin hn hfit hl hdg kk
theorem z_putF (C : z_C p s m args meth c cc own ret n nm G) {ci a index N : Nat} {Cn ref : String} {T : u_T} {ty0 : Nat → FieldType} {fs : List Value} {v : Value} (hat : va_at G.1 vwCl (a, .inr (ci, fs)) H) (K : z_cls ci Cn T N ty0) (hin : ∀ w ∈ u_ws Cn T N, w ∈ z_B) (hA : A a) (k : Nat) (hk : k < N) (hw : Cond.fieldLink own index ref (T k).2.1 (T k).2.2.1 ∈ z_B) (hr : ref = (T k).1) (hdecl : (T k).1 = own) (hini : nm = "<init>") (hfin : (T k).2.2.2 = true) (hn : narrow (ty0 k) v = v) (hfit : fits (ty0 k) v = true) (hl : k < fs.length) (hdg : decode cc pc = .ok (.putfield index, 3))
    (kk : ∀ H' : Heap, z_U G a (.inr (ci, fs.set k v)) H H' → z_Z p l e R s m args below meth c A n cells slots Q H' (pc + 3) L rest) : z_Z p l e R s m args below meth c A n cells slots Q H pc L (v :: .ref a :: rest) := by
  intro ls locs hl0 hS0
  have hK := C.2.2.2.2.2.2.1.1
  have hts := C.2.2.2.2.2.1
  have hap := va_apart (own := own) hts hin ty0 K.2.1 K.2.2 hK K.1
  obtain ⟨r, h1, cell, q1, q2, q3, q4⟩ := hat
  have hr2 : r = (Cn, T, N) := Option.some.inj (h1.symm.trans K.1)
  subst hr2
  obtain ⟨hS, hfc, kC, hkC, hkind⟩ := hK.1 ci _ K.1
  obtain ⟨cf, kf, fi, f, hi, hsl⟩ := hS k hk
  have hlay := hts _ (hin _ (u_in_lay hk))
  unfold u_lay at hlay
  rw [if_pos hfin] at hlay
  have hst := (u_facts hfc hkC (u_lays hts hin hk) hi).1
  have hcf : m.cls = cf := by
    obtain ⟨_, _, c', _, _, _, -, -, hf', -, -, -, hown2, -⟩ := Cond.laysFinal_spec hlay
    have e1 : c' = cf := by have := hi.symm.trans hf'; simp at this; exact this.1.symm
    rw [hdecl] at hown2
    rw [← e1]; exact Option.some.inj (C.2.2.2.2.1.symm.trans hown2)
  have h6 := u_fits hfc hkC hkind (Or.inr hlay) hi (K.2.1 k hk) hn hfit
  refine W.putFinK C.1 C.2.1 C.2.2.2.2.1 (hts _ hw) ((fun _ h => hr ▸ h : ∀ x, s.fieldFound? (T k).1 (T k).2.1 (T k).2.2.1 = some x → s.fieldFound? ref (T k).2.1 (T k).2.2.1 = some x) _ hi) hst hcf (C.2.2.2.2.2.2.2.2.trans hini) (by rw [q2]; exact h6) q1 q3 (by rw [hsl]; exact k2_hasslot (q4 k hk)) rfl rfl hdg fun H' e1 e2 e3 => ?_
  rw [hsl] at e1 ⊢
  exact kk H' ⟨⟨_, K.1, t_OB.to (V := updV (vp_V fs) k v) ⟨_, e1, q2, q3, t_set q4 hap hk v⟩ (fun j _ => vp_updV_set hl v j)⟩, e2, e3⟩ ls _ hl0 (hS0.put e2 e3 hA)
theorem z_iald (C : z_C p s m args meth c cc own ret n nm G) {a N : Nat} {f : Nat → Int32} (hat : va_at G.1 vwCl (a, .inl (G.2 0, N, .inl f)) H) {i : Int32} {j : Nat} (hi : vp_in i N) (hj : i.toNatClampNeg = j) (hdg : decode cc pc = .ok (.iaload, 1)) (kk : z_Z p l e R s m args below meth c A n cells slots Q H (pc + 1) L (.int (f j) :: rest)) : z_Z p l e R s m args below meth c A n cells slots Q H pc L (.int i :: .ref a :: rest) := by
  subst hj
  exact fun ls locs hl hS => va_iald C.1 C.2.1 C.2.2.2.2.2.2.1.1 (z_P1 hat) 0 0 rfl rfl hi hdg (kk ls locs hl hS)
theorem z_lald (C : z_C p s m args meth c cc own ret n nm G) {a N : Nat} {f : Nat → Int64} (hat : va_at G.1 vwCl (a, .inl (G.2 1, N, .inr (.inl f))) H) {i : Int32} {j : Nat} (hi : vp_in i N) (hj : i.toNatClampNeg = j) (hdg : decode cc pc = .ok (.laload, 1)) (kk : z_Z p l e R s m args below meth c A n cells slots Q H (pc + 1) L (.long (f j) :: rest)) : z_Z p l e R s m args below meth c A n cells slots Q H pc L (.int i :: .ref a :: rest) := by
  subst hj
  exact fun ls locs hl hS => va_lald C.1 C.2.1 C.2.2.2.2.2.2.1.1 (z_P1 hat) 0 1 rfl rfl hi hdg (kk ls locs hl hS)
theorem z_aald (C : z_C p s m args meth c cc own ret n nm G) {a N : Nat} {f : Nat → Option Nat} (hat : va_at G.1 vwCl (a, .inl (G.2 3, N, .inr (.inr (.inr (.inr f))))) H) {i : Int32} (hi : vp_in i N) {v : Value} (hv : va_rf (f i.toNatClampNeg) = v) (hdg : decode cc pc = .ok (.aaload, 1)) (kk : z_Z p l e R s m args below meth c A n cells slots Q H (pc + 1) L (v :: rest)) : z_Z p l e R s m args below meth c A n cells slots Q H pc L (.int i :: .ref a :: rest) :=
  fun ls locs hl hS => va_aldq C.1 C.2.1 C.2.2.2.2.2.2.1.1 (z_P1 hat) 0 3 rfl rfl hi hdg (hv ▸ kk ls locs hl hS)
theorem z_iast (C : z_C p s m args meth c cc own ret n nm G) {a N : Nat} {f : Nat → Int32} (hat : va_at G.1 vwCl (a, .inl (G.2 0, N, .inl f)) H) (hA : A a) {i x : Int32} {j : Nat} (hi : vp_in i N) (hj : i.toNatClampNeg = j) (hdg : decode cc pc = .ok (.iastore, 1)) (kk : ∀ H' : Heap, z_U G a (.inl (G.2 0, N, .inl (upd f j x))) H H' → z_Z p l e R s m args below meth c A n cells slots Q H' (pc + 1) L rest) : z_Z p l e R s m args below meth c A n cells slots Q H pc L (.int x :: .int i :: .ref a :: rest) := by
  intro ls locs hl0 hS
  subst hj
  refine W.iast C.1 C.2.1 hat ((C.2.2.2.2.2.2.1.1.2 0 _ rfl).1 N (fun j => .int (f j))) (fun q => by cases q) (by show ¬ (i < 0 ∨ (arrV _ _ _).slots.size ≤ _); rw [arrV_size]; exact hi) rfl rfl hdg fun H1 e z oq => ?_
  refine kk H1 ⟨?_, z, oq⟩ ls _ hl0 (hS.put z oq hA)
  show H1[a]? = some (vp_cell _ _)
  rw [e]
  rw [vp_cell_i, vp_cell_i, arrV_store]
  congr 2
  funext q
  by_cases hq : q = i.toNatClampNeg
  · subst hq
    simp [updV, upd]
  · simp [updV, upd, hq]
theorem z_last (C : z_C p s m args meth c cc own ret n nm G) {a N : Nat} {f : Nat → Int64} (hat : va_at G.1 vwCl (a, .inl (G.2 1, N, .inr (.inl f))) H) (hA : A a) {i : Int32} {x : Int64} {j : Nat} (hi : vp_in i N) (hj : i.toNatClampNeg = j) (hdg : decode cc pc = .ok (.lastore, 1)) (kk : ∀ H' : Heap, z_U G a (.inl (G.2 1, N, .inr (.inl (vp_updL f j x)))) H H' → z_Z p l e R s m args below meth c A n cells slots Q H' (pc + 1) L rest) : z_Z p l e R s m args below meth c A n cells slots Q H pc L (.long x :: .int i :: .ref a :: rest) := by
  intro ls locs hl0 hS
  subst hj
  refine W.last C.1 C.2.1 hat ((C.2.2.2.2.2.2.1.1.2 1 _ rfl).1 N (fun j => .long (f j))) (fun q => by cases q) (by show ¬ (i < 0 ∨ (arrV _ _ _).slots.size ≤ _); rw [arrV_size]; exact hi) rfl rfl hdg fun H1 e z oq => ?_
  refine kk H1 ⟨?_, z, oq⟩ ls _ hl0 (hS.put z oq hA)
  show H1[a]? = some (vp_cell _ _)
  rw [e]
  rw [vp_cell_l, vp_cell_l, arrV_store]
  congr 2
  funext q
  by_cases hq : q = i.toNatClampNeg
  · subst hq
    simp [updV, vp_updL]
  · simp [updV, vp_updL, hq]
theorem z_alen (C : z_C p s m args meth c cc own ret n nm G) {a t : Nat} {cA : ClassId} {x : vp_A} {ty : FieldType} (hat : va_at G.1 vwCl (a, .inl (cA, x)) H) (ht : (z_tys G)[t]? = some (cA, ty)) (hdg : decode cc pc = .ok (.arraylength, 1)) (kk : z_Z p l e R s m args below meth c A n cells slots Q H (pc + 1) L (.int (Int32.ofNat x.1) :: rest)) : z_Z p l e R s m args below meth c A n cells slots Q H pc L (.ref a :: rest) :=
  fun ls locs hl hS => va_alen C.1 C.2.1 C.2.2.2.2.2.2.1.1 (z_P1 hat) 0 t rfl ht rfl hdg (kk ls locs hl hS)
theorem z_cast (C : z_C p s m args meth c cc own ret n nm G) {a ci index : Nat} {q : vw_C} {fs : List Value} (hat : va_at G.1 vwCl (a, .inr (ci, fs)) H) (hc : vwCl[ci]? = some q) (hw : Cond.classLink own index q.1 ∈ z_B) (hdg : decode cc pc = .ok (.checkcast index, 3)) (kk : z_Z p l e R s m args below meth c A n cells slots Q H (pc + 3) L (.ref a :: rest)) : z_Z p l e R s m args below meth c A n cells slots Q H pc L (.ref a :: rest) :=
  fun ls locs hl hS => va_castS C.1 C.2.1 C.2.2.2.2.1 (C.2.2.2.2.2.1 _ hw) (C.2.2.2.2.2.2.1.1.1 ci q hc).2 (va_recv C.2.2.2.2.2.2.1.1 (z_P1 hat) hc (q0 := 0) rfl) hdg (kk ls locs hl hS)
theorem z_new (C : z_C p s m args meth c cc own ret n nm G) {ci index N : Nat} {Cn : String} {T : u_T} {ty0 : Nat → FieldType} {fs : List Value} (K : z_cls ci Cn T N ty0) (hin : ∀ w ∈ u_ws Cn T N, w ∈ z_B) (hw1 : Cond.classLink own index Cn ∈ z_B) (hw2 : Cond.instantiable Cn N ∈ z_B) (hw3 : Cond.initialized Cn ∈ z_B) (hfs : ∀ j, j < N → defaultValue (ty0 j) = vp_V fs j) (hcells : cells + 1 ≤ R.cells) (hslots : slots + N ≤ R.slots) (hdg : decode cc pc = .ok (.new index, 3))
    (kk : ∀ (q : Nat) (H' : Heap), z_N G q (.inr (ci, fs)) H H' → z_Z p l e R s m args below meth c A n (cells + 1) (slots + N) Q H' (pc + 3) L (.ref q :: rest)) : z_Z p l e R s m args below meth c A n cells slots Q H pc L rest := by
  intro ls locs hl0 hS
  have hts := C.2.2.2.2.2.1
  have hKn := C.2.2.2.2.2.2.1.1.1 ci _ K.1
  refine W.newcK C.1 C.2.1 C.2.2.2.2.1 (hts _ hw1) (hts _ hw2) (hts _ hw3) rfl hdg hcells hslots hKn.2.1 rfl fun H1 kC hkC e1 z1 o1 => ?_
  exact kk H.size H1 ⟨rfl, ⟨_, K.1, (u_born ty0 hts hin hKn hkC e1 K.2.1).to hfs⟩, z1, o1⟩ ls locs hl0 ⟨Nat.le_trans hS.1 (by omega), fun x h1 h2 => (o1 x (Nat.lt_of_lt_of_le h1 hS.1)).trans (hS.2.1 x h1 h2), hS.2.2⟩
theorem z_newa (C : z_C p s m args meth c cc own ret n nm G) {atype : ArrayType} {t cy : Nat} {ty : FieldType} (hw : Cond.arrayClass (newarray.typeOf atype) ∈ z_B) (hty : newarray.typeOf atype = ty) (ht : (z_tys G)[t]? = some (cy, ty)) (hpr : va_RA s cy ty → s.vm.findClass ("[" ++ ty.toString) = some cy) {i : Int32} (N : Nat) {a0 : vp_A} (ha : ∀ cA : ClassId, vp_cell cA a0 = arrV cA N (fun _ => defaultValue ty)) (hn : ¬ i < 0) (hN : i.toNatClampNeg = N) (hbytes : N * componentBytes ty ≤ 536870912) (hcells : cells + 1 ≤ R.cells) (hslots : slots + N ≤ R.slots) (hdg : decode cc pc = .ok (.newarray atype, 2))
    (kk : ∀ (q : Nat) (H' : Heap), z_N G q (.inl (cy, a0)) H H' → z_Z p l e R s m args below meth c A n (cells + 1) (slots + N) Q H' (pc + 2) L (.ref q :: rest)) : z_Z p l e R s m args below meth c A n cells slots Q H pc L (.int i :: rest) := by
  intro ls locs hl0 hS
  subst hty
  have hts := C.2.2.2.2.2.1
  refine va_newaK C.1 C.2.1 (hts _ hw) rfl hdg rfl hn hN hbytes hcells hslots rfl fun H1 cA e1 z1 o1 hAr hNm => ?_
  have hcy : cA = cy := Option.some.inj (hNm.symm.trans (hpr (C.2.2.2.2.2.2.1.1.2 t _ ht).2))
  subst hcy
  refine kk H.size H1 ⟨rfl, ?_, z1, o1⟩ ls locs hl0 ⟨Nat.le_trans hS.1 (by omega), fun x h1 h2 => (o1 x (Nat.lt_of_lt_of_le h1 hS.1)).trans (hS.2.1 x h1 h2), hS.2.2⟩
  show H1[H.size]? = some (vp_cell _ _)
  rw [ha]
  exact e1
theorem z_newaI (C : z_C p s m args meth c cc own ret n nm G) (hw : Cond.arrayClass .int ∈ z_B) {i : Int32} (N : Nat) (hn : ¬ i < 0) (hN : i.toNatClampNeg = N) (hbytes : N * 4 ≤ 536870912) (hcells : cells + 1 ≤ R.cells) (hslots : slots + N ≤ R.slots) (hdg : decode cc pc = .ok (.newarray .int, 2))
    (kk : ∀ (q : Nat) (H' : Heap), z_N G q (.inl (G.2 0, N, .inl (fun _ => 0))) H H' → z_Z p l e R s m args below meth c A n (cells + 1) (slots + N) Q H' (pc + 2) L (.ref q :: rest)) : z_Z p l e R s m args below meth c A n cells slots Q H pc L (.int i :: rest) :=
  z_newa C (atype := .int) (t := 0) (ty := .int) hw rfl rfl (fun h => h) N (fun _ => rfl) hn hN hbytes hcells hslots hdg kk
theorem z_newaJ (C : z_C p s m args meth c cc own ret n nm G) (hw : Cond.arrayClass .long ∈ z_B) {i : Int32} (N : Nat) (hn : ¬ i < 0) (hN : i.toNatClampNeg = N) (hbytes : N * 8 ≤ 536870912) (hcells : cells + 1 ≤ R.cells) (hslots : slots + N ≤ R.slots) (hdg : decode cc pc = .ok (.newarray .long, 2))
    (kk : ∀ (q : Nat) (H' : Heap), z_N G q (.inl (G.2 1, N, .inr (.inl (fun _ => 0)))) H H' → z_Z p l e R s m args below meth c A n (cells + 1) (slots + N) Q H' (pc + 2) L (.ref q :: rest)) : z_Z p l e R s m args below meth c A n cells slots Q H pc L (.int i :: rest) :=
  z_newa C (atype := .long) (t := 1) (ty := .long) hw rfl rfl (fun h => h) N (fun _ => rfl) hn hN hbytes hcells hslots hdg kk
theorem z_objInit (C : z_C p s m args meth c cc own ret n nm G) {a idx : Nat} (hw1 : Cond.methodLink own idx objectInit ∈ z_B) (hw2 : Cond.instanceMethod objectInit ∈ z_B) (hw3 : Cond.code objectInit ⟨#[0xb1]⟩ 1 none ∈ z_B) (hd : decode cc pc = .ok (.invokespecial idx, 3)) (hf : 1 ≤ R.frames) (hlo : (rest.map fun v => v.category).sum + 12 ≤ R.locals) (kk : z_Z p l e R s m args below meth c A n cells slots Q H (pc + 3) L rest) : z_Z p l e R s m args below meth c A n cells slots Q H pc L (.ref a :: rest) :=
  fun ls locs hl hS => W.objInit C.1 C.2.1 C.2.2.2.2.1 (C.2.2.2.2.2.1 _ hw1) (C.2.2.2.2.2.1 _ hw2) (C.2.2.2.2.2.1 _ hw3) rfl (by rw [C.2.2.2.1]; exact hl.1) rfl hd hf (by show 2 * 0 + _ + 12 ≤ _; omega) (W.eq (g2 := F0 m (pc + 3) ls rest) rfl (kk ls locs hl hS))
theorem z_mmax (C : z_C p s m args meth c cc own ret n nm G) {index : Nat} (hw1 : Cond.methodLink own index Lib.Math.max.name ∈ z_B) (hw2 : Cond.static Lib.Math.max.name ∈ z_B) (hw3 : Cond.initialized "java/lang/Math" ∈ z_B) (hw4 : Cond.code Lib.Math.max.name Lib.Math.max.code 2 (some .int) ∈ z_B) (hf : 1 ≤ R.frames) (hlo : (rest.map fun v => v.category).sum + 13 ≤ R.locals) (hc : cells ≤ R.cells) (hs : slots ≤ R.slots) {x y : Int32} (hdg : decode cc pc = .ok (.invokestatic index, 3)) (kk : z_Z p l e R s m args below meth c A n cells slots Q H (pc + 3) L (.int (if x < y then y else x) :: rest)) : z_Z p l e R s m args below meth c A n cells slots Q H pc L (.int y :: .int x :: rest) :=
  fun ls locs hl hS => va_mmax C.1 C.2.1 (C.2.2.2.1.trans hl.1.symm) C.2.2.2.2.1 (C.2.2.2.2.2.1 _ hw1) (C.2.2.2.2.2.1 _ hw2) (C.2.2.2.2.2.1 _ hw3) (C.2.2.2.2.2.1 _ hw4) hf hlo hc hs hdg (kk ls locs hl hS)
theorem z_mmin (C : z_C p s m args meth c cc own ret n nm G) {index : Nat} (hw1 : Cond.methodLink own index Lib.Math.min.name ∈ z_B) (hw2 : Cond.static Lib.Math.min.name ∈ z_B) (hw3 : Cond.initialized "java/lang/Math" ∈ z_B) (hw4 : Cond.code Lib.Math.min.name Lib.Math.min.code 2 (some .int) ∈ z_B) (hf : 1 ≤ R.frames) (hlo : (rest.map fun v => v.category).sum + 13 ≤ R.locals) (hc : cells ≤ R.cells) (hs : slots ≤ R.slots) {x y : Int32} (hdg : decode cc pc = .ok (.invokestatic index, 3)) (kk : z_Z p l e R s m args below meth c A n cells slots Q H (pc + 3) L (.int (if y < x then y else x) :: rest)) : z_Z p l e R s m args below meth c A n cells slots Q H pc L (.int y :: .int x :: rest) :=
  fun ls locs hl hS => va_mmin C.1 C.2.1 (C.2.2.2.1.trans hl.1.symm) C.2.2.2.2.1 (C.2.2.2.2.2.1 _ hw1) (C.2.2.2.2.2.1 _ hw2) (C.2.2.2.2.2.1 _ hw3) (C.2.2.2.2.2.1 _ hw4) hf hlo hc hs hdg (kk ls locs hl hS)

/-! ends -/
theorem z_iret (C : z_C p s m args meth c cc own (some .int) n nm G) {mc ms : Nat} {Qr : Option Value → Heap → Heap → Prop} {v : Int32} (hc : cells ≤ mc) (hs : slots ≤ ms) (hdg : decode cc pc = .ok (.ireturn, 1)) (hq : Qr (some (.int v)) s.heap H) : z_Z p l e R s m args below meth c A n cells slots (MQ below (z_Q Qr A) args s mc ms A) H pc L [.int v] :=
  fun _ _ _ hS => W.widen hc hs (W.iret C.1 C.2.1 C.2.2.1 (fun _ ht _ => ⟨⟨_, rfl, ht ▸ hq⟩, hS.F ht⟩) hS.2.2 hdg C.2.2.2.2.2.2.2.1)
theorem z_bret (C : z_C p s m args meth c cc own (some .boolean) n nm G) {mc ms : Nat} {Qr : Option Value → Heap → Heap → Prop} {v : Int32} (hc : cells ≤ mc) (hs : slots ≤ ms) (hdg : decode cc pc = .ok (.ireturn, 1)) (hv : narrow .boolean (.int v) = .int v) (hq : Qr (some (.int v)) s.heap H) : z_Z p l e R s m args below meth c A n cells slots (MQ below (z_Q Qr A) args s mc ms A) H pc L [.int v] :=
  fun _ _ _ hS => W.widen hc hs (W.zret C.1 C.2.1 C.2.2.1 hv (fun _ ht _ => ⟨⟨_, rfl, ht ▸ hq⟩, hS.F ht⟩) hS.2.2 hdg C.2.2.2.2.2.2.2.1)
theorem z_vret (C : z_C p s m args meth c cc own none n nm G) {mc ms : Nat} {Qr : Option Value → Heap → Heap → Prop} (hc : cells ≤ mc) (hs : slots ≤ ms) (hdg : decode cc pc = .ok (.return_, 1)) (hq : Qr none s.heap H) : z_Z p l e R s m args below meth c A n cells slots (MQ below (z_Q Qr A) args s mc ms A) H pc L [] :=
  fun _ _ _ hS => W.widen hc hs (W.vret C.1 C.2.1 C.2.2.1 (fun _ ht _ => ⟨⟨_, rfl, ht ▸ hq⟩, hS.F ht⟩) hS.2.2 hdg C.2.2.2.2.2.2.2.1)
theorem z_aret {rt : FieldType} (C : z_C p s m args meth c cc own (some rt) n nm G) {mc ms : Nat} {Qr : Option Value → Heap → Heap → Prop} {a : Nat} (hrt : (∃ n, rt = .object n) ∨ ∃ t, rt = .array t) (hc : cells ≤ mc) (hs : slots ≤ ms) (hdg : decode cc pc = .ok (.areturn, 1)) (hq : Qr (some (.ref a)) s.heap H) : z_Z p l e R s m args below meth c A n cells slots (MQ below (z_Q Qr A) args s mc ms A) H pc L [.ref a] :=
  fun _ _ _ hS => W.widen hc hs (W.aret C.1 C.2.1 C.2.2.1 hrt (Or.inr ⟨a, rfl⟩) (fun _ ht _ => ⟨⟨_, rfl, ht ▸ hq⟩, hS.F ht⟩) hS.2.2 hdg C.2.2.2.2.2.2.2.1)
theorem z_aretq {rt : FieldType} (C : z_C p s m args meth c cc own (some rt) n nm G) {mc ms : Nat} {Qr : Option Value → Heap → Heap → Prop} {x : Option Nat} (hrt : (∃ n, rt = .object n) ∨ ∃ t, rt = .array t) (hc : cells ≤ mc) (hs : slots ≤ ms) (hdg : decode cc pc = .ok (.areturn, 1)) (hq : Qr (some (va_rf x)) s.heap H) : z_Z p l e R s m args below meth c A n cells slots (MQ below (z_Q Qr A) args s mc ms A) H pc L [va_rf x] :=
  fun _ _ _ hS => W.widen hc hs (W.aret C.1 C.2.1 C.2.2.1 hrt (by cases x with | none => exact Or.inl rfl | some a => exact Or.inr ⟨a, rfl⟩) (fun _ ht _ => ⟨⟨_, rfl, ht ▸ hq⟩, hS.F ht⟩) hS.2.2 hdg C.2.2.2.2.2.2.2.1)
/-! calls -/
theorem z_call {ls : Array Slot} {locs : List Loc} {st0 : List Value} {a : Array Value} {mc ms : Nat} {Q2 : Option Value → Heap → Heap → Prop} {A2 : Nat → Prop} (hr : va_Run p l e R s m args below meth c H locs cells slots mc ms (F0 m pc ls st0) rest (z_Q Q2 A2 a) A2) (hS : va_S A s.heap H locs) (hA : ∀ q, A2 q → A q)
    (kk : ∀ (v : Option Value) (H1 : Heap) (locs1 : List Loc), Q2 v H H1 → H.size ≤ H1.size → (∀ q : Nat, q < H.size → ¬ A2 q → H1[q]? = H[q]?) → va_S A s.heap H1 locs1 → W p l e R s m args below meth c H1 locs1 (cells + mc) (slots + ms) Q (F0 m (pc + 3) ls (v.toList ++ rest))) : W p l e R s m args below meth c H locs cells slots Q (F0 m pc ls st0) := by
  intro T hT X
  obtain ⟨v, st₀, t, T', L, h0, X', hL, e1, e2, ⟨⟨v2, hv, hq⟩, hz, hk⟩, st⟩ := hr T hT X
  cases hv
  rw [h0] at hz hk hq
  obtain ⟨t2, a1, b1⟩ := kk v T'.heap (locs ++ L) (by rw [e1]; exact hq) (by rw [e1]; exact hz) (fun q h1 h2 => by rw [e1]; exact hk q h1 h2)
    ⟨Nat.le_trans hS.1 (by rw [e1]; exact hz), fun q h1 h2 => by rw [e1, hk q (Nat.lt_of_lt_of_le h1 hS.1) (fun z => h2 (hA q z))]; exact hS.2.1 q h1 h2, fun q hq => by
      rcases List.mem_append.mp hq with h | h
      · exact hS.2.2 q h
      · exact hA _ (hL q h)⟩ T' rfl X'
  exact ⟨t2, st t2 a1, b1⟩
theorem z_blind {av : List Value} {P : Heap → Prop} : FrameBlind (va_Pc av (fun U => P U.heap ∧ z_K G U)) := fun _ _ g mk q => ⟨q.1, q.2.1, q.2.2.calling g mk _⟩
theorem z_callV (C : z_C p s m args meth c cc own ret n nm G) {y : MethodName} {k mc ms idx b maxL ci : Nat} {Cn : String} {T : u_T} {N : Nat} {fs : List Value} {As : List Value} {P : Heap → Prop} {A2 : Nat → Prop} {Q2 : Option Value → Heap → Heap → Prop} {bytes : ByteArray} {rt : Option FieldType}
    (hM : z_M l y bytes maxL rt k mc ms (.ref b :: As) G P A2 Q2) (hT : z_cal y bytes maxL rt Cn As.length) (hlk : Cond.methodLink own idx y ∈ z_B) (hR : k + 1 ≤ R.frames ∧ 8 + (maxL + 11) + 30 * k ≤ R.locals)
    (hat : va_at G.1 vwCl (b, .inr (ci, fs)) H) (hc : vwCl[ci]? = some (Cn, T, N)) (hP : P H) (hA : ∀ q, A2 q → A q) (hf : cells + mc ≤ R.cells ∧ slots + ms ≤ R.slots) (hrest : (rest.map fun v => v.category).sum ≤ 8) (hdg : decode cc pc = .ok (.invokevirtual idx, 3))
    (kk : ∀ (v : Option Value) (H' : Heap), Q2 v H H' → H.size ≤ H'.size → (∀ q : Nat, q < H.size → ¬ A2 q → H'[q]? = H[q]?) → z_Z p l e R s m args below meth c A n (cells + mc) (slots + ms) Q H' (pc + 3) L (v.toList ++ rest)) : z_Z p l e R s m args below meth c A n cells slots Q H pc L (As.reverse ++ .ref b :: rest) := by
  intro ls locs hl hS
  refine z_call (va_runV (As := As) (rest := rest) (b := b) (C := Cn) ⟨C.1, C.2.1, C.2.2.2.1, C.2.2.2.2.1, C.2.2.2.2.2.1⟩ hM (cwV As.length C.2.2.2.2.2.1 (hT.good hlk) rfl rfl rfl hT.2 hR) ⟨z_blind, va_recv C.2.2.2.2.2.2.1.1 (z_P1 hat) hc (q0 := 0) rfl, fun U hU hW => ⟨rfl, by rw [hU]; exact hP, C.2.2.2.2.2.2.1.warm hW⟩⟩ rfl rfl hl.1 rfl (lv_room hrest) hdg hf) hS hA (fun v H1 locs1 h1 h2 h3 h4 => kk v H1 h1 h2 h3 ls locs1 hl h4)
theorem z_callS (C : z_C p s m args meth c cc own ret n nm G) {y : MethodName} {k mc ms idx maxL : Nat} {As : List Value} {P : Heap → Prop} {A2 : Nat → Prop} {Q2 : Option Value → Heap → Heap → Prop} {bytes : ByteArray} {rt : Option FieldType}
    (hM : z_M l y bytes maxL rt k mc ms As G P A2 Q2) (hT : z_calS y bytes maxL rt As.length) (hlk : Cond.methodLink own idx y ∈ z_B) (hR : k + 1 ≤ R.frames ∧ 8 + (maxL + 11) + 30 * k ≤ R.locals)
    (hP : P H) (hA : ∀ q, A2 q → A q) (hf : cells + mc ≤ R.cells ∧ slots + ms ≤ R.slots) (hrest : (rest.map fun v => v.category).sum ≤ 8) (hdg : decode cc pc = .ok (.invokestatic idx, 3))
    (kk : ∀ (v : Option Value) (H' : Heap), Q2 v H H' → H.size ≤ H'.size → (∀ q : Nat, q < H.size → ¬ A2 q → H'[q]? = H[q]?) → z_Z p l e R s m args below meth c A n (cells + mc) (slots + ms) Q H' (pc + 3) L (v.toList ++ rest)) : z_Z p l e R s m args below meth c A n cells slots Q H pc L (As.reverse ++ rest) := by
  intro ls locs hl hS
  refine z_call (va_runS (As := As) (rest := rest) ⟨C.1, C.2.1, C.2.2.2.1, C.2.2.2.2.1, C.2.2.2.2.2.1⟩ hM (va_cwS As.length C.2.2.2.2.2.1 (hT.good hlk) rfl rfl rfl hT.2 hR) ⟨z_blind, fun U hU hW => ⟨rfl, by rw [hU]; exact hP, C.2.2.2.2.2.2.1.warm hW⟩⟩ rfl rfl hl.1 rfl (lv_room hrest) hdg hf) hS hA (fun v H1 locs1 h1 h2 h3 h4 => kk v H1 h1 h2 h3 ls locs1 hl h4)
theorem z_callSN (C : z_C p s m args meth c cc own ret n nm G) {y : MethodName} {host : String} {k mc ms idx maxL : Nat} {As : List Value} {P : Heap → Prop} {A2 : Nat → Prop} {Q2 : Option Value → Heap → Heap → Prop} {bytes : ByteArray} {rt : Option FieldType}
    (hM : z_M l y bytes maxL rt k mc ms As G P A2 Q2) (hT : z_calS y bytes maxL rt As.length) (hl0 : va_Nw (.methodLinkNest own idx y host) s) (hR : k + 1 ≤ R.frames ∧ 8 + (maxL + 11) + 30 * k ≤ R.locals)
    (hP : P H) (hA : ∀ q, A2 q → A q) (hf : cells + mc ≤ R.cells ∧ slots + ms ≤ R.slots) (hrest : (rest.map fun v => v.category).sum ≤ 8) (hdg : decode cc pc = .ok (.invokestatic idx, 3))
    (kk : ∀ (v : Option Value) (H' : Heap), Q2 v H H' → H.size ≤ H'.size → (∀ q : Nat, q < H.size → ¬ A2 q → H'[q]? = H[q]?) → z_Z p l e R s m args below meth c A n (cells + mc) (slots + ms) Q H' (pc + 3) L (v.toList ++ rest)) : z_Z p l e R s m args below meth c A n cells slots Q H pc L (As.reverse ++ rest) := by
  intro ls locs hl hS
  refine z_call (va_runSN (As := As) (rest := rest) ⟨C.1, C.2.1, C.2.2.2.1, C.2.2.2.2.1, C.2.2.2.2.2.1⟩ hM ⟨va_cnB As.length C.2.2.2.2.2.1 (z_goodc hT.1.2.2) rfl rfl rfl hl0 (C.2.2.2.2.2.1 _ hT.1.2.1) hT.2 hR, C.2.2.2.2.2.1 _ hT.1.1, trivial⟩ ⟨z_blind, fun U hU hW => ⟨rfl, by rw [hU]; exact hP, C.2.2.2.2.2.2.1.warm hW⟩⟩ rfl rfl hl.1 rfl (lv_room hrest) hdg hf) hS hA (fun v H1 locs1 h1 h2 h3 h4 => kk v H1 h1 h2 h3 ls locs1 hl h4)
theorem z_callI (C : z_C p s m args meth c cc own ret n nm G) {y : MethodName} {k mc ms idx b maxL : Nat} {As : List Value} {P : Heap → Prop} {A2 : Nat → Prop} {Q2 : Option Value → Heap → Heap → Prop} {bytes : ByteArray}
    (hM : z_M l y bytes maxL none k mc ms (.ref b :: As) G P A2 Q2) (hT : z_calI y bytes maxL As.length) (hlk : Cond.methodLink own idx y ∈ z_B) (hR : k + 1 ≤ R.frames ∧ 8 + (maxL + 11) + 30 * k ≤ R.locals)
    (hP : P H) (hA : ∀ q, A2 q → A q) (hf : cells + mc ≤ R.cells ∧ slots + ms ≤ R.slots) (hrest : (rest.map fun v => v.category).sum ≤ 8) (hdg : decode cc pc = .ok (.invokespecial idx, 3))
    (kk : ∀ (v : Option Value) (H' : Heap), Q2 v H H' → H.size ≤ H'.size → (∀ q : Nat, q < H.size → ¬ A2 q → H'[q]? = H[q]?) → z_Z p l e R s m args below meth c A n (cells + mc) (slots + ms) Q H' (pc + 3) L (v.toList ++ rest)) : z_Z p l e R s m args below meth c A n cells slots Q H pc L (As.reverse ++ .ref b :: rest) := by
  intro ls locs hl hS
  refine z_call (va_runI (As := As) (rest := rest) (b := b) ⟨C.1, C.2.1, C.2.2.2.1, C.2.2.2.2.1, C.2.2.2.2.2.1⟩ hM (cwI As.length C.2.2.2.2.2.1 (z_goodc hT.1.2.2.1) rfl rfl rfl (C.2.2.2.2.2.1 _ hT.1.1) (C.2.2.2.2.2.1 _ hlk) (C.2.2.2.2.2.1 _ hT.1.2.1) hT.1.2.2.2 hT.2 hR) ⟨z_blind, fun U hU hW => ⟨rfl, by rw [hU]; exact hP, C.2.2.2.2.2.2.1.warm hW⟩⟩ rfl rfl hl.1 rfl (lv_room hrest) hdg hf) hS hA (fun v H1 locs1 h1 h2 h3 h4 => kk v H1 h1 h2 h3 ls locs1 hl h4)
theorem z_ifb_eq (C : z_C p s m args meth c cc own ret n nm G) {b : Bool} {off : Int} (tgt : Nat) (hdg : decode cc pc = .ok (.ifCond .eq off, 3)) (ht : (pc : Int) + off = (tgt : Int)) (kt : b = false → z_Z p l e R s m args below meth c A n cells slots Q H tgt L rest) (kf : b = true → z_Z p l e R s m args below meth c A n cells slots Q H (pc + 3) L rest) : z_Z p l e R s m args below meth c A n cells slots Q H pc L (.int (z_b b) :: rest) :=
  z_if_eq C tgt hdg ht (fun h => kt (by cases b with | false => rfl | true => exact absurd h (by decide))) (fun h => kf (by cases b with | true => rfl | false => exact absurd rfl h))
theorem z_ifb_ne (C : z_C p s m args meth c cc own ret n nm G) {b : Bool} {off : Int} (tgt : Nat) (hdg : decode cc pc = .ok (.ifCond .ne off, 3)) (ht : (pc : Int) + off = (tgt : Int)) (kt : b = true → z_Z p l e R s m args below meth c A n cells slots Q H tgt L rest) (kf : b = false → z_Z p l e R s m args below meth c A n cells slots Q H (pc + 3) L rest) : z_Z p l e R s m args below meth c A n cells slots Q H pc L (.int (z_b b) :: rest) :=
  z_if_ne C tgt hdg ht (fun h => kt (by cases b with | true => rfl | false => exact absurd rfl h)) (fun h => kf (by cases b with | false => rfl | true => exact absurd h (by decide)))
theorem z_ifnb_eq (C : z_C p s m args meth c cc own ret n nm G) {b : Bool} {off : Int} (tgt : Nat) (hdg : decode cc pc = .ok (.ifCond .eq off, 3)) (ht : (pc : Int) + off = (tgt : Int)) (kt : b = true → z_Z p l e R s m args below meth c A n cells slots Q H tgt L rest) (kf : b = false → z_Z p l e R s m args below meth c A n cells slots Q H (pc + 3) L rest) : z_Z p l e R s m args below meth c A n cells slots Q H pc L (.int (z_b (!b)) :: rest) :=
  z_ifb_eq C tgt hdg ht (fun h => kt (by simpa using h)) (fun h => kf (by simpa using h))
theorem z_ifnb_ne (C : z_C p s m args meth c cc own ret n nm G) {b : Bool} {off : Int} (tgt : Nat) (hdg : decode cc pc = .ok (.ifCond .ne off, 3)) (ht : (pc : Int) + off = (tgt : Int)) (kt : b = false → z_Z p l e R s m args below meth c A n cells slots Q H tgt L rest) (kf : b = true → z_Z p l e R s m args below meth c A n cells slots Q H (pc + 3) L rest) : z_Z p l e R s m args below meth c A n cells slots Q H pc L (.int (z_b (!b)) :: rest) :=
  z_ifb_ne C tgt hdg ht (fun h => kt (by simpa using h)) (fun h => kf (by simpa using h))
/-- calls of methods that only read -/
theorem z_callVR (C : z_C p s m args meth c cc own ret n nm G) {y : MethodName} {k idx b maxL ci : Nat} {Cn : String} {T : u_T} {N : Nat} {fs : List Value} {As : List Value} {P : Heap → Prop} {bytes : ByteArray} {rt : Option FieldType} {val : Value}
    (hM : z_MR l y bytes maxL rt k (.ref b :: As) G P val) (hT : z_cal y bytes maxL rt Cn As.length) (hlk : Cond.methodLink own idx y ∈ z_B) (hR : k + 1 ≤ R.frames ∧ 8 + (maxL + 11) + 30 * k ≤ R.locals)
    (hat : va_at G.1 vwCl (b, .inr (ci, fs)) H) (hc : vwCl[ci]? = some (Cn, T, N)) (hP : P H) (hf : cells ≤ R.cells ∧ slots ≤ R.slots) (hrest : (rest.map fun v => v.category).sum ≤ 8) (hdg : decode cc pc = .ok (.invokevirtual idx, 3))
    (kk : z_Z p l e R s m args below meth c A n cells slots Q H (pc + 3) L (val :: rest)) : z_Z p l e R s m args below meth c A n cells slots Q H pc L (As.reverse ++ .ref b :: rest) :=
  z_callV C hM hT hlk hR hat hc hP (fun _ h => h.elim) hf hrest hdg (fun v H' hq _ _ => by obtain ⟨rfl, rfl⟩ := hq; exact kk)
theorem z_callSR (C : z_C p s m args meth c cc own ret n nm G) {y : MethodName} {k idx maxL : Nat} {As : List Value} {P : Heap → Prop} {bytes : ByteArray} {rt : Option FieldType} {val : Value}
    (hM : z_MR l y bytes maxL rt k As G P val) (hT : z_calS y bytes maxL rt As.length) (hlk : Cond.methodLink own idx y ∈ z_B) (hR : k + 1 ≤ R.frames ∧ 8 + (maxL + 11) + 30 * k ≤ R.locals)
    (hP : P H) (hf : cells ≤ R.cells ∧ slots ≤ R.slots) (hrest : (rest.map fun v => v.category).sum ≤ 8) (hdg : decode cc pc = .ok (.invokestatic idx, 3))
    (kk : z_Z p l e R s m args below meth c A n cells slots Q H (pc + 3) L (val :: rest)) : z_Z p l e R s m args below meth c A n cells slots Q H pc L (As.reverse ++ rest) :=
  z_callS C hM hT hlk hR hP (fun _ h => h.elim) hf hrest hdg (fun v H' hq _ _ => by obtain ⟨rfl, rfl⟩ := hq; exact kk)
theorem z_callSNR (C : z_C p s m args meth c cc own ret n nm G) {y : MethodName} {host : String} {k idx maxL : Nat} {As : List Value} {P : Heap → Prop} {bytes : ByteArray} {rt : Option FieldType} {val : Value}
    (hM : z_MR l y bytes maxL rt k As G P val) (hT : z_calS y bytes maxL rt As.length) (hl0 : va_Nw (.methodLinkNest own idx y host) s) (hR : k + 1 ≤ R.frames ∧ 8 + (maxL + 11) + 30 * k ≤ R.locals)
    (hP : P H) (hf : cells ≤ R.cells ∧ slots ≤ R.slots) (hrest : (rest.map fun v => v.category).sum ≤ 8) (hdg : decode cc pc = .ok (.invokestatic idx, 3))
    (kk : z_Z p l e R s m args below meth c A n cells slots Q H (pc + 3) L (val :: rest)) : z_Z p l e R s m args below meth c A n cells slots Q H pc L (As.reverse ++ rest) :=
  z_callSN C hM hT hl0 hR hP (fun _ h => h.elim) hf hrest hdg (fun v H' hq _ _ => by obtain ⟨rfl, rfl⟩ := hq; exact kk)
end ZROWS
theorem z_lgI {L : List (Nat × Value)} {k : Nat} {x y : Int32} (h : z_lg L k = some (.int x)) (e : x = y) : z_lg L k = some (.int y) := e ▸ h
theorem z_inc (i : Nat) : nI i + Int32.ofInt 1 = nI (i + 1) := nI_1 i
theorem z_ge {x : Int32} {n i : Nat} (hn : x = nI n) (hb : n < 2 ^ 31) (hi : i ≤ n) (h : ¬ nI i < x) : i = n := by
  subst hn
  rcases Nat.lt_or_ge i n with q | q
  · exact absurd (nI_lt q hb) h
  · omega
theorem z_lt {x : Int32} {n i : Nat} (hn : x = nI n) (hb : n < 2 ^ 31) (hi : i ≤ n) (h : nI i < x) : i < n := by
  subst hn
  rcases Nat.lt_or_ge i n with q | q
  · exact q
  · exact absurd h (nI_nlt q (by omega))
theorem z_loopN {p : Program} {l : Launch} {e : Env} {R : Room} {s : State} {m : MethodId} {args : Array Value} {below : List Frame} {meth : Method} {c : Code} {A : Nat → Prop} {n cells slots : Nat} {Q : State → Prop} {H : Heap} {pc : Nat} {L : List (Nat × Value)} {st : List Value} (Lf : Nat → List (Nat × Value)) (n0 : Nat) (hL : z_all (Lf 0) L)
    (h : ∀ i, i ≤ n0 → (i < n0 → ∀ L', z_all (Lf (i + 1)) L' → z_Z p l e R s m args below meth c A n cells slots Q H pc L' st) → z_Z p l e R s m args below meth c A n cells slots Q H pc (Lf i) st) : z_Z p l e R s m args below meth c A n cells slots Q H pc L st := by
  have key : ∀ j i, i + j = n0 → z_Z p l e R s m args below meth c A n cells slots Q H pc (Lf i) st := by
    intro j
    induction j with
    | zero => intro i hi; exact h i (by omega) (fun q => absurd q (by omega))
    | succ j ih => intro i hi; exact h i (by omega) (fun _ L' hL' => z_sub _ hL' (ih (i + 1) (by omega)))
  exact z_sub _ hL (key n0 0 (by omega))
theorem z_loopS {σ : Type} {p : Program} {l : Launch} {e : Env} {R : Room} {s : State} {m : MethodId} {args : Array Value} {below : List Frame} {meth : Method} {c : Code} {A : Nat → Prop} {n cells slots : Nat} {Q : State → Prop} {H : Heap} {pc : Nat} {L : List (Nat × Value)} {st : List Value} (μ : σ → Nat) (I : σ → Heap → Prop) (Lf : σ → List (Nat × Value)) (x0 : σ) (h0 : I x0 H) (hL : z_all (Lf x0) L)
    (h : ∀ x H1, I x H1 → (∀ y H2 L', I y H2 → μ y < μ x → z_all (Lf y) L' → z_Z p l e R s m args below meth c A n cells slots Q H2 pc L' st) → z_Z p l e R s m args below meth c A n cells slots Q H1 pc (Lf x) st) : z_Z p l e R s m args below meth c A n cells slots Q H pc L st := by
  have key : ∀ k x H1, μ x < k → I x H1 → z_Z p l e R s m args below meth c A n cells slots Q H1 pc (Lf x) st := by
    intro k
    induction k with
    | zero => intro x H1 hk; exact absurd hk (by omega)
    | succ k ih => intro x H1 hk hx; exact h x H1 hx (fun y H2 L' hy hm hL' => z_sub _ hL' (ih y H2 (by omega) hy))
  exact z_sub _ hL (key _ x0 H (Nat.lt_succ_self _) h0)
/-- a contract from its body's walk -/
theorem z_M.of {l : Launch} {y : MethodName} {k mc ms n : Nat} {av : List Value} {G : z_G} {P : Heap → Prop} {A : Nat → Prop} {Qr : Option Value → Heap → Heap → Prop} {cc : ByteArray} {ret : Option FieldType}
    (hy : plainName y.cls = true) (hl : (lg_sl av).length ≤ n)
    (body : ∀ (p : Program) (e : Env) (s : State) (m : MethodId) (below : List Frame) (meth : Method) (c : Code), z_C p s m av.toArray meth c cc y.cls ret n y.name G → P s.heap → z_Z p l e (z_rm k mc ms) s m av.toArray below meth c A n 0 0 (MQ below (z_Q Qr A) av.toArray s mc ms A) s.heap 0 (lv_args 0 av) []) :
    z_M l y cc n ret k mc ms av G P A Qr := by
  refine Met.ofW (cc := cc) (maxL := n) (ret := ret) hy rfl ?_
  intro p e s m args below meth c s₁ B hml hv
  obtain ⟨rfl, hP, hK⟩ := hv
  have hown : s.vm.findClass y.cls = some m.cls := findClass_of_methodNamed B.named
  have hin : meth.name = y.name := (name_of_methodNamed B.named B.method).1
  have K := body p e s m below meth c ⟨B.exec, B.bytes, B.returns, hml, hown, fun w hw => atoms_spec (ws := Cond.code y cc n ret :: z_B) B.pre w (List.mem_cons_of_mem _ hw), hK, B.notSynchronized, hin⟩ hP
  rw [lg_entry_eq]
  exact K _ _ (lv_entry av hl) va_S.rf

