/-! A thin layer over the kit: one judgement z_Z that hides the slots and the frame, contracts z_M over the real heap, and a row an instruction. -/
abbrev z_G : Type := va_G × ClassId × ClassId × ClassId × ClassId
def z_tys (G : z_G) : List (ClassId × FieldType) := [(G.2.1, .int), (G.2.2.1, .long), (G.2.2.2.1, .boolean), (G.2.2.2.2, .object "java/lang/Object")]
/-- what holds in a method's body all along -/
def z_C (p : Program) (s : State) (m : MethodId) (args : Array Value) (meth : Method) (c : Code) (cc : ByteArray) (own : String) (ws : List Cond) (ret : Option FieldType) (n : Nat) (nm : String) (G : z_G) : Prop :=
  p.tables.exec = Jvm.exec ∧ c.code = cc ∧ meth.sig.returnType = ret ∧ c.maxLocals = n ∧ s.vm.findClass own = some m.cls ∧ (∀ w ∈ ws, w.before args s = true) ∧ va_K G.1 vwCl (z_tys G) s ∧ meth.locks = false ∧ meth.name = nm
/-- the judgement -/
def z_Z (p : Program) (l : Launch) (e : Env) (R : Room) (s : State) (m : MethodId) (args : Array Value) (below : List Frame) (meth : Method) (c : Code) (A : Nat → Prop) (n cells slots : Nat) (Q : State → Prop) (H : Heap) (pc : Nat) (L : List (Nat × Value)) (st : List Value) : Prop :=
  ∀ (ls : Array Slot) (locs : List Loc), lv_has ls n L → va_S A s.heap H locs → W p l e R s m args below meth c H locs cells slots Q (F0 m pc ls st)
/-- a method's end -/
def z_Q (Q : Option Value → Heap → Heap → Prop) (A : Nat → Prop) : Array Value → State → Outcome → State → Prop := fun _ st oc t => (∃ v : Option Value, oc = .returned v ∧ Q v st.heap t.heap) ∧ va_F A st t
def z_rm (k mc ms : Nat) : Room := { frames := k, cells := mc, slots := ms, locals := 30 * k }
/-- a contract: any heap with P, any caller; mc cells of ms slots may come, A is what may change -/
def z_M (l : Launch) (y : MethodName) (ws : List Cond) (k mc ms : Nat) (av : List Value) (G : z_G) (P : Heap → Prop) (A : Nat → Prop) (Q : Option Value → Heap → Heap → Prop) : Prop :=
  Met l y ws (z_rm k mc ms) (va_Pc av (fun U => P U.heap ∧ va_K G.1 vwCl (z_tys G) U)) (z_Q Q A) mc ms A
/-- a contract of a method that only reads -/
def z_MR (l : Launch) (y : MethodName) (ws : List Cond) (k : Nat) (av : List Value) (G : z_G) (P : Heap → Prop) (val : Value) : Prop :=
  z_M l y ws k 0 0 av G P (fun _ => False) (fun v H H' => v = some val ∧ H' = H)
/-- one cell has become e, the others stay -/
def z_U (G : z_G) (a : Nat) (e : va_E) (H H' : Heap) : Prop := va_at G.1 vwCl (a, e) H' ∧ H'.size = H.size ∧ ∀ q : Nat, q ≠ a → H'[q]? = H[q]?
/-- one cell has come -/
def z_N (G : z_G) (a : Nat) (e : va_E) (H H' : Heap) : Prop := a = H.size ∧ va_at G.1 vwCl (a, e) H' ∧ H'.size = H.size + 1 ∧ ∀ q : Nat, q < H.size → H'[q]? = H[q]?
theorem z_at_keep {G : z_G} {a b : Nat} {e e2 : va_E} {H H' : Heap} (hU : z_U G a e H H') (h : va_at G.1 vwCl (b, e2) H) (hne : b ≠ a) : va_at G.1 vwCl (b, e2) H' := h.kept (hU.2.2 b hne)
theorem z_at_new {G : z_G} {a b : Nat} {e e2 : va_E} {H H' : Heap} (hN : z_N G a e H H') (h : va_at G.1 vwCl (b, e2) H) : va_at G.1 vwCl (b, e2) H' := h.kept (hN.2.2.2 b h.lt)
theorem z_at_in {G : z_G} {a : Nat} {o o2 : va_E} {H : Heap} (h : va_at G.1 vwCl (a, o) H) : a < H.size := h.lt
theorem z_P1 {D : va_G} {a : Nat} {e : va_E} {H : Heap} (h : va_at D vwCl (a, e) H) : va_P D vwCl [(a, e)] H := by
  intro k q hk
  match k, hk with
  | 0, hk => cases hk; exact h
  | k + 1, hk => simp at hk
/-! locals -/
def z_lg (L : List (Nat × Value)) (k : Nat) : Option Value := match L with
  | [] => none
  | q :: r => bif Nat.beq q.1 k then some q.2 else z_lg r k
theorem z_lg_mem : ∀ {L : List (Nat × Value)} {k : Nat} {v : Value}, z_lg L k = some v → (k, v) ∈ L
  | [], k, v, h => by cases h
  | q :: r, k, v, h => by
    unfold z_lg at h
    by_cases hq : q.1 = k
    · have hb : Nat.beq q.1 k = true := by rw [hq]; exact Nat.beq_refl k
      rw [hb] at h
      have h2 : q.2 = v := Option.some.inj h
      rw [← hq, ← h2]
      exact List.mem_cons_self
    · have hb : Nat.beq q.1 k = false := by
        cases hz : Nat.beq q.1 k with
        | false => rfl
        | true => exact absurd (Nat.eq_of_beq_eq_true hz) hq
      rw [hb] at h
      exact List.mem_cons_of_mem _ (z_lg_mem h)
theorem z_lg_at {ls : Array Slot} {n : Nat} {L : List (Nat × Value)} (h : lv_has ls n L) {k : Nat} {v : Value} (hk : z_lg L k = some v) : ls[k]? = some (.val v) := h.2.2 (k, v) (z_lg_mem hk)
def z_ls (L : List (Nat × Value)) (i : Nat) (v : Value) : List (Nat × Value) := (i, v) :: L.filter (fun q => !(q.1 == i) && !(q.1 + 1 == i && q.2.category == 2))
def z_ls2 (L : List (Nat × Value)) (i : Nat) (v : Value) : List (Nat × Value) := (i, v) :: L.filter (fun q => !(q.1 == i) && (!(q.1 == i + 1) && !(q.1 + 1 == i && q.2.category == 2)))
def z_all : List (Nat × Value) → List (Nat × Value) → Prop
  | [], _ => True
  | q :: r, L => z_lg L q.1 = some q.2 ∧ z_all r L
theorem z_all_sub : ∀ {L' L : List (Nat × Value)}, z_all L' L → ∀ q ∈ L', q ∈ L
  | [], _, _, q, hq => by cases hq
  | x :: r, L, h, q, hq => by
    rcases List.mem_cons.mp hq with rfl | hq
    · exact z_lg_mem h.1
    · exact z_all_sub h.2 q hq
section ZROWS
variable {p : Program} {l : Launch} {e : Env} {R : Room} {s : State} {m : MethodId} {args : Array Value} {below : List Frame} {meth : Method} {c : Code} {A : Nat → Prop} {n cells slots : Nat} {Q : State → Prop} {H : Heap} {pc : Nat} {L : List (Nat × Value)} {rest : List Value}
variable {cc : ByteArray} {own : String} {ws : List Cond} {ret : Option FieldType} {nm : String} {G : z_G}
theorem z_sub (L' : List (Nat × Value)) {st : List Value} (h : z_all L' L) (k : z_Z p l e R s m args below meth c A n cells slots Q H pc L' st) : z_Z p l e R s m args below meth c A n cells slots Q H pc L st :=
  fun ls locs hl hS => k ls locs ⟨hl.1, hl.2.1, fun q hq => hl.2.2 q (z_all_sub h q hq)⟩ hS
theorem z_widen {st : List Value} {k2 n2 : Nat} (h1 : cells ≤ k2) (h2 : slots ≤ n2) (k : z_Z p l e R s m args below meth c A n k2 n2 Q H pc L st) : z_Z p l e R s m args below meth c A n cells slots Q H pc L st :=
  fun ls locs hl hS => W.widen h1 h2 (k ls locs hl hS)
theorem z_eqst {st st2 : List Value} (h : st = st2) (k : z_Z p l e R s m args below meth c A n cells slots Q H pc L st2) : z_Z p l e R s m args below meth c A n cells slots Q H pc L st := h ▸ k
theorem z_iconst (C : z_C p s m args meth c cc own ws ret n nm G) {i : Int} {v : Int32} (hdg : decode cc pc = .ok (.iconst i, 1)) (hv : Int32.ofInt i = v) (k : z_Z p l e R s m args below meth c A n cells slots Q H (pc + 1) L (.int v :: rest)) : z_Z p l e R s m args below meth c A n cells slots Q H pc L rest :=
  fun ls locs hl hS => lv_iconst C.1 C.2.1 hdg hv (k ls locs hl hS)
theorem z_bipush (C : z_C p s m args meth c cc own ws ret n nm G) {i : Int} {v : Int32} (hdg : decode cc pc = .ok (.bipush i, 2)) (hv : (Int8.ofInt i).toInt32 = v) (k : z_Z p l e R s m args below meth c A n cells slots Q H (pc + 2) L (.int v :: rest)) : z_Z p l e R s m args below meth c A n cells slots Q H pc L rest :=
  fun ls locs hl hS => lv_bipush C.1 C.2.1 hdg hv (k ls locs hl hS)
theorem z_sipush (C : z_C p s m args meth c cc own ws ret n nm G) {i : Int} {v : Int32} (hdg : decode cc pc = .ok (.sipush i, 3)) (hv : (Int16.ofInt i).toInt32 = v) (k : z_Z p l e R s m args below meth c A n cells slots Q H (pc + 3) L (.int v :: rest)) : z_Z p l e R s m args below meth c A n cells slots Q H pc L rest :=
  fun ls locs hl hS => lv_sipush C.1 C.2.1 hdg hv (k ls locs hl hS)
theorem z_ldc (C : z_C p s m args meth c cc own ws ret n nm G) {index : Nat} {v : Int32} (hw : Cond.constant own index v ∈ ws) (hdg : decode cc pc = .ok (.ldc index, 2)) (k : z_Z p l e R s m args below meth c A n cells slots Q H (pc + 2) L (.int v :: rest)) : z_Z p l e R s m args below meth c A n cells slots Q H pc L rest :=
  fun ls locs hl hS => lv_ldc C.1 C.2.1 C.2.2.2.2.1 (C.2.2.2.2.2.1 _ hw) hdg (k ls locs hl hS)
theorem z_ldcw (C : z_C p s m args meth c cc own ws ret n nm G) {index : Nat} {v : Int32} (hw : Cond.constant own index v ∈ ws) (hdg : decode cc pc = .ok (.ldc_w index, 3)) (k : z_Z p l e R s m args below meth c A n cells slots Q H (pc + 3) L (.int v :: rest)) : z_Z p l e R s m args below meth c A n cells slots Q H pc L rest :=
  fun ls locs hl hS => lv_ldcw C.1 C.2.1 C.2.2.2.2.1 (C.2.2.2.2.2.1 _ hw) hdg (k ls locs hl hS)
theorem z_lconst (C : z_C p s m args meth c cc own ws ret n nm G) {i : Int} {v : Int64} (hdg : decode cc pc = .ok (.lconst i, 1)) (hv : Int64.ofInt i = v) (k : z_Z p l e R s m args below meth c A n cells slots Q H (pc + 1) L (.long v :: rest)) : z_Z p l e R s m args below meth c A n cells slots Q H pc L rest :=
  fun ls locs hl hS => lv_lconst C.1 C.2.1 hdg hv (k ls locs hl hS)
theorem z_iload_n (C : z_C p s m args meth c cc own ws ret n nm G) {k : Fin 4} {x : Int32} (hdg : decode cc pc = .ok (.iload_n k, 1)) (hv : z_lg L k = some (.int x)) (kk : z_Z p l e R s m args below meth c A n cells slots Q H (pc + 1) L (.int x :: rest)) : z_Z p l e R s m args below meth c A n cells slots Q H pc L rest :=
  fun ls locs hl hS => lv_iload_n C.1 C.2.1 hdg rfl (z_lg_at hl hv) (kk ls locs hl hS)
theorem z_iload (C : z_C p s m args meth c cc own ws ret n nm G) {k : Nat} {x : Int32} (hdg : decode cc pc = .ok (.iload k, 2)) (hv : z_lg L k = some (.int x)) (kk : z_Z p l e R s m args below meth c A n cells slots Q H (pc + 2) L (.int x :: rest)) : z_Z p l e R s m args below meth c A n cells slots Q H pc L rest :=
  fun ls locs hl hS => lv_iload C.1 C.2.1 hdg (z_lg_at hl hv) (kk ls locs hl hS)
theorem z_lload_n (C : z_C p s m args meth c cc own ws ret n nm G) {k : Fin 4} {x : Int64} (hdg : decode cc pc = .ok (.lload_n k, 1)) (hv : z_lg L k = some (.long x)) (kk : z_Z p l e R s m args below meth c A n cells slots Q H (pc + 1) L (.long x :: rest)) : z_Z p l e R s m args below meth c A n cells slots Q H pc L rest :=
  fun ls locs hl hS => lv_lload_n C.1 C.2.1 hdg rfl (z_lg_at hl hv) (kk ls locs hl hS)
theorem z_lload (C : z_C p s m args meth c cc own ws ret n nm G) {k : Nat} {x : Int64} (hdg : decode cc pc = .ok (.lload k, 2)) (hv : z_lg L k = some (.long x)) (kk : z_Z p l e R s m args below meth c A n cells slots Q H (pc + 2) L (.long x :: rest)) : z_Z p l e R s m args below meth c A n cells slots Q H pc L rest :=
  fun ls locs hl hS => lv_lload C.1 C.2.1 hdg (z_lg_at hl hv) (kk ls locs hl hS)
theorem z_aload_n (C : z_C p s m args meth c cc own ws ret n nm G) {k : Fin 4} {x : Nat} (hdg : decode cc pc = .ok (.aload_n k, 1)) (hv : z_lg L k = some (.ref x)) (kk : z_Z p l e R s m args below meth c A n cells slots Q H (pc + 1) L (.ref x :: rest)) : z_Z p l e R s m args below meth c A n cells slots Q H pc L rest :=
  fun ls locs hl hS => lv_aload_n C.1 C.2.1 hdg rfl (z_lg_at hl hv) (kk ls locs hl hS)
theorem z_aload (C : z_C p s m args meth c cc own ws ret n nm G) {k : Nat} {x : Nat} (hdg : decode cc pc = .ok (.aload k, 2)) (hv : z_lg L k = some (.ref x)) (kk : z_Z p l e R s m args below meth c A n cells slots Q H (pc + 2) L (.ref x :: rest)) : z_Z p l e R s m args below meth c A n cells slots Q H pc L rest :=
  fun ls locs hl hS => lv_aload C.1 C.2.1 hdg (z_lg_at hl hv) (kk ls locs hl hS)
theorem z_aload_nq (C : z_C p s m args meth c cc own ws ret n nm G) {k : Fin 4} {x : Option Nat} (hdg : decode cc pc = .ok (.aload_n k, 1)) (hv : z_lg L k = some (va_rf x)) (kk : z_Z p l e R s m args below meth c A n cells slots Q H (pc + 1) L (va_rf x :: rest)) : z_Z p l e R s m args below meth c A n cells slots Q H pc L rest := by
  intro ls locs hl hS
  cases x with
  | none => exact lv_aload_nN C.1 C.2.1 hdg rfl (z_lg_at hl hv) (kk ls locs hl hS)
  | some a => exact lv_aload_n C.1 C.2.1 hdg rfl (z_lg_at hl hv) (kk ls locs hl hS)
theorem z_aloadq (C : z_C p s m args meth c cc own ws ret n nm G) {k : Nat} {x : Option Nat} (hdg : decode cc pc = .ok (.aload k, 2)) (hv : z_lg L k = some (va_rf x)) (kk : z_Z p l e R s m args below meth c A n cells slots Q H (pc + 2) L (va_rf x :: rest)) : z_Z p l e R s m args below meth c A n cells slots Q H pc L rest := by
  intro ls locs hl hS
  cases x with
  | none => exact lv_aloadN C.1 C.2.1 hdg (z_lg_at hl hv) (kk ls locs hl hS)
  | some a => exact lv_aload C.1 C.2.1 hdg (z_lg_at hl hv) (kk ls locs hl hS)
theorem z_istore_n (C : z_C p s m args meth c cc own ws ret n nm G) {k : Fin 4} {x : Int32} (hdg : decode cc pc = .ok (.istore_n k, 1)) (hn : (k : Nat) < n) (kk : z_Z p l e R s m args below meth c A n cells slots Q H (pc + 1) (z_ls L k (.int x)) rest) : z_Z p l e R s m args below meth c A n cells slots Q H pc L (.int x :: rest) :=
  fun _ locs hl hS => lv_istore_n C.1 C.2.1 hdg rfl hl hn rfl (fun ls' hl' => kk ls' locs hl' hS)
theorem z_istore (C : z_C p s m args meth c cc own ws ret n nm G) {k : Nat} {x : Int32} (hdg : decode cc pc = .ok (.istore k, 2)) (hn : k < n) (kk : z_Z p l e R s m args below meth c A n cells slots Q H (pc + 2) (z_ls L k (.int x)) rest) : z_Z p l e R s m args below meth c A n cells slots Q H pc L (.int x :: rest) :=
  fun _ locs hl hS => lv_istore C.1 C.2.1 hdg hl hn rfl (fun ls' hl' => kk ls' locs hl' hS)
theorem z_lstore (C : z_C p s m args meth c cc own ws ret n nm G) {k : Nat} {x : Int64} (hdg : decode cc pc = .ok (.lstore k, 2)) (hn : k + 1 < n) (kk : z_Z p l e R s m args below meth c A n cells slots Q H (pc + 2) (z_ls2 L k (.long x)) rest) : z_Z p l e R s m args below meth c A n cells slots Q H pc L (.long x :: rest) :=
  fun _ locs hl hS => lv_lstore C.1 C.2.1 hdg hl hn rfl (fun ls' hl' => kk ls' locs hl' hS)
theorem z_astore_n (C : z_C p s m args meth c cc own ws ret n nm G) {k : Fin 4} {x : Nat} (hdg : decode cc pc = .ok (.astore_n k, 1)) (hn : (k : Nat) < n) (kk : z_Z p l e R s m args below meth c A n cells slots Q H (pc + 1) (z_ls L k (.ref x)) rest) : z_Z p l e R s m args below meth c A n cells slots Q H pc L (.ref x :: rest) :=
  fun _ locs hl hS => lv_astore_n C.1 C.2.1 hdg rfl hl hn rfl (fun ls' hl' => kk ls' locs hl' hS)
theorem z_astore (C : z_C p s m args meth c cc own ws ret n nm G) {k : Nat} {x : Nat} (hdg : decode cc pc = .ok (.astore k, 2)) (hn : k < n) (kk : z_Z p l e R s m args below meth c A n cells slots Q H (pc + 2) (z_ls L k (.ref x)) rest) : z_Z p l e R s m args below meth c A n cells slots Q H pc L (.ref x :: rest) :=
  fun _ locs hl hS => lv_astore C.1 C.2.1 hdg hl hn rfl (fun ls' hl' => kk ls' locs hl' hS)
theorem z_astore_nq (C : z_C p s m args meth c cc own ws ret n nm G) {k : Fin 4} {x : Option Nat} (hdg : decode cc pc = .ok (.astore_n k, 1)) (hn : (k : Nat) < n) (kk : z_Z p l e R s m args below meth c A n cells slots Q H (pc + 1) (z_ls L k (va_rf x)) rest) : z_Z p l e R s m args below meth c A n cells slots Q H pc L (va_rf x :: rest) := by
  intro ls locs hl hS
  cases x with
  | none => exact lv_astore_nN C.1 C.2.1 hdg rfl hl hn rfl (fun ls' hl' => kk ls' locs hl' hS)
  | some a => exact lv_astore_n C.1 C.2.1 hdg rfl hl hn rfl (fun ls' hl' => kk ls' locs hl' hS)
theorem z_astoreq (C : z_C p s m args meth c cc own ws ret n nm G) {k : Nat} {x : Option Nat} (hdg : decode cc pc = .ok (.astore k, 2)) (hn : k < n) (kk : z_Z p l e R s m args below meth c A n cells slots Q H (pc + 2) (z_ls L k (va_rf x)) rest) : z_Z p l e R s m args below meth c A n cells slots Q H pc L (va_rf x :: rest) := by
  intro ls locs hl hS
  cases x with
  | none => exact lv_astoreN C.1 C.2.1 hdg hl hn rfl (fun ls' hl' => kk ls' locs hl' hS)
  | some a => exact lv_astore C.1 C.2.1 hdg hl hn rfl (fun ls' hl' => kk ls' locs hl' hS)
theorem z_iinc (C : z_C p s m args meth c cc own ws ret n nm G) {k : Nat} {i : Int} {x v : Int32} (hdg : decode cc pc = .ok (.iinc k i, 3)) (hx : z_lg L k = some (.int x)) (hv : x + Int32.ofInt i = v) (hn : k < n) (kk : z_Z p l e R s m args below meth c A n cells slots Q H (pc + 3) (z_ls L k (.int v)) rest) : z_Z p l e R s m args below meth c A n cells slots Q H pc L rest := by
  intro ls locs hl hS
  obtain ⟨j, hj⟩ := List.getElem?_of_mem (z_lg_mem hx)
  exact lv_iinc C.1 C.2.1 hdg hl hj hv hn rfl (fun ls' hl' => kk ls' locs hl' hS)
theorem z_iadd (C : z_C p s m args meth c cc own ws ret n nm G) {x y : Int32} (hdg : decode cc pc = .ok (.iadd, 1)) (k : z_Z p l e R s m args below meth c A n cells slots Q H (pc + 1) L (.int (x + y) :: rest)) : z_Z p l e R s m args below meth c A n cells slots Q H pc L (.int y :: .int x :: rest) :=
  fun ls locs hl hS => lv_iadd C.1 C.2.1 hdg (k ls locs hl hS)
theorem z_isub (C : z_C p s m args meth c cc own ws ret n nm G) {x y : Int32} (hdg : decode cc pc = .ok (.isub, 1)) (k : z_Z p l e R s m args below meth c A n cells slots Q H (pc + 1) L (.int (x - y) :: rest)) : z_Z p l e R s m args below meth c A n cells slots Q H pc L (.int y :: .int x :: rest) :=
  fun ls locs hl hS => lv_isub C.1 C.2.1 hdg (k ls locs hl hS)
theorem z_imul (C : z_C p s m args meth c cc own ws ret n nm G) {x y : Int32} (hdg : decode cc pc = .ok (.imul, 1)) (k : z_Z p l e R s m args below meth c A n cells slots Q H (pc + 1) L (.int (x * y) :: rest)) : z_Z p l e R s m args below meth c A n cells slots Q H pc L (.int y :: .int x :: rest) :=
  fun ls locs hl hS => lv_imul C.1 C.2.1 hdg (k ls locs hl hS)
theorem z_iand (C : z_C p s m args meth c cc own ws ret n nm G) {x y : Int32} (hdg : decode cc pc = .ok (.iand, 1)) (k : z_Z p l e R s m args below meth c A n cells slots Q H (pc + 1) L (.int (x &&& y) :: rest)) : z_Z p l e R s m args below meth c A n cells slots Q H pc L (.int y :: .int x :: rest) :=
  fun ls locs hl hS => lv_iand C.1 C.2.1 hdg (k ls locs hl hS)
theorem z_ior (C : z_C p s m args meth c cc own ws ret n nm G) {x y : Int32} (hdg : decode cc pc = .ok (.ior, 1)) (k : z_Z p l e R s m args below meth c A n cells slots Q H (pc + 1) L (.int (x ||| y) :: rest)) : z_Z p l e R s m args below meth c A n cells slots Q H pc L (.int y :: .int x :: rest) :=
  fun ls locs hl hS => lv_ior C.1 C.2.1 hdg (k ls locs hl hS)
theorem z_ixor (C : z_C p s m args meth c cc own ws ret n nm G) {x y : Int32} (hdg : decode cc pc = .ok (.ixor, 1)) (k : z_Z p l e R s m args below meth c A n cells slots Q H (pc + 1) L (.int (x ^^^ y) :: rest)) : z_Z p l e R s m args below meth c A n cells slots Q H pc L (.int y :: .int x :: rest) :=
  fun ls locs hl hS => lv_ixor C.1 C.2.1 hdg (k ls locs hl hS)
theorem z_ishl (C : z_C p s m args meth c cc own ws ret n nm G) {x y : Int32} (hdg : decode cc pc = .ok (.ishl, 1)) (k : z_Z p l e R s m args below meth c A n cells slots Q H (pc + 1) L (.int (x <<< (y &&& 31)) :: rest)) : z_Z p l e R s m args below meth c A n cells slots Q H pc L (.int y :: .int x :: rest) :=
  fun ls locs hl hS => lv_ishl C.1 C.2.1 hdg (k ls locs hl hS)
theorem z_ishr (C : z_C p s m args meth c cc own ws ret n nm G) {x y : Int32} (hdg : decode cc pc = .ok (.ishr, 1)) (k : z_Z p l e R s m args below meth c A n cells slots Q H (pc + 1) L (.int (x >>> (y &&& 31)) :: rest)) : z_Z p l e R s m args below meth c A n cells slots Q H pc L (.int y :: .int x :: rest) :=
  fun ls locs hl hS => lv_ishr C.1 C.2.1 hdg (k ls locs hl hS)
theorem z_iushr (C : z_C p s m args meth c cc own ws ret n nm G) {x y : Int32} (hdg : decode cc pc = .ok (.iushr, 1)) (k : z_Z p l e R s m args below meth c A n cells slots Q H (pc + 1) L (.int ((x.toUInt32 >>> (y.toUInt32 &&& Int32.toUInt32 31)).toInt32) :: rest)) : z_Z p l e R s m args below meth c A n cells slots Q H pc L (.int y :: .int x :: rest) :=
  fun ls locs hl hS => lv_iushr C.1 C.2.1 hdg (k ls locs hl hS)
theorem z_i2l (C : z_C p s m args meth c cc own ws ret n nm G) {x : Int32} (hdg : decode cc pc = .ok (.i2l, 1)) (k : z_Z p l e R s m args below meth c A n cells slots Q H (pc + 1) L (.long x.toInt64 :: rest)) : z_Z p l e R s m args below meth c A n cells slots Q H pc L (.int x :: rest) :=
  fun ls locs hl hS => lv_i2l C.1 C.2.1 hdg rfl (k ls locs hl hS)
theorem z_l2i (C : z_C p s m args meth c cc own ws ret n nm G) {x : Int64} (hdg : decode cc pc = .ok (.l2i, 1)) (k : z_Z p l e R s m args below meth c A n cells slots Q H (pc + 1) L (.int x.toInt32 :: rest)) : z_Z p l e R s m args below meth c A n cells slots Q H pc L (.long x :: rest) :=
  fun ls locs hl hS => lv_l2i C.1 C.2.1 hdg rfl (k ls locs hl hS)
theorem z_lor (C : z_C p s m args meth c cc own ws ret n nm G) {x y : Int64} (hdg : decode cc pc = .ok (.lor, 1)) (k : z_Z p l e R s m args below meth c A n cells slots Q H (pc + 1) L (.long (x ||| y) :: rest)) : z_Z p l e R s m args below meth c A n cells slots Q H pc L (.long y :: .long x :: rest) :=
  fun ls locs hl hS => lv_lor C.1 C.2.1 hdg (k ls locs hl hS)
theorem z_lshl (C : z_C p s m args meth c cc own ws ret n nm G) {x : Int64} {y : Int32} (hdg : decode cc pc = .ok (.lshl, 1)) (k : z_Z p l e R s m args below meth c A n cells slots Q H (pc + 1) L (.long (x <<< (y.toInt64 &&& 63)) :: rest)) : z_Z p l e R s m args below meth c A n cells slots Q H pc L (.int y :: .long x :: rest) :=
  fun ls locs hl hS => lv_lshl C.1 C.2.1 hdg (k ls locs hl hS)
theorem z_lshr (C : z_C p s m args meth c cc own ws ret n nm G) {x : Int64} {y : Int32} (hdg : decode cc pc = .ok (.lshr, 1)) (k : z_Z p l e R s m args below meth c A n cells slots Q H (pc + 1) L (.long (x >>> (y.toInt64 &&& 63)) :: rest)) : z_Z p l e R s m args below meth c A n cells slots Q H pc L (.int y :: .long x :: rest) :=
  fun ls locs hl hS => lv_lshr C.1 C.2.1 hdg (k ls locs hl hS)
theorem z_lcmp (C : z_C p s m args meth c cc own ws ret n nm G) {x y : Int64} (hdg : decode cc pc = .ok (.lcmp, 1)) (k : z_Z p l e R s m args below meth c A n cells slots Q H (pc + 1) L (.int (if x < y then -1 else if x = y then 0 else 1) :: rest)) : z_Z p l e R s m args below meth c A n cells slots Q H pc L (.long y :: .long x :: rest) :=
  fun ls locs hl hS => W.lcmp C.1 C.2.1 hdg (k ls locs hl hS)
theorem z_dup (C : z_C p s m args meth c cc own ws ret n nm G) {va : Value} (hdg : decode cc pc = .ok (.dup, 1)) (hva : va.category = 1) (k : z_Z p l e R s m args below meth c A n cells slots Q H (pc + 1) L (va :: va :: rest)) : z_Z p l e R s m args below meth c A n cells slots Q H pc L (va :: rest) :=
  fun ls locs hl hS => lv_dup C.1 C.2.1 hdg hva (k ls locs hl hS)
theorem z_dup2 (C : z_C p s m args meth c cc own ws ret n nm G) {va vb : Value} (hdg : decode cc pc = .ok (.dup2, 1)) (hva : va.category = 1) (hvb : vb.category = 1) (k : z_Z p l e R s m args below meth c A n cells slots Q H (pc + 1) L (va :: vb :: va :: vb :: rest)) : z_Z p l e R s m args below meth c A n cells slots Q H pc L (va :: vb :: rest) :=
  fun ls locs hl hS => lv_dup2_11 C.1 C.2.1 hdg hva hvb (k ls locs hl hS)
theorem z_dup_x1 (C : z_C p s m args meth c cc own ws ret n nm G) {va vb : Value} (hdg : decode cc pc = .ok (.dup_x1, 1)) (hva : va.category = 1) (hvb : vb.category = 1) (k : z_Z p l e R s m args below meth c A n cells slots Q H (pc + 1) L (va :: vb :: va :: rest)) : z_Z p l e R s m args below meth c A n cells slots Q H pc L (va :: vb :: rest) :=
  fun ls locs hl hS => lv_dup_x1 C.1 C.2.1 hdg hva hvb (k ls locs hl hS)
theorem z_pop (C : z_C p s m args meth c cc own ws ret n nm G) {va : Value} (hdg : decode cc pc = .ok (.pop, 1)) (hva : va.category = 1) (k : z_Z p l e R s m args below meth c A n cells slots Q H (pc + 1) L rest) : z_Z p l e R s m args below meth c A n cells slots Q H pc L (va :: rest) :=
  fun ls locs hl hS => lv_pop C.1 C.2.1 hdg hva (k ls locs hl hS)
theorem z_null (C : z_C p s m args meth c cc own ws ret n nm G) (hdg : decode cc pc = .ok (.aconst_null, 1)) (k : z_Z p l e R s m args below meth c A n cells slots Q H (pc + 1) L (.null :: rest)) : z_Z p l e R s m args below meth c A n cells slots Q H pc L rest :=
  fun ls locs hl hS => lv_null C.1 C.2.1 hdg (k ls locs hl hS)
theorem z_nullq (C : z_C p s m args meth c cc own ws ret n nm G) (hdg : decode cc pc = .ok (.aconst_null, 1)) (k : z_Z p l e R s m args below meth c A n cells slots Q H (pc + 1) L (va_rf none :: rest)) : z_Z p l e R s m args below meth c A n cells slots Q H pc L rest :=
  fun ls locs hl hS => lv_null C.1 C.2.1 hdg (k ls locs hl hS)
theorem z_goto (C : z_C p s m args meth c cc own ws ret n nm G) {off : Int} (tgt : Nat) (hdg : decode cc pc = .ok (.goto off, 3)) (ht : (pc : Int) + off = (tgt : Int)) (k : z_Z p l e R s m args below meth c A n cells slots Q H tgt L rest) : z_Z p l e R s m args below meth c A n cells slots Q H pc L rest :=
  fun ls locs hl hS => lv_goto C.1 C.2.1 hdg ht (k ls locs hl hS)
theorem z_if_eq (C : z_C p s m args meth c cc own ws ret n nm G) {x : Int32} {off : Int} (tgt : Nat) (hdg : decode cc pc = .ok (.ifCond .eq off, 3)) (ht : (pc : Int) + off = (tgt : Int)) (kt : x = 0 → z_Z p l e R s m args below meth c A n cells slots Q H tgt L rest) (kf : ¬ x = 0 → z_Z p l e R s m args below meth c A n cells slots Q H (pc + 3) L rest) : z_Z p l e R s m args below meth c A n cells slots Q H pc L (.int x :: rest) :=
  fun ls locs hl hS => lv_if_eq C.1 C.2.1 hdg ht (fun z => kt z ls locs hl hS) (fun z => kf z ls locs hl hS)
theorem z_icmp_eq (C : z_C p s m args meth c cc own ws ret n nm G) {x y : Int32} {off : Int} (tgt : Nat) (hdg : decode cc pc = .ok (.if_icmp .eq off, 3)) (ht : (pc : Int) + off = (tgt : Int)) (kt : x = y → z_Z p l e R s m args below meth c A n cells slots Q H tgt L rest) (kf : ¬ x = y → z_Z p l e R s m args below meth c A n cells slots Q H (pc + 3) L rest) : z_Z p l e R s m args below meth c A n cells slots Q H pc L (.int y :: .int x :: rest) :=
  fun ls locs hl hS => lv_icmp_eq C.1 C.2.1 hdg ht (fun z => kt z ls locs hl hS) (fun z => kf z ls locs hl hS)
theorem z_if_ne (C : z_C p s m args meth c cc own ws ret n nm G) {x : Int32} {off : Int} (tgt : Nat) (hdg : decode cc pc = .ok (.ifCond .ne off, 3)) (ht : (pc : Int) + off = (tgt : Int)) (kt : ¬ x = 0 → z_Z p l e R s m args below meth c A n cells slots Q H tgt L rest) (kf : x = 0 → z_Z p l e R s m args below meth c A n cells slots Q H (pc + 3) L rest) : z_Z p l e R s m args below meth c A n cells slots Q H pc L (.int x :: rest) :=
  fun ls locs hl hS => lv_if_ne C.1 C.2.1 hdg ht (fun z => kt z ls locs hl hS) (fun z => kf z ls locs hl hS)
theorem z_icmp_ne (C : z_C p s m args meth c cc own ws ret n nm G) {x y : Int32} {off : Int} (tgt : Nat) (hdg : decode cc pc = .ok (.if_icmp .ne off, 3)) (ht : (pc : Int) + off = (tgt : Int)) (kt : ¬ x = y → z_Z p l e R s m args below meth c A n cells slots Q H tgt L rest) (kf : x = y → z_Z p l e R s m args below meth c A n cells slots Q H (pc + 3) L rest) : z_Z p l e R s m args below meth c A n cells slots Q H pc L (.int y :: .int x :: rest) :=
  fun ls locs hl hS => lv_icmp_ne C.1 C.2.1 hdg ht (fun z => kt z ls locs hl hS) (fun z => kf z ls locs hl hS)
theorem z_if_lt (C : z_C p s m args meth c cc own ws ret n nm G) {x : Int32} {off : Int} (tgt : Nat) (hdg : decode cc pc = .ok (.ifCond .lt off, 3)) (ht : (pc : Int) + off = (tgt : Int)) (kt : x < 0 → z_Z p l e R s m args below meth c A n cells slots Q H tgt L rest) (kf : ¬ x < 0 → z_Z p l e R s m args below meth c A n cells slots Q H (pc + 3) L rest) : z_Z p l e R s m args below meth c A n cells slots Q H pc L (.int x :: rest) :=
  fun ls locs hl hS => lv_if_lt C.1 C.2.1 hdg ht (fun z => kt z ls locs hl hS) (fun z => kf z ls locs hl hS)
theorem z_icmp_lt (C : z_C p s m args meth c cc own ws ret n nm G) {x y : Int32} {off : Int} (tgt : Nat) (hdg : decode cc pc = .ok (.if_icmp .lt off, 3)) (ht : (pc : Int) + off = (tgt : Int)) (kt : x < y → z_Z p l e R s m args below meth c A n cells slots Q H tgt L rest) (kf : ¬ x < y → z_Z p l e R s m args below meth c A n cells slots Q H (pc + 3) L rest) : z_Z p l e R s m args below meth c A n cells slots Q H pc L (.int y :: .int x :: rest) :=
  fun ls locs hl hS => lv_icmp_lt C.1 C.2.1 hdg ht (fun z => kt z ls locs hl hS) (fun z => kf z ls locs hl hS)
theorem z_if_ge (C : z_C p s m args meth c cc own ws ret n nm G) {x : Int32} {off : Int} (tgt : Nat) (hdg : decode cc pc = .ok (.ifCond .ge off, 3)) (ht : (pc : Int) + off = (tgt : Int)) (kt : 0 ≤ x → z_Z p l e R s m args below meth c A n cells slots Q H tgt L rest) (kf : ¬ 0 ≤ x → z_Z p l e R s m args below meth c A n cells slots Q H (pc + 3) L rest) : z_Z p l e R s m args below meth c A n cells slots Q H pc L (.int x :: rest) :=
  fun ls locs hl hS => lv_if_ge C.1 C.2.1 hdg ht (fun z => kt z ls locs hl hS) (fun z => kf z ls locs hl hS)
theorem z_icmp_ge (C : z_C p s m args meth c cc own ws ret n nm G) {x y : Int32} {off : Int} (tgt : Nat) (hdg : decode cc pc = .ok (.if_icmp .ge off, 3)) (ht : (pc : Int) + off = (tgt : Int)) (kt : y ≤ x → z_Z p l e R s m args below meth c A n cells slots Q H tgt L rest) (kf : ¬ y ≤ x → z_Z p l e R s m args below meth c A n cells slots Q H (pc + 3) L rest) : z_Z p l e R s m args below meth c A n cells slots Q H pc L (.int y :: .int x :: rest) :=
  fun ls locs hl hS => lv_icmp_ge C.1 C.2.1 hdg ht (fun z => kt z ls locs hl hS) (fun z => kf z ls locs hl hS)
theorem z_if_gt (C : z_C p s m args meth c cc own ws ret n nm G) {x : Int32} {off : Int} (tgt : Nat) (hdg : decode cc pc = .ok (.ifCond .gt off, 3)) (ht : (pc : Int) + off = (tgt : Int)) (kt : 0 < x → z_Z p l e R s m args below meth c A n cells slots Q H tgt L rest) (kf : ¬ 0 < x → z_Z p l e R s m args below meth c A n cells slots Q H (pc + 3) L rest) : z_Z p l e R s m args below meth c A n cells slots Q H pc L (.int x :: rest) :=
  fun ls locs hl hS => lv_if_gt C.1 C.2.1 hdg ht (fun z => kt z ls locs hl hS) (fun z => kf z ls locs hl hS)
theorem z_icmp_gt (C : z_C p s m args meth c cc own ws ret n nm G) {x y : Int32} {off : Int} (tgt : Nat) (hdg : decode cc pc = .ok (.if_icmp .gt off, 3)) (ht : (pc : Int) + off = (tgt : Int)) (kt : y < x → z_Z p l e R s m args below meth c A n cells slots Q H tgt L rest) (kf : ¬ y < x → z_Z p l e R s m args below meth c A n cells slots Q H (pc + 3) L rest) : z_Z p l e R s m args below meth c A n cells slots Q H pc L (.int y :: .int x :: rest) :=
  fun ls locs hl hS => lv_icmp_gt C.1 C.2.1 hdg ht (fun z => kt z ls locs hl hS) (fun z => kf z ls locs hl hS)
theorem z_if_le (C : z_C p s m args meth c cc own ws ret n nm G) {x : Int32} {off : Int} (tgt : Nat) (hdg : decode cc pc = .ok (.ifCond .le off, 3)) (ht : (pc : Int) + off = (tgt : Int)) (kt : x ≤ 0 → z_Z p l e R s m args below meth c A n cells slots Q H tgt L rest) (kf : ¬ x ≤ 0 → z_Z p l e R s m args below meth c A n cells slots Q H (pc + 3) L rest) : z_Z p l e R s m args below meth c A n cells slots Q H pc L (.int x :: rest) :=
  fun ls locs hl hS => lv_if_le C.1 C.2.1 hdg ht (fun z => kt z ls locs hl hS) (fun z => kf z ls locs hl hS)
theorem z_icmp_le (C : z_C p s m args meth c cc own ws ret n nm G) {x y : Int32} {off : Int} (tgt : Nat) (hdg : decode cc pc = .ok (.if_icmp .le off, 3)) (ht : (pc : Int) + off = (tgt : Int)) (kt : x ≤ y → z_Z p l e R s m args below meth c A n cells slots Q H tgt L rest) (kf : ¬ x ≤ y → z_Z p l e R s m args below meth c A n cells slots Q H (pc + 3) L rest) : z_Z p l e R s m args below meth c A n cells slots Q H pc L (.int y :: .int x :: rest) :=
  fun ls locs hl hS => lv_icmp_le C.1 C.2.1 hdg ht (fun z => kt z ls locs hl hS) (fun z => kf z ls locs hl hS)
theorem z_acmp_eq_qq (C : z_C p s m args meth c cc own ws ret n nm G) {rx : Option Nat} {ry : Option Nat} {off : Int} (tgt : Nat) (hdg : decode cc pc = .ok (.if_acmp .eq off, 3)) (ht : (pc : Int) + off = (tgt : Int)) (kt : rx = ry → z_Z p l e R s m args below meth c A n cells slots Q H tgt L rest) (kf : ¬ rx = ry → z_Z p l e R s m args below meth c A n cells slots Q H (pc + 3) L rest) : z_Z p l e R s m args below meth c A n cells slots Q H pc L (va_rf ry :: va_rf rx :: rest) :=
  fun ls locs hl hS => lv_acmp_eq (rx := rx) (ry := ry) C.1 C.2.1 hdg ht (fun z => kt z ls locs hl hS) (fun z => kf z ls locs hl hS)
theorem z_acmp_eq_rq (C : z_C p s m args meth c cc own ws ret n nm G) {rx : Option Nat} {ry : Nat} {off : Int} (tgt : Nat) (hdg : decode cc pc = .ok (.if_acmp .eq off, 3)) (ht : (pc : Int) + off = (tgt : Int)) (kt : rx = some ry → z_Z p l e R s m args below meth c A n cells slots Q H tgt L rest) (kf : ¬ rx = some ry → z_Z p l e R s m args below meth c A n cells slots Q H (pc + 3) L rest) : z_Z p l e R s m args below meth c A n cells slots Q H pc L (.ref ry :: va_rf rx :: rest) :=
  fun ls locs hl hS => lv_acmp_eq (rx := rx) (ry := some ry) C.1 C.2.1 hdg ht (fun z => kt z ls locs hl hS) (fun z => kf z ls locs hl hS)
theorem z_acmp_eq_qr (C : z_C p s m args meth c cc own ws ret n nm G) {rx : Nat} {ry : Option Nat} {off : Int} (tgt : Nat) (hdg : decode cc pc = .ok (.if_acmp .eq off, 3)) (ht : (pc : Int) + off = (tgt : Int)) (kt : some rx = ry → z_Z p l e R s m args below meth c A n cells slots Q H tgt L rest) (kf : ¬ some rx = ry → z_Z p l e R s m args below meth c A n cells slots Q H (pc + 3) L rest) : z_Z p l e R s m args below meth c A n cells slots Q H pc L (va_rf ry :: .ref rx :: rest) :=
  fun ls locs hl hS => lv_acmp_eq (rx := some rx) (ry := ry) C.1 C.2.1 hdg ht (fun z => kt z ls locs hl hS) (fun z => kf z ls locs hl hS)
theorem z_acmp_eq_rr (C : z_C p s m args meth c cc own ws ret n nm G) {rx : Nat} {ry : Nat} {off : Int} (tgt : Nat) (hdg : decode cc pc = .ok (.if_acmp .eq off, 3)) (ht : (pc : Int) + off = (tgt : Int)) (kt : rx = ry → z_Z p l e R s m args below meth c A n cells slots Q H tgt L rest) (kf : ¬ rx = ry → z_Z p l e R s m args below meth c A n cells slots Q H (pc + 3) L rest) : z_Z p l e R s m args below meth c A n cells slots Q H pc L (.ref ry :: .ref rx :: rest) :=
  fun ls locs hl hS => lv_acmp_eq (rx := some rx) (ry := some ry) C.1 C.2.1 hdg ht (fun z => kt (Option.some.inj z) ls locs hl hS) (fun z => kf (fun w => z (congrArg some w)) ls locs hl hS)
theorem z_acmp_ne_qq (C : z_C p s m args meth c cc own ws ret n nm G) {rx : Option Nat} {ry : Option Nat} {off : Int} (tgt : Nat) (hdg : decode cc pc = .ok (.if_acmp .ne off, 3)) (ht : (pc : Int) + off = (tgt : Int)) (kt : ¬ rx = ry → z_Z p l e R s m args below meth c A n cells slots Q H tgt L rest) (kf : rx = ry → z_Z p l e R s m args below meth c A n cells slots Q H (pc + 3) L rest) : z_Z p l e R s m args below meth c A n cells slots Q H pc L (va_rf ry :: va_rf rx :: rest) :=
  fun ls locs hl hS => lv_acmp_ne (rx := rx) (ry := ry) C.1 C.2.1 hdg ht (fun z => kt z ls locs hl hS) (fun z => kf z ls locs hl hS)
theorem z_acmp_ne_rq (C : z_C p s m args meth c cc own ws ret n nm G) {rx : Option Nat} {ry : Nat} {off : Int} (tgt : Nat) (hdg : decode cc pc = .ok (.if_acmp .ne off, 3)) (ht : (pc : Int) + off = (tgt : Int)) (kt : ¬ rx = some ry → z_Z p l e R s m args below meth c A n cells slots Q H tgt L rest) (kf : rx = some ry → z_Z p l e R s m args below meth c A n cells slots Q H (pc + 3) L rest) : z_Z p l e R s m args below meth c A n cells slots Q H pc L (.ref ry :: va_rf rx :: rest) :=
  fun ls locs hl hS => lv_acmp_ne (rx := rx) (ry := some ry) C.1 C.2.1 hdg ht (fun z => kt z ls locs hl hS) (fun z => kf z ls locs hl hS)
theorem z_acmp_ne_qr (C : z_C p s m args meth c cc own ws ret n nm G) {rx : Nat} {ry : Option Nat} {off : Int} (tgt : Nat) (hdg : decode cc pc = .ok (.if_acmp .ne off, 3)) (ht : (pc : Int) + off = (tgt : Int)) (kt : ¬ some rx = ry → z_Z p l e R s m args below meth c A n cells slots Q H tgt L rest) (kf : some rx = ry → z_Z p l e R s m args below meth c A n cells slots Q H (pc + 3) L rest) : z_Z p l e R s m args below meth c A n cells slots Q H pc L (va_rf ry :: .ref rx :: rest) :=
  fun ls locs hl hS => lv_acmp_ne (rx := some rx) (ry := ry) C.1 C.2.1 hdg ht (fun z => kt z ls locs hl hS) (fun z => kf z ls locs hl hS)
theorem z_acmp_ne_rr (C : z_C p s m args meth c cc own ws ret n nm G) {rx : Nat} {ry : Nat} {off : Int} (tgt : Nat) (hdg : decode cc pc = .ok (.if_acmp .ne off, 3)) (ht : (pc : Int) + off = (tgt : Int)) (kt : ¬ rx = ry → z_Z p l e R s m args below meth c A n cells slots Q H tgt L rest) (kf : rx = ry → z_Z p l e R s m args below meth c A n cells slots Q H (pc + 3) L rest) : z_Z p l e R s m args below meth c A n cells slots Q H pc L (.ref ry :: .ref rx :: rest) :=
  fun ls locs hl hS => lv_acmp_ne (rx := some rx) (ry := some ry) C.1 C.2.1 hdg ht (fun z => kt (fun w => z (congrArg some w)) ls locs hl hS) (fun z => kf (Option.some.inj z) ls locs hl hS)
theorem z_ifnull (C : z_C p s m args meth c cc own ws ret n nm G) {x : Option Nat} {off : Int} (tgt : Nat) (hdg : decode cc pc = .ok (.ifnull off, 3)) (ht : (pc : Int) + off = (tgt : Int)) (kt : x = none → z_Z p l e R s m args below meth c A n cells slots Q H tgt L rest) (kf : ∀ a, x = some a → z_Z p l e R s m args below meth c A n cells slots Q H (pc + 3) L rest) : z_Z p l e R s m args below meth c A n cells slots Q H pc L (va_rf x :: rest) := by
  intro ls locs hl hS
  cases x with
  | none => exact lv_ifnullN C.1 C.2.1 hdg ht (kt rfl ls locs hl hS)
  | some a => exact lv_ifnull C.1 C.2.1 hdg (kf a rfl ls locs hl hS)
theorem z_ifnonnull (C : z_C p s m args meth c cc own ws ret n nm G) {x : Option Nat} {off : Int} (tgt : Nat) (hdg : decode cc pc = .ok (.ifnonnull off, 3)) (ht : (pc : Int) + off = (tgt : Int)) (kt : ∀ a, x = some a → z_Z p l e R s m args below meth c A n cells slots Q H tgt L rest) (kf : x = none → z_Z p l e R s m args below meth c A n cells slots Q H (pc + 3) L rest) : z_Z p l e R s m args below meth c A n cells slots Q H pc L (va_rf x :: rest) := by
  intro ls locs hl hS
  cases x with
  | none => exact lv_ifnonnullN C.1 C.2.1 hdg (kf rfl ls locs hl hS)
  | some a => exact lv_ifnonnull C.1 C.2.1 hdg ht (kt a rfl ls locs hl hS)
theorem z_tableIn (C : z_C p s m args meth c cc own ws ret n nm G) {dflt lo hi : Int} {offs : Array Int} {len : Nat} {x : Int32} {off : Int} (tgt : Nat) (hdg : decode cc pc = .ok (.tableswitch dflt lo hi offs, len)) (h1 : ¬ x.toInt < lo) (h2 : ¬ hi < x.toInt) (ho : offs[(x.toInt - lo).toNat]? = some off) (ht : (pc : Int) + off = (tgt : Int)) (k : z_Z p l e R s m args below meth c A n cells slots Q H tgt L rest) : z_Z p l e R s m args below meth c A n cells slots Q H pc L (.int x :: rest) :=
  fun ls locs hl hS => lv_tableIn C.1 C.2.1 hdg h1 h2 ho ht (k ls locs hl hS)
theorem z_tableOut (C : z_C p s m args meth c cc own ws ret n nm G) {dflt lo hi : Int} {offs : Array Int} {len : Nat} {x : Int32} (tgt : Nat) (hdg : decode cc pc = .ok (.tableswitch dflt lo hi offs, len)) (h : x.toInt < lo ∨ hi < x.toInt) (ht : (pc : Int) + dflt = (tgt : Int)) (k : z_Z p l e R s m args below meth c A n cells slots Q H tgt L rest) : z_Z p l e R s m args below meth c A n cells slots Q H pc L (.int x :: rest) :=
  fun ls locs hl hS => lv_tableOut C.1 C.2.1 hdg h ht (k ls locs hl hS)
