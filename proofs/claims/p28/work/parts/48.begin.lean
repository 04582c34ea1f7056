/-! what the tables say at the law's entry -/
theorem st_arr {args : Array Value} {s : State} {ty : FieldType} (h : (Cond.arrayClass ty).before args s = true) (hn : ∀ C, ty ≠ .object C) : ∃ c : ClassId, ArrOfT s c ty ∧ va_RA s c ty := by
  obtain ⟨c, k, comp, h1, h2, h3⟩ := Cond.arrayClass_spec h
  refine ⟨c, fun N z => ⟨(fun _ h => by cases h), k, h2, comp, h3⟩, ?_⟩
  cases ty with
  | object C => exact absurd rfl (hn C)
  | _ => exact h1
def st_D (c0 c1 c2 c3 c4 c5 c6 c7 : Nat) : Nat → Nat := fun k => match k with
  | 0 => c0
  | 1 => c1
  | 2 => c2
  | 3 => c3
  | 4 => c4
  | 5 => c5
  | 6 => c6
  | _ => c7
def st_I (c0 c1 c2 c3 c4 c5 c6 c7 : Nat → Nat) : Nat → Nat → Nat := fun k => match k with
  | 0 => c0
  | 1 => c1
  | 2 => c2
  | 3 => c3
  | 4 => c4
  | 5 => c5
  | 6 => c6
  | _ => c7
set_option maxRecDepth 100000 in
theorem st_G {b : Nat} {s : State} (hts : ∀ w ∈ lw_tbl, w.before #[Value.ref b] s = true) (hgv : (Jvm.Cond.and given_1 narrow_1).before #[Value.ref b] s = true) : ∃ G : z_G, z_K G s ∧ z_Es G s.heap := by
  have hB : ∀ w ∈ z_B, w.before #[Value.ref b] s = true := fun w hw => hts w (List.mem_filter.mp hw).1
  have hs := flat_of_before _ hgv
  have n1 : (Cond.isRef (.mirror "[Ljava/lang/Object;")).before #[Value.ref b] s = true := hs _ (by decide +kernel)
  have n2 : (Cond.arrayOf (.static "java/util/ArrayList" "DEFAULTCAPACITY_EMPTY_ELEMENTDATA" "[Ljava/lang/Object;") (.object "java/lang/Object")).before #[Value.ref b] s = true := hs _ (by decide +kernel)
  have n3 : (Cond.exactly (.static "java/util/ArrayList" "DEFAULTCAPACITY_EMPTY_ELEMENTDATA" "[Ljava/lang/Object;") "[Ljava/lang/Object;").before #[Value.ref b] s = true := hs _ (by decide +kernel)
  have n4 : (Cond.eq (.length (.static "java/util/ArrayList" "DEFAULTCAPACITY_EMPTY_ELEMENTDATA" "[Ljava/lang/Object;")) (.int 0)).before #[Value.ref b] s = true := hs _ (by decide +kernel)
  have hA : ∀ a : Nat, a < s.heap.size → ¬ (fun q : Nat => s.heap.size ≤ q) a := fun a h => Nat.not_le.mpr h
  obtain ⟨mi, hmi⟩ := va_Mi.of n1
  obtain ⟨t, ht, cell, t1, t2, t3, t4, t5, t6, t7⟩ := va_Tof (N := 0) (f := fun _ => .null) (by decide) n2 (va_eqt n4) (fun j hj => absurd hj (by omega)) hA
  obtain ⟨cf, kf, fi, f, a, cellS, g1, g2, g3, g4, g5, g6, g7, g8⟩ := va_Zref (hts (.laysStatic "java/util/ArrayList" "DEFAULTCAPACITY_EMPTY_ELEMENTDATA" "[Ljava/lang/Object;") (z_in1 38 rfl)) (hts (.initialized "java/util/ArrayList") (z_in1 4 rfl)) ht hA
  obtain ⟨a2, cE, cell2, kE, e1, e2, e3, e4, e5, e6, -⟩ := Cond.exactly_spec n3
  obtain ⟨comp, c, kO, o1, -, o2, o3, o4⟩ := Cond.arrayOver_spec (hts (.arrayOver (.object "java/lang/Object")) (z_in1 198 rfl))
  obtain ⟨cI, i1, i2⟩ := st_arr (hB _ wb_92) (fun C h => by cases h)
  obtain ⟨cJ, j1, j2⟩ := st_arr (hB _ wb_93) (fun C h => by cases h)
  obtain ⟨c0, i0, K0⟩ := u_known (C := RJx4a65c) (T := TJx4a65c) (N := 3) (n := 3) hB hu_Jx4a65c (hB _ wb_27)
  obtain ⟨c1, i1', K1⟩ := u_known (C := RX0) (T := TX0) (N := 10) (n := 10) hB hu_X0 (hB _ wb_244)
  obtain ⟨c2, i2', K2⟩ := u_known (C := RX1) (T := TX1) (N := 6) (n := 6) hB hu_X1 (hB _ wb_361)
  obtain ⟨c3, i3, K3⟩ := u_known (C := RX2) (T := TX2) (N := 6) (n := 6) hB hu_X2 (hB _ wb_321)
  obtain ⟨c4, i4, K4⟩ := u_known (C := RX3) (T := TX3) (N := 10) (n := 10) hB hu_X3 (hB _ wb_53)
  obtain ⟨c5, i5, K5⟩ := u_known (C := RX4) (T := TX4) (N := 3) (n := 3) hB hu_X4 (hB _ wb_134)
  obtain ⟨c6, i6, K6⟩ := u_known (C := RX5) (T := TX5) (N := 10) (n := 10) hB hu_X5 (hB _ wb_19)
  have hcE : cE = c := Option.some.inj (e2.symm.trans o4)
  have hta : t = a2 := by
    have := ht.symm.trans e1
    cases this
    rfl
  subst hta
  cases t1.symm.trans e3
  refine ⟨((st_D c0 c1 c2 c3 c4 c5 c6 c6, st_I i0 i1' i2' i3 i4 i5 i6 i6), st_D cI cJ cI c mi t a f.slot), ⟨⟨fun k q hq => ?_, fun k q hq => ?_⟩, ⟨va_Nw.of rfl (hts _ (z_in3 191 rfl)), va_Nw.of rfl (hts _ (z_in3 190 rfl)), va_Nw.of rfl (hts _ (z_in3 192 rfl)), va_Nw.of rfl (hts _ (z_in3 189 rfl))⟩, va_Nw.of rfl (hts _ (z_in2 219 rfl)), va_Nw.of rfl (hts _ (z_in2 225 rfl)), va_AO.of (hts _ (z_in1 198 rfl)), hmi, va_Dc.of (hts _ (z_in3 195 rfl)), ⟨cf, kf, fi, f, g1, g2, g3, g4, rfl⟩⟩, ⟨cellS, g5, g6, g7⟩, cell, t1, ?_, t2.1, t5, t3⟩
  · match k, hq with
    | 0, hq => cases hq; exact K0
    | 1, hq => cases hq; exact K1
    | 2, hq => cases hq; exact K2
    | 3, hq => cases hq; exact K3
    | 4, hq => cases hq; exact K4
    | 5, hq => cases hq; exact K5
    | 6, hq => cases hq; exact K6
    | k + 7, hq => simp [vwCl] at hq
  · match k, hq with
    | 0, hq => cases hq; exact ⟨i1, i2⟩
    | 1, hq => cases hq; exact ⟨j1, j2⟩
    | 2, hq => cases hq; exact ⟨i1, i2⟩
    | 3, hq => cases hq; exact ⟨fun N z => ⟨(fun _ h => by cases h), kO, o2, comp, o3⟩, kO, comp, o2, o3, o1, o4⟩
    | k + 4, hq => simp [z_tys] at hq
  · rw [e6, hcE]; rfl
