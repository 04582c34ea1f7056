/-! THE CLAIM OUT OF ONE WALK OF THE LAW'S BODY. Your part is whole_start (and what it stands on); all else here is the same for every law, but numbers. -/
def R_law : String := "EscapeRoomsLaw"
def lw_P (b : Addr) (xs : List Int32) (args : Array Value) (s : State) : Prop := args = #[.ref b] ∧ s.IntsAt b xs ∧ xs.length ≤ 260 ∧ (Jvm.Cond.and given_1 narrow_1).before args s = true
def lw_Q (_ : Array Value) (s : State) (o : Outcome) (t : State) : Prop := o = .returned (some (.int 1)) ∧ Framed s o t [] 600000 7302250
def lw_Z (below : List Frame) (a : Array Value) (s : State) : State → Prop := fun t => ∃ o, t.status = .running ∧ Ended t below o ∧ lw_Q a s o t
/-- the law's own end, with 1 on the stack, nothing written that was there before, its room as the claim has it -/
theorem lw_ret {p : Program} {l : Launch} {e : Env} {s : State} {m : MethodId} {below : List Frame} {meth : Method} {c : Code} {b : Nat} (hx : p.tables.exec = Jvm.exec) (hb : c.code = code) (hr : meth.sig.returnType = ret) (hlocks : meth.locks = false) {pc : Nat} {H : Heap} {ls : Array Slot} (hdg : decode code pc = .ok (.ireturn, 1)) : W p l e room_1 s m #[Value.ref b] below meth c H [] 600000 7302250 (lw_Z below #[Value.ref b] s) (F0 m pc ls [.int 1]) := by
  intro T hT X
  obtain ⟨fs, hret, hrun, hended, hW, hframe⟩ := X.leave (v := some (.int 1)) (hlocks := hlocks) (fun h => by rw [hr] at h; cases h)
  have hmeth' : T.vm.method? m = some meth := X.method'
  refine ⟨T.setFrames fs, ?_, .returned (some (.int 1)), hrun, hended, rfl, ⟨_, rfl⟩, hW, hframe⟩
  jvm_step X.here [X.here.top, hx, hb, hdg, hmeth', hr, ret, narrow_b1]
  (try refine ⟨rfl, ?_⟩); (try refine ⟨rfl, ?_⟩)
  first | (intro acts; rw [hret _ acts rfl rfl rfl]) | rw [hret _ _ rfl rfl rfl]
  exact Steps.refl _
/-- what holds at the law's entry: the machine, the code, the tables' words (any of lw_tbl by 'hts w (by decide +kernel)'), the script of L ints xs at the cell b, what the Statement gives of the start (any of its parts by flat_of_before) -/
def lw_At (p : Program) (s : State) (m : MethodId) (meth : Method) (c : Code) (b L : Nat) (xs : Nat → Int32) : Prop :=
  p.tables.exec = Jvm.exec ∧ c.code = code ∧ meth.sig.returnType = ret ∧ c.maxLocals = 17 ∧ s.vm.findClass R_law = some m.cls ∧ (∀ w ∈ lw_tbl, w.before #[Value.ref b] s = true) ∧ va_X b L xs s s.heap ∧ b < s.heap.size ∧ meth.locks = false ∧ (Jvm.Cond.and given_1 narrow_1).before #[Value.ref b] s = true
theorem m_I_0 : m_I 0 0 0 0 m_M0 := by
  refine ⟨⟨⟨rfl, by omega⟩, ⟨rfl, by omega⟩, ⟨rfl, by omega⟩, ⟨rfl, by omega⟩⟩, Or.inl rfl, fun d h => absurd h (by omega), fun d h => absurd h (by omega), fun d h => absurd h (by omega), by show 0 ≤ 10; omega, ⟨5, by omega, by omega, rfl⟩, ⟨5, by omega, rfl⟩⟩
theorem y_J_0 : y_J 0 0 0 m_M0 := ⟨⟨fun _ => 0, fun g h => absurd h (by omega), by show 0 ≤ 24; omega⟩, fun k h => absurd h (by omega), fun k h => absurd h (by omega), fun k h => absurd h (by omega)⟩
/-- while the rooms are made -/
def y_R0 (G : z_G) (b0 ax r : Nat) (H : Heap) : Prop := ∃ (M : m_S) (t4 : Int32), y_S G b0 ax r 0 0 0 M t4 H ∧ m_I r 0 0 0 M ∧ y_J 0 0 0 M ∧ m_Hn M 0 0 ∧ t4 = nI 0 ∧ M.1 20 = 5 ∧ M.1 21 = 5
theorem y_akN {M : m_S} {x y : Int32} : (F_addKey M x y).2.1 0 = M.1 0 ∧ (F_addKey M x y).2.1 2 = M.1 2 ∧ (F_addKey M x y).2.1 14 = M.1 14 := by
  unfold F_addKey
  repeat' split
  all_goals exact ⟨rfl, rfl, rfl⟩
set_option maxHeartbeats 4000000 in
set_option maxRecDepth 100000 in
theorem whole_start {p : Program} {e : Env} {s : State} {m : MethodId} {below : List Frame} {meth : Method} {c : Code} (l : Launch) (hflags : l.flags = flags0) {b L : Nat} {xs : Nat → Int32} (hL : L ≤ 260) (C0 : lw_At p s m meth c b L xs) : W p l e room_1 s m #[Value.ref b] below meth c s.heap [] 0 0 (lw_Z below #[Value.ref b] s) (entryFrame m ([Value.ref b] : List Value).toArray 17) := by
  obtain ⟨hx, hb, hr, hml, hown, hts, hV, hbl, hlocks, hgv⟩ := id C0
  obtain ⟨G, hK, hE⟩ := st_G hts hgv
  have hne := hE.ne
  have C : z_C p s m #[Value.ref b] meth c cL_law "EscapeRoomsLaw" ret 17 meth.name G := ⟨hx, hb, hr, hml, hown, fun w hw => hts w (List.mem_filter.mp hw).1, hK, hlocks, rfl⟩
  have hnd : ∀ H Lo k n, k ≤ 600000 → n ≤ 7302250 → z_Z p l e room_1 s m #[Value.ref b] below meth c (fun q => s.heap.size ≤ q) 17 k n (lw_Z below #[Value.ref b] s) H 925 Lo [.int 1] := fun H Lo k n hk hn => by
    intro ls locs hl hS
    exact va_forget (fun q hq => hS.2.2 q hq) (W.widen hk hn (lw_ret hx hb hr hlocks dL_law_925))
  have key : z_Z p l e room_1 s m #[Value.ref b] below meth c (fun q => s.heap.size ≤ q) 17 0 0 (lw_Z below #[Value.ref b] s) s.heap 0 (lv_args 0 [.ref b]) [] := by
    refine z_new (fs := nf_6) C z_cls6 hu_X5 wb_p17 wb_19 wb_1 nw_6 (Nat.le_of_ble_eq_true rfl) (Nat.le_of_ble_eq_true rfl) dL_law_0 (fun q0 H0 hN0 => ?_)
    have hq0 : q0 = s.heap.size := hN0.1
    have hs0 : H0.size = s.heap.size + 1 := hN0.2.2.1
    have hE0 : z_Es G H0 := hE.kept (hN0.2.2.2 _ hne.1) (hN0.2.2.2 _ hne.2)
    refine z_dup C dL_law_3 rfl ?_
    refine z_callI (As := []) C (c_X5_init _ _ q0 _ ⟨by omega, by omega⟩) kc_X5_init wb_p19 ⟨by decide, by decide⟩ ⟨rfl, hN0.2.1, hE0⟩ (fun z hz => by show s.heap.size ≤ z; omega) ⟨Nat.le_of_ble_eq_true rfl, Nat.le_of_ble_eq_true rfl⟩ (Nat.le_of_ble_eq_true rfl) dL_law_4 (fun v H4 hq hz4 hf4 => ?_)
    obtain ⟨rfl, hX4⟩ := hq
    have hE4 : z_Es G H4 := hE0.kept (hf4 _ (by omega) (by omega)) (hf4 _ (by omega) (by omega))
    refine z_astore_n C dL_law_7 (by decide) ?_
    have hB4 : y_B G s.heap.size (x_ad0 G q0 H0.size) 0 0 0 0 H4 := ⟨fun k i hk => by
      obtain ⟨rfl, h1, h2⟩ := x_in_0 hk
      unfold x_ad0
      repeat' split
      all_goals omega, hE4, hne.2, hne.1, by omega⟩
    refine z_iconst (v := 3) C dL_law_8 (by decide) ?_
    refine z_aload_n C dL_law_9 rfl ?_
    refine z_iconst (v := 0) C dL_law_10 (by decide) ?_
    refine y_callCell (k := 0) C hV hbl (Nat.not_le.mpr hbl) (by omega) (by omega) wb_p514 ⟨by decide, by decide⟩ ⟨by show _ ≤ 600000; omega, by show _ ≤ 7302250; omega⟩ (Nat.le_of_ble_eq_true rfl) dL_law_11 ?_
    refine z_iconst (v := 4) C dL_law_14 (by decide) ?_
    refine z_callSR (As := [.int _, .int _]) C (c_L_low _ _ _ _ (by decide)) kc_L_low wb_p518 ⟨by decide, by decide⟩ trivial ⟨by show _ ≤ 600000; omega, by show _ ≤ 7302250; omega⟩ (Nat.le_of_ble_eq_true rfl) dL_law_15 ?_
    obtain ⟨j, hj, ej⟩ := y_low_lt (v := y_cell L xs 0) (n := 4) (by omega) (by omega)
    refine z_iadd C dL_law_18 ?_
    refine z_eqst (st2 := [.int (nI (3 + j))]) (by rw [show nI (3 + j) = 3 + nI j from (nI_add 3 j).symm, show y_low (y_cell L xs 0) 4 = nI j from ej]) ?_
    refine z_istore_n C dL_law_19 (by decide) ?_
    refine z_iconst (v := 0) C dL_law_20 (by decide) ?_
    refine z_istore_n C dL_law_21 (by decide) ?_
    refine z_widen (k2 := 8 + 2 * 0) (n2 := 2200 + 34 * 0) (Nat.le_of_ble_eq_true rfl) (Nat.le_of_ble_eq_true rfl) ?_
    refine z_loopG (fun r : Nat => (8 + 2 * r, 2200 + 34 * r)) (fun r => 3 + j - r) (fun r H1 => r ≤ 3 + j ∧ y_R0 G s.heap.size q0 r H1) (fun r => [(0, .ref b), (1, .ref q0), (2, .int (nI (3 + j))), (3, .int (nI r))]) 0 ⟨Nat.zero_le _, m_M0, nI 0, ⟨x_ad0 G q0 H0.size, rfl, ⟨x_T0, rfl, hX4⟩, hB4⟩, m_I_0, y_J_0, ⟨fun _ => 0, fun g hg => absurd hg (by omega), rfl⟩, rfl, rfl, rfl⟩ ⟨rfl, rfl, rfl, rfl, trivial⟩ (fun r H1 hI1 ih => ?_)
    obtain ⟨hr1, M, t4, ⟨ad, hax, hX, hB⟩, hI, hJ, hH, ht, h20, h21⟩ := hI1
    dsimp only at ih ⊢
    refine z_iload_n C dL_law_22 rfl ?_
    refine z_iload_n C dL_law_23 rfl ?_
    refine z_icmp_ge C 43 dL_law_24 (by decide) (fun h24 => ?_) (fun h24 => ?_)
    · have er : r = 3 + j := z_ge rfl (by omega) hr1 h24
      subst er
      refine z_iconst (v := 5) C dL_law_43 (by decide) ?_
      refine z_istore_n C dL_law_44 (by decide) ?_
      refine z_iconst (v := 5) C dL_law_45 (by decide) ?_
      refine z_istore C dL_law_46 (by decide) ?_
      refine z_aload_n C dL_law_48 rfl ?_
      refine z_bipush (v := 8) C dL_law_49 (by decide) ?_
      refine z_iconst (v := 0) C dL_law_51 (by decide) ?_
      refine y_callG (As := [.int _, .int _]) C hX hax hB (fun T _ hO => c_X5_addGroup _ _ ad M T hI _ hO (nI 8) (nI 0)) (fun q hq => hq) kc_X5_addGroup wb_p350 ⟨by decide, by decide⟩ ⟨by show _ ≤ 600000; omega, by show _ ≤ 7302250; omega⟩ (Nat.le_of_ble_eq_true rfl) dL_law_52 (fun H52 ad nR2 nD2 nK2 nG2 hax hX hI2 hB => ?_)
      have eAG : F_addGroup M 0 (nI 8) (nI 0) = F_putGroup M (nI 8) (nI 0) 0 := y_ag3 hI hJ (by omega) rfl (by decide) (by show ¬ (24 : Int32) < 0 + 0 + 8; decide)
      obtain ⟨u1, u2, u3, u4⟩ := y_uniq (x := 3 + j) (y := 0) (z := 0) (w := 1) hI hI2 (by rw [eAG]; exact hI.1.1.1) (by rw [eAG]; exact hI.1.2.1.1) (by rw [eAG]; exact hI.1.2.2.1.1) (by rw [eAG]; exact (y_pg0 hI).2) (by omega) (by omega) (by omega) (by omega)
      subst u1
      subst u2
      subst u3
      subst u4
      have hJ2 := (y_N_addGroup hI hJ (j := 8) (x := nI 0) (by omega) (by omega) _ _ _ _ hI2).1
      obtain ⟨n1, hn1, hH2, ht2⟩ := hh_addGroup (z := nI 8) (r := nI 0) hI hH (Nat.le_refl 0) ht _ _ _ _ hI2
      have b20 : (F_addGroup M 0 (nI 8) (nI 0)).2.1 20 = 5 := (b_addGroup (by omega)).trans h20
      have b21 : (F_addGroup M 0 (nI 8) (nI 0)).2.1 21 = 5 := (b_addGroup (by omega)).trans h21
      have a0 : (F_addGroup M 0 (nI 8) (nI 0)).1 = 0 := by rw [eAG]; exact (y_pg0 hI).1
      rw [a0]
      generalize (F_addGroup M 0 (nI 8) (nI 0)).2 = M2 at hX hI2 hJ2 hH2 b20 b21
      refine z_if_ne C 77 dL_law_55 (by decide) (fun h55 => ?_) (fun h55 => ?_)
      · exact absurd rfl h55
      · refine z_aload_n C dL_law_58 rfl ?_
        refine z_iconst (v := 0) C dL_law_59 (by decide) ?_
        refine z_iconst (v := 1) C dL_law_60 (by decide) ?_
        refine z_iconst (v := 3) C dL_law_61 (by decide) ?_
        refine y_callG (As := [.int _, .int _, .int _]) C hX hax hB (fun T _ hO => c_X5_addDoor _ _ ad M2 T hI2 _ hO (nI 0) (nI 1) (nI 3)) (fun q hq => hq) kc_X5_addDoor wb_p234 ⟨by decide, by decide⟩ ⟨by show _ ≤ 600000; omega, by show _ ≤ 7302250; omega⟩ (Nat.le_of_ble_eq_true rfl) dL_law_62 (fun H62 ad nR2 nD2 nK2 nG2 hax hX hI3 hB => ?_)
        have eAD : F_addDoor M2 (nI 0) (nI 1) (nI 3) = F_putDoor M2 (nI 0) (nI 1) (nI 3) (-6) 0 := y_ad2 hI2 (by omega) (by omega) (by omega) rfl (by omega)
        obtain ⟨u1, u2, u3, u4⟩ := y_uniq (x := 3 + j) (y := 1) (z := 0) (w := 1) hI2 hI3 (by rw [eAD]; exact hI2.1.1.1) (by rw [eAD]; show M2.1 2 + 1 = _; rw [hI2.1.2.1.1]; rfl) (by rw [eAD]; exact hI2.1.2.2.1.1) (by rw [eAD]; exact hI2.1.2.2.2.1) (by omega) (by omega) (by omega) (by omega)
        subst u1
        subst u2
        subst u3
        subst u4
        have hJ3 := (y_N_addDoor hI2 hJ2 _ _ _ _ hI3).1
        have hH3 := (hn_addDoor (a := nI 0) (b := nI 1) (w := nI 3) hH2).1
        have b20 : (F_addDoor M2 (nI 0) (nI 1) (nI 3)).2.1 20 = 5 := (b_addDoor (by omega)).trans b20
        have b21 : (F_addDoor M2 (nI 0) (nI 1) (nI 3)).2.1 21 = 5 := (b_addDoor (by omega)).trans b21
        have a1 : (F_addDoor M2 (nI 0) (nI 1) (nI 3)).1 = 0 := by rw [eAD]; exact y_pd0 hI2
        rw [a1]
        generalize (F_addDoor M2 (nI 0) (nI 1) (nI 3)).2 = M3 at hX hI3 hJ3 hH3 b20 b21
        refine z_if_ne C 77 dL_law_65 (by decide) (fun h65 => ?_) (fun h65 => ?_)
        · exact absurd rfl h65
        · refine z_aload_n C dL_law_68 rfl ?_
          refine z_iconst (v := 0) C dL_law_69 (by decide) ?_
          refine z_iconst (v := 0) C dL_law_70 (by decide) ?_
          refine y_callG (As := [.int _, .int _]) C hX hax hB (fun T _ hO => c_X5_addKey _ _ ad M3 T hI3 _ hO (nI 0) (nI 0)) (fun q hq => hq) kc_X5_addKey wb_p314 ⟨by decide, by decide⟩ ⟨by show _ ≤ 600000; omega, by show _ ≤ 7302250; omega⟩ (Nat.le_of_ble_eq_true rfl) dL_law_71 (fun H71 ad nR2 nD2 nK2 nG2 hax hX hI4 hB => ?_)
          obtain ⟨a2, k9⟩ := y_ak2 (r := 0) (c := nI 0) hI3 (by omega) rfl (by decide)
          obtain ⟨k0, k2, k14⟩ := y_akN (x := nI 0) (y := nI 0) (M := M3)
          obtain ⟨u1, u2, u3, u4⟩ := y_uniq (x := 3 + j) (y := 1) (z := 1) (w := 1) hI3 hI4 (k0.trans hI3.1.1.1) (k2.trans hI3.1.2.1.1) k9 (k14.trans hI3.1.2.2.2.1) (by omega) (by omega) (by omega) (by omega)
          subst u1
          subst u2
          subst u3
          subst u4
          have hJ4 := (y_N_addKey hI3 hJ3 _ _ _ _ hI4).1
          have hH4 := (hn_addKey (r := nI 0) (c := nI 0) hH3).1
          have b20 : (F_addKey M3 (nI 0) (nI 0)).2.1 20 = 5 := (b_addKey (by omega)).trans b20
          have b21 : (F_addKey M3 (nI 0) (nI 0)).2.1 21 = 5 := (b_addKey (by omega)).trans b21
          rw [a2]
          refine z_if_eq C 79 dL_law_74 (by decide) (fun h74 => ?_) (fun h74 => ?_)
          · refine z_iconst (v := 0) C dL_law_79 (by decide) ?_
            refine z_istore C dL_law_80 (by decide) ?_
            refine z_widen (k2 := 60) (n2 := 3000) (by omega) (by omega) ?_
            exact z_sub [(0, .ref b), (1, .ref q0), (2, .int (nI (3 + j))), (3, .int 5), (4, .int 5), (5, .int (nI 0))] ⟨rfl, rfl, rfl, rfl, rfl, rfl, trivial⟩ (yw_loop C hV hbl hL (by omega) hnd ⟨_, t4, 1, 1, 1, n1, ⟨ad, hax, hX, hB⟩, hI4, hJ4, hH4, ht2, by omega, by omega, by omega, by omega, b20, b21⟩)
          · exact absurd rfl h74
    · have hr : r < 3 + j := z_lt rfl (by omega) hr1 h24
      refine z_aload_n C dL_law_27 rfl ?_
      refine y_callG (As := []) C hX hax hB (fun T _ hO => c_X5_addRoom _ _ ad M T hI _ hO) (fun q hq => hq) kc_X5_addRoom wb_p124 ⟨by decide, by decide⟩ ⟨by show _ ≤ 600000; omega, by show _ ≤ 7302250; omega⟩ (Nat.le_of_ble_eq_true rfl) dL_law_28 (fun H28 ad nR2 nD2 nK2 nG2 hax hX hI2 hB => ?_)
      obtain ⟨hJ2, e1, e2, e3, e4⟩ := y_N_addRoom hI hJ (by omega) _ _ _ _ hI2
      subst e1
      subst e2
      subst e3
      subst e4
      refine z_iload_n C dL_law_31 rfl ?_
      refine z_icmp_eq C 37 dL_law_32 (by decide) (fun h32 => ?_) (fun h32 => ?_)
      · refine z_iinc C dL_law_37 rfl rfl (by decide) ?_
        refine z_goto C 22 dL_law_40 (by decide) ?_
        refine z_widen (k2 := 8 + 2 * (r + 1)) (n2 := 2200 + 34 * (r + 1)) (by omega) (by omega) ?_
        exact ih (r + 1) _ _ ⟨hr, _, t4, ⟨ad, hax, hX, hB⟩, hI2, hJ2, (hn_addRoom hH).1, ht, (y_ar hI (by omega)).2.1.trans h20, (y_ar hI (by omega)).2.2.trans h21⟩ (by omega) ⟨rfl, rfl, rfl, z_lgI rfl (z_inc r), trivial⟩
      · exact absurd (y_ar hI (by omega)).1 h32
  rw [lg_entry_eq]
  exact key _ _ (lv_entry [Value.ref b] (n := 17) (Nat.le_of_ble_eq_true rfl)) va_S.rf
set_option maxHeartbeats 4000000 in
theorem lw_walk (l : Launch) (hflags : l.flags = flags0) (b : Addr) (xs : List Int32) : MetFree l x (headSpec (Jvm.Cond.code x code maxLocals ret :: tables_1) room_1) (lw_P b xs) (fun _ _ _ _ _ => True) lw_Q := by
  refine MetFree.of_bodyS (code := code) (maxLocals := maxLocals) (ret := ret) (by decide) ?_ ?_
  · intro args s m h hn
    obtain ⟨meth, c, h1, h2, h3, h4, h5, h6, -, -⟩ := Cond.code_spec hn (atoms_spec (ws := Jvm.Cond.code x code maxLocals ret :: tables_1) h _ List.mem_cons_self)
    exact ⟨meth, c, h1, h2, h3, h4, h5, h6⟩
  · intro p e s m args below meth c s₁ B hml0 hP _
    obtain ⟨rfl, hx, hbd, hgv⟩ := hP
    obtain ⟨scr, harrAt, hlist, hof, hsmall⟩ := hx
    obtain ⟨hcb, hkn, -, -⟩ := State.arrayAt?_spec harrAt
    have hown : s.vm.findClass R_law = some m.cls := findClass_of_methodNamed B.named
    have hts0 : ∀ c ∈ (Jvm.Cond.code x code maxLocals ret :: tables_1), c.before #[Value.ref b] s = true := atoms_spec (ws := Jvm.Cond.code x code maxLocals ret :: tables_1) B.pre
    have hts : ∀ w ∈ lw_tbl, w.before #[Value.ref b] s = true := k2_hts_sels lw_privs (fun w hw => hts0 w (List.mem_cons_of_mem _ hw)) lw_privs_ok
    have hml : c.maxLocals = 17 := B.maxLocals_eq (hts0 _ List.mem_cons_self)
    have X₀ : Stand p l e room_1 s m #[Value.ref b] below meth c s₁ [] 0 0 := Stand.of_body B
    have hh0 : s₁.heap = s.heap := by rw [B.state]; rfl
    have hsz : scr.slots.size = xs.length := by rw [← Array.length_toList, hlist, List.length_map]
    have hval : ∀ j : Nat, j < xs.length → scr.slots[j]? = some (.int (xs.getD j 0)) := fun j hj => by
      rw [← Array.getElem?_toList, hlist]
      simp [hj]
    have hbl : b < s.heap.size := (Array.getElem?_eq_some_iff.mp hcb).1
    have hX : va_X b xs.length (fun j => xs.getD j 0) s s.heap := ⟨scr, hcb, hof, hkn, hsz, hval⟩
    have K : W p l e room_1 s m #[Value.ref b] below meth c s₁.heap [] 0 0 (lw_Z below #[Value.ref b] s) (entryFrame m ([Value.ref b] : List Value).toArray 17) := by
      rw [hh0]
      exact whole_start l hflags hbd ⟨B.exec, B.bytes, B.returns, hml, hown, hts, hX, hbl, B.notSynchronized, hgv⟩
    obtain ⟨t, a1, o, b1, b2, b3⟩ := K s₁ rfl X₀
    exact ⟨t, o, a1, b1, b2, b3⟩
theorem lw_pre_spec {args : Array Value} {s : State} (h : (Jvm.Cond.and given_1 narrow_1).before args s = true) (hr : rest_1_c.before args s = true) : ∃ (b : Addr) (xs : List Int32), lw_P b xs args s := by
  have hs := flat_of_before _ h
  have hq := flat_of_before _ hr
  have hc : (Cond.count 1).before args s = true := hs _ (by decide +kernel)
  have harr : (Cond.arrayOf (.arg 0) .int).before args s = true := hs _ (by decide +kernel)
  have hle : (Cond.le (.length (.arg 0)) (.int 260)).before args s = true := hs _ (by decide +kernel)
  have hlen : (Cond.isInt (.length (.arg 0))).before args s = true := hq _ (by decide +kernel)
  have hall : (Cond.all (.arg 0) (.isInt (.elem (.arg 0) (.index 0)))).before args s = true := hq _ (by decide +kernel)
  obtain ⟨b, xs, hb, hx⟩ := State.ints_of_pre rfl harr hlen hall
  have hsm : xs.length < 2 ^ 31 := hx.choose_spec.2.2.2
  have hev : (Term.length (.arg 0)).eval args s none [] s = some (.int xs.length.toInt32) := hx.length_eval hb
  have hv := Cond.le_ints hev (show (Term.int 260).eval args s none [] s = some (.int 260) from rfl)
  have hd : xs.length.toInt32 ≤ 260 := by
    simpa [Cond.before, Cond.holds, hv] using hle
  have hN : xs.length ≤ 260 := (Int32.ofNat_le_ofNat hsm (by decide)).mp (show Int32.ofNat xs.length ≤ Int32.ofNat 260 from hd)
  exact ⟨b, xs, Cond.one_arg hc (show args[0]? = some (.ref b) from hb), hx, hN, h⟩
theorem lw_comes (l : Launch) (hflags : l.flags = flags0) : Comes l x (Jvm.Cond.code x code maxLocals ret :: tables_1) room_1 (fun tb e args s => Calls_1 tb e args s ∧ rest_1 tb e args s ∧ Pre_1 tb e args s)
    (fun _ _ args s o t => lw_Q args s o t) := by
  intro p e ha hc hk s m args below hf hfit hheap happ hpre
  obtain ⟨b, xs, hP⟩ := lw_pre_spec hpre.2.2 hpre.2.1
  obtain ⟨k, o, h1, h2, h3, hQ⟩ := lw_walk l hflags b xs p e ha hc hk s m args below hf ((Spec.applies_iff_loose hf).mp happ).1 hP trivial
  exact ⟨k, o, h1, h2, h3, hQ⟩
theorem lw_frame {s t : State} {o : Outcome} {args : Array Value} (h : Framed s o t [] 600000 7302250) :
    Framed s o t (fieldLocs frame_1_writes args s ++ arrayLocs frame_1_arrays args s ++ staticLocs frame_1_statics s) 600000 7302250 := h
theorem lw_limb (L : Cond) (hL : ∀ (args : Array Value) (s t : State), L.after args s (.returned (some (.int 1))) t = true) :
    ArmFor flags0 classFile x code maxLocals ret World_1 tables_1 room_1 Calls_1 rest_1 Pre_1
      (fun tb e a s o t => postC L tb e a s o t ∧ Framed s o t (fieldLocs frame_1_writes a s ++ arrayLocs frame_1_arrays a s ++ staticLocs frame_1_statics s) 600000 7302250) := by
  intro l hflags _ _ p e ha hc hk s m args below hf hfit hheap happ hpre
  obtain ⟨k, o, h1, h2, h3, rfl, hF⟩ := lw_comes l hflags p e ha hc hk s m args below hf hfit hheap happ hpre
  exact ⟨k, _, h1, h2, h3, hL args s _, lw_frame hF⟩
theorem i_vc : Claimed_1_1 ∧ Claimed_1_2 := ⟨lw_limb limb_1_1 (fun args s t => by simp [limb_1_1, Cond.after, Cond.holds, Cond.value]), lw_limb limb_1_2 (fun args s t => Cond.after_iff.mpr (by
  first | (rw [show limb_1_2 = Cond.eq .result (.int 1) from rfl, Cond.eq_ints (x := 1) (y := 1) rfl rfl]; simp; done) | (simp [limb_1_2, Cond.value, Term.eval]; done)))⟩
