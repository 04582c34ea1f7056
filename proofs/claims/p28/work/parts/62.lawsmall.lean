/-! the law's small methods -/
def y_low (v n : Int32) : Int32 := (v &&& 2147483647) - (v &&& 2147483647) / n * n
theorem y_low_lt {v : Int32} {n : Nat} (h0 : 0 < n) (hn : n < 2 ^ 31) : ∃ j, j < n ∧ y_low v (nI n) = nI j := by
  have e : y_low v (nI n) = (v &&& 2147483647) % nI n := irem_eq_mod _ _
  have hp : 0 ≤ (v &&& 2147483647).toInt := by
    have h1 : (v &&& 2147483647).toBitVec.msb = false := by
      rw [Int32.toBitVec_and, BitVec.msb_and]
      have : (2147483647 : Int32).toBitVec.msb = false := by decide
      rw [this, Bool.and_false]
    show 0 ≤ (v &&& 2147483647).toBitVec.toInt
    rw [BitVec.toInt_eq_msb_cond, h1]
    exact Int.natCast_nonneg _
  have ht : (y_low v (nI n)).toInt = (v &&& 2147483647).toInt.tmod n := by rw [e, Int32.toInt_mod, nI_toInt hn]
  have h2 : (v &&& 2147483647).toInt.tmod n = (v &&& 2147483647).toInt % n := Int.tmod_eq_emod_of_nonneg hp
  have h3 := Int.emod_nonneg (v &&& 2147483647).toInt (b := (n : Int)) (by omega)
  have h4 := Int.emod_lt_of_pos (v &&& 2147483647).toInt (b := (n : Int)) (by omega)
  refine ⟨((v &&& 2147483647).toInt % n).toNat, by omega, Int32.toInt_inj.mp ?_⟩
  rw [ht, h2, nI_toInt (by omega)]
  omega
set_option maxHeartbeats 4000000 in
set_option maxRecDepth 100000 in
theorem c_L_low (l : Launch) (G : z_G) (v n : Int32) (hn : ¬ n = 0) : z_MR l yL_low cL_low 2 (some .int) 0 [.int v, .int n] G (fun H => True) (.int (y_low v n)) := by
  refine z_M.of (by decide +kernel) (Nat.le_of_ble_eq_true rfl) ?_
  intro p e s m below meth c C hP
  refine z_iload_n C dL_low_0 rfl ?_
  refine z_ldc C wb_p521 dL_low_1 ?_
  refine z_iand C dL_low_3 ?_
  refine z_iload_n C dL_low_4 rfl ?_
  refine z_irem C dL_low_5 (by assumption) ?_
  exact z_iret C (by omega) (by omega) dL_low_6 (by exact ⟨rfl, rfl⟩)

set_option maxHeartbeats 4000000 in
set_option maxRecDepth 100000 in
theorem c_L_reach (l : Launch) (G : z_G) (ad : Nat → Nat → Nat) (M : m_S) (t4 : Int32) {nR nD nK nG : Nat} (hI : m_I nR nD nK nG M) (r0 : Nat) (hr0 : r0 < nR) (ot : Int32) : z_MR l yL_reach cL_reach 8 (some .int) 5 [.ref (ad 4 0), .int (nI r0), .int ot] G (fun H => y_X G ad nR nD nK nG M t4 H) (.int (g_bits (m_Rch M nD (m_opS M ot) (fun q => q = r0)) 32)) := by
  refine z_M.of (by decide +kernel) (Nat.le_of_ble_eq_true rfl) ?_
  intro p e s m below meth c C hP
  have hX : y_X G ad nR nD nK nG M t4 s.heap := hP
  have hR12 := hI.1.1.2; have hD16 := hI.1.2.1.2
  refine z_iconst (v := 1) C dL_reach_0 (by decide) ?_
  refine z_iload_n C dL_reach_1 rfl ?_
  refine z_ishl C dL_reach_2 ?_
  refine z_istore_n C dL_reach_3 (by decide) ?_
  refine z_iconst (v := 0) C dL_reach_4 (by decide) ?_
  refine z_istore C dL_reach_5 (by decide) ?_
  refine z_loopS (fun q : Nat × Int32 => nR - q.1) (fun q H1 => H1 = s.heap ∧ q.1 ≤ nR ∧ y_RO nD (m_lo M) (m_hi M) (m_opS M ot) (fun q => q = r0) q.2 q.1) (fun q => [(0, .ref (ad 4 0)), (1, .int (nI r0)), (2, .int ot), (3, .int q.2), (4, .int (nI q.1))]) (0, x_bit (nI r0)) ⟨rfl, Nat.zero_le _, y_RO.zero (by omega)⟩ ⟨rfl, rfl, rfl, rfl, rfl, trivial⟩ (fun q H1 hI1 ihO => ?_)
  obtain ⟨j, x⟩ := q
  obtain ⟨rfl, hj, hO⟩ := hI1
  dsimp only at hj hO ihO ⊢
  refine z_iload C dL_reach_7 rfl ?_
  refine z_aload_n C dL_reach_9 rfl ?_
  refine z_iconst (v := 0) C dL_reach_10 (by decide) ?_
  refine y_callR (As := [.int _]) C hX rfl (fun T hT4 => c_X5_countR _ _ ad M T hI _ (by decide) (fun h => absurd h (by decide))) kc_X5_count wb_p434 ⟨by decide, by decide⟩ ⟨Nat.zero_le _, Nat.zero_le _⟩ (Nat.le_of_ble_eq_true rfl) dL_reach_11 ?_
  rw [y_c0 hI]
  refine z_icmp_ge C 111 dL_reach_14 (by decide) (fun h14 => ?_) (fun h14 => ?_)
  · obtain rfl := z_ge (n := nR) rfl (by omega) hj h14
    refine z_iload_n C dL_reach_111 rfl ?_
    exact z_iret C (by omega) (by omega) dL_reach_112 (by exact ⟨congrArg (fun z => some (Value.int z)) (hO.done (fun r hr => by omega) (fun d hd => ⟨hI.lo hd, hI.hi hd⟩)), rfl⟩)
  · have hltj := z_lt (n := nR) rfl (by omega) hj h14
    refine z_iconst (v := 0) C dL_reach_17 (by decide) ?_
    refine z_istore C dL_reach_18 (by decide) ?_
    refine z_loopS (fun q : Nat × Int32 => nD - q.1) (fun q H1 => H1 = s.heap ∧ q.1 ≤ nD ∧ y_RI nD (m_lo M) (m_hi M) (m_opS M ot) (fun q => q = r0) x q.1 q.2) (fun q => [(0, .ref (ad 4 0)), (1, .int (nI r0)), (2, .int ot), (3, .int q.2), (4, .int (nI j)), (5, .int (nI q.1))]) (0, x) ⟨rfl, Nat.zero_le _, y_RI.zero hO⟩ ⟨rfl, rfl, rfl, rfl, rfl, rfl, trivial⟩ (fun q H2 hI2 ihI => ?_)
    obtain ⟨i, y⟩ := q
    obtain ⟨rfl, hi, hJ⟩ := hI2
    dsimp only at hi hJ ihI ⊢
    refine z_iload C dL_reach_20 rfl ?_
    refine z_aload_n C dL_reach_22 rfl ?_
    refine z_iconst (v := 1) C dL_reach_23 (by decide) ?_
    refine y_callR (As := [.int _]) C hX rfl (fun T hT4 => c_X5_countR _ _ ad M T hI _ (by decide) (fun h => absurd h (by decide))) kc_X5_count wb_p434 ⟨by decide, by decide⟩ ⟨Nat.zero_le _, Nat.zero_le _⟩ (Nat.le_of_ble_eq_true rfl) dL_reach_24 ?_
    rw [y_c1 hI]
    refine z_icmp_ge C 105 dL_reach_27 (by decide) (fun h27 => ?_) (fun h27 => ?_)
    · obtain rfl := Eq.symm (z_ge (n := nD) rfl (by omega) hi h27)
      refine z_iinc C dL_reach_105 rfl rfl (by decide) ?_
      refine z_goto C 7 dL_reach_108 (by decide) ?_
      exact ihO (j + 1, y) _ _ ⟨rfl, hltj, hJ.out hO⟩ (by dsimp only; omega) ⟨rfl, rfl, rfl, rfl, z_lgI rfl (z_inc j), trivial⟩
    · have hlti := z_lt (n := nD) rfl (by omega) hi h27
      refine z_iconst (v := 1) C dL_reach_30 (by decide) ?_
      refine z_aload_n C dL_reach_31 rfl ?_
      refine z_iload C dL_reach_32 rfl ?_
      refine z_iconst (v := 0) C dL_reach_34 (by decide) ?_
      refine y_callR (As := [.int _, .int _]) C hX rfl (fun T _ => c_X5_door _ _ ad M T hI _ _) kc_X5_door wb_p544 ⟨by decide, by decide⟩ ⟨Nat.zero_le _, Nat.zero_le _⟩ (Nat.le_of_ble_eq_true rfl) dL_reach_35 ?_
      rw [y_d0 hI hlti]
      refine z_ishl C dL_reach_38 ?_
      refine z_iconst (v := 1) C dL_reach_39 (by decide) ?_
      refine z_aload_n C dL_reach_40 rfl ?_
      refine z_iload C dL_reach_41 rfl ?_
      refine z_iconst (v := 1) C dL_reach_43 (by decide) ?_
      refine y_callR (As := [.int _, .int _]) C hX rfl (fun T _ => c_X5_door _ _ ad M T hI _ _) kc_X5_door wb_p544 ⟨by decide, by decide⟩ ⟨Nat.zero_le _, Nat.zero_le _⟩ (Nat.le_of_ble_eq_true rfl) dL_reach_44 ?_
      rw [y_d1 hI hlti]
      refine z_ishl C dL_reach_47 ?_
      refine z_ior C dL_reach_48 ?_
      refine z_eqst (st2 := [.int (y_both (m_lo M) (m_hi M) i)]) rfl ?_
      refine z_istore C dL_reach_49 (by decide) ?_
      refine z_join 76 (z_b (m_opS M ot i)) ?_ (fun kJ76 => ?_)
      · refine z_istore C dL_reach_76 (by decide) ?_
        refine z_iload_n C dL_reach_78 rfl ?_
        refine z_join 97 (y_add (m_lo M) (m_hi M) (m_opS M ot) i y) ?_ (fun kJ97 => ?_)
        · refine z_ior C dL_reach_97 ?_
          refine z_istore_n C dL_reach_98 (by decide) ?_
          refine z_iinc C dL_reach_99 rfl rfl (by decide) ?_
          refine z_goto C 20 dL_reach_102 (by decide) ?_
          exact ihI (i + 1, y ||| y_add (m_lo M) (m_hi M) (m_opS M ot) i y) _ _ ⟨rfl, hlti, hJ.next hlti (by have := hI.lo hlti; unfold m_lo; omega) (by have := hI.hi hlti; unfold m_hi; omega) (m_lohi_ne hI hlti)⟩ (by dsimp only; omega) ⟨rfl, rfl, rfl, rfl, rfl, z_lgI rfl (z_inc i), trivial⟩
        · refine z_iload C dL_reach_79 rfl ?_
          refine z_if_eq C 96 dL_reach_81 (by decide) (fun h81 => ?_) (fun h81 => ?_)
          · refine z_iconst (v := 0) C dL_reach_96 (by decide) ?_
            exact z_joinE kJ97 (by first | (simp [y_add, *]; done) | (cases ho : m_opS M ot i <;> simp_all [y_add, z_b]; done))
          · refine z_iload_n C dL_reach_84 rfl ?_
            refine z_iload C dL_reach_85 rfl ?_
            refine z_iand C dL_reach_87 ?_
            refine z_if_eq C 96 dL_reach_88 (by decide) (fun h88 => ?_) (fun h88 => ?_)
            · refine z_iconst (v := 0) C dL_reach_96 (by decide) ?_
              exact z_joinE kJ97 (by first | (simp [y_add, *]; done) | (cases ho : m_opS M ot i <;> simp_all [y_add, z_b]; done))
            · refine z_iload C dL_reach_91 rfl ?_
              refine z_goto C 97 dL_reach_93 (by decide) ?_
              exact z_joinE kJ97 (by first | (simp [y_add, *]; done) | (cases ho : m_opS M ot i <;> simp_all [y_add, z_b]; done))
      · refine z_aload_n C dL_reach_51 rfl ?_
        refine z_iload C dL_reach_52 rfl ?_
        refine z_iconst (v := 5) C dL_reach_54 (by decide) ?_
        refine y_callR (As := [.int _, .int _]) C hX rfl (fun T _ => c_X5_door _ _ ad M T hI _ _) kc_X5_door wb_p544 ⟨by decide, by decide⟩ ⟨Nat.zero_le _, Nat.zero_le _⟩ (Nat.le_of_ble_eq_true rfl) dL_reach_55 ?_
        rw [y_d5 hI hlti]
        refine z_if_ge C 71 dL_reach_58 (by decide) (fun h58 => ?_) (fun h58 => ?_)
        · refine z_iconst (v := 1) C dL_reach_71 (by decide) ?_
          refine z_goto C 76 dL_reach_72 (by decide) ?_
          exact z_joinE kJ76 (by first | (simp [z_b, m_opS, m_has, *]; done) | (simp only [Int32.not_lt] at *; simp [z_b, m_opS, m_has, *]; done))
        · refine z_iload_n C dL_reach_61 rfl ?_
          refine z_iload C dL_reach_62 rfl ?_
          refine z_ishr C dL_reach_64 ?_
          refine z_iconst (v := 1) C dL_reach_65 (by decide) ?_
          refine z_iand C dL_reach_66 ?_
          refine z_iconst (v := 1) C dL_reach_67 (by decide) ?_
          refine z_icmp_ne C 75 dL_reach_68 (by decide) (fun h68 => ?_) (fun h68 => ?_)
          · refine z_iconst (v := 0) C dL_reach_75 (by decide) ?_
            exact z_joinE kJ76 (by first | (simp [z_b, m_opS, m_has, *]; done) | (simp only [Int32.not_lt] at *; simp [z_b, m_opS, m_has, *]; done))
          · refine z_iconst (v := 1) C dL_reach_71 (by decide) ?_
            refine z_goto C 76 dL_reach_72 (by decide) ?_
            exact z_joinE kJ76 (by first | (simp [z_b, m_opS, m_has, *]; done) | (simp only [Int32.not_lt] at *; simp [z_b, m_opS, m_has, *]; done))

/-! the script's cells -/
def y_cell (L : Nat) (xs : Nat → Int32) (k : Nat) : Int32 := if k < L then xs k else 7690003 * nI k + 5501
theorem z_blindX {av : List Value} {G : z_G} {b L : Nat} {xs : Nat → Int32} : FrameBlind (va_Pc av (fun U => va_X b L xs U U.heap ∧ z_K G U)) := fun _ U g mk q => ⟨q.1, q.2.1.moved (Vm.Alike.refl U.vm), q.2.2.calling g mk _⟩
set_option maxHeartbeats 4000000 in
set_option maxRecDepth 100000 in
theorem c_L_cell (l : Launch) (G : z_G) (b L : Nat) (xs : Nat → Int32) (hL : L < 2 ^ 20) (k : Nat) (hk : k < 2 ^ 20) : Met l yL_cell (Cond.code yL_cell cL_cell 2 (some .int) :: z_B) (z_rm 0 0 0) (va_Pc [.ref b, .int (nI k)] (fun U => va_X b L xs U U.heap ∧ z_K G U)) (z_Q (fun v H H' => v = some (.int (y_cell L xs k)) ∧ H' = H) (fun _ => False)) 0 0 (fun _ => False) := by
  refine Met.ofW (cc := cL_cell) (maxL := 2) (ret := some .int) (by decide +kernel) rfl ?_
  intro p e s m args below meth c s₁ B hml hv
  obtain ⟨rfl, hX, hK⟩ := hv
  have hown : s.vm.findClass yL_cell.cls = some m.cls := findClass_of_methodNamed B.named
  have hin : meth.name = yL_cell.name := (name_of_methodNamed B.named B.method).1
  have hbl : b < s.heap.size := (Array.getElem?_eq_some_iff.mp hX.choose_spec.1).1
  have C : z_C p s m #[.ref b, .int (nI k)] meth c cL_cell yL_cell.cls (some .int) 2 yL_cell.name G := ⟨B.exec, B.bytes, B.returns, hml, hown, fun w hw => atoms_spec (ws := Cond.code yL_cell cL_cell 2 (some .int) :: z_B) B.pre w (List.mem_cons_of_mem _ hw), hK, B.notSynchronized, hin⟩
  have key : z_Z p l e (z_rm 0 0 0) s m #[.ref b, .int (nI k)] below meth c (fun _ => False) 2 0 0 (MQ below (z_Q (fun v H H' => v = some (.int (y_cell L xs k)) ∧ H' = H) (fun _ => False)) #[.ref b, .int (nI k)] s 0 0 (fun _ => False)) s.heap 0 (lv_args 0 [.ref b, .int (nI k)]) [] := by
    refine z_iload_n C dL_cell_0 rfl ?_
    refine z_aload_n C dL_cell_1 rfl ?_
    refine (fun kk ls locs hl hS => va_slen C.1 C.2.1 hX hbl (fun q => q) hS dL_cell_2 (kk ls locs hl hS) : z_Z p l e (z_rm 0 0 0) s m #[.ref b, .int (nI k)] below meth c (fun _ => False) 2 0 0 _ s.heap 3 _ [.int (nI L), .int (nI k)] → _) ?_
    refine z_icmp_ge C 12 dL_cell_3 (by decide) (fun h3 => ?_) (fun h3 => ?_)
    · have hge : ¬ k < L := fun q => h3 (nI_lt q (by omega))
      refine z_ldc C wb_p517 dL_cell_12 ?_
      refine z_iload_n C dL_cell_14 rfl ?_
      refine z_imul C dL_cell_15 ?_
      refine z_sipush (v := 5501) C dL_cell_16 (by decide) ?_
      refine z_iadd C dL_cell_19 ?_
      exact z_iret C (by omega) (by omega) dL_cell_20 (by exact ⟨by unfold y_cell; rw [if_neg hge], rfl⟩)
    · have hlt : k < L := (nI_ltI (by omega) (by omega)).mp h3
      refine z_aload_n C dL_cell_6 rfl ?_
      refine z_iload_n C dL_cell_7 rfl ?_
      refine (fun kk ls locs hl hS => va_sld C.1 C.2.1 hX hbl (fun q => q) hS (vp_in_nI hlt (by omega)) dL_cell_8 (kk ls locs hl hS) : z_Z p l e (z_rm 0 0 0) s m #[.ref b, .int (nI k)] below meth c (fun _ => False) 2 0 0 _ s.heap 9 _ [.int (xs (nI k).toNatClampNeg)] → _) ?_
      refine z_goto C 20 dL_cell_9 (by decide) ?_
      exact z_iret C (by omega) (by omega) dL_cell_20 (by exact ⟨by unfold y_cell; rw [if_pos hlt, nI_clamp (by omega)], rfl⟩)
  rw [lg_entry_eq]
  exact key _ _ (lv_entry [.ref b, .int (nI k)] (n := 2) (Nat.le_of_ble_eq_true rfl)) va_S.rf
section YCELL
variable {p : Program} {l : Launch} {e : Env} {R : Room} {s : State} {m : MethodId} {args : Array Value} {below : List Frame} {meth : Method} {c : Code} {A : Nat → Prop} {n cells slots : Nat} {Q : State → Prop} {H : Heap} {pc : Nat} {L : List (Nat × Value)} {rest : List Value}
variable {cc : ByteArray} {own : String} {ret : Option FieldType} {nm : String} {G : z_G}
theorem y_callCell (C : z_C p s m args meth c cc own ret n nm G) {idx b N k : Nat} {xs : Nat → Int32} (hX : va_X b N xs s s.heap) (hbl : b < s.heap.size) (hA : ¬ A b) (hN : N < 2 ^ 20) (hk : k < 2 ^ 20) (hlk : Cond.methodLink own idx yL_cell ∈ z_B) (hR : 1 ≤ R.frames ∧ 21 ≤ R.locals) (hf : cells ≤ R.cells ∧ slots ≤ R.slots) (hrest : (rest.map fun v => v.category).sum ≤ 8) (hdg : decode cc pc = .ok (.invokestatic idx, 3))
    (kk : z_Z p l e R s m args below meth c A n cells slots Q H (pc + 3) L (.int (y_cell N xs k) :: rest)) : z_Z p l e R s m args below meth c A n cells slots Q H pc L (.int (nI k) :: .ref b :: rest) := by
  intro ls locs hl hS
  refine z_call (va_runS (As := [.ref b, .int (nI k)]) (rest := rest) ⟨C.1, C.2.1, C.2.2.2.1, C.2.2.2.2.1, C.2.2.2.2.2.1⟩ (c_L_cell l G b N xs hN k hk) (va_cwS 2 C.2.2.2.2.2.1 (kc_L_cell.good hlk) rfl rfl rfl kc_L_cell.2 ⟨hR.1, hR.2⟩) ⟨z_blindX, fun U hU hW => ⟨rfl, by rw [hU]; exact (hX.kept (hS.2.1 b hbl hA)).moved hW.alike, C.2.2.2.2.2.2.1.warm hW⟩⟩ rfl rfl hl.1 rfl (lv_room hrest) hdg ⟨by omega, by omega⟩) hS (fun _ q => q.elim) (fun v H1 locs1 hq h2 h3 h4 => ?_)
  obtain ⟨rfl, rfl⟩ := hq
  exact kk ls locs1 hl h4
end YCELL
