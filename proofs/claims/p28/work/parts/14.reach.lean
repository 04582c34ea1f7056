theorem r_start {nD : Nat} {lo hi : Nat → Nat} {op : Nat → Bool} {r0 : Nat} (h : r0 < 32) : r_S nD lo hi op (fun q => q = r0) (x_bit (nI r0)) := by
  refine ⟨fun r hr => by rw [tb_bit h, hr]; simp, fun r hr => ?_⟩
  rw [tb_bit h] at hr
  exact g_R.start (by simpa using hr)
noncomputable def F_reach (M : m_S) (nD : Nat) (g : Int32) : Int32 := if m_no g (M.1 14) then -1 else if m_pl M g then g_bits (m_Rch M nD (fun d => !(decide (M.2 8 d < 0))) (fun q => q = (M.2 16 g.toNatClampNeg).toNatClampNeg)) 32 else -4
theorem m_has_0 (k : Nat) (hk : k < 32) : m_has 0 (nI k) = false := by rw [m_has_tb hk, tb_0]
theorem m_reach0 {nR nD nK nG : Nat} {M : m_S} (hI : m_I nR nD nK nG M) (S : Nat → Prop) : g_bits (m_Rch M nD (m_opS M 0) S) 32 = g_bits (m_Rch M nD (fun d => !(decide (M.2 8 d < 0))) S) 32 := by
  have h16 := hI.1.2.1.2
  refine g_bits_congr fun i _ => ?_
  have e : ∀ d, d < nD → (m_opS M 0 d = true ↔ (!(decide (M.2 8 d < 0))) = true) := by
    intro d hd
    unfold m_opS
    rw [m_has_0 d (by omega), Bool.or_false]
  exact ⟨fun h => h.mono (fun _ q => q) (fun d hd q => (e d hd).mp q), fun h => h.mono (fun _ q => q) (fun d hd q => (e d hd).mpr q)⟩
theorem m_bits {nR nD nK nG : Nat} {M : m_S} (h : m_I nR nD nK nG M) {d : Nat} (hd : d < nD) : (x_bit (M.2 3 d) ||| x_bit (M.2 4 d)) = (x_bit (nI (m_lo M d)) ||| x_bit (nI (m_hi M d))) := by rw [m_bitL h hd, m_bitH h hd]
theorem r_startF {nD : Nat} {lo hi : Nat → Nat} {op : Nat → Bool} {f : Int32} : r_S nD lo hi op (fun q => tb f q = true) f := ⟨fun _ h => h, fun _ h => g_R.start h⟩
def x_opL (M : m_S) (ol : Int32) (d : Nat) : Bool := decide (ol &&& x_lb M d = x_lb M d)
set_option maxHeartbeats 4000000 in
set_option maxRecDepth 100000 in
theorem c_X5_spread (l : Launch) (G : z_G) (ad : Nat → Nat → Nat) (M : m_S) (T : x_T) {nR nD nK nG : Nat} (hI : m_I nR nD nK nG M) (f ol : Int32) (r0 : Nat) (hr0 : r0 < 12) (hf0 : tb f r0 = true) : z_MR l yX5_spread cX5_spread 8 (some .int) 3 [.ref (ad 4 2), .int f, .int ol] G (fun H => x_R G ad nR nD nK nG M T H) (.int (g_bits (m_Rch M nD (x_opL M ol) (fun q => tb f q = true)) 32)) := by
  refine z_M.of (by decide +kernel) (Nat.le_of_ble_eq_true rfl) ?_
  intro p e s m below meth c C hP
  have hX : x_R G ad nR nD nK nG M T s.heap := hP
  have hN := hI.1
  have hR12 := hN.1.2; have hD16 := hN.2.1.2; have hK16 := hN.2.2.1.2; have hG6 := hN.2.2.2.2
  refine z_iload_n C dX5_spread_0 rfl ?_
  refine z_istore_n C dX5_spread_1 (by decide) ?_
  refine z_iconst (v := 1) C dX5_spread_2 (by decide) ?_
  refine z_istore C dX5_spread_3 (by decide) ?_
  refine z_iconst (v := 0) C dX5_spread_5 (by decide) ?_
  refine z_istore C dX5_spread_6 (by decide) ?_
  refine z_loopS (fun q : Int32 × Bool × Nat => 13 - q.2.2) (fun q H1 => H1 = s.heap ∧ r_O nD (m_lo M) (m_hi M) (x_opL M ol) (fun q => tb f q = true) q.1 q.2.1 ∧ q.2.2 ≤ 12 ∧ (q.2.1 = true → g_miss q.1 12 + q.2.2 ≤ 11)) (fun q => [(0, .ref (ad 4 2)), (1, .int f), (2, .int ol), (3, .int q.1), (4, .int (z_b q.2.1)), (5, .int (nI q.2.2))]) (f, true, 0) ⟨rfl, ⟨r_startF, (fun q => by cases q)⟩, Nat.zero_le _, fun _ => by have := g_miss_one hf0 12 hr0; dsimp only; omega⟩ ⟨rfl, rfl, rfl, rfl, rfl, rfl, trivial⟩ (fun q H1 hI1 ihO => ?_)
  obtain ⟨x, mo, rd⟩ := q
  obtain ⟨rfl, hO, hrd, hcnt⟩ := hI1
  dsimp only at hO hrd hcnt ihO ⊢
  refine z_iload C dX5_spread_8 rfl ?_
  refine z_ifb_eq C 87 dX5_spread_10 (by decide) (fun h10 => ?_) (fun h10 => ?_)
  · subst h10
    refine z_iload_n C dX5_spread_87 rfl ?_
    exact z_iret C (by omega) (by omega) dX5_spread_88 (by first | exact ⟨congrArg (fun z => some (Value.int z)) hO.done, rfl⟩ | (have h2 := hcnt rfl; omega))
  · subst h10
    refine z_iload C dX5_spread_13 rfl ?_
    refine z_bipush (v := 12) C dX5_spread_15 (by decide) ?_
    refine z_icmp_ge C 87 dX5_spread_17 (by decide) (fun h17 => ?_) (fun h17 => ?_)
    · have hrd12 : rd = 12 := z_ge (n := 12) rfl (by omega) hrd h17
      refine z_iload_n C dX5_spread_87 rfl ?_
      exact z_iret C (by omega) (by omega) dX5_spread_88 (by first | exact ⟨congrArg (fun z => some (Value.int z)) hO.done, rfl⟩ | (have h2 := hcnt rfl; omega))
    · have hrdlt : rd < 12 := z_lt (n := 12) rfl (by omega) hrd h17
      refine z_iconst (v := 0) C dX5_spread_20 (by decide) ?_
      refine z_istore C dX5_spread_21 (by decide) ?_
      refine z_iconst (v := 0) C dX5_spread_23 (by decide) ?_
      refine z_istore C dX5_spread_24 (by decide) ?_
      refine z_loopS (fun q : Nat × Int32 × Bool => nD - q.1) (fun q H1 => H1 = s.heap ∧ q.1 ≤ nD ∧ r_I nD (m_lo M) (m_hi M) (x_opL M ol) (fun q => tb f q = true) x q.1 q.2.1 q.2.2) (fun q => [(0, .ref (ad 4 2)), (1, .int f), (2, .int ol), (3, .int q.2.1), (4, .int (z_b q.2.2)), (5, .int (nI rd)), (6, .int (nI q.1))]) (0, x, false) ⟨rfl, Nat.zero_le _, r_I.zero hO⟩ ⟨rfl, rfl, rfl, rfl, rfl, rfl, rfl, trivial⟩ (fun q H2 hI2 ihI => ?_)
      obtain ⟨i, y, mi⟩ := q
      obtain ⟨rfl, hi, hJ⟩ := hI2
      dsimp only at hi hJ ihI ⊢
      refine z_iload C dX5_spread_26 rfl ?_
      refine z_aload_n C dX5_spread_28 rfl ?_
      refine k_size C (by first | exact hX.2.2.1.1 | exact hX.2.2.1.2.1 | exact hX.2.2.1.2.2.1 | exact hX.2.2.1.2.2.2) wb_129 ⟨by decide, by decide⟩ ⟨Nat.zero_le _, Nat.zero_le _⟩ (Nat.le_of_ble_eq_true rfl) dX5_spread_29 ?_
      refine z_icmp_ge C 81 dX5_spread_32 (by decide) (fun h32 => ?_) (fun h32 => ?_)
      · obtain rfl := z_ge (rfl : nI nD = nI nD) (by omega) hi h32
        refine z_iinc C dX5_spread_81 rfl rfl (by decide) ?_
        refine z_goto C 8 dX5_spread_84 (by decide) ?_
        exact ihO (y, mi, rd + 1) _ _ ⟨rfl, hJ.out, (by dsimp only; omega), fun q => by have h1 := hJ.2.2.2 q; have h2 := hcnt rfl; dsimp only; omega⟩ (by dsimp only; omega) ⟨rfl, rfl, rfl, rfl, rfl, z_lgI rfl (z_inc rd), trivial⟩
      · have hlti := z_lt (rfl : nI nD = nI nD) (by omega) hi h32
        have hini : vp_in (nI i) nD := vp_in_nI hlti (by omega)
        have hcli : (nI i).toNatClampNeg = i := nI_clamp (by omega)
        have hl12 := m_lo12 hI hlti
        have hh12 := m_hi12 hI hlti
        refine z_aload_n C dX5_spread_35 rfl ?_
        refine z_iload C dX5_spread_36 rfl ?_
        refine k_get C (by first | exact hX.2.2.1.1 | exact hX.2.2.1.2.1 | exact hX.2.2.1.2.2.1 | exact hX.2.2.1.2.2.2) (by first | assumption | exact x_inG hN (by assumption) | exact x_inD hN (by assumption) | exact x_inK hN (by assumption) | exact x_inR hN (by assumption)) (by omega) (by first | exact hcli | rfl) wb_222 ⟨by decide, by decide⟩ ⟨Nat.zero_le _, Nat.zero_le _⟩ (Nat.le_of_ble_eq_true rfl) dX5_spread_38 ?_
        refine z_cast (q := (RX0, TX0, 10)) C (by first | exact hX.1.1 | exact hX.1.2.1 | exact hX.1.2.2.1 | exact hX.1.2.2.2 | exact hX.2.1.1 _ (by first | assumption | exact vp_in_clamp (x_inG hN (by assumption)) | exact vp_in_clamp (x_inD hN (by assumption)) | exact vp_in_clamp (x_inK hN (by assumption)) | exact vp_in_clamp (x_inR hN (by assumption)) | exact hI.rm (by first | assumption | exact vp_in_clamp (x_inG hN (by assumption))) | exact hI.lo (by first | assumption | exact vp_in_clamp (x_inD hN (by assumption))) | exact hI.hi (by first | assumption | exact vp_in_clamp (x_inD hN (by assumption)))) | exact hX.2.1.2.1 _ (by first | assumption | exact vp_in_clamp (x_inD hN (by assumption))) | exact hX.2.1.2.2.1 _ (by first | assumption | exact vp_in_clamp (x_inK hN (by assumption))) | exact hX.2.1.2.2.2 _ (by first | assumption | exact vp_in_clamp (x_inG hN (by assumption)))) rfl wb_243 dX5_spread_41 ?_
        refine z_astore C dX5_spread_44 (by decide) ?_
        refine z_aload C dX5_spread_46 rfl ?_
        refine z_iload_n C dX5_spread_48 rfl ?_
        refine z_callVR (As := [.int _]) C (c_X0_isPassable _ _ _ _ _ _ _ _ _ _ _ _ _ _) kc_X0_isPassable wb_504 ⟨by decide, by decide⟩ (by first | exact hX.1.1 | exact hX.1.2.1 | exact hX.1.2.2.1 | exact hX.1.2.2.2 | exact hX.2.1.1 _ (by first | assumption | exact vp_in_clamp (x_inG hN (by assumption)) | exact vp_in_clamp (x_inD hN (by assumption)) | exact vp_in_clamp (x_inK hN (by assumption)) | exact vp_in_clamp (x_inR hN (by assumption)) | exact hI.rm (by first | assumption | exact vp_in_clamp (x_inG hN (by assumption))) | exact hI.lo (by first | assumption | exact vp_in_clamp (x_inD hN (by assumption))) | exact hI.hi (by first | assumption | exact vp_in_clamp (x_inD hN (by assumption)))) | exact hX.2.1.2.1 _ (by first | assumption | exact vp_in_clamp (x_inD hN (by assumption))) | exact hX.2.1.2.2.1 _ (by first | assumption | exact vp_in_clamp (x_inK hN (by assumption))) | exact hX.2.1.2.2.2 _ (by first | assumption | exact vp_in_clamp (x_inG hN (by assumption)))) rfl (by first | exact hX.1.1 | exact hX.1.2.1 | exact hX.1.2.2.1 | exact hX.1.2.2.2 | exact hX.2.1.1 _ (by first | assumption | exact vp_in_clamp (x_inG hN (by assumption)) | exact vp_in_clamp (x_inD hN (by assumption)) | exact vp_in_clamp (x_inK hN (by assumption)) | exact vp_in_clamp (x_inR hN (by assumption)) | exact hI.rm (by first | assumption | exact vp_in_clamp (x_inG hN (by assumption))) | exact hI.lo (by first | assumption | exact vp_in_clamp (x_inD hN (by assumption))) | exact hI.hi (by first | assumption | exact vp_in_clamp (x_inD hN (by assumption)))) | exact hX.2.1.2.1 _ (by first | assumption | exact vp_in_clamp (x_inD hN (by assumption))) | exact hX.2.1.2.2.1 _ (by first | assumption | exact vp_in_clamp (x_inK hN (by assumption))) | exact hX.2.1.2.2.2 _ (by first | assumption | exact vp_in_clamp (x_inG hN (by assumption)))) ⟨Nat.zero_le _, Nat.zero_le _⟩ (Nat.le_of_ble_eq_true rfl) dX5_spread_49 ?_
        refine z_ifb_eq C 75 dX5_spread_52 (by decide) (fun h52 => ?_) (fun h52 => ?_)
        · have hK := hJ.skip (op := x_opL M ol) h52
          refine z_iinc C dX5_spread_75 rfl rfl (by decide) ?_
          refine z_goto C 26 dX5_spread_78 (by decide) ?_
          first | exact ihI (i + 1, y, mi) _ _ ⟨rfl, hlti, hK⟩ (by dsimp only; omega) ⟨rfl, rfl, rfl, rfl, rfl, rfl, z_lgI rfl (z_inc i), trivial⟩ | exact ihI (i + 1, y ||| (x_bit (nI (m_lo M i)) ||| x_bit (nI (m_hi M i))), true) _ _ ⟨rfl, hlti, hK⟩ (by dsimp only; omega) ⟨rfl, rfl, rfl, z_lgI rfl (by rw [← m_bits hI hlti]), rfl, rfl, z_lgI rfl (z_inc i), trivial⟩
        · refine z_aload C dX5_spread_55 rfl ?_
          refine z_iload_n C dX5_spread_57 rfl ?_
          refine z_callVR (As := [.int _]) C (c_X0_leadsOutOf _ _ _ _ _ _ _ _ _ _ _ _ _ _) kc_X0_leadsOutOf wb_508 ⟨by decide, by decide⟩ (by first | exact hX.1.1 | exact hX.1.2.1 | exact hX.1.2.2.1 | exact hX.1.2.2.2 | exact hX.2.1.1 _ (by first | assumption | exact vp_in_clamp (x_inG hN (by assumption)) | exact vp_in_clamp (x_inD hN (by assumption)) | exact vp_in_clamp (x_inK hN (by assumption)) | exact vp_in_clamp (x_inR hN (by assumption)) | exact hI.rm (by first | assumption | exact vp_in_clamp (x_inG hN (by assumption))) | exact hI.lo (by first | assumption | exact vp_in_clamp (x_inD hN (by assumption))) | exact hI.hi (by first | assumption | exact vp_in_clamp (x_inD hN (by assumption)))) | exact hX.2.1.2.1 _ (by first | assumption | exact vp_in_clamp (x_inD hN (by assumption))) | exact hX.2.1.2.2.1 _ (by first | assumption | exact vp_in_clamp (x_inK hN (by assumption))) | exact hX.2.1.2.2.2 _ (by first | assumption | exact vp_in_clamp (x_inG hN (by assumption)))) rfl (by first | exact hX.1.1 | exact hX.1.2.1 | exact hX.1.2.2.1 | exact hX.1.2.2.2 | exact hX.2.1.1 _ (by first | assumption | exact vp_in_clamp (x_inG hN (by assumption)) | exact vp_in_clamp (x_inD hN (by assumption)) | exact vp_in_clamp (x_inK hN (by assumption)) | exact vp_in_clamp (x_inR hN (by assumption)) | exact hI.rm (by first | assumption | exact vp_in_clamp (x_inG hN (by assumption))) | exact hI.lo (by first | assumption | exact vp_in_clamp (x_inD hN (by assumption))) | exact hI.hi (by first | assumption | exact vp_in_clamp (x_inD hN (by assumption)))) | exact hX.2.1.2.1 _ (by first | assumption | exact vp_in_clamp (x_inD hN (by assumption))) | exact hX.2.1.2.2.1 _ (by first | assumption | exact vp_in_clamp (x_inK hN (by assumption))) | exact hX.2.1.2.2.2 _ (by first | assumption | exact vp_in_clamp (x_inG hN (by assumption)))) ⟨Nat.zero_le _, Nat.zero_le _⟩ (Nat.le_of_ble_eq_true rfl) dX5_spread_58 ?_
          rw [m_bits hI hlti, x_leads (by omega) (by omega) (m_lohi_ne hI hlti)]
          refine z_ifb_eq C 75 dX5_spread_61 (by decide) (fun h61 => ?_) (fun h61 => ?_)
          · have hK := hJ.same (by simpa using h61)
            refine z_iinc C dX5_spread_75 rfl rfl (by decide) ?_
            refine z_goto C 26 dX5_spread_78 (by decide) ?_
            first | exact ihI (i + 1, y, mi) _ _ ⟨rfl, hlti, hK⟩ (by dsimp only; omega) ⟨rfl, rfl, rfl, rfl, rfl, rfl, z_lgI rfl (z_inc i), trivial⟩ | exact ihI (i + 1, y ||| (x_bit (nI (m_lo M i)) ||| x_bit (nI (m_hi M i))), true) _ _ ⟨rfl, hlti, hK⟩ (by dsimp only; omega) ⟨rfl, rfl, rfl, z_lgI rfl (by rw [← m_bits hI hlti]), rfl, rfl, z_lgI rfl (z_inc i), trivial⟩
          · have hK := hJ.cross (op := x_opL M ol) hlti (by omega) (by omega) h52 (by simpa using h61)
            refine z_iload_n C dX5_spread_64 rfl ?_
            refine z_aload C dX5_spread_65 rfl ?_
            refine z_get C (by first | exact hX.1.1 | exact hX.1.2.1 | exact hX.1.2.2.1 | exact hX.1.2.2.2 | exact hX.2.1.1 _ (by first | assumption | exact vp_in_clamp (x_inG hN (by assumption)) | exact vp_in_clamp (x_inD hN (by assumption)) | exact vp_in_clamp (x_inK hN (by assumption)) | exact vp_in_clamp (x_inR hN (by assumption)) | exact hI.rm (by first | assumption | exact vp_in_clamp (x_inG hN (by assumption))) | exact hI.lo (by first | assumption | exact vp_in_clamp (x_inD hN (by assumption))) | exact hI.hi (by first | assumption | exact vp_in_clamp (x_inD hN (by assumption)))) | exact hX.2.1.2.1 _ (by first | assumption | exact vp_in_clamp (x_inD hN (by assumption))) | exact hX.2.1.2.2.1 _ (by first | assumption | exact vp_in_clamp (x_inK hN (by assumption))) | exact hX.2.1.2.2.2 _ (by first | assumption | exact vp_in_clamp (x_inG hN (by assumption)))) z_cls1 hu_X0 4 (by decide) wb_270 rfl rfl dX5_spread_67 ?_
            refine z_ior C dX5_spread_70 ?_
            refine z_istore_n C dX5_spread_71 (by decide) ?_
            refine z_iconst (v := 1) C dX5_spread_72 (by decide) ?_
            refine z_istore C dX5_spread_73 (by decide) ?_
            refine z_iinc C dX5_spread_75 rfl rfl (by decide) ?_
            refine z_goto C 26 dX5_spread_78 (by decide) ?_
            first | exact ihI (i + 1, y, mi) _ _ ⟨rfl, hlti, hK⟩ (by dsimp only; omega) ⟨rfl, rfl, rfl, rfl, rfl, rfl, z_lgI rfl (z_inc i), trivial⟩ | exact ihI (i + 1, y ||| (x_bit (nI (m_lo M i)) ||| x_bit (nI (m_hi M i))), true) _ _ ⟨rfl, hlti, hK⟩ (by dsimp only; omega) ⟨rfl, rfl, rfl, z_lgI rfl (by rw [← m_bits hI hlti]), rfl, rfl, z_lgI rfl (z_inc i), trivial⟩

