theorem z_lookup {p : Program} {l : Launch} {e : Env} {R : Room} {s : State} {m : MethodId} {args : Array Value} {below : List Frame} {meth : Method} {c : Code} {A : Nat → Prop} {n cells slots : Nat} {Q : State → Prop} {H : Heap} {pc : Nat} {L : List (Nat × Value)} {rest : List Value} {cc : ByteArray} {own : String} {ret : Option FieldType} {nm : String} {G : z_G} (C : z_C p s m args meth c cc own ret n nm G) {dflt off : Int} {ps : Array (Int × Int)} {len : Nat} {x : Int32} (tgt : Nat) (hdg : decode cc pc = .ok (.lookupswitch dflt ps, len)) (hp : (ps.toList.zip (ps.toList.drop 1)).all (fun (a, next) => a.1 < next.1) = true) (ho : Op.lookupswitch.offset ps.toList dflt x.toInt = off) (ht : (pc : Int) + off = (tgt : Int)) (k : z_Z p l e R s m args below meth c A n cells slots Q H tgt L rest) : z_Z p l e R s m args below meth c A n cells slots Q H pc L (.int x :: rest) :=
  fun ls locs hl hS => lv_lookup C.1 C.2.1 hdg hp ho ht (k ls locs hl hS)
section XTOLD
variable {nR nD nK nG : Nat} {M : m_S} {ad : Nat → Nat → Nat}
theorem x_n3 (hI : m_I nR nD nK nG M) {d : Nat} (hd : d < nD) : nI (M.2 3 d).toNatClampNeg = M.2 3 d := by
  obtain ⟨lo, hi, h1, h2, e1, e2⟩ := hI.lohi hd
  have := hI.1.1.2
  rw [e1, nI_clamp (by omega)]
theorem x_n4 (hI : m_I nR nD nK nG M) {d : Nat} (hd : d < nD) : nI (M.2 4 d).toNatClampNeg = M.2 4 d := by
  obtain ⟨lo, hi, h1, h2, e1, e2⟩ := hI.lohi hd
  have := hI.1.1.2
  rw [e2, nI_clamp (by omega)]
theorem x_n16 (hI : m_I nR nD nK nG M) {g : Nat} (hg : g < nG) : nI (M.2 16 g).toNatClampNeg = M.2 16 g := by
  obtain ⟨r, h1, e1⟩ := hI.room hg
  have := hI.1.1.2
  rw [e1, nI_clamp (by omega)]
theorem x_shut (hI : m_I nR nD nK nG M) {d : Nat} (hd : d < nD) (h : M.2 8 d < 0) : M.2 8 d = -6 := by
  rcases (hI.2.2.1 d hd).2.2 with ⟨-, -, q⟩ | ⟨-, -, q | ⟨t, ht, q⟩⟩
  · rw [q] at h; exact absurd h (by decide)
  · exact q
  · rw [q] at h; exact absurd h (nI_pos (by omega))
theorem x_kr_some (hI : m_I nR nD nK nG M) {k a : Nat} (hk : k < nK) (h : x_kr ad M k = some a) : M.2 11 k = 0 ∧ ∃ r, r < nR ∧ a = ad 0 r ∧ M.2 12 k = nI r := by
  have := hI.1.1.2
  unfold x_kr at h
  by_cases q : M.2 11 k = 0
  · refine ⟨q, ?_⟩
    rcases (hI.2.2.2.1 k hk).2.1 with ⟨z, x, hx, e⟩ | ⟨z, -⟩ | ⟨z, -⟩
    · rw [if_pos q, e, nI_clamp (by omega)] at h
      exact ⟨x, hx, (Option.some.inj h).symm, e⟩
    · rw [q] at z; exact absurd z (by decide)
    · rw [q] at z; exact absurd z (by decide)
  · rw [if_neg q] at h; cases h
theorem x_kr_null {k : Nat} (h : x_kr ad M k = none) : ¬ M.2 11 k = 0 := by
  intro q; unfold x_kr at h; rw [if_pos q] at h; cases h
theorem x_kh_some (hI : m_I nR nD nK nG M) {k a : Nat} (hk : k < nK) (h : x_kh ad M k = some a) : M.2 11 k = 1 ∧ ∃ r, r < nG ∧ a = ad 3 r ∧ M.2 12 k = nI r := by
  have := hI.1.2.2.2.2
  unfold x_kh at h
  by_cases q : M.2 11 k = 1
  · refine ⟨q, ?_⟩
    rcases (hI.2.2.2.1 k hk).2.1 with ⟨z, -⟩ | ⟨z, x, hx, e⟩ | ⟨z, -⟩
    · rw [q] at z; exact absurd z (by decide)
    · rw [if_pos q, e, nI_clamp (by omega)] at h
      exact ⟨x, hx, (Option.some.inj h).symm, e⟩
    · rw [q] at z; exact absurd z (by decide)
  · rw [if_neg q] at h; cases h
theorem x_kh_null {k : Nat} (h : x_kh ad M k = none) : ¬ M.2 11 k = 1 := by
  intro q; unfold x_kh at h; rw [if_pos q] at h; cases h
theorem x_ku_some (hI : m_I nR nD nK nG M) {k a : Nat} (hk : k < nK) (h : x_ku ad M k = some a) : M.2 11 k = 2 ∧ ∃ r, r < nD ∧ a = ad 1 r ∧ M.2 12 k = nI r := by
  have := hI.1.2.1.2
  unfold x_ku at h
  by_cases q : M.2 11 k = 2
  · refine ⟨q, ?_⟩
    rcases (hI.2.2.2.1 k hk).2.1 with ⟨z, -⟩ | ⟨z, -⟩ | ⟨z, x, hx, e⟩
    · rw [q] at z; exact absurd z (by decide)
    · rw [q] at z; exact absurd z (by decide)
    · rw [if_pos q, e, nI_clamp (by omega)] at h
      exact ⟨x, hx, (Option.some.inj h).symm, e⟩
  · rw [if_neg q] at h; cases h
theorem x_ku_null {k : Nat} (h : x_ku ad M k = none) : ¬ M.2 11 k = 2 := by
  intro q; unfold x_ku at h; rw [if_pos q] at h; cases h
theorem m_in00 : m_in 0 0 1 = true := by decide
theorem m_in11 : m_in 1 0 1 = true := by decide
theorem m_color_w {nD nK : Nat} {c0 w : Int32} (h0 : ¬ w = 0) (h1 : ¬ w = 1) : F_color M nD nK c0 w = -2 := by
  have e : m_in w 0 1 = false := by
    cases h : m_in w 0 1 with
    | false => rfl
    | true => exact absurd (m_in01 h h0) h1
  simp [F_color, e]
end XTOLD
set_option maxHeartbeats 4000000 in
set_option maxRecDepth 100000 in
theorem c_X5_door (l : Launch) (G : z_G) (ad : Nat → Nat → Nat) (M : m_S) (T : x_T) {nR nD nK nG : Nat} (hI : m_I nR nD nK nG M) (d w : Int32) : z_MR l yX5_door cX5_door 4 (some .int) 3 [.ref (ad 4 0), .int d, .int w] G (fun H => x_R G ad nR nD nK nG M T H) (.int (F_door M d w)) := by
  refine z_M.of (by decide +kernel) (Nat.le_of_ble_eq_true rfl) ?_
  intro p e s m below meth c C hP
  have hX : x_R G ad nR nD nK nG M T s.heap := hP
  have hN := hI.1
  have hR12 := hN.1.2; have hD16 := hN.2.1.2; have hK16 := hN.2.2.1.2; have hG6 := hN.2.2.2.2
  refine z_aload_n C dX5_door_0 rfl ?_
  refine z_iload_n C dX5_door_1 rfl ?_
  refine z_callVR (As := [.int _]) C (c_X5_isDoor _ _ ad M T hI _) kc_X5_isDoor wb_403 ⟨by decide, by decide⟩ (by first | exact hX.1.1 | exact hX.1.2.1 | exact hX.1.2.2.1 | exact hX.1.2.2.2 | exact hX.2.1.1 _ (by first | assumption | exact vp_in_clamp (x_inG hN (by assumption)) | exact vp_in_clamp (x_inD hN (by assumption)) | exact vp_in_clamp (x_inK hN (by assumption)) | exact vp_in_clamp (x_inR hN (by assumption)) | exact hI.rm (by first | assumption | exact vp_in_clamp (x_inG hN (by assumption))) | exact hI.lo (by first | assumption | exact vp_in_clamp (x_inD hN (by assumption))) | exact hI.hi (by first | assumption | exact vp_in_clamp (x_inD hN (by assumption)))) | exact hX.2.1.2.1 _ (by first | assumption | exact vp_in_clamp (x_inD hN (by assumption))) | exact hX.2.1.2.2.1 _ (by first | assumption | exact vp_in_clamp (x_inK hN (by assumption))) | exact hX.2.1.2.2.2 _ (by first | assumption | exact vp_in_clamp (x_inG hN (by assumption)))) rfl (hX) ⟨Nat.zero_le _, Nat.zero_le _⟩ (Nat.le_of_ble_eq_true rfl) dX5_door_2 ?_
  refine z_ifnb_ne C 10 dX5_door_5 (by decide) (fun h5 => ?_) (fun h5 => ?_)
  · have hdv := x_inD hN (r := d) (by assumption)
    have hdl : d.toNatClampNeg < nD := vp_in_clamp hdv
    have hdn : nI d.toNatClampNeg = d := nI_of_clamp hdv (by omega)
    have hn3 := x_n3 hI hdl
    have hn4 := x_n4 hI hdl
    refine z_aload_n C dX5_door_10 rfl ?_
    refine z_get C (by first | exact hX.1.1 | exact hX.1.2.1 | exact hX.1.2.2.1 | exact hX.1.2.2.2 | exact hX.2.1.1 _ (by first | assumption | exact vp_in_clamp (x_inG hN (by assumption)) | exact vp_in_clamp (x_inD hN (by assumption)) | exact vp_in_clamp (x_inK hN (by assumption)) | exact vp_in_clamp (x_inR hN (by assumption)) | exact hI.rm (by first | assumption | exact vp_in_clamp (x_inG hN (by assumption))) | exact hI.lo (by first | assumption | exact vp_in_clamp (x_inD hN (by assumption))) | exact hI.hi (by first | assumption | exact vp_in_clamp (x_inD hN (by assumption)))) | exact hX.2.1.2.1 _ (by first | assumption | exact vp_in_clamp (x_inD hN (by assumption))) | exact hX.2.1.2.2.1 _ (by first | assumption | exact vp_in_clamp (x_inK hN (by assumption))) | exact hX.2.1.2.2.2 _ (by first | assumption | exact vp_in_clamp (x_inG hN (by assumption)))) z_cls6 hu_X5 1 (by decide) wb_95 rfl rfl dX5_door_11 ?_
    refine z_iload_n C dX5_door_14 rfl ?_
    refine k_get C (by first | exact hX.2.2.1.1 | exact hX.2.2.1.2.1 | exact hX.2.2.1.2.2.1 | exact hX.2.2.1.2.2.2) (by first | assumption | exact x_inG hN (by assumption) | exact x_inD hN (by assumption) | exact x_inK hN (by assumption) | exact x_inR hN (by assumption)) (by omega) (by first | exact hcli | rfl) wb_222 ⟨by decide, by decide⟩ ⟨Nat.zero_le _, Nat.zero_le _⟩ (Nat.le_of_ble_eq_true rfl) dX5_door_15 ?_
    refine z_cast (q := (RX0, TX0, 10)) C (by first | exact hX.1.1 | exact hX.1.2.1 | exact hX.1.2.2.1 | exact hX.1.2.2.2 | exact hX.2.1.1 _ (by first | assumption | exact vp_in_clamp (x_inG hN (by assumption)) | exact vp_in_clamp (x_inD hN (by assumption)) | exact vp_in_clamp (x_inK hN (by assumption)) | exact vp_in_clamp (x_inR hN (by assumption)) | exact hI.rm (by first | assumption | exact vp_in_clamp (x_inG hN (by assumption))) | exact hI.lo (by first | assumption | exact vp_in_clamp (x_inD hN (by assumption))) | exact hI.hi (by first | assumption | exact vp_in_clamp (x_inD hN (by assumption)))) | exact hX.2.1.2.1 _ (by first | assumption | exact vp_in_clamp (x_inD hN (by assumption))) | exact hX.2.1.2.2.1 _ (by first | assumption | exact vp_in_clamp (x_inK hN (by assumption))) | exact hX.2.1.2.2.2 _ (by first | assumption | exact vp_in_clamp (x_inG hN (by assumption)))) rfl wb_243 dX5_door_18 ?_
    refine z_astore_n C dX5_door_21 (by decide) ?_
    refine z_iload_n C dX5_door_22 rfl ?_
    by_cases hsw_0 : w = 0
    · subst hsw_0
      refine z_tableIn C 60 dX5_door_23 (by decide) (by decide) (by rfl) (by decide) ?_
      refine z_aload_n C dX5_door_60 rfl ?_
      refine z_get C (by first | exact hX.1.1 | exact hX.1.2.1 | exact hX.1.2.2.1 | exact hX.1.2.2.2 | exact hX.2.1.1 _ (by first | assumption | exact vp_in_clamp (x_inG hN (by assumption)) | exact vp_in_clamp (x_inD hN (by assumption)) | exact vp_in_clamp (x_inK hN (by assumption)) | exact vp_in_clamp (x_inR hN (by assumption)) | exact hI.rm (by first | assumption | exact vp_in_clamp (x_inG hN (by assumption))) | exact hI.lo (by first | assumption | exact vp_in_clamp (x_inD hN (by assumption))) | exact hI.hi (by first | assumption | exact vp_in_clamp (x_inD hN (by assumption)))) | exact hX.2.1.2.1 _ (by first | assumption | exact vp_in_clamp (x_inD hN (by assumption))) | exact hX.2.1.2.2.1 _ (by first | assumption | exact vp_in_clamp (x_inK hN (by assumption))) | exact hX.2.1.2.2.2 _ (by first | assumption | exact vp_in_clamp (x_inG hN (by assumption)))) z_cls1 hu_X0 1 (by decide) wb_263 rfl rfl dX5_door_61 ?_
      refine z_get C (by first | exact hX.1.1 | exact hX.1.2.1 | exact hX.1.2.2.1 | exact hX.1.2.2.2 | exact hX.2.1.1 _ (by first | assumption | exact vp_in_clamp (x_inG hN (by assumption)) | exact vp_in_clamp (x_inD hN (by assumption)) | exact vp_in_clamp (x_inK hN (by assumption)) | exact vp_in_clamp (x_inR hN (by assumption)) | exact hI.rm (by first | assumption | exact vp_in_clamp (x_inG hN (by assumption))) | exact hI.lo (by first | assumption | exact vp_in_clamp (x_inD hN (by assumption))) | exact hI.hi (by first | assumption | exact vp_in_clamp (x_inD hN (by assumption)))) | exact hX.2.1.2.1 _ (by first | assumption | exact vp_in_clamp (x_inD hN (by assumption))) | exact hX.2.1.2.2.1 _ (by first | assumption | exact vp_in_clamp (x_inK hN (by assumption))) | exact hX.2.1.2.2.2 _ (by first | assumption | exact vp_in_clamp (x_inG hN (by assumption)))) z_cls5 hu_X4 0 (by decide) wb_140 rfl rfl dX5_door_64 ?_
      exact z_iret C (by omega) (by omega) dX5_door_67 (by exact ⟨congrArg (fun z => some (Value.int z)) (by simp [F_door, *]), rfl⟩)
    by_cases hsw_1 : w = 1
    · subst hsw_1
      refine z_tableIn C 68 dX5_door_23 (by decide) (by decide) (by rfl) (by decide) ?_
      refine z_aload_n C dX5_door_68 rfl ?_
      refine z_get C (by first | exact hX.1.1 | exact hX.1.2.1 | exact hX.1.2.2.1 | exact hX.1.2.2.2 | exact hX.2.1.1 _ (by first | assumption | exact vp_in_clamp (x_inG hN (by assumption)) | exact vp_in_clamp (x_inD hN (by assumption)) | exact vp_in_clamp (x_inK hN (by assumption)) | exact vp_in_clamp (x_inR hN (by assumption)) | exact hI.rm (by first | assumption | exact vp_in_clamp (x_inG hN (by assumption))) | exact hI.lo (by first | assumption | exact vp_in_clamp (x_inD hN (by assumption))) | exact hI.hi (by first | assumption | exact vp_in_clamp (x_inD hN (by assumption)))) | exact hX.2.1.2.1 _ (by first | assumption | exact vp_in_clamp (x_inD hN (by assumption))) | exact hX.2.1.2.2.1 _ (by first | assumption | exact vp_in_clamp (x_inK hN (by assumption))) | exact hX.2.1.2.2.2 _ (by first | assumption | exact vp_in_clamp (x_inG hN (by assumption)))) z_cls1 hu_X0 2 (by decide) wb_265 rfl rfl dX5_door_69 ?_
      refine z_get C (by first | exact hX.1.1 | exact hX.1.2.1 | exact hX.1.2.2.1 | exact hX.1.2.2.2 | exact hX.2.1.1 _ (by first | assumption | exact vp_in_clamp (x_inG hN (by assumption)) | exact vp_in_clamp (x_inD hN (by assumption)) | exact vp_in_clamp (x_inK hN (by assumption)) | exact vp_in_clamp (x_inR hN (by assumption)) | exact hI.rm (by first | assumption | exact vp_in_clamp (x_inG hN (by assumption))) | exact hI.lo (by first | assumption | exact vp_in_clamp (x_inD hN (by assumption))) | exact hI.hi (by first | assumption | exact vp_in_clamp (x_inD hN (by assumption)))) | exact hX.2.1.2.1 _ (by first | assumption | exact vp_in_clamp (x_inD hN (by assumption))) | exact hX.2.1.2.2.1 _ (by first | assumption | exact vp_in_clamp (x_inK hN (by assumption))) | exact hX.2.1.2.2.2 _ (by first | assumption | exact vp_in_clamp (x_inG hN (by assumption)))) z_cls5 hu_X4 0 (by decide) wb_140 rfl rfl dX5_door_72 ?_
      exact z_iret C (by omega) (by omega) dX5_door_75 (by exact ⟨congrArg (fun z => some (Value.int z)) (by simp [F_door, *]), rfl⟩)
    by_cases hsw_2 : w = 2
    · subst hsw_2
      refine z_tableIn C 76 dX5_door_23 (by decide) (by decide) (by rfl) (by decide) ?_
      refine z_aload_n C dX5_door_76 rfl ?_
      refine z_get C (by first | exact hX.1.1 | exact hX.1.2.1 | exact hX.1.2.2.1 | exact hX.1.2.2.2 | exact hX.2.1.1 _ (by first | assumption | exact vp_in_clamp (x_inG hN (by assumption)) | exact vp_in_clamp (x_inD hN (by assumption)) | exact vp_in_clamp (x_inK hN (by assumption)) | exact vp_in_clamp (x_inR hN (by assumption)) | exact hI.rm (by first | assumption | exact vp_in_clamp (x_inG hN (by assumption))) | exact hI.lo (by first | assumption | exact vp_in_clamp (x_inD hN (by assumption))) | exact hI.hi (by first | assumption | exact vp_in_clamp (x_inD hN (by assumption)))) | exact hX.2.1.2.1 _ (by first | assumption | exact vp_in_clamp (x_inD hN (by assumption))) | exact hX.2.1.2.2.1 _ (by first | assumption | exact vp_in_clamp (x_inK hN (by assumption))) | exact hX.2.1.2.2.2 _ (by first | assumption | exact vp_in_clamp (x_inG hN (by assumption)))) z_cls1 hu_X0 3 (by decide) wb_267 rfl rfl dX5_door_77 ?_
      exact z_iret C (by omega) (by omega) dX5_door_80 (by exact ⟨congrArg (fun z => some (Value.int z)) (by simp [F_door, *]), rfl⟩)
    by_cases hsw_3 : w = 3
    · subst hsw_3
      refine z_tableIn C 81 dX5_door_23 (by decide) (by decide) (by rfl) (by decide) ?_
      refine z_aload_n C dX5_door_81 rfl ?_
      refine z_get C (by first | exact hX.1.1 | exact hX.1.2.1 | exact hX.1.2.2.1 | exact hX.1.2.2.2 | exact hX.2.1.1 _ (by first | assumption | exact vp_in_clamp (x_inG hN (by assumption)) | exact vp_in_clamp (x_inD hN (by assumption)) | exact vp_in_clamp (x_inK hN (by assumption)) | exact vp_in_clamp (x_inR hN (by assumption)) | exact hI.rm (by first | assumption | exact vp_in_clamp (x_inG hN (by assumption))) | exact hI.lo (by first | assumption | exact vp_in_clamp (x_inD hN (by assumption))) | exact hI.hi (by first | assumption | exact vp_in_clamp (x_inD hN (by assumption)))) | exact hX.2.1.2.1 _ (by first | assumption | exact vp_in_clamp (x_inD hN (by assumption))) | exact hX.2.1.2.2.1 _ (by first | assumption | exact vp_in_clamp (x_inK hN (by assumption))) | exact hX.2.1.2.2.2 _ (by first | assumption | exact vp_in_clamp (x_inG hN (by assumption)))) z_cls1 hu_X0 5 (by decide) wb_273 rfl rfl dX5_door_82 ?_
      exact z_iret C (by omega) (by omega) dX5_door_85 (by exact ⟨congrArg (fun z => some (Value.int z)) (by simp [F_door, *]), rfl⟩)
    by_cases hsw_4 : w = 4
    · subst hsw_4
      refine z_tableIn C 86 dX5_door_23 (by decide) (by decide) (by rfl) (by decide) ?_
      refine z_aload_n C dX5_door_86 rfl ?_
      refine z_get C (by first | exact hX.1.1 | exact hX.1.2.1 | exact hX.1.2.2.1 | exact hX.1.2.2.2 | exact hX.2.1.1 _ (by first | assumption | exact vp_in_clamp (x_inG hN (by assumption)) | exact vp_in_clamp (x_inD hN (by assumption)) | exact vp_in_clamp (x_inK hN (by assumption)) | exact vp_in_clamp (x_inR hN (by assumption)) | exact hI.rm (by first | assumption | exact vp_in_clamp (x_inG hN (by assumption))) | exact hI.lo (by first | assumption | exact vp_in_clamp (x_inD hN (by assumption))) | exact hI.hi (by first | assumption | exact vp_in_clamp (x_inD hN (by assumption)))) | exact hX.2.1.2.1 _ (by first | assumption | exact vp_in_clamp (x_inD hN (by assumption))) | exact hX.2.1.2.2.1 _ (by first | assumption | exact vp_in_clamp (x_inK hN (by assumption))) | exact hX.2.1.2.2.2 _ (by first | assumption | exact vp_in_clamp (x_inG hN (by assumption)))) z_cls1 hu_X0 6 (by decide) wb_275 rfl rfl dX5_door_87 ?_
      exact z_iret C (by omega) (by omega) dX5_door_90 (by exact ⟨congrArg (fun z => some (Value.int z)) (by simp [F_door, *]), rfl⟩)
    by_cases hsw_5 : w = 5
    · subst hsw_5
      refine z_tableIn C 91 dX5_door_23 (by decide) (by decide) (by rfl) (by decide) ?_
      refine z_aload_n C dX5_door_91 rfl ?_
      refine z_get C (by first | exact hX.1.1 | exact hX.1.2.1 | exact hX.1.2.2.1 | exact hX.1.2.2.2 | exact hX.2.1.1 _ (by first | assumption | exact vp_in_clamp (x_inG hN (by assumption)) | exact vp_in_clamp (x_inD hN (by assumption)) | exact vp_in_clamp (x_inK hN (by assumption)) | exact vp_in_clamp (x_inR hN (by assumption)) | exact hI.rm (by first | assumption | exact vp_in_clamp (x_inG hN (by assumption))) | exact hI.lo (by first | assumption | exact vp_in_clamp (x_inD hN (by assumption))) | exact hI.hi (by first | assumption | exact vp_in_clamp (x_inD hN (by assumption)))) | exact hX.2.1.2.1 _ (by first | assumption | exact vp_in_clamp (x_inD hN (by assumption))) | exact hX.2.1.2.2.1 _ (by first | assumption | exact vp_in_clamp (x_inK hN (by assumption))) | exact hX.2.1.2.2.2 _ (by first | assumption | exact vp_in_clamp (x_inG hN (by assumption)))) z_cls1 hu_X0 8 (by decide) wb_281 rfl rfl dX5_door_92 ?_
      refine z_ifb_eq C 105 dX5_door_95 (by decide) (fun h95 => ?_) (fun h95 => ?_)
      · have hop := x_shut hI hdl (x_op_f h95)
        refine z_bipush (v := (-6)) C dX5_door_105 (by decide) ?_
        exact z_iret C (by omega) (by omega) dX5_door_107 (by exact ⟨congrArg (fun z => some (Value.int z)) (by simp [F_door, *]), rfl⟩)
      · have hop := x_ot_eq h95
        refine z_aload_n C dX5_door_98 rfl ?_
        refine z_get C (by first | exact hX.1.1 | exact hX.1.2.1 | exact hX.1.2.2.1 | exact hX.1.2.2.2 | exact hX.2.1.1 _ (by first | assumption | exact vp_in_clamp (x_inG hN (by assumption)) | exact vp_in_clamp (x_inD hN (by assumption)) | exact vp_in_clamp (x_inK hN (by assumption)) | exact vp_in_clamp (x_inR hN (by assumption)) | exact hI.rm (by first | assumption | exact vp_in_clamp (x_inG hN (by assumption))) | exact hI.lo (by first | assumption | exact vp_in_clamp (x_inD hN (by assumption))) | exact hI.hi (by first | assumption | exact vp_in_clamp (x_inD hN (by assumption)))) | exact hX.2.1.2.1 _ (by first | assumption | exact vp_in_clamp (x_inD hN (by assumption))) | exact hX.2.1.2.2.1 _ (by first | assumption | exact vp_in_clamp (x_inK hN (by assumption))) | exact hX.2.1.2.2.2 _ (by first | assumption | exact vp_in_clamp (x_inG hN (by assumption)))) z_cls1 hu_X0 9 (by decide) wb_283 rfl rfl dX5_door_99 ?_
        refine z_goto C 107 dX5_door_102 (by decide) ?_
        exact z_iret C (by omega) (by omega) dX5_door_107 (by exact ⟨congrArg (fun z => some (Value.int z)) (by simp [F_door, *]), rfl⟩)
    have hsq_0 : w.toInt ≠ 0 := fun q => hsw_0 (Int32.toInt_inj.mp q)
    have hsq_1 : w.toInt ≠ 1 := fun q => hsw_1 (Int32.toInt_inj.mp q)
    have hsq_2 : w.toInt ≠ 2 := fun q => hsw_2 (Int32.toInt_inj.mp q)
    have hsq_3 : w.toInt ≠ 3 := fun q => hsw_3 (Int32.toInt_inj.mp q)
    have hsq_4 : w.toInt ≠ 4 := fun q => hsw_4 (Int32.toInt_inj.mp q)
    have hsq_5 : w.toInt ≠ 5 := fun q => hsw_5 (Int32.toInt_inj.mp q)
    refine z_tableOut C 108 dX5_door_23 (by omega) (by decide) ?_
    refine z_bipush (v := (-2)) C dX5_door_108 (by decide) ?_
    exact z_iret C (by omega) (by omega) dX5_door_110 (by exact ⟨congrArg (fun z => some (Value.int z)) (by simp [F_door, *]), rfl⟩)
  · refine z_iconst (v := (-1)) C dX5_door_8 (by decide) ?_
    exact z_iret C (by omega) (by omega) dX5_door_9 (by exact ⟨congrArg (fun z => some (Value.int z)) (by simp [F_door, *]), rfl⟩)

set_option maxHeartbeats 4000000 in
set_option maxRecDepth 100000 in
theorem c_X5_key (l : Launch) (G : z_G) (ad : Nat → Nat → Nat) (M : m_S) (T : x_T) {nR nD nK nG : Nat} (hI : m_I nR nD nK nG M) (k w : Int32) : z_MR l yX5_key cX5_key 4 (some .int) 3 [.ref (ad 4 0), .int k, .int w] G (fun H => x_R G ad nR nD nK nG M T H) (.int (F_key M k w)) := by
  refine z_M.of (by decide +kernel) (Nat.le_of_ble_eq_true rfl) ?_
  intro p e s m below meth c C hP
  have hX : x_R G ad nR nD nK nG M T s.heap := hP
  have hN := hI.1
  have hR12 := hN.1.2; have hD16 := hN.2.1.2; have hK16 := hN.2.2.1.2; have hG6 := hN.2.2.2.2
  refine z_aload_n C dX5_key_0 rfl ?_
  refine z_iload_n C dX5_key_1 rfl ?_
  refine z_callVR (As := [.int _]) C (c_X5_isKey _ _ ad M T hI _) kc_X5_isKey wb_445 ⟨by decide, by decide⟩ (by first | exact hX.1.1 | exact hX.1.2.1 | exact hX.1.2.2.1 | exact hX.1.2.2.2 | exact hX.2.1.1 _ (by first | assumption | exact vp_in_clamp (x_inG hN (by assumption)) | exact vp_in_clamp (x_inD hN (by assumption)) | exact vp_in_clamp (x_inK hN (by assumption)) | exact vp_in_clamp (x_inR hN (by assumption)) | exact hI.rm (by first | assumption | exact vp_in_clamp (x_inG hN (by assumption))) | exact hI.lo (by first | assumption | exact vp_in_clamp (x_inD hN (by assumption))) | exact hI.hi (by first | assumption | exact vp_in_clamp (x_inD hN (by assumption)))) | exact hX.2.1.2.1 _ (by first | assumption | exact vp_in_clamp (x_inD hN (by assumption))) | exact hX.2.1.2.2.1 _ (by first | assumption | exact vp_in_clamp (x_inK hN (by assumption))) | exact hX.2.1.2.2.2 _ (by first | assumption | exact vp_in_clamp (x_inG hN (by assumption)))) rfl (hX) ⟨Nat.zero_le _, Nat.zero_le _⟩ (Nat.le_of_ble_eq_true rfl) dX5_key_2 ?_
  refine z_ifnb_ne C 10 dX5_key_5 (by decide) (fun h5 => ?_) (fun h5 => ?_)
  · have hkv := x_inK hN (r := k) (by assumption)
    have hkl : k.toNatClampNeg < nK := vp_in_clamp hkv
    refine z_aload_n C dX5_key_10 rfl ?_
    refine z_get C (by first | exact hX.1.1 | exact hX.1.2.1 | exact hX.1.2.2.1 | exact hX.1.2.2.2 | exact hX.2.1.1 _ (by first | assumption | exact vp_in_clamp (x_inG hN (by assumption)) | exact vp_in_clamp (x_inD hN (by assumption)) | exact vp_in_clamp (x_inK hN (by assumption)) | exact vp_in_clamp (x_inR hN (by assumption)) | exact hI.rm (by first | assumption | exact vp_in_clamp (x_inG hN (by assumption))) | exact hI.lo (by first | assumption | exact vp_in_clamp (x_inD hN (by assumption))) | exact hI.hi (by first | assumption | exact vp_in_clamp (x_inD hN (by assumption)))) | exact hX.2.1.2.1 _ (by first | assumption | exact vp_in_clamp (x_inD hN (by assumption))) | exact hX.2.1.2.2.1 _ (by first | assumption | exact vp_in_clamp (x_inK hN (by assumption))) | exact hX.2.1.2.2.2 _ (by first | assumption | exact vp_in_clamp (x_inG hN (by assumption)))) z_cls6 hu_X5 2 (by decide) wb_96 rfl rfl dX5_key_11 ?_
    refine z_iload_n C dX5_key_14 rfl ?_
    refine k_get C (by first | exact hX.2.2.1.1 | exact hX.2.2.1.2.1 | exact hX.2.2.1.2.2.1 | exact hX.2.2.1.2.2.2) (by first | assumption | exact x_inG hN (by assumption) | exact x_inD hN (by assumption) | exact x_inK hN (by assumption) | exact x_inR hN (by assumption)) (by omega) (by first | exact hcli | rfl) wb_222 ⟨by decide, by decide⟩ ⟨Nat.zero_le _, Nat.zero_le _⟩ (Nat.le_of_ble_eq_true rfl) dX5_key_15 ?_
    refine z_cast (q := (RX2, TX2, 6)) C (by first | exact hX.1.1 | exact hX.1.2.1 | exact hX.1.2.2.1 | exact hX.1.2.2.2 | exact hX.2.1.1 _ (by first | assumption | exact vp_in_clamp (x_inG hN (by assumption)) | exact vp_in_clamp (x_inD hN (by assumption)) | exact vp_in_clamp (x_inK hN (by assumption)) | exact vp_in_clamp (x_inR hN (by assumption)) | exact hI.rm (by first | assumption | exact vp_in_clamp (x_inG hN (by assumption))) | exact hI.lo (by first | assumption | exact vp_in_clamp (x_inD hN (by assumption))) | exact hI.hi (by first | assumption | exact vp_in_clamp (x_inD hN (by assumption)))) | exact hX.2.1.2.1 _ (by first | assumption | exact vp_in_clamp (x_inD hN (by assumption))) | exact hX.2.1.2.2.1 _ (by first | assumption | exact vp_in_clamp (x_inK hN (by assumption))) | exact hX.2.1.2.2.2 _ (by first | assumption | exact vp_in_clamp (x_inG hN (by assumption)))) rfl wb_320 dX5_key_18 ?_
    refine z_astore_n C dX5_key_21 (by decide) ?_
    refine z_iload_n C dX5_key_22 rfl ?_
    by_cases hsw_0 : w = 0
    · subst hsw_0
      refine z_tableIn C 56 dX5_key_23 (by decide) (by decide) (by rfl) (by decide) ?_
      refine z_aload_n C dX5_key_56 rfl ?_
      refine z_get C (by first | exact hX.1.1 | exact hX.1.2.1 | exact hX.1.2.2.1 | exact hX.1.2.2.2 | exact hX.2.1.1 _ (by first | assumption | exact vp_in_clamp (x_inG hN (by assumption)) | exact vp_in_clamp (x_inD hN (by assumption)) | exact vp_in_clamp (x_inK hN (by assumption)) | exact vp_in_clamp (x_inR hN (by assumption)) | exact hI.rm (by first | assumption | exact vp_in_clamp (x_inG hN (by assumption))) | exact hI.lo (by first | assumption | exact vp_in_clamp (x_inD hN (by assumption))) | exact hI.hi (by first | assumption | exact vp_in_clamp (x_inD hN (by assumption)))) | exact hX.2.1.2.1 _ (by first | assumption | exact vp_in_clamp (x_inD hN (by assumption))) | exact hX.2.1.2.2.1 _ (by first | assumption | exact vp_in_clamp (x_inK hN (by assumption))) | exact hX.2.1.2.2.2 _ (by first | assumption | exact vp_in_clamp (x_inG hN (by assumption)))) z_cls3 hu_X2 1 (by decide) wb_330 rfl rfl dX5_key_57 ?_
      exact z_iret C (by omega) (by omega) dX5_key_60 (by exact ⟨congrArg (fun z => some (Value.int z)) (by simp [F_key, *]), rfl⟩)
    by_cases hsw_1 : w = 1
    · subst hsw_1
      refine z_tableIn C 61 dX5_key_23 (by decide) (by decide) (by rfl) (by decide) ?_
      refine z_aload_n C dX5_key_61 rfl ?_
      refine z_callVR (As := []) C (c_X2_state _ _ _ _ _ _ _ _ _) kc_X2_state wb_596 ⟨by decide, by decide⟩ (by first | exact hX.1.1 | exact hX.1.2.1 | exact hX.1.2.2.1 | exact hX.1.2.2.2 | exact hX.2.1.1 _ (by first | assumption | exact vp_in_clamp (x_inG hN (by assumption)) | exact vp_in_clamp (x_inD hN (by assumption)) | exact vp_in_clamp (x_inK hN (by assumption)) | exact vp_in_clamp (x_inR hN (by assumption)) | exact hI.rm (by first | assumption | exact vp_in_clamp (x_inG hN (by assumption))) | exact hI.lo (by first | assumption | exact vp_in_clamp (x_inD hN (by assumption))) | exact hI.hi (by first | assumption | exact vp_in_clamp (x_inD hN (by assumption)))) | exact hX.2.1.2.1 _ (by first | assumption | exact vp_in_clamp (x_inD hN (by assumption))) | exact hX.2.1.2.2.1 _ (by first | assumption | exact vp_in_clamp (x_inK hN (by assumption))) | exact hX.2.1.2.2.2 _ (by first | assumption | exact vp_in_clamp (x_inG hN (by assumption)))) rfl (hX.2.1.2.2.1 _ (by first | assumption | exact vp_in_clamp (x_inK hN (by assumption)))) ⟨Nat.zero_le _, Nat.zero_le _⟩ (Nat.le_of_ble_eq_true rfl) dX5_key_62 ?_
      rw [x_state hI hkl]
      exact z_iret C (by omega) (by omega) dX5_key_65 (by exact ⟨congrArg (fun z => some (Value.int z)) (by simp [F_key, *]), rfl⟩)
    by_cases hsw_2 : w = 2
    · subst hsw_2
      refine z_tableIn C 66 dX5_key_23 (by decide) (by decide) (by rfl) (by decide) ?_
      refine z_aload_n C dX5_key_66 rfl ?_
      refine z_get C (by first | exact hX.1.1 | exact hX.1.2.1 | exact hX.1.2.2.1 | exact hX.1.2.2.2 | exact hX.2.1.1 _ (by first | assumption | exact vp_in_clamp (x_inG hN (by assumption)) | exact vp_in_clamp (x_inD hN (by assumption)) | exact vp_in_clamp (x_inK hN (by assumption)) | exact vp_in_clamp (x_inR hN (by assumption)) | exact hI.rm (by first | assumption | exact vp_in_clamp (x_inG hN (by assumption))) | exact hI.lo (by first | assumption | exact vp_in_clamp (x_inD hN (by assumption))) | exact hI.hi (by first | assumption | exact vp_in_clamp (x_inD hN (by assumption)))) | exact hX.2.1.2.1 _ (by first | assumption | exact vp_in_clamp (x_inD hN (by assumption))) | exact hX.2.1.2.2.1 _ (by first | assumption | exact vp_in_clamp (x_inK hN (by assumption))) | exact hX.2.1.2.2.2 _ (by first | assumption | exact vp_in_clamp (x_inG hN (by assumption)))) z_cls3 hu_X2 2 (by decide) wb_332 rfl rfl dX5_key_67 ?_
      refine z_ifnonnull C 78 dX5_key_70 (by decide) (fun a70 h70 => ?_) (fun h70 => ?_)
      · obtain ⟨q1, q2, q3, rfl, q4⟩ := x_kr_some hI hkl h70
        refine z_aload_n C dX5_key_78 rfl ?_
        refine z_get C (by first | exact hX.1.1 | exact hX.1.2.1 | exact hX.1.2.2.1 | exact hX.1.2.2.2 | exact hX.2.1.1 _ (by first | assumption | exact vp_in_clamp (x_inG hN (by assumption)) | exact vp_in_clamp (x_inD hN (by assumption)) | exact vp_in_clamp (x_inK hN (by assumption)) | exact vp_in_clamp (x_inR hN (by assumption)) | exact hI.rm (by first | assumption | exact vp_in_clamp (x_inG hN (by assumption))) | exact hI.lo (by first | assumption | exact vp_in_clamp (x_inD hN (by assumption))) | exact hI.hi (by first | assumption | exact vp_in_clamp (x_inD hN (by assumption)))) | exact hX.2.1.2.1 _ (by first | assumption | exact vp_in_clamp (x_inD hN (by assumption))) | exact hX.2.1.2.2.1 _ (by first | assumption | exact vp_in_clamp (x_inK hN (by assumption))) | exact hX.2.1.2.2.2 _ (by first | assumption | exact vp_in_clamp (x_inG hN (by assumption)))) z_cls3 hu_X2 2 (by decide) wb_332 rfl rfl dX5_key_79 ?_
        rw [h70]
        refine z_get C (by first | exact hX.1.1 | exact hX.1.2.1 | exact hX.1.2.2.1 | exact hX.1.2.2.2 | exact hX.2.1.1 _ (by first | assumption | exact vp_in_clamp (x_inG hN (by assumption)) | exact vp_in_clamp (x_inD hN (by assumption)) | exact vp_in_clamp (x_inK hN (by assumption)) | exact vp_in_clamp (x_inR hN (by assumption)) | exact hI.rm (by first | assumption | exact vp_in_clamp (x_inG hN (by assumption))) | exact hI.lo (by first | assumption | exact vp_in_clamp (x_inD hN (by assumption))) | exact hI.hi (by first | assumption | exact vp_in_clamp (x_inD hN (by assumption)))) | exact hX.2.1.2.1 _ (by first | assumption | exact vp_in_clamp (x_inD hN (by assumption))) | exact hX.2.1.2.2.1 _ (by first | assumption | exact vp_in_clamp (x_inK hN (by assumption))) | exact hX.2.1.2.2.2 _ (by first | assumption | exact vp_in_clamp (x_inG hN (by assumption)))) z_cls5 hu_X4 0 (by decide) wb_140 rfl rfl dX5_key_82 ?_
        exact z_iret C (by omega) (by omega) dX5_key_85 (by exact ⟨congrArg (fun z => some (Value.int z)) (by simp [F_key, *]), rfl⟩)
      · have q1 := x_kr_null h70
        refine z_bipush (v := (-6)) C dX5_key_73 (by decide) ?_
        refine z_goto C 85 dX5_key_75 (by decide) ?_
        exact z_iret C (by omega) (by omega) dX5_key_85 (by exact ⟨congrArg (fun z => some (Value.int z)) (by simp [F_key, *]), rfl⟩)
    by_cases hsw_3 : w = 3
    · subst hsw_3
      refine z_tableIn C 86 dX5_key_23 (by decide) (by decide) (by rfl) (by decide) ?_
      refine z_aload_n C dX5_key_86 rfl ?_
      refine z_get C (by first | exact hX.1.1 | exact hX.1.2.1 | exact hX.1.2.2.1 | exact hX.1.2.2.2 | exact hX.2.1.1 _ (by first | assumption | exact vp_in_clamp (x_inG hN (by assumption)) | exact vp_in_clamp (x_inD hN (by assumption)) | exact vp_in_clamp (x_inK hN (by assumption)) | exact vp_in_clamp (x_inR hN (by assumption)) | exact hI.rm (by first | assumption | exact vp_in_clamp (x_inG hN (by assumption))) | exact hI.lo (by first | assumption | exact vp_in_clamp (x_inD hN (by assumption))) | exact hI.hi (by first | assumption | exact vp_in_clamp (x_inD hN (by assumption)))) | exact hX.2.1.2.1 _ (by first | assumption | exact vp_in_clamp (x_inD hN (by assumption))) | exact hX.2.1.2.2.1 _ (by first | assumption | exact vp_in_clamp (x_inK hN (by assumption))) | exact hX.2.1.2.2.2 _ (by first | assumption | exact vp_in_clamp (x_inG hN (by assumption)))) z_cls3 hu_X2 4 (by decide) wb_336 rfl rfl dX5_key_87 ?_
      refine z_ifnonnull C 98 dX5_key_90 (by decide) (fun a90 h90 => ?_) (fun h90 => ?_)
      · obtain ⟨q1, q2, q3, rfl, q4⟩ := x_kh_some hI hkl h90
        refine z_aload_n C dX5_key_98 rfl ?_
        refine z_get C (by first | exact hX.1.1 | exact hX.1.2.1 | exact hX.1.2.2.1 | exact hX.1.2.2.2 | exact hX.2.1.1 _ (by first | assumption | exact vp_in_clamp (x_inG hN (by assumption)) | exact vp_in_clamp (x_inD hN (by assumption)) | exact vp_in_clamp (x_inK hN (by assumption)) | exact vp_in_clamp (x_inR hN (by assumption)) | exact hI.rm (by first | assumption | exact vp_in_clamp (x_inG hN (by assumption))) | exact hI.lo (by first | assumption | exact vp_in_clamp (x_inD hN (by assumption))) | exact hI.hi (by first | assumption | exact vp_in_clamp (x_inD hN (by assumption)))) | exact hX.2.1.2.1 _ (by first | assumption | exact vp_in_clamp (x_inD hN (by assumption))) | exact hX.2.1.2.2.1 _ (by first | assumption | exact vp_in_clamp (x_inK hN (by assumption))) | exact hX.2.1.2.2.2 _ (by first | assumption | exact vp_in_clamp (x_inG hN (by assumption)))) z_cls3 hu_X2 4 (by decide) wb_336 rfl rfl dX5_key_99 ?_
        rw [h90]
        refine z_get C (by first | exact hX.1.1 | exact hX.1.2.1 | exact hX.1.2.2.1 | exact hX.1.2.2.2 | exact hX.2.1.1 _ (by first | assumption | exact vp_in_clamp (x_inG hN (by assumption)) | exact vp_in_clamp (x_inD hN (by assumption)) | exact vp_in_clamp (x_inK hN (by assumption)) | exact vp_in_clamp (x_inR hN (by assumption)) | exact hI.rm (by first | assumption | exact vp_in_clamp (x_inG hN (by assumption))) | exact hI.lo (by first | assumption | exact vp_in_clamp (x_inD hN (by assumption))) | exact hI.hi (by first | assumption | exact vp_in_clamp (x_inD hN (by assumption)))) | exact hX.2.1.2.1 _ (by first | assumption | exact vp_in_clamp (x_inD hN (by assumption))) | exact hX.2.1.2.2.1 _ (by first | assumption | exact vp_in_clamp (x_inK hN (by assumption))) | exact hX.2.1.2.2.2 _ (by first | assumption | exact vp_in_clamp (x_inG hN (by assumption)))) z_cls2 hu_X1 0 (by decide) wb_367 rfl rfl dX5_key_102 ?_
        exact z_iret C (by omega) (by omega) dX5_key_105 (by exact ⟨congrArg (fun z => some (Value.int z)) (by simp [F_key, *]), rfl⟩)
      · have q1 := x_kh_null h90
        refine z_bipush (v := (-6)) C dX5_key_93 (by decide) ?_
        refine z_goto C 105 dX5_key_95 (by decide) ?_
        exact z_iret C (by omega) (by omega) dX5_key_105 (by exact ⟨congrArg (fun z => some (Value.int z)) (by simp [F_key, *]), rfl⟩)
    by_cases hsw_4 : w = 4
    · subst hsw_4
      refine z_tableIn C 106 dX5_key_23 (by decide) (by decide) (by rfl) (by decide) ?_
      refine z_aload_n C dX5_key_106 rfl ?_
      refine z_get C (by first | exact hX.1.1 | exact hX.1.2.1 | exact hX.1.2.2.1 | exact hX.1.2.2.2 | exact hX.2.1.1 _ (by first | assumption | exact vp_in_clamp (x_inG hN (by assumption)) | exact vp_in_clamp (x_inD hN (by assumption)) | exact vp_in_clamp (x_inK hN (by assumption)) | exact vp_in_clamp (x_inR hN (by assumption)) | exact hI.rm (by first | assumption | exact vp_in_clamp (x_inG hN (by assumption))) | exact hI.lo (by first | assumption | exact vp_in_clamp (x_inD hN (by assumption))) | exact hI.hi (by first | assumption | exact vp_in_clamp (x_inD hN (by assumption)))) | exact hX.2.1.2.1 _ (by first | assumption | exact vp_in_clamp (x_inD hN (by assumption))) | exact hX.2.1.2.2.1 _ (by first | assumption | exact vp_in_clamp (x_inK hN (by assumption))) | exact hX.2.1.2.2.2 _ (by first | assumption | exact vp_in_clamp (x_inG hN (by assumption)))) z_cls3 hu_X2 5 (by decide) wb_338 rfl rfl dX5_key_107 ?_
      refine z_ifnonnull C 118 dX5_key_110 (by decide) (fun a110 h110 => ?_) (fun h110 => ?_)
      · obtain ⟨q1, q2, q3, rfl, q4⟩ := x_ku_some hI hkl h110
        refine z_aload_n C dX5_key_118 rfl ?_
        refine z_get C (by first | exact hX.1.1 | exact hX.1.2.1 | exact hX.1.2.2.1 | exact hX.1.2.2.2 | exact hX.2.1.1 _ (by first | assumption | exact vp_in_clamp (x_inG hN (by assumption)) | exact vp_in_clamp (x_inD hN (by assumption)) | exact vp_in_clamp (x_inK hN (by assumption)) | exact vp_in_clamp (x_inR hN (by assumption)) | exact hI.rm (by first | assumption | exact vp_in_clamp (x_inG hN (by assumption))) | exact hI.lo (by first | assumption | exact vp_in_clamp (x_inD hN (by assumption))) | exact hI.hi (by first | assumption | exact vp_in_clamp (x_inD hN (by assumption)))) | exact hX.2.1.2.1 _ (by first | assumption | exact vp_in_clamp (x_inD hN (by assumption))) | exact hX.2.1.2.2.1 _ (by first | assumption | exact vp_in_clamp (x_inK hN (by assumption))) | exact hX.2.1.2.2.2 _ (by first | assumption | exact vp_in_clamp (x_inG hN (by assumption)))) z_cls3 hu_X2 5 (by decide) wb_338 rfl rfl dX5_key_119 ?_
        rw [h110]
        refine z_get C (by first | exact hX.1.1 | exact hX.1.2.1 | exact hX.1.2.2.1 | exact hX.1.2.2.2 | exact hX.2.1.1 _ (by first | assumption | exact vp_in_clamp (x_inG hN (by assumption)) | exact vp_in_clamp (x_inD hN (by assumption)) | exact vp_in_clamp (x_inK hN (by assumption)) | exact vp_in_clamp (x_inR hN (by assumption)) | exact hI.rm (by first | assumption | exact vp_in_clamp (x_inG hN (by assumption))) | exact hI.lo (by first | assumption | exact vp_in_clamp (x_inD hN (by assumption))) | exact hI.hi (by first | assumption | exact vp_in_clamp (x_inD hN (by assumption)))) | exact hX.2.1.2.1 _ (by first | assumption | exact vp_in_clamp (x_inD hN (by assumption))) | exact hX.2.1.2.2.1 _ (by first | assumption | exact vp_in_clamp (x_inK hN (by assumption))) | exact hX.2.1.2.2.2 _ (by first | assumption | exact vp_in_clamp (x_inG hN (by assumption)))) z_cls1 hu_X0 0 (by decide) wb_261 rfl rfl dX5_key_122 ?_
        exact z_iret C (by omega) (by omega) dX5_key_125 (by exact ⟨congrArg (fun z => some (Value.int z)) (by simp [F_key, *]), rfl⟩)
      · have q1 := x_ku_null h110
        refine z_bipush (v := (-6)) C dX5_key_113 (by decide) ?_
        refine z_goto C 125 dX5_key_115 (by decide) ?_
        exact z_iret C (by omega) (by omega) dX5_key_125 (by exact ⟨congrArg (fun z => some (Value.int z)) (by simp [F_key, *]), rfl⟩)
    have hsq_0 : w.toInt ≠ 0 := fun q => hsw_0 (Int32.toInt_inj.mp q)
    have hsq_1 : w.toInt ≠ 1 := fun q => hsw_1 (Int32.toInt_inj.mp q)
    have hsq_2 : w.toInt ≠ 2 := fun q => hsw_2 (Int32.toInt_inj.mp q)
    have hsq_3 : w.toInt ≠ 3 := fun q => hsw_3 (Int32.toInt_inj.mp q)
    have hsq_4 : w.toInt ≠ 4 := fun q => hsw_4 (Int32.toInt_inj.mp q)
    refine z_tableOut C 126 dX5_key_23 (by omega) (by decide) ?_
    refine z_bipush (v := (-2)) C dX5_key_126 (by decide) ?_
    exact z_iret C (by omega) (by omega) dX5_key_128 (by exact ⟨congrArg (fun z => some (Value.int z)) (by simp [F_key, *]), rfl⟩)
  · refine z_iconst (v := (-1)) C dX5_key_8 (by decide) ?_
    exact z_iret C (by omega) (by omega) dX5_key_9 (by exact ⟨congrArg (fun z => some (Value.int z)) (by simp [F_key, *]), rfl⟩)

set_option maxHeartbeats 4000000 in
set_option maxRecDepth 100000 in
theorem c_X5_group (l : Launch) (G : z_G) (ad : Nat → Nat → Nat) (M : m_S) (T : x_T) {nR nD nK nG : Nat} (hI : m_I nR nD nK nG M) (g w : Int32) : z_MR l yX5_group cX5_group 4 (some .int) 4 [.ref (ad 4 0), .int g, .int w] G (fun H => x_R G ad nR nD nK nG M T H) (.int (F_group M nK g w)) := by
  refine z_M.of (by decide +kernel) (Nat.le_of_ble_eq_true rfl) ?_
  intro p e s m below meth c C hP
  have hX : x_R G ad nR nD nK nG M T s.heap := hP
  have hN := hI.1
  have hR12 := hN.1.2; have hD16 := hN.2.1.2; have hK16 := hN.2.2.1.2; have hG6 := hN.2.2.2.2
  refine z_aload_n C dX5_group_0 rfl ?_
  refine z_iload_n C dX5_group_1 rfl ?_
  refine z_callVR (As := [.int _]) C (c_X5_isGroup _ _ ad M T hI _) kc_X5_isGroup wb_399 ⟨by decide, by decide⟩ (by first | exact hX.1.1 | exact hX.1.2.1 | exact hX.1.2.2.1 | exact hX.1.2.2.2 | exact hX.2.1.1 _ (by first | assumption | exact vp_in_clamp (x_inG hN (by assumption)) | exact vp_in_clamp (x_inD hN (by assumption)) | exact vp_in_clamp (x_inK hN (by assumption)) | exact vp_in_clamp (x_inR hN (by assumption)) | exact hI.rm (by first | assumption | exact vp_in_clamp (x_inG hN (by assumption))) | exact hI.lo (by first | assumption | exact vp_in_clamp (x_inD hN (by assumption))) | exact hI.hi (by first | assumption | exact vp_in_clamp (x_inD hN (by assumption)))) | exact hX.2.1.2.1 _ (by first | assumption | exact vp_in_clamp (x_inD hN (by assumption))) | exact hX.2.1.2.2.1 _ (by first | assumption | exact vp_in_clamp (x_inK hN (by assumption))) | exact hX.2.1.2.2.2 _ (by first | assumption | exact vp_in_clamp (x_inG hN (by assumption)))) rfl (hX) ⟨Nat.zero_le _, Nat.zero_le _⟩ (Nat.le_of_ble_eq_true rfl) dX5_group_2 ?_
  refine z_ifnb_ne C 10 dX5_group_5 (by decide) (fun h5 => ?_) (fun h5 => ?_)
  · have hgv := x_inG hN (r := g) (by assumption)
    have hgl : g.toNatClampNeg < nG := vp_in_clamp hgv
    have hgn : nI g.toNatClampNeg = g := nI_of_clamp hgv (by omega)
    have hn16 := x_n16 hI hgl
    refine z_aload_n C dX5_group_10 rfl ?_
    refine z_get C (by first | exact hX.1.1 | exact hX.1.2.1 | exact hX.1.2.2.1 | exact hX.1.2.2.2 | exact hX.2.1.1 _ (by first | assumption | exact vp_in_clamp (x_inG hN (by assumption)) | exact vp_in_clamp (x_inD hN (by assumption)) | exact vp_in_clamp (x_inK hN (by assumption)) | exact vp_in_clamp (x_inR hN (by assumption)) | exact hI.rm (by first | assumption | exact vp_in_clamp (x_inG hN (by assumption))) | exact hI.lo (by first | assumption | exact vp_in_clamp (x_inD hN (by assumption))) | exact hI.hi (by first | assumption | exact vp_in_clamp (x_inD hN (by assumption)))) | exact hX.2.1.2.1 _ (by first | assumption | exact vp_in_clamp (x_inD hN (by assumption))) | exact hX.2.1.2.2.1 _ (by first | assumption | exact vp_in_clamp (x_inK hN (by assumption))) | exact hX.2.1.2.2.2 _ (by first | assumption | exact vp_in_clamp (x_inG hN (by assumption)))) z_cls6 hu_X5 3 (by decide) wb_97 rfl rfl dX5_group_11 ?_
    refine z_iload_n C dX5_group_14 rfl ?_
    refine k_get C (by first | exact hX.2.2.1.1 | exact hX.2.2.1.2.1 | exact hX.2.2.1.2.2.1 | exact hX.2.2.1.2.2.2) (by first | assumption | exact x_inG hN (by assumption) | exact x_inD hN (by assumption) | exact x_inK hN (by assumption) | exact x_inR hN (by assumption)) (by omega) (by first | exact hcli | rfl) wb_222 ⟨by decide, by decide⟩ ⟨Nat.zero_le _, Nat.zero_le _⟩ (Nat.le_of_ble_eq_true rfl) dX5_group_15 ?_
    refine z_cast (q := (RX1, TX1, 6)) C (by first | exact hX.1.1 | exact hX.1.2.1 | exact hX.1.2.2.1 | exact hX.1.2.2.2 | exact hX.2.1.1 _ (by first | assumption | exact vp_in_clamp (x_inG hN (by assumption)) | exact vp_in_clamp (x_inD hN (by assumption)) | exact vp_in_clamp (x_inK hN (by assumption)) | exact vp_in_clamp (x_inR hN (by assumption)) | exact hI.rm (by first | assumption | exact vp_in_clamp (x_inG hN (by assumption))) | exact hI.lo (by first | assumption | exact vp_in_clamp (x_inD hN (by assumption))) | exact hI.hi (by first | assumption | exact vp_in_clamp (x_inD hN (by assumption)))) | exact hX.2.1.2.1 _ (by first | assumption | exact vp_in_clamp (x_inD hN (by assumption))) | exact hX.2.1.2.2.1 _ (by first | assumption | exact vp_in_clamp (x_inK hN (by assumption))) | exact hX.2.1.2.2.2 _ (by first | assumption | exact vp_in_clamp (x_inG hN (by assumption)))) rfl wb_360 dX5_group_18 ?_
    refine z_astore_n C dX5_group_21 (by decide) ?_
    refine z_iload_n C dX5_group_22 rfl ?_
    by_cases hsw_0 : w = 0
    · subst hsw_0
      refine z_tableIn C 60 dX5_group_23 (by decide) (by decide) (by rfl) (by decide) ?_
      refine z_aload_n C dX5_group_60 rfl ?_
      refine z_get C (by first | exact hX.1.1 | exact hX.1.2.1 | exact hX.1.2.2.1 | exact hX.1.2.2.2 | exact hX.2.1.1 _ (by first | assumption | exact vp_in_clamp (x_inG hN (by assumption)) | exact vp_in_clamp (x_inD hN (by assumption)) | exact vp_in_clamp (x_inK hN (by assumption)) | exact vp_in_clamp (x_inR hN (by assumption)) | exact hI.rm (by first | assumption | exact vp_in_clamp (x_inG hN (by assumption))) | exact hI.lo (by first | assumption | exact vp_in_clamp (x_inD hN (by assumption))) | exact hI.hi (by first | assumption | exact vp_in_clamp (x_inD hN (by assumption)))) | exact hX.2.1.2.1 _ (by first | assumption | exact vp_in_clamp (x_inD hN (by assumption))) | exact hX.2.1.2.2.1 _ (by first | assumption | exact vp_in_clamp (x_inK hN (by assumption))) | exact hX.2.1.2.2.2 _ (by first | assumption | exact vp_in_clamp (x_inG hN (by assumption)))) z_cls2 hu_X1 1 (by decide) wb_369 rfl rfl dX5_group_61 ?_
      exact z_iret C (by omega) (by omega) dX5_group_64 (by exact ⟨congrArg (fun z => some (Value.int z)) (by simp [F_group, *]), rfl⟩)
    by_cases hsw_1 : w = 1
    · subst hsw_1
      refine z_tableIn C 65 dX5_group_23 (by decide) (by decide) (by rfl) (by decide) ?_
      refine z_aload_n C dX5_group_65 rfl ?_
      refine z_get C (by first | exact hX.1.1 | exact hX.1.2.1 | exact hX.1.2.2.1 | exact hX.1.2.2.2 | exact hX.2.1.1 _ (by first | assumption | exact vp_in_clamp (x_inG hN (by assumption)) | exact vp_in_clamp (x_inD hN (by assumption)) | exact vp_in_clamp (x_inK hN (by assumption)) | exact vp_in_clamp (x_inR hN (by assumption)) | exact hI.rm (by first | assumption | exact vp_in_clamp (x_inG hN (by assumption))) | exact hI.lo (by first | assumption | exact vp_in_clamp (x_inD hN (by assumption))) | exact hI.hi (by first | assumption | exact vp_in_clamp (x_inD hN (by assumption)))) | exact hX.2.1.2.1 _ (by first | assumption | exact vp_in_clamp (x_inD hN (by assumption))) | exact hX.2.1.2.2.1 _ (by first | assumption | exact vp_in_clamp (x_inK hN (by assumption))) | exact hX.2.1.2.2.2 _ (by first | assumption | exact vp_in_clamp (x_inG hN (by assumption)))) z_cls2 hu_X1 2 (by decide) wb_372 rfl rfl dX5_group_66 ?_
      refine z_get C (by first | exact hX.1.1 | exact hX.1.2.1 | exact hX.1.2.2.1 | exact hX.1.2.2.2 | exact hX.2.1.1 _ (by first | assumption | exact vp_in_clamp (x_inG hN (by assumption)) | exact vp_in_clamp (x_inD hN (by assumption)) | exact vp_in_clamp (x_inK hN (by assumption)) | exact vp_in_clamp (x_inR hN (by assumption)) | exact hI.rm (by first | assumption | exact vp_in_clamp (x_inG hN (by assumption))) | exact hI.lo (by first | assumption | exact vp_in_clamp (x_inD hN (by assumption))) | exact hI.hi (by first | assumption | exact vp_in_clamp (x_inD hN (by assumption)))) | exact hX.2.1.2.1 _ (by first | assumption | exact vp_in_clamp (x_inD hN (by assumption))) | exact hX.2.1.2.2.1 _ (by first | assumption | exact vp_in_clamp (x_inK hN (by assumption))) | exact hX.2.1.2.2.2 _ (by first | assumption | exact vp_in_clamp (x_inG hN (by assumption)))) z_cls5 hu_X4 0 (by decide) wb_140 rfl rfl dX5_group_69 ?_
      exact z_iret C (by omega) (by omega) dX5_group_72 (by exact ⟨congrArg (fun z => some (Value.int z)) (by simp [F_group, *]), rfl⟩)
    by_cases hsw_2 : w = 2
    · subst hsw_2
      refine z_tableIn C 73 dX5_group_23 (by decide) (by decide) (by rfl) (by decide) ?_
      refine z_aload_n C dX5_group_73 rfl ?_
      refine z_get C (by first | exact hX.1.1 | exact hX.1.2.1 | exact hX.1.2.2.1 | exact hX.1.2.2.2 | exact hX.2.1.1 _ (by first | assumption | exact vp_in_clamp (x_inG hN (by assumption)) | exact vp_in_clamp (x_inD hN (by assumption)) | exact vp_in_clamp (x_inK hN (by assumption)) | exact vp_in_clamp (x_inR hN (by assumption)) | exact hI.rm (by first | assumption | exact vp_in_clamp (x_inG hN (by assumption))) | exact hI.lo (by first | assumption | exact vp_in_clamp (x_inD hN (by assumption))) | exact hI.hi (by first | assumption | exact vp_in_clamp (x_inD hN (by assumption)))) | exact hX.2.1.2.1 _ (by first | assumption | exact vp_in_clamp (x_inD hN (by assumption))) | exact hX.2.1.2.2.1 _ (by first | assumption | exact vp_in_clamp (x_inK hN (by assumption))) | exact hX.2.1.2.2.2 _ (by first | assumption | exact vp_in_clamp (x_inG hN (by assumption)))) z_cls2 hu_X1 3 (by decide) wb_374 rfl rfl dX5_group_74 ?_
      exact z_iret C (by omega) (by omega) dX5_group_77 (by exact ⟨congrArg (fun z => some (Value.int z)) (by simp [F_group, *]), rfl⟩)
    by_cases hsw_3 : w = 3
    · subst hsw_3
      refine z_tableIn C 78 dX5_group_23 (by decide) (by decide) (by rfl) (by decide) ?_
      refine z_aload_n C dX5_group_78 rfl ?_
      refine z_aload_n C dX5_group_79 rfl ?_
      refine z_callVR (As := [.ref _]) C (c_X5_keysHeldBy _ _ ad M T hI _ hgl) kc_X5_keysHeldBy wb_453 ⟨by decide, by decide⟩ (by first | exact hX.1.1 | exact hX.1.2.1 | exact hX.1.2.2.1 | exact hX.1.2.2.2 | exact hX.2.1.1 _ (by first | assumption | exact vp_in_clamp (x_inG hN (by assumption)) | exact vp_in_clamp (x_inD hN (by assumption)) | exact vp_in_clamp (x_inK hN (by assumption)) | exact vp_in_clamp (x_inR hN (by assumption)) | exact hI.rm (by first | assumption | exact vp_in_clamp (x_inG hN (by assumption))) | exact hI.lo (by first | assumption | exact vp_in_clamp (x_inD hN (by assumption))) | exact hI.hi (by first | assumption | exact vp_in_clamp (x_inD hN (by assumption)))) | exact hX.2.1.2.1 _ (by first | assumption | exact vp_in_clamp (x_inD hN (by assumption))) | exact hX.2.1.2.2.1 _ (by first | assumption | exact vp_in_clamp (x_inK hN (by assumption))) | exact hX.2.1.2.2.2 _ (by first | assumption | exact vp_in_clamp (x_inG hN (by assumption)))) rfl (hX) ⟨Nat.zero_le _, Nat.zero_le _⟩ (Nat.le_of_ble_eq_true rfl) dX5_group_80 ?_
      rw [hgn]
      exact z_iret C (by omega) (by omega) dX5_group_83 (by exact ⟨congrArg (fun z => some (Value.int z)) (by simp [F_group, *]), rfl⟩)
    by_cases hsw_4 : w = 4
    · subst hsw_4
      refine z_tableIn C 84 dX5_group_23 (by decide) (by decide) (by rfl) (by decide) ?_
      refine z_aload_n C dX5_group_84 rfl ?_
      refine z_get C (by first | exact hX.1.1 | exact hX.1.2.1 | exact hX.1.2.2.1 | exact hX.1.2.2.2 | exact hX.2.1.1 _ (by first | assumption | exact vp_in_clamp (x_inG hN (by assumption)) | exact vp_in_clamp (x_inD hN (by assumption)) | exact vp_in_clamp (x_inK hN (by assumption)) | exact vp_in_clamp (x_inR hN (by assumption)) | exact hI.rm (by first | assumption | exact vp_in_clamp (x_inG hN (by assumption))) | exact hI.lo (by first | assumption | exact vp_in_clamp (x_inD hN (by assumption))) | exact hI.hi (by first | assumption | exact vp_in_clamp (x_inD hN (by assumption)))) | exact hX.2.1.2.1 _ (by first | assumption | exact vp_in_clamp (x_inD hN (by assumption))) | exact hX.2.1.2.2.1 _ (by first | assumption | exact vp_in_clamp (x_inK hN (by assumption))) | exact hX.2.1.2.2.2 _ (by first | assumption | exact vp_in_clamp (x_inG hN (by assumption)))) z_cls2 hu_X1 4 (by decide) wb_375 rfl rfl dX5_group_85 ?_
      exact z_iret C (by omega) (by omega) dX5_group_88 (by exact ⟨congrArg (fun z => some (Value.int z)) (by simp [F_group, *]), rfl⟩)
    by_cases hsw_5 : w = 5
    · subst hsw_5
      refine z_tableIn C 89 dX5_group_23 (by decide) (by decide) (by rfl) (by decide) ?_
      refine z_aload_n C dX5_group_89 rfl ?_
      refine z_get C (by first | exact hX.1.1 | exact hX.1.2.1 | exact hX.1.2.2.1 | exact hX.1.2.2.2 | exact hX.2.1.1 _ (by first | assumption | exact vp_in_clamp (x_inG hN (by assumption)) | exact vp_in_clamp (x_inD hN (by assumption)) | exact vp_in_clamp (x_inK hN (by assumption)) | exact vp_in_clamp (x_inR hN (by assumption)) | exact hI.rm (by first | assumption | exact vp_in_clamp (x_inG hN (by assumption))) | exact hI.lo (by first | assumption | exact vp_in_clamp (x_inD hN (by assumption))) | exact hI.hi (by first | assumption | exact vp_in_clamp (x_inD hN (by assumption)))) | exact hX.2.1.2.1 _ (by first | assumption | exact vp_in_clamp (x_inD hN (by assumption))) | exact hX.2.1.2.2.1 _ (by first | assumption | exact vp_in_clamp (x_inK hN (by assumption))) | exact hX.2.1.2.2.2 _ (by first | assumption | exact vp_in_clamp (x_inG hN (by assumption)))) z_cls2 hu_X1 5 (by decide) wb_377 rfl rfl dX5_group_90 ?_
      exact z_iret C (by omega) (by omega) dX5_group_93 (by exact ⟨congrArg (fun z => some (Value.int z)) (by simp [F_group, *]), rfl⟩)
    have hsq_0 : w.toInt ≠ 0 := fun q => hsw_0 (Int32.toInt_inj.mp q)
    have hsq_1 : w.toInt ≠ 1 := fun q => hsw_1 (Int32.toInt_inj.mp q)
    have hsq_2 : w.toInt ≠ 2 := fun q => hsw_2 (Int32.toInt_inj.mp q)
    have hsq_3 : w.toInt ≠ 3 := fun q => hsw_3 (Int32.toInt_inj.mp q)
    have hsq_4 : w.toInt ≠ 4 := fun q => hsw_4 (Int32.toInt_inj.mp q)
    have hsq_5 : w.toInt ≠ 5 := fun q => hsw_5 (Int32.toInt_inj.mp q)
    refine z_tableOut C 94 dX5_group_23 (by omega) (by decide) ?_
    refine z_bipush (v := (-2)) C dX5_group_94 (by decide) ?_
    exact z_iret C (by omega) (by omega) dX5_group_96 (by exact ⟨congrArg (fun z => some (Value.int z)) (by simp [F_group, *]), rfl⟩)
  · refine z_iconst (v := (-1)) C dX5_group_8 (by decide) ?_
    exact z_iret C (by omega) (by omega) dX5_group_9 (by exact ⟨congrArg (fun z => some (Value.int z)) (by simp [F_group, *]), rfl⟩)

set_option maxHeartbeats 4000000 in
set_option maxRecDepth 100000 in
theorem c_X5_color (l : Launch) (G : z_G) (ad : Nat → Nat → Nat) (M : m_S) (T : x_T) {nR nD nK nG : Nat} (hI : m_I nR nD nK nG M) (c0 w : Int32) : z_MR l yX5_color cX5_color 3 (some .int) 4 [.ref (ad 4 0), .int c0, .int w] G (fun H => x_R G ad nR nD nK nG M T H) (.int (F_color M nD nK c0 w)) := by
  refine z_M.of (by decide +kernel) (Nat.le_of_ble_eq_true rfl) ?_
  intro p e s m below meth c C hP
  have hX : x_R G ad nR nD nK nG M T s.heap := hP
  have hN := hI.1
  have hR12 := hN.1.2; have hD16 := hN.2.1.2; have hK16 := hN.2.2.1.2; have hG6 := hN.2.2.2.2
  refine z_iload_n C dX5_color_0 rfl ?_
  refine z_callSR (As := [.int _]) C (c_X5_isColor _ _ _) kc_X5_isColor wb_309 ⟨by decide, by decide⟩ (trivial) ⟨Nat.zero_le _, Nat.zero_le _⟩ (Nat.le_of_ble_eq_true rfl) dX5_color_1 ?_
  refine z_ifb_ne C 10 dX5_color_4 (by decide) (fun h4 => ?_) (fun h4 => ?_)
  · refine z_iload_n C dX5_color_10 rfl ?_
    by_cases hsw_0 : w = 0
    · subst hsw_0
      refine z_lookup (off := 25) C 36 dX5_color_11 (by decide) (by rfl) (by decide) ?_
      refine z_aload_n C dX5_color_36 rfl ?_
      refine z_iload_n C dX5_color_37 rfl ?_
      refine z_callVR (As := [.int _]) C (c_X5_closedLocksOf _ _ ad M T hI _) kc_X5_closedLocksOf wb_608 ⟨by decide, by decide⟩ (by first | exact hX.1.1 | exact hX.1.2.1 | exact hX.1.2.2.1 | exact hX.1.2.2.2 | exact hX.2.1.1 _ (by first | assumption | exact vp_in_clamp (x_inG hN (by assumption)) | exact vp_in_clamp (x_inD hN (by assumption)) | exact vp_in_clamp (x_inK hN (by assumption)) | exact vp_in_clamp (x_inR hN (by assumption)) | exact hI.rm (by first | assumption | exact vp_in_clamp (x_inG hN (by assumption))) | exact hI.lo (by first | assumption | exact vp_in_clamp (x_inD hN (by assumption))) | exact hI.hi (by first | assumption | exact vp_in_clamp (x_inD hN (by assumption)))) | exact hX.2.1.2.1 _ (by first | assumption | exact vp_in_clamp (x_inD hN (by assumption))) | exact hX.2.1.2.2.1 _ (by first | assumption | exact vp_in_clamp (x_inK hN (by assumption))) | exact hX.2.1.2.2.2 _ (by first | assumption | exact vp_in_clamp (x_inG hN (by assumption)))) rfl (hX) ⟨Nat.zero_le _, Nat.zero_le _⟩ (Nat.le_of_ble_eq_true rfl) dX5_color_38 ?_
      exact z_iret C (by omega) (by omega) dX5_color_41 (by exact ⟨congrArg (fun z => some (Value.int z)) (by simp [F_color, m_in00, m_in11, *]), rfl⟩)
    by_cases hsw_1 : w = 1
    · subst hsw_1
      refine z_lookup (off := 31) C 42 dX5_color_11 (by decide) (by rfl) (by decide) ?_
      refine z_aload_n C dX5_color_42 rfl ?_
      refine z_iload_n C dX5_color_43 rfl ?_
      refine z_callVR (As := [.int _]) C (c_X5_keysLeftOf _ _ ad M T hI _) kc_X5_keysLeftOf wb_612 ⟨by decide, by decide⟩ (by first | exact hX.1.1 | exact hX.1.2.1 | exact hX.1.2.2.1 | exact hX.1.2.2.2 | exact hX.2.1.1 _ (by first | assumption | exact vp_in_clamp (x_inG hN (by assumption)) | exact vp_in_clamp (x_inD hN (by assumption)) | exact vp_in_clamp (x_inK hN (by assumption)) | exact vp_in_clamp (x_inR hN (by assumption)) | exact hI.rm (by first | assumption | exact vp_in_clamp (x_inG hN (by assumption))) | exact hI.lo (by first | assumption | exact vp_in_clamp (x_inD hN (by assumption))) | exact hI.hi (by first | assumption | exact vp_in_clamp (x_inD hN (by assumption)))) | exact hX.2.1.2.1 _ (by first | assumption | exact vp_in_clamp (x_inD hN (by assumption))) | exact hX.2.1.2.2.1 _ (by first | assumption | exact vp_in_clamp (x_inK hN (by assumption))) | exact hX.2.1.2.2.2 _ (by first | assumption | exact vp_in_clamp (x_inG hN (by assumption)))) rfl (hX) ⟨Nat.zero_le _, Nat.zero_le _⟩ (Nat.le_of_ble_eq_true rfl) dX5_color_44 ?_
      exact z_iret C (by omega) (by omega) dX5_color_47 (by exact ⟨congrArg (fun z => some (Value.int z)) (by simp [F_color, m_in00, m_in11, *]), rfl⟩)
    refine z_lookup (off := 37) C 48 dX5_color_11 (by decide) ((lv_osw hsw_0 rfl).trans ((lv_osw hsw_1 rfl).trans rfl)) (by decide) ?_
    refine z_bipush (v := (-2)) C dX5_color_48 (by decide) ?_
    exact z_iret C (by omega) (by omega) dX5_color_50 (by exact ⟨congrArg (fun z => some (Value.int z)) (m_color_w hsw_0 hsw_1).symm, rfl⟩)
  · refine z_bipush (v := (-2)) C dX5_color_7 (by decide) ?_
    exact z_iret C (by omega) (by omega) dX5_color_9 (by exact ⟨congrArg (fun z => some (Value.int z)) (by simp [F_color, m_in00, m_in11, *]), rfl⟩)

