set_option maxHeartbeats 4000000 in
set_option maxRecDepth 100000 in
theorem c_X6_in (l : Launch) (G : z_G) (v lo hi : Int32) : z_MR l yX6_in cX6_in 3 (some .boolean) 0 [.int v, .int lo, .int hi] G (fun H => True) (.int (z_b (m_in v lo hi))) := by
  refine z_M.of (by decide +kernel) (Nat.le_of_ble_eq_true rfl) ?_
  intro p e s m below meth c C hP
  refine z_iload_n C dX6_in_0 rfl ?_
  refine z_iload_n C dX6_in_1 rfl ?_
  refine z_icmp_lt C 14 dX6_in_2 (by decide) (fun h2 => ?_) (fun h2 => ?_)
  · refine z_iconst (v := 0) C dX6_in_14 (by decide) ?_
    exact z_bret C (by omega) (by omega) dX6_in_15 (by rfl) (by exact ⟨congrArg (fun z => some (Value.int z)) (by simp [z_b, m_in, *]), rfl⟩)
  · refine z_iload_n C dX6_in_5 rfl ?_
    refine z_iload_n C dX6_in_6 rfl ?_
    refine z_icmp_gt C 14 dX6_in_7 (by decide) (fun h7 => ?_) (fun h7 => ?_)
    · refine z_iconst (v := 0) C dX6_in_14 (by decide) ?_
      exact z_bret C (by omega) (by omega) dX6_in_15 (by rfl) (by exact ⟨congrArg (fun z => some (Value.int z)) (by simp [z_b, m_in, *]), rfl⟩)
    · refine z_iconst (v := 1) C dX6_in_10 (by decide) ?_
      refine z_goto C 15 dX6_in_11 (by decide) ?_
      exact z_bret C (by omega) (by omega) dX6_in_15 (by rfl) (by exact ⟨congrArg (fun z => some (Value.int z)) (by simp [z_b, m_in, *]), rfl⟩)

set_option maxHeartbeats 4000000 in
set_option maxRecDepth 100000 in
theorem c_X6_noRoom (l : Launch) (G : z_G) (ad : Nat → Nat) (M : m_S) (r : Int32) : z_MR l yX6_noRoom cX6_noRoom 2 (some .boolean) 1 [.ref (ad 0), .int r] G (fun H => m_R G ad M H) (.int (z_b (m_no r (M.1 0)))) := by
  refine z_M.of (by decide +kernel) (Nat.le_of_ble_eq_true rfl) ?_
  intro p e s m below meth c C hP
  have hM : m_R G ad M s.heap := hP
  refine z_iload_n C dX6_noRoom_0 rfl ?_
  refine z_iconst (v := 0) C dX6_noRoom_1 (by decide) ?_
  refine z_aload_n C dX6_noRoom_2 rfl ?_
  refine z_get C (by first | exact hM.1 | exact hM.2.1 _ rfl | exact hM.2.2.1 _ rfl) z_cls7 hu_X6 0 (by decide) wb_635 rfl rfl dX6_noRoom_3 ?_
  refine z_iconst (v := 1) C dX6_noRoom_6 (by decide) ?_
  refine z_isub C dX6_noRoom_7 ?_
  refine z_callSR (As := [.int _, .int _, .int _]) C (c_X6_in _ _ _ _ _) kc_X6_in wb_745 ⟨by decide, by decide⟩ (trivial) ⟨Nat.zero_le _, Nat.zero_le _⟩ (Nat.le_of_ble_eq_true rfl) dX6_noRoom_8 ?_
  refine z_ifb_ne C 18 dX6_noRoom_11 (by decide) (fun h11 => ?_) (fun h11 => ?_)
  · refine z_iconst (v := 0) C dX6_noRoom_18 (by decide) ?_
    exact z_bret C (by omega) (by omega) dX6_noRoom_19 (by rfl) (by exact ⟨congrArg (fun z => some (Value.int z)) (by simp [z_b, m_no, *]), rfl⟩)
  · refine z_iconst (v := 1) C dX6_noRoom_14 (by decide) ?_
    refine z_goto C 19 dX6_noRoom_15 (by decide) ?_
    exact z_bret C (by omega) (by omega) dX6_noRoom_19 (by rfl) (by exact ⟨congrArg (fun z => some (Value.int z)) (by simp [z_b, m_no, *]), rfl⟩)

set_option maxHeartbeats 4000000 in
set_option maxRecDepth 100000 in
theorem c_X6_noDoor (l : Launch) (G : z_G) (ad : Nat → Nat) (M : m_S) (r : Int32) : z_MR l yX6_noDoor cX6_noDoor 2 (some .boolean) 1 [.ref (ad 0), .int r] G (fun H => m_R G ad M H) (.int (z_b (m_no r (M.1 2)))) := by
  refine z_M.of (by decide +kernel) (Nat.le_of_ble_eq_true rfl) ?_
  intro p e s m below meth c C hP
  have hM : m_R G ad M s.heap := hP
  refine z_iload_n C dX6_noDoor_0 rfl ?_
  refine z_iconst (v := 0) C dX6_noDoor_1 (by decide) ?_
  refine z_aload_n C dX6_noDoor_2 rfl ?_
  refine z_get C (by first | exact hM.1 | exact hM.2.1 _ rfl | exact hM.2.2.1 _ rfl) z_cls7 hu_X6 2 (by decide) wb_637 rfl rfl dX6_noDoor_3 ?_
  refine z_iconst (v := 1) C dX6_noDoor_6 (by decide) ?_
  refine z_isub C dX6_noDoor_7 ?_
  refine z_callSR (As := [.int _, .int _, .int _]) C (c_X6_in _ _ _ _ _) kc_X6_in wb_745 ⟨by decide, by decide⟩ (trivial) ⟨Nat.zero_le _, Nat.zero_le _⟩ (Nat.le_of_ble_eq_true rfl) dX6_noDoor_8 ?_
  refine z_ifb_ne C 18 dX6_noDoor_11 (by decide) (fun h11 => ?_) (fun h11 => ?_)
  · refine z_iconst (v := 0) C dX6_noDoor_18 (by decide) ?_
    exact z_bret C (by omega) (by omega) dX6_noDoor_19 (by rfl) (by exact ⟨congrArg (fun z => some (Value.int z)) (by simp [z_b, m_no, *]), rfl⟩)
  · refine z_iconst (v := 1) C dX6_noDoor_14 (by decide) ?_
    refine z_goto C 19 dX6_noDoor_15 (by decide) ?_
    exact z_bret C (by omega) (by omega) dX6_noDoor_19 (by rfl) (by exact ⟨congrArg (fun z => some (Value.int z)) (by simp [z_b, m_no, *]), rfl⟩)

set_option maxHeartbeats 4000000 in
set_option maxRecDepth 100000 in
theorem c_X6_noKey (l : Launch) (G : z_G) (ad : Nat → Nat) (M : m_S) (r : Int32) : z_MR l yX6_noKey cX6_noKey 2 (some .boolean) 1 [.ref (ad 0), .int r] G (fun H => m_R G ad M H) (.int (z_b (m_no r (M.1 9)))) := by
  refine z_M.of (by decide +kernel) (Nat.le_of_ble_eq_true rfl) ?_
  intro p e s m below meth c C hP
  have hM : m_R G ad M s.heap := hP
  refine z_iload_n C dX6_noKey_0 rfl ?_
  refine z_iconst (v := 0) C dX6_noKey_1 (by decide) ?_
  refine z_aload_n C dX6_noKey_2 rfl ?_
  refine z_get C (by first | exact hM.1 | exact hM.2.1 _ rfl | exact hM.2.2.1 _ rfl) z_cls7 hu_X6 9 (by decide) wb_644 rfl rfl dX6_noKey_3 ?_
  refine z_iconst (v := 1) C dX6_noKey_6 (by decide) ?_
  refine z_isub C dX6_noKey_7 ?_
  refine z_callSR (As := [.int _, .int _, .int _]) C (c_X6_in _ _ _ _ _) kc_X6_in wb_745 ⟨by decide, by decide⟩ (trivial) ⟨Nat.zero_le _, Nat.zero_le _⟩ (Nat.le_of_ble_eq_true rfl) dX6_noKey_8 ?_
  refine z_ifb_ne C 18 dX6_noKey_11 (by decide) (fun h11 => ?_) (fun h11 => ?_)
  · refine z_iconst (v := 0) C dX6_noKey_18 (by decide) ?_
    exact z_bret C (by omega) (by omega) dX6_noKey_19 (by rfl) (by exact ⟨congrArg (fun z => some (Value.int z)) (by simp [z_b, m_no, *]), rfl⟩)
  · refine z_iconst (v := 1) C dX6_noKey_14 (by decide) ?_
    refine z_goto C 19 dX6_noKey_15 (by decide) ?_
    exact z_bret C (by omega) (by omega) dX6_noKey_19 (by rfl) (by exact ⟨congrArg (fun z => some (Value.int z)) (by simp [z_b, m_no, *]), rfl⟩)

set_option maxHeartbeats 4000000 in
set_option maxRecDepth 100000 in
theorem c_X6_noGroup (l : Launch) (G : z_G) (ad : Nat → Nat) (M : m_S) (r : Int32) : z_MR l yX6_noGroup cX6_noGroup 2 (some .boolean) 1 [.ref (ad 0), .int r] G (fun H => m_R G ad M H) (.int (z_b (m_no r (M.1 14)))) := by
  refine z_M.of (by decide +kernel) (Nat.le_of_ble_eq_true rfl) ?_
  intro p e s m below meth c C hP
  have hM : m_R G ad M s.heap := hP
  refine z_iload_n C dX6_noGroup_0 rfl ?_
  refine z_iconst (v := 0) C dX6_noGroup_1 (by decide) ?_
  refine z_aload_n C dX6_noGroup_2 rfl ?_
  refine z_get C (by first | exact hM.1 | exact hM.2.1 _ rfl | exact hM.2.2.1 _ rfl) z_cls7 hu_X6 14 (by decide) wb_649 rfl rfl dX6_noGroup_3 ?_
  refine z_iconst (v := 1) C dX6_noGroup_6 (by decide) ?_
  refine z_isub C dX6_noGroup_7 ?_
  refine z_callSR (As := [.int _, .int _, .int _]) C (c_X6_in _ _ _ _ _) kc_X6_in wb_745 ⟨by decide, by decide⟩ (trivial) ⟨Nat.zero_le _, Nat.zero_le _⟩ (Nat.le_of_ble_eq_true rfl) dX6_noGroup_8 ?_
  refine z_ifb_ne C 18 dX6_noGroup_11 (by decide) (fun h11 => ?_) (fun h11 => ?_)
  · refine z_iconst (v := 0) C dX6_noGroup_18 (by decide) ?_
    exact z_bret C (by omega) (by omega) dX6_noGroup_19 (by rfl) (by exact ⟨congrArg (fun z => some (Value.int z)) (by simp [z_b, m_no, *]), rfl⟩)
  · refine z_iconst (v := 1) C dX6_noGroup_14 (by decide) ?_
    refine z_goto C 19 dX6_noGroup_15 (by decide) ?_
    exact z_bret C (by omega) (by omega) dX6_noGroup_19 (by rfl) (by exact ⟨congrArg (fun z => some (Value.int z)) (by simp [z_b, m_no, *]), rfl⟩)

set_option maxHeartbeats 4000000 in
set_option maxRecDepth 100000 in
theorem c_X6_plays (l : Launch) (G : z_G) (ad : Nat → Nat) (M : m_S) (g : Int32) (hg : vp_in g 6) : z_MR l yX6_plays cX6_plays 2 (some .boolean) 0 [.ref (ad 0), .int g] G (fun H => m_R G ad M H) (.int (z_b (m_pl M g))) := by
  refine z_M.of (by decide +kernel) (Nat.le_of_ble_eq_true rfl) ?_
  intro p e s m below meth c C hP
  have hM : m_R G ad M s.heap := hP
  refine z_aload_n C dX6_plays_0 rfl ?_
  refine z_get C (by first | exact hM.1 | exact hM.2.1 _ rfl | exact hM.2.2.1 _ rfl) z_cls7 hu_X6 19 (by decide) wb_654 rfl rfl dX6_plays_1 ?_
  refine z_iload_n C dX6_plays_4 rfl ?_
  refine z_iald C (by first | exact hM.1 | exact hM.2.1 _ rfl | exact hM.2.2.1 _ rfl) (by assumption) (by rfl) dX6_plays_5 ?_
  refine z_if_ne C 13 dX6_plays_6 (by decide) (fun h6 => ?_) (fun h6 => ?_)
  · refine z_iconst (v := 0) C dX6_plays_13 (by decide) ?_
    exact z_bret C (by omega) (by omega) dX6_plays_14 (by rfl) (by exact ⟨congrArg (fun z => some (Value.int z)) (by simp [z_b, m_pl, *]), rfl⟩)
  · refine z_iconst (v := 1) C dX6_plays_9 (by decide) ?_
    refine z_goto C 14 dX6_plays_10 (by decide) ?_
    exact z_bret C (by omega) (by omega) dX6_plays_14 (by rfl) (by exact ⟨congrArg (fun z => some (Value.int z)) (by simp [z_b, m_pl, *]), rfl⟩)

set_option maxHeartbeats 4000000 in
set_option maxRecDepth 100000 in
theorem c_X6_isAt (l : Launch) (G : z_G) (ad : Nat → Nat) (M : m_S) (d r : Int32) (hd : vp_in d 16) : z_MR l yX6_isAt cX6_isAt 3 (some .boolean) 0 [.ref (ad 0), .int d, .int r] G (fun H => m_R G ad M H) (.int (z_b (m_at M d r))) := by
  refine z_M.of (by decide +kernel) (Nat.le_of_ble_eq_true rfl) ?_
  intro p e s m below meth c C hP
  have hM : m_R G ad M s.heap := hP
  refine z_aload_n C dX6_isAt_0 rfl ?_
  refine z_get C (by first | exact hM.1 | exact hM.2.1 _ rfl | exact hM.2.2.1 _ rfl) z_cls7 hu_X6 3 (by decide) wb_638 rfl rfl dX6_isAt_1 ?_
  refine z_iload_n C dX6_isAt_4 rfl ?_
  refine z_iald C (by first | exact hM.1 | exact hM.2.1 _ rfl | exact hM.2.2.1 _ rfl) (by assumption) (by rfl) dX6_isAt_5 ?_
  refine z_iload_n C dX6_isAt_6 rfl ?_
  refine z_icmp_eq C 20 dX6_isAt_7 (by decide) (fun h7 => ?_) (fun h7 => ?_)
  · refine z_iconst (v := 1) C dX6_isAt_20 (by decide) ?_
    refine z_goto C 25 dX6_isAt_21 (by decide) ?_
    exact z_bret C (by omega) (by omega) dX6_isAt_25 (by rfl) (by exact ⟨congrArg (fun z => some (Value.int z)) (by simp [z_b, m_at, *]), rfl⟩)
  · refine z_aload_n C dX6_isAt_10 rfl ?_
    refine z_get C (by first | exact hM.1 | exact hM.2.1 _ rfl | exact hM.2.2.1 _ rfl) z_cls7 hu_X6 4 (by decide) wb_639 rfl rfl dX6_isAt_11 ?_
    refine z_iload_n C dX6_isAt_14 rfl ?_
    refine z_iald C (by first | exact hM.1 | exact hM.2.1 _ rfl | exact hM.2.2.1 _ rfl) (by assumption) (by rfl) dX6_isAt_15 ?_
    refine z_iload_n C dX6_isAt_16 rfl ?_
    refine z_icmp_ne C 24 dX6_isAt_17 (by decide) (fun h17 => ?_) (fun h17 => ?_)
    · refine z_iconst (v := 0) C dX6_isAt_24 (by decide) ?_
      exact z_bret C (by omega) (by omega) dX6_isAt_25 (by rfl) (by exact ⟨congrArg (fun z => some (Value.int z)) (by simp [z_b, m_at, *]), rfl⟩)
    · refine z_iconst (v := 1) C dX6_isAt_20 (by decide) ?_
      refine z_goto C 25 dX6_isAt_21 (by decide) ?_
      exact z_bret C (by omega) (by omega) dX6_isAt_25 (by rfl) (by exact ⟨congrArg (fun z => some (Value.int z)) (by simp [z_b, m_at, *]), rfl⟩)

set_option maxHeartbeats 4000000 in
set_option maxRecDepth 100000 in
theorem c_X6_holds (l : Launch) (G : z_G) (ad : Nat → Nat) (M : m_S) (g k : Int32) (hk : vp_in k 16) : z_MR l yX6_holds cX6_holds 3 (some .boolean) 0 [.ref (ad 0), .int g, .int k] G (fun H => m_R G ad M H) (.int (z_b (m_ho M g k))) := by
  refine z_M.of (by decide +kernel) (Nat.le_of_ble_eq_true rfl) ?_
  intro p e s m below meth c C hP
  have hM : m_R G ad M s.heap := hP
  refine z_aload_n C dX6_holds_0 rfl ?_
  refine z_get C (by first | exact hM.1 | exact hM.2.1 _ rfl | exact hM.2.2.1 _ rfl) z_cls7 hu_X6 11 (by decide) wb_646 rfl rfl dX6_holds_1 ?_
  refine z_iload_n C dX6_holds_4 rfl ?_
  refine z_iald C (by first | exact hM.1 | exact hM.2.1 _ rfl | exact hM.2.2.1 _ rfl) (by assumption) (by rfl) dX6_holds_5 ?_
  refine z_iconst (v := 1) C dX6_holds_6 (by decide) ?_
  refine z_icmp_ne C 24 dX6_holds_7 (by decide) (fun h7 => ?_) (fun h7 => ?_)
  · refine z_iconst (v := 0) C dX6_holds_24 (by decide) ?_
    exact z_bret C (by omega) (by omega) dX6_holds_25 (by rfl) (by exact ⟨congrArg (fun z => some (Value.int z)) (by simp [z_b, m_ho, *]), rfl⟩)
  · refine z_aload_n C dX6_holds_10 rfl ?_
    refine z_get C (by first | exact hM.1 | exact hM.2.1 _ rfl | exact hM.2.2.1 _ rfl) z_cls7 hu_X6 12 (by decide) wb_647 rfl rfl dX6_holds_11 ?_
    refine z_iload_n C dX6_holds_14 rfl ?_
    refine z_iald C (by first | exact hM.1 | exact hM.2.1 _ rfl | exact hM.2.2.1 _ rfl) (by assumption) (by rfl) dX6_holds_15 ?_
    refine z_iload_n C dX6_holds_16 rfl ?_
    refine z_icmp_ne C 24 dX6_holds_17 (by decide) (fun h17 => ?_) (fun h17 => ?_)
    · refine z_iconst (v := 0) C dX6_holds_24 (by decide) ?_
      exact z_bret C (by omega) (by omega) dX6_holds_25 (by rfl) (by exact ⟨congrArg (fun z => some (Value.int z)) (by simp [z_b, m_ho, *]), rfl⟩)
    · refine z_iconst (v := 1) C dX6_holds_20 (by decide) ?_
      refine z_goto C 25 dX6_holds_21 (by decide) ?_
      exact z_bret C (by omega) (by omega) dX6_holds_25 (by rfl) (by exact ⟨congrArg (fun z => some (Value.int z)) (by simp [z_b, m_ho, *]), rfl⟩)

set_option maxHeartbeats 4000000 in
set_option maxRecDepth 100000 in
theorem c_X6_addRoom (l : Launch) (G : z_G) (ad : Nat → Nat) (M : m_S)  : z_M l yX6_addRoom cX6_addRoom 1 (some .int) 0 0 0 [.ref (ad 0)] G (fun H => m_R G ad M H) (m_A ad) ((fun v _ H => v = some (.int (F_addRoom M).1) ∧ m_R G ad (F_addRoom M).2 H)) := by
  refine z_M.of (by decide +kernel) (Nat.le_of_ble_eq_true rfl) ?_
  intro p e s m below meth c C hP
  have hM : m_R G ad M s.heap := hP
  refine z_aload_n C dX6_addRoom_0 rfl ?_
  refine z_get C (by first | exact hM.1 | exact hM.2.1 _ rfl | exact hM.2.2.1 _ rfl) z_cls7 hu_X6 0 (by decide) wb_635 rfl rfl dX6_addRoom_1 ?_
  refine z_bipush (v := 12) C dX6_addRoom_4 (by decide) ?_
  refine z_icmp_ne C 12 dX6_addRoom_6 (by decide) (fun h6 => ?_) (fun h6 => ?_)
  · refine z_aload_n C dX6_addRoom_12 rfl ?_
    refine z_dup C dX6_addRoom_13 rfl ?_
    refine z_get C (by first | exact hM.1 | exact hM.2.1 _ rfl | exact hM.2.2.1 _ rfl) z_cls7 hu_X6 0 (by decide) wb_635 rfl rfl dX6_addRoom_14 ?_
    refine z_iconst (v := 1) C dX6_addRoom_17 (by decide) ?_
    refine z_iadd C dX6_addRoom_18 ?_
    refine z_put C (by first | exact hM.1 | exact hM.2.1 _ rfl | exact hM.2.2.1 _ rfl) z_cls7 hu_X6 (by exact ⟨_, rfl, rfl⟩) 0 (by decide) wb_635 rfl rfl (by rfl) (by rfl) (Nat.le_of_ble_eq_true rfl) dX6_addRoom_19 (fun H19 hU19 => ?_)
    have hM := hM.sS hU19 rfl
    refine z_aload_n C dX6_addRoom_22 rfl ?_
    refine z_get C (by first | exact hM.1 | exact hM.2.1 _ rfl | exact hM.2.2.1 _ rfl) z_cls7 hu_X6 0 (by decide) wb_635 rfl rfl dX6_addRoom_23 ?_
    refine z_iconst (v := 1) C dX6_addRoom_26 (by decide) ?_
    refine z_isub C dX6_addRoom_27 ?_
    exact z_iret C (by omega) (by omega) dX6_addRoom_28 (by first | contradiction | skip; (try simp [m_sA1, m_sA2, m_sS1, m_sS2] at hM); simp [F_addRoom, m_later, m_sA1, m_sA2, m_sS1, m_sS2, *])
  · refine z_bipush (v := (-3)) C dX6_addRoom_9 (by decide) ?_
    exact z_iret C (by omega) (by omega) dX6_addRoom_11 (by first | contradiction | skip; (try simp [m_sA1, m_sA2, m_sS1, m_sS2] at hM); simp [F_addRoom, m_later, m_sA1, m_sA2, m_sS1, m_sS2, *])

set_option maxHeartbeats 4000000 in
set_option maxRecDepth 100000 in
theorem c_X6_setExit (l : Launch) (G : z_G) (ad : Nat → Nat) (M : m_S) (r : Int32) : z_M l yX6_setExit cX6_setExit 3 (some .int) 2 0 0 [.ref (ad 0), .int r] G (fun H => m_R G ad M H) (m_A ad) ((fun v _ H => v = some (.int (F_setExit M r).1) ∧ m_R G ad (F_setExit M r).2 H)) := by
  refine z_M.of (by decide +kernel) (Nat.le_of_ble_eq_true rfl) ?_
  intro p e s m below meth c C hP
  have hM : m_R G ad M s.heap := hP
  refine z_aload_n C dX6_setExit_0 rfl ?_
  refine z_iload_n C dX6_setExit_1 rfl ?_
  refine z_callVR (As := [.int _]) C (c_X6_noRoom _ _ ad M _) kc_X6_noRoom wb_741 ⟨by decide, by decide⟩ hM.1 rfl (hM) ⟨Nat.zero_le _, Nat.zero_le _⟩ (Nat.le_of_ble_eq_true rfl) dX6_setExit_2 ?_
  refine z_ifb_eq C 10 dX6_setExit_5 (by decide) (fun h5 => ?_) (fun h5 => ?_)
  · refine z_aload_n C dX6_setExit_10 rfl ?_
    refine z_get C (by first | exact hM.1 | exact hM.2.1 _ rfl | exact hM.2.2.1 _ rfl) z_cls7 hu_X6 1 (by decide) wb_636 rfl rfl dX6_setExit_11 ?_
    refine z_istore_n C dX6_setExit_14 (by decide) ?_
    refine z_aload_n C dX6_setExit_15 rfl ?_
    refine z_iload_n C dX6_setExit_16 rfl ?_
    refine z_put C (by first | exact hM.1 | exact hM.2.1 _ rfl | exact hM.2.2.1 _ rfl) z_cls7 hu_X6 (by exact ⟨_, rfl, rfl⟩) 1 (by decide) wb_636 rfl rfl (by rfl) (by rfl) (Nat.le_of_ble_eq_true rfl) dX6_setExit_17 (fun H17 hU17 => ?_)
    have hM := hM.sS hU17 rfl
    refine z_iload_n C dX6_setExit_20 rfl ?_
    exact z_iret C (by omega) (by omega) dX6_setExit_21 (by first | contradiction | skip; (try simp [m_sA1, m_sA2, m_sS1, m_sS2] at hM); simp [F_setExit, m_later, m_sA1, m_sA2, m_sS1, m_sS2, *])
  · refine z_iconst (v := (-1)) C dX6_setExit_8 (by decide) ?_
    exact z_iret C (by omega) (by omega) dX6_setExit_9 (by first | contradiction | skip; (try simp [m_sA1, m_sA2, m_sS1, m_sS2] at hM); simp [F_setExit, m_later, m_sA1, m_sA2, m_sS1, m_sS2, *])

set_option maxHeartbeats 4000000 in
set_option maxRecDepth 100000 in
theorem c_X6_putDoor (l : Launch) (G : z_G) (ad : Nat → Nat) (M : m_S) (a b w c0 u : Int32) (hd : vp_in (M.1 2) 16) : z_M l yX6_putDoor cX6_putDoor 6 (some .int) 0 0 0 [.ref (ad 0), .int a, .int b, .int w, .int c0, .int u] G (fun H => m_R G ad M H) (m_A ad) ((fun v _ H => v = some (.int (F_putDoor M a b w c0 u).1) ∧ m_R G ad (F_putDoor M a b w c0 u).2 H)) := by
  refine z_M.of (by decide +kernel) (Nat.le_of_ble_eq_true rfl) ?_
  intro p e s m below meth c C hP
  have hM : m_R G ad M s.heap := hP
  refine z_aload_n C dX6_putDoor_0 rfl ?_
  refine z_get C (by first | exact hM.1 | exact hM.2.1 _ rfl | exact hM.2.2.1 _ rfl) z_cls7 hu_X6 3 (by decide) wb_638 rfl rfl dX6_putDoor_1 ?_
  refine z_aload_n C dX6_putDoor_4 rfl ?_
  refine z_get C (by first | exact hM.1 | exact hM.2.1 _ rfl | exact hM.2.2.1 _ rfl) z_cls7 hu_X6 2 (by decide) wb_637 rfl rfl dX6_putDoor_5 ?_
  refine z_iload_n C dX6_putDoor_8 rfl ?_
  refine z_iload_n C dX6_putDoor_9 rfl ?_
  refine z_icmp_ge C 17 dX6_putDoor_10 (by decide) (fun h10 => ?_) (fun h10 => ?_)
  · refine z_iload_n C dX6_putDoor_17 rfl ?_
    refine z_iast C (by first | exact hM.1 | exact hM.2.1 _ rfl | exact hM.2.2.1 _ rfl) (by exact ⟨_, rfl, rfl⟩) (by exact hd) (by first | exact hcli | rfl) dX6_putDoor_18 (fun H18 hU18 => ?_)
    have hM := hM.sI hU18 rfl
    refine z_aload_n C dX6_putDoor_19 rfl ?_
    refine z_get C (by first | exact hM.1 | exact hM.2.1 _ rfl | exact hM.2.2.1 _ rfl) z_cls7 hu_X6 4 (by decide) wb_639 rfl rfl dX6_putDoor_20 ?_
    refine z_aload_n C dX6_putDoor_23 rfl ?_
    refine z_get C (by first | exact hM.1 | exact hM.2.1 _ rfl | exact hM.2.2.1 _ rfl) z_cls7 hu_X6 2 (by decide) wb_637 rfl rfl dX6_putDoor_24 ?_
    refine z_iload_n C dX6_putDoor_27 rfl ?_
    refine z_iload_n C dX6_putDoor_28 rfl ?_
    refine z_icmp_ge C 36 dX6_putDoor_29 (by decide) (fun h29 => ?_) (fun h29 => ?_)
    · refine z_iload_n C dX6_putDoor_36 rfl ?_
      refine z_iast C (by first | exact hM.1 | exact hM.2.1 _ rfl | exact hM.2.2.1 _ rfl) (by exact ⟨_, rfl, rfl⟩) (by exact hd) (by first | exact hcli | rfl) dX6_putDoor_37 (fun H37 hU37 => ?_)
      have hM := hM.sI hU37 rfl
      refine z_aload_n C dX6_putDoor_38 rfl ?_
      refine z_get C (by first | exact hM.1 | exact hM.2.1 _ rfl | exact hM.2.2.1 _ rfl) z_cls7 hu_X6 5 (by decide) wb_640 rfl rfl dX6_putDoor_39 ?_
      refine z_aload_n C dX6_putDoor_42 rfl ?_
      refine z_get C (by first | exact hM.1 | exact hM.2.1 _ rfl | exact hM.2.2.1 _ rfl) z_cls7 hu_X6 2 (by decide) wb_637 rfl rfl dX6_putDoor_43 ?_
      refine z_iload_n C dX6_putDoor_46 rfl ?_
      refine z_iast C (by first | exact hM.1 | exact hM.2.1 _ rfl | exact hM.2.2.1 _ rfl) (by exact ⟨_, rfl, rfl⟩) (by exact hd) (by first | exact hcli | rfl) dX6_putDoor_47 (fun H47 hU47 => ?_)
      have hM := hM.sI hU47 rfl
      refine z_aload_n C dX6_putDoor_48 rfl ?_
      refine z_get C (by first | exact hM.1 | exact hM.2.1 _ rfl | exact hM.2.2.1 _ rfl) z_cls7 hu_X6 6 (by decide) wb_641 rfl rfl dX6_putDoor_49 ?_
      refine z_aload_n C dX6_putDoor_52 rfl ?_
      refine z_get C (by first | exact hM.1 | exact hM.2.1 _ rfl | exact hM.2.2.1 _ rfl) z_cls7 hu_X6 2 (by decide) wb_637 rfl rfl dX6_putDoor_53 ?_
      refine z_iload C dX6_putDoor_56 rfl ?_
      refine z_iast C (by first | exact hM.1 | exact hM.2.1 _ rfl | exact hM.2.2.1 _ rfl) (by exact ⟨_, rfl, rfl⟩) (by exact hd) (by first | exact hcli | rfl) dX6_putDoor_58 (fun H58 hU58 => ?_)
      have hM := hM.sI hU58 rfl
      refine z_aload_n C dX6_putDoor_59 rfl ?_
      refine z_get C (by first | exact hM.1 | exact hM.2.1 _ rfl | exact hM.2.2.1 _ rfl) z_cls7 hu_X6 7 (by decide) wb_642 rfl rfl dX6_putDoor_60 ?_
      refine z_aload_n C dX6_putDoor_63 rfl ?_
      refine z_get C (by first | exact hM.1 | exact hM.2.1 _ rfl | exact hM.2.2.1 _ rfl) z_cls7 hu_X6 2 (by decide) wb_637 rfl rfl dX6_putDoor_64 ?_
      refine z_iload C dX6_putDoor_67 rfl ?_
      refine z_iast C (by first | exact hM.1 | exact hM.2.1 _ rfl | exact hM.2.2.1 _ rfl) (by exact ⟨_, rfl, rfl⟩) (by exact hd) (by first | exact hcli | rfl) dX6_putDoor_69 (fun H69 hU69 => ?_)
      have hM := hM.sI hU69 rfl
      refine z_aload_n C dX6_putDoor_70 rfl ?_
      refine z_get C (by first | exact hM.1 | exact hM.2.1 _ rfl | exact hM.2.2.1 _ rfl) z_cls7 hu_X6 8 (by decide) wb_643 rfl rfl dX6_putDoor_71 ?_
      refine z_aload_n C dX6_putDoor_74 rfl ?_
      refine z_get C (by first | exact hM.1 | exact hM.2.1 _ rfl | exact hM.2.2.1 _ rfl) z_cls7 hu_X6 2 (by decide) wb_637 rfl rfl dX6_putDoor_75 ?_
      refine z_iload C dX6_putDoor_78 rfl ?_
      refine z_if_ge C 87 dX6_putDoor_80 (by decide) (fun h80 => ?_) (fun h80 => ?_)
      · refine z_bipush (v := (-6)) C dX6_putDoor_87 (by decide) ?_
        refine z_iast C (by first | exact hM.1 | exact hM.2.1 _ rfl | exact hM.2.2.1 _ rfl) (by exact ⟨_, rfl, rfl⟩) (by exact hd) (by first | exact hcli | rfl) dX6_putDoor_89 (fun H89 hU89 => ?_)
        have hM := hM.sI hU89 rfl
        refine z_aload_n C dX6_putDoor_90 rfl ?_
        refine z_dup C dX6_putDoor_91 rfl ?_
        refine z_get C (by first | exact hM.1 | exact hM.2.1 _ rfl | exact hM.2.2.1 _ rfl) z_cls7 hu_X6 2 (by decide) wb_637 rfl rfl dX6_putDoor_92 ?_
        refine z_iconst (v := 1) C dX6_putDoor_95 (by decide) ?_
        refine z_iadd C dX6_putDoor_96 ?_
        refine z_put C (by first | exact hM.1 | exact hM.2.1 _ rfl | exact hM.2.2.1 _ rfl) z_cls7 hu_X6 (by exact ⟨_, rfl, rfl⟩) 2 (by decide) wb_637 rfl rfl (by rfl) (by rfl) (Nat.le_of_ble_eq_true rfl) dX6_putDoor_97 (fun H97 hU97 => ?_)
        have hM := hM.sS hU97 rfl
        refine z_aload_n C dX6_putDoor_100 rfl ?_
        refine z_get C (by first | exact hM.1 | exact hM.2.1 _ rfl | exact hM.2.2.1 _ rfl) z_cls7 hu_X6 2 (by decide) wb_637 rfl rfl dX6_putDoor_101 ?_
        refine z_iconst (v := 1) C dX6_putDoor_104 (by decide) ?_
        refine z_isub C dX6_putDoor_105 ?_
        exact z_iret C (by omega) (by omega) dX6_putDoor_106 (by first | contradiction | skip; (try simp [m_sA1, m_sA2, m_sS1, m_sS2] at hM); simp [F_putDoor, m_later, m_sA1, m_sA2, m_sS1, m_sS2, *])
      · refine z_iconst (v := 0) C dX6_putDoor_83 (by decide) ?_
        refine z_goto C 89 dX6_putDoor_84 (by decide) ?_
        refine z_iast C (by first | exact hM.1 | exact hM.2.1 _ rfl | exact hM.2.2.1 _ rfl) (by exact ⟨_, rfl, rfl⟩) (by exact hd) (by first | exact hcli | rfl) dX6_putDoor_89 (fun H89 hU89 => ?_)
        have hM := hM.sI hU89 rfl
        refine z_aload_n C dX6_putDoor_90 rfl ?_
        refine z_dup C dX6_putDoor_91 rfl ?_
        refine z_get C (by first | exact hM.1 | exact hM.2.1 _ rfl | exact hM.2.2.1 _ rfl) z_cls7 hu_X6 2 (by decide) wb_637 rfl rfl dX6_putDoor_92 ?_
        refine z_iconst (v := 1) C dX6_putDoor_95 (by decide) ?_
        refine z_iadd C dX6_putDoor_96 ?_
        refine z_put C (by first | exact hM.1 | exact hM.2.1 _ rfl | exact hM.2.2.1 _ rfl) z_cls7 hu_X6 (by exact ⟨_, rfl, rfl⟩) 2 (by decide) wb_637 rfl rfl (by rfl) (by rfl) (Nat.le_of_ble_eq_true rfl) dX6_putDoor_97 (fun H97 hU97 => ?_)
        have hM := hM.sS hU97 rfl
        refine z_aload_n C dX6_putDoor_100 rfl ?_
        refine z_get C (by first | exact hM.1 | exact hM.2.1 _ rfl | exact hM.2.2.1 _ rfl) z_cls7 hu_X6 2 (by decide) wb_637 rfl rfl dX6_putDoor_101 ?_
        refine z_iconst (v := 1) C dX6_putDoor_104 (by decide) ?_
        refine z_isub C dX6_putDoor_105 ?_
        exact z_iret C (by omega) (by omega) dX6_putDoor_106 (by first | contradiction | skip; (try simp [m_sA1, m_sA2, m_sS1, m_sS2] at hM); simp [F_putDoor, m_later, m_sA1, m_sA2, m_sS1, m_sS2, *])
    · refine z_iload_n C dX6_putDoor_32 rfl ?_
      refine z_goto C 37 dX6_putDoor_33 (by decide) ?_
      refine z_iast C (by first | exact hM.1 | exact hM.2.1 _ rfl | exact hM.2.2.1 _ rfl) (by exact ⟨_, rfl, rfl⟩) (by exact hd) (by first | exact hcli | rfl) dX6_putDoor_37 (fun H37 hU37 => ?_)
      have hM := hM.sI hU37 rfl
      refine z_aload_n C dX6_putDoor_38 rfl ?_
      refine z_get C (by first | exact hM.1 | exact hM.2.1 _ rfl | exact hM.2.2.1 _ rfl) z_cls7 hu_X6 5 (by decide) wb_640 rfl rfl dX6_putDoor_39 ?_
      refine z_aload_n C dX6_putDoor_42 rfl ?_
      refine z_get C (by first | exact hM.1 | exact hM.2.1 _ rfl | exact hM.2.2.1 _ rfl) z_cls7 hu_X6 2 (by decide) wb_637 rfl rfl dX6_putDoor_43 ?_
      refine z_iload_n C dX6_putDoor_46 rfl ?_
      refine z_iast C (by first | exact hM.1 | exact hM.2.1 _ rfl | exact hM.2.2.1 _ rfl) (by exact ⟨_, rfl, rfl⟩) (by exact hd) (by first | exact hcli | rfl) dX6_putDoor_47 (fun H47 hU47 => ?_)
      have hM := hM.sI hU47 rfl
      refine z_aload_n C dX6_putDoor_48 rfl ?_
      refine z_get C (by first | exact hM.1 | exact hM.2.1 _ rfl | exact hM.2.2.1 _ rfl) z_cls7 hu_X6 6 (by decide) wb_641 rfl rfl dX6_putDoor_49 ?_
      refine z_aload_n C dX6_putDoor_52 rfl ?_
      refine z_get C (by first | exact hM.1 | exact hM.2.1 _ rfl | exact hM.2.2.1 _ rfl) z_cls7 hu_X6 2 (by decide) wb_637 rfl rfl dX6_putDoor_53 ?_
      refine z_iload C dX6_putDoor_56 rfl ?_
      refine z_iast C (by first | exact hM.1 | exact hM.2.1 _ rfl | exact hM.2.2.1 _ rfl) (by exact ⟨_, rfl, rfl⟩) (by exact hd) (by first | exact hcli | rfl) dX6_putDoor_58 (fun H58 hU58 => ?_)
      have hM := hM.sI hU58 rfl
      refine z_aload_n C dX6_putDoor_59 rfl ?_
      refine z_get C (by first | exact hM.1 | exact hM.2.1 _ rfl | exact hM.2.2.1 _ rfl) z_cls7 hu_X6 7 (by decide) wb_642 rfl rfl dX6_putDoor_60 ?_
      refine z_aload_n C dX6_putDoor_63 rfl ?_
      refine z_get C (by first | exact hM.1 | exact hM.2.1 _ rfl | exact hM.2.2.1 _ rfl) z_cls7 hu_X6 2 (by decide) wb_637 rfl rfl dX6_putDoor_64 ?_
      refine z_iload C dX6_putDoor_67 rfl ?_
      refine z_iast C (by first | exact hM.1 | exact hM.2.1 _ rfl | exact hM.2.2.1 _ rfl) (by exact ⟨_, rfl, rfl⟩) (by exact hd) (by first | exact hcli | rfl) dX6_putDoor_69 (fun H69 hU69 => ?_)
      have hM := hM.sI hU69 rfl
      refine z_aload_n C dX6_putDoor_70 rfl ?_
      refine z_get C (by first | exact hM.1 | exact hM.2.1 _ rfl | exact hM.2.2.1 _ rfl) z_cls7 hu_X6 8 (by decide) wb_643 rfl rfl dX6_putDoor_71 ?_
      refine z_aload_n C dX6_putDoor_74 rfl ?_
      refine z_get C (by first | exact hM.1 | exact hM.2.1 _ rfl | exact hM.2.2.1 _ rfl) z_cls7 hu_X6 2 (by decide) wb_637 rfl rfl dX6_putDoor_75 ?_
      refine z_iload C dX6_putDoor_78 rfl ?_
      refine z_if_ge C 87 dX6_putDoor_80 (by decide) (fun h80 => ?_) (fun h80 => ?_)
      · refine z_bipush (v := (-6)) C dX6_putDoor_87 (by decide) ?_
        refine z_iast C (by first | exact hM.1 | exact hM.2.1 _ rfl | exact hM.2.2.1 _ rfl) (by exact ⟨_, rfl, rfl⟩) (by exact hd) (by first | exact hcli | rfl) dX6_putDoor_89 (fun H89 hU89 => ?_)
        have hM := hM.sI hU89 rfl
        refine z_aload_n C dX6_putDoor_90 rfl ?_
        refine z_dup C dX6_putDoor_91 rfl ?_
        refine z_get C (by first | exact hM.1 | exact hM.2.1 _ rfl | exact hM.2.2.1 _ rfl) z_cls7 hu_X6 2 (by decide) wb_637 rfl rfl dX6_putDoor_92 ?_
        refine z_iconst (v := 1) C dX6_putDoor_95 (by decide) ?_
        refine z_iadd C dX6_putDoor_96 ?_
        refine z_put C (by first | exact hM.1 | exact hM.2.1 _ rfl | exact hM.2.2.1 _ rfl) z_cls7 hu_X6 (by exact ⟨_, rfl, rfl⟩) 2 (by decide) wb_637 rfl rfl (by rfl) (by rfl) (Nat.le_of_ble_eq_true rfl) dX6_putDoor_97 (fun H97 hU97 => ?_)
        have hM := hM.sS hU97 rfl
        refine z_aload_n C dX6_putDoor_100 rfl ?_
        refine z_get C (by first | exact hM.1 | exact hM.2.1 _ rfl | exact hM.2.2.1 _ rfl) z_cls7 hu_X6 2 (by decide) wb_637 rfl rfl dX6_putDoor_101 ?_
        refine z_iconst (v := 1) C dX6_putDoor_104 (by decide) ?_
        refine z_isub C dX6_putDoor_105 ?_
        exact z_iret C (by omega) (by omega) dX6_putDoor_106 (by first | contradiction | skip; (try simp [m_sA1, m_sA2, m_sS1, m_sS2] at hM); simp [F_putDoor, m_later, m_sA1, m_sA2, m_sS1, m_sS2, *])
      · refine z_iconst (v := 0) C dX6_putDoor_83 (by decide) ?_
        refine z_goto C 89 dX6_putDoor_84 (by decide) ?_
        refine z_iast C (by first | exact hM.1 | exact hM.2.1 _ rfl | exact hM.2.2.1 _ rfl) (by exact ⟨_, rfl, rfl⟩) (by exact hd) (by first | exact hcli | rfl) dX6_putDoor_89 (fun H89 hU89 => ?_)
        have hM := hM.sI hU89 rfl
        refine z_aload_n C dX6_putDoor_90 rfl ?_
        refine z_dup C dX6_putDoor_91 rfl ?_
        refine z_get C (by first | exact hM.1 | exact hM.2.1 _ rfl | exact hM.2.2.1 _ rfl) z_cls7 hu_X6 2 (by decide) wb_637 rfl rfl dX6_putDoor_92 ?_
        refine z_iconst (v := 1) C dX6_putDoor_95 (by decide) ?_
        refine z_iadd C dX6_putDoor_96 ?_
        refine z_put C (by first | exact hM.1 | exact hM.2.1 _ rfl | exact hM.2.2.1 _ rfl) z_cls7 hu_X6 (by exact ⟨_, rfl, rfl⟩) 2 (by decide) wb_637 rfl rfl (by rfl) (by rfl) (Nat.le_of_ble_eq_true rfl) dX6_putDoor_97 (fun H97 hU97 => ?_)
        have hM := hM.sS hU97 rfl
        refine z_aload_n C dX6_putDoor_100 rfl ?_
        refine z_get C (by first | exact hM.1 | exact hM.2.1 _ rfl | exact hM.2.2.1 _ rfl) z_cls7 hu_X6 2 (by decide) wb_637 rfl rfl dX6_putDoor_101 ?_
        refine z_iconst (v := 1) C dX6_putDoor_104 (by decide) ?_
        refine z_isub C dX6_putDoor_105 ?_
        exact z_iret C (by omega) (by omega) dX6_putDoor_106 (by first | contradiction | skip; (try simp [m_sA1, m_sA2, m_sS1, m_sS2] at hM); simp [F_putDoor, m_later, m_sA1, m_sA2, m_sS1, m_sS2, *])
  · refine z_iload_n C dX6_putDoor_13 rfl ?_
    refine z_goto C 18 dX6_putDoor_14 (by decide) ?_
    refine z_iast C (by first | exact hM.1 | exact hM.2.1 _ rfl | exact hM.2.2.1 _ rfl) (by exact ⟨_, rfl, rfl⟩) (by exact hd) (by first | exact hcli | rfl) dX6_putDoor_18 (fun H18 hU18 => ?_)
    have hM := hM.sI hU18 rfl
    refine z_aload_n C dX6_putDoor_19 rfl ?_
    refine z_get C (by first | exact hM.1 | exact hM.2.1 _ rfl | exact hM.2.2.1 _ rfl) z_cls7 hu_X6 4 (by decide) wb_639 rfl rfl dX6_putDoor_20 ?_
    refine z_aload_n C dX6_putDoor_23 rfl ?_
    refine z_get C (by first | exact hM.1 | exact hM.2.1 _ rfl | exact hM.2.2.1 _ rfl) z_cls7 hu_X6 2 (by decide) wb_637 rfl rfl dX6_putDoor_24 ?_
    refine z_iload_n C dX6_putDoor_27 rfl ?_
    refine z_iload_n C dX6_putDoor_28 rfl ?_
    refine z_icmp_ge C 36 dX6_putDoor_29 (by decide) (fun h29 => ?_) (fun h29 => ?_)
    · refine z_iload_n C dX6_putDoor_36 rfl ?_
      refine z_iast C (by first | exact hM.1 | exact hM.2.1 _ rfl | exact hM.2.2.1 _ rfl) (by exact ⟨_, rfl, rfl⟩) (by exact hd) (by first | exact hcli | rfl) dX6_putDoor_37 (fun H37 hU37 => ?_)
      have hM := hM.sI hU37 rfl
      refine z_aload_n C dX6_putDoor_38 rfl ?_
      refine z_get C (by first | exact hM.1 | exact hM.2.1 _ rfl | exact hM.2.2.1 _ rfl) z_cls7 hu_X6 5 (by decide) wb_640 rfl rfl dX6_putDoor_39 ?_
      refine z_aload_n C dX6_putDoor_42 rfl ?_
      refine z_get C (by first | exact hM.1 | exact hM.2.1 _ rfl | exact hM.2.2.1 _ rfl) z_cls7 hu_X6 2 (by decide) wb_637 rfl rfl dX6_putDoor_43 ?_
      refine z_iload_n C dX6_putDoor_46 rfl ?_
      refine z_iast C (by first | exact hM.1 | exact hM.2.1 _ rfl | exact hM.2.2.1 _ rfl) (by exact ⟨_, rfl, rfl⟩) (by exact hd) (by first | exact hcli | rfl) dX6_putDoor_47 (fun H47 hU47 => ?_)
      have hM := hM.sI hU47 rfl
      refine z_aload_n C dX6_putDoor_48 rfl ?_
      refine z_get C (by first | exact hM.1 | exact hM.2.1 _ rfl | exact hM.2.2.1 _ rfl) z_cls7 hu_X6 6 (by decide) wb_641 rfl rfl dX6_putDoor_49 ?_
      refine z_aload_n C dX6_putDoor_52 rfl ?_
      refine z_get C (by first | exact hM.1 | exact hM.2.1 _ rfl | exact hM.2.2.1 _ rfl) z_cls7 hu_X6 2 (by decide) wb_637 rfl rfl dX6_putDoor_53 ?_
      refine z_iload C dX6_putDoor_56 rfl ?_
      refine z_iast C (by first | exact hM.1 | exact hM.2.1 _ rfl | exact hM.2.2.1 _ rfl) (by exact ⟨_, rfl, rfl⟩) (by exact hd) (by first | exact hcli | rfl) dX6_putDoor_58 (fun H58 hU58 => ?_)
      have hM := hM.sI hU58 rfl
      refine z_aload_n C dX6_putDoor_59 rfl ?_
      refine z_get C (by first | exact hM.1 | exact hM.2.1 _ rfl | exact hM.2.2.1 _ rfl) z_cls7 hu_X6 7 (by decide) wb_642 rfl rfl dX6_putDoor_60 ?_
      refine z_aload_n C dX6_putDoor_63 rfl ?_
      refine z_get C (by first | exact hM.1 | exact hM.2.1 _ rfl | exact hM.2.2.1 _ rfl) z_cls7 hu_X6 2 (by decide) wb_637 rfl rfl dX6_putDoor_64 ?_
      refine z_iload C dX6_putDoor_67 rfl ?_
      refine z_iast C (by first | exact hM.1 | exact hM.2.1 _ rfl | exact hM.2.2.1 _ rfl) (by exact ⟨_, rfl, rfl⟩) (by exact hd) (by first | exact hcli | rfl) dX6_putDoor_69 (fun H69 hU69 => ?_)
      have hM := hM.sI hU69 rfl
      refine z_aload_n C dX6_putDoor_70 rfl ?_
      refine z_get C (by first | exact hM.1 | exact hM.2.1 _ rfl | exact hM.2.2.1 _ rfl) z_cls7 hu_X6 8 (by decide) wb_643 rfl rfl dX6_putDoor_71 ?_
      refine z_aload_n C dX6_putDoor_74 rfl ?_
      refine z_get C (by first | exact hM.1 | exact hM.2.1 _ rfl | exact hM.2.2.1 _ rfl) z_cls7 hu_X6 2 (by decide) wb_637 rfl rfl dX6_putDoor_75 ?_
      refine z_iload C dX6_putDoor_78 rfl ?_
      refine z_if_ge C 87 dX6_putDoor_80 (by decide) (fun h80 => ?_) (fun h80 => ?_)
      · refine z_bipush (v := (-6)) C dX6_putDoor_87 (by decide) ?_
        refine z_iast C (by first | exact hM.1 | exact hM.2.1 _ rfl | exact hM.2.2.1 _ rfl) (by exact ⟨_, rfl, rfl⟩) (by exact hd) (by first | exact hcli | rfl) dX6_putDoor_89 (fun H89 hU89 => ?_)
        have hM := hM.sI hU89 rfl
        refine z_aload_n C dX6_putDoor_90 rfl ?_
        refine z_dup C dX6_putDoor_91 rfl ?_
        refine z_get C (by first | exact hM.1 | exact hM.2.1 _ rfl | exact hM.2.2.1 _ rfl) z_cls7 hu_X6 2 (by decide) wb_637 rfl rfl dX6_putDoor_92 ?_
        refine z_iconst (v := 1) C dX6_putDoor_95 (by decide) ?_
        refine z_iadd C dX6_putDoor_96 ?_
        refine z_put C (by first | exact hM.1 | exact hM.2.1 _ rfl | exact hM.2.2.1 _ rfl) z_cls7 hu_X6 (by exact ⟨_, rfl, rfl⟩) 2 (by decide) wb_637 rfl rfl (by rfl) (by rfl) (Nat.le_of_ble_eq_true rfl) dX6_putDoor_97 (fun H97 hU97 => ?_)
        have hM := hM.sS hU97 rfl
        refine z_aload_n C dX6_putDoor_100 rfl ?_
        refine z_get C (by first | exact hM.1 | exact hM.2.1 _ rfl | exact hM.2.2.1 _ rfl) z_cls7 hu_X6 2 (by decide) wb_637 rfl rfl dX6_putDoor_101 ?_
        refine z_iconst (v := 1) C dX6_putDoor_104 (by decide) ?_
        refine z_isub C dX6_putDoor_105 ?_
        exact z_iret C (by omega) (by omega) dX6_putDoor_106 (by first | contradiction | skip; (try simp [m_sA1, m_sA2, m_sS1, m_sS2] at hM); simp [F_putDoor, m_later, m_sA1, m_sA2, m_sS1, m_sS2, *])
      · refine z_iconst (v := 0) C dX6_putDoor_83 (by decide) ?_
        refine z_goto C 89 dX6_putDoor_84 (by decide) ?_
        refine z_iast C (by first | exact hM.1 | exact hM.2.1 _ rfl | exact hM.2.2.1 _ rfl) (by exact ⟨_, rfl, rfl⟩) (by exact hd) (by first | exact hcli | rfl) dX6_putDoor_89 (fun H89 hU89 => ?_)
        have hM := hM.sI hU89 rfl
        refine z_aload_n C dX6_putDoor_90 rfl ?_
        refine z_dup C dX6_putDoor_91 rfl ?_
        refine z_get C (by first | exact hM.1 | exact hM.2.1 _ rfl | exact hM.2.2.1 _ rfl) z_cls7 hu_X6 2 (by decide) wb_637 rfl rfl dX6_putDoor_92 ?_
        refine z_iconst (v := 1) C dX6_putDoor_95 (by decide) ?_
        refine z_iadd C dX6_putDoor_96 ?_
        refine z_put C (by first | exact hM.1 | exact hM.2.1 _ rfl | exact hM.2.2.1 _ rfl) z_cls7 hu_X6 (by exact ⟨_, rfl, rfl⟩) 2 (by decide) wb_637 rfl rfl (by rfl) (by rfl) (Nat.le_of_ble_eq_true rfl) dX6_putDoor_97 (fun H97 hU97 => ?_)
        have hM := hM.sS hU97 rfl
        refine z_aload_n C dX6_putDoor_100 rfl ?_
        refine z_get C (by first | exact hM.1 | exact hM.2.1 _ rfl | exact hM.2.2.1 _ rfl) z_cls7 hu_X6 2 (by decide) wb_637 rfl rfl dX6_putDoor_101 ?_
        refine z_iconst (v := 1) C dX6_putDoor_104 (by decide) ?_
        refine z_isub C dX6_putDoor_105 ?_
        exact z_iret C (by omega) (by omega) dX6_putDoor_106 (by first | contradiction | skip; (try simp [m_sA1, m_sA2, m_sS1, m_sS2] at hM); simp [F_putDoor, m_later, m_sA1, m_sA2, m_sS1, m_sS2, *])
    · refine z_iload_n C dX6_putDoor_32 rfl ?_
      refine z_goto C 37 dX6_putDoor_33 (by decide) ?_
      refine z_iast C (by first | exact hM.1 | exact hM.2.1 _ rfl | exact hM.2.2.1 _ rfl) (by exact ⟨_, rfl, rfl⟩) (by exact hd) (by first | exact hcli | rfl) dX6_putDoor_37 (fun H37 hU37 => ?_)
      have hM := hM.sI hU37 rfl
      refine z_aload_n C dX6_putDoor_38 rfl ?_
      refine z_get C (by first | exact hM.1 | exact hM.2.1 _ rfl | exact hM.2.2.1 _ rfl) z_cls7 hu_X6 5 (by decide) wb_640 rfl rfl dX6_putDoor_39 ?_
      refine z_aload_n C dX6_putDoor_42 rfl ?_
      refine z_get C (by first | exact hM.1 | exact hM.2.1 _ rfl | exact hM.2.2.1 _ rfl) z_cls7 hu_X6 2 (by decide) wb_637 rfl rfl dX6_putDoor_43 ?_
      refine z_iload_n C dX6_putDoor_46 rfl ?_
      refine z_iast C (by first | exact hM.1 | exact hM.2.1 _ rfl | exact hM.2.2.1 _ rfl) (by exact ⟨_, rfl, rfl⟩) (by exact hd) (by first | exact hcli | rfl) dX6_putDoor_47 (fun H47 hU47 => ?_)
      have hM := hM.sI hU47 rfl
      refine z_aload_n C dX6_putDoor_48 rfl ?_
      refine z_get C (by first | exact hM.1 | exact hM.2.1 _ rfl | exact hM.2.2.1 _ rfl) z_cls7 hu_X6 6 (by decide) wb_641 rfl rfl dX6_putDoor_49 ?_
      refine z_aload_n C dX6_putDoor_52 rfl ?_
      refine z_get C (by first | exact hM.1 | exact hM.2.1 _ rfl | exact hM.2.2.1 _ rfl) z_cls7 hu_X6 2 (by decide) wb_637 rfl rfl dX6_putDoor_53 ?_
      refine z_iload C dX6_putDoor_56 rfl ?_
      refine z_iast C (by first | exact hM.1 | exact hM.2.1 _ rfl | exact hM.2.2.1 _ rfl) (by exact ⟨_, rfl, rfl⟩) (by exact hd) (by first | exact hcli | rfl) dX6_putDoor_58 (fun H58 hU58 => ?_)
      have hM := hM.sI hU58 rfl
      refine z_aload_n C dX6_putDoor_59 rfl ?_
      refine z_get C (by first | exact hM.1 | exact hM.2.1 _ rfl | exact hM.2.2.1 _ rfl) z_cls7 hu_X6 7 (by decide) wb_642 rfl rfl dX6_putDoor_60 ?_
      refine z_aload_n C dX6_putDoor_63 rfl ?_
      refine z_get C (by first | exact hM.1 | exact hM.2.1 _ rfl | exact hM.2.2.1 _ rfl) z_cls7 hu_X6 2 (by decide) wb_637 rfl rfl dX6_putDoor_64 ?_
      refine z_iload C dX6_putDoor_67 rfl ?_
      refine z_iast C (by first | exact hM.1 | exact hM.2.1 _ rfl | exact hM.2.2.1 _ rfl) (by exact ⟨_, rfl, rfl⟩) (by exact hd) (by first | exact hcli | rfl) dX6_putDoor_69 (fun H69 hU69 => ?_)
      have hM := hM.sI hU69 rfl
      refine z_aload_n C dX6_putDoor_70 rfl ?_
      refine z_get C (by first | exact hM.1 | exact hM.2.1 _ rfl | exact hM.2.2.1 _ rfl) z_cls7 hu_X6 8 (by decide) wb_643 rfl rfl dX6_putDoor_71 ?_
      refine z_aload_n C dX6_putDoor_74 rfl ?_
      refine z_get C (by first | exact hM.1 | exact hM.2.1 _ rfl | exact hM.2.2.1 _ rfl) z_cls7 hu_X6 2 (by decide) wb_637 rfl rfl dX6_putDoor_75 ?_
      refine z_iload C dX6_putDoor_78 rfl ?_
      refine z_if_ge C 87 dX6_putDoor_80 (by decide) (fun h80 => ?_) (fun h80 => ?_)
      · refine z_bipush (v := (-6)) C dX6_putDoor_87 (by decide) ?_
        refine z_iast C (by first | exact hM.1 | exact hM.2.1 _ rfl | exact hM.2.2.1 _ rfl) (by exact ⟨_, rfl, rfl⟩) (by exact hd) (by first | exact hcli | rfl) dX6_putDoor_89 (fun H89 hU89 => ?_)
        have hM := hM.sI hU89 rfl
        refine z_aload_n C dX6_putDoor_90 rfl ?_
        refine z_dup C dX6_putDoor_91 rfl ?_
        refine z_get C (by first | exact hM.1 | exact hM.2.1 _ rfl | exact hM.2.2.1 _ rfl) z_cls7 hu_X6 2 (by decide) wb_637 rfl rfl dX6_putDoor_92 ?_
        refine z_iconst (v := 1) C dX6_putDoor_95 (by decide) ?_
        refine z_iadd C dX6_putDoor_96 ?_
        refine z_put C (by first | exact hM.1 | exact hM.2.1 _ rfl | exact hM.2.2.1 _ rfl) z_cls7 hu_X6 (by exact ⟨_, rfl, rfl⟩) 2 (by decide) wb_637 rfl rfl (by rfl) (by rfl) (Nat.le_of_ble_eq_true rfl) dX6_putDoor_97 (fun H97 hU97 => ?_)
        have hM := hM.sS hU97 rfl
        refine z_aload_n C dX6_putDoor_100 rfl ?_
        refine z_get C (by first | exact hM.1 | exact hM.2.1 _ rfl | exact hM.2.2.1 _ rfl) z_cls7 hu_X6 2 (by decide) wb_637 rfl rfl dX6_putDoor_101 ?_
        refine z_iconst (v := 1) C dX6_putDoor_104 (by decide) ?_
        refine z_isub C dX6_putDoor_105 ?_
        exact z_iret C (by omega) (by omega) dX6_putDoor_106 (by first | contradiction | skip; (try simp [m_sA1, m_sA2, m_sS1, m_sS2] at hM); simp [F_putDoor, m_later, m_sA1, m_sA2, m_sS1, m_sS2, *])
      · refine z_iconst (v := 0) C dX6_putDoor_83 (by decide) ?_
        refine z_goto C 89 dX6_putDoor_84 (by decide) ?_
        refine z_iast C (by first | exact hM.1 | exact hM.2.1 _ rfl | exact hM.2.2.1 _ rfl) (by exact ⟨_, rfl, rfl⟩) (by exact hd) (by first | exact hcli | rfl) dX6_putDoor_89 (fun H89 hU89 => ?_)
        have hM := hM.sI hU89 rfl
        refine z_aload_n C dX6_putDoor_90 rfl ?_
        refine z_dup C dX6_putDoor_91 rfl ?_
        refine z_get C (by first | exact hM.1 | exact hM.2.1 _ rfl | exact hM.2.2.1 _ rfl) z_cls7 hu_X6 2 (by decide) wb_637 rfl rfl dX6_putDoor_92 ?_
        refine z_iconst (v := 1) C dX6_putDoor_95 (by decide) ?_
        refine z_iadd C dX6_putDoor_96 ?_
        refine z_put C (by first | exact hM.1 | exact hM.2.1 _ rfl | exact hM.2.2.1 _ rfl) z_cls7 hu_X6 (by exact ⟨_, rfl, rfl⟩) 2 (by decide) wb_637 rfl rfl (by rfl) (by rfl) (Nat.le_of_ble_eq_true rfl) dX6_putDoor_97 (fun H97 hU97 => ?_)
        have hM := hM.sS hU97 rfl
        refine z_aload_n C dX6_putDoor_100 rfl ?_
        refine z_get C (by first | exact hM.1 | exact hM.2.1 _ rfl | exact hM.2.2.1 _ rfl) z_cls7 hu_X6 2 (by decide) wb_637 rfl rfl dX6_putDoor_101 ?_
        refine z_iconst (v := 1) C dX6_putDoor_104 (by decide) ?_
        refine z_isub C dX6_putDoor_105 ?_
        exact z_iret C (by omega) (by omega) dX6_putDoor_106 (by first | contradiction | skip; (try simp [m_sA1, m_sA2, m_sS1, m_sS2] at hM); simp [F_putDoor, m_later, m_sA1, m_sA2, m_sS1, m_sS2, *])

set_option maxHeartbeats 4000000 in
set_option maxRecDepth 100000 in
theorem c_X6_locks (l : Launch) (G : z_G) (ad : Nat → Nat) (M : m_S) {nR nD nK nG : Nat} (hN : m_N M nR nD nK nG) : z_MR l yX6_locks cX6_locks 3 (some .int) 0 [.ref (ad 0)] G (fun H => m_R G ad M H) (.int (m_locks M nD)) := by
  refine z_M.of (by decide +kernel) (Nat.le_of_ble_eq_true rfl) ?_
  intro p e s m below meth c C hP
  have hM : m_R G ad M s.heap := hP
  have hR12 := hN.1.2; have hD16 := hN.2.1.2; have hK16 := hN.2.2.1.2; have hG6 := hN.2.2.2.2
  refine z_iconst (v := 0) C dX6_locks_0 (by decide) ?_
  refine z_istore_n C dX6_locks_1 (by decide) ?_
  refine z_iconst (v := 0) C dX6_locks_2 (by decide) ?_
  refine z_istore_n C dX6_locks_3 (by decide) ?_
  refine z_loopN (fun i => [(0, .ref (ad 0)), (1, .int (m_locks M i)), (2, .int (nI i))]) nD ⟨rfl, rfl, rfl, trivial⟩ (fun i hi ihi => ?_)
  refine z_iload_n C dX6_locks_4 rfl ?_
  refine z_aload_n C dX6_locks_5 rfl ?_
  refine z_get C (by first | exact hM.1 | exact hM.2.1 _ rfl | exact hM.2.2.1 _ rfl) z_cls7 hu_X6 2 (by decide) wb_637 rfl rfl dX6_locks_6 ?_
  refine z_icmp_ge C 35 dX6_locks_9 (by decide) (fun h9 => ?_) (fun h9 => ?_)
  · obtain rfl := z_ge hN.2.1.1 (by omega) hi h9
    refine z_iload_n C dX6_locks_35 rfl ?_
    exact z_iret C (by omega) (by omega) dX6_locks_36 (by exact ⟨rfl, rfl⟩)
  · have hlti := z_lt hN.2.1.1 (by omega) hi h9
    have hini : vp_in (nI i) 16 := vp_in_nI (by omega) (by omega)
    have hcli : (nI i).toNatClampNeg = i := nI_clamp (by omega)
    refine z_iload_n C dX6_locks_12 rfl ?_
    refine z_aload_n C dX6_locks_13 rfl ?_
    refine z_get C (by first | exact hM.1 | exact hM.2.1 _ rfl | exact hM.2.2.1 _ rfl) z_cls7 hu_X6 6 (by decide) wb_641 rfl rfl dX6_locks_14 ?_
    refine z_iload_n C dX6_locks_17 rfl ?_
    refine z_iald C (by first | exact hM.1 | exact hM.2.1 _ rfl | exact hM.2.2.1 _ rfl) (by first | assumption | exact m_noG hN (by assumption) | exact m_noD hN (by assumption) | exact m_noK hN (by assumption)) (by first | exact hcli | rfl) dX6_locks_18 ?_
    refine z_if_lt C 26 dX6_locks_19 (by decide) (fun h19 => ?_) (fun h19 => ?_)
    · refine z_iconst (v := 0) C dX6_locks_26 (by decide) ?_
      refine z_iadd C dX6_locks_27 ?_
      refine z_istore_n C dX6_locks_28 (by decide) ?_
      refine z_iinc C dX6_locks_29 rfl rfl (by decide) ?_
      refine z_goto C 4 dX6_locks_32 (by decide) ?_
      exact ihi hlti _ ⟨rfl, z_lgI rfl (by simp [m_locks, m_cnt, m_sum, m_c, *]), z_lgI rfl (z_inc i), trivial⟩
    · refine z_iconst (v := 1) C dX6_locks_22 (by decide) ?_
      refine z_goto C 27 dX6_locks_23 (by decide) ?_
      refine z_iadd C dX6_locks_27 ?_
      refine z_istore_n C dX6_locks_28 (by decide) ?_
      refine z_iinc C dX6_locks_29 rfl rfl (by decide) ?_
      refine z_goto C 4 dX6_locks_32 (by decide) ?_
      exact ihi hlti _ ⟨rfl, z_lgI rfl (by simp [m_locks, m_cnt, m_sum, m_c, *]), z_lgI rfl (z_inc i), trivial⟩

set_option maxHeartbeats 4000000 in
set_option maxRecDepth 100000 in
theorem c_X6_players (l : Launch) (G : z_G) (ad : Nat → Nat) (M : m_S) {nR nD nK nG : Nat} (hN : m_N M nR nD nK nG) : z_MR l yX6_players cX6_players 3 (some .int) 0 [.ref (ad 0)] G (fun H => m_R G ad M H) (.int (m_players M nG)) := by
  refine z_M.of (by decide +kernel) (Nat.le_of_ble_eq_true rfl) ?_
  intro p e s m below meth c C hP
  have hM : m_R G ad M s.heap := hP
  have hR12 := hN.1.2; have hD16 := hN.2.1.2; have hK16 := hN.2.2.1.2; have hG6 := hN.2.2.2.2
  refine z_iconst (v := 0) C dX6_players_0 (by decide) ?_
  refine z_istore_n C dX6_players_1 (by decide) ?_
  refine z_iconst (v := 0) C dX6_players_2 (by decide) ?_
  refine z_istore_n C dX6_players_3 (by decide) ?_
  refine z_loopN (fun i => [(0, .ref (ad 0)), (1, .int (m_players M i)), (2, .int (nI i))]) nG ⟨rfl, rfl, rfl, trivial⟩ (fun i hi ihi => ?_)
  refine z_iload_n C dX6_players_4 rfl ?_
  refine z_aload_n C dX6_players_5 rfl ?_
  refine z_get C (by first | exact hM.1 | exact hM.2.1 _ rfl | exact hM.2.2.1 _ rfl) z_cls7 hu_X6 14 (by decide) wb_649 rfl rfl dX6_players_6 ?_
  refine z_icmp_ge C 27 dX6_players_9 (by decide) (fun h9 => ?_) (fun h9 => ?_)
  · obtain rfl := z_ge hN.2.2.2.1 (by omega) hi h9
    refine z_iload_n C dX6_players_27 rfl ?_
    exact z_iret C (by omega) (by omega) dX6_players_28 (by exact ⟨rfl, rfl⟩)
  · have hlti := z_lt hN.2.2.2.1 (by omega) hi h9
    have hini : vp_in (nI i) 6 := vp_in_nI (by omega) (by omega)
    have hcli : (nI i).toNatClampNeg = i := nI_clamp (by omega)
    refine z_iload_n C dX6_players_12 rfl ?_
    refine z_aload_n C dX6_players_13 rfl ?_
    refine z_get C (by first | exact hM.1 | exact hM.2.1 _ rfl | exact hM.2.2.1 _ rfl) z_cls7 hu_X6 15 (by decide) wb_650 rfl rfl dX6_players_14 ?_
    refine z_iload_n C dX6_players_17 rfl ?_
    refine z_iald C (by first | exact hM.1 | exact hM.2.1 _ rfl | exact hM.2.2.1 _ rfl) (by first | assumption | exact m_noG hN (by assumption) | exact m_noD hN (by assumption) | exact m_noK hN (by assumption)) (by first | exact hcli | rfl) dX6_players_18 ?_
    refine z_iadd C dX6_players_19 ?_
    refine z_istore_n C dX6_players_20 (by decide) ?_
    refine z_iinc C dX6_players_21 rfl rfl (by decide) ?_
    refine z_goto C 4 dX6_players_24 (by decide) ?_
    exact ihi hlti _ ⟨rfl, z_lgI rfl (by simp [m_players, m_sum, m_c, *]), z_lgI rfl (z_inc i), trivial⟩

set_option maxHeartbeats 4000000 in
set_option maxRecDepth 100000 in
theorem c_X6_addDoor (l : Launch) (G : z_G) (ad : Nat → Nat) (M : m_S) {nR nD nK nG : Nat} (hN : m_N M nR nD nK nG) (a b w : Int32) : z_M l yX6_addDoor cX6_addDoor 4 (some .int) 2 0 0 [.ref (ad 0), .int a, .int b, .int w] G (fun H => m_R G ad M H) (m_A ad) ((fun v _ H => v = some (.int (F_addDoor M a b w).1) ∧ m_R G ad (F_addDoor M a b w).2 H)) := by
  refine z_M.of (by decide +kernel) (Nat.le_of_ble_eq_true rfl) ?_
  intro p e s m below meth c C hP
  have hM : m_R G ad M s.heap := hP
  have hR12 := hN.1.2; have hD16 := hN.2.1.2; have hK16 := hN.2.2.1.2; have hG6 := hN.2.2.2.2
  refine z_aload_n C dX6_addDoor_0 rfl ?_
  refine z_iload_n C dX6_addDoor_1 rfl ?_
  refine z_callVR (As := [.int _]) C (c_X6_noRoom _ _ ad M _) kc_X6_noRoom wb_741 ⟨by decide, by decide⟩ hM.1 rfl (hM) ⟨Nat.zero_le _, Nat.zero_le _⟩ (Nat.le_of_ble_eq_true rfl) dX6_addDoor_2 ?_
  refine z_ifb_ne C 16 dX6_addDoor_5 (by decide) (fun h5 => ?_) (fun h5 => ?_)
  · refine z_iconst (v := (-1)) C dX6_addDoor_16 (by decide) ?_
    exact z_iret C (by omega) (by omega) dX6_addDoor_17 (by first | contradiction | skip; (try simp [m_sA1, m_sA2, m_sS1, m_sS2] at hM); simp [F_addDoor, m_later, m_sA1, m_sA2, m_sS1, m_sS2, *])
  · refine z_aload_n C dX6_addDoor_8 rfl ?_
    refine z_iload_n C dX6_addDoor_9 rfl ?_
    refine z_callVR (As := [.int _]) C (c_X6_noRoom _ _ ad M _) kc_X6_noRoom wb_741 ⟨by decide, by decide⟩ hM.1 rfl (hM) ⟨Nat.zero_le _, Nat.zero_le _⟩ (Nat.le_of_ble_eq_true rfl) dX6_addDoor_10 ?_
    refine z_ifb_eq C 18 dX6_addDoor_13 (by decide) (fun h13 => ?_) (fun h13 => ?_)
    · refine z_iload_n C dX6_addDoor_18 rfl ?_
      refine z_iload_n C dX6_addDoor_19 rfl ?_
      refine z_icmp_eq C 33 dX6_addDoor_20 (by decide) (fun h20 => ?_) (fun h20 => ?_)
      · refine z_bipush (v := (-2)) C dX6_addDoor_33 (by decide) ?_
        exact z_iret C (by omega) (by omega) dX6_addDoor_35 (by first | contradiction | skip; (try simp [m_sA1, m_sA2, m_sS1, m_sS2] at hM); simp [F_addDoor, m_later, m_sA1, m_sA2, m_sS1, m_sS2, *])
      · refine z_iload_n C dX6_addDoor_23 rfl ?_
        refine z_iconst (v := 1) C dX6_addDoor_24 (by decide) ?_
        refine z_bipush (v := 30) C dX6_addDoor_25 (by decide) ?_
        refine z_callSR (As := [.int _, .int _, .int _]) C (c_X6_in _ _ _ _ _) kc_X6_in wb_745 ⟨by decide, by decide⟩ (trivial) ⟨Nat.zero_le _, Nat.zero_le _⟩ (Nat.le_of_ble_eq_true rfl) dX6_addDoor_27 ?_
        refine z_ifb_ne C 36 dX6_addDoor_30 (by decide) (fun h30 => ?_) (fun h30 => ?_)
        · refine z_aload_n C dX6_addDoor_36 rfl ?_
          refine z_get C (by first | exact hM.1 | exact hM.2.1 _ rfl | exact hM.2.2.1 _ rfl) z_cls7 hu_X6 2 (by decide) wb_637 rfl rfl dX6_addDoor_37 ?_
          refine z_bipush (v := 16) C dX6_addDoor_40 (by decide) ?_
          refine z_icmp_ne C 50 dX6_addDoor_42 (by decide) (fun h42 => ?_) (fun h42 => ?_)
          · refine z_aload_n C dX6_addDoor_50 rfl ?_
            refine z_iload_n C dX6_addDoor_51 rfl ?_
            refine z_iload_n C dX6_addDoor_52 rfl ?_
            refine z_iload_n C dX6_addDoor_53 rfl ?_
            refine z_bipush (v := (-6)) C dX6_addDoor_54 (by decide) ?_
            refine z_iconst (v := 0) C dX6_addDoor_56 (by decide) ?_
            refine z_callV (As := [.int _, .int _, .int _, .int _, .int _]) C (c_X6_putDoor _ _ ad M _ _ _ _ _ (by first | exact m_roomX hN.2.1.1 hN.2.1.2 (by decide) (by assumption))) kc_X6_putDoor wb_752 ⟨by decide, by decide⟩ hM.1 rfl (hM) (fun _ h => h) ⟨Nat.zero_le _, Nat.zero_le _⟩ (Nat.le_of_ble_eq_true rfl) dX6_addDoor_57 (fun v H57 hq _ _ => ?_)
            obtain ⟨rfl, hM⟩ := hq
            exact z_iret C (by omega) (by omega) dX6_addDoor_60 (by first | contradiction | skip; (try simp [m_sA1, m_sA2, m_sS1, m_sS2] at hM); simp [F_addDoor, m_later, m_sA1, m_sA2, m_sS1, m_sS2, *])
          · refine z_bipush (v := (-3)) C dX6_addDoor_45 (by decide) ?_
            refine z_goto C 60 dX6_addDoor_47 (by decide) ?_
            exact z_iret C (by omega) (by omega) dX6_addDoor_60 (by first | contradiction | skip; (try simp [m_sA1, m_sA2, m_sS1, m_sS2] at hM); simp [F_addDoor, m_later, m_sA1, m_sA2, m_sS1, m_sS2, *])
        · refine z_bipush (v := (-2)) C dX6_addDoor_33 (by decide) ?_
          exact z_iret C (by omega) (by omega) dX6_addDoor_35 (by first | contradiction | skip; (try simp [m_sA1, m_sA2, m_sS1, m_sS2] at hM); simp [F_addDoor, m_later, m_sA1, m_sA2, m_sS1, m_sS2, *])
    · refine z_iconst (v := (-1)) C dX6_addDoor_16 (by decide) ?_
      exact z_iret C (by omega) (by omega) dX6_addDoor_17 (by first | contradiction | skip; (try simp [m_sA1, m_sA2, m_sS1, m_sS2] at hM); simp [F_addDoor, m_later, m_sA1, m_sA2, m_sS1, m_sS2, *])

set_option maxHeartbeats 4000000 in
set_option maxRecDepth 100000 in
theorem c_X6_addLock (l : Launch) (G : z_G) (ad : Nat → Nat) (M : m_S) {nR nD nK nG : Nat} (hN : m_N M nR nD nK nG) (a b w c0 u : Int32) : z_M l yX6_addLock cX6_addLock 6 (some .int) 2 0 0 [.ref (ad 0), .int a, .int b, .int w, .int c0, .int u] G (fun H => m_R G ad M H) (m_A ad) ((fun v _ H => v = some (.int (F_addLock M nD a b w c0 u).1) ∧ m_R G ad (F_addLock M nD a b w c0 u).2 H)) := by
  refine z_M.of (by decide +kernel) (Nat.le_of_ble_eq_true rfl) ?_
  intro p e s m below meth c C hP
  have hM : m_R G ad M s.heap := hP
  have hR12 := hN.1.2; have hD16 := hN.2.1.2; have hK16 := hN.2.2.1.2; have hG6 := hN.2.2.2.2
  refine z_aload_n C dX6_addLock_0 rfl ?_
  refine z_iload_n C dX6_addLock_1 rfl ?_
  refine z_callVR (As := [.int _]) C (c_X6_noRoom _ _ ad M _) kc_X6_noRoom wb_741 ⟨by decide, by decide⟩ hM.1 rfl (hM) ⟨Nat.zero_le _, Nat.zero_le _⟩ (Nat.le_of_ble_eq_true rfl) dX6_addLock_2 ?_
  refine z_ifb_ne C 16 dX6_addLock_5 (by decide) (fun h5 => ?_) (fun h5 => ?_)
  · refine z_iconst (v := (-1)) C dX6_addLock_16 (by decide) ?_
    exact z_iret C (by omega) (by omega) dX6_addLock_17 (by first | contradiction | skip; (try simp [m_sA1, m_sA2, m_sS1, m_sS2] at hM); simp [F_addLock, m_later, m_sA1, m_sA2, m_sS1, m_sS2, *])
  · refine z_aload_n C dX6_addLock_8 rfl ?_
    refine z_iload_n C dX6_addLock_9 rfl ?_
    refine z_callVR (As := [.int _]) C (c_X6_noRoom _ _ ad M _) kc_X6_noRoom wb_741 ⟨by decide, by decide⟩ hM.1 rfl (hM) ⟨Nat.zero_le _, Nat.zero_le _⟩ (Nat.le_of_ble_eq_true rfl) dX6_addLock_10 ?_
    refine z_ifb_eq C 18 dX6_addLock_13 (by decide) (fun h13 => ?_) (fun h13 => ?_)
    · refine z_iload_n C dX6_addLock_18 rfl ?_
      refine z_iload_n C dX6_addLock_19 rfl ?_
      refine z_icmp_eq C 54 dX6_addLock_20 (by decide) (fun h20 => ?_) (fun h20 => ?_)
      · refine z_bipush (v := (-2)) C dX6_addLock_54 (by decide) ?_
        exact z_iret C (by omega) (by omega) dX6_addLock_56 (by first | contradiction | skip; (try simp [m_sA1, m_sA2, m_sS1, m_sS2] at hM); simp [F_addLock, m_later, m_sA1, m_sA2, m_sS1, m_sS2, *])
      · refine z_iload_n C dX6_addLock_23 rfl ?_
        refine z_iconst (v := 1) C dX6_addLock_24 (by decide) ?_
        refine z_bipush (v := 30) C dX6_addLock_25 (by decide) ?_
        refine z_callSR (As := [.int _, .int _, .int _]) C (c_X6_in _ _ _ _ _) kc_X6_in wb_745 ⟨by decide, by decide⟩ (trivial) ⟨Nat.zero_le _, Nat.zero_le _⟩ (Nat.le_of_ble_eq_true rfl) dX6_addLock_27 ?_
        refine z_ifb_eq C 54 dX6_addLock_30 (by decide) (fun h30 => ?_) (fun h30 => ?_)
        · refine z_bipush (v := (-2)) C dX6_addLock_54 (by decide) ?_
          exact z_iret C (by omega) (by omega) dX6_addLock_56 (by first | contradiction | skip; (try simp [m_sA1, m_sA2, m_sS1, m_sS2] at hM); simp [F_addLock, m_later, m_sA1, m_sA2, m_sS1, m_sS2, *])
        · refine z_iload C dX6_addLock_33 rfl ?_
          refine z_iconst (v := 0) C dX6_addLock_35 (by decide) ?_
          refine z_iconst (v := 5) C dX6_addLock_36 (by decide) ?_
          refine z_callSR (As := [.int _, .int _, .int _]) C (c_X6_in _ _ _ _ _) kc_X6_in wb_745 ⟨by decide, by decide⟩ (trivial) ⟨Nat.zero_le _, Nat.zero_le _⟩ (Nat.le_of_ble_eq_true rfl) dX6_addLock_37 ?_
          refine z_ifb_eq C 54 dX6_addLock_40 (by decide) (fun h40 => ?_) (fun h40 => ?_)
          · refine z_bipush (v := (-2)) C dX6_addLock_54 (by decide) ?_
            exact z_iret C (by omega) (by omega) dX6_addLock_56 (by first | contradiction | skip; (try simp [m_sA1, m_sA2, m_sS1, m_sS2] at hM); simp [F_addLock, m_later, m_sA1, m_sA2, m_sS1, m_sS2, *])
          · refine z_iload C dX6_addLock_43 rfl ?_
            refine z_iconst (v := 1) C dX6_addLock_45 (by decide) ?_
            refine z_bipush (v := 60) C dX6_addLock_46 (by decide) ?_
            refine z_callSR (As := [.int _, .int _, .int _]) C (c_X6_in _ _ _ _ _) kc_X6_in wb_745 ⟨by decide, by decide⟩ (trivial) ⟨Nat.zero_le _, Nat.zero_le _⟩ (Nat.le_of_ble_eq_true rfl) dX6_addLock_48 ?_
            refine z_ifb_ne C 57 dX6_addLock_51 (by decide) (fun h51 => ?_) (fun h51 => ?_)
            · refine z_aload_n C dX6_addLock_57 rfl ?_
              refine z_get C (by first | exact hM.1 | exact hM.2.1 _ rfl | exact hM.2.2.1 _ rfl) z_cls7 hu_X6 2 (by decide) wb_637 rfl rfl dX6_addLock_58 ?_
              refine z_bipush (v := 16) C dX6_addLock_61 (by decide) ?_
              refine z_icmp_eq C 75 dX6_addLock_63 (by decide) (fun h63 => ?_) (fun h63 => ?_)
              · refine z_bipush (v := (-3)) C dX6_addLock_75 (by decide) ?_
                refine z_goto C 91 dX6_addLock_77 (by decide) ?_
                exact z_iret C (by omega) (by omega) dX6_addLock_91 (by first | contradiction | skip; (try simp [m_sA1, m_sA2, m_sS1, m_sS2] at hM); simp [F_addLock, m_later, m_sA1, m_sA2, m_sS1, m_sS2, *])
              · refine z_aload_n C dX6_addLock_66 rfl ?_
                refine z_callVR (As := []) C (c_X6_locks _ _ ad M hN) kc_X6_locks wb_760 ⟨by decide, by decide⟩ hM.1 rfl (hM) ⟨Nat.zero_le _, Nat.zero_le _⟩ (Nat.le_of_ble_eq_true rfl) dX6_addLock_67 ?_
                refine z_bipush (v := 10) C dX6_addLock_70 (by decide) ?_
                refine z_icmp_ne C 80 dX6_addLock_72 (by decide) (fun h72 => ?_) (fun h72 => ?_)
                · refine z_aload_n C dX6_addLock_80 rfl ?_
                  refine z_iload_n C dX6_addLock_81 rfl ?_
                  refine z_iload_n C dX6_addLock_82 rfl ?_
                  refine z_iload_n C dX6_addLock_83 rfl ?_
                  refine z_iload C dX6_addLock_84 rfl ?_
                  refine z_iload C dX6_addLock_86 rfl ?_
                  refine z_callV (As := [.int _, .int _, .int _, .int _, .int _]) C (c_X6_putDoor _ _ ad M _ _ _ _ _ (by first | exact m_roomX hN.2.1.1 hN.2.1.2 (by decide) (by assumption))) kc_X6_putDoor wb_752 ⟨by decide, by decide⟩ hM.1 rfl (hM) (fun _ h => h) ⟨Nat.zero_le _, Nat.zero_le _⟩ (Nat.le_of_ble_eq_true rfl) dX6_addLock_88 (fun v H88 hq _ _ => ?_)
                  obtain ⟨rfl, hM⟩ := hq
                  exact z_iret C (by omega) (by omega) dX6_addLock_91 (by first | contradiction | skip; (try simp [m_sA1, m_sA2, m_sS1, m_sS2] at hM); simp [F_addLock, m_later, m_sA1, m_sA2, m_sS1, m_sS2, *])
                · refine z_bipush (v := (-3)) C dX6_addLock_75 (by decide) ?_
                  refine z_goto C 91 dX6_addLock_77 (by decide) ?_
                  exact z_iret C (by omega) (by omega) dX6_addLock_91 (by first | contradiction | skip; (try simp [m_sA1, m_sA2, m_sS1, m_sS2] at hM); simp [F_addLock, m_later, m_sA1, m_sA2, m_sS1, m_sS2, *])
            · refine z_bipush (v := (-2)) C dX6_addLock_54 (by decide) ?_
              exact z_iret C (by omega) (by omega) dX6_addLock_56 (by first | contradiction | skip; (try simp [m_sA1, m_sA2, m_sS1, m_sS2] at hM); simp [F_addLock, m_later, m_sA1, m_sA2, m_sS1, m_sS2, *])
    · refine z_iconst (v := (-1)) C dX6_addLock_16 (by decide) ?_
      exact z_iret C (by omega) (by omega) dX6_addLock_17 (by first | contradiction | skip; (try simp [m_sA1, m_sA2, m_sS1, m_sS2] at hM); simp [F_addLock, m_later, m_sA1, m_sA2, m_sS1, m_sS2, *])

set_option maxHeartbeats 4000000 in
set_option maxRecDepth 100000 in
theorem c_X6_addKey (l : Launch) (G : z_G) (ad : Nat → Nat) (M : m_S) {nR nD nK nG : Nat} (hN : m_N M nR nD nK nG) (r c0 : Int32) : z_M l yX6_addKey cX6_addKey 3 (some .int) 2 0 0 [.ref (ad 0), .int r, .int c0] G (fun H => m_R G ad M H) (m_A ad) ((fun v _ H => v = some (.int (F_addKey M r c0).1) ∧ m_R G ad (F_addKey M r c0).2 H)) := by
  refine z_M.of (by decide +kernel) (Nat.le_of_ble_eq_true rfl) ?_
  intro p e s m below meth c C hP
  have hM : m_R G ad M s.heap := hP
  have hR12 := hN.1.2; have hD16 := hN.2.1.2; have hK16 := hN.2.2.1.2; have hG6 := hN.2.2.2.2
  refine z_aload_n C dX6_addKey_0 rfl ?_
  refine z_iload_n C dX6_addKey_1 rfl ?_
  refine z_callVR (As := [.int _]) C (c_X6_noRoom _ _ ad M _) kc_X6_noRoom wb_741 ⟨by decide, by decide⟩ hM.1 rfl (hM) ⟨Nat.zero_le _, Nat.zero_le _⟩ (Nat.le_of_ble_eq_true rfl) dX6_addKey_2 ?_
  refine z_ifb_eq C 10 dX6_addKey_5 (by decide) (fun h5 => ?_) (fun h5 => ?_)
  · refine z_iload_n C dX6_addKey_10 rfl ?_
    refine z_iconst (v := 0) C dX6_addKey_11 (by decide) ?_
    refine z_iconst (v := 5) C dX6_addKey_12 (by decide) ?_
    refine z_callSR (As := [.int _, .int _, .int _]) C (c_X6_in _ _ _ _ _) kc_X6_in wb_745 ⟨by decide, by decide⟩ (trivial) ⟨Nat.zero_le _, Nat.zero_le _⟩ (Nat.le_of_ble_eq_true rfl) dX6_addKey_13 ?_
    refine z_ifb_ne C 22 dX6_addKey_16 (by decide) (fun h16 => ?_) (fun h16 => ?_)
    · refine z_aload_n C dX6_addKey_22 rfl ?_
      refine z_get C (by first | exact hM.1 | exact hM.2.1 _ rfl | exact hM.2.2.1 _ rfl) z_cls7 hu_X6 9 (by decide) wb_644 rfl rfl dX6_addKey_23 ?_
      refine z_bipush (v := 16) C dX6_addKey_26 (by decide) ?_
      refine z_icmp_ne C 34 dX6_addKey_28 (by decide) (fun h28 => ?_) (fun h28 => ?_)
      · refine z_aload_n C dX6_addKey_34 rfl ?_
        refine z_get C (by first | exact hM.1 | exact hM.2.1 _ rfl | exact hM.2.2.1 _ rfl) z_cls7 hu_X6 10 (by decide) wb_645 rfl rfl dX6_addKey_35 ?_
        refine z_aload_n C dX6_addKey_38 rfl ?_
        refine z_get C (by first | exact hM.1 | exact hM.2.1 _ rfl | exact hM.2.2.1 _ rfl) z_cls7 hu_X6 9 (by decide) wb_644 rfl rfl dX6_addKey_39 ?_
        refine z_iload_n C dX6_addKey_42 rfl ?_
        refine z_iast C (by first | exact hM.1 | exact hM.2.1 _ rfl | exact hM.2.2.1 _ rfl) (by exact ⟨_, rfl, rfl⟩) (by first | assumption | exact m_roomX hN.2.2.1.1 hN.2.2.1.2 (by decide) (by assumption)) (by first | exact hcli | rfl) dX6_addKey_43 (fun H43 hU43 => ?_)
        have hM := hM.sI hU43 rfl
        refine z_aload_n C dX6_addKey_44 rfl ?_
        refine z_get C (by first | exact hM.1 | exact hM.2.1 _ rfl | exact hM.2.2.1 _ rfl) z_cls7 hu_X6 11 (by decide) wb_646 rfl rfl dX6_addKey_45 ?_
        refine z_aload_n C dX6_addKey_48 rfl ?_
        refine z_get C (by first | exact hM.1 | exact hM.2.1 _ rfl | exact hM.2.2.1 _ rfl) z_cls7 hu_X6 9 (by decide) wb_644 rfl rfl dX6_addKey_49 ?_
        refine z_iconst (v := 0) C dX6_addKey_52 (by decide) ?_
        refine z_iast C (by first | exact hM.1 | exact hM.2.1 _ rfl | exact hM.2.2.1 _ rfl) (by exact ⟨_, rfl, rfl⟩) (by first | assumption | exact m_roomX hN.2.2.1.1 hN.2.2.1.2 (by decide) (by assumption)) (by first | exact hcli | rfl) dX6_addKey_53 (fun H53 hU53 => ?_)
        have hM := hM.sI hU53 rfl
        refine z_aload_n C dX6_addKey_54 rfl ?_
        refine z_get C (by first | exact hM.1 | exact hM.2.1 _ rfl | exact hM.2.2.1 _ rfl) z_cls7 hu_X6 12 (by decide) wb_647 rfl rfl dX6_addKey_55 ?_
        refine z_aload_n C dX6_addKey_58 rfl ?_
        refine z_get C (by first | exact hM.1 | exact hM.2.1 _ rfl | exact hM.2.2.1 _ rfl) z_cls7 hu_X6 9 (by decide) wb_644 rfl rfl dX6_addKey_59 ?_
        refine z_iload_n C dX6_addKey_62 rfl ?_
        refine z_iast C (by first | exact hM.1 | exact hM.2.1 _ rfl | exact hM.2.2.1 _ rfl) (by exact ⟨_, rfl, rfl⟩) (by first | assumption | exact m_roomX hN.2.2.1.1 hN.2.2.1.2 (by decide) (by assumption)) (by first | exact hcli | rfl) dX6_addKey_63 (fun H63 hU63 => ?_)
        have hM := hM.sI hU63 rfl
        refine z_aload_n C dX6_addKey_64 rfl ?_
        refine z_get C (by first | exact hM.1 | exact hM.2.1 _ rfl | exact hM.2.2.1 _ rfl) z_cls7 hu_X6 13 (by decide) wb_648 rfl rfl dX6_addKey_65 ?_
        refine z_aload_n C dX6_addKey_68 rfl ?_
        refine z_get C (by first | exact hM.1 | exact hM.2.1 _ rfl | exact hM.2.2.1 _ rfl) z_cls7 hu_X6 9 (by decide) wb_644 rfl rfl dX6_addKey_69 ?_
        refine z_iconst (v := 0) C dX6_addKey_72 (by decide) ?_
        refine z_iast C (by first | exact hM.1 | exact hM.2.1 _ rfl | exact hM.2.2.1 _ rfl) (by exact ⟨_, rfl, rfl⟩) (by first | assumption | exact m_roomX hN.2.2.1.1 hN.2.2.1.2 (by decide) (by assumption)) (by first | exact hcli | rfl) dX6_addKey_73 (fun H73 hU73 => ?_)
        have hM := hM.sI hU73 rfl
        refine z_aload_n C dX6_addKey_74 rfl ?_
        refine z_dup C dX6_addKey_75 rfl ?_
        refine z_get C (by first | exact hM.1 | exact hM.2.1 _ rfl | exact hM.2.2.1 _ rfl) z_cls7 hu_X6 9 (by decide) wb_644 rfl rfl dX6_addKey_76 ?_
        refine z_iconst (v := 1) C dX6_addKey_79 (by decide) ?_
        refine z_iadd C dX6_addKey_80 ?_
        refine z_put C (by first | exact hM.1 | exact hM.2.1 _ rfl | exact hM.2.2.1 _ rfl) z_cls7 hu_X6 (by exact ⟨_, rfl, rfl⟩) 9 (by decide) wb_644 rfl rfl (by rfl) (by rfl) (Nat.le_of_ble_eq_true rfl) dX6_addKey_81 (fun H81 hU81 => ?_)
        have hM := hM.sS hU81 rfl
        refine z_aload_n C dX6_addKey_84 rfl ?_
        refine z_get C (by first | exact hM.1 | exact hM.2.1 _ rfl | exact hM.2.2.1 _ rfl) z_cls7 hu_X6 9 (by decide) wb_644 rfl rfl dX6_addKey_85 ?_
        refine z_iconst (v := 1) C dX6_addKey_88 (by decide) ?_
        refine z_isub C dX6_addKey_89 ?_
        exact z_iret C (by omega) (by omega) dX6_addKey_90 (by first | contradiction | skip; (try simp [m_sA1, m_sA2, m_sS1, m_sS2] at hM); simp [F_addKey, m_later, m_sA1, m_sA2, m_sS1, m_sS2, *])
      · refine z_bipush (v := (-3)) C dX6_addKey_31 (by decide) ?_
        exact z_iret C (by omega) (by omega) dX6_addKey_33 (by first | contradiction | skip; (try simp [m_sA1, m_sA2, m_sS1, m_sS2] at hM); simp [F_addKey, m_later, m_sA1, m_sA2, m_sS1, m_sS2, *])
    · refine z_bipush (v := (-2)) C dX6_addKey_19 (by decide) ?_
      exact z_iret C (by omega) (by omega) dX6_addKey_21 (by first | contradiction | skip; (try simp [m_sA1, m_sA2, m_sS1, m_sS2] at hM); simp [F_addKey, m_later, m_sA1, m_sA2, m_sS1, m_sS2, *])
  · refine z_iconst (v := (-1)) C dX6_addKey_8 (by decide) ?_
    exact z_iret C (by omega) (by omega) dX6_addKey_9 (by first | contradiction | skip; (try simp [m_sA1, m_sA2, m_sS1, m_sS2] at hM); simp [F_addKey, m_later, m_sA1, m_sA2, m_sS1, m_sS2, *])

set_option maxHeartbeats 4000000 in
set_option maxRecDepth 100000 in
theorem c_X6_putGroup (l : Launch) (G : z_G) (ad : Nat → Nat) (M : m_S) (z r t : Int32) (hg : vp_in (M.1 14) 6) : z_M l yX6_putGroup cX6_putGroup 4 (some .int) 0 0 0 [.ref (ad 0), .int z, .int r, .int t] G (fun H => m_R G ad M H) (m_A ad) ((fun v _ H => v = some (.int (F_putGroup M z r t).1) ∧ m_R G ad (F_putGroup M z r t).2 H)) := by
  refine z_M.of (by decide +kernel) (Nat.le_of_ble_eq_true rfl) ?_
  intro p e s m below meth c C hP
  have hM : m_R G ad M s.heap := hP
  refine z_aload_n C dX6_putGroup_0 rfl ?_
  refine z_get C (by first | exact hM.1 | exact hM.2.1 _ rfl | exact hM.2.2.1 _ rfl) z_cls7 hu_X6 15 (by decide) wb_650 rfl rfl dX6_putGroup_1 ?_
  refine z_aload_n C dX6_putGroup_4 rfl ?_
  refine z_get C (by first | exact hM.1 | exact hM.2.1 _ rfl | exact hM.2.2.1 _ rfl) z_cls7 hu_X6 14 (by decide) wb_649 rfl rfl dX6_putGroup_5 ?_
  refine z_iload_n C dX6_putGroup_8 rfl ?_
  refine z_iast C (by first | exact hM.1 | exact hM.2.1 _ rfl | exact hM.2.2.1 _ rfl) (by exact ⟨_, rfl, rfl⟩) (by exact hg) (by first | exact hcli | rfl) dX6_putGroup_9 (fun H9 hU9 => ?_)
  have hM := hM.sI hU9 rfl
  refine z_aload_n C dX6_putGroup_10 rfl ?_
  refine z_get C (by first | exact hM.1 | exact hM.2.1 _ rfl | exact hM.2.2.1 _ rfl) z_cls7 hu_X6 16 (by decide) wb_651 rfl rfl dX6_putGroup_11 ?_
  refine z_aload_n C dX6_putGroup_14 rfl ?_
  refine z_get C (by first | exact hM.1 | exact hM.2.1 _ rfl | exact hM.2.2.1 _ rfl) z_cls7 hu_X6 14 (by decide) wb_649 rfl rfl dX6_putGroup_15 ?_
  refine z_iload_n C dX6_putGroup_18 rfl ?_
  refine z_iast C (by first | exact hM.1 | exact hM.2.1 _ rfl | exact hM.2.2.1 _ rfl) (by exact ⟨_, rfl, rfl⟩) (by exact hg) (by first | exact hcli | rfl) dX6_putGroup_19 (fun H19 hU19 => ?_)
  have hM := hM.sI hU19 rfl
  refine z_aload_n C dX6_putGroup_20 rfl ?_
  refine z_get C (by first | exact hM.1 | exact hM.2.1 _ rfl | exact hM.2.2.1 _ rfl) z_cls7 hu_X6 17 (by decide) wb_652 rfl rfl dX6_putGroup_21 ?_
  refine z_aload_n C dX6_putGroup_24 rfl ?_
  refine z_get C (by first | exact hM.1 | exact hM.2.1 _ rfl | exact hM.2.2.1 _ rfl) z_cls7 hu_X6 14 (by decide) wb_649 rfl rfl dX6_putGroup_25 ?_
  refine z_iload_n C dX6_putGroup_28 rfl ?_
  refine z_iast C (by first | exact hM.1 | exact hM.2.1 _ rfl | exact hM.2.2.1 _ rfl) (by exact ⟨_, rfl, rfl⟩) (by exact hg) (by first | exact hcli | rfl) dX6_putGroup_29 (fun H29 hU29 => ?_)
  have hM := hM.sI hU29 rfl
  refine z_aload_n C dX6_putGroup_30 rfl ?_
  refine z_get C (by first | exact hM.1 | exact hM.2.1 _ rfl | exact hM.2.2.1 _ rfl) z_cls7 hu_X6 18 (by decide) wb_653 rfl rfl dX6_putGroup_31 ?_
  refine z_aload_n C dX6_putGroup_34 rfl ?_
  refine z_get C (by first | exact hM.1 | exact hM.2.1 _ rfl | exact hM.2.2.1 _ rfl) z_cls7 hu_X6 14 (by decide) wb_649 rfl rfl dX6_putGroup_35 ?_
  refine z_iconst (v := 0) C dX6_putGroup_38 (by decide) ?_
  refine z_iast C (by first | exact hM.1 | exact hM.2.1 _ rfl | exact hM.2.2.1 _ rfl) (by exact ⟨_, rfl, rfl⟩) (by exact hg) (by first | exact hcli | rfl) dX6_putGroup_39 (fun H39 hU39 => ?_)
  have hM := hM.sI hU39 rfl
  refine z_aload_n C dX6_putGroup_40 rfl ?_
  refine z_get C (by first | exact hM.1 | exact hM.2.1 _ rfl | exact hM.2.2.1 _ rfl) z_cls7 hu_X6 19 (by decide) wb_654 rfl rfl dX6_putGroup_41 ?_
  refine z_aload_n C dX6_putGroup_44 rfl ?_
  refine z_get C (by first | exact hM.1 | exact hM.2.1 _ rfl | exact hM.2.2.1 _ rfl) z_cls7 hu_X6 14 (by decide) wb_649 rfl rfl dX6_putGroup_45 ?_
  refine z_iconst (v := 0) C dX6_putGroup_48 (by decide) ?_
  refine z_iast C (by first | exact hM.1 | exact hM.2.1 _ rfl | exact hM.2.2.1 _ rfl) (by exact ⟨_, rfl, rfl⟩) (by exact hg) (by first | exact hcli | rfl) dX6_putGroup_49 (fun H49 hU49 => ?_)
  have hM := hM.sI hU49 rfl
  refine z_aload_n C dX6_putGroup_50 rfl ?_
  refine z_dup C dX6_putGroup_51 rfl ?_
  refine z_get C (by first | exact hM.1 | exact hM.2.1 _ rfl | exact hM.2.2.1 _ rfl) z_cls7 hu_X6 14 (by decide) wb_649 rfl rfl dX6_putGroup_52 ?_
  refine z_iconst (v := 1) C dX6_putGroup_55 (by decide) ?_
  refine z_iadd C dX6_putGroup_56 ?_
  refine z_put C (by first | exact hM.1 | exact hM.2.1 _ rfl | exact hM.2.2.1 _ rfl) z_cls7 hu_X6 (by exact ⟨_, rfl, rfl⟩) 14 (by decide) wb_649 rfl rfl (by rfl) (by rfl) (Nat.le_of_ble_eq_true rfl) dX6_putGroup_57 (fun H57 hU57 => ?_)
  have hM := hM.sS hU57 rfl
  refine z_aload_n C dX6_putGroup_60 rfl ?_
  refine z_get C (by first | exact hM.1 | exact hM.2.1 _ rfl | exact hM.2.2.1 _ rfl) z_cls7 hu_X6 14 (by decide) wb_649 rfl rfl dX6_putGroup_61 ?_
  refine z_iconst (v := 1) C dX6_putGroup_64 (by decide) ?_
  refine z_isub C dX6_putGroup_65 ?_
  exact z_iret C (by omega) (by omega) dX6_putGroup_66 (by first | contradiction | skip; (try simp [m_sA1, m_sA2, m_sS1, m_sS2] at hM); simp [F_putGroup, m_later, m_sA1, m_sA2, m_sS1, m_sS2, *])

set_option maxHeartbeats 4000000 in
set_option maxRecDepth 100000 in
theorem c_X6_addGroup (l : Launch) (G : z_G) (ad : Nat → Nat) (M : m_S) {nR nD nK nG : Nat} (hN : m_N M nR nD nK nG) (z r : Int32) : z_M l yX6_addGroup cX6_addGroup 3 (some .int) 2 0 0 [.ref (ad 0), .int z, .int r] G (fun H => m_R G ad M H) (m_A ad) ((fun v _ H => v = some (.int (F_addGroup M nG z r).1) ∧ m_R G ad (F_addGroup M nG z r).2 H)) := by
  refine z_M.of (by decide +kernel) (Nat.le_of_ble_eq_true rfl) ?_
  intro p e s m below meth c C hP
  have hM : m_R G ad M s.heap := hP
  have hR12 := hN.1.2; have hD16 := hN.2.1.2; have hK16 := hN.2.2.1.2; have hG6 := hN.2.2.2.2
  refine z_aload_n C dX6_addGroup_0 rfl ?_
  refine z_iload_n C dX6_addGroup_1 rfl ?_
  refine z_callVR (As := [.int _]) C (c_X6_noRoom _ _ ad M _) kc_X6_noRoom wb_741 ⟨by decide, by decide⟩ hM.1 rfl (hM) ⟨Nat.zero_le _, Nat.zero_le _⟩ (Nat.le_of_ble_eq_true rfl) dX6_addGroup_2 ?_
  refine z_ifb_eq C 10 dX6_addGroup_5 (by decide) (fun h5 => ?_) (fun h5 => ?_)
  · refine z_iload_n C dX6_addGroup_10 rfl ?_
    refine z_iconst (v := 1) C dX6_addGroup_11 (by decide) ?_
    refine z_bipush (v := 24) C dX6_addGroup_12 (by decide) ?_
    refine z_callSR (As := [.int _, .int _, .int _]) C (c_X6_in _ _ _ _ _) kc_X6_in wb_745 ⟨by decide, by decide⟩ (trivial) ⟨Nat.zero_le _, Nat.zero_le _⟩ (Nat.le_of_ble_eq_true rfl) dX6_addGroup_14 ?_
    refine z_ifb_ne C 23 dX6_addGroup_17 (by decide) (fun h17 => ?_) (fun h17 => ?_)
    · refine z_aload_n C dX6_addGroup_23 rfl ?_
      refine z_get C (by first | exact hM.1 | exact hM.2.1 _ rfl | exact hM.2.2.1 _ rfl) z_cls7 hu_X6 14 (by decide) wb_649 rfl rfl dX6_addGroup_24 ?_
      refine z_bipush (v := 6) C dX6_addGroup_27 (by decide) ?_
      refine z_icmp_eq C 43 dX6_addGroup_29 (by decide) (fun h29 => ?_) (fun h29 => ?_)
      · refine z_bipush (v := (-3)) C dX6_addGroup_43 (by decide) ?_
        refine z_goto C 55 dX6_addGroup_45 (by decide) ?_
        exact z_iret C (by omega) (by omega) dX6_addGroup_55 (by first | contradiction | skip; (try simp [m_sA1, m_sA2, m_sS1, m_sS2] at hM); simp [F_addGroup, m_later, m_sA1, m_sA2, m_sS1, m_sS2, *])
      · refine z_aload_n C dX6_addGroup_32 rfl ?_
        refine z_callVR (As := []) C (c_X6_players _ _ ad M hN) kc_X6_players wb_772 ⟨by decide, by decide⟩ hM.1 rfl (hM) ⟨Nat.zero_le _, Nat.zero_le _⟩ (Nat.le_of_ble_eq_true rfl) dX6_addGroup_33 ?_
        refine z_iload_n C dX6_addGroup_36 rfl ?_
        refine z_iadd C dX6_addGroup_37 ?_
        refine z_bipush (v := 24) C dX6_addGroup_38 (by decide) ?_
        refine z_icmp_le C 48 dX6_addGroup_40 (by decide) (fun h40 => ?_) (fun h40 => ?_)
        · refine z_aload_n C dX6_addGroup_48 rfl ?_
          refine z_iload_n C dX6_addGroup_49 rfl ?_
          refine z_iload_n C dX6_addGroup_50 rfl ?_
          refine z_iconst (v := 0) C dX6_addGroup_51 (by decide) ?_
          refine z_callV (As := [.int _, .int _, .int _]) C (c_X6_putGroup _ _ ad M _ _ _ (by first | exact m_roomX hN.2.2.2.1 hN.2.2.2.2 (by decide) (by assumption))) kc_X6_putGroup wb_776 ⟨by decide, by decide⟩ hM.1 rfl (hM) (fun _ h => h) ⟨Nat.zero_le _, Nat.zero_le _⟩ (Nat.le_of_ble_eq_true rfl) dX6_addGroup_52 (fun v H52 hq _ _ => ?_)
          obtain ⟨rfl, hM⟩ := hq
          exact z_iret C (by omega) (by omega) dX6_addGroup_55 (by first | contradiction | skip; (try simp [m_sA1, m_sA2, m_sS1, m_sS2] at hM); simp [F_addGroup, m_later, m_sA1, m_sA2, m_sS1, m_sS2, *])
        · refine z_bipush (v := (-3)) C dX6_addGroup_43 (by decide) ?_
          refine z_goto C 55 dX6_addGroup_45 (by decide) ?_
          exact z_iret C (by omega) (by omega) dX6_addGroup_55 (by first | contradiction | skip; (try simp [m_sA1, m_sA2, m_sS1, m_sS2] at hM); simp [F_addGroup, m_later, m_sA1, m_sA2, m_sS1, m_sS2, *])
    · refine z_bipush (v := (-2)) C dX6_addGroup_20 (by decide) ?_
      exact z_iret C (by omega) (by omega) dX6_addGroup_22 (by first | contradiction | skip; (try simp [m_sA1, m_sA2, m_sS1, m_sS2] at hM); simp [F_addGroup, m_later, m_sA1, m_sA2, m_sS1, m_sS2, *])
  · refine z_iconst (v := (-1)) C dX6_addGroup_8 (by decide) ?_
    exact z_iret C (by omega) (by omega) dX6_addGroup_9 (by first | contradiction | skip; (try simp [m_sA1, m_sA2, m_sS1, m_sS2] at hM); simp [F_addGroup, m_later, m_sA1, m_sA2, m_sS1, m_sS2, *])

set_option maxHeartbeats 4000000 in
set_option maxRecDepth 100000 in
theorem c_X6_setHints (l : Launch) (G : z_G) (ad : Nat → Nat) (M : m_S) (b t : Int32) : z_M l yX6_setHints cX6_setHints 4 (some .int) 1 0 0 [.ref (ad 0), .int b, .int t] G (fun H => m_R G ad M H) (m_A ad) ((fun v _ H => v = some (.int (F_setHints M b t).1) ∧ m_R G ad (F_setHints M b t).2 H)) := by
  refine z_M.of (by decide +kernel) (Nat.le_of_ble_eq_true rfl) ?_
  intro p e s m below meth c C hP
  have hM : m_R G ad M s.heap := hP
  refine z_iload_n C dX6_setHints_0 rfl ?_
  refine z_iconst (v := 1) C dX6_setHints_1 (by decide) ?_
  refine z_bipush (v := 30) C dX6_setHints_2 (by decide) ?_
  refine z_callSR (As := [.int _, .int _, .int _]) C (c_X6_in _ _ _ _ _) kc_X6_in wb_745 ⟨by decide, by decide⟩ (trivial) ⟨Nat.zero_le _, Nat.zero_le _⟩ (Nat.le_of_ble_eq_true rfl) dX6_setHints_4 ?_
  refine z_ifb_eq C 20 dX6_setHints_7 (by decide) (fun h7 => ?_) (fun h7 => ?_)
  · refine z_bipush (v := (-2)) C dX6_setHints_20 (by decide) ?_
    exact z_iret C (by omega) (by omega) dX6_setHints_22 (by first | contradiction | skip; (try simp [m_sA1, m_sA2, m_sS1, m_sS2] at hM); simp [F_setHints, m_later, m_sA1, m_sA2, m_sS1, m_sS2, *])
  · refine z_iload_n C dX6_setHints_10 rfl ?_
    refine z_iconst (v := 0) C dX6_setHints_11 (by decide) ?_
    refine z_bipush (v := 30) C dX6_setHints_12 (by decide) ?_
    refine z_callSR (As := [.int _, .int _, .int _]) C (c_X6_in _ _ _ _ _) kc_X6_in wb_745 ⟨by decide, by decide⟩ (trivial) ⟨Nat.zero_le _, Nat.zero_le _⟩ (Nat.le_of_ble_eq_true rfl) dX6_setHints_14 ?_
    refine z_ifb_ne C 23 dX6_setHints_17 (by decide) (fun h17 => ?_) (fun h17 => ?_)
    · refine z_aload_n C dX6_setHints_23 rfl ?_
      refine z_get C (by first | exact hM.1 | exact hM.2.1 _ rfl | exact hM.2.2.1 _ rfl) z_cls7 hu_X6 20 (by decide) wb_655 rfl rfl dX6_setHints_24 ?_
      refine z_istore_n C dX6_setHints_27 (by decide) ?_
      refine z_aload_n C dX6_setHints_28 rfl ?_
      refine z_iload_n C dX6_setHints_29 rfl ?_
      refine z_put C (by first | exact hM.1 | exact hM.2.1 _ rfl | exact hM.2.2.1 _ rfl) z_cls7 hu_X6 (by exact ⟨_, rfl, rfl⟩) 20 (by decide) wb_655 rfl rfl (by rfl) (by rfl) (Nat.le_of_ble_eq_true rfl) dX6_setHints_30 (fun H30 hU30 => ?_)
      have hM := hM.sS hU30 rfl
      refine z_aload_n C dX6_setHints_33 rfl ?_
      refine z_iload_n C dX6_setHints_34 rfl ?_
      refine z_put C (by first | exact hM.1 | exact hM.2.1 _ rfl | exact hM.2.2.1 _ rfl) z_cls7 hu_X6 (by exact ⟨_, rfl, rfl⟩) 21 (by decide) wb_656 rfl rfl (by rfl) (by rfl) (Nat.le_of_ble_eq_true rfl) dX6_setHints_35 (fun H35 hU35 => ?_)
      have hM := hM.sS hU35 rfl
      refine z_iload_n C dX6_setHints_38 rfl ?_
      exact z_iret C (by omega) (by omega) dX6_setHints_39 (by first | contradiction | skip; (try simp [m_sA1, m_sA2, m_sS1, m_sS2] at hM); simp [F_setHints, m_later, m_sA1, m_sA2, m_sS1, m_sS2, *])
    · refine z_bipush (v := (-2)) C dX6_setHints_20 (by decide) ?_
      exact z_iret C (by omega) (by omega) dX6_setHints_22 (by first | contradiction | skip; (try simp [m_sA1, m_sA2, m_sS1, m_sS2] at hM); simp [F_setHints, m_later, m_sA1, m_sA2, m_sS1, m_sS2, *])

set_option maxHeartbeats 4000000 in
set_option maxRecDepth 100000 in
theorem c_X6_walk (l : Launch) (G : z_G) (ad : Nat → Nat) (M : m_S) {nR nD nK nG : Nat} (hN : m_N M nR nD nK nG) (g d : Int32) : z_M l yX6_walk cX6_walk 4 (some .int) 2 0 0 [.ref (ad 0), .int g, .int d] G (fun H => m_R G ad M H) (m_A ad) ((fun v _ H => v = some (.int (F_walk M g d).1) ∧ m_R G ad (F_walk M g d).2 H)) := by
  refine z_M.of (by decide +kernel) (Nat.le_of_ble_eq_true rfl) ?_
  intro p e s m below meth c C hP
  have hM : m_R G ad M s.heap := hP
  have hR12 := hN.1.2; have hD16 := hN.2.1.2; have hK16 := hN.2.2.1.2; have hG6 := hN.2.2.2.2
  refine z_aload_n C dX6_walk_0 rfl ?_
  refine z_iload_n C dX6_walk_1 rfl ?_
  refine z_callVR (As := [.int _]) C (c_X6_noGroup _ _ ad M _) kc_X6_noGroup wb_788 ⟨by decide, by decide⟩ hM.1 rfl (hM) ⟨Nat.zero_le _, Nat.zero_le _⟩ (Nat.le_of_ble_eq_true rfl) dX6_walk_2 ?_
  refine z_ifb_ne C 16 dX6_walk_5 (by decide) (fun h5 => ?_) (fun h5 => ?_)
  · refine z_iconst (v := (-1)) C dX6_walk_16 (by decide) ?_
    exact z_iret C (by omega) (by omega) dX6_walk_17 (by first | contradiction | skip; (try simp [m_sA1, m_sA2, m_sS1, m_sS2] at hM); simp [F_walk, m_later, m_sA1, m_sA2, m_sS1, m_sS2, *])
  · refine z_aload_n C dX6_walk_8 rfl ?_
    refine z_iload_n C dX6_walk_9 rfl ?_
    refine z_callVR (As := [.int _]) C (c_X6_noDoor _ _ ad M _) kc_X6_noDoor wb_792 ⟨by decide, by decide⟩ hM.1 rfl (hM) ⟨Nat.zero_le _, Nat.zero_le _⟩ (Nat.le_of_ble_eq_true rfl) dX6_walk_10 ?_
    refine z_ifb_eq C 18 dX6_walk_13 (by decide) (fun h13 => ?_) (fun h13 => ?_)
    · refine z_aload_n C dX6_walk_18 rfl ?_
      refine z_iload_n C dX6_walk_19 rfl ?_
      refine z_callVR (As := [.int _]) C (c_X6_plays _ _ ad M _ (by first | assumption | exact m_noG hN (by assumption) | exact m_noD hN (by assumption) | exact m_noK hN (by assumption))) kc_X6_plays wb_796 ⟨by decide, by decide⟩ hM.1 rfl (hM) ⟨Nat.zero_le _, Nat.zero_le _⟩ (Nat.le_of_ble_eq_true rfl) dX6_walk_20 ?_
      refine z_ifb_eq C 49 dX6_walk_23 (by decide) (fun h23 => ?_) (fun h23 => ?_)
      · refine z_bipush (v := (-4)) C dX6_walk_49 (by decide) ?_
        exact z_iret C (by omega) (by omega) dX6_walk_51 (by first | contradiction | skip; (try simp [m_sA1, m_sA2, m_sS1, m_sS2] at hM); simp [F_walk, m_later, m_sA1, m_sA2, m_sS1, m_sS2, *])
      · refine z_aload_n C dX6_walk_26 rfl ?_
        refine z_iload_n C dX6_walk_27 rfl ?_
        refine z_aload_n C dX6_walk_28 rfl ?_
        refine z_get C (by first | exact hM.1 | exact hM.2.1 _ rfl | exact hM.2.2.1 _ rfl) z_cls7 hu_X6 16 (by decide) wb_651 rfl rfl dX6_walk_29 ?_
        refine z_iload_n C dX6_walk_32 rfl ?_
        refine z_iald C (by first | exact hM.1 | exact hM.2.1 _ rfl | exact hM.2.2.1 _ rfl) (by first | assumption | exact m_noG hN (by assumption) | exact m_noD hN (by assumption) | exact m_noK hN (by assumption)) (by first | exact hcli | rfl) dX6_walk_33 ?_
        refine z_callVR (As := [.int _, .int _]) C (c_X6_isAt _ _ ad M _ _ (by first | assumption | exact m_noG hN (by assumption) | exact m_noD hN (by assumption) | exact m_noK hN (by assumption))) kc_X6_isAt wb_800 ⟨by decide, by decide⟩ hM.1 rfl (hM) ⟨Nat.zero_le _, Nat.zero_le _⟩ (Nat.le_of_ble_eq_true rfl) dX6_walk_34 ?_
        refine z_ifb_eq C 49 dX6_walk_37 (by decide) (fun h37 => ?_) (fun h37 => ?_)
        · refine z_bipush (v := (-4)) C dX6_walk_49 (by decide) ?_
          exact z_iret C (by omega) (by omega) dX6_walk_51 (by first | contradiction | skip; (try simp [m_sA1, m_sA2, m_sS1, m_sS2] at hM); simp [F_walk, m_later, m_sA1, m_sA2, m_sS1, m_sS2, *])
        · refine z_aload_n C dX6_walk_40 rfl ?_
          refine z_get C (by first | exact hM.1 | exact hM.2.1 _ rfl | exact hM.2.2.1 _ rfl) z_cls7 hu_X6 8 (by decide) wb_643 rfl rfl dX6_walk_41 ?_
          refine z_iload_n C dX6_walk_44 rfl ?_
          refine z_iald C (by first | exact hM.1 | exact hM.2.1 _ rfl | exact hM.2.2.1 _ rfl) (by first | assumption | exact m_noG hN (by assumption) | exact m_noD hN (by assumption) | exact m_noK hN (by assumption)) (by first | exact hcli | rfl) dX6_walk_45 ?_
          refine z_if_ge C 52 dX6_walk_46 (by decide) (fun h46 => ?_) (fun h46 => ?_)
          · refine z_aload_n C dX6_walk_52 rfl ?_
            refine z_get C (by first | exact hM.1 | exact hM.2.1 _ rfl | exact hM.2.2.1 _ rfl) z_cls7 hu_X6 17 (by decide) wb_652 rfl rfl dX6_walk_53 ?_
            refine z_iload_n C dX6_walk_56 rfl ?_
            refine z_iald C (by first | exact hM.1 | exact hM.2.1 _ rfl | exact hM.2.2.1 _ rfl) (by first | assumption | exact m_noG hN (by assumption) | exact m_noD hN (by assumption) | exact m_noK hN (by assumption)) (by first | exact hcli | rfl) dX6_walk_57 ?_
            refine z_aload_n C dX6_walk_58 rfl ?_
            refine z_get C (by first | exact hM.1 | exact hM.2.1 _ rfl | exact hM.2.2.1 _ rfl) z_cls7 hu_X6 8 (by decide) wb_643 rfl rfl dX6_walk_59 ?_
            refine z_iload_n C dX6_walk_62 rfl ?_
            refine z_iald C (by first | exact hM.1 | exact hM.2.1 _ rfl | exact hM.2.2.1 _ rfl) (by first | assumption | exact m_noG hN (by assumption) | exact m_noD hN (by assumption) | exact m_noK hN (by assumption)) (by first | exact hcli | rfl) dX6_walk_63 ?_
            refine z_icmp_ge C 76 dX6_walk_64 (by decide) (fun h64 => ?_) (fun h64 => ?_)
            · refine z_aload_n C dX6_walk_76 rfl ?_
              refine z_get C (by first | exact hM.1 | exact hM.2.1 _ rfl | exact hM.2.2.1 _ rfl) z_cls7 hu_X6 17 (by decide) wb_652 rfl rfl dX6_walk_77 ?_
              refine z_iload_n C dX6_walk_80 rfl ?_
              refine z_iald C (by first | exact hM.1 | exact hM.2.1 _ rfl | exact hM.2.2.1 _ rfl) (by first | assumption | exact m_noG hN (by assumption) | exact m_noD hN (by assumption) | exact m_noK hN (by assumption)) (by first | exact hcli | rfl) dX6_walk_81 ?_
              refine z_aload_n C dX6_walk_82 rfl ?_
              refine z_get C (by first | exact hM.1 | exact hM.2.1 _ rfl | exact hM.2.2.1 _ rfl) z_cls7 hu_X6 5 (by decide) wb_640 rfl rfl dX6_walk_83 ?_
              refine z_iload_n C dX6_walk_86 rfl ?_
              refine z_iald C (by first | exact hM.1 | exact hM.2.1 _ rfl | exact hM.2.2.1 _ rfl) (by first | assumption | exact m_noG hN (by assumption) | exact m_noD hN (by assumption) | exact m_noK hN (by assumption)) (by first | exact hcli | rfl) dX6_walk_87 ?_
              refine z_iadd C dX6_walk_88 ?_
              refine z_istore_n C dX6_walk_89 (by decide) ?_
              refine z_iload_n C dX6_walk_90 rfl ?_
              refine z_ldc C wb_804 dX6_walk_91 ?_
              refine z_icmp_le C 99 dX6_walk_93 (by decide) (fun h93 => ?_) (fun h93 => ?_)
              · refine z_aload_n C dX6_walk_99 rfl ?_
                refine z_get C (by first | exact hM.1 | exact hM.2.1 _ rfl | exact hM.2.2.1 _ rfl) z_cls7 hu_X6 17 (by decide) wb_652 rfl rfl dX6_walk_100 ?_
                refine z_iload_n C dX6_walk_103 rfl ?_
                refine z_iload_n C dX6_walk_104 rfl ?_
                refine z_iast C (by first | exact hM.1 | exact hM.2.1 _ rfl | exact hM.2.2.1 _ rfl) (by exact ⟨_, rfl, rfl⟩) (by first | assumption | exact m_noG hN (by assumption) | exact m_noD hN (by assumption) | exact m_noK hN (by assumption)) (by first | exact hcli | rfl) dX6_walk_105 (fun H105 hU105 => ?_)
                have hM := hM.sI hU105 rfl
                refine z_aload_n C dX6_walk_106 rfl ?_
                refine z_get C (by first | exact hM.1 | exact hM.2.1 _ rfl | exact hM.2.2.1 _ rfl) z_cls7 hu_X6 16 (by decide) wb_651 rfl rfl dX6_walk_107 ?_
                refine z_iload_n C dX6_walk_110 rfl ?_
                refine z_aload_n C dX6_walk_111 rfl ?_
                refine z_get C (by first | exact hM.1 | exact hM.2.1 _ rfl | exact hM.2.2.1 _ rfl) z_cls7 hu_X6 3 (by decide) wb_638 rfl rfl dX6_walk_112 ?_
                refine z_iload_n C dX6_walk_115 rfl ?_
                refine z_iald C (by first | exact hM.1 | exact hM.2.1 _ rfl | exact hM.2.2.1 _ rfl) (by first | assumption | exact m_noG hN (by assumption) | exact m_noD hN (by assumption) | exact m_noK hN (by assumption)) (by first | exact hcli | rfl) dX6_walk_116 ?_
                refine z_aload_n C dX6_walk_117 rfl ?_
                refine z_get C (by first | exact hM.1 | exact hM.2.1 _ rfl | exact hM.2.2.1 _ rfl) z_cls7 hu_X6 4 (by decide) wb_639 rfl rfl dX6_walk_118 ?_
                refine z_iload_n C dX6_walk_121 rfl ?_
                refine z_iald C (by first | exact hM.1 | exact hM.2.1 _ rfl | exact hM.2.2.1 _ rfl) (by first | assumption | exact m_noG hN (by assumption) | exact m_noD hN (by assumption) | exact m_noK hN (by assumption)) (by first | exact hcli | rfl) dX6_walk_122 ?_
                refine z_iadd C dX6_walk_123 ?_
                refine z_aload_n C dX6_walk_124 rfl ?_
                refine z_get C (by first | exact hM.1 | exact hM.2.1 _ rfl | exact hM.2.2.1 _ rfl) z_cls7 hu_X6 16 (by decide) wb_651 rfl rfl dX6_walk_125 ?_
                refine z_iload_n C dX6_walk_128 rfl ?_
                refine z_iald C (by first | exact hM.1 | exact hM.2.1 _ rfl | exact hM.2.2.1 _ rfl) (by first | assumption | exact m_noG hN (by assumption) | exact m_noD hN (by assumption) | exact m_noK hN (by assumption)) (by first | exact hcli | rfl) dX6_walk_129 ?_
                refine z_isub C dX6_walk_130 ?_
                refine z_iast C (by first | exact hM.1 | exact hM.2.1 _ rfl | exact hM.2.2.1 _ rfl) (by exact ⟨_, rfl, rfl⟩) (by first | assumption | exact m_noG hN (by assumption) | exact m_noD hN (by assumption) | exact m_noK hN (by assumption)) (by first | exact hcli | rfl) dX6_walk_131 (fun H131 hU131 => ?_)
                have hM := hM.sI hU131 rfl
                refine z_iload_n C dX6_walk_132 rfl ?_
                exact z_iret C (by omega) (by omega) dX6_walk_133 (by first | contradiction | skip; (try simp [m_sA1, m_sA2, m_sS1, m_sS2] at hM); simp [F_walk, m_later, m_sA1, m_sA2, m_sS1, m_sS2, *])
              · refine z_bipush (v := (-5)) C dX6_walk_96 (by decide) ?_
                exact z_iret C (by omega) (by omega) dX6_walk_98 (by first | contradiction | skip; (try simp [m_sA1, m_sA2, m_sS1, m_sS2] at hM); simp [F_walk, m_later, m_sA1, m_sA2, m_sS1, m_sS2, *])
            · refine z_aload_n C dX6_walk_67 rfl ?_
              refine z_get C (by first | exact hM.1 | exact hM.2.1 _ rfl | exact hM.2.2.1 _ rfl) z_cls7 hu_X6 8 (by decide) wb_643 rfl rfl dX6_walk_68 ?_
              refine z_iload_n C dX6_walk_71 rfl ?_
              refine z_iald C (by first | exact hM.1 | exact hM.2.1 _ rfl | exact hM.2.2.1 _ rfl) (by first | assumption | exact m_noG hN (by assumption) | exact m_noD hN (by assumption) | exact m_noK hN (by assumption)) (by first | exact hcli | rfl) dX6_walk_72 ?_
              refine z_goto C 82 dX6_walk_73 (by decide) ?_
              refine z_aload_n C dX6_walk_82 rfl ?_
              refine z_get C (by first | exact hM.1 | exact hM.2.1 _ rfl | exact hM.2.2.1 _ rfl) z_cls7 hu_X6 5 (by decide) wb_640 rfl rfl dX6_walk_83 ?_
              refine z_iload_n C dX6_walk_86 rfl ?_
              refine z_iald C (by first | exact hM.1 | exact hM.2.1 _ rfl | exact hM.2.2.1 _ rfl) (by first | assumption | exact m_noG hN (by assumption) | exact m_noD hN (by assumption) | exact m_noK hN (by assumption)) (by first | exact hcli | rfl) dX6_walk_87 ?_
              refine z_iadd C dX6_walk_88 ?_
              refine z_istore_n C dX6_walk_89 (by decide) ?_
              refine z_iload_n C dX6_walk_90 rfl ?_
              refine z_ldc C wb_804 dX6_walk_91 ?_
              refine z_icmp_le C 99 dX6_walk_93 (by decide) (fun h93 => ?_) (fun h93 => ?_)
              · refine z_aload_n C dX6_walk_99 rfl ?_
                refine z_get C (by first | exact hM.1 | exact hM.2.1 _ rfl | exact hM.2.2.1 _ rfl) z_cls7 hu_X6 17 (by decide) wb_652 rfl rfl dX6_walk_100 ?_
                refine z_iload_n C dX6_walk_103 rfl ?_
                refine z_iload_n C dX6_walk_104 rfl ?_
                refine z_iast C (by first | exact hM.1 | exact hM.2.1 _ rfl | exact hM.2.2.1 _ rfl) (by exact ⟨_, rfl, rfl⟩) (by first | assumption | exact m_noG hN (by assumption) | exact m_noD hN (by assumption) | exact m_noK hN (by assumption)) (by first | exact hcli | rfl) dX6_walk_105 (fun H105 hU105 => ?_)
                have hM := hM.sI hU105 rfl
                refine z_aload_n C dX6_walk_106 rfl ?_
                refine z_get C (by first | exact hM.1 | exact hM.2.1 _ rfl | exact hM.2.2.1 _ rfl) z_cls7 hu_X6 16 (by decide) wb_651 rfl rfl dX6_walk_107 ?_
                refine z_iload_n C dX6_walk_110 rfl ?_
                refine z_aload_n C dX6_walk_111 rfl ?_
                refine z_get C (by first | exact hM.1 | exact hM.2.1 _ rfl | exact hM.2.2.1 _ rfl) z_cls7 hu_X6 3 (by decide) wb_638 rfl rfl dX6_walk_112 ?_
                refine z_iload_n C dX6_walk_115 rfl ?_
                refine z_iald C (by first | exact hM.1 | exact hM.2.1 _ rfl | exact hM.2.2.1 _ rfl) (by first | assumption | exact m_noG hN (by assumption) | exact m_noD hN (by assumption) | exact m_noK hN (by assumption)) (by first | exact hcli | rfl) dX6_walk_116 ?_
                refine z_aload_n C dX6_walk_117 rfl ?_
                refine z_get C (by first | exact hM.1 | exact hM.2.1 _ rfl | exact hM.2.2.1 _ rfl) z_cls7 hu_X6 4 (by decide) wb_639 rfl rfl dX6_walk_118 ?_
                refine z_iload_n C dX6_walk_121 rfl ?_
                refine z_iald C (by first | exact hM.1 | exact hM.2.1 _ rfl | exact hM.2.2.1 _ rfl) (by first | assumption | exact m_noG hN (by assumption) | exact m_noD hN (by assumption) | exact m_noK hN (by assumption)) (by first | exact hcli | rfl) dX6_walk_122 ?_
                refine z_iadd C dX6_walk_123 ?_
                refine z_aload_n C dX6_walk_124 rfl ?_
                refine z_get C (by first | exact hM.1 | exact hM.2.1 _ rfl | exact hM.2.2.1 _ rfl) z_cls7 hu_X6 16 (by decide) wb_651 rfl rfl dX6_walk_125 ?_
                refine z_iload_n C dX6_walk_128 rfl ?_
                refine z_iald C (by first | exact hM.1 | exact hM.2.1 _ rfl | exact hM.2.2.1 _ rfl) (by first | assumption | exact m_noG hN (by assumption) | exact m_noD hN (by assumption) | exact m_noK hN (by assumption)) (by first | exact hcli | rfl) dX6_walk_129 ?_
                refine z_isub C dX6_walk_130 ?_
                refine z_iast C (by first | exact hM.1 | exact hM.2.1 _ rfl | exact hM.2.2.1 _ rfl) (by exact ⟨_, rfl, rfl⟩) (by first | assumption | exact m_noG hN (by assumption) | exact m_noD hN (by assumption) | exact m_noK hN (by assumption)) (by first | exact hcli | rfl) dX6_walk_131 (fun H131 hU131 => ?_)
                have hM := hM.sI hU131 rfl
                refine z_iload_n C dX6_walk_132 rfl ?_
                exact z_iret C (by omega) (by omega) dX6_walk_133 (by first | contradiction | skip; (try simp [m_sA1, m_sA2, m_sS1, m_sS2] at hM); simp [F_walk, m_later, m_sA1, m_sA2, m_sS1, m_sS2, *])
              · refine z_bipush (v := (-5)) C dX6_walk_96 (by decide) ?_
                exact z_iret C (by omega) (by omega) dX6_walk_98 (by first | contradiction | skip; (try simp [m_sA1, m_sA2, m_sS1, m_sS2] at hM); simp [F_walk, m_later, m_sA1, m_sA2, m_sS1, m_sS2, *])
          · refine z_bipush (v := (-4)) C dX6_walk_49 (by decide) ?_
            exact z_iret C (by omega) (by omega) dX6_walk_51 (by first | contradiction | skip; (try simp [m_sA1, m_sA2, m_sS1, m_sS2] at hM); simp [F_walk, m_later, m_sA1, m_sA2, m_sS1, m_sS2, *])
    · refine z_iconst (v := (-1)) C dX6_walk_16 (by decide) ?_
      exact z_iret C (by omega) (by omega) dX6_walk_17 (by first | contradiction | skip; (try simp [m_sA1, m_sA2, m_sS1, m_sS2] at hM); simp [F_walk, m_later, m_sA1, m_sA2, m_sS1, m_sS2, *])

theorem m_ff_step {p : Nat → Bool} {n i : Nat} (h : i < n) (hp : p i = false) : m_ff p (n - i) i = m_ff p (n - (i + 1)) (i + 1) := by
  have e2 : n - i = (n - (i + 1)) + 1 := by omega
  rw [e2]; simp [m_ff, hp]
theorem m_ff_hit {p : Nat → Bool} {n i : Nat} (h : i < n) (hp : p i = true) : m_ff p (n - i) i = nI i := by
  have e2 : n - i = (n - (i + 1)) + 1 := by omega
  rw [e2]; simp [m_ff, hp]
theorem z_loopI {p : Program} {l : Launch} {e : Env} {R : Room} {s : State} {m : MethodId} {args : Array Value} {below : List Frame} {meth : Method} {c : Code} {A : Nat → Prop} {n cells slots : Nat} {Q : State → Prop} {H : Heap} {pc : Nat} {L : List (Nat × Value)} {st : List Value} (I : Nat → Prop) (h0 : I 0) (Lf : Nat → List (Nat × Value)) (n0 : Nat) (hL : z_all (Lf 0) L)
    (h : ∀ i, i ≤ n0 → I i → (i < n0 → I (i + 1) → ∀ L', z_all (Lf (i + 1)) L' → z_Z p l e R s m args below meth c A n cells slots Q H pc L' st) → z_Z p l e R s m args below meth c A n cells slots Q H pc (Lf i) st) : z_Z p l e R s m args below meth c A n cells slots Q H pc L st := by
  have key : ∀ j i, i + j = n0 → I i → z_Z p l e R s m args below meth c A n cells slots Q H pc (Lf i) st := by
    intro j
    induction j with
    | zero => intro i hi hI; exact h i (by omega) hI (fun q => absurd q (by omega))
    | succ j ih => intro i hi hI; exact h i (by omega) hI (fun _ hI2 L' hL' => z_sub _ hL' (ih (i + 1) (by omega) hI2))
  exact z_sub _ hL (key n0 0 (by omega) h0)
set_option maxHeartbeats 4000000 in
set_option maxRecDepth 100000 in
theorem c_X6_keyFor (l : Launch) (G : z_G) (ad : Nat → Nat) (M : m_S) {nR nD nK nG : Nat} (hN : m_N M nR nD nK nG) (g c0 : Int32) : z_MR l yX6_keyFor cX6_keyFor 4 (some .int) 1 [.ref (ad 0), .int g, .int c0] G (fun H => m_R G ad M H) (.int (m_kf M nK g c0)) := by
  refine z_M.of (by decide +kernel) (Nat.le_of_ble_eq_true rfl) ?_
  intro p e s m below meth c C hP
  have hM : m_R G ad M s.heap := hP
  have hR12 := hN.1.2; have hD16 := hN.2.1.2; have hK16 := hN.2.2.1.2; have hG6 := hN.2.2.2.2
  refine z_iconst (v := 0) C dX6_keyFor_0 (by decide) ?_
  refine z_istore_n C dX6_keyFor_1 (by decide) ?_
  refine z_loopI (fun i => m_ff (fun k => m_ho M g (nI k) && decide (M.2 10 k = c0)) nK 0 = m_ff (fun k => m_ho M g (nI k) && decide (M.2 10 k = c0)) (nK - i) i) rfl (fun i => [(0, .ref (ad 0)), (1, .int g), (2, .int c0), (3, .int (nI i))]) nK ⟨rfl, rfl, rfl, rfl, trivial⟩ (fun i hi hinv ihi => ?_)
  refine z_iload_n C dX6_keyFor_2 rfl ?_
  refine z_aload_n C dX6_keyFor_3 rfl ?_
  refine z_get C (by first | exact hM.1 | exact hM.2.1 _ rfl | exact hM.2.2.1 _ rfl) z_cls7 hu_X6 9 (by decide) wb_644 rfl rfl dX6_keyFor_4 ?_
  refine z_icmp_ge C 37 dX6_keyFor_7 (by decide) (fun h7 => ?_) (fun h7 => ?_)
  · obtain rfl := z_ge hN.2.2.1.1 (by omega) hi h7
    refine z_bipush (v := (-6)) C dX6_keyFor_37 (by decide) ?_
    exact z_iret C (by omega) (by omega) dX6_keyFor_39 (by exact ⟨congrArg (fun z => some (Value.int z)) (by show _ = m_ff _ _ 0; rw [hinv, Nat.sub_self]; rfl), rfl⟩)
  · have hlti := z_lt hN.2.2.1.1 (by omega) hi h7
    have hini : vp_in (nI i) 16 := vp_in_nI (by omega) (by omega)
    have hcli : (nI i).toNatClampNeg = i := nI_clamp (by omega)
    refine z_aload_n C dX6_keyFor_10 rfl ?_
    refine z_iload_n C dX6_keyFor_11 rfl ?_
    refine z_iload_n C dX6_keyFor_12 rfl ?_
    refine z_callVR (As := [.int _, .int _]) C (c_X6_holds _ _ ad M _ _ (by first | assumption | exact m_noG hN (by assumption) | exact m_noD hN (by assumption) | exact m_noK hN (by assumption))) kc_X6_holds wb_813 ⟨by decide, by decide⟩ hM.1 rfl (hM) ⟨Nat.zero_le _, Nat.zero_le _⟩ (Nat.le_of_ble_eq_true rfl) dX6_keyFor_13 ?_
    refine z_ifb_eq C 31 dX6_keyFor_16 (by decide) (fun h16 => ?_) (fun h16 => ?_)
    · refine z_iinc C dX6_keyFor_31 rfl rfl (by decide) ?_
      refine z_goto C 2 dX6_keyFor_34 (by decide) ?_
      exact ihi hlti (hinv.trans (m_ff_step hlti (by simp [*]))) _ ⟨rfl, rfl, rfl, z_lgI rfl (z_inc i), trivial⟩
    · refine z_aload_n C dX6_keyFor_19 rfl ?_
      refine z_get C (by first | exact hM.1 | exact hM.2.1 _ rfl | exact hM.2.2.1 _ rfl) z_cls7 hu_X6 10 (by decide) wb_645 rfl rfl dX6_keyFor_20 ?_
      refine z_iload_n C dX6_keyFor_23 rfl ?_
      refine z_iald C (by first | exact hM.1 | exact hM.2.1 _ rfl | exact hM.2.2.1 _ rfl) (by first | assumption | exact m_noG hN (by assumption) | exact m_noD hN (by assumption) | exact m_noK hN (by assumption)) (by first | exact hcli | rfl) dX6_keyFor_24 ?_
      refine z_iload_n C dX6_keyFor_25 rfl ?_
      refine z_icmp_ne C 31 dX6_keyFor_26 (by decide) (fun h26 => ?_) (fun h26 => ?_)
      · refine z_iinc C dX6_keyFor_31 rfl rfl (by decide) ?_
        refine z_goto C 2 dX6_keyFor_34 (by decide) ?_
        exact ihi hlti (hinv.trans (m_ff_step hlti (by simp [*]))) _ ⟨rfl, rfl, rfl, z_lgI rfl (z_inc i), trivial⟩
      · refine z_iload_n C dX6_keyFor_29 rfl ?_
        exact z_iret C (by omega) (by omega) dX6_keyFor_30 (by exact ⟨congrArg (fun z => some (Value.int z)) ((hinv.trans (m_ff_hit hlti (by simp [*]))).symm), rfl⟩)

set_option maxHeartbeats 4000000 in
set_option maxRecDepth 100000 in
theorem c_X6_held (l : Launch) (G : z_G) (ad : Nat → Nat) (M : m_S) {nR nD nK nG : Nat} (hN : m_N M nR nD nK nG) (g : Int32) : z_MR l yX6_held cX6_held 4 (some .int) 1 [.ref (ad 0), .int g] G (fun H => m_R G ad M H) (.int (m_held M nK g)) := by
  refine z_M.of (by decide +kernel) (Nat.le_of_ble_eq_true rfl) ?_
  intro p e s m below meth c C hP
  have hM : m_R G ad M s.heap := hP
  have hR12 := hN.1.2; have hD16 := hN.2.1.2; have hK16 := hN.2.2.1.2; have hG6 := hN.2.2.2.2
  refine z_iconst (v := 0) C dX6_held_0 (by decide) ?_
  refine z_istore_n C dX6_held_1 (by decide) ?_
  refine z_iconst (v := 0) C dX6_held_2 (by decide) ?_
  refine z_istore_n C dX6_held_3 (by decide) ?_
  refine z_loopN (fun i => [(0, .ref (ad 0)), (1, .int g), (2, .int (m_held M i g)), (3, .int (nI i))]) nK ⟨rfl, rfl, rfl, rfl, trivial⟩ (fun i hi ihi => ?_)
  refine z_iload_n C dX6_held_4 rfl ?_
  refine z_aload_n C dX6_held_5 rfl ?_
  refine z_get C (by first | exact hM.1 | exact hM.2.1 _ rfl | exact hM.2.2.1 _ rfl) z_cls7 hu_X6 9 (by decide) wb_644 rfl rfl dX6_held_6 ?_
  refine z_icmp_ge C 35 dX6_held_9 (by decide) (fun h9 => ?_) (fun h9 => ?_)
  · obtain rfl := z_ge hN.2.2.1.1 (by omega) hi h9
    refine z_iload_n C dX6_held_35 rfl ?_
    exact z_iret C (by omega) (by omega) dX6_held_36 (by exact ⟨rfl, rfl⟩)
  · have hlti := z_lt hN.2.2.1.1 (by omega) hi h9
    have hini : vp_in (nI i) 16 := vp_in_nI (by omega) (by omega)
    have hcli : (nI i).toNatClampNeg = i := nI_clamp (by omega)
    refine z_iload_n C dX6_held_12 rfl ?_
    refine z_aload_n C dX6_held_13 rfl ?_
    refine z_iload_n C dX6_held_14 rfl ?_
    refine z_iload_n C dX6_held_15 rfl ?_
    refine z_callVR (As := [.int _, .int _]) C (c_X6_holds _ _ ad M _ _ (by first | assumption | exact m_noG hN (by assumption) | exact m_noD hN (by assumption) | exact m_noK hN (by assumption))) kc_X6_holds wb_813 ⟨by decide, by decide⟩ hM.1 rfl (hM) ⟨Nat.zero_le _, Nat.zero_le _⟩ (Nat.le_of_ble_eq_true rfl) dX6_held_16 ?_
    refine z_ifb_eq C 26 dX6_held_19 (by decide) (fun h19 => ?_) (fun h19 => ?_)
    · refine z_iconst (v := 0) C dX6_held_26 (by decide) ?_
      refine z_iadd C dX6_held_27 ?_
      refine z_istore_n C dX6_held_28 (by decide) ?_
      refine z_iinc C dX6_held_29 rfl rfl (by decide) ?_
      refine z_goto C 4 dX6_held_32 (by decide) ?_
      exact ihi hlti _ ⟨rfl, rfl, z_lgI rfl (by simp [m_held, m_cnt, m_sum, m_c, *]), z_lgI rfl (z_inc i), trivial⟩
    · refine z_iconst (v := 1) C dX6_held_22 (by decide) ?_
      refine z_goto C 27 dX6_held_23 (by decide) ?_
      refine z_iadd C dX6_held_27 ?_
      refine z_istore_n C dX6_held_28 (by decide) ?_
      refine z_iinc C dX6_held_29 rfl rfl (by decide) ?_
      refine z_goto C 4 dX6_held_32 (by decide) ?_
      exact ihi hlti _ ⟨rfl, rfl, z_lgI rfl (by simp [m_held, m_cnt, m_sum, m_c, *]), z_lgI rfl (z_inc i), trivial⟩

theorem m_ff_range {p : Nat → Bool} : ∀ {f i : Nat}, m_ff p f i = -6 ∨ ∃ j, i ≤ j ∧ j < i + f ∧ p j = true ∧ m_ff p f i = nI j
  | 0, i => Or.inl rfl
  | f + 1, i => by
    cases hp : p i with
    | true => exact Or.inr ⟨i, Nat.le_refl _, by omega, hp, by simp [m_ff, hp]⟩
    | false =>
      have e : m_ff p (f + 1) i = m_ff p f (i + 1) := by simp [m_ff, hp]
      rw [e]
      rcases m_ff_range (p := p) (f := f) (i := i + 1) with h | ⟨j, h1, h2, h3, h4⟩
      · exact Or.inl h
      · exact Or.inr ⟨j, by omega, by omega, h3, h4⟩
theorem m_kf_in {M : m_S} {nK : Nat} {g c0 : Int32} (hK : nK ≤ 16) (h : ¬ m_kf M nK g c0 < 0) : ∃ k, k < nK ∧ m_ho M g (nI k) = true ∧ M.2 10 k = c0 ∧ m_kf M nK g c0 = nI k := by
  rcases m_ff_range (p := fun k => m_ho M g (nI k) && decide (M.2 10 k = c0)) (f := nK) (i := 0) with h1 | ⟨j, -, h2, h3, h4⟩
  · exact absurd (by show m_ff _ nK 0 < 0; rw [h1]; decide) h
  · have h5 : m_ho M g (nI j) = true ∧ M.2 10 j = c0 := by simpa using h3
    exact ⟨j, by omega, h5.1, h5.2, h4⟩
theorem m_kf_vp {M : m_S} {nK : Nat} {g c0 : Int32} (hK : nK ≤ 16) (h : ¬ m_kf M nK g c0 < 0) : vp_in (m_kf M nK g c0) 16 := by
  obtain ⟨k, h1, -, -, h4⟩ := m_kf_in hK h
  rw [h4]; exact vp_in_nI (by omega) (by decide)
set_option maxHeartbeats 4000000 in
set_option maxRecDepth 100000 in
theorem c_X6_unlock (l : Launch) (G : z_G) (ad : Nat → Nat) (M : m_S) {nR nD nK nG : Nat} (hN : m_N M nR nD nK nG) (g d : Int32) : z_M l yX6_unlock cX6_unlock 4 (some .int) 2 0 0 [.ref (ad 0), .int g, .int d] G (fun H => m_R G ad M H) (m_A ad) ((fun v _ H => v = some (.int (F_unlock M nK g d).1) ∧ m_R G ad (F_unlock M nK g d).2 H)) := by
  refine z_M.of (by decide +kernel) (Nat.le_of_ble_eq_true rfl) ?_
  intro p e s m below meth c C hP
  have hM : m_R G ad M s.heap := hP
  have hR12 := hN.1.2; have hD16 := hN.2.1.2; have hK16 := hN.2.2.1.2; have hG6 := hN.2.2.2.2
  refine z_aload_n C dX6_unlock_0 rfl ?_
  refine z_iload_n C dX6_unlock_1 rfl ?_
  refine z_callVR (As := [.int _]) C (c_X6_noGroup _ _ ad M _) kc_X6_noGroup wb_788 ⟨by decide, by decide⟩ hM.1 rfl (hM) ⟨Nat.zero_le _, Nat.zero_le _⟩ (Nat.le_of_ble_eq_true rfl) dX6_unlock_2 ?_
  refine z_ifb_ne C 16 dX6_unlock_5 (by decide) (fun h5 => ?_) (fun h5 => ?_)
  · refine z_iconst (v := (-1)) C dX6_unlock_16 (by decide) ?_
    exact z_iret C (by omega) (by omega) dX6_unlock_17 (by first | contradiction | skip; (try simp [m_sA1, m_sA2, m_sS1, m_sS2] at hM); simp [F_unlock, m_later, m_sA1, m_sA2, m_sS1, m_sS2, *])
  · refine z_aload_n C dX6_unlock_8 rfl ?_
    refine z_iload_n C dX6_unlock_9 rfl ?_
    refine z_callVR (As := [.int _]) C (c_X6_noDoor _ _ ad M _) kc_X6_noDoor wb_792 ⟨by decide, by decide⟩ hM.1 rfl (hM) ⟨Nat.zero_le _, Nat.zero_le _⟩ (Nat.le_of_ble_eq_true rfl) dX6_unlock_10 ?_
    refine z_ifb_eq C 18 dX6_unlock_13 (by decide) (fun h13 => ?_) (fun h13 => ?_)
    · refine z_aload_n C dX6_unlock_18 rfl ?_
      refine z_iload_n C dX6_unlock_19 rfl ?_
      refine z_callVR (As := [.int _]) C (c_X6_plays _ _ ad M _ (by first | assumption | exact m_noG hN (by assumption) | exact m_noD hN (by assumption) | exact m_noK hN (by assumption))) kc_X6_plays wb_796 ⟨by decide, by decide⟩ hM.1 rfl (hM) ⟨Nat.zero_le _, Nat.zero_le _⟩ (Nat.le_of_ble_eq_true rfl) dX6_unlock_20 ?_
      refine z_ifb_eq C 49 dX6_unlock_23 (by decide) (fun h23 => ?_) (fun h23 => ?_)
      · refine z_bipush (v := (-4)) C dX6_unlock_49 (by decide) ?_
        exact z_iret C (by omega) (by omega) dX6_unlock_51 (by first | contradiction | skip; (try simp [m_sA1, m_sA2, m_sS1, m_sS2] at hM); simp [F_unlock, m_later, m_sA1, m_sA2, m_sS1, m_sS2, *])
      · refine z_aload_n C dX6_unlock_26 rfl ?_
        refine z_iload_n C dX6_unlock_27 rfl ?_
        refine z_aload_n C dX6_unlock_28 rfl ?_
        refine z_get C (by first | exact hM.1 | exact hM.2.1 _ rfl | exact hM.2.2.1 _ rfl) z_cls7 hu_X6 16 (by decide) wb_651 rfl rfl dX6_unlock_29 ?_
        refine z_iload_n C dX6_unlock_32 rfl ?_
        refine z_iald C (by first | exact hM.1 | exact hM.2.1 _ rfl | exact hM.2.2.1 _ rfl) (by first | assumption | exact m_noG hN (by assumption) | exact m_noD hN (by assumption) | exact m_kf_vp hN.2.2.1.2 (by assumption)) (by first | exact hcli | rfl) dX6_unlock_33 ?_
        refine z_callVR (As := [.int _, .int _]) C (c_X6_isAt _ _ ad M _ _ (by first | assumption | exact m_noG hN (by assumption) | exact m_noD hN (by assumption) | exact m_noK hN (by assumption))) kc_X6_isAt wb_800 ⟨by decide, by decide⟩ hM.1 rfl (hM) ⟨Nat.zero_le _, Nat.zero_le _⟩ (Nat.le_of_ble_eq_true rfl) dX6_unlock_34 ?_
        refine z_ifb_eq C 49 dX6_unlock_37 (by decide) (fun h37 => ?_) (fun h37 => ?_)
        · refine z_bipush (v := (-4)) C dX6_unlock_49 (by decide) ?_
          exact z_iret C (by omega) (by omega) dX6_unlock_51 (by first | contradiction | skip; (try simp [m_sA1, m_sA2, m_sS1, m_sS2] at hM); simp [F_unlock, m_later, m_sA1, m_sA2, m_sS1, m_sS2, *])
        · refine z_aload_n C dX6_unlock_40 rfl ?_
          refine z_get C (by first | exact hM.1 | exact hM.2.1 _ rfl | exact hM.2.2.1 _ rfl) z_cls7 hu_X6 8 (by decide) wb_643 rfl rfl dX6_unlock_41 ?_
          refine z_iload_n C dX6_unlock_44 rfl ?_
          refine z_iald C (by first | exact hM.1 | exact hM.2.1 _ rfl | exact hM.2.2.1 _ rfl) (by first | assumption | exact m_noG hN (by assumption) | exact m_noD hN (by assumption) | exact m_kf_vp hN.2.2.1.2 (by assumption)) (by first | exact hcli | rfl) dX6_unlock_45 ?_
          refine z_if_lt C 52 dX6_unlock_46 (by decide) (fun h46 => ?_) (fun h46 => ?_)
          · refine z_aload_n C dX6_unlock_52 rfl ?_
            refine z_iload_n C dX6_unlock_53 rfl ?_
            refine z_aload_n C dX6_unlock_54 rfl ?_
            refine z_get C (by first | exact hM.1 | exact hM.2.1 _ rfl | exact hM.2.2.1 _ rfl) z_cls7 hu_X6 6 (by decide) wb_641 rfl rfl dX6_unlock_55 ?_
            refine z_iload_n C dX6_unlock_58 rfl ?_
            refine z_iald C (by first | exact hM.1 | exact hM.2.1 _ rfl | exact hM.2.2.1 _ rfl) (by first | assumption | exact m_noG hN (by assumption) | exact m_noD hN (by assumption) | exact m_kf_vp hN.2.2.1.2 (by assumption)) (by first | exact hcli | rfl) dX6_unlock_59 ?_
            refine z_callVR (As := [.int _, .int _]) C (c_X6_keyFor _ _ ad M hN _ _) kc_X6_keyFor wb_809 ⟨by decide, by decide⟩ hM.1 rfl (hM) ⟨Nat.zero_le _, Nat.zero_le _⟩ (Nat.le_of_ble_eq_true rfl) dX6_unlock_60 ?_
            refine z_istore_n C dX6_unlock_63 (by decide) ?_
            refine z_iload_n C dX6_unlock_64 rfl ?_
            refine z_if_ge C 71 dX6_unlock_65 (by decide) (fun h65 => ?_) (fun h65 => ?_)
            · refine z_aload_n C dX6_unlock_71 rfl ?_
              refine z_get C (by first | exact hM.1 | exact hM.2.1 _ rfl | exact hM.2.2.1 _ rfl) z_cls7 hu_X6 17 (by decide) wb_652 rfl rfl dX6_unlock_72 ?_
              refine z_iload_n C dX6_unlock_75 rfl ?_
              refine z_iald C (by first | exact hM.1 | exact hM.2.1 _ rfl | exact hM.2.2.1 _ rfl) (by first | assumption | exact m_noG hN (by assumption) | exact m_noD hN (by assumption) | exact m_kf_vp hN.2.2.1.2 (by assumption)) (by first | exact hcli | rfl) dX6_unlock_76 ?_
              refine z_aload_n C dX6_unlock_77 rfl ?_
              refine z_get C (by first | exact hM.1 | exact hM.2.1 _ rfl | exact hM.2.2.1 _ rfl) z_cls7 hu_X6 7 (by decide) wb_642 rfl rfl dX6_unlock_78 ?_
              refine z_iload_n C dX6_unlock_81 rfl ?_
              refine z_iald C (by first | exact hM.1 | exact hM.2.1 _ rfl | exact hM.2.2.1 _ rfl) (by first | assumption | exact m_noG hN (by assumption) | exact m_noD hN (by assumption) | exact m_kf_vp hN.2.2.1.2 (by assumption)) (by first | exact hcli | rfl) dX6_unlock_82 ?_
              refine z_iadd C dX6_unlock_83 ?_
              refine z_ldc C wb_804 dX6_unlock_84 ?_
              refine z_icmp_le C 92 dX6_unlock_86 (by decide) (fun h86 => ?_) (fun h86 => ?_)
              · refine z_aload_n C dX6_unlock_92 rfl ?_
                refine z_get C (by first | exact hM.1 | exact hM.2.1 _ rfl | exact hM.2.2.1 _ rfl) z_cls7 hu_X6 17 (by decide) wb_652 rfl rfl dX6_unlock_93 ?_
                refine z_iload_n C dX6_unlock_96 rfl ?_
                refine z_dup2 C dX6_unlock_97 rfl rfl ?_
                refine z_iald C (by first | exact hM.1 | exact hM.2.1 _ rfl | exact hM.2.2.1 _ rfl) (by first | assumption | exact m_noG hN (by assumption) | exact m_noD hN (by assumption) | exact m_kf_vp hN.2.2.1.2 (by assumption)) (by first | exact hcli | rfl) dX6_unlock_98 ?_
                refine z_aload_n C dX6_unlock_99 rfl ?_
                refine z_get C (by first | exact hM.1 | exact hM.2.1 _ rfl | exact hM.2.2.1 _ rfl) z_cls7 hu_X6 7 (by decide) wb_642 rfl rfl dX6_unlock_100 ?_
                refine z_iload_n C dX6_unlock_103 rfl ?_
                refine z_iald C (by first | exact hM.1 | exact hM.2.1 _ rfl | exact hM.2.2.1 _ rfl) (by first | assumption | exact m_noG hN (by assumption) | exact m_noD hN (by assumption) | exact m_kf_vp hN.2.2.1.2 (by assumption)) (by first | exact hcli | rfl) dX6_unlock_104 ?_
                refine z_iadd C dX6_unlock_105 ?_
                refine z_iast C (by first | exact hM.1 | exact hM.2.1 _ rfl | exact hM.2.2.1 _ rfl) (by exact ⟨_, rfl, rfl⟩) (by first | assumption | exact m_noG hN (by assumption) | exact m_noD hN (by assumption) | exact m_kf_vp hN.2.2.1.2 (by assumption)) (by first | exact hcli | rfl) dX6_unlock_106 (fun H106 hU106 => ?_)
                have hM := hM.sI hU106 rfl
                refine z_aload_n C dX6_unlock_107 rfl ?_
                refine z_get C (by first | exact hM.1 | exact hM.2.1 _ rfl | exact hM.2.2.1 _ rfl) z_cls7 hu_X6 8 (by decide) wb_643 rfl rfl dX6_unlock_108 ?_
                refine z_iload_n C dX6_unlock_111 rfl ?_
                refine z_aload_n C dX6_unlock_112 rfl ?_
                refine z_get C (by first | exact hM.1 | exact hM.2.1 _ rfl | exact hM.2.2.1 _ rfl) z_cls7 hu_X6 17 (by decide) wb_652 rfl rfl dX6_unlock_113 ?_
                refine z_iload_n C dX6_unlock_116 rfl ?_
                refine z_iald C (by first | exact hM.1 | exact hM.2.1 _ rfl | exact hM.2.2.1 _ rfl) (by first | assumption | exact m_noG hN (by assumption) | exact m_noD hN (by assumption) | exact m_kf_vp hN.2.2.1.2 (by assumption)) (by first | exact hcli | rfl) dX6_unlock_117 ?_
                refine z_iast C (by first | exact hM.1 | exact hM.2.1 _ rfl | exact hM.2.2.1 _ rfl) (by exact ⟨_, rfl, rfl⟩) (by first | assumption | exact m_noG hN (by assumption) | exact m_noD hN (by assumption) | exact m_kf_vp hN.2.2.1.2 (by assumption)) (by first | exact hcli | rfl) dX6_unlock_118 (fun H118 hU118 => ?_)
                have hM := hM.sI hU118 rfl
                refine z_aload_n C dX6_unlock_119 rfl ?_
                refine z_get C (by first | exact hM.1 | exact hM.2.1 _ rfl | exact hM.2.2.1 _ rfl) z_cls7 hu_X6 11 (by decide) wb_646 rfl rfl dX6_unlock_120 ?_
                refine z_iload_n C dX6_unlock_123 rfl ?_
                refine z_iconst (v := 2) C dX6_unlock_124 (by decide) ?_
                refine z_iast C (by first | exact hM.1 | exact hM.2.1 _ rfl | exact hM.2.2.1 _ rfl) (by exact ⟨_, rfl, rfl⟩) (by first | assumption | exact m_noG hN (by assumption) | exact m_noD hN (by assumption) | exact m_kf_vp hN.2.2.1.2 (by assumption)) (by first | exact hcli | rfl) dX6_unlock_125 (fun H125 hU125 => ?_)
                have hM := hM.sI hU125 rfl
                refine z_aload_n C dX6_unlock_126 rfl ?_
                refine z_get C (by first | exact hM.1 | exact hM.2.1 _ rfl | exact hM.2.2.1 _ rfl) z_cls7 hu_X6 12 (by decide) wb_647 rfl rfl dX6_unlock_127 ?_
                refine z_iload_n C dX6_unlock_130 rfl ?_
                refine z_iload_n C dX6_unlock_131 rfl ?_
                refine z_iast C (by first | exact hM.1 | exact hM.2.1 _ rfl | exact hM.2.2.1 _ rfl) (by exact ⟨_, rfl, rfl⟩) (by first | assumption | exact m_noG hN (by assumption) | exact m_noD hN (by assumption) | exact m_kf_vp hN.2.2.1.2 (by assumption)) (by first | exact hcli | rfl) dX6_unlock_132 (fun H132 hU132 => ?_)
                have hM := hM.sI hU132 rfl
                refine z_iload_n C dX6_unlock_133 rfl ?_
                exact z_iret C (by omega) (by omega) dX6_unlock_134 (by first | contradiction | skip; (try simp [m_sA1, m_sA2, m_sS1, m_sS2] at hM); simp [F_unlock, m_later, m_sA1, m_sA2, m_sS1, m_sS2, *])
              · refine z_bipush (v := (-5)) C dX6_unlock_89 (by decide) ?_
                exact z_iret C (by omega) (by omega) dX6_unlock_91 (by first | contradiction | skip; (try simp [m_sA1, m_sA2, m_sS1, m_sS2] at hM); simp [F_unlock, m_later, m_sA1, m_sA2, m_sS1, m_sS2, *])
            · refine z_bipush (v := (-4)) C dX6_unlock_68 (by decide) ?_
              exact z_iret C (by omega) (by omega) dX6_unlock_70 (by first | contradiction | skip; (try simp [m_sA1, m_sA2, m_sS1, m_sS2] at hM); simp [F_unlock, m_later, m_sA1, m_sA2, m_sS1, m_sS2, *])
          · refine z_bipush (v := (-4)) C dX6_unlock_49 (by decide) ?_
            exact z_iret C (by omega) (by omega) dX6_unlock_51 (by first | contradiction | skip; (try simp [m_sA1, m_sA2, m_sS1, m_sS2] at hM); simp [F_unlock, m_later, m_sA1, m_sA2, m_sS1, m_sS2, *])
    · refine z_iconst (v := (-1)) C dX6_unlock_16 (by decide) ?_
      exact z_iret C (by omega) (by omega) dX6_unlock_17 (by first | contradiction | skip; (try simp [m_sA1, m_sA2, m_sS1, m_sS2] at hM); simp [F_unlock, m_later, m_sA1, m_sA2, m_sS1, m_sS2, *])

set_option maxHeartbeats 4000000 in
set_option maxRecDepth 100000 in
theorem c_X6_take (l : Launch) (G : z_G) (ad : Nat → Nat) (M : m_S) {nR nD nK nG : Nat} (hN : m_N M nR nD nK nG) (g k : Int32) : z_M l yX6_take cX6_take 3 (some .int) 2 0 0 [.ref (ad 0), .int g, .int k] G (fun H => m_R G ad M H) (m_A ad) ((fun v _ H => v = some (.int (F_take M nK g k).1) ∧ m_R G ad (F_take M nK g k).2 H)) := by
  refine z_M.of (by decide +kernel) (Nat.le_of_ble_eq_true rfl) ?_
  intro p e s m below meth c C hP
  have hM : m_R G ad M s.heap := hP
  have hR12 := hN.1.2; have hD16 := hN.2.1.2; have hK16 := hN.2.2.1.2; have hG6 := hN.2.2.2.2
  refine z_aload_n C dX6_take_0 rfl ?_
  refine z_iload_n C dX6_take_1 rfl ?_
  refine z_callVR (As := [.int _]) C (c_X6_noGroup _ _ ad M _) kc_X6_noGroup wb_788 ⟨by decide, by decide⟩ hM.1 rfl (hM) ⟨Nat.zero_le _, Nat.zero_le _⟩ (Nat.le_of_ble_eq_true rfl) dX6_take_2 ?_
  refine z_ifb_ne C 16 dX6_take_5 (by decide) (fun h5 => ?_) (fun h5 => ?_)
  · refine z_iconst (v := (-1)) C dX6_take_16 (by decide) ?_
    exact z_iret C (by omega) (by omega) dX6_take_17 (by first | contradiction | skip; (try simp [m_sA1, m_sA2, m_sS1, m_sS2] at hM); simp [F_take, m_later, m_sA1, m_sA2, m_sS1, m_sS2, *])
  · refine z_aload_n C dX6_take_8 rfl ?_
    refine z_iload_n C dX6_take_9 rfl ?_
    refine z_callVR (As := [.int _]) C (c_X6_noKey _ _ ad M _) kc_X6_noKey wb_821 ⟨by decide, by decide⟩ hM.1 rfl (hM) ⟨Nat.zero_le _, Nat.zero_le _⟩ (Nat.le_of_ble_eq_true rfl) dX6_take_10 ?_
    refine z_ifb_eq C 18 dX6_take_13 (by decide) (fun h13 => ?_) (fun h13 => ?_)
    · refine z_aload_n C dX6_take_18 rfl ?_
      refine z_iload_n C dX6_take_19 rfl ?_
      refine z_callVR (As := [.int _]) C (c_X6_plays _ _ ad M _ (by first | assumption | exact m_noG hN (by assumption) | exact m_noD hN (by assumption) | exact m_noK hN (by assumption))) kc_X6_plays wb_796 ⟨by decide, by decide⟩ hM.1 rfl (hM) ⟨Nat.zero_le _, Nat.zero_le _⟩ (Nat.le_of_ble_eq_true rfl) dX6_take_20 ?_
      refine z_ifb_eq C 50 dX6_take_23 (by decide) (fun h23 => ?_) (fun h23 => ?_)
      · refine z_bipush (v := (-4)) C dX6_take_50 (by decide) ?_
        exact z_iret C (by omega) (by omega) dX6_take_52 (by first | contradiction | skip; (try simp [m_sA1, m_sA2, m_sS1, m_sS2] at hM); simp [F_take, m_later, m_sA1, m_sA2, m_sS1, m_sS2, *])
      · refine z_aload_n C dX6_take_26 rfl ?_
        refine z_get C (by first | exact hM.1 | exact hM.2.1 _ rfl | exact hM.2.2.1 _ rfl) z_cls7 hu_X6 11 (by decide) wb_646 rfl rfl dX6_take_27 ?_
        refine z_iload_n C dX6_take_30 rfl ?_
        refine z_iald C (by first | exact hM.1 | exact hM.2.1 _ rfl | exact hM.2.2.1 _ rfl) (by first | assumption | exact m_noG hN (by assumption) | exact m_noD hN (by assumption) | exact m_noK hN (by assumption)) (by first | exact hcli | rfl) dX6_take_31 ?_
        refine z_if_ne C 50 dX6_take_32 (by decide) (fun h32 => ?_) (fun h32 => ?_)
        · refine z_bipush (v := (-4)) C dX6_take_50 (by decide) ?_
          exact z_iret C (by omega) (by omega) dX6_take_52 (by first | contradiction | skip; (try simp [m_sA1, m_sA2, m_sS1, m_sS2] at hM); simp [F_take, m_later, m_sA1, m_sA2, m_sS1, m_sS2, *])
        · refine z_aload_n C dX6_take_35 rfl ?_
          refine z_get C (by first | exact hM.1 | exact hM.2.1 _ rfl | exact hM.2.2.1 _ rfl) z_cls7 hu_X6 12 (by decide) wb_647 rfl rfl dX6_take_36 ?_
          refine z_iload_n C dX6_take_39 rfl ?_
          refine z_iald C (by first | exact hM.1 | exact hM.2.1 _ rfl | exact hM.2.2.1 _ rfl) (by first | assumption | exact m_noG hN (by assumption) | exact m_noD hN (by assumption) | exact m_noK hN (by assumption)) (by first | exact hcli | rfl) dX6_take_40 ?_
          refine z_aload_n C dX6_take_41 rfl ?_
          refine z_get C (by first | exact hM.1 | exact hM.2.1 _ rfl | exact hM.2.2.1 _ rfl) z_cls7 hu_X6 16 (by decide) wb_651 rfl rfl dX6_take_42 ?_
          refine z_iload_n C dX6_take_45 rfl ?_
          refine z_iald C (by first | exact hM.1 | exact hM.2.1 _ rfl | exact hM.2.2.1 _ rfl) (by first | assumption | exact m_noG hN (by assumption) | exact m_noD hN (by assumption) | exact m_noK hN (by assumption)) (by first | exact hcli | rfl) dX6_take_46 ?_
          refine z_icmp_eq C 53 dX6_take_47 (by decide) (fun h47 => ?_) (fun h47 => ?_)
          · refine z_aload_n C dX6_take_53 rfl ?_
            refine z_get C (by first | exact hM.1 | exact hM.2.1 _ rfl | exact hM.2.2.1 _ rfl) z_cls7 hu_X6 17 (by decide) wb_652 rfl rfl dX6_take_54 ?_
            refine z_iload_n C dX6_take_57 rfl ?_
            refine z_aload_n C dX6_take_58 rfl ?_
            refine z_get C (by first | exact hM.1 | exact hM.2.1 _ rfl | exact hM.2.2.1 _ rfl) z_cls7 hu_X6 17 (by decide) wb_652 rfl rfl dX6_take_59 ?_
            refine z_iload_n C dX6_take_62 rfl ?_
            refine z_iald C (by first | exact hM.1 | exact hM.2.1 _ rfl | exact hM.2.2.1 _ rfl) (by first | assumption | exact m_noG hN (by assumption) | exact m_noD hN (by assumption) | exact m_noK hN (by assumption)) (by first | exact hcli | rfl) dX6_take_63 ?_
            refine z_aload_n C dX6_take_64 rfl ?_
            refine z_get C (by first | exact hM.1 | exact hM.2.1 _ rfl | exact hM.2.2.1 _ rfl) z_cls7 hu_X6 13 (by decide) wb_648 rfl rfl dX6_take_65 ?_
            refine z_iload_n C dX6_take_68 rfl ?_
            refine z_iald C (by first | exact hM.1 | exact hM.2.1 _ rfl | exact hM.2.2.1 _ rfl) (by first | assumption | exact m_noG hN (by assumption) | exact m_noD hN (by assumption) | exact m_noK hN (by assumption)) (by first | exact hcli | rfl) dX6_take_69 ?_
            refine z_icmp_ge C 82 dX6_take_70 (by decide) (fun h70 => ?_) (fun h70 => ?_)
            · refine z_aload_n C dX6_take_82 rfl ?_
              refine z_get C (by first | exact hM.1 | exact hM.2.1 _ rfl | exact hM.2.2.1 _ rfl) z_cls7 hu_X6 17 (by decide) wb_652 rfl rfl dX6_take_83 ?_
              refine z_iload_n C dX6_take_86 rfl ?_
              refine z_iald C (by first | exact hM.1 | exact hM.2.1 _ rfl | exact hM.2.2.1 _ rfl) (by first | assumption | exact m_noG hN (by assumption) | exact m_noD hN (by assumption) | exact m_noK hN (by assumption)) (by first | exact hcli | rfl) dX6_take_87 ?_
              refine z_iast C (by first | exact hM.1 | exact hM.2.1 _ rfl | exact hM.2.2.1 _ rfl) (by exact ⟨_, rfl, rfl⟩) (by first | assumption | exact m_noG hN (by assumption) | exact m_noD hN (by assumption) | exact m_noK hN (by assumption)) (by first | exact hcli | rfl) dX6_take_88 (fun H88 hU88 => ?_)
              have hM := hM.sI hU88 rfl
              refine z_aload_n C dX6_take_89 rfl ?_
              refine z_get C (by first | exact hM.1 | exact hM.2.1 _ rfl | exact hM.2.2.1 _ rfl) z_cls7 hu_X6 11 (by decide) wb_646 rfl rfl dX6_take_90 ?_
              refine z_iload_n C dX6_take_93 rfl ?_
              refine z_iconst (v := 1) C dX6_take_94 (by decide) ?_
              refine z_iast C (by first | exact hM.1 | exact hM.2.1 _ rfl | exact hM.2.2.1 _ rfl) (by exact ⟨_, rfl, rfl⟩) (by first | assumption | exact m_noG hN (by assumption) | exact m_noD hN (by assumption) | exact m_noK hN (by assumption)) (by first | exact hcli | rfl) dX6_take_95 (fun H95 hU95 => ?_)
              have hM := hM.sI hU95 rfl
              refine z_aload_n C dX6_take_96 rfl ?_
              refine z_get C (by first | exact hM.1 | exact hM.2.1 _ rfl | exact hM.2.2.1 _ rfl) z_cls7 hu_X6 12 (by decide) wb_647 rfl rfl dX6_take_97 ?_
              refine z_iload_n C dX6_take_100 rfl ?_
              refine z_iload_n C dX6_take_101 rfl ?_
              refine z_iast C (by first | exact hM.1 | exact hM.2.1 _ rfl | exact hM.2.2.1 _ rfl) (by exact ⟨_, rfl, rfl⟩) (by first | assumption | exact m_noG hN (by assumption) | exact m_noD hN (by assumption) | exact m_noK hN (by assumption)) (by first | exact hcli | rfl) dX6_take_102 (fun H102 hU102 => ?_)
              have hM := hM.sI hU102 rfl
              refine z_aload_n C dX6_take_103 rfl ?_
              refine z_iload_n C dX6_take_104 rfl ?_
              refine z_callVR (As := [.int _]) C (c_X6_held _ _ ad _ (by exact hN) _) kc_X6_held wb_825 ⟨by decide, by decide⟩ hM.1 rfl (hM) ⟨Nat.zero_le _, Nat.zero_le _⟩ (Nat.le_of_ble_eq_true rfl) dX6_take_105 ?_
              exact z_iret C (by omega) (by omega) dX6_take_108 (by first | contradiction | skip; (try simp [m_sA1, m_sA2, m_sS1, m_sS2] at hM); simp [F_take, m_later, m_sA1, m_sA2, m_sS1, m_sS2, *])
            · refine z_aload_n C dX6_take_73 rfl ?_
              refine z_get C (by first | exact hM.1 | exact hM.2.1 _ rfl | exact hM.2.2.1 _ rfl) z_cls7 hu_X6 13 (by decide) wb_648 rfl rfl dX6_take_74 ?_
              refine z_iload_n C dX6_take_77 rfl ?_
              refine z_iald C (by first | exact hM.1 | exact hM.2.1 _ rfl | exact hM.2.2.1 _ rfl) (by first | assumption | exact m_noG hN (by assumption) | exact m_noD hN (by assumption) | exact m_noK hN (by assumption)) (by first | exact hcli | rfl) dX6_take_78 ?_
              refine z_goto C 88 dX6_take_79 (by decide) ?_
              refine z_iast C (by first | exact hM.1 | exact hM.2.1 _ rfl | exact hM.2.2.1 _ rfl) (by exact ⟨_, rfl, rfl⟩) (by first | assumption | exact m_noG hN (by assumption) | exact m_noD hN (by assumption) | exact m_noK hN (by assumption)) (by first | exact hcli | rfl) dX6_take_88 (fun H88 hU88 => ?_)
              have hM := hM.sI hU88 rfl
              refine z_aload_n C dX6_take_89 rfl ?_
              refine z_get C (by first | exact hM.1 | exact hM.2.1 _ rfl | exact hM.2.2.1 _ rfl) z_cls7 hu_X6 11 (by decide) wb_646 rfl rfl dX6_take_90 ?_
              refine z_iload_n C dX6_take_93 rfl ?_
              refine z_iconst (v := 1) C dX6_take_94 (by decide) ?_
              refine z_iast C (by first | exact hM.1 | exact hM.2.1 _ rfl | exact hM.2.2.1 _ rfl) (by exact ⟨_, rfl, rfl⟩) (by first | assumption | exact m_noG hN (by assumption) | exact m_noD hN (by assumption) | exact m_noK hN (by assumption)) (by first | exact hcli | rfl) dX6_take_95 (fun H95 hU95 => ?_)
              have hM := hM.sI hU95 rfl
              refine z_aload_n C dX6_take_96 rfl ?_
              refine z_get C (by first | exact hM.1 | exact hM.2.1 _ rfl | exact hM.2.2.1 _ rfl) z_cls7 hu_X6 12 (by decide) wb_647 rfl rfl dX6_take_97 ?_
              refine z_iload_n C dX6_take_100 rfl ?_
              refine z_iload_n C dX6_take_101 rfl ?_
              refine z_iast C (by first | exact hM.1 | exact hM.2.1 _ rfl | exact hM.2.2.1 _ rfl) (by exact ⟨_, rfl, rfl⟩) (by first | assumption | exact m_noG hN (by assumption) | exact m_noD hN (by assumption) | exact m_noK hN (by assumption)) (by first | exact hcli | rfl) dX6_take_102 (fun H102 hU102 => ?_)
              have hM := hM.sI hU102 rfl
              refine z_aload_n C dX6_take_103 rfl ?_
              refine z_iload_n C dX6_take_104 rfl ?_
              refine z_callVR (As := [.int _]) C (c_X6_held _ _ ad _ (by exact hN) _) kc_X6_held wb_825 ⟨by decide, by decide⟩ hM.1 rfl (hM) ⟨Nat.zero_le _, Nat.zero_le _⟩ (Nat.le_of_ble_eq_true rfl) dX6_take_105 ?_
              exact z_iret C (by omega) (by omega) dX6_take_108 (by first | contradiction | skip; (try simp [m_sA1, m_sA2, m_sS1, m_sS2] at hM); simp [F_take, m_later, m_sA1, m_sA2, m_sS1, m_sS2, *])
          · refine z_bipush (v := (-4)) C dX6_take_50 (by decide) ?_
            exact z_iret C (by omega) (by omega) dX6_take_52 (by first | contradiction | skip; (try simp [m_sA1, m_sA2, m_sS1, m_sS2] at hM); simp [F_take, m_later, m_sA1, m_sA2, m_sS1, m_sS2, *])
    · refine z_iconst (v := (-1)) C dX6_take_16 (by decide) ?_
      exact z_iret C (by omega) (by omega) dX6_take_17 (by first | contradiction | skip; (try simp [m_sA1, m_sA2, m_sS1, m_sS2] at hM); simp [F_take, m_later, m_sA1, m_sA2, m_sS1, m_sS2, *])

set_option maxHeartbeats 4000000 in
set_option maxRecDepth 100000 in
theorem c_X6_drop (l : Launch) (G : z_G) (ad : Nat → Nat) (M : m_S) {nR nD nK nG : Nat} (hN : m_N M nR nD nK nG) (g k : Int32) : z_M l yX6_drop cX6_drop 3 (some .int) 2 0 0 [.ref (ad 0), .int g, .int k] G (fun H => m_R G ad M H) (m_A ad) ((fun v _ H => v = some (.int (F_drop M nK g k).1) ∧ m_R G ad (F_drop M nK g k).2 H)) := by
  refine z_M.of (by decide +kernel) (Nat.le_of_ble_eq_true rfl) ?_
  intro p e s m below meth c C hP
  have hM : m_R G ad M s.heap := hP
  have hR12 := hN.1.2; have hD16 := hN.2.1.2; have hK16 := hN.2.2.1.2; have hG6 := hN.2.2.2.2
  refine z_aload_n C dX6_drop_0 rfl ?_
  refine z_iload_n C dX6_drop_1 rfl ?_
  refine z_callVR (As := [.int _]) C (c_X6_noGroup _ _ ad M _) kc_X6_noGroup wb_788 ⟨by decide, by decide⟩ hM.1 rfl (hM) ⟨Nat.zero_le _, Nat.zero_le _⟩ (Nat.le_of_ble_eq_true rfl) dX6_drop_2 ?_
  refine z_ifb_ne C 16 dX6_drop_5 (by decide) (fun h5 => ?_) (fun h5 => ?_)
  · refine z_iconst (v := (-1)) C dX6_drop_16 (by decide) ?_
    exact z_iret C (by omega) (by omega) dX6_drop_17 (by first | contradiction | skip; (try simp [m_sA1, m_sA2, m_sS1, m_sS2] at hM); simp [F_drop, m_later, m_sA1, m_sA2, m_sS1, m_sS2, *])
  · refine z_aload_n C dX6_drop_8 rfl ?_
    refine z_iload_n C dX6_drop_9 rfl ?_
    refine z_callVR (As := [.int _]) C (c_X6_noKey _ _ ad M _) kc_X6_noKey wb_821 ⟨by decide, by decide⟩ hM.1 rfl (hM) ⟨Nat.zero_le _, Nat.zero_le _⟩ (Nat.le_of_ble_eq_true rfl) dX6_drop_10 ?_
    refine z_ifb_eq C 18 dX6_drop_13 (by decide) (fun h13 => ?_) (fun h13 => ?_)
    · refine z_aload_n C dX6_drop_18 rfl ?_
      refine z_iload_n C dX6_drop_19 rfl ?_
      refine z_callVR (As := [.int _]) C (c_X6_plays _ _ ad M _ (by first | assumption | exact m_noG hN (by assumption) | exact m_noD hN (by assumption) | exact m_noK hN (by assumption))) kc_X6_plays wb_796 ⟨by decide, by decide⟩ hM.1 rfl (hM) ⟨Nat.zero_le _, Nat.zero_le _⟩ (Nat.le_of_ble_eq_true rfl) dX6_drop_20 ?_
      refine z_ifb_eq C 35 dX6_drop_23 (by decide) (fun h23 => ?_) (fun h23 => ?_)
      · refine z_bipush (v := (-4)) C dX6_drop_35 (by decide) ?_
        exact z_iret C (by omega) (by omega) dX6_drop_37 (by first | contradiction | skip; (try simp [m_sA1, m_sA2, m_sS1, m_sS2] at hM); simp [F_drop, m_later, m_sA1, m_sA2, m_sS1, m_sS2, *])
      · refine z_aload_n C dX6_drop_26 rfl ?_
        refine z_iload_n C dX6_drop_27 rfl ?_
        refine z_iload_n C dX6_drop_28 rfl ?_
        refine z_callVR (As := [.int _, .int _]) C (c_X6_holds _ _ ad M _ _ (by first | assumption | exact m_noG hN (by assumption) | exact m_noD hN (by assumption) | exact m_noK hN (by assumption))) kc_X6_holds wb_813 ⟨by decide, by decide⟩ hM.1 rfl (hM) ⟨Nat.zero_le _, Nat.zero_le _⟩ (Nat.le_of_ble_eq_true rfl) dX6_drop_29 ?_
        refine z_ifb_ne C 38 dX6_drop_32 (by decide) (fun h32 => ?_) (fun h32 => ?_)
        · refine z_aload_n C dX6_drop_38 rfl ?_
          refine z_get C (by first | exact hM.1 | exact hM.2.1 _ rfl | exact hM.2.2.1 _ rfl) z_cls7 hu_X6 11 (by decide) wb_646 rfl rfl dX6_drop_39 ?_
          refine z_iload_n C dX6_drop_42 rfl ?_
          refine z_iconst (v := 0) C dX6_drop_43 (by decide) ?_
          refine z_iast C (by first | exact hM.1 | exact hM.2.1 _ rfl | exact hM.2.2.1 _ rfl) (by exact ⟨_, rfl, rfl⟩) (by first | assumption | exact m_noG hN (by assumption) | exact m_noD hN (by assumption) | exact m_noK hN (by assumption)) (by first | exact hcli | rfl) dX6_drop_44 (fun H44 hU44 => ?_)
          have hM := hM.sI hU44 rfl
          refine z_aload_n C dX6_drop_45 rfl ?_
          refine z_get C (by first | exact hM.1 | exact hM.2.1 _ rfl | exact hM.2.2.1 _ rfl) z_cls7 hu_X6 12 (by decide) wb_647 rfl rfl dX6_drop_46 ?_
          refine z_iload_n C dX6_drop_49 rfl ?_
          refine z_aload_n C dX6_drop_50 rfl ?_
          refine z_get C (by first | exact hM.1 | exact hM.2.1 _ rfl | exact hM.2.2.1 _ rfl) z_cls7 hu_X6 16 (by decide) wb_651 rfl rfl dX6_drop_51 ?_
          refine z_iload_n C dX6_drop_54 rfl ?_
          refine z_iald C (by first | exact hM.1 | exact hM.2.1 _ rfl | exact hM.2.2.1 _ rfl) (by first | assumption | exact m_noG hN (by assumption) | exact m_noD hN (by assumption) | exact m_noK hN (by assumption)) (by first | exact hcli | rfl) dX6_drop_55 ?_
          refine z_iast C (by first | exact hM.1 | exact hM.2.1 _ rfl | exact hM.2.2.1 _ rfl) (by exact ⟨_, rfl, rfl⟩) (by first | assumption | exact m_noG hN (by assumption) | exact m_noD hN (by assumption) | exact m_noK hN (by assumption)) (by first | exact hcli | rfl) dX6_drop_56 (fun H56 hU56 => ?_)
          have hM := hM.sI hU56 rfl
          refine z_aload_n C dX6_drop_57 rfl ?_
          refine z_get C (by first | exact hM.1 | exact hM.2.1 _ rfl | exact hM.2.2.1 _ rfl) z_cls7 hu_X6 13 (by decide) wb_648 rfl rfl dX6_drop_58 ?_
          refine z_iload_n C dX6_drop_61 rfl ?_
          refine z_aload_n C dX6_drop_62 rfl ?_
          refine z_get C (by first | exact hM.1 | exact hM.2.1 _ rfl | exact hM.2.2.1 _ rfl) z_cls7 hu_X6 17 (by decide) wb_652 rfl rfl dX6_drop_63 ?_
          refine z_iload_n C dX6_drop_66 rfl ?_
          refine z_iald C (by first | exact hM.1 | exact hM.2.1 _ rfl | exact hM.2.2.1 _ rfl) (by first | assumption | exact m_noG hN (by assumption) | exact m_noD hN (by assumption) | exact m_noK hN (by assumption)) (by first | exact hcli | rfl) dX6_drop_67 ?_
          refine z_iast C (by first | exact hM.1 | exact hM.2.1 _ rfl | exact hM.2.2.1 _ rfl) (by exact ⟨_, rfl, rfl⟩) (by first | assumption | exact m_noG hN (by assumption) | exact m_noD hN (by assumption) | exact m_noK hN (by assumption)) (by first | exact hcli | rfl) dX6_drop_68 (fun H68 hU68 => ?_)
          have hM := hM.sI hU68 rfl
          refine z_aload_n C dX6_drop_69 rfl ?_
          refine z_iload_n C dX6_drop_70 rfl ?_
          refine z_callVR (As := [.int _]) C (c_X6_held _ _ ad _ (by exact hN) _) kc_X6_held wb_825 ⟨by decide, by decide⟩ hM.1 rfl (hM) ⟨Nat.zero_le _, Nat.zero_le _⟩ (Nat.le_of_ble_eq_true rfl) dX6_drop_71 ?_
          exact z_iret C (by omega) (by omega) dX6_drop_74 (by first | contradiction | skip; (try simp [m_sA1, m_sA2, m_sS1, m_sS2] at hM); simp [F_drop, m_later, m_sA1, m_sA2, m_sS1, m_sS2, *])
        · refine z_bipush (v := (-4)) C dX6_drop_35 (by decide) ?_
          exact z_iret C (by omega) (by omega) dX6_drop_37 (by first | contradiction | skip; (try simp [m_sA1, m_sA2, m_sS1, m_sS2] at hM); simp [F_drop, m_later, m_sA1, m_sA2, m_sS1, m_sS2, *])
    · refine z_iconst (v := (-1)) C dX6_drop_16 (by decide) ?_
      exact z_iret C (by omega) (by omega) dX6_drop_17 (by first | contradiction | skip; (try simp [m_sA1, m_sA2, m_sS1, m_sS2] at hM); simp [F_drop, m_later, m_sA1, m_sA2, m_sS1, m_sS2, *])

set_option maxHeartbeats 4000000 in
set_option maxRecDepth 100000 in
theorem c_X6_idle (l : Launch) (G : z_G) (ad : Nat → Nat) (M : m_S) {nR nD nK nG : Nat} (hN : m_N M nR nD nK nG) (g t : Int32) : z_M l yX6_idle cX6_idle 3 (some .int) 2 0 0 [.ref (ad 0), .int g, .int t] G (fun H => m_R G ad M H) (m_A ad) ((fun v _ H => v = some (.int (F_idle M g t).1) ∧ m_R G ad (F_idle M g t).2 H)) := by
  refine z_M.of (by decide +kernel) (Nat.le_of_ble_eq_true rfl) ?_
  intro p e s m below meth c C hP
  have hM : m_R G ad M s.heap := hP
  have hR12 := hN.1.2; have hD16 := hN.2.1.2; have hK16 := hN.2.2.1.2; have hG6 := hN.2.2.2.2
  refine z_aload_n C dX6_idle_0 rfl ?_
  refine z_iload_n C dX6_idle_1 rfl ?_
  refine z_callVR (As := [.int _]) C (c_X6_noGroup _ _ ad M _) kc_X6_noGroup wb_788 ⟨by decide, by decide⟩ hM.1 rfl (hM) ⟨Nat.zero_le _, Nat.zero_le _⟩ (Nat.le_of_ble_eq_true rfl) dX6_idle_2 ?_
  refine z_ifb_eq C 10 dX6_idle_5 (by decide) (fun h5 => ?_) (fun h5 => ?_)
  · refine z_iload_n C dX6_idle_10 rfl ?_
    refine z_iconst (v := 1) C dX6_idle_11 (by decide) ?_
    refine z_sipush (v := 1000) C dX6_idle_12 (by decide) ?_
    refine z_callSR (As := [.int _, .int _, .int _]) C (c_X6_in _ _ _ _ _) kc_X6_in wb_745 ⟨by decide, by decide⟩ (trivial) ⟨Nat.zero_le _, Nat.zero_le _⟩ (Nat.le_of_ble_eq_true rfl) dX6_idle_15 ?_
    refine z_ifb_ne C 24 dX6_idle_18 (by decide) (fun h18 => ?_) (fun h18 => ?_)
    · refine z_aload_n C dX6_idle_24 rfl ?_
      refine z_iload_n C dX6_idle_25 rfl ?_
      refine z_callVR (As := [.int _]) C (c_X6_plays _ _ ad M _ (by first | assumption | exact m_noG hN (by assumption) | exact m_noD hN (by assumption) | exact m_noK hN (by assumption))) kc_X6_plays wb_796 ⟨by decide, by decide⟩ hM.1 rfl (hM) ⟨Nat.zero_le _, Nat.zero_le _⟩ (Nat.le_of_ble_eq_true rfl) dX6_idle_26 ?_
      refine z_ifb_ne C 35 dX6_idle_29 (by decide) (fun h29 => ?_) (fun h29 => ?_)
      · refine z_aload_n C dX6_idle_35 rfl ?_
        refine z_get C (by first | exact hM.1 | exact hM.2.1 _ rfl | exact hM.2.2.1 _ rfl) z_cls7 hu_X6 17 (by decide) wb_652 rfl rfl dX6_idle_36 ?_
        refine z_iload_n C dX6_idle_39 rfl ?_
        refine z_iald C (by first | exact hM.1 | exact hM.2.1 _ rfl | exact hM.2.2.1 _ rfl) (by first | assumption | exact m_noG hN (by assumption) | exact m_noD hN (by assumption) | exact m_noK hN (by assumption)) (by first | exact hcli | rfl) dX6_idle_40 ?_
        refine z_iload_n C dX6_idle_41 rfl ?_
        refine z_iadd C dX6_idle_42 ?_
        refine z_ldc C wb_804 dX6_idle_43 ?_
        refine z_icmp_le C 51 dX6_idle_45 (by decide) (fun h45 => ?_) (fun h45 => ?_)
        · refine z_aload_n C dX6_idle_51 rfl ?_
          refine z_get C (by first | exact hM.1 | exact hM.2.1 _ rfl | exact hM.2.2.1 _ rfl) z_cls7 hu_X6 17 (by decide) wb_652 rfl rfl dX6_idle_52 ?_
          refine z_iload_n C dX6_idle_55 rfl ?_
          refine z_dup2 C dX6_idle_56 rfl rfl ?_
          refine z_iald C (by first | exact hM.1 | exact hM.2.1 _ rfl | exact hM.2.2.1 _ rfl) (by first | assumption | exact m_noG hN (by assumption) | exact m_noD hN (by assumption) | exact m_noK hN (by assumption)) (by first | exact hcli | rfl) dX6_idle_57 ?_
          refine z_iload_n C dX6_idle_58 rfl ?_
          refine z_iadd C dX6_idle_59 ?_
          refine z_iast C (by first | exact hM.1 | exact hM.2.1 _ rfl | exact hM.2.2.1 _ rfl) (by exact ⟨_, rfl, rfl⟩) (by first | assumption | exact m_noG hN (by assumption) | exact m_noD hN (by assumption) | exact m_noK hN (by assumption)) (by first | exact hcli | rfl) dX6_idle_60 (fun H60 hU60 => ?_)
          have hM := hM.sI hU60 rfl
          refine z_aload_n C dX6_idle_61 rfl ?_
          refine z_get C (by first | exact hM.1 | exact hM.2.1 _ rfl | exact hM.2.2.1 _ rfl) z_cls7 hu_X6 17 (by decide) wb_652 rfl rfl dX6_idle_62 ?_
          refine z_iload_n C dX6_idle_65 rfl ?_
          refine z_iald C (by first | exact hM.1 | exact hM.2.1 _ rfl | exact hM.2.2.1 _ rfl) (by first | assumption | exact m_noG hN (by assumption) | exact m_noD hN (by assumption) | exact m_noK hN (by assumption)) (by first | exact hcli | rfl) dX6_idle_66 ?_
          exact z_iret C (by omega) (by omega) dX6_idle_67 (by first | contradiction | skip; (try simp [m_sA1, m_sA2, m_sS1, m_sS2] at hM); simp [F_idle, m_later, m_sA1, m_sA2, m_sS1, m_sS2, *])
        · refine z_bipush (v := (-5)) C dX6_idle_48 (by decide) ?_
          exact z_iret C (by omega) (by omega) dX6_idle_50 (by first | contradiction | skip; (try simp [m_sA1, m_sA2, m_sS1, m_sS2] at hM); simp [F_idle, m_later, m_sA1, m_sA2, m_sS1, m_sS2, *])
      · refine z_bipush (v := (-4)) C dX6_idle_32 (by decide) ?_
        exact z_iret C (by omega) (by omega) dX6_idle_34 (by first | contradiction | skip; (try simp [m_sA1, m_sA2, m_sS1, m_sS2] at hM); simp [F_idle, m_later, m_sA1, m_sA2, m_sS1, m_sS2, *])
    · refine z_bipush (v := (-2)) C dX6_idle_21 (by decide) ?_
      exact z_iret C (by omega) (by omega) dX6_idle_23 (by first | contradiction | skip; (try simp [m_sA1, m_sA2, m_sS1, m_sS2] at hM); simp [F_idle, m_later, m_sA1, m_sA2, m_sS1, m_sS2, *])
  · refine z_iconst (v := (-1)) C dX6_idle_8 (by decide) ?_
    exact z_iret C (by omega) (by omega) dX6_idle_9 (by first | contradiction | skip; (try simp [m_sA1, m_sA2, m_sS1, m_sS2] at hM); simp [F_idle, m_later, m_sA1, m_sA2, m_sS1, m_sS2, *])

set_option maxHeartbeats 4000000 in
set_option maxRecDepth 100000 in
theorem c_X6_part (l : Launch) (G : z_G) (ad : Nat → Nat) (M : m_S) {nR nD nK nG : Nat} (hN : m_N M nR nD nK nG) (g z : Int32) : z_M l yX6_part cX6_part 3 (some .int) 2 0 0 [.ref (ad 0), .int g, .int z] G (fun H => m_R G ad M H) (m_A ad) ((fun v _ H => v = some (.int (F_part M g z).1) ∧ m_R G ad (F_part M g z).2 H)) := by
  refine z_M.of (by decide +kernel) (Nat.le_of_ble_eq_true rfl) ?_
  intro p e s m below meth c C hP
  have hM : m_R G ad M s.heap := hP
  have hR12 := hN.1.2; have hD16 := hN.2.1.2; have hK16 := hN.2.2.1.2; have hG6 := hN.2.2.2.2
  refine z_aload_n C dX6_part_0 rfl ?_
  refine z_iload_n C dX6_part_1 rfl ?_
  refine z_callVR (As := [.int _]) C (c_X6_noGroup _ _ ad M _) kc_X6_noGroup wb_788 ⟨by decide, by decide⟩ hM.1 rfl (hM) ⟨Nat.zero_le _, Nat.zero_le _⟩ (Nat.le_of_ble_eq_true rfl) dX6_part_2 ?_
  refine z_ifb_eq C 10 dX6_part_5 (by decide) (fun h5 => ?_) (fun h5 => ?_)
  · refine z_iload_n C dX6_part_10 rfl ?_
    refine z_iconst (v := 1) C dX6_part_11 (by decide) ?_
    refine z_bipush (v := 23) C dX6_part_12 (by decide) ?_
    refine z_callSR (As := [.int _, .int _, .int _]) C (c_X6_in _ _ _ _ _) kc_X6_in wb_745 ⟨by decide, by decide⟩ (trivial) ⟨Nat.zero_le _, Nat.zero_le _⟩ (Nat.le_of_ble_eq_true rfl) dX6_part_14 ?_
    refine z_ifb_ne C 23 dX6_part_17 (by decide) (fun h17 => ?_) (fun h17 => ?_)
    · refine z_aload_n C dX6_part_23 rfl ?_
      refine z_iload_n C dX6_part_24 rfl ?_
      refine z_callVR (As := [.int _]) C (c_X6_plays _ _ ad M _ (by first | assumption | exact m_noG hN (by assumption) | exact m_noD hN (by assumption) | exact m_noK hN (by assumption))) kc_X6_plays wb_796 ⟨by decide, by decide⟩ hM.1 rfl (hM) ⟨Nat.zero_le _, Nat.zero_le _⟩ (Nat.le_of_ble_eq_true rfl) dX6_part_25 ?_
      refine z_ifb_eq C 41 dX6_part_28 (by decide) (fun h28 => ?_) (fun h28 => ?_)
      · refine z_bipush (v := (-4)) C dX6_part_41 (by decide) ?_
        exact z_iret C (by omega) (by omega) dX6_part_43 (by first | contradiction | skip; (try simp [m_sA1, m_sA2, m_sS1, m_sS2] at hM); simp [F_part, m_later, m_sA1, m_sA2, m_sS1, m_sS2, *])
      · refine z_aload_n C dX6_part_31 rfl ?_
        refine z_get C (by first | exact hM.1 | exact hM.2.1 _ rfl | exact hM.2.2.1 _ rfl) z_cls7 hu_X6 15 (by decide) wb_650 rfl rfl dX6_part_32 ?_
        refine z_iload_n C dX6_part_35 rfl ?_
        refine z_iald C (by first | exact hM.1 | exact hM.2.1 _ rfl | exact hM.2.2.1 _ rfl) (by first | assumption | exact m_noG hN (by assumption) | exact m_noD hN (by assumption) | exact m_noK hN (by assumption)) (by first | exact hcli | rfl) dX6_part_36 ?_
        refine z_iload_n C dX6_part_37 rfl ?_
        refine z_icmp_gt C 44 dX6_part_38 (by decide) (fun h38 => ?_) (fun h38 => ?_)
        · refine z_aload_n C dX6_part_44 rfl ?_
          refine z_get C (by first | exact hM.1 | exact hM.2.1 _ rfl | exact hM.2.2.1 _ rfl) z_cls7 hu_X6 14 (by decide) wb_649 rfl rfl dX6_part_45 ?_
          refine z_bipush (v := 6) C dX6_part_48 (by decide) ?_
          refine z_icmp_ne C 56 dX6_part_50 (by decide) (fun h50 => ?_) (fun h50 => ?_)
          · refine z_aload_n C dX6_part_56 rfl ?_
            refine z_get C (by first | exact hM.1 | exact hM.2.1 _ rfl | exact hM.2.2.1 _ rfl) z_cls7 hu_X6 15 (by decide) wb_650 rfl rfl dX6_part_57 ?_
            refine z_iload_n C dX6_part_60 rfl ?_
            refine z_dup2 C dX6_part_61 rfl rfl ?_
            refine z_iald C (by first | exact hM.1 | exact hM.2.1 _ rfl | exact hM.2.2.1 _ rfl) (by first | assumption | exact m_noG hN (by assumption) | exact m_noD hN (by assumption) | exact m_noK hN (by assumption)) (by first | exact hcli | rfl) dX6_part_62 ?_
            refine z_iload_n C dX6_part_63 rfl ?_
            refine z_isub C dX6_part_64 ?_
            refine z_iast C (by first | exact hM.1 | exact hM.2.1 _ rfl | exact hM.2.2.1 _ rfl) (by exact ⟨_, rfl, rfl⟩) (by first | assumption | exact m_noG hN (by assumption) | exact m_noD hN (by assumption) | exact m_noK hN (by assumption)) (by first | exact hcli | rfl) dX6_part_65 (fun H65 hU65 => ?_)
            have hM := hM.sI hU65 rfl
            refine z_aload_n C dX6_part_66 rfl ?_
            refine z_iload_n C dX6_part_67 rfl ?_
            refine z_aload_n C dX6_part_68 rfl ?_
            refine z_get C (by first | exact hM.1 | exact hM.2.1 _ rfl | exact hM.2.2.1 _ rfl) z_cls7 hu_X6 16 (by decide) wb_651 rfl rfl dX6_part_69 ?_
            refine z_iload_n C dX6_part_72 rfl ?_
            refine z_iald C (by first | exact hM.1 | exact hM.2.1 _ rfl | exact hM.2.2.1 _ rfl) (by first | assumption | exact m_noG hN (by assumption) | exact m_noD hN (by assumption) | exact m_noK hN (by assumption)) (by first | exact hcli | rfl) dX6_part_73 ?_
            refine z_aload_n C dX6_part_74 rfl ?_
            refine z_get C (by first | exact hM.1 | exact hM.2.1 _ rfl | exact hM.2.2.1 _ rfl) z_cls7 hu_X6 17 (by decide) wb_652 rfl rfl dX6_part_75 ?_
            refine z_iload_n C dX6_part_78 rfl ?_
            refine z_iald C (by first | exact hM.1 | exact hM.2.1 _ rfl | exact hM.2.2.1 _ rfl) (by first | assumption | exact m_noG hN (by assumption) | exact m_noD hN (by assumption) | exact m_noK hN (by assumption)) (by first | exact hcli | rfl) dX6_part_79 ?_
            refine z_callV (As := [.int _, .int _, .int _]) C (c_X6_putGroup _ _ ad _ _ _ _ (by first | exact m_roomX hN.2.2.2.1 hN.2.2.2.2 (by decide) (by assumption))) kc_X6_putGroup wb_776 ⟨by decide, by decide⟩ hM.1 rfl (hM) (fun _ h => h) ⟨Nat.zero_le _, Nat.zero_le _⟩ (Nat.le_of_ble_eq_true rfl) dX6_part_80 (fun v H80 hq _ _ => ?_)
            obtain ⟨rfl, hM⟩ := hq
            exact z_iret C (by omega) (by omega) dX6_part_83 (by first | contradiction | skip; (try simp [m_sA1, m_sA2, m_sS1, m_sS2] at hM); simp [F_part, m_later, m_sA1, m_sA2, m_sS1, m_sS2, *])
          · refine z_bipush (v := (-3)) C dX6_part_53 (by decide) ?_
            exact z_iret C (by omega) (by omega) dX6_part_55 (by first | (unfold F_part; rw [if_neg (by rw [h5]; decide), if_neg (by rw [h17]; decide), if_neg (by simp [h28, h38]), if_pos h50]; exact ⟨rfl, hM⟩) | (first | contradiction | skip; (try simp [m_sA1, m_sA2, m_sS1, m_sS2] at hM); simp [F_part, m_later, m_sA1, m_sA2, m_sS1, m_sS2, *]))
        · refine z_bipush (v := (-4)) C dX6_part_41 (by decide) ?_
          exact z_iret C (by omega) (by omega) dX6_part_43 (by first | contradiction | skip; (try simp [m_sA1, m_sA2, m_sS1, m_sS2] at hM); simp [F_part, m_later, m_sA1, m_sA2, m_sS1, m_sS2, *])
    · refine z_bipush (v := (-2)) C dX6_part_20 (by decide) ?_
      exact z_iret C (by omega) (by omega) dX6_part_22 (by first | contradiction | skip; (try simp [m_sA1, m_sA2, m_sS1, m_sS2] at hM); simp [F_part, m_later, m_sA1, m_sA2, m_sS1, m_sS2, *])
  · refine z_iconst (v := (-1)) C dX6_part_8 (by decide) ?_
    exact z_iret C (by omega) (by omega) dX6_part_9 (by first | contradiction | skip; (try simp [m_sA1, m_sA2, m_sS1, m_sS2] at hM); simp [F_part, m_later, m_sA1, m_sA2, m_sS1, m_sS2, *])

set_option maxHeartbeats 4000000 in
set_option maxRecDepth 100000 in
theorem c_X6_leave (l : Launch) (G : z_G) (ad : Nat → Nat) (M : m_S) {nR nD nK nG : Nat} (hN : m_N M nR nD nK nG) (g : Int32) : z_M l yX6_leave cX6_leave 2 (some .int) 2 0 0 [.ref (ad 0), .int g] G (fun H => m_R G ad M H) (m_A ad) ((fun v _ H => v = some (.int (F_leave M g).1) ∧ m_R G ad (F_leave M g).2 H)) := by
  refine z_M.of (by decide +kernel) (Nat.le_of_ble_eq_true rfl) ?_
  intro p e s m below meth c C hP
  have hM : m_R G ad M s.heap := hP
  have hR12 := hN.1.2; have hD16 := hN.2.1.2; have hK16 := hN.2.2.1.2; have hG6 := hN.2.2.2.2
  refine z_aload_n C dX6_leave_0 rfl ?_
  refine z_iload_n C dX6_leave_1 rfl ?_
  refine z_callVR (As := [.int _]) C (c_X6_noGroup _ _ ad M _) kc_X6_noGroup wb_788 ⟨by decide, by decide⟩ hM.1 rfl (hM) ⟨Nat.zero_le _, Nat.zero_le _⟩ (Nat.le_of_ble_eq_true rfl) dX6_leave_2 ?_
  refine z_ifb_eq C 10 dX6_leave_5 (by decide) (fun h5 => ?_) (fun h5 => ?_)
  · refine z_aload_n C dX6_leave_10 rfl ?_
    refine z_iload_n C dX6_leave_11 rfl ?_
    refine z_callVR (As := [.int _]) C (c_X6_plays _ _ ad M _ (by first | assumption | exact m_noG hN (by assumption) | exact m_noD hN (by assumption) | exact m_noK hN (by assumption))) kc_X6_plays wb_796 ⟨by decide, by decide⟩ hM.1 rfl (hM) ⟨Nat.zero_le _, Nat.zero_le _⟩ (Nat.le_of_ble_eq_true rfl) dX6_leave_12 ?_
    refine z_ifb_eq C 31 dX6_leave_15 (by decide) (fun h15 => ?_) (fun h15 => ?_)
    · refine z_bipush (v := (-4)) C dX6_leave_31 (by decide) ?_
      exact z_iret C (by omega) (by omega) dX6_leave_33 (by first | contradiction | skip; (try simp [m_sA1, m_sA2, m_sS1, m_sS2] at hM); simp [F_leave, m_later, m_sA1, m_sA2, m_sS1, m_sS2, *])
    · refine z_aload_n C dX6_leave_18 rfl ?_
      refine z_get C (by first | exact hM.1 | exact hM.2.1 _ rfl | exact hM.2.2.1 _ rfl) z_cls7 hu_X6 16 (by decide) wb_651 rfl rfl dX6_leave_19 ?_
      refine z_iload_n C dX6_leave_22 rfl ?_
      refine z_iald C (by first | exact hM.1 | exact hM.2.1 _ rfl | exact hM.2.2.1 _ rfl) (by first | assumption | exact m_noG hN (by assumption) | exact m_noD hN (by assumption) | exact m_noK hN (by assumption)) (by first | exact hcli | rfl) dX6_leave_23 ?_
      refine z_aload_n C dX6_leave_24 rfl ?_
      refine z_get C (by first | exact hM.1 | exact hM.2.1 _ rfl | exact hM.2.2.1 _ rfl) z_cls7 hu_X6 1 (by decide) wb_636 rfl rfl dX6_leave_25 ?_
      refine z_icmp_eq C 34 dX6_leave_28 (by decide) (fun h28 => ?_) (fun h28 => ?_)
      · refine z_aload_n C dX6_leave_34 rfl ?_
        refine z_get C (by first | exact hM.1 | exact hM.2.1 _ rfl | exact hM.2.2.1 _ rfl) z_cls7 hu_X6 19 (by decide) wb_654 rfl rfl dX6_leave_35 ?_
        refine z_iload_n C dX6_leave_38 rfl ?_
        refine z_iconst (v := 1) C dX6_leave_39 (by decide) ?_
        refine z_iast C (by first | exact hM.1 | exact hM.2.1 _ rfl | exact hM.2.2.1 _ rfl) (by exact ⟨_, rfl, rfl⟩) (by first | assumption | exact m_noG hN (by assumption) | exact m_noD hN (by assumption) | exact m_noK hN (by assumption)) (by first | exact hcli | rfl) dX6_leave_40 (fun H40 hU40 => ?_)
        have hM := hM.sI hU40 rfl
        refine z_aload_n C dX6_leave_41 rfl ?_
        refine z_get C (by first | exact hM.1 | exact hM.2.1 _ rfl | exact hM.2.2.1 _ rfl) z_cls7 hu_X6 17 (by decide) wb_652 rfl rfl dX6_leave_42 ?_
        refine z_iload_n C dX6_leave_45 rfl ?_
        refine z_iald C (by first | exact hM.1 | exact hM.2.1 _ rfl | exact hM.2.2.1 _ rfl) (by first | assumption | exact m_noG hN (by assumption) | exact m_noD hN (by assumption) | exact m_noK hN (by assumption)) (by first | exact hcli | rfl) dX6_leave_46 ?_
        exact z_iret C (by omega) (by omega) dX6_leave_47 (by first | contradiction | skip; (try simp [m_sA1, m_sA2, m_sS1, m_sS2] at hM); simp [F_leave, m_later, m_sA1, m_sA2, m_sS1, m_sS2, *])
      · refine z_bipush (v := (-4)) C dX6_leave_31 (by decide) ?_
        exact z_iret C (by omega) (by omega) dX6_leave_33 (by first | contradiction | skip; (try simp [m_sA1, m_sA2, m_sS1, m_sS2] at hM); simp [F_leave, m_later, m_sA1, m_sA2, m_sS1, m_sS2, *])
  · refine z_iconst (v := (-1)) C dX6_leave_8 (by decide) ?_
    exact z_iret C (by omega) (by omega) dX6_leave_9 (by first | contradiction | skip; (try simp [m_sA1, m_sA2, m_sS1, m_sS2] at hM); simp [F_leave, m_later, m_sA1, m_sA2, m_sS1, m_sS2, *])

set_option maxHeartbeats 4000000 in
set_option maxRecDepth 100000 in
theorem c_X6_sizes (l : Launch) (G : z_G) (ad : Nat → Nat) (M : m_S) {nR nD nK nG : Nat} (hN : m_N M nR nD nK nG) (z : Int32) : z_MR l yX6_sizes cX6_sizes 4 (some .int) 0 [.ref (ad 0), .int z] G (fun H => m_R G ad M H) (.int (m_sizes M nG z)) := by
  refine z_M.of (by decide +kernel) (Nat.le_of_ble_eq_true rfl) ?_
  intro p e s m below meth c C hP
  have hM : m_R G ad M s.heap := hP
  have hR12 := hN.1.2; have hD16 := hN.2.1.2; have hK16 := hN.2.2.1.2; have hG6 := hN.2.2.2.2
  refine z_iconst (v := 0) C dX6_sizes_0 (by decide) ?_
  refine z_istore_n C dX6_sizes_1 (by decide) ?_
  refine z_iconst (v := 0) C dX6_sizes_2 (by decide) ?_
  refine z_istore_n C dX6_sizes_3 (by decide) ?_
  refine z_loopN (fun i => [(0, .ref (ad 0)), (1, .int z), (2, .int (m_sizes M i z)), (3, .int (nI i))]) nG ⟨rfl, rfl, rfl, rfl, trivial⟩ (fun i hi ihi => ?_)
  refine z_iload_n C dX6_sizes_4 rfl ?_
  refine z_aload_n C dX6_sizes_5 rfl ?_
  refine z_get C (by first | exact hM.1 | exact hM.2.1 _ rfl | exact hM.2.2.1 _ rfl) z_cls7 hu_X6 14 (by decide) wb_649 rfl rfl dX6_sizes_6 ?_
  refine z_icmp_ge C 41 dX6_sizes_9 (by decide) (fun h9 => ?_) (fun h9 => ?_)
  · obtain rfl := z_ge hN.2.2.2.1 (by omega) hi h9
    refine z_iload_n C dX6_sizes_41 rfl ?_
    exact z_iret C (by omega) (by omega) dX6_sizes_42 (by exact ⟨rfl, rfl⟩)
  · have hlti := z_lt hN.2.2.2.1 (by omega) hi h9
    have hini : vp_in (nI i) 6 := vp_in_nI (by omega) (by omega)
    have hcli : (nI i).toNatClampNeg = i := nI_clamp (by omega)
    refine z_iload_n C dX6_sizes_12 rfl ?_
    refine z_aload_n C dX6_sizes_13 rfl ?_
    refine z_get C (by first | exact hM.1 | exact hM.2.1 _ rfl | exact hM.2.2.1 _ rfl) z_cls7 hu_X6 19 (by decide) wb_654 rfl rfl dX6_sizes_14 ?_
    refine z_iload_n C dX6_sizes_17 rfl ?_
    refine z_iald C (by first | exact hM.1 | exact hM.2.1 _ rfl | exact hM.2.2.1 _ rfl) (by first | assumption | exact m_noG hN (by assumption) | exact m_noD hN (by assumption) | exact m_noK hN (by assumption)) (by first | exact hcli | rfl) dX6_sizes_18 ?_
    refine z_iload_n C dX6_sizes_19 rfl ?_
    refine z_icmp_ne C 32 dX6_sizes_20 (by decide) (fun h20 => ?_) (fun h20 => ?_)
    · refine z_iconst (v := 0) C dX6_sizes_32 (by decide) ?_
      refine z_iadd C dX6_sizes_33 ?_
      refine z_istore_n C dX6_sizes_34 (by decide) ?_
      refine z_iinc C dX6_sizes_35 rfl rfl (by decide) ?_
      refine z_goto C 4 dX6_sizes_38 (by decide) ?_
      exact ihi hlti _ ⟨rfl, rfl, z_lgI rfl (by simp [m_sizes, m_sum, *]), z_lgI rfl (z_inc i), trivial⟩
    · refine z_aload_n C dX6_sizes_23 rfl ?_
      refine z_get C (by first | exact hM.1 | exact hM.2.1 _ rfl | exact hM.2.2.1 _ rfl) z_cls7 hu_X6 15 (by decide) wb_650 rfl rfl dX6_sizes_24 ?_
      refine z_iload_n C dX6_sizes_27 rfl ?_
      refine z_iald C (by first | exact hM.1 | exact hM.2.1 _ rfl | exact hM.2.2.1 _ rfl) (by first | assumption | exact m_noG hN (by assumption) | exact m_noD hN (by assumption) | exact m_noK hN (by assumption)) (by first | exact hcli | rfl) dX6_sizes_28 ?_
      refine z_goto C 33 dX6_sizes_29 (by decide) ?_
      refine z_iadd C dX6_sizes_33 ?_
      refine z_istore_n C dX6_sizes_34 (by decide) ?_
      refine z_iinc C dX6_sizes_35 rfl rfl (by decide) ?_
      refine z_goto C 4 dX6_sizes_38 (by decide) ?_
      exact ihi hlti _ ⟨rfl, rfl, z_lgI rfl (by simp [m_sizes, m_sum, *]), z_lgI rfl (z_inc i), trivial⟩

set_option maxHeartbeats 4000000 in
set_option maxRecDepth 100000 in
theorem c_X6_unlocked (l : Launch) (G : z_G) (ad : Nat → Nat) (M : m_S) {nR nD nK nG : Nat} (hN : m_N M nR nD nK nG) : z_MR l yX6_unlocked cX6_unlocked 3 (some .int) 0 [.ref (ad 0)] G (fun H => m_R G ad M H) (.int (m_unl M nD)) := by
  refine z_M.of (by decide +kernel) (Nat.le_of_ble_eq_true rfl) ?_
  intro p e s m below meth c C hP
  have hM : m_R G ad M s.heap := hP
  have hR12 := hN.1.2; have hD16 := hN.2.1.2; have hK16 := hN.2.2.1.2; have hG6 := hN.2.2.2.2
  refine z_iconst (v := 0) C dX6_unlocked_0 (by decide) ?_
  refine z_istore_n C dX6_unlocked_1 (by decide) ?_
  refine z_iconst (v := 0) C dX6_unlocked_2 (by decide) ?_
  refine z_istore_n C dX6_unlocked_3 (by decide) ?_
  refine z_loopN (fun i => [(0, .ref (ad 0)), (1, .int (m_unl M i)), (2, .int (nI i))]) nD ⟨rfl, rfl, rfl, trivial⟩ (fun i hi ihi => ?_)
  refine z_iload_n C dX6_unlocked_4 rfl ?_
  refine z_aload_n C dX6_unlocked_5 rfl ?_
  refine z_get C (by first | exact hM.1 | exact hM.2.1 _ rfl | exact hM.2.2.1 _ rfl) z_cls7 hu_X6 2 (by decide) wb_637 rfl rfl dX6_unlocked_6 ?_
  refine z_icmp_ge C 44 dX6_unlocked_9 (by decide) (fun h9 => ?_) (fun h9 => ?_)
  · obtain rfl := z_ge hN.2.1.1 (by omega) hi h9
    refine z_iload_n C dX6_unlocked_44 rfl ?_
    exact z_iret C (by omega) (by omega) dX6_unlocked_45 (by exact ⟨rfl, rfl⟩)
  · have hlti := z_lt hN.2.1.1 (by omega) hi h9
    have hini : vp_in (nI i) 16 := vp_in_nI (by omega) (by omega)
    have hcli : (nI i).toNatClampNeg = i := nI_clamp (by omega)
    refine z_iload_n C dX6_unlocked_12 rfl ?_
    refine z_aload_n C dX6_unlocked_13 rfl ?_
    refine z_get C (by first | exact hM.1 | exact hM.2.1 _ rfl | exact hM.2.2.1 _ rfl) z_cls7 hu_X6 6 (by decide) wb_641 rfl rfl dX6_unlocked_14 ?_
    refine z_iload_n C dX6_unlocked_17 rfl ?_
    refine z_iald C (by first | exact hM.1 | exact hM.2.1 _ rfl | exact hM.2.2.1 _ rfl) (by first | assumption | exact m_noG hN (by assumption) | exact m_noD hN (by assumption) | exact m_noK hN (by assumption)) (by first | exact hcli | rfl) dX6_unlocked_18 ?_
    refine z_if_lt C 35 dX6_unlocked_19 (by decide) (fun h19 => ?_) (fun h19 => ?_)
    · refine z_iconst (v := 0) C dX6_unlocked_35 (by decide) ?_
      refine z_iadd C dX6_unlocked_36 ?_
      refine z_istore_n C dX6_unlocked_37 (by decide) ?_
      refine z_iinc C dX6_unlocked_38 rfl rfl (by decide) ?_
      refine z_goto C 4 dX6_unlocked_41 (by decide) ?_
      exact ihi hlti _ ⟨rfl, z_lgI rfl (by simp [m_unl, m_cnt, m_sum, m_c, *]), z_lgI rfl (z_inc i), trivial⟩
    · refine z_aload_n C dX6_unlocked_22 rfl ?_
      refine z_get C (by first | exact hM.1 | exact hM.2.1 _ rfl | exact hM.2.2.1 _ rfl) z_cls7 hu_X6 8 (by decide) wb_643 rfl rfl dX6_unlocked_23 ?_
      refine z_iload_n C dX6_unlocked_26 rfl ?_
      refine z_iald C (by first | exact hM.1 | exact hM.2.1 _ rfl | exact hM.2.2.1 _ rfl) (by first | assumption | exact m_noG hN (by assumption) | exact m_noD hN (by assumption) | exact m_noK hN (by assumption)) (by first | exact hcli | rfl) dX6_unlocked_27 ?_
      refine z_if_lt C 35 dX6_unlocked_28 (by decide) (fun h28 => ?_) (fun h28 => ?_)
      · refine z_iconst (v := 0) C dX6_unlocked_35 (by decide) ?_
        refine z_iadd C dX6_unlocked_36 ?_
        refine z_istore_n C dX6_unlocked_37 (by decide) ?_
        refine z_iinc C dX6_unlocked_38 rfl rfl (by decide) ?_
        refine z_goto C 4 dX6_unlocked_41 (by decide) ?_
        exact ihi hlti _ ⟨rfl, z_lgI rfl (by simp [m_unl, m_cnt, m_sum, m_c, *]), z_lgI rfl (z_inc i), trivial⟩
      · refine z_iconst (v := 1) C dX6_unlocked_31 (by decide) ?_
        refine z_goto C 36 dX6_unlocked_32 (by decide) ?_
        refine z_iadd C dX6_unlocked_36 ?_
        refine z_istore_n C dX6_unlocked_37 (by decide) ?_
        refine z_iinc C dX6_unlocked_38 rfl rfl (by decide) ?_
        refine z_goto C 4 dX6_unlocked_41 (by decide) ?_
        exact ihi hlti _ ⟨rfl, z_lgI rfl (by simp [m_unl, m_cnt, m_sum, m_c, *]), z_lgI rfl (z_inc i), trivial⟩

set_option maxHeartbeats 4000000 in
set_option maxRecDepth 100000 in
theorem c_X6_latest (l : Launch) (G : z_G) (ad : Nat → Nat) (M : m_S) {nR nD nK nG : Nat} (hN : m_N M nR nD nK nG) : z_MR l yX6_latest cX6_latest 3 (some .int) 0 [.ref (ad 0)] G (fun H => m_R G ad M H) (.int (m_late M nG)) := by
  refine z_M.of (by decide +kernel) (Nat.le_of_ble_eq_true rfl) ?_
  intro p e s m below meth c C hP
  have hM : m_R G ad M s.heap := hP
  have hR12 := hN.1.2; have hD16 := hN.2.1.2; have hK16 := hN.2.2.1.2; have hG6 := hN.2.2.2.2
  refine z_bipush (v := (-6)) C dX6_latest_0 (by decide) ?_
  refine z_istore_n C dX6_latest_2 (by decide) ?_
  refine z_iconst (v := 0) C dX6_latest_3 (by decide) ?_
  refine z_istore_n C dX6_latest_4 (by decide) ?_
  refine z_loopN (fun i => [(0, .ref (ad 0)), (1, .int (m_late M i)), (2, .int (nI i))]) nG ⟨rfl, rfl, rfl, trivial⟩ (fun i hi ihi => ?_)
  refine z_iload_n C dX6_latest_5 rfl ?_
  refine z_aload_n C dX6_latest_6 rfl ?_
  refine z_get C (by first | exact hM.1 | exact hM.2.1 _ rfl | exact hM.2.2.1 _ rfl) z_cls7 hu_X6 14 (by decide) wb_649 rfl rfl dX6_latest_7 ?_
  refine z_icmp_ge C 50 dX6_latest_10 (by decide) (fun h10 => ?_) (fun h10 => ?_)
  · obtain rfl := z_ge hN.2.2.2.1 (by omega) hi h10
    refine z_iload_n C dX6_latest_50 rfl ?_
    exact z_iret C (by omega) (by omega) dX6_latest_51 (by exact ⟨rfl, rfl⟩)
  · have hlti := z_lt hN.2.2.2.1 (by omega) hi h10
    have hini : vp_in (nI i) 6 := vp_in_nI (by omega) (by omega)
    have hcli : (nI i).toNatClampNeg = i := nI_clamp (by omega)
    refine z_aload_n C dX6_latest_13 rfl ?_
    refine z_get C (by first | exact hM.1 | exact hM.2.1 _ rfl | exact hM.2.2.1 _ rfl) z_cls7 hu_X6 19 (by decide) wb_654 rfl rfl dX6_latest_14 ?_
    refine z_iload_n C dX6_latest_17 rfl ?_
    refine z_iald C (by first | exact hM.1 | exact hM.2.1 _ rfl | exact hM.2.2.1 _ rfl) (by first | assumption | exact m_noG hN (by assumption) | exact m_noD hN (by assumption) | exact m_noK hN (by assumption)) (by first | exact hcli | rfl) dX6_latest_18 ?_
    refine z_iconst (v := 1) C dX6_latest_19 (by decide) ?_
    refine z_icmp_ne C 42 dX6_latest_20 (by decide) (fun h20 => ?_) (fun h20 => ?_)
    · refine z_iload_n C dX6_latest_42 rfl ?_
      refine z_istore_n C dX6_latest_43 (by decide) ?_
      refine z_iinc C dX6_latest_44 rfl rfl (by decide) ?_
      refine z_goto C 5 dX6_latest_47 (by decide) ?_
      exact ihi hlti _ ⟨rfl, z_lgI rfl (by simp [m_late, *]), z_lgI rfl (z_inc i), trivial⟩
    · refine z_aload_n C dX6_latest_23 rfl ?_
      refine z_get C (by first | exact hM.1 | exact hM.2.1 _ rfl | exact hM.2.2.1 _ rfl) z_cls7 hu_X6 17 (by decide) wb_652 rfl rfl dX6_latest_24 ?_
      refine z_iload_n C dX6_latest_27 rfl ?_
      refine z_iald C (by first | exact hM.1 | exact hM.2.1 _ rfl | exact hM.2.2.1 _ rfl) (by first | assumption | exact m_noG hN (by assumption) | exact m_noD hN (by assumption) | exact m_noK hN (by assumption)) (by first | exact hcli | rfl) dX6_latest_28 ?_
      refine z_iload_n C dX6_latest_29 rfl ?_
      refine z_icmp_le C 42 dX6_latest_30 (by decide) (fun h30 => ?_) (fun h30 => ?_)
      · refine z_iload_n C dX6_latest_42 rfl ?_
        refine z_istore_n C dX6_latest_43 (by decide) ?_
        refine z_iinc C dX6_latest_44 rfl rfl (by decide) ?_
        refine z_goto C 5 dX6_latest_47 (by decide) ?_
        exact ihi hlti _ ⟨rfl, z_lgI rfl (by simp [m_late, *]), z_lgI rfl (z_inc i), trivial⟩
      · refine z_aload_n C dX6_latest_33 rfl ?_
        refine z_get C (by first | exact hM.1 | exact hM.2.1 _ rfl | exact hM.2.2.1 _ rfl) z_cls7 hu_X6 17 (by decide) wb_652 rfl rfl dX6_latest_34 ?_
        refine z_iload_n C dX6_latest_37 rfl ?_
        refine z_iald C (by first | exact hM.1 | exact hM.2.1 _ rfl | exact hM.2.2.1 _ rfl) (by first | assumption | exact m_noG hN (by assumption) | exact m_noD hN (by assumption) | exact m_noK hN (by assumption)) (by first | exact hcli | rfl) dX6_latest_38 ?_
        refine z_goto C 43 dX6_latest_39 (by decide) ?_
        refine z_istore_n C dX6_latest_43 (by decide) ?_
        refine z_iinc C dX6_latest_44 rfl rfl (by decide) ?_
        refine z_goto C 5 dX6_latest_47 (by decide) ?_
        exact ihi hlti _ ⟨rfl, z_lgI rfl (by simp [m_late, *]), z_lgI rfl (z_inc i), trivial⟩

set_option maxHeartbeats 4000000 in
set_option maxRecDepth 100000 in
theorem c_X6_hints (l : Launch) (G : z_G) (ad : Nat → Nat) (M : m_S) {nR nD nK nG : Nat} (hN : m_N M nR nD nK nG) : z_MR l yX6_hints cX6_hints 3 (some .int) 0 [.ref (ad 0)] G (fun H => m_R G ad M H) (.int (m_hints M nG)) := by
  refine z_M.of (by decide +kernel) (Nat.le_of_ble_eq_true rfl) ?_
  intro p e s m below meth c C hP
  have hM : m_R G ad M s.heap := hP
  have hR12 := hN.1.2; have hD16 := hN.2.1.2; have hK16 := hN.2.2.1.2; have hG6 := hN.2.2.2.2
  refine z_iconst (v := 0) C dX6_hints_0 (by decide) ?_
  refine z_istore_n C dX6_hints_1 (by decide) ?_
  refine z_iconst (v := 0) C dX6_hints_2 (by decide) ?_
  refine z_istore_n C dX6_hints_3 (by decide) ?_
  refine z_loopN (fun i => [(0, .ref (ad 0)), (1, .int (m_hints M i)), (2, .int (nI i))]) nG ⟨rfl, rfl, rfl, trivial⟩ (fun i hi ihi => ?_)
  refine z_iload_n C dX6_hints_4 rfl ?_
  refine z_aload_n C dX6_hints_5 rfl ?_
  refine z_get C (by first | exact hM.1 | exact hM.2.1 _ rfl | exact hM.2.2.1 _ rfl) z_cls7 hu_X6 14 (by decide) wb_649 rfl rfl dX6_hints_6 ?_
  refine z_icmp_ge C 41 dX6_hints_9 (by decide) (fun h9 => ?_) (fun h9 => ?_)
  · obtain rfl := z_ge hN.2.2.2.1 (by omega) hi h9
    refine z_iload_n C dX6_hints_41 rfl ?_
    exact z_iret C (by omega) (by omega) dX6_hints_42 (by exact ⟨rfl, rfl⟩)
  · have hlti := z_lt hN.2.2.2.1 (by omega) hi h9
    have hini : vp_in (nI i) 6 := vp_in_nI (by omega) (by omega)
    have hcli : (nI i).toNatClampNeg = i := nI_clamp (by omega)
    refine z_iload_n C dX6_hints_12 rfl ?_
    refine z_aload_n C dX6_hints_13 rfl ?_
    refine z_get C (by first | exact hM.1 | exact hM.2.1 _ rfl | exact hM.2.2.1 _ rfl) z_cls7 hu_X6 19 (by decide) wb_654 rfl rfl dX6_hints_14 ?_
    refine z_iload_n C dX6_hints_17 rfl ?_
    refine z_iald C (by first | exact hM.1 | exact hM.2.1 _ rfl | exact hM.2.2.1 _ rfl) (by first | assumption | exact m_noG hN (by assumption) | exact m_noD hN (by assumption) | exact m_noK hN (by assumption)) (by first | exact hcli | rfl) dX6_hints_18 ?_
    refine z_iconst (v := 2) C dX6_hints_19 (by decide) ?_
    refine z_icmp_ne C 27 dX6_hints_20 (by decide) (fun h20 => ?_) (fun h20 => ?_)
    · refine z_aload_n C dX6_hints_27 rfl ?_
      refine z_get C (by first | exact hM.1 | exact hM.2.1 _ rfl | exact hM.2.2.1 _ rfl) z_cls7 hu_X6 18 (by decide) wb_653 rfl rfl dX6_hints_28 ?_
      refine z_iload_n C dX6_hints_31 rfl ?_
      refine z_iald C (by first | exact hM.1 | exact hM.2.1 _ rfl | exact hM.2.2.1 _ rfl) (by first | assumption | exact m_noG hN (by assumption) | exact m_noD hN (by assumption) | exact m_noK hN (by assumption)) (by first | exact hcli | rfl) dX6_hints_32 ?_
      refine z_iadd C dX6_hints_33 ?_
      refine z_istore_n C dX6_hints_34 (by decide) ?_
      refine z_iinc C dX6_hints_35 rfl rfl (by decide) ?_
      refine z_goto C 4 dX6_hints_38 (by decide) ?_
      exact ihi hlti _ ⟨rfl, z_lgI rfl (by simp [m_hints, m_sum, *]), z_lgI rfl (z_inc i), trivial⟩
    · refine z_iconst (v := 0) C dX6_hints_23 (by decide) ?_
      refine z_goto C 33 dX6_hints_24 (by decide) ?_
      refine z_iadd C dX6_hints_33 ?_
      refine z_istore_n C dX6_hints_34 (by decide) ?_
      refine z_iinc C dX6_hints_35 rfl rfl (by decide) ?_
      refine z_goto C 4 dX6_hints_38 (by decide) ?_
      exact ihi hlti _ ⟨rfl, z_lgI rfl (by simp [m_hints, m_sum, *]), z_lgI rfl (z_inc i), trivial⟩

set_option maxHeartbeats 4000000 in
set_option maxRecDepth 100000 in
theorem c_X6_door (l : Launch) (G : z_G) (ad : Nat → Nat) (M : m_S) {nR nD nK nG : Nat} (hN : m_N M nR nD nK nG) (d w : Int32) : z_MR l yX6_door cX6_door 3 (some .int) 2 [.ref (ad 0), .int d, .int w] G (fun H => m_R G ad M H) (.int (F_door M d w)) := by
  refine z_M.of (by decide +kernel) (Nat.le_of_ble_eq_true rfl) ?_
  intro p e s m below meth c C hP
  have hM : m_R G ad M s.heap := hP
  have hR12 := hN.1.2; have hD16 := hN.2.1.2; have hK16 := hN.2.2.1.2; have hG6 := hN.2.2.2.2
  refine z_aload_n C dX6_door_0 rfl ?_
  refine z_iload_n C dX6_door_1 rfl ?_
  refine z_callVR (As := [.int _]) C (c_X6_noDoor _ _ ad M _) kc_X6_noDoor wb_792 ⟨by decide, by decide⟩ hM.1 rfl (hM) ⟨Nat.zero_le _, Nat.zero_le _⟩ (Nat.le_of_ble_eq_true rfl) dX6_door_2 ?_
  refine z_ifb_eq C 10 dX6_door_5 (by decide) (fun h5 => ?_) (fun h5 => ?_)
  · refine z_iload_n C dX6_door_10 rfl ?_
    by_cases hsw_0 : w = 0
    · subst hsw_0
      refine z_tableIn C 48 dX6_door_11 (by decide) (by decide) (by rfl) (by decide) ?_
      refine z_aload_n C dX6_door_48 rfl ?_
      refine z_get C (by first | exact hM.1 | exact hM.2.1 _ rfl | exact hM.2.2.1 _ rfl) z_cls7 hu_X6 3 (by decide) wb_638 rfl rfl dX6_door_49 ?_
      refine z_iload_n C dX6_door_52 rfl ?_
      refine z_iald C (by first | exact hM.1 | exact hM.2.1 _ rfl | exact hM.2.2.1 _ rfl) (by first | assumption | exact m_noG hN (by assumption) | exact m_noD hN (by assumption) | exact m_noK hN (by assumption)) (by first | exact hcli | rfl) dX6_door_53 ?_
      exact z_iret C (by omega) (by omega) dX6_door_54 (by exact ⟨congrArg (fun z => some (Value.int z)) (by simp [z_b, F_door, *]), rfl⟩)
    by_cases hsw_1 : w = 1
    · subst hsw_1
      refine z_tableIn C 55 dX6_door_11 (by decide) (by decide) (by rfl) (by decide) ?_
      refine z_aload_n C dX6_door_55 rfl ?_
      refine z_get C (by first | exact hM.1 | exact hM.2.1 _ rfl | exact hM.2.2.1 _ rfl) z_cls7 hu_X6 4 (by decide) wb_639 rfl rfl dX6_door_56 ?_
      refine z_iload_n C dX6_door_59 rfl ?_
      refine z_iald C (by first | exact hM.1 | exact hM.2.1 _ rfl | exact hM.2.2.1 _ rfl) (by first | assumption | exact m_noG hN (by assumption) | exact m_noD hN (by assumption) | exact m_noK hN (by assumption)) (by first | exact hcli | rfl) dX6_door_60 ?_
      exact z_iret C (by omega) (by omega) dX6_door_61 (by exact ⟨congrArg (fun z => some (Value.int z)) (by simp [z_b, F_door, *]), rfl⟩)
    by_cases hsw_2 : w = 2
    · subst hsw_2
      refine z_tableIn C 62 dX6_door_11 (by decide) (by decide) (by rfl) (by decide) ?_
      refine z_aload_n C dX6_door_62 rfl ?_
      refine z_get C (by first | exact hM.1 | exact hM.2.1 _ rfl | exact hM.2.2.1 _ rfl) z_cls7 hu_X6 5 (by decide) wb_640 rfl rfl dX6_door_63 ?_
      refine z_iload_n C dX6_door_66 rfl ?_
      refine z_iald C (by first | exact hM.1 | exact hM.2.1 _ rfl | exact hM.2.2.1 _ rfl) (by first | assumption | exact m_noG hN (by assumption) | exact m_noD hN (by assumption) | exact m_noK hN (by assumption)) (by first | exact hcli | rfl) dX6_door_67 ?_
      exact z_iret C (by omega) (by omega) dX6_door_68 (by exact ⟨congrArg (fun z => some (Value.int z)) (by simp [z_b, F_door, *]), rfl⟩)
    by_cases hsw_3 : w = 3
    · subst hsw_3
      refine z_tableIn C 69 dX6_door_11 (by decide) (by decide) (by rfl) (by decide) ?_
      refine z_aload_n C dX6_door_69 rfl ?_
      refine z_get C (by first | exact hM.1 | exact hM.2.1 _ rfl | exact hM.2.2.1 _ rfl) z_cls7 hu_X6 6 (by decide) wb_641 rfl rfl dX6_door_70 ?_
      refine z_iload_n C dX6_door_73 rfl ?_
      refine z_iald C (by first | exact hM.1 | exact hM.2.1 _ rfl | exact hM.2.2.1 _ rfl) (by first | assumption | exact m_noG hN (by assumption) | exact m_noD hN (by assumption) | exact m_noK hN (by assumption)) (by first | exact hcli | rfl) dX6_door_74 ?_
      exact z_iret C (by omega) (by omega) dX6_door_75 (by exact ⟨congrArg (fun z => some (Value.int z)) (by simp [z_b, F_door, *]), rfl⟩)
    by_cases hsw_4 : w = 4
    · subst hsw_4
      refine z_tableIn C 76 dX6_door_11 (by decide) (by decide) (by rfl) (by decide) ?_
      refine z_aload_n C dX6_door_76 rfl ?_
      refine z_get C (by first | exact hM.1 | exact hM.2.1 _ rfl | exact hM.2.2.1 _ rfl) z_cls7 hu_X6 7 (by decide) wb_642 rfl rfl dX6_door_77 ?_
      refine z_iload_n C dX6_door_80 rfl ?_
      refine z_iald C (by first | exact hM.1 | exact hM.2.1 _ rfl | exact hM.2.2.1 _ rfl) (by first | assumption | exact m_noG hN (by assumption) | exact m_noD hN (by assumption) | exact m_noK hN (by assumption)) (by first | exact hcli | rfl) dX6_door_81 ?_
      exact z_iret C (by omega) (by omega) dX6_door_82 (by exact ⟨congrArg (fun z => some (Value.int z)) (by simp [z_b, F_door, *]), rfl⟩)
    by_cases hsw_5 : w = 5
    · subst hsw_5
      refine z_tableIn C 83 dX6_door_11 (by decide) (by decide) (by rfl) (by decide) ?_
      refine z_aload_n C dX6_door_83 rfl ?_
      refine z_get C (by first | exact hM.1 | exact hM.2.1 _ rfl | exact hM.2.2.1 _ rfl) z_cls7 hu_X6 8 (by decide) wb_643 rfl rfl dX6_door_84 ?_
      refine z_iload_n C dX6_door_87 rfl ?_
      refine z_iald C (by first | exact hM.1 | exact hM.2.1 _ rfl | exact hM.2.2.1 _ rfl) (by first | assumption | exact m_noG hN (by assumption) | exact m_noD hN (by assumption) | exact m_noK hN (by assumption)) (by first | exact hcli | rfl) dX6_door_88 ?_
      exact z_iret C (by omega) (by omega) dX6_door_89 (by exact ⟨congrArg (fun z => some (Value.int z)) (by simp [z_b, F_door, *]), rfl⟩)
    have hsq_0 : w.toInt ≠ 0 := fun q => hsw_0 (Int32.toInt_inj.mp q)
    have hsq_1 : w.toInt ≠ 1 := fun q => hsw_1 (Int32.toInt_inj.mp q)
    have hsq_2 : w.toInt ≠ 2 := fun q => hsw_2 (Int32.toInt_inj.mp q)
    have hsq_3 : w.toInt ≠ 3 := fun q => hsw_3 (Int32.toInt_inj.mp q)
    have hsq_4 : w.toInt ≠ 4 := fun q => hsw_4 (Int32.toInt_inj.mp q)
    have hsq_5 : w.toInt ≠ 5 := fun q => hsw_5 (Int32.toInt_inj.mp q)
    refine z_tableOut C 90 dX6_door_11 (by omega) (by decide) ?_
    refine z_bipush (v := (-2)) C dX6_door_90 (by decide) ?_
    exact z_iret C (by omega) (by omega) dX6_door_92 (by exact ⟨congrArg (fun z => some (Value.int z)) (by simp [z_b, F_door, *]), rfl⟩)
  · refine z_iconst (v := (-1)) C dX6_door_8 (by decide) ?_
    exact z_iret C (by omega) (by omega) dX6_door_9 (by exact ⟨congrArg (fun z => some (Value.int z)) (by simp [z_b, F_door, *]), rfl⟩)

set_option maxHeartbeats 4000000 in
set_option maxRecDepth 100000 in
theorem c_X6_key (l : Launch) (G : z_G) (ad : Nat → Nat) (M : m_S) {nR nD nK nG : Nat} (hN : m_N M nR nD nK nG) (k w : Int32) : z_MR l yX6_key cX6_key 3 (some .int) 2 [.ref (ad 0), .int k, .int w] G (fun H => m_R G ad M H) (.int (F_key M k w)) := by
  refine z_M.of (by decide +kernel) (Nat.le_of_ble_eq_true rfl) ?_
  intro p e s m below meth c C hP
  have hM : m_R G ad M s.heap := hP
  have hR12 := hN.1.2; have hD16 := hN.2.1.2; have hK16 := hN.2.2.1.2; have hG6 := hN.2.2.2.2
  refine z_aload_n C dX6_key_0 rfl ?_
  refine z_iload_n C dX6_key_1 rfl ?_
  refine z_callVR (As := [.int _]) C (c_X6_noKey _ _ ad M _) kc_X6_noKey wb_821 ⟨by decide, by decide⟩ hM.1 rfl (hM) ⟨Nat.zero_le _, Nat.zero_le _⟩ (Nat.le_of_ble_eq_true rfl) dX6_key_2 ?_
  refine z_ifb_eq C 10 dX6_key_5 (by decide) (fun h5 => ?_) (fun h5 => ?_)
  · refine z_iload_n C dX6_key_10 rfl ?_
    by_cases hsw_0 : w = 0
    · subst hsw_0
      refine z_tableIn C 44 dX6_key_11 (by decide) (by decide) (by rfl) (by decide) ?_
      refine z_aload_n C dX6_key_44 rfl ?_
      refine z_get C (by first | exact hM.1 | exact hM.2.1 _ rfl | exact hM.2.2.1 _ rfl) z_cls7 hu_X6 10 (by decide) wb_645 rfl rfl dX6_key_45 ?_
      refine z_iload_n C dX6_key_48 rfl ?_
      refine z_iald C (by first | exact hM.1 | exact hM.2.1 _ rfl | exact hM.2.2.1 _ rfl) (by first | assumption | exact m_noG hN (by assumption) | exact m_noD hN (by assumption) | exact m_noK hN (by assumption)) (by first | exact hcli | rfl) dX6_key_49 ?_
      exact z_iret C (by omega) (by omega) dX6_key_50 (by exact ⟨congrArg (fun z => some (Value.int z)) (by simp [z_b, F_key, *]), rfl⟩)
    by_cases hsw_1 : w = 1
    · subst hsw_1
      refine z_tableIn C 51 dX6_key_11 (by decide) (by decide) (by rfl) (by decide) ?_
      refine z_aload_n C dX6_key_51 rfl ?_
      refine z_get C (by first | exact hM.1 | exact hM.2.1 _ rfl | exact hM.2.2.1 _ rfl) z_cls7 hu_X6 11 (by decide) wb_646 rfl rfl dX6_key_52 ?_
      refine z_iload_n C dX6_key_55 rfl ?_
      refine z_iald C (by first | exact hM.1 | exact hM.2.1 _ rfl | exact hM.2.2.1 _ rfl) (by first | assumption | exact m_noG hN (by assumption) | exact m_noD hN (by assumption) | exact m_noK hN (by assumption)) (by first | exact hcli | rfl) dX6_key_56 ?_
      exact z_iret C (by omega) (by omega) dX6_key_57 (by exact ⟨congrArg (fun z => some (Value.int z)) (by simp [z_b, F_key, *]), rfl⟩)
    by_cases hsw_2 : w = 2
    · subst hsw_2
      refine z_tableIn C 58 dX6_key_11 (by decide) (by decide) (by rfl) (by decide) ?_
      refine z_aload_n C dX6_key_58 rfl ?_
      refine z_get C (by first | exact hM.1 | exact hM.2.1 _ rfl | exact hM.2.2.1 _ rfl) z_cls7 hu_X6 11 (by decide) wb_646 rfl rfl dX6_key_59 ?_
      refine z_iload_n C dX6_key_62 rfl ?_
      refine z_iald C (by first | exact hM.1 | exact hM.2.1 _ rfl | exact hM.2.2.1 _ rfl) (by first | assumption | exact m_noG hN (by assumption) | exact m_noD hN (by assumption) | exact m_noK hN (by assumption)) (by first | exact hcli | rfl) dX6_key_63 ?_
      refine z_if_ne C 76 dX6_key_64 (by decide) (fun h64 => ?_) (fun h64 => ?_)
      · refine z_bipush (v := (-6)) C dX6_key_76 (by decide) ?_
        exact z_iret C (by omega) (by omega) dX6_key_78 (by exact ⟨congrArg (fun z => some (Value.int z)) (by simp [z_b, F_key, *]), rfl⟩)
      · refine z_aload_n C dX6_key_67 rfl ?_
        refine z_get C (by first | exact hM.1 | exact hM.2.1 _ rfl | exact hM.2.2.1 _ rfl) z_cls7 hu_X6 12 (by decide) wb_647 rfl rfl dX6_key_68 ?_
        refine z_iload_n C dX6_key_71 rfl ?_
        refine z_iald C (by first | exact hM.1 | exact hM.2.1 _ rfl | exact hM.2.2.1 _ rfl) (by first | assumption | exact m_noG hN (by assumption) | exact m_noD hN (by assumption) | exact m_noK hN (by assumption)) (by first | exact hcli | rfl) dX6_key_72 ?_
        refine z_goto C 78 dX6_key_73 (by decide) ?_
        exact z_iret C (by omega) (by omega) dX6_key_78 (by exact ⟨congrArg (fun z => some (Value.int z)) (by simp [z_b, F_key, *]), rfl⟩)
    by_cases hsw_3 : w = 3
    · subst hsw_3
      refine z_tableIn C 79 dX6_key_11 (by decide) (by decide) (by rfl) (by decide) ?_
      refine z_aload_n C dX6_key_79 rfl ?_
      refine z_get C (by first | exact hM.1 | exact hM.2.1 _ rfl | exact hM.2.2.1 _ rfl) z_cls7 hu_X6 11 (by decide) wb_646 rfl rfl dX6_key_80 ?_
      refine z_iload_n C dX6_key_83 rfl ?_
      refine z_iald C (by first | exact hM.1 | exact hM.2.1 _ rfl | exact hM.2.2.1 _ rfl) (by first | assumption | exact m_noG hN (by assumption) | exact m_noD hN (by assumption) | exact m_noK hN (by assumption)) (by first | exact hcli | rfl) dX6_key_84 ?_
      refine z_iconst (v := 1) C dX6_key_85 (by decide) ?_
      refine z_icmp_ne C 98 dX6_key_86 (by decide) (fun h86 => ?_) (fun h86 => ?_)
      · refine z_bipush (v := (-6)) C dX6_key_98 (by decide) ?_
        exact z_iret C (by omega) (by omega) dX6_key_100 (by exact ⟨congrArg (fun z => some (Value.int z)) (by simp [z_b, F_key, *]), rfl⟩)
      · refine z_aload_n C dX6_key_89 rfl ?_
        refine z_get C (by first | exact hM.1 | exact hM.2.1 _ rfl | exact hM.2.2.1 _ rfl) z_cls7 hu_X6 12 (by decide) wb_647 rfl rfl dX6_key_90 ?_
        refine z_iload_n C dX6_key_93 rfl ?_
        refine z_iald C (by first | exact hM.1 | exact hM.2.1 _ rfl | exact hM.2.2.1 _ rfl) (by first | assumption | exact m_noG hN (by assumption) | exact m_noD hN (by assumption) | exact m_noK hN (by assumption)) (by first | exact hcli | rfl) dX6_key_94 ?_
        refine z_goto C 100 dX6_key_95 (by decide) ?_
        exact z_iret C (by omega) (by omega) dX6_key_100 (by exact ⟨congrArg (fun z => some (Value.int z)) (by simp [z_b, F_key, *]), rfl⟩)
    by_cases hsw_4 : w = 4
    · subst hsw_4
      refine z_tableIn C 101 dX6_key_11 (by decide) (by decide) (by rfl) (by decide) ?_
      refine z_aload_n C dX6_key_101 rfl ?_
      refine z_get C (by first | exact hM.1 | exact hM.2.1 _ rfl | exact hM.2.2.1 _ rfl) z_cls7 hu_X6 11 (by decide) wb_646 rfl rfl dX6_key_102 ?_
      refine z_iload_n C dX6_key_105 rfl ?_
      refine z_iald C (by first | exact hM.1 | exact hM.2.1 _ rfl | exact hM.2.2.1 _ rfl) (by first | assumption | exact m_noG hN (by assumption) | exact m_noD hN (by assumption) | exact m_noK hN (by assumption)) (by first | exact hcli | rfl) dX6_key_106 ?_
      refine z_iconst (v := 2) C dX6_key_107 (by decide) ?_
      refine z_icmp_ne C 120 dX6_key_108 (by decide) (fun h108 => ?_) (fun h108 => ?_)
      · refine z_bipush (v := (-6)) C dX6_key_120 (by decide) ?_
        exact z_iret C (by omega) (by omega) dX6_key_122 (by exact ⟨congrArg (fun z => some (Value.int z)) (by simp [z_b, F_key, *]), rfl⟩)
      · refine z_aload_n C dX6_key_111 rfl ?_
        refine z_get C (by first | exact hM.1 | exact hM.2.1 _ rfl | exact hM.2.2.1 _ rfl) z_cls7 hu_X6 12 (by decide) wb_647 rfl rfl dX6_key_112 ?_
        refine z_iload_n C dX6_key_115 rfl ?_
        refine z_iald C (by first | exact hM.1 | exact hM.2.1 _ rfl | exact hM.2.2.1 _ rfl) (by first | assumption | exact m_noG hN (by assumption) | exact m_noD hN (by assumption) | exact m_noK hN (by assumption)) (by first | exact hcli | rfl) dX6_key_116 ?_
        refine z_goto C 122 dX6_key_117 (by decide) ?_
        exact z_iret C (by omega) (by omega) dX6_key_122 (by exact ⟨congrArg (fun z => some (Value.int z)) (by simp [z_b, F_key, *]), rfl⟩)
    have hsq_0 : w.toInt ≠ 0 := fun q => hsw_0 (Int32.toInt_inj.mp q)
    have hsq_1 : w.toInt ≠ 1 := fun q => hsw_1 (Int32.toInt_inj.mp q)
    have hsq_2 : w.toInt ≠ 2 := fun q => hsw_2 (Int32.toInt_inj.mp q)
    have hsq_3 : w.toInt ≠ 3 := fun q => hsw_3 (Int32.toInt_inj.mp q)
    have hsq_4 : w.toInt ≠ 4 := fun q => hsw_4 (Int32.toInt_inj.mp q)
    refine z_tableOut C 123 dX6_key_11 (by omega) (by decide) ?_
    refine z_bipush (v := (-2)) C dX6_key_123 (by decide) ?_
    exact z_iret C (by omega) (by omega) dX6_key_125 (by exact ⟨congrArg (fun z => some (Value.int z)) (by simp [z_b, F_key, *]), rfl⟩)
  · refine z_iconst (v := (-1)) C dX6_key_8 (by decide) ?_
    exact z_iret C (by omega) (by omega) dX6_key_9 (by exact ⟨congrArg (fun z => some (Value.int z)) (by simp [z_b, F_key, *]), rfl⟩)

set_option maxHeartbeats 4000000 in
set_option maxRecDepth 100000 in
theorem c_X6_group (l : Launch) (G : z_G) (ad : Nat → Nat) (M : m_S) {nR nD nK nG : Nat} (hN : m_N M nR nD nK nG) (g w : Int32) : z_MR l yX6_group cX6_group 3 (some .int) 2 [.ref (ad 0), .int g, .int w] G (fun H => m_R G ad M H) (.int (F_group M nK g w)) := by
  refine z_M.of (by decide +kernel) (Nat.le_of_ble_eq_true rfl) ?_
  intro p e s m below meth c C hP
  have hM : m_R G ad M s.heap := hP
  have hR12 := hN.1.2; have hD16 := hN.2.1.2; have hK16 := hN.2.2.1.2; have hG6 := hN.2.2.2.2
  refine z_aload_n C dX6_group_0 rfl ?_
  refine z_iload_n C dX6_group_1 rfl ?_
  refine z_callVR (As := [.int _]) C (c_X6_noGroup _ _ ad M _) kc_X6_noGroup wb_788 ⟨by decide, by decide⟩ hM.1 rfl (hM) ⟨Nat.zero_le _, Nat.zero_le _⟩ (Nat.le_of_ble_eq_true rfl) dX6_group_2 ?_
  refine z_ifb_eq C 10 dX6_group_5 (by decide) (fun h5 => ?_) (fun h5 => ?_)
  · refine z_iload_n C dX6_group_10 rfl ?_
    by_cases hsw_0 : w = 0
    · subst hsw_0
      refine z_tableIn C 48 dX6_group_11 (by decide) (by decide) (by rfl) (by decide) ?_
      refine z_aload_n C dX6_group_48 rfl ?_
      refine z_get C (by first | exact hM.1 | exact hM.2.1 _ rfl | exact hM.2.2.1 _ rfl) z_cls7 hu_X6 15 (by decide) wb_650 rfl rfl dX6_group_49 ?_
      refine z_iload_n C dX6_group_52 rfl ?_
      refine z_iald C (by first | exact hM.1 | exact hM.2.1 _ rfl | exact hM.2.2.1 _ rfl) (by first | assumption | exact m_noG hN (by assumption) | exact m_noD hN (by assumption) | exact m_noK hN (by assumption)) (by first | exact hcli | rfl) dX6_group_53 ?_
      exact z_iret C (by omega) (by omega) dX6_group_54 (by exact ⟨congrArg (fun z => some (Value.int z)) (by simp [z_b, F_group, *]), rfl⟩)
    by_cases hsw_1 : w = 1
    · subst hsw_1
      refine z_tableIn C 55 dX6_group_11 (by decide) (by decide) (by rfl) (by decide) ?_
      refine z_aload_n C dX6_group_55 rfl ?_
      refine z_get C (by first | exact hM.1 | exact hM.2.1 _ rfl | exact hM.2.2.1 _ rfl) z_cls7 hu_X6 16 (by decide) wb_651 rfl rfl dX6_group_56 ?_
      refine z_iload_n C dX6_group_59 rfl ?_
      refine z_iald C (by first | exact hM.1 | exact hM.2.1 _ rfl | exact hM.2.2.1 _ rfl) (by first | assumption | exact m_noG hN (by assumption) | exact m_noD hN (by assumption) | exact m_noK hN (by assumption)) (by first | exact hcli | rfl) dX6_group_60 ?_
      exact z_iret C (by omega) (by omega) dX6_group_61 (by exact ⟨congrArg (fun z => some (Value.int z)) (by simp [z_b, F_group, *]), rfl⟩)
    by_cases hsw_2 : w = 2
    · subst hsw_2
      refine z_tableIn C 62 dX6_group_11 (by decide) (by decide) (by rfl) (by decide) ?_
      refine z_aload_n C dX6_group_62 rfl ?_
      refine z_get C (by first | exact hM.1 | exact hM.2.1 _ rfl | exact hM.2.2.1 _ rfl) z_cls7 hu_X6 17 (by decide) wb_652 rfl rfl dX6_group_63 ?_
      refine z_iload_n C dX6_group_66 rfl ?_
      refine z_iald C (by first | exact hM.1 | exact hM.2.1 _ rfl | exact hM.2.2.1 _ rfl) (by first | assumption | exact m_noG hN (by assumption) | exact m_noD hN (by assumption) | exact m_noK hN (by assumption)) (by first | exact hcli | rfl) dX6_group_67 ?_
      exact z_iret C (by omega) (by omega) dX6_group_68 (by exact ⟨congrArg (fun z => some (Value.int z)) (by simp [z_b, F_group, *]), rfl⟩)
    by_cases hsw_3 : w = 3
    · subst hsw_3
      refine z_tableIn C 69 dX6_group_11 (by decide) (by decide) (by rfl) (by decide) ?_
      refine z_aload_n C dX6_group_69 rfl ?_
      refine z_iload_n C dX6_group_70 rfl ?_
      refine z_callVR (As := [.int _]) C (c_X6_held _ _ ad _ (by exact hN) _) kc_X6_held wb_825 ⟨by decide, by decide⟩ hM.1 rfl (hM) ⟨Nat.zero_le _, Nat.zero_le _⟩ (Nat.le_of_ble_eq_true rfl) dX6_group_71 ?_
      exact z_iret C (by omega) (by omega) dX6_group_74 (by exact ⟨congrArg (fun z => some (Value.int z)) (by simp [z_b, F_group, *]), rfl⟩)
    by_cases hsw_4 : w = 4
    · subst hsw_4
      refine z_tableIn C 75 dX6_group_11 (by decide) (by decide) (by rfl) (by decide) ?_
      refine z_aload_n C dX6_group_75 rfl ?_
      refine z_get C (by first | exact hM.1 | exact hM.2.1 _ rfl | exact hM.2.2.1 _ rfl) z_cls7 hu_X6 18 (by decide) wb_653 rfl rfl dX6_group_76 ?_
      refine z_iload_n C dX6_group_79 rfl ?_
      refine z_iald C (by first | exact hM.1 | exact hM.2.1 _ rfl | exact hM.2.2.1 _ rfl) (by first | assumption | exact m_noG hN (by assumption) | exact m_noD hN (by assumption) | exact m_noK hN (by assumption)) (by first | exact hcli | rfl) dX6_group_80 ?_
      exact z_iret C (by omega) (by omega) dX6_group_81 (by exact ⟨congrArg (fun z => some (Value.int z)) (by simp [z_b, F_group, *]), rfl⟩)
    by_cases hsw_5 : w = 5
    · subst hsw_5
      refine z_tableIn C 82 dX6_group_11 (by decide) (by decide) (by rfl) (by decide) ?_
      refine z_aload_n C dX6_group_82 rfl ?_
      refine z_get C (by first | exact hM.1 | exact hM.2.1 _ rfl | exact hM.2.2.1 _ rfl) z_cls7 hu_X6 19 (by decide) wb_654 rfl rfl dX6_group_83 ?_
      refine z_iload_n C dX6_group_86 rfl ?_
      refine z_iald C (by first | exact hM.1 | exact hM.2.1 _ rfl | exact hM.2.2.1 _ rfl) (by first | assumption | exact m_noG hN (by assumption) | exact m_noD hN (by assumption) | exact m_noK hN (by assumption)) (by first | exact hcli | rfl) dX6_group_87 ?_
      exact z_iret C (by omega) (by omega) dX6_group_88 (by exact ⟨congrArg (fun z => some (Value.int z)) (by simp [z_b, F_group, *]), rfl⟩)
    have hsq_0 : w.toInt ≠ 0 := fun q => hsw_0 (Int32.toInt_inj.mp q)
    have hsq_1 : w.toInt ≠ 1 := fun q => hsw_1 (Int32.toInt_inj.mp q)
    have hsq_2 : w.toInt ≠ 2 := fun q => hsw_2 (Int32.toInt_inj.mp q)
    have hsq_3 : w.toInt ≠ 3 := fun q => hsw_3 (Int32.toInt_inj.mp q)
    have hsq_4 : w.toInt ≠ 4 := fun q => hsw_4 (Int32.toInt_inj.mp q)
    have hsq_5 : w.toInt ≠ 5 := fun q => hsw_5 (Int32.toInt_inj.mp q)
    refine z_tableOut C 89 dX6_group_11 (by omega) (by decide) ?_
    refine z_bipush (v := (-2)) C dX6_group_89 (by decide) ?_
    exact z_iret C (by omega) (by omega) dX6_group_91 (by exact ⟨congrArg (fun z => some (Value.int z)) (by simp [z_b, F_group, *]), rfl⟩)
  · refine z_iconst (v := (-1)) C dX6_group_8 (by decide) ?_
    exact z_iret C (by omega) (by omega) dX6_group_9 (by exact ⟨congrArg (fun z => some (Value.int z)) (by simp [z_b, F_group, *]), rfl⟩)

theorem m_in01 {w : Int32} (h : m_in w 0 1 = true) (h0 : ¬ w = 0) : w = 1 := by
  have h1 : ¬ w < 0 ∧ ¬ 1 < w := by
    unfold m_in at h
    by_cases c1 : w < 0 <;> by_cases c2 : 1 < w <;> simp [c1, c2] at h ⊢
  have h2 : w.toInt ≠ 0 := fun q => h0 (Int32.toInt_inj.mp q)
  rw [Int32.lt_iff_toInt_lt, Int32.lt_iff_toInt_lt] at h1
  have e0 : (0 : Int32).toInt = 0 := rfl
  have e1 : (1 : Int32).toInt = 1 := rfl
  exact Int32.toInt_inj.mp (by omega)
set_option maxHeartbeats 4000000 in
set_option maxRecDepth 100000 in
theorem c_X6_color (l : Launch) (G : z_G) (ad : Nat → Nat) (M : m_S) {nR nD nK nG : Nat} (hN : m_N M nR nD nK nG) (c0 w : Int32) : z_MR l yX6_color cX6_color 5 (some .int) 1 [.ref (ad 0), .int c0, .int w] G (fun H => m_R G ad M H) (.int (F_color M nD nK c0 w)) := by
  refine z_M.of (by decide +kernel) (Nat.le_of_ble_eq_true rfl) ?_
  intro p e s m below meth c C hP
  have hM : m_R G ad M s.heap := hP
  have hR12 := hN.1.2; have hD16 := hN.2.1.2; have hK16 := hN.2.2.1.2; have hG6 := hN.2.2.2.2
  by_cases hw0 : w = 0
  · subst hw0
    refine z_iload_n C dX6_color_0 rfl ?_
    refine z_iconst (v := 0) C dX6_color_1 (by decide) ?_
    refine z_iconst (v := 5) C dX6_color_2 (by decide) ?_
    refine z_callSR (As := [.int _, .int _, .int _]) C (c_X6_in _ _ _ _ _) kc_X6_in wb_745 ⟨by decide, by decide⟩ (trivial) ⟨Nat.zero_le _, Nat.zero_le _⟩ (Nat.le_of_ble_eq_true rfl) dX6_color_3 ?_
    refine z_ifb_eq C 18 dX6_color_6 (by decide) (fun h6 => ?_) (fun h6 => ?_)
    · refine z_bipush (v := (-2)) C dX6_color_18 (by decide) ?_
      exact z_iret C (by omega) (by omega) dX6_color_20 (by exact ⟨congrArg (fun z => some (Value.int z)) (by simp [z_b, F_color, *]), rfl⟩)
    · refine z_iload_n C dX6_color_9 rfl ?_
      refine z_iconst (v := 0) C dX6_color_10 (by decide) ?_
      refine z_iconst (v := 1) C dX6_color_11 (by decide) ?_
      refine z_callSR (As := [.int _, .int _, .int _]) C (c_X6_in _ _ _ _ _) kc_X6_in wb_745 ⟨by decide, by decide⟩ (trivial) ⟨Nat.zero_le _, Nat.zero_le _⟩ (Nat.le_of_ble_eq_true rfl) dX6_color_12 ?_
      refine z_ifb_ne C 21 dX6_color_15 (by decide) (fun h15 => ?_) (fun h15 => ?_)
      · refine z_iconst (v := 0) C dX6_color_21 (by decide) ?_
        refine z_istore_n C dX6_color_22 (by decide) ?_
        refine z_iconst (v := 0) C dX6_color_23 (by decide) ?_
        refine z_istore C dX6_color_24 (by decide) ?_
        refine z_loopN (fun i => [(0, .ref (ad 0)), (1, .int c0), (2, .int 0), (3, .int (m_cnt (fun d => decide (M.2 6 d = c0) && decide (M.2 8 d < 0)) i)), (4, .int (nI i))]) nD ⟨rfl, rfl, rfl, rfl, rfl, trivial⟩ (fun i hi ihi => ?_)
        refine z_iload C dX6_color_26 rfl ?_
        refine z_aload_n C dX6_color_28 rfl ?_
        refine z_get C (by first | exact hM.1 | exact hM.2.1 _ rfl | exact hM.2.2.1 _ rfl) z_cls7 hu_X6 2 (by decide) wb_637 rfl rfl dX6_color_29 ?_
        refine z_icmp_ge C 74 dX6_color_32 (by decide) (fun h32 => ?_) (fun h32 => ?_)
        · obtain rfl := z_ge hN.2.1.1 (by omega) hi h32
          refine z_iconst (v := 0) C dX6_color_74 (by decide) ?_
          refine z_istore C dX6_color_75 (by decide) ?_
          refine z_iload C dX6_color_77 rfl ?_
          refine z_aload_n C dX6_color_79 rfl ?_
          refine z_get C (by first | exact hM.1 | exact hM.2.1 _ rfl | exact hM.2.2.1 _ rfl) z_cls7 hu_X6 9 (by decide) wb_644 rfl rfl dX6_color_80 ?_
          refine z_icmp_ge C 127 dX6_color_83 (by decide) (fun h83 => ?_) (fun h83 => ?_)
          · refine z_iload_n C dX6_color_127 rfl ?_
            exact z_iret C (by omega) (by omega) dX6_color_128 (by exact ⟨congrArg (fun z => some (Value.int z)) (by simp [z_b, F_color, *]), rfl⟩)
          · refine z_iload_n C dX6_color_86 rfl ?_
            refine z_iconst (v := 1) C dX6_color_87 (by decide) ?_
            refine z_icmp_ne C 127 dX6_color_88 (by decide) (fun h88 => ?_) (fun h88 => ?_)
            · refine z_iload_n C dX6_color_127 rfl ?_
              exact z_iret C (by omega) (by omega) dX6_color_128 (by exact ⟨congrArg (fun z => some (Value.int z)) (by simp [z_b, F_color, *]), rfl⟩)
            · exact absurd h88 (by decide)
        · have hlti := z_lt hN.2.1.1 (by omega) hi h32
          have hini : vp_in (nI i) 16 := vp_in_nI (by omega) (by omega)
          have hcli : (nI i).toNatClampNeg = i := nI_clamp (by omega)
          refine z_iload_n C dX6_color_35 rfl ?_
          refine z_if_ne C 74 dX6_color_36 (by decide) (fun h36 => ?_) (fun h36 => ?_)
          · exact absurd rfl h36
          · refine z_iload_n C dX6_color_39 rfl ?_
            refine z_aload_n C dX6_color_40 rfl ?_
            refine z_get C (by first | exact hM.1 | exact hM.2.1 _ rfl | exact hM.2.2.1 _ rfl) z_cls7 hu_X6 6 (by decide) wb_641 rfl rfl dX6_color_41 ?_
            refine z_iload C dX6_color_44 rfl ?_
            refine z_iald C (by first | exact hM.1 | exact hM.2.1 _ rfl | exact hM.2.2.1 _ rfl) (by first | assumption | exact m_noG hN (by assumption) | exact m_noD hN (by assumption) | exact m_noK hN (by assumption)) (by first | exact hcli | rfl) dX6_color_46 ?_
            refine z_iload_n C dX6_color_47 rfl ?_
            refine z_icmp_ne C 65 dX6_color_48 (by decide) (fun h48 => ?_) (fun h48 => ?_)
            · refine z_iconst (v := 0) C dX6_color_65 (by decide) ?_
              refine z_iadd C dX6_color_66 ?_
              refine z_istore_n C dX6_color_67 (by decide) ?_
              refine z_iinc C dX6_color_68 rfl rfl (by decide) ?_
              refine z_goto C 26 dX6_color_71 (by decide) ?_
              exact ihi hlti _ ⟨rfl, rfl, rfl, z_lgI rfl (by simp [m_cnt, m_sum, m_c, *]), z_lgI rfl (z_inc i), trivial⟩
            · refine z_aload_n C dX6_color_51 rfl ?_
              refine z_get C (by first | exact hM.1 | exact hM.2.1 _ rfl | exact hM.2.2.1 _ rfl) z_cls7 hu_X6 8 (by decide) wb_643 rfl rfl dX6_color_52 ?_
              refine z_iload C dX6_color_55 rfl ?_
              refine z_iald C (by first | exact hM.1 | exact hM.2.1 _ rfl | exact hM.2.2.1 _ rfl) (by first | assumption | exact m_noG hN (by assumption) | exact m_noD hN (by assumption) | exact m_noK hN (by assumption)) (by first | exact hcli | rfl) dX6_color_57 ?_
              refine z_if_ge C 65 dX6_color_58 (by decide) (fun h58 => ?_) (fun h58 => ?_)
              · refine z_iconst (v := 0) C dX6_color_65 (by decide) ?_
                refine z_iadd C dX6_color_66 ?_
                refine z_istore_n C dX6_color_67 (by decide) ?_
                refine z_iinc C dX6_color_68 rfl rfl (by decide) ?_
                refine z_goto C 26 dX6_color_71 (by decide) ?_
                exact ihi hlti _ ⟨rfl, rfl, rfl, z_lgI rfl (by simp [m_cnt, m_sum, m_c, *]), z_lgI rfl (z_inc i), trivial⟩
              · refine z_iconst (v := 1) C dX6_color_61 (by decide) ?_
                refine z_goto C 66 dX6_color_62 (by decide) ?_
                refine z_iadd C dX6_color_66 ?_
                refine z_istore_n C dX6_color_67 (by decide) ?_
                refine z_iinc C dX6_color_68 rfl rfl (by decide) ?_
                refine z_goto C 26 dX6_color_71 (by decide) ?_
                exact ihi hlti _ ⟨rfl, rfl, rfl, z_lgI rfl (by simp [m_cnt, m_sum, m_c, *]), z_lgI rfl (z_inc i), trivial⟩
      · refine z_bipush (v := (-2)) C dX6_color_18 (by decide) ?_
        exact z_iret C (by omega) (by omega) dX6_color_20 (by exact ⟨congrArg (fun z => some (Value.int z)) (by simp [z_b, F_color, *]), rfl⟩)
  refine z_iload_n C dX6_color_0 rfl ?_
  refine z_iconst (v := 0) C dX6_color_1 (by decide) ?_
  refine z_iconst (v := 5) C dX6_color_2 (by decide) ?_
  refine z_callSR (As := [.int _, .int _, .int _]) C (c_X6_in _ _ _ _ _) kc_X6_in wb_745 ⟨by decide, by decide⟩ (trivial) ⟨Nat.zero_le _, Nat.zero_le _⟩ (Nat.le_of_ble_eq_true rfl) dX6_color_3 ?_
  refine z_ifb_eq C 18 dX6_color_6 (by decide) (fun h6 => ?_) (fun h6 => ?_)
  · refine z_bipush (v := (-2)) C dX6_color_18 (by decide) ?_
    exact z_iret C (by omega) (by omega) dX6_color_20 (by exact ⟨congrArg (fun z => some (Value.int z)) (by simp [z_b, F_color, *]), rfl⟩)
  · refine z_iload_n C dX6_color_9 rfl ?_
    refine z_iconst (v := 0) C dX6_color_10 (by decide) ?_
    refine z_iconst (v := 1) C dX6_color_11 (by decide) ?_
    refine z_callSR (As := [.int _, .int _, .int _]) C (c_X6_in _ _ _ _ _) kc_X6_in wb_745 ⟨by decide, by decide⟩ (trivial) ⟨Nat.zero_le _, Nat.zero_le _⟩ (Nat.le_of_ble_eq_true rfl) dX6_color_12 ?_
    refine z_ifb_ne C 21 dX6_color_15 (by decide) (fun h15 => ?_) (fun h15 => ?_)
    · refine z_iconst (v := 0) C dX6_color_21 (by decide) ?_
      refine z_istore_n C dX6_color_22 (by decide) ?_
      refine z_iconst (v := 0) C dX6_color_23 (by decide) ?_
      refine z_istore C dX6_color_24 (by decide) ?_
      refine z_iload C dX6_color_26 rfl ?_
      refine z_aload_n C dX6_color_28 rfl ?_
      refine z_get C (by first | exact hM.1 | exact hM.2.1 _ rfl | exact hM.2.2.1 _ rfl) z_cls7 hu_X6 2 (by decide) wb_637 rfl rfl dX6_color_29 ?_
      refine z_icmp_ge C 74 dX6_color_32 (by decide) (fun h32 => ?_) (fun h32 => ?_)
      · refine z_iconst (v := 0) C dX6_color_74 (by decide) ?_
        refine z_istore C dX6_color_75 (by decide) ?_
        refine z_loopN (fun i => [(0, .ref (ad 0)), (1, .int c0), (2, .int w), (3, .int (m_cnt (fun k => decide (M.2 10 k = c0) && !(decide (M.2 11 k = 2))) i)), (4, .int (nI i))]) nK ⟨rfl, rfl, rfl, rfl, rfl, trivial⟩ (fun i hi ihi => ?_)
        refine z_iload C dX6_color_77 rfl ?_
        refine z_aload_n C dX6_color_79 rfl ?_
        refine z_get C (by first | exact hM.1 | exact hM.2.1 _ rfl | exact hM.2.2.1 _ rfl) z_cls7 hu_X6 9 (by decide) wb_644 rfl rfl dX6_color_80 ?_
        refine z_icmp_ge C 127 dX6_color_83 (by decide) (fun h83 => ?_) (fun h83 => ?_)
        · obtain rfl := z_ge hN.2.2.1.1 (by omega) hi h83
          refine z_iload_n C dX6_color_127 rfl ?_
          exact z_iret C (by omega) (by omega) dX6_color_128 (by exact ⟨congrArg (fun z => some (Value.int z)) (by simp [z_b, F_color, *]), rfl⟩)
        · have hlti := z_lt hN.2.2.1.1 (by omega) hi h83
          have hini : vp_in (nI i) 16 := vp_in_nI (by omega) (by omega)
          have hcli : (nI i).toNatClampNeg = i := nI_clamp (by omega)
          refine z_iload_n C dX6_color_86 rfl ?_
          refine z_iconst (v := 1) C dX6_color_87 (by decide) ?_
          refine z_icmp_ne C 127 dX6_color_88 (by decide) (fun h88 => ?_) (fun h88 => ?_)
          · exact absurd (m_in01 (by assumption) hw0) h88
          · refine z_iload_n C dX6_color_91 rfl ?_
            refine z_aload_n C dX6_color_92 rfl ?_
            refine z_get C (by first | exact hM.1 | exact hM.2.1 _ rfl | exact hM.2.2.1 _ rfl) z_cls7 hu_X6 10 (by decide) wb_645 rfl rfl dX6_color_93 ?_
            refine z_iload C dX6_color_96 rfl ?_
            refine z_iald C (by first | exact hM.1 | exact hM.2.1 _ rfl | exact hM.2.2.1 _ rfl) (by first | assumption | exact m_noG hN (by assumption) | exact m_noD hN (by assumption) | exact m_noK hN (by assumption)) (by first | exact hcli | rfl) dX6_color_98 ?_
            refine z_iload_n C dX6_color_99 rfl ?_
            refine z_icmp_ne C 118 dX6_color_100 (by decide) (fun h100 => ?_) (fun h100 => ?_)
            · refine z_iconst (v := 0) C dX6_color_118 (by decide) ?_
              refine z_iadd C dX6_color_119 ?_
              refine z_istore_n C dX6_color_120 (by decide) ?_
              refine z_iinc C dX6_color_121 rfl rfl (by decide) ?_
              refine z_goto C 77 dX6_color_124 (by decide) ?_
              exact ihi hlti _ ⟨rfl, rfl, rfl, z_lgI rfl (by simp [m_cnt, m_sum, m_c, *]), z_lgI rfl (z_inc i), trivial⟩
            · refine z_aload_n C dX6_color_103 rfl ?_
              refine z_get C (by first | exact hM.1 | exact hM.2.1 _ rfl | exact hM.2.2.1 _ rfl) z_cls7 hu_X6 11 (by decide) wb_646 rfl rfl dX6_color_104 ?_
              refine z_iload C dX6_color_107 rfl ?_
              refine z_iald C (by first | exact hM.1 | exact hM.2.1 _ rfl | exact hM.2.2.1 _ rfl) (by first | assumption | exact m_noG hN (by assumption) | exact m_noD hN (by assumption) | exact m_noK hN (by assumption)) (by first | exact hcli | rfl) dX6_color_109 ?_
              refine z_iconst (v := 2) C dX6_color_110 (by decide) ?_
              refine z_icmp_eq C 118 dX6_color_111 (by decide) (fun h111 => ?_) (fun h111 => ?_)
              · refine z_iconst (v := 0) C dX6_color_118 (by decide) ?_
                refine z_iadd C dX6_color_119 ?_
                refine z_istore_n C dX6_color_120 (by decide) ?_
                refine z_iinc C dX6_color_121 rfl rfl (by decide) ?_
                refine z_goto C 77 dX6_color_124 (by decide) ?_
                exact ihi hlti _ ⟨rfl, rfl, rfl, z_lgI rfl (by simp [m_cnt, m_sum, m_c, *]), z_lgI rfl (z_inc i), trivial⟩
              · refine z_iconst (v := 1) C dX6_color_114 (by decide) ?_
                refine z_goto C 119 dX6_color_115 (by decide) ?_
                refine z_iadd C dX6_color_119 ?_
                refine z_istore_n C dX6_color_120 (by decide) ?_
                refine z_iinc C dX6_color_121 rfl rfl (by decide) ?_
                refine z_goto C 77 dX6_color_124 (by decide) ?_
                exact ihi hlti _ ⟨rfl, rfl, rfl, z_lgI rfl (by simp [m_cnt, m_sum, m_c, *]), z_lgI rfl (z_inc i), trivial⟩
      · refine z_iload_n C dX6_color_35 rfl ?_
        refine z_if_ne C 74 dX6_color_36 (by decide) (fun h36 => ?_) (fun h36 => ?_)
        · refine z_iconst (v := 0) C dX6_color_74 (by decide) ?_
          refine z_istore C dX6_color_75 (by decide) ?_
          refine z_loopN (fun i => [(0, .ref (ad 0)), (1, .int c0), (2, .int w), (3, .int (m_cnt (fun k => decide (M.2 10 k = c0) && !(decide (M.2 11 k = 2))) i)), (4, .int (nI i))]) nK ⟨rfl, rfl, rfl, rfl, rfl, trivial⟩ (fun i hi ihi => ?_)
          refine z_iload C dX6_color_77 rfl ?_
          refine z_aload_n C dX6_color_79 rfl ?_
          refine z_get C (by first | exact hM.1 | exact hM.2.1 _ rfl | exact hM.2.2.1 _ rfl) z_cls7 hu_X6 9 (by decide) wb_644 rfl rfl dX6_color_80 ?_
          refine z_icmp_ge C 127 dX6_color_83 (by decide) (fun h83 => ?_) (fun h83 => ?_)
          · obtain rfl := z_ge hN.2.2.1.1 (by omega) hi h83
            refine z_iload_n C dX6_color_127 rfl ?_
            exact z_iret C (by omega) (by omega) dX6_color_128 (by exact ⟨congrArg (fun z => some (Value.int z)) (by simp [z_b, F_color, *]), rfl⟩)
          · have hlti := z_lt hN.2.2.1.1 (by omega) hi h83
            have hini : vp_in (nI i) 16 := vp_in_nI (by omega) (by omega)
            have hcli : (nI i).toNatClampNeg = i := nI_clamp (by omega)
            refine z_iload_n C dX6_color_86 rfl ?_
            refine z_iconst (v := 1) C dX6_color_87 (by decide) ?_
            refine z_icmp_ne C 127 dX6_color_88 (by decide) (fun h88 => ?_) (fun h88 => ?_)
            · exact absurd (m_in01 (by assumption) hw0) h88
            · refine z_iload_n C dX6_color_91 rfl ?_
              refine z_aload_n C dX6_color_92 rfl ?_
              refine z_get C (by first | exact hM.1 | exact hM.2.1 _ rfl | exact hM.2.2.1 _ rfl) z_cls7 hu_X6 10 (by decide) wb_645 rfl rfl dX6_color_93 ?_
              refine z_iload C dX6_color_96 rfl ?_
              refine z_iald C (by first | exact hM.1 | exact hM.2.1 _ rfl | exact hM.2.2.1 _ rfl) (by first | assumption | exact m_noG hN (by assumption) | exact m_noD hN (by assumption) | exact m_noK hN (by assumption)) (by first | exact hcli | rfl) dX6_color_98 ?_
              refine z_iload_n C dX6_color_99 rfl ?_
              refine z_icmp_ne C 118 dX6_color_100 (by decide) (fun h100 => ?_) (fun h100 => ?_)
              · refine z_iconst (v := 0) C dX6_color_118 (by decide) ?_
                refine z_iadd C dX6_color_119 ?_
                refine z_istore_n C dX6_color_120 (by decide) ?_
                refine z_iinc C dX6_color_121 rfl rfl (by decide) ?_
                refine z_goto C 77 dX6_color_124 (by decide) ?_
                exact ihi hlti _ ⟨rfl, rfl, rfl, z_lgI rfl (by simp [m_cnt, m_sum, m_c, *]), z_lgI rfl (z_inc i), trivial⟩
              · refine z_aload_n C dX6_color_103 rfl ?_
                refine z_get C (by first | exact hM.1 | exact hM.2.1 _ rfl | exact hM.2.2.1 _ rfl) z_cls7 hu_X6 11 (by decide) wb_646 rfl rfl dX6_color_104 ?_
                refine z_iload C dX6_color_107 rfl ?_
                refine z_iald C (by first | exact hM.1 | exact hM.2.1 _ rfl | exact hM.2.2.1 _ rfl) (by first | assumption | exact m_noG hN (by assumption) | exact m_noD hN (by assumption) | exact m_noK hN (by assumption)) (by first | exact hcli | rfl) dX6_color_109 ?_
                refine z_iconst (v := 2) C dX6_color_110 (by decide) ?_
                refine z_icmp_eq C 118 dX6_color_111 (by decide) (fun h111 => ?_) (fun h111 => ?_)
                · refine z_iconst (v := 0) C dX6_color_118 (by decide) ?_
                  refine z_iadd C dX6_color_119 ?_
                  refine z_istore_n C dX6_color_120 (by decide) ?_
                  refine z_iinc C dX6_color_121 rfl rfl (by decide) ?_
                  refine z_goto C 77 dX6_color_124 (by decide) ?_
                  exact ihi hlti _ ⟨rfl, rfl, rfl, z_lgI rfl (by simp [m_cnt, m_sum, m_c, *]), z_lgI rfl (z_inc i), trivial⟩
                · refine z_iconst (v := 1) C dX6_color_114 (by decide) ?_
                  refine z_goto C 119 dX6_color_115 (by decide) ?_
                  refine z_iadd C dX6_color_119 ?_
                  refine z_istore_n C dX6_color_120 (by decide) ?_
                  refine z_iinc C dX6_color_121 rfl rfl (by decide) ?_
                  refine z_goto C 77 dX6_color_124 (by decide) ?_
                  exact ihi hlti _ ⟨rfl, rfl, rfl, z_lgI rfl (by simp [m_cnt, m_sum, m_c, *]), z_lgI rfl (z_inc i), trivial⟩
        · exact absurd h36 hw0
    · refine z_bipush (v := (-2)) C dX6_color_18 (by decide) ?_
      exact z_iret C (by omega) (by omega) dX6_color_20 (by exact ⟨congrArg (fun z => some (Value.int z)) (by simp [z_b, F_color, *]), rfl⟩)

theorem m_over1 {M : m_S} {g o : Int32} : ∀ n, (m_over (m_join M g o) g o n).1 = M.1
  | 0 => rfl
  | n + 1 => m_over1 n
set_option maxHeartbeats 4000000 in
set_option maxRecDepth 100000 in
theorem c_X6_join (l : Launch) (G : z_G) (ad : Nat → Nat) (M : m_S) {nR nD nK nG : Nat} (hN : m_N M nR nD nK nG) (g o : Int32) : z_M l yX6_join cX6_join 4 (some .int) 2 0 0 [.ref (ad 0), .int g, .int o] G (fun H => m_R G ad M H) (m_A ad) ((fun v _ H => v = some (.int (F_join M nK g o).1) ∧ m_R G ad (F_join M nK g o).2 H)) := by
  refine z_M.of (by decide +kernel) (Nat.le_of_ble_eq_true rfl) ?_
  intro p e s m below meth c C hP
  have hM : m_R G ad M s.heap := hP
  have hR12 := hN.1.2; have hD16 := hN.2.1.2; have hK16 := hN.2.2.1.2; have hG6 := hN.2.2.2.2
  refine z_aload_n C dX6_join_0 rfl ?_
  refine z_iload_n C dX6_join_1 rfl ?_
  refine z_callVR (As := [.int _]) C (c_X6_noGroup _ _ ad M _) kc_X6_noGroup wb_788 ⟨by decide, by decide⟩ hM.1 rfl (hM) ⟨Nat.zero_le _, Nat.zero_le _⟩ (Nat.le_of_ble_eq_true rfl) dX6_join_2 ?_
  refine z_ifb_ne C 16 dX6_join_5 (by decide) (fun h5 => ?_) (fun h5 => ?_)
  · refine z_iconst (v := (-1)) C dX6_join_16 (by decide) ?_
    exact z_iret C (by omega) (by omega) dX6_join_17 (by first | contradiction | skip; (try simp [m_sA1, m_sA2, m_sS1, m_sS2] at hM); simp [F_join, m_later, m_sA1, m_sA2, m_sS1, m_sS2, *])
  · refine z_aload_n C dX6_join_8 rfl ?_
    refine z_iload_n C dX6_join_9 rfl ?_
    refine z_callVR (As := [.int _]) C (c_X6_noGroup _ _ ad M _) kc_X6_noGroup wb_788 ⟨by decide, by decide⟩ hM.1 rfl (hM) ⟨Nat.zero_le _, Nat.zero_le _⟩ (Nat.le_of_ble_eq_true rfl) dX6_join_10 ?_
    refine z_ifb_eq C 18 dX6_join_13 (by decide) (fun h13 => ?_) (fun h13 => ?_)
    · refine z_iload_n C dX6_join_18 rfl ?_
      refine z_iload_n C dX6_join_19 rfl ?_
      refine z_icmp_ne C 26 dX6_join_20 (by decide) (fun h20 => ?_) (fun h20 => ?_)
      · refine z_aload_n C dX6_join_26 rfl ?_
        refine z_iload_n C dX6_join_27 rfl ?_
        refine z_callVR (As := [.int _]) C (c_X6_plays _ _ ad M _ (by first | assumption | exact m_noG hN (by assumption) | exact m_noD hN (by assumption) | exact m_noK hN (by assumption))) kc_X6_plays wb_796 ⟨by decide, by decide⟩ hM.1 rfl (hM) ⟨Nat.zero_le _, Nat.zero_le _⟩ (Nat.le_of_ble_eq_true rfl) dX6_join_28 ?_
        refine z_ifb_eq C 57 dX6_join_31 (by decide) (fun h31 => ?_) (fun h31 => ?_)
        · refine z_bipush (v := (-4)) C dX6_join_57 (by decide) ?_
          exact z_iret C (by omega) (by omega) dX6_join_59 (by first | contradiction | skip; (try simp [m_sA1, m_sA2, m_sS1, m_sS2] at hM); simp [F_join, m_later, m_sA1, m_sA2, m_sS1, m_sS2, *])
        · refine z_aload_n C dX6_join_34 rfl ?_
          refine z_iload_n C dX6_join_35 rfl ?_
          refine z_callVR (As := [.int _]) C (c_X6_plays _ _ ad M _ (by first | assumption | exact m_noG hN (by assumption) | exact m_noD hN (by assumption) | exact m_noK hN (by assumption))) kc_X6_plays wb_796 ⟨by decide, by decide⟩ hM.1 rfl (hM) ⟨Nat.zero_le _, Nat.zero_le _⟩ (Nat.le_of_ble_eq_true rfl) dX6_join_36 ?_
          refine z_ifb_eq C 57 dX6_join_39 (by decide) (fun h39 => ?_) (fun h39 => ?_)
          · refine z_bipush (v := (-4)) C dX6_join_57 (by decide) ?_
            exact z_iret C (by omega) (by omega) dX6_join_59 (by first | contradiction | skip; (try simp [m_sA1, m_sA2, m_sS1, m_sS2] at hM); simp [F_join, m_later, m_sA1, m_sA2, m_sS1, m_sS2, *])
          · refine z_aload_n C dX6_join_42 rfl ?_
            refine z_get C (by first | exact hM.1 | exact hM.2.1 _ rfl | exact hM.2.2.1 _ rfl) z_cls7 hu_X6 16 (by decide) wb_651 rfl rfl dX6_join_43 ?_
            refine z_iload_n C dX6_join_46 rfl ?_
            refine z_iald C (by first | exact hM.1 | exact hM.2.1 _ rfl | exact hM.2.2.1 _ rfl) (by first | assumption | exact m_noG hN (by assumption) | exact m_noD hN (by assumption) | exact m_noK hN (by assumption)) (by first | exact hcli | rfl) dX6_join_47 ?_
            refine z_aload_n C dX6_join_48 rfl ?_
            refine z_get C (by first | exact hM.1 | exact hM.2.1 _ rfl | exact hM.2.2.1 _ rfl) z_cls7 hu_X6 16 (by decide) wb_651 rfl rfl dX6_join_49 ?_
            refine z_iload_n C dX6_join_52 rfl ?_
            refine z_iald C (by first | exact hM.1 | exact hM.2.1 _ rfl | exact hM.2.2.1 _ rfl) (by first | assumption | exact m_noG hN (by assumption) | exact m_noD hN (by assumption) | exact m_noK hN (by assumption)) (by first | exact hcli | rfl) dX6_join_53 ?_
            refine z_icmp_eq C 60 dX6_join_54 (by decide) (fun h54 => ?_) (fun h54 => ?_)
            · refine z_aload_n C dX6_join_60 rfl ?_
              refine z_get C (by first | exact hM.1 | exact hM.2.1 _ rfl | exact hM.2.2.1 _ rfl) z_cls7 hu_X6 15 (by decide) wb_650 rfl rfl dX6_join_61 ?_
              refine z_iload_n C dX6_join_64 rfl ?_
              refine z_dup2 C dX6_join_65 rfl rfl ?_
              refine z_iald C (by first | exact hM.1 | exact hM.2.1 _ rfl | exact hM.2.2.1 _ rfl) (by first | assumption | exact m_noG hN (by assumption) | exact m_noD hN (by assumption) | exact m_noK hN (by assumption)) (by first | exact hcli | rfl) dX6_join_66 ?_
              refine z_aload_n C dX6_join_67 rfl ?_
              refine z_get C (by first | exact hM.1 | exact hM.2.1 _ rfl | exact hM.2.2.1 _ rfl) z_cls7 hu_X6 15 (by decide) wb_650 rfl rfl dX6_join_68 ?_
              refine z_iload_n C dX6_join_71 rfl ?_
              refine z_iald C (by first | exact hM.1 | exact hM.2.1 _ rfl | exact hM.2.2.1 _ rfl) (by first | assumption | exact m_noG hN (by assumption) | exact m_noD hN (by assumption) | exact m_noK hN (by assumption)) (by first | exact hcli | rfl) dX6_join_72 ?_
              refine z_iadd C dX6_join_73 ?_
              refine z_iast C (by first | exact hM.1 | exact hM.2.1 _ rfl | exact hM.2.2.1 _ rfl) (by exact ⟨_, rfl, rfl⟩) (by first | assumption | exact m_noG hN (by assumption) | exact m_noD hN (by assumption) | exact m_noK hN (by assumption)) (by first | exact hcli | rfl) dX6_join_74 (fun H74 hU74 => ?_)
              have hM := hM.sI hU74 rfl
              refine z_aload_n C dX6_join_75 rfl ?_
              refine z_get C (by first | exact hM.1 | exact hM.2.1 _ rfl | exact hM.2.2.1 _ rfl) z_cls7 hu_X6 15 (by decide) wb_650 rfl rfl dX6_join_76 ?_
              refine z_iload_n C dX6_join_79 rfl ?_
              refine z_iconst (v := 0) C dX6_join_80 (by decide) ?_
              refine z_iast C (by first | exact hM.1 | exact hM.2.1 _ rfl | exact hM.2.2.1 _ rfl) (by exact ⟨_, rfl, rfl⟩) (by first | assumption | exact m_noG hN (by assumption) | exact m_noD hN (by assumption) | exact m_noK hN (by assumption)) (by first | exact hcli | rfl) dX6_join_81 (fun H81 hU81 => ?_)
              have hM := hM.sI hU81 rfl
              refine z_aload_n C dX6_join_82 rfl ?_
              refine z_get C (by first | exact hM.1 | exact hM.2.1 _ rfl | exact hM.2.2.1 _ rfl) z_cls7 hu_X6 19 (by decide) wb_654 rfl rfl dX6_join_83 ?_
              refine z_iload_n C dX6_join_86 rfl ?_
              refine z_iconst (v := 2) C dX6_join_87 (by decide) ?_
              refine z_iast C (by first | exact hM.1 | exact hM.2.1 _ rfl | exact hM.2.2.1 _ rfl) (by exact ⟨_, rfl, rfl⟩) (by first | assumption | exact m_noG hN (by assumption) | exact m_noD hN (by assumption) | exact m_noK hN (by assumption)) (by first | exact hcli | rfl) dX6_join_88 (fun H88 hU88 => ?_)
              have hM := hM.sI hU88 rfl
              refine z_aload_n C dX6_join_89 rfl ?_
              refine z_get C (by first | exact hM.1 | exact hM.2.1 _ rfl | exact hM.2.2.1 _ rfl) z_cls7 hu_X6 17 (by decide) wb_652 rfl rfl dX6_join_90 ?_
              refine z_iload_n C dX6_join_93 rfl ?_
              refine z_aload_n C dX6_join_94 rfl ?_
              refine z_get C (by first | exact hM.1 | exact hM.2.1 _ rfl | exact hM.2.2.1 _ rfl) z_cls7 hu_X6 17 (by decide) wb_652 rfl rfl dX6_join_95 ?_
              refine z_iload_n C dX6_join_98 rfl ?_
              refine z_iald C (by first | exact hM.1 | exact hM.2.1 _ rfl | exact hM.2.2.1 _ rfl) (by first | assumption | exact m_noG hN (by assumption) | exact m_noD hN (by assumption) | exact m_noK hN (by assumption)) (by first | exact hcli | rfl) dX6_join_99 ?_
              refine z_aload_n C dX6_join_100 rfl ?_
              refine z_get C (by first | exact hM.1 | exact hM.2.1 _ rfl | exact hM.2.2.1 _ rfl) z_cls7 hu_X6 17 (by decide) wb_652 rfl rfl dX6_join_101 ?_
              refine z_iload_n C dX6_join_104 rfl ?_
              refine z_iald C (by first | exact hM.1 | exact hM.2.1 _ rfl | exact hM.2.2.1 _ rfl) (by first | assumption | exact m_noG hN (by assumption) | exact m_noD hN (by assumption) | exact m_noK hN (by assumption)) (by first | exact hcli | rfl) dX6_join_105 ?_
              refine z_icmp_ge C 118 dX6_join_106 (by decide) (fun h106 => ?_) (fun h106 => ?_)
              · refine z_aload_n C dX6_join_118 rfl ?_
                refine z_get C (by first | exact hM.1 | exact hM.2.1 _ rfl | exact hM.2.2.1 _ rfl) z_cls7 hu_X6 17 (by decide) wb_652 rfl rfl dX6_join_119 ?_
                refine z_iload_n C dX6_join_122 rfl ?_
                refine z_iald C (by first | exact hM.1 | exact hM.2.1 _ rfl | exact hM.2.2.1 _ rfl) (by first | assumption | exact m_noG hN (by assumption) | exact m_noD hN (by assumption) | exact m_noK hN (by assumption)) (by first | exact hcli | rfl) dX6_join_123 ?_
                refine z_iast C (by first | exact hM.1 | exact hM.2.1 _ rfl | exact hM.2.2.1 _ rfl) (by exact ⟨_, rfl, rfl⟩) (by first | assumption | exact m_noG hN (by assumption) | exact m_noD hN (by assumption) | exact m_noK hN (by assumption)) (by first | exact hcli | rfl) dX6_join_124 (fun H124 hU124 => ?_)
                have hM := hM.sI hU124 rfl
                refine z_aload_n C dX6_join_125 rfl ?_
                refine z_get C (by first | exact hM.1 | exact hM.2.1 _ rfl | exact hM.2.2.1 _ rfl) z_cls7 hu_X6 18 (by decide) wb_653 rfl rfl dX6_join_126 ?_
                refine z_iload_n C dX6_join_129 rfl ?_
                refine z_dup2 C dX6_join_130 rfl rfl ?_
                refine z_iald C (by first | exact hM.1 | exact hM.2.1 _ rfl | exact hM.2.2.1 _ rfl) (by first | assumption | exact m_noG hN (by assumption) | exact m_noD hN (by assumption) | exact m_noK hN (by assumption)) (by first | exact hcli | rfl) dX6_join_131 ?_
                refine z_aload_n C dX6_join_132 rfl ?_
                refine z_get C (by first | exact hM.1 | exact hM.2.1 _ rfl | exact hM.2.2.1 _ rfl) z_cls7 hu_X6 18 (by decide) wb_653 rfl rfl dX6_join_133 ?_
                refine z_iload_n C dX6_join_136 rfl ?_
                refine z_iald C (by first | exact hM.1 | exact hM.2.1 _ rfl | exact hM.2.2.1 _ rfl) (by first | assumption | exact m_noG hN (by assumption) | exact m_noD hN (by assumption) | exact m_noK hN (by assumption)) (by first | exact hcli | rfl) dX6_join_137 ?_
                refine z_iadd C dX6_join_138 ?_
                refine z_iast C (by first | exact hM.1 | exact hM.2.1 _ rfl | exact hM.2.2.1 _ rfl) (by exact ⟨_, rfl, rfl⟩) (by first | assumption | exact m_noG hN (by assumption) | exact m_noD hN (by assumption) | exact m_noK hN (by assumption)) (by first | exact hcli | rfl) dX6_join_139 (fun H139 hU139 => ?_)
                have hM := hM.sI hU139 rfl
                refine z_iconst (v := 0) C dX6_join_140 (by decide) ?_
                refine z_istore_n C dX6_join_141 (by decide) ?_
                refine z_loopS (fun i : Nat => nK - i) (fun i H => i ≤ nK ∧ m_R G ad (m_over (m_join M g o) g o i) H) (fun i => [(0, .ref (ad 0)), (1, .int g), (2, .int o), (3, .int (nI i))]) 0 ⟨Nat.zero_le _, (by simp [m_sA1, m_sA2, m_sS1, m_sS2, -Int32.not_lt] at hM h106; simp [m_over, m_join, m_later, m_sA1, m_sA2, m_sS1, m_sS2, *])⟩ ⟨rfl, rfl, rfl, rfl, trivial⟩ (fun i HL hI ihi => ?_)
                obtain ⟨hi, hM⟩ := hI
                refine z_iload_n C dX6_join_142 rfl ?_
                refine z_aload_n C dX6_join_143 rfl ?_
                refine z_get C (by first | exact hM.1 | exact hM.2.1 _ rfl | exact hM.2.2.1 _ rfl) z_cls7 hu_X6 9 (by decide) wb_644 rfl rfl dX6_join_144 ?_
                refine z_icmp_ge C 181 dX6_join_147 (by decide) (fun h147 => ?_) (fun h147 => ?_)
                · rw [m_over1] at h147
                  obtain rfl := z_ge hN.2.2.1.1 (by omega) hi h147
                  refine z_aload_n C dX6_join_181 rfl ?_
                  refine z_get C (by first | exact hM.1 | exact hM.2.1 _ rfl | exact hM.2.2.1 _ rfl) z_cls7 hu_X6 15 (by decide) wb_650 rfl rfl dX6_join_182 ?_
                  refine z_iload_n C dX6_join_185 rfl ?_
                  refine z_iald C (by first | exact hM.1 | exact hM.2.1 _ rfl | exact hM.2.2.1 _ rfl) (by first | assumption | exact m_noG hN (by assumption) | exact m_noD hN (by assumption) | exact m_noK hN (by assumption)) (by first | exact hcli | rfl) dX6_join_186 ?_
                  exact z_iret C (by omega) (by omega) dX6_join_187 (by first | contradiction | skip; (try simp [m_sA1, m_sA2, m_sS1, m_sS2] at hM); simp [F_join, m_later, m_sA1, m_sA2, m_sS1, m_sS2, *])
                · rw [m_over1] at h147
                  have hlti := z_lt hN.2.2.1.1 (by omega) hi h147
                  have hini : vp_in (nI i) 16 := vp_in_nI (by omega) (by omega)
                  have hcli : (nI i).toNatClampNeg = i := nI_clamp (by omega)
                  refine z_aload_n C dX6_join_150 rfl ?_
                  refine z_get C (by first | exact hM.1 | exact hM.2.1 _ rfl | exact hM.2.2.1 _ rfl) z_cls7 hu_X6 12 (by decide) wb_647 rfl rfl dX6_join_151 ?_
                  refine z_iload_n C dX6_join_154 rfl ?_
                  refine z_aload_n C dX6_join_155 rfl ?_
                  refine z_iload_n C dX6_join_156 rfl ?_
                  refine z_iload_n C dX6_join_157 rfl ?_
                  refine z_callVR (As := [.int _, .int _]) C (c_X6_holds _ _ ad _ _ _ (by assumption)) kc_X6_holds wb_813 ⟨by decide, by decide⟩ hM.1 rfl (hM) ⟨Nat.zero_le _, Nat.zero_le _⟩ (Nat.le_of_ble_eq_true rfl) dX6_join_158 ?_
                  refine z_ifb_eq C 168 dX6_join_161 (by decide) (fun h161 => ?_) (fun h161 => ?_)
                  · refine z_aload_n C dX6_join_168 rfl ?_
                    refine z_get C (by first | exact hM.1 | exact hM.2.1 _ rfl | exact hM.2.2.1 _ rfl) z_cls7 hu_X6 12 (by decide) wb_647 rfl rfl dX6_join_169 ?_
                    refine z_iload_n C dX6_join_172 rfl ?_
                    refine z_iald C (by first | exact hM.1 | exact hM.2.1 _ rfl | exact hM.2.2.1 _ rfl) (by first | assumption | exact m_noG hN (by assumption) | exact m_noD hN (by assumption) | exact m_noK hN (by assumption)) (by first | exact hcli | rfl) dX6_join_173 ?_
                    refine z_iast C (by first | exact hM.1 | exact hM.2.1 _ rfl | exact hM.2.2.1 _ rfl) (by exact ⟨_, rfl, rfl⟩) (by first | assumption | exact m_noG hN (by assumption) | exact m_noD hN (by assumption) | exact m_noK hN (by assumption)) (by first | exact hcli | rfl) dX6_join_174 (fun H174 hU174 => ?_)
                    have hM := hM.sI hU174 rfl
                    refine z_iinc C dX6_join_175 rfl rfl (by decide) ?_
                    refine z_goto C 142 dX6_join_178 (by decide) ?_
                    exact ihi (i + 1) _ _ ⟨hlti, (by simp only [m_over]; simp [*] at hM ⊢)⟩ (by omega) ⟨rfl, rfl, rfl, z_lgI rfl (z_inc i), trivial⟩
                  · refine z_iload_n C dX6_join_164 rfl ?_
                    refine z_goto C 174 dX6_join_165 (by decide) ?_
                    refine z_iast C (by first | exact hM.1 | exact hM.2.1 _ rfl | exact hM.2.2.1 _ rfl) (by exact ⟨_, rfl, rfl⟩) (by first | assumption | exact m_noG hN (by assumption) | exact m_noD hN (by assumption) | exact m_noK hN (by assumption)) (by first | exact hcli | rfl) dX6_join_174 (fun H174 hU174 => ?_)
                    have hM := hM.sI hU174 rfl
                    refine z_iinc C dX6_join_175 rfl rfl (by decide) ?_
                    refine z_goto C 142 dX6_join_178 (by decide) ?_
                    exact ihi (i + 1) _ _ ⟨hlti, (by simp only [m_over]; simp [*] at hM ⊢)⟩ (by omega) ⟨rfl, rfl, rfl, z_lgI rfl (z_inc i), trivial⟩
              · refine z_aload_n C dX6_join_109 rfl ?_
                refine z_get C (by first | exact hM.1 | exact hM.2.1 _ rfl | exact hM.2.2.1 _ rfl) z_cls7 hu_X6 17 (by decide) wb_652 rfl rfl dX6_join_110 ?_
                refine z_iload_n C dX6_join_113 rfl ?_
                refine z_iald C (by first | exact hM.1 | exact hM.2.1 _ rfl | exact hM.2.2.1 _ rfl) (by first | assumption | exact m_noG hN (by assumption) | exact m_noD hN (by assumption) | exact m_noK hN (by assumption)) (by first | exact hcli | rfl) dX6_join_114 ?_
                refine z_goto C 124 dX6_join_115 (by decide) ?_
                refine z_iast C (by first | exact hM.1 | exact hM.2.1 _ rfl | exact hM.2.2.1 _ rfl) (by exact ⟨_, rfl, rfl⟩) (by first | assumption | exact m_noG hN (by assumption) | exact m_noD hN (by assumption) | exact m_noK hN (by assumption)) (by first | exact hcli | rfl) dX6_join_124 (fun H124 hU124 => ?_)
                have hM := hM.sI hU124 rfl
                refine z_aload_n C dX6_join_125 rfl ?_
                refine z_get C (by first | exact hM.1 | exact hM.2.1 _ rfl | exact hM.2.2.1 _ rfl) z_cls7 hu_X6 18 (by decide) wb_653 rfl rfl dX6_join_126 ?_
                refine z_iload_n C dX6_join_129 rfl ?_
                refine z_dup2 C dX6_join_130 rfl rfl ?_
                refine z_iald C (by first | exact hM.1 | exact hM.2.1 _ rfl | exact hM.2.2.1 _ rfl) (by first | assumption | exact m_noG hN (by assumption) | exact m_noD hN (by assumption) | exact m_noK hN (by assumption)) (by first | exact hcli | rfl) dX6_join_131 ?_
                refine z_aload_n C dX6_join_132 rfl ?_
                refine z_get C (by first | exact hM.1 | exact hM.2.1 _ rfl | exact hM.2.2.1 _ rfl) z_cls7 hu_X6 18 (by decide) wb_653 rfl rfl dX6_join_133 ?_
                refine z_iload_n C dX6_join_136 rfl ?_
                refine z_iald C (by first | exact hM.1 | exact hM.2.1 _ rfl | exact hM.2.2.1 _ rfl) (by first | assumption | exact m_noG hN (by assumption) | exact m_noD hN (by assumption) | exact m_noK hN (by assumption)) (by first | exact hcli | rfl) dX6_join_137 ?_
                refine z_iadd C dX6_join_138 ?_
                refine z_iast C (by first | exact hM.1 | exact hM.2.1 _ rfl | exact hM.2.2.1 _ rfl) (by exact ⟨_, rfl, rfl⟩) (by first | assumption | exact m_noG hN (by assumption) | exact m_noD hN (by assumption) | exact m_noK hN (by assumption)) (by first | exact hcli | rfl) dX6_join_139 (fun H139 hU139 => ?_)
                have hM := hM.sI hU139 rfl
                refine z_iconst (v := 0) C dX6_join_140 (by decide) ?_
                refine z_istore_n C dX6_join_141 (by decide) ?_
                refine z_loopS (fun i : Nat => nK - i) (fun i H => i ≤ nK ∧ m_R G ad (m_over (m_join M g o) g o i) H) (fun i => [(0, .ref (ad 0)), (1, .int g), (2, .int o), (3, .int (nI i))]) 0 ⟨Nat.zero_le _, (by simp [m_sA1, m_sA2, m_sS1, m_sS2, -Int32.not_lt] at hM h106; simp [m_over, m_join, m_later, m_sA1, m_sA2, m_sS1, m_sS2, *])⟩ ⟨rfl, rfl, rfl, rfl, trivial⟩ (fun i HL hI ihi => ?_)
                obtain ⟨hi, hM⟩ := hI
                refine z_iload_n C dX6_join_142 rfl ?_
                refine z_aload_n C dX6_join_143 rfl ?_
                refine z_get C (by first | exact hM.1 | exact hM.2.1 _ rfl | exact hM.2.2.1 _ rfl) z_cls7 hu_X6 9 (by decide) wb_644 rfl rfl dX6_join_144 ?_
                refine z_icmp_ge C 181 dX6_join_147 (by decide) (fun h147 => ?_) (fun h147 => ?_)
                · rw [m_over1] at h147
                  obtain rfl := z_ge hN.2.2.1.1 (by omega) hi h147
                  refine z_aload_n C dX6_join_181 rfl ?_
                  refine z_get C (by first | exact hM.1 | exact hM.2.1 _ rfl | exact hM.2.2.1 _ rfl) z_cls7 hu_X6 15 (by decide) wb_650 rfl rfl dX6_join_182 ?_
                  refine z_iload_n C dX6_join_185 rfl ?_
                  refine z_iald C (by first | exact hM.1 | exact hM.2.1 _ rfl | exact hM.2.2.1 _ rfl) (by first | assumption | exact m_noG hN (by assumption) | exact m_noD hN (by assumption) | exact m_noK hN (by assumption)) (by first | exact hcli | rfl) dX6_join_186 ?_
                  exact z_iret C (by omega) (by omega) dX6_join_187 (by first | contradiction | skip; (try simp [m_sA1, m_sA2, m_sS1, m_sS2] at hM); simp [F_join, m_later, m_sA1, m_sA2, m_sS1, m_sS2, *])
                · rw [m_over1] at h147
                  have hlti := z_lt hN.2.2.1.1 (by omega) hi h147
                  have hini : vp_in (nI i) 16 := vp_in_nI (by omega) (by omega)
                  have hcli : (nI i).toNatClampNeg = i := nI_clamp (by omega)
                  refine z_aload_n C dX6_join_150 rfl ?_
                  refine z_get C (by first | exact hM.1 | exact hM.2.1 _ rfl | exact hM.2.2.1 _ rfl) z_cls7 hu_X6 12 (by decide) wb_647 rfl rfl dX6_join_151 ?_
                  refine z_iload_n C dX6_join_154 rfl ?_
                  refine z_aload_n C dX6_join_155 rfl ?_
                  refine z_iload_n C dX6_join_156 rfl ?_
                  refine z_iload_n C dX6_join_157 rfl ?_
                  refine z_callVR (As := [.int _, .int _]) C (c_X6_holds _ _ ad _ _ _ (by assumption)) kc_X6_holds wb_813 ⟨by decide, by decide⟩ hM.1 rfl (hM) ⟨Nat.zero_le _, Nat.zero_le _⟩ (Nat.le_of_ble_eq_true rfl) dX6_join_158 ?_
                  refine z_ifb_eq C 168 dX6_join_161 (by decide) (fun h161 => ?_) (fun h161 => ?_)
                  · refine z_aload_n C dX6_join_168 rfl ?_
                    refine z_get C (by first | exact hM.1 | exact hM.2.1 _ rfl | exact hM.2.2.1 _ rfl) z_cls7 hu_X6 12 (by decide) wb_647 rfl rfl dX6_join_169 ?_
                    refine z_iload_n C dX6_join_172 rfl ?_
                    refine z_iald C (by first | exact hM.1 | exact hM.2.1 _ rfl | exact hM.2.2.1 _ rfl) (by first | assumption | exact m_noG hN (by assumption) | exact m_noD hN (by assumption) | exact m_noK hN (by assumption)) (by first | exact hcli | rfl) dX6_join_173 ?_
                    refine z_iast C (by first | exact hM.1 | exact hM.2.1 _ rfl | exact hM.2.2.1 _ rfl) (by exact ⟨_, rfl, rfl⟩) (by first | assumption | exact m_noG hN (by assumption) | exact m_noD hN (by assumption) | exact m_noK hN (by assumption)) (by first | exact hcli | rfl) dX6_join_174 (fun H174 hU174 => ?_)
                    have hM := hM.sI hU174 rfl
                    refine z_iinc C dX6_join_175 rfl rfl (by decide) ?_
                    refine z_goto C 142 dX6_join_178 (by decide) ?_
                    exact ihi (i + 1) _ _ ⟨hlti, (by simp only [m_over]; simp [*] at hM ⊢)⟩ (by omega) ⟨rfl, rfl, rfl, z_lgI rfl (z_inc i), trivial⟩
                  · refine z_iload_n C dX6_join_164 rfl ?_
                    refine z_goto C 174 dX6_join_165 (by decide) ?_
                    refine z_iast C (by first | exact hM.1 | exact hM.2.1 _ rfl | exact hM.2.2.1 _ rfl) (by exact ⟨_, rfl, rfl⟩) (by first | assumption | exact m_noG hN (by assumption) | exact m_noD hN (by assumption) | exact m_noK hN (by assumption)) (by first | exact hcli | rfl) dX6_join_174 (fun H174 hU174 => ?_)
                    have hM := hM.sI hU174 rfl
                    refine z_iinc C dX6_join_175 rfl rfl (by decide) ?_
                    refine z_goto C 142 dX6_join_178 (by decide) ?_
                    exact ihi (i + 1) _ _ ⟨hlti, (by simp only [m_over]; simp [*] at hM ⊢)⟩ (by omega) ⟨rfl, rfl, rfl, z_lgI rfl (z_inc i), trivial⟩
            · refine z_bipush (v := (-4)) C dX6_join_57 (by decide) ?_
              exact z_iret C (by omega) (by omega) dX6_join_59 (by first | contradiction | skip; (try simp [m_sA1, m_sA2, m_sS1, m_sS2] at hM); simp [F_join, m_later, m_sA1, m_sA2, m_sS1, m_sS2, *])
      · refine z_bipush (v := (-2)) C dX6_join_23 (by decide) ?_
        exact z_iret C (by omega) (by omega) dX6_join_25 (by first | contradiction | skip; (try simp [m_sA1, m_sA2, m_sS1, m_sS2] at hM); simp [F_join, m_later, m_sA1, m_sA2, m_sS1, m_sS2, *])
    · refine z_iconst (v := (-1)) C dX6_join_16 (by decide) ?_
      exact z_iret C (by omega) (by omega) dX6_join_17 (by first | contradiction | skip; (try simp [m_sA1, m_sA2, m_sS1, m_sS2] at hM); simp [F_join, m_later, m_sA1, m_sA2, m_sS1, m_sS2, *])
