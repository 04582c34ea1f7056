set_option maxHeartbeats 4000000 in
set_option maxRecDepth 100000 in
theorem c_X6_in (l : Launch) (G : z_G) (v lo hi : Int32) : z_MR l yX6_in cX6_in 3 (some .boolean) 0 [.int v, .int lo, .int hi] G (fun H => True) (.int (z_b (m_in v lo hi))) := by
  refine z_M.of (by decide +kernel) (Nat.le_of_ble_eq_true rfl) ?_
  intro p e s m below meth c C hP
  refine z_iload_n C dX6_in_0 rfl ?_
  refine z_iload_n C dX6_in_1 rfl ?_
  refine z_icmp_lt C 14 dX6_in_2 (by decide) (fun h2 => ?_) (fun h2 => ?_)
  · refine z_iconst (v := 0) C dX6_in_14 (by decide) ?_
    exact z_bret C (by omega) (by omega) dX6_in_15 (by rfl) (by exact ⟨congrArg (fun z => some (Value.int z)) (by simp [z_b, m_in, *]), rfl⟩)
  · refine z_iload_n C dX6_in_5 rfl ?_
    refine z_iload_n C dX6_in_6 rfl ?_
    refine z_icmp_gt C 14 dX6_in_7 (by decide) (fun h7 => ?_) (fun h7 => ?_)
    · refine z_iconst (v := 0) C dX6_in_14 (by decide) ?_
      exact z_bret C (by omega) (by omega) dX6_in_15 (by rfl) (by exact ⟨congrArg (fun z => some (Value.int z)) (by simp [z_b, m_in, *]), rfl⟩)
    · refine z_iconst (v := 1) C dX6_in_10 (by decide) ?_
      refine z_goto C 15 dX6_in_11 (by decide) ?_
      exact z_bret C (by omega) (by omega) dX6_in_15 (by rfl) (by exact ⟨congrArg (fun z => some (Value.int z)) (by simp [z_b, m_in, *]), rfl⟩)

set_option maxHeartbeats 4000000 in
set_option maxRecDepth 100000 in
theorem c_X6_noRoom (l : Launch) (G : z_G) (ad : Nat → Nat) (M : m_S) (r : Int32) : z_MR l yX6_noRoom cX6_noRoom 2 (some .boolean) 1 [.ref (ad 0), .int r] G (fun H => m_R G ad M H) (.int (z_b (m_no r (M.1 0)))) := by
  refine z_M.of (by decide +kernel) (Nat.le_of_ble_eq_true rfl) ?_
  intro p e s m below meth c C hP
  have hM : m_R G ad M s.heap := hP
  refine z_iload_n C dX6_noRoom_0 rfl ?_
  refine z_iconst (v := 0) C dX6_noRoom_1 (by decide) ?_
  refine z_aload_n C dX6_noRoom_2 rfl ?_
  refine z_get C (by first | exact hM.1 | exact hM.2.1 _ rfl | exact hM.2.2.1 _ rfl) z_cls7 hu_X6 0 (by decide) wb_635 rfl rfl dX6_noRoom_3 ?_
  refine z_iconst (v := 1) C dX6_noRoom_6 (by decide) ?_
  refine z_isub C dX6_noRoom_7 ?_
  refine z_callSR (As := [.int _, .int _, .int _]) C (c_X6_in _ _ _ _ _) kc_X6_in wb_745 ⟨by decide, by decide⟩ (trivial) ⟨Nat.zero_le _, Nat.zero_le _⟩ (by decide) dX6_noRoom_8 ?_
  refine z_ifb_ne C 18 dX6_noRoom_11 (by decide) (fun h11 => ?_) (fun h11 => ?_)
  · refine z_iconst (v := 0) C dX6_noRoom_18 (by decide) ?_
    exact z_bret C (by omega) (by omega) dX6_noRoom_19 (by rfl) (by exact ⟨congrArg (fun z => some (Value.int z)) (by simp [z_b, m_no, *]), rfl⟩)
  · refine z_iconst (v := 1) C dX6_noRoom_14 (by decide) ?_
    refine z_goto C 19 dX6_noRoom_15 (by decide) ?_
    exact z_bret C (by omega) (by omega) dX6_noRoom_19 (by rfl) (by exact ⟨congrArg (fun z => some (Value.int z)) (by simp [z_b, m_no, *]), rfl⟩)

set_option maxHeartbeats 4000000 in
set_option maxRecDepth 100000 in
theorem c_X6_noDoor (l : Launch) (G : z_G) (ad : Nat → Nat) (M : m_S) (r : Int32) : z_MR l yX6_noDoor cX6_noDoor 2 (some .boolean) 1 [.ref (ad 0), .int r] G (fun H => m_R G ad M H) (.int (z_b (m_no r (M.1 2)))) := by
  refine z_M.of (by decide +kernel) (Nat.le_of_ble_eq_true rfl) ?_
  intro p e s m below meth c C hP
  have hM : m_R G ad M s.heap := hP
  refine z_iload_n C dX6_noDoor_0 rfl ?_
  refine z_iconst (v := 0) C dX6_noDoor_1 (by decide) ?_
  refine z_aload_n C dX6_noDoor_2 rfl ?_
  refine z_get C (by first | exact hM.1 | exact hM.2.1 _ rfl | exact hM.2.2.1 _ rfl) z_cls7 hu_X6 2 (by decide) wb_637 rfl rfl dX6_noDoor_3 ?_
  refine z_iconst (v := 1) C dX6_noDoor_6 (by decide) ?_
  refine z_isub C dX6_noDoor_7 ?_
  refine z_callSR (As := [.int _, .int _, .int _]) C (c_X6_in _ _ _ _ _) kc_X6_in wb_745 ⟨by decide, by decide⟩ (trivial) ⟨Nat.zero_le _, Nat.zero_le _⟩ (by decide) dX6_noDoor_8 ?_
  refine z_ifb_ne C 18 dX6_noDoor_11 (by decide) (fun h11 => ?_) (fun h11 => ?_)
  · refine z_iconst (v := 0) C dX6_noDoor_18 (by decide) ?_
    exact z_bret C (by omega) (by omega) dX6_noDoor_19 (by rfl) (by exact ⟨congrArg (fun z => some (Value.int z)) (by simp [z_b, m_no, *]), rfl⟩)
  · refine z_iconst (v := 1) C dX6_noDoor_14 (by decide) ?_
    refine z_goto C 19 dX6_noDoor_15 (by decide) ?_
    exact z_bret C (by omega) (by omega) dX6_noDoor_19 (by rfl) (by exact ⟨congrArg (fun z => some (Value.int z)) (by simp [z_b, m_no, *]), rfl⟩)

set_option maxHeartbeats 4000000 in
set_option maxRecDepth 100000 in
theorem c_X6_noKey (l : Launch) (G : z_G) (ad : Nat → Nat) (M : m_S) (r : Int32) : z_MR l yX6_noKey cX6_noKey 2 (some .boolean) 1 [.ref (ad 0), .int r] G (fun H => m_R G ad M H) (.int (z_b (m_no r (M.1 9)))) := by
  refine z_M.of (by decide +kernel) (Nat.le_of_ble_eq_true rfl) ?_
  intro p e s m below meth c C hP
  have hM : m_R G ad M s.heap := hP
  refine z_iload_n C dX6_noKey_0 rfl ?_
  refine z_iconst (v := 0) C dX6_noKey_1 (by decide) ?_
  refine z_aload_n C dX6_noKey_2 rfl ?_
  refine z_get C (by first | exact hM.1 | exact hM.2.1 _ rfl | exact hM.2.2.1 _ rfl) z_cls7 hu_X6 9 (by decide) wb_644 rfl rfl dX6_noKey_3 ?_
  refine z_iconst (v := 1) C dX6_noKey_6 (by decide) ?_
  refine z_isub C dX6_noKey_7 ?_
  refine z_callSR (As := [.int _, .int _, .int _]) C (c_X6_in _ _ _ _ _) kc_X6_in wb_745 ⟨by decide, by decide⟩ (trivial) ⟨Nat.zero_le _, Nat.zero_le _⟩ (by decide) dX6_noKey_8 ?_
  refine z_ifb_ne C 18 dX6_noKey_11 (by decide) (fun h11 => ?_) (fun h11 => ?_)
  · refine z_iconst (v := 0) C dX6_noKey_18 (by decide) ?_
    exact z_bret C (by omega) (by omega) dX6_noKey_19 (by rfl) (by exact ⟨congrArg (fun z => some (Value.int z)) (by simp [z_b, m_no, *]), rfl⟩)
  · refine z_iconst (v := 1) C dX6_noKey_14 (by decide) ?_
    refine z_goto C 19 dX6_noKey_15 (by decide) ?_
    exact z_bret C (by omega) (by omega) dX6_noKey_19 (by rfl) (by exact ⟨congrArg (fun z => some (Value.int z)) (by simp [z_b, m_no, *]), rfl⟩)

set_option maxHeartbeats 4000000 in
set_option maxRecDepth 100000 in
theorem c_X6_noGroup (l : Launch) (G : z_G) (ad : Nat → Nat) (M : m_S) (r : Int32) : z_MR l yX6_noGroup cX6_noGroup 2 (some .boolean) 1 [.ref (ad 0), .int r] G (fun H => m_R G ad M H) (.int (z_b (m_no r (M.1 14)))) := by
  refine z_M.of (by decide +kernel) (Nat.le_of_ble_eq_true rfl) ?_
  intro p e s m below meth c C hP
  have hM : m_R G ad M s.heap := hP
  refine z_iload_n C dX6_noGroup_0 rfl ?_
  refine z_iconst (v := 0) C dX6_noGroup_1 (by decide) ?_
  refine z_aload_n C dX6_noGroup_2 rfl ?_
  refine z_get C (by first | exact hM.1 | exact hM.2.1 _ rfl | exact hM.2.2.1 _ rfl) z_cls7 hu_X6 14 (by decide) wb_649 rfl rfl dX6_noGroup_3 ?_
  refine z_iconst (v := 1) C dX6_noGroup_6 (by decide) ?_
  refine z_isub C dX6_noGroup_7 ?_
  refine z_callSR (As := [.int _, .int _, .int _]) C (c_X6_in _ _ _ _ _) kc_X6_in wb_745 ⟨by decide, by decide⟩ (trivial) ⟨Nat.zero_le _, Nat.zero_le _⟩ (by decide) dX6_noGroup_8 ?_
  refine z_ifb_ne C 18 dX6_noGroup_11 (by decide) (fun h11 => ?_) (fun h11 => ?_)
  · refine z_iconst (v := 0) C dX6_noGroup_18 (by decide) ?_
    exact z_bret C (by omega) (by omega) dX6_noGroup_19 (by rfl) (by exact ⟨congrArg (fun z => some (Value.int z)) (by simp [z_b, m_no, *]), rfl⟩)
  · refine z_iconst (v := 1) C dX6_noGroup_14 (by decide) ?_
    refine z_goto C 19 dX6_noGroup_15 (by decide) ?_
    exact z_bret C (by omega) (by omega) dX6_noGroup_19 (by rfl) (by exact ⟨congrArg (fun z => some (Value.int z)) (by simp [z_b, m_no, *]), rfl⟩)

set_option maxHeartbeats 4000000 in
set_option maxRecDepth 100000 in
theorem c_X6_plays (l : Launch) (G : z_G) (ad : Nat → Nat) (M : m_S) (g : Int32) (hg : vp_in g 6) : z_MR l yX6_plays cX6_plays 2 (some .boolean) 0 [.ref (ad 0), .int g] G (fun H => m_R G ad M H) (.int (z_b (decide (M.2 19 g.toNatClampNeg = 0)))) := by
  refine z_M.of (by decide +kernel) (Nat.le_of_ble_eq_true rfl) ?_
  intro p e s m below meth c C hP
  have hM : m_R G ad M s.heap := hP
  refine z_aload_n C dX6_plays_0 rfl ?_
  refine z_get C (by first | exact hM.1 | exact hM.2.1 _ rfl | exact hM.2.2.1 _ rfl) z_cls7 hu_X6 19 (by decide) wb_654 rfl rfl dX6_plays_1 ?_
  refine z_iload_n C dX6_plays_4 rfl ?_
  refine z_iald C (by first | exact hM.1 | exact hM.2.1 _ rfl | exact hM.2.2.1 _ rfl) (by assumption) dX6_plays_5 ?_
  refine z_if_ne C 13 dX6_plays_6 (by decide) (fun h6 => ?_) (fun h6 => ?_)
  · refine z_iconst (v := 0) C dX6_plays_13 (by decide) ?_
    exact z_bret C (by omega) (by omega) dX6_plays_14 (by rfl) (by exact ⟨congrArg (fun z => some (Value.int z)) (by simp [z_b, m_in, *]), rfl⟩)
  · refine z_iconst (v := 1) C dX6_plays_9 (by decide) ?_
    refine z_goto C 14 dX6_plays_10 (by decide) ?_
    exact z_bret C (by omega) (by omega) dX6_plays_14 (by rfl) (by exact ⟨congrArg (fun z => some (Value.int z)) (by simp [z_b, m_in, *]), rfl⟩)

set_option maxHeartbeats 4000000 in
set_option maxRecDepth 100000 in
theorem c_X6_isAt (l : Launch) (G : z_G) (ad : Nat → Nat) (M : m_S) (d r : Int32) (hd : vp_in d 16) : z_MR l yX6_isAt cX6_isAt 3 (some .boolean) 0 [.ref (ad 0), .int d, .int r] G (fun H => m_R G ad M H) (.int (z_b (decide (M.2 3 d.toNatClampNeg = r) || decide (M.2 4 d.toNatClampNeg = r)))) := by
  refine z_M.of (by decide +kernel) (Nat.le_of_ble_eq_true rfl) ?_
  intro p e s m below meth c C hP
  have hM : m_R G ad M s.heap := hP
  refine z_aload_n C dX6_isAt_0 rfl ?_
  refine z_get C (by first | exact hM.1 | exact hM.2.1 _ rfl | exact hM.2.2.1 _ rfl) z_cls7 hu_X6 3 (by decide) wb_638 rfl rfl dX6_isAt_1 ?_
  refine z_iload_n C dX6_isAt_4 rfl ?_
  refine z_iald C (by first | exact hM.1 | exact hM.2.1 _ rfl | exact hM.2.2.1 _ rfl) (by assumption) dX6_isAt_5 ?_
  refine z_iload_n C dX6_isAt_6 rfl ?_
  refine z_icmp_eq C 20 dX6_isAt_7 (by decide) (fun h7 => ?_) (fun h7 => ?_)
  · refine z_iconst (v := 1) C dX6_isAt_20 (by decide) ?_
    refine z_goto C 25 dX6_isAt_21 (by decide) ?_
    exact z_bret C (by omega) (by omega) dX6_isAt_25 (by rfl) (by exact ⟨congrArg (fun z => some (Value.int z)) (by simp [z_b, m_in, *]), rfl⟩)
  · refine z_aload_n C dX6_isAt_10 rfl ?_
    refine z_get C (by first | exact hM.1 | exact hM.2.1 _ rfl | exact hM.2.2.1 _ rfl) z_cls7 hu_X6 4 (by decide) wb_639 rfl rfl dX6_isAt_11 ?_
    refine z_iload_n C dX6_isAt_14 rfl ?_
    refine z_iald C (by first | exact hM.1 | exact hM.2.1 _ rfl | exact hM.2.2.1 _ rfl) (by assumption) dX6_isAt_15 ?_
    refine z_iload_n C dX6_isAt_16 rfl ?_
    refine z_icmp_ne C 24 dX6_isAt_17 (by decide) (fun h17 => ?_) (fun h17 => ?_)
    · refine z_iconst (v := 0) C dX6_isAt_24 (by decide) ?_
      exact z_bret C (by omega) (by omega) dX6_isAt_25 (by rfl) (by exact ⟨congrArg (fun z => some (Value.int z)) (by simp [z_b, m_in, *]), rfl⟩)
    · refine z_iconst (v := 1) C dX6_isAt_20 (by decide) ?_
      refine z_goto C 25 dX6_isAt_21 (by decide) ?_
      exact z_bret C (by omega) (by omega) dX6_isAt_25 (by rfl) (by exact ⟨congrArg (fun z => some (Value.int z)) (by simp [z_b, m_in, *]), rfl⟩)

set_option maxHeartbeats 4000000 in
set_option maxRecDepth 100000 in
theorem c_X6_holds (l : Launch) (G : z_G) (ad : Nat → Nat) (M : m_S) (g k : Int32) (hk : vp_in k 16) : z_MR l yX6_holds cX6_holds 3 (some .boolean) 0 [.ref (ad 0), .int g, .int k] G (fun H => m_R G ad M H) (.int (z_b (decide (M.2 11 k.toNatClampNeg = 1) && decide (M.2 12 k.toNatClampNeg = g)))) := by
  refine z_M.of (by decide +kernel) (Nat.le_of_ble_eq_true rfl) ?_
  intro p e s m below meth c C hP
  have hM : m_R G ad M s.heap := hP
  refine z_aload_n C dX6_holds_0 rfl ?_
  refine z_get C (by first | exact hM.1 | exact hM.2.1 _ rfl | exact hM.2.2.1 _ rfl) z_cls7 hu_X6 11 (by decide) wb_646 rfl rfl dX6_holds_1 ?_
  refine z_iload_n C dX6_holds_4 rfl ?_
  refine z_iald C (by first | exact hM.1 | exact hM.2.1 _ rfl | exact hM.2.2.1 _ rfl) (by assumption) dX6_holds_5 ?_
  refine z_iconst (v := 1) C dX6_holds_6 (by decide) ?_
  refine z_icmp_ne C 24 dX6_holds_7 (by decide) (fun h7 => ?_) (fun h7 => ?_)
  · refine z_iconst (v := 0) C dX6_holds_24 (by decide) ?_
    exact z_bret C (by omega) (by omega) dX6_holds_25 (by rfl) (by exact ⟨congrArg (fun z => some (Value.int z)) (by simp [z_b, m_in, *]), rfl⟩)
  · refine z_aload_n C dX6_holds_10 rfl ?_
    refine z_get C (by first | exact hM.1 | exact hM.2.1 _ rfl | exact hM.2.2.1 _ rfl) z_cls7 hu_X6 12 (by decide) wb_647 rfl rfl dX6_holds_11 ?_
    refine z_iload_n C dX6_holds_14 rfl ?_
    refine z_iald C (by first | exact hM.1 | exact hM.2.1 _ rfl | exact hM.2.2.1 _ rfl) (by assumption) dX6_holds_15 ?_
    refine z_iload_n C dX6_holds_16 rfl ?_
    refine z_icmp_ne C 24 dX6_holds_17 (by decide) (fun h17 => ?_) (fun h17 => ?_)
    · refine z_iconst (v := 0) C dX6_holds_24 (by decide) ?_
      exact z_bret C (by omega) (by omega) dX6_holds_25 (by rfl) (by exact ⟨congrArg (fun z => some (Value.int z)) (by simp [z_b, m_in, *]), rfl⟩)
    · refine z_iconst (v := 1) C dX6_holds_20 (by decide) ?_
      refine z_goto C 25 dX6_holds_21 (by decide) ?_
      exact z_bret C (by omega) (by omega) dX6_holds_25 (by rfl) (by exact ⟨congrArg (fun z => some (Value.int z)) (by simp [z_b, m_in, *]), rfl⟩)
