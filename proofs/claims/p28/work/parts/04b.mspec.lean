/-! what the reference answers, and the state behind it -/
def m_pl (M : m_S) (g : Int32) : Bool := decide (M.2 19 g.toNatClampNeg = 0)
def m_at (M : m_S) (d r : Int32) : Bool := decide (M.2 3 d.toNatClampNeg = r) || decide (M.2 4 d.toNatClampNeg = r)
def m_ho (M : m_S) (g k : Int32) : Bool := decide (M.2 11 k.toNatClampNeg = 1) && decide (M.2 12 k.toNatClampNeg = g)
def m_sum (f : Nat → Int32) : Nat → Int32
  | 0 => 0
  | n + 1 => m_sum f n + f n
def m_c (b : Bool) : Int32 := bif b then 1 else 0
def m_cnt (p : Nat → Bool) (n : Nat) : Int32 := m_sum (fun i => m_c (p i)) n
def m_ff (p : Nat → Bool) : Nat → Nat → Int32
  | 0, _ => -6
  | f + 1, i => bif p i then nI i else m_ff p f (i + 1)
/-- the counts: rooms, doors, keys, groups -/
def m_N (M : m_S) (nR nD nK nG : Nat) : Prop := (M.1 0 = nI nR ∧ nR ≤ 12) ∧ (M.1 2 = nI nD ∧ nD ≤ 16) ∧ (M.1 9 = nI nK ∧ nK ≤ 16) ∧ (M.1 14 = nI nG ∧ nG ≤ 6)
theorem z_sub1 {n : Nat} (hn : n < 2 ^ 31) : (nI n - 1).toInt = (n : Int) - 1 := by
  have h1 : (nI n).toInt = (n : Int) := nI_toInt hn
  have h2 : (1 : Int32).toInt = 1 := rfl
  rw [Int32.toInt_sub, h1, h2, Int.bmod_eq_of_le (by omega) (by omega)]
theorem m_no_iff {r : Int32} {n : Nat} (hn : n < 2 ^ 31) : m_no r (nI n) = false ↔ ∃ j, j < n ∧ r = nI j := by
  have e0 := z_sub1 hn
  constructor
  · intro h
    have h1 : ¬ r < 0 ∧ ¬ nI n - 1 < r := by
      unfold m_no m_in at h
      by_cases c1 : r < 0 <;> by_cases c2 : nI n - 1 < r <;> simp [c1, c2] at h ⊢
    obtain ⟨j, hj, rfl⟩ := nI_of h1.1
    refine ⟨j, ?_, rfl⟩
    have h2 := h1.2
    rw [Int32.lt_iff_toInt_lt, e0, nI_toInt hj] at h2
    omega
  · rintro ⟨j, hj, rfl⟩
    have h1 : ¬ nI j < 0 := nI_pos (by omega)
    have h2 : ¬ nI n - 1 < nI j := by
      rw [Int32.lt_iff_toInt_lt, e0, nI_toInt (by omega)]
      omega
    simp [m_no, m_in, h1, h2]
theorem m_noX {M : m_S} {k n K : Nat} {r : Int32} (hn : M.1 k = nI n) (hK : n ≤ K) (hK2 : K < 2 ^ 31) (h : m_no r (M.1 k) = false) : vp_in r K := by
  rw [hn] at h
  obtain ⟨j, hj, rfl⟩ := (m_no_iff (by omega)).mp h
  exact vp_in_nI (by omega) hK2
theorem m_noG {M : m_S} {nR nD nK nG : Nat} (hN : m_N M nR nD nK nG) {r : Int32} (h : m_no r (M.1 14) = false) : vp_in r 6 := m_noX hN.2.2.2.1 hN.2.2.2.2 (by decide) h
theorem m_noD {M : m_S} {nR nD nK nG : Nat} (hN : m_N M nR nD nK nG) {r : Int32} (h : m_no r (M.1 2) = false) : vp_in r 16 := m_noX hN.2.1.1 hN.2.1.2 (by decide) h
theorem m_noK {M : m_S} {nR nD nK nG : Nat} (hN : m_N M nR nD nK nG) {r : Int32} (h : m_no r (M.1 9) = false) : vp_in r 16 := m_noX hN.2.2.1.1 hN.2.2.1.2 (by decide) h
theorem m_noR {M : m_S} {nR nD nK nG : Nat} (hN : m_N M nR nD nK nG) {r : Int32} (h : m_no r (M.1 0) = false) : vp_in r 12 := m_noX hN.1.1 hN.1.2 (by decide) h
theorem m_roomX {M : m_S} {k n K : Nat} (hn : M.1 k = nI n) (hK : n ≤ K) (hK2 : K < 2 ^ 31) (h : ¬ M.1 k = nI K) : vp_in (M.1 k) K := by
  rw [hn] at h ⊢
  exact vp_in_nI (Nat.lt_of_le_of_ne hK (fun e => h (by rw [e]))) hK2
def F_addRoom (M : m_S) : Int32 × m_S := if M.1 0 = 12 then (-3, M) else (M.1 0 + 1 - 1, m_sS M 0 (M.1 0 + 1))
def F_setExit (M : m_S) (r : Int32) : Int32 × m_S := if m_no r (M.1 0) then (-1, M) else (M.1 1, m_sS M 1 r)
def F_putDoor (M : m_S) (a b w c u : Int32) : Int32 × m_S :=
  (M.1 2 + 1 - 1, m_sS (m_sA (m_sA (m_sA (m_sA (m_sA (m_sA M 3 (M.1 2).toNatClampNeg (if a < b then a else b)) 4 (M.1 2).toNatClampNeg (if a < b then b else a)) 5 (M.1 2).toNatClampNeg w) 6 (M.1 2).toNatClampNeg c) 7 (M.1 2).toNatClampNeg u) 8 (M.1 2).toNatClampNeg (if c < 0 then 0 else -6)) 2 (M.1 2 + 1))
def m_locks (M : m_S) (nD : Nat) : Int32 := m_cnt (fun d => !(decide (M.2 6 d < 0))) nD
def F_addDoor (M : m_S) (a b w : Int32) : Int32 × m_S :=
  if m_no a (M.1 0) || m_no b (M.1 0) then (-1, M) else if decide (a = b) || !(m_in w 1 30) then (-2, M) else if M.1 2 = 16 then (-3, M) else F_putDoor M a b w (-6) 0
def F_addLock (M : m_S) (nD : Nat) (a b w c u : Int32) : Int32 × m_S :=
  if m_no a (M.1 0) || m_no b (M.1 0) then (-1, M) else if decide (a = b) || !(m_in w 1 30) || !(m_in c 0 5) || !(m_in u 1 60) then (-2, M) else if decide (M.1 2 = 16) || decide (m_locks M nD = 10) then (-3, M) else F_putDoor M a b w c u
def F_addKey (M : m_S) (r c : Int32) : Int32 × m_S :=
  if m_no r (M.1 0) then (-1, M) else if !(m_in c 0 5) then (-2, M) else if M.1 9 = 16 then (-3, M) else
  (M.1 9 + 1 - 1, m_sS (m_sA (m_sA (m_sA (m_sA M 10 (M.1 9).toNatClampNeg c) 11 (M.1 9).toNatClampNeg 0) 12 (M.1 9).toNatClampNeg r) 13 (M.1 9).toNatClampNeg 0) 9 (M.1 9 + 1))
def F_putGroup (M : m_S) (z r t : Int32) : Int32 × m_S :=
  (M.1 14 + 1 - 1, m_sS (m_sA (m_sA (m_sA (m_sA (m_sA M 15 (M.1 14).toNatClampNeg z) 16 (M.1 14).toNatClampNeg r) 17 (M.1 14).toNatClampNeg t) 18 (M.1 14).toNatClampNeg 0) 19 (M.1 14).toNatClampNeg 0) 14 (M.1 14 + 1))
def m_players (M : m_S) (nG : Nat) : Int32 := m_sum (M.2 15) nG
def F_addGroup (M : m_S) (nG : Nat) (z r : Int32) : Int32 × m_S :=
  if m_no r (M.1 0) then (-1, M) else if !(m_in z 1 24) then (-2, M) else if decide (M.1 14 = 6) || decide (24 < m_players M nG + z) then (-3, M) else F_putGroup M z r 0
def F_setHints (M : m_S) (b t : Int32) : Int32 × m_S :=
  if !(m_in b 1 30) || !(m_in t 0 30) then (-2, M) else (M.1 20, m_sS (m_sS M 20 b) 21 t)
def m_later (x y : Int32) : Int32 := if x < y then y else x
def F_walk (M : m_S) (g d : Int32) : Int32 × m_S :=
  if m_no g (M.1 14) || m_no d (M.1 2) then (-1, M) else
  if !(m_pl M g) || !(m_at M d (M.2 16 g.toNatClampNeg)) || decide (M.2 8 d.toNatClampNeg < 0) then (-4, M) else
  if 100000 < m_later (M.2 17 g.toNatClampNeg) (M.2 8 d.toNatClampNeg) + M.2 5 d.toNatClampNeg then (-5, M) else
  (m_later (M.2 17 g.toNatClampNeg) (M.2 8 d.toNatClampNeg) + M.2 5 d.toNatClampNeg, m_sA (m_sA M 17 g.toNatClampNeg (m_later (M.2 17 g.toNatClampNeg) (M.2 8 d.toNatClampNeg) + M.2 5 d.toNatClampNeg)) 16 g.toNatClampNeg (M.2 3 d.toNatClampNeg + M.2 4 d.toNatClampNeg - M.2 16 g.toNatClampNeg))
def m_kf (M : m_S) (nK : Nat) (g c : Int32) : Int32 := m_ff (fun k => m_ho M g (nI k) && decide (M.2 10 k = c)) nK 0
def F_unlock (M : m_S) (nK : Nat) (g d : Int32) : Int32 × m_S :=
  if m_no g (M.1 14) || m_no d (M.1 2) then (-1, M) else
  if !(m_pl M g) || !(m_at M d (M.2 16 g.toNatClampNeg)) || !(decide (M.2 8 d.toNatClampNeg < 0)) then (-4, M) else
  if m_kf M nK g (M.2 6 d.toNatClampNeg) < 0 then (-4, M) else
  if 100000 < M.2 17 g.toNatClampNeg + M.2 7 d.toNatClampNeg then (-5, M) else
  (m_kf M nK g (M.2 6 d.toNatClampNeg), m_sA (m_sA (m_sA (m_sA M 17 g.toNatClampNeg (M.2 17 g.toNatClampNeg + M.2 7 d.toNatClampNeg)) 8 d.toNatClampNeg (M.2 17 g.toNatClampNeg + M.2 7 d.toNatClampNeg)) 11 (m_kf M nK g (M.2 6 d.toNatClampNeg)).toNatClampNeg 2) 12 (m_kf M nK g (M.2 6 d.toNatClampNeg)).toNatClampNeg d)
def m_held (M : m_S) (nK : Nat) (g : Int32) : Int32 := m_cnt (fun k => m_ho M g (nI k)) nK
def F_take (M : m_S) (nK : Nat) (g k : Int32) : Int32 × m_S :=
  if m_no g (M.1 14) || m_no k (M.1 9) then (-1, M) else
  if !(m_pl M g) || !(decide (M.2 11 k.toNatClampNeg = 0)) || !(decide (M.2 12 k.toNatClampNeg = M.2 16 g.toNatClampNeg)) then (-4, M) else
  let M2 := m_sA (m_sA (m_sA M 17 g.toNatClampNeg (m_later (M.2 17 g.toNatClampNeg) (M.2 13 k.toNatClampNeg))) 11 k.toNatClampNeg 1) 12 k.toNatClampNeg g
  (m_held M2 nK g, M2)
def F_drop (M : m_S) (nK : Nat) (g k : Int32) : Int32 × m_S :=
  if m_no g (M.1 14) || m_no k (M.1 9) then (-1, M) else
  if !(m_pl M g) || !(m_ho M g k) then (-4, M) else
  let M2 := m_sA (m_sA (m_sA M 11 k.toNatClampNeg 0) 12 k.toNatClampNeg (M.2 16 g.toNatClampNeg)) 13 k.toNatClampNeg (M.2 17 g.toNatClampNeg)
  (m_held M2 nK g, M2)
def F_idle (M : m_S) (g t : Int32) : Int32 × m_S :=
  if m_no g (M.1 14) then (-1, M) else if !(m_in t 1 1000) then (-2, M) else if !(m_pl M g) then (-4, M) else
  if 100000 < M.2 17 g.toNatClampNeg + t then (-5, M) else (M.2 17 g.toNatClampNeg + t, m_sA M 17 g.toNatClampNeg (M.2 17 g.toNatClampNeg + t))
def F_part (M : m_S) (g z : Int32) : Int32 × m_S :=
  if m_no g (M.1 14) then (-1, M) else if !(m_in z 1 23) then (-2, M) else if !(m_pl M g) || !(decide (z < M.2 15 g.toNatClampNeg)) then (-4, M) else
  if M.1 14 = 6 then (-3, M) else
  F_putGroup (m_sA M 15 g.toNatClampNeg (M.2 15 g.toNatClampNeg - z)) z (M.2 16 g.toNatClampNeg) (M.2 17 g.toNatClampNeg)
/-- the keys of g go over to o, the first n of them -/
def m_over (M : m_S) (g o : Int32) : Nat → m_S
  | 0 => M
  | n + 1 => m_sA (m_over M g o n) 12 n (if m_ho (m_over M g o n) g (nI n) then o else (m_over M g o n).2 12 n)
def m_join (M : m_S) (g o : Int32) : m_S :=
  let M1 := m_sA M 15 o.toNatClampNeg (M.2 15 o.toNatClampNeg + M.2 15 g.toNatClampNeg)
  let M2 := m_sA M1 15 g.toNatClampNeg 0
  let M3 := m_sA M2 19 g.toNatClampNeg 2
  let M4 := m_sA M3 17 o.toNatClampNeg (m_later (M.2 17 o.toNatClampNeg) (M.2 17 g.toNatClampNeg))
  m_sA M4 18 o.toNatClampNeg (M.2 18 o.toNatClampNeg + M.2 18 g.toNatClampNeg)
def F_join (M : m_S) (nK : Nat) (g o : Int32) : Int32 × m_S :=
  if m_no g (M.1 14) || m_no o (M.1 14) then (-1, M) else if g = o then (-2, M) else
  if !(m_pl M g) || !(m_pl M o) || !(decide (M.2 16 g.toNatClampNeg = M.2 16 o.toNatClampNeg)) then (-4, M) else
  ((m_over (m_join M g o) g o nK).2 15 o.toNatClampNeg, m_over (m_join M g o) g o nK)
def F_leave (M : m_S) (g : Int32) : Int32 × m_S :=
  if m_no g (M.1 14) then (-1, M) else if !(m_pl M g) || !(decide (M.2 16 g.toNatClampNeg = M.1 1)) then (-4, M) else
  (M.2 17 g.toNatClampNeg, m_sA M 19 g.toNatClampNeg 1)
def F_door (M : m_S) (d w : Int32) : Int32 :=
  if m_no d (M.1 2) then -1 else if w = 0 then M.2 3 d.toNatClampNeg else if w = 1 then M.2 4 d.toNatClampNeg else if w = 2 then M.2 5 d.toNatClampNeg else if w = 3 then M.2 6 d.toNatClampNeg else if w = 4 then M.2 7 d.toNatClampNeg else if w = 5 then M.2 8 d.toNatClampNeg else -2
def F_key (M : m_S) (k w : Int32) : Int32 :=
  if m_no k (M.1 9) then -1 else if w = 0 then M.2 10 k.toNatClampNeg else if w = 1 then M.2 11 k.toNatClampNeg else if w = 2 then (if M.2 11 k.toNatClampNeg = 0 then M.2 12 k.toNatClampNeg else -6) else if w = 3 then (if M.2 11 k.toNatClampNeg = 1 then M.2 12 k.toNatClampNeg else -6) else if w = 4 then (if M.2 11 k.toNatClampNeg = 2 then M.2 12 k.toNatClampNeg else -6) else -2
def F_group (M : m_S) (nK : Nat) (g w : Int32) : Int32 :=
  if m_no g (M.1 14) then -1 else if w = 0 then M.2 15 g.toNatClampNeg else if w = 1 then M.2 16 g.toNatClampNeg else if w = 2 then M.2 17 g.toNatClampNeg else if w = 3 then m_held M nK g else if w = 4 then M.2 18 g.toNatClampNeg else if w = 5 then M.2 19 g.toNatClampNeg else -2
def F_color (M : m_S) (nD nK : Nat) (c w : Int32) : Int32 :=
  if !(m_in c 0 5) || !(m_in w 0 1) then -2 else if w = 0 then m_cnt (fun d => decide (M.2 6 d = c) && decide (M.2 8 d < 0)) nD else m_cnt (fun k => decide (M.2 10 k = c) && !(decide (M.2 11 k = 2))) nK
def m_sizes (M : m_S) (nG : Nat) (z : Int32) : Int32 := m_sum (fun g => if M.2 19 g = z then M.2 15 g else 0) nG
def m_unl (M : m_S) (nD : Nat) : Int32 := m_cnt (fun d => !(decide (M.2 6 d < 0)) && !(decide (M.2 8 d < 0))) nD
def m_late (M : m_S) : Nat → Int32
  | 0 => -6
  | n + 1 => if M.2 19 n = 1 ∧ m_late M n < M.2 17 n then M.2 17 n else m_late M n
def m_hints (M : m_S) (nG : Nat) : Int32 := m_sum (fun g => if M.2 19 g = 2 then 0 else M.2 18 g) nG

