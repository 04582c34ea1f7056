/-! The class's cells, as they show the reference's state M. ad k i: the addresses: 0 rooms, 1 doors, 2 keys, 3 groups, 4: 0 the object, 1..4 the lists, 5..8 their arrays, 9 the search, 10 its row of rooms, 11 its row of sequences -/
abbrev x_T : Type := (Nat → Int32) × (Nat → Option Nat) × (Nat → Int32) × Int64 × (Nat → Int32) × (Nat → Int64)
def x_bit (i : Int32) : Int32 := (1 : Int32) <<< (i &&& 31)
def x_lc (M : m_S) : Nat → Nat
  | 0 => 0
  | n + 1 => x_lc M n + (if M.2 6 n < 0 then 0 else 1)
def x_lb (M : m_S) (d : Nat) : Int32 := if M.2 6 d < 0 then 0 else x_bit (nI (x_lc M d))
def x_op (M : m_S) (d : Nat) : Bool := !(decide (M.2 8 d < 0))
def x_ot (M : m_S) (d : Nat) : Int32 := if M.2 8 d < 0 then 0 else M.2 8 d
def x_room (T : x_T) (i : Nat) : va_E := .inr (5, [.int (nI i), .int (x_bit (nI i)), .int (T.1 i)])
def x_door (ad : Nat → Nat → Nat) (M : m_S) (d : Nat) : va_E := .inr (1, [.int (nI d), .ref (ad 0 (M.2 3 d).toNatClampNeg), .ref (ad 0 (M.2 4 d).toNatClampNeg), .int (M.2 5 d), .int (x_bit (M.2 3 d) ||| x_bit (M.2 4 d)), .int (M.2 6 d), .int (M.2 7 d), .int (x_lb M d), .int (z_b (x_op M d)), .int (x_ot M d)])
def x_kr (ad : Nat → Nat → Nat) (M : m_S) (k : Nat) : Option Nat := if M.2 11 k = 0 then some (ad 0 (M.2 12 k).toNatClampNeg) else none
def x_kh (ad : Nat → Nat → Nat) (M : m_S) (k : Nat) : Option Nat := if M.2 11 k = 1 then some (ad 3 (M.2 12 k).toNatClampNeg) else none
def x_ku (ad : Nat → Nat → Nat) (M : m_S) (k : Nat) : Option Nat := if M.2 11 k = 2 then some (ad 1 (M.2 12 k).toNatClampNeg) else none
def x_key (ad : Nat → Nat → Nat) (M : m_S) (k : Nat) : va_E := .inr (3, [.int (nI k), .int (M.2 10 k), va_rf (x_kr ad M k), .int (M.2 13 k), va_rf (x_kh ad M k), va_rf (x_ku ad M k)])
def x_group (ad : Nat → Nat → Nat) (M : m_S) (g : Nat) : va_E := .inr (2, [.int (nI g), .int (M.2 15 g), .ref (ad 0 (M.2 16 g).toNatClampNeg), .int (M.2 17 g), .int (M.2 18 g), .int (M.2 19 g)])
def x_ex (ad : Nat → Nat → Nat) (M : m_S) : Option Nat := if M.1 1 < 0 then none else some (ad 0 (M.1 1).toNatClampNeg)
def x_obj (ad : Nat → Nat → Nat) (nD nG : Nat) (M : m_S) : va_E := .inr (6, [.ref (ad 4 1), .ref (ad 4 2), .ref (ad 4 3), .ref (ad 4 4), .ref (ad 4 9), va_rf (x_ex ad M), .int (nI (x_lc M nD)), .int (M.1 20), .int (M.1 21), .int (m_hints M nG)])
def x_search (ad : Nat → Nat → Nat) (T : x_T) : va_E := .inr (4, [.ref (ad 4 10), .ref (ad 4 11), va_rf (T.2.1 0), va_rf (T.2.1 1), va_rf (T.2.1 2), .int (T.2.2.1 0), .int (T.2.2.1 1), .int (T.2.2.1 2), .int (T.2.2.1 3), .long T.2.2.2.1])
def x_in (nR nD nK nG k i : Nat) : Prop := (k = 0 ∧ i < nR) ∨ (k = 1 ∧ i < nD) ∨ (k = 2 ∧ i < nK) ∨ (k = 3 ∧ i < nG) ∨ (k = 4 ∧ i < 12 ∧ (i = 5 → 0 < nR) ∧ (i = 6 → 0 < nD) ∧ (i = 7 → 0 < nK) ∧ (i = 8 → 0 < nG))
def x_inj (ad : Nat → Nat → Nat) (nR nD nK nG : Nat) : Prop := ∀ k i k' i', x_in nR nD nK nG k i → x_in nR nD nK nG k' i' → ad k i = ad k' i' → k = k' ∧ i = i'
def x_R (G : z_G) (ad : Nat → Nat → Nat) (nR nD nK nG : Nat) (M : m_S) (T : x_T) (H : Heap) : Prop :=
  (va_at G.1 vwCl (ad 4 0, x_obj ad nD nG M) H ∧ va_at G.1 vwCl (ad 4 9, x_search ad T) H ∧ va_at G.1 vwCl (ad 4 10, .inl (G.2 0, 1024, .inl T.2.2.2.2.1)) H ∧ va_at G.1 vwCl (ad 4 11, .inl (G.2 1, 1024, .inr (.inl T.2.2.2.2.2))) H) ∧
  ((∀ i, i < nR → va_at G.1 vwCl (ad 0 i, x_room T i) H) ∧ (∀ i, i < nD → va_at G.1 vwCl (ad 1 i, x_door ad M i) H) ∧ (∀ i, i < nK → va_at G.1 vwCl (ad 2 i, x_key ad M i) H) ∧ (∀ i, i < nG → va_at G.1 vwCl (ad 3 i, x_group ad M i) H)) ∧
  (x_L G (ad 4 1) (ad 4 5) nR (ad 0) H ∧ x_L G (ad 4 2) (ad 4 6) nD (ad 1) H ∧ x_L G (ad 4 3) (ad 4 7) nK (ad 2) H ∧ x_L G (ad 4 4) (ad 4 8) nG (ad 3) H) ∧
  x_inj ad nR nD nK nG
def x_A (ad : Nat → Nat → Nat) (nR nD nK nG : Nat) : Nat → Prop := fun q => ∃ k i, x_in nR nD nK nG k i ∧ q = ad k i
theorem z_U.trans {G : z_G} {a : Nat} {e e2 : va_E} {H H1 H2 : Heap} (h : z_U G a e H H1) (h2 : z_U G a e2 H1 H2) : z_U G a e2 H H2 := ⟨h2.1, h2.2.1.trans h.2.1, fun q hq => (h2.2.2 q hq).trans (h.2.2 q hq)⟩
