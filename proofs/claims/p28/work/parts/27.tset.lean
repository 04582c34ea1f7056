/-! the search's own cells -/
def t_o (T : x_T) (k : Nat) (v : Option Nat) : x_T := (T.1, (fun j => if j = k then v else T.2.1 j), T.2.2)
def t_i (T : x_T) (k : Nat) (v : Int32) : x_T := (T.1, T.2.1, (fun j => if j = k then v else T.2.2.1 j), T.2.2.2)
def t_q (T : x_T) (v : Int64) : x_T := (T.1, T.2.1, T.2.2.1, v, T.2.2.2.2)
def t_r (T : x_T) (i : Nat) (v : Int32) : x_T := (T.1, T.2.1, T.2.2.1, T.2.2.2.1, upd T.2.2.2.2.1 i v, T.2.2.2.2.2)
def t_s (T : x_T) (i : Nat) (v : Int64) : x_T := (T.1, T.2.1, T.2.2.1, T.2.2.2.1, T.2.2.2.2.1, vp_updL T.2.2.2.2.2 i v)
section TS
variable {G : z_G} {ad : Nat → Nat → Nat} {nR nD nK nG : Nat} {M : m_S} {T T' : x_T} {H H' : Heap}
theorem x_R.srch (h : x_R G ad nR nD nK nG M T H) (hU : z_U G (ad 4 9) (x_search ad T') H H') (h1 : T'.1 = T.1) (h4 : T'.2.2.1 4 = T.2.2.1 4) (h5 : T'.2.2.2.2 = T.2.2.2.2) : x_R G ad nR nD nK nG M T' H' := by
  refine h.upd (k0 := 4) (i0 := 9) ⟨by unfold x_in; omega, by omega⟩ hU (by rw [x_cell9]; rfl) ?_
  intro k' j hp hne
  rcases x_pl_cases hp with ⟨rfl, q⟩ | ⟨rfl, q⟩ | ⟨rfl, q⟩ | ⟨rfl, q⟩ | ⟨rfl, rfl⟩ | ⟨rfl, rfl⟩ | ⟨rfl, rfl⟩ | ⟨rfl, rfl⟩
  · rw [x_cell_0, x_cell_0]; unfold x_room; rw [h1]
  · rfl
  · rfl
  · rfl
  · exact x_obj_congr rfl rfl rfl rfl h4
  · omega
  · rw [x_cell10, x_cell10, h5]
  · rw [x_cell11, x_cell11, h5]
theorem x_row10 (h : x_R G ad nR nD nK nG M T H) {i : Nat} {v : Int32} (hU : z_U G (ad 4 10) (.inl (G.2 0, 1024, .inl (upd T.2.2.2.2.1 i v))) H H') : x_R G ad nR nD nK nG M (t_r T i v) H' := by
  refine h.upd (k0 := 4) (i0 := 10) (e := .inl (G.2 0, 1024, .inl (upd T.2.2.2.2.1 i v))) ⟨by unfold x_in; omega, by omega⟩ hU (by rw [x_cell10]; rfl) ?_
  intro k' j hp hne
  rcases x_pl_cases hp with ⟨rfl, q⟩ | ⟨rfl, q⟩ | ⟨rfl, q⟩ | ⟨rfl, q⟩ | ⟨rfl, rfl⟩ | ⟨rfl, rfl⟩ | ⟨rfl, rfl⟩ | ⟨rfl, rfl⟩
  · rw [x_cell_0, x_cell_0]; rfl
  · rfl
  · rfl
  · rfl
  · exact x_obj_congr rfl rfl rfl rfl rfl
  · rw [x_cell9, x_cell9]; rfl
  · omega
  · rw [x_cell11, x_cell11]; rfl
theorem x_row11 (h : x_R G ad nR nD nK nG M T H) {i : Nat} {v : Int64} (hU : z_U G (ad 4 11) (.inl (G.2 1, 1024, .inr (.inl (vp_updL T.2.2.2.2.2 i v)))) H H') : x_R G ad nR nD nK nG M (t_s T i v) H' := by
  refine h.upd (k0 := 4) (i0 := 11) (e := .inl (G.2 1, 1024, .inr (.inl (vp_updL T.2.2.2.2.2 i v)))) ⟨by unfold x_in; omega, by omega⟩ hU (by rw [x_cell11]; rfl) ?_
  intro k' j hp hne
  rcases x_pl_cases hp with ⟨rfl, q⟩ | ⟨rfl, q⟩ | ⟨rfl, q⟩ | ⟨rfl, q⟩ | ⟨rfl, rfl⟩ | ⟨rfl, rfl⟩ | ⟨rfl, rfl⟩ | ⟨rfl, rfl⟩
  · rw [x_cell_0, x_cell_0]; rfl
  · rfl
  · rfl
  · rfl
  · exact x_obj_congr rfl rfl rfl rfl rfl
  · rw [x_cell9, x_cell9]; rfl
  · rw [x_cell10, x_cell10]; rfl
  · omega
theorem x_R.sO0 (h : x_R G ad nR nD nK nG M T H) {v : Option Nat} (hU : z_U G (ad 4 9) (.inr (4, [.ref (ad 4 10), .ref (ad 4 11), va_rf v, va_rf (T.2.1 1), va_rf (T.2.1 2), .int (T.2.2.1 0), .int (T.2.2.1 1), .int (T.2.2.1 2), .int (T.2.2.1 3), .long T.2.2.2.1])) H H') : x_R G ad nR nD nK nG M (t_o T 0 v) H' := h.srch hU rfl rfl rfl
theorem x_R.sO1 (h : x_R G ad nR nD nK nG M T H) {v : Option Nat} (hU : z_U G (ad 4 9) (.inr (4, [.ref (ad 4 10), .ref (ad 4 11), va_rf (T.2.1 0), va_rf v, va_rf (T.2.1 2), .int (T.2.2.1 0), .int (T.2.2.1 1), .int (T.2.2.1 2), .int (T.2.2.1 3), .long T.2.2.2.1])) H H') : x_R G ad nR nD nK nG M (t_o T 1 v) H' := h.srch hU rfl rfl rfl
theorem x_R.sO2 (h : x_R G ad nR nD nK nG M T H) {v : Option Nat} (hU : z_U G (ad 4 9) (.inr (4, [.ref (ad 4 10), .ref (ad 4 11), va_rf (T.2.1 0), va_rf (T.2.1 1), va_rf v, .int (T.2.2.1 0), .int (T.2.2.1 1), .int (T.2.2.1 2), .int (T.2.2.1 3), .long T.2.2.2.1])) H H') : x_R G ad nR nD nK nG M (t_o T 2 v) H' := h.srch hU rfl rfl rfl
theorem x_R.sI0 (h : x_R G ad nR nD nK nG M T H) {v : Int32} (hU : z_U G (ad 4 9) (.inr (4, [.ref (ad 4 10), .ref (ad 4 11), va_rf (T.2.1 0), va_rf (T.2.1 1), va_rf (T.2.1 2), .int v, .int (T.2.2.1 1), .int (T.2.2.1 2), .int (T.2.2.1 3), .long T.2.2.2.1])) H H') : x_R G ad nR nD nK nG M (t_i T 0 v) H' := h.srch hU rfl rfl rfl
theorem x_R.sI1 (h : x_R G ad nR nD nK nG M T H) {v : Int32} (hU : z_U G (ad 4 9) (.inr (4, [.ref (ad 4 10), .ref (ad 4 11), va_rf (T.2.1 0), va_rf (T.2.1 1), va_rf (T.2.1 2), .int (T.2.2.1 0), .int v, .int (T.2.2.1 2), .int (T.2.2.1 3), .long T.2.2.2.1])) H H') : x_R G ad nR nD nK nG M (t_i T 1 v) H' := h.srch hU rfl rfl rfl
theorem x_R.sI2 (h : x_R G ad nR nD nK nG M T H) {v : Int32} (hU : z_U G (ad 4 9) (.inr (4, [.ref (ad 4 10), .ref (ad 4 11), va_rf (T.2.1 0), va_rf (T.2.1 1), va_rf (T.2.1 2), .int (T.2.2.1 0), .int (T.2.2.1 1), .int v, .int (T.2.2.1 3), .long T.2.2.2.1])) H H') : x_R G ad nR nD nK nG M (t_i T 2 v) H' := h.srch hU rfl rfl rfl
theorem x_R.sI3 (h : x_R G ad nR nD nK nG M T H) {v : Int32} (hU : z_U G (ad 4 9) (.inr (4, [.ref (ad 4 10), .ref (ad 4 11), va_rf (T.2.1 0), va_rf (T.2.1 1), va_rf (T.2.1 2), .int (T.2.2.1 0), .int (T.2.2.1 1), .int (T.2.2.1 2), .int v, .long T.2.2.2.1])) H H') : x_R G ad nR nD nK nG M (t_i T 3 v) H' := h.srch hU rfl rfl rfl
theorem x_R.sQ (h : x_R G ad nR nD nK nG M T H) {v : Int64} (hU : z_U G (ad 4 9) (.inr (4, [.ref (ad 4 10), .ref (ad 4 11), va_rf (T.2.1 0), va_rf (T.2.1 1), va_rf (T.2.1 2), .int (T.2.2.1 0), .int (T.2.2.1 1), .int (T.2.2.1 2), .int (T.2.2.1 3), .long v])) H H') : x_R G ad nR nD nK nG M (t_q T v) H' := h.srch hU rfl rfl rfl
/-- the search is set on group g -/
def x_W (ad : Nat → Nat → Nat) (M : m_S) (nD g : Nat) (T : x_T) : Prop := va_rf (T.2.1 0) = .ref (ad 3 g) ∧ va_rf (T.2.1 1) = .ref (ad 4 2) ∧ va_rf (T.2.1 2) = .ref (ad 4 3) ∧ T.2.2.1 0 = x_ol M nD
/-- a lock that the plan opens -/
theorem x_byPlan (hI : m_I nR nD nK nG M) {d s : Nat} (hd : d < nD) (hs : s < 2 ^ 31) : (!(decide ((nI s &&& (x_ol M nD ^^^ (-1))) &&& x_lb M d = 0))) = k_C M nD (x_lc M) s d := by
  have h10 := hI.lcd hd
  have h10n := hI.lc
  have hx : ∀ i, i < 32 → tb (x_ol M nD ^^^ (-1)) i = !(tb (x_ol M nD) i) := fun i hi => by
    unfold tb
    rw [Int32.toBitVec_xor, BitVec.getLsbD_xor]
    have : ((-1 : Int32).toBitVec).getLsbD i = true := by
      have : (-1 : Int32).toBitVec = BitVec.allOnes 32 := by decide
      rw [this, BitVec.getLsbD_allOnes]; simp [hi]
    rw [this]; simp
  have key : ((nI s &&& (x_ol M nD ^^^ (-1))) &&& x_lb M d = 0) ↔ k_C M nD (x_lc M) s d = false := by
    constructor
    · intro h
      cases q : k_C M nD (x_lc M) s d with
      | false => rfl
      | true =>
        obtain ⟨-, ho⟩ := k_C_f q
        rw [k_C_t hd ho] at q
        obtain ⟨-, ⟨x, hx6, e6⟩, -⟩ := hI.closed hd ho
        have hc : ¬ M.2 6 d < 0 := by rw [e6]; exact nI_pos (by omega)
        have e : tb ((nI s &&& (x_ol M nD ^^^ (-1))) &&& x_lb M d) (x_lc M d) = false := by rw [h, tb_0]
        rw [tb_and, tb_and, tb_nI hs (by omega), q, hx _ (by omega), (x_lb_tb (by omega) _).mpr ⟨hc, rfl⟩] at e
        have : tb (x_ol M nD) (x_lc M d) = false := by
          cases w : tb (x_ol M nD) (x_lc M d) with
          | false => rfl
          | true => rw [x_ol_door hI hd hc, ho] at w; cases w
        rw [this] at e
        exact absurd e (by decide)
    · intro h
      refine tb_ext fun i hi => ?_
      rw [tb_and, tb_and, tb_nI hs hi, hx i hi, tb_0]
      cases q : tb (x_lb M d) i with
      | false => exact Bool.and_false _
      | true =>
        obtain ⟨q1, q2⟩ := (x_lb_tb (by omega) i).mp q
        cases w : tb (x_ol M nD) i with
        | true => simp
        | false =>
          have ho : x_op M d = false := by
            cases z : x_op M d with
            | false => rfl
            | true => rw [q2, (x_ol_door hI hd q1).mpr z] at w; cases w
          rw [k_C_t hd ho, ← q2] at h
          rw [h]; simp
  cases q : k_C M nD (x_lc M) s d with
  | false => rw [decide_eq_true (key.mpr q)]; rfl
  | true => rw [decide_eq_false (fun w => by rw [key.mp w] at q; cases q)]; rfl
end TS

