/-! the reference's locks: closed doors in their order -/
def k_ci (M : m_S) (d : Nat) : Nat := k_n (fun x => !(x_op M x)) d
theorem k_ci_s {M : m_S} {d : Nat} (h : x_op M d = false) : k_ci M (d + 1) = k_ci M d + 1 := by
  show k_n (fun x => !(x_op M x)) d + (if (!(x_op M d)) = true then 1 else 0) = k_ci M d + 1
  rw [h]; rfl
theorem k_ci_o {M : m_S} {d : Nat} (h : x_op M d = true) : k_ci M (d + 1) = k_ci M d := by
  show k_n (fun x => !(x_op M x)) d + (if (!(x_op M d)) = true then 1 else 0) = k_ci M d
  rw [h]; rfl
theorem k_ci_le {M : m_S} : ∀ {n d : Nat}, d ≤ n → k_ci M d ≤ k_ci M n
  | 0, d, h => by
    have e : d = 0 := by omega
    rw [e]; exact Nat.le_refl _
  | n + 1, d, h => by
    by_cases e : d = n + 1
    · subst e; exact Nat.le_refl _
    · have := k_ci_le (M := M) (n := n) (d := d) (by omega)
      show k_ci M d ≤ k_ci M n + _
      omega
theorem k_ci_lt {M : m_S} {n d : Nat} (h : d < n) (hc : x_op M d = false) : k_ci M d < k_ci M n := by
  have h1 := k_ci_le (M := M) (n := n) (d := d + 1) (by omega)
  rw [k_ci_s hc] at h1
  omega
theorem k_ci_lc {nR nD nK nG : Nat} {M : m_S} (hI : m_I nR nD nK nG M) : ∀ n, n ≤ nD → k_ci M n ≤ x_lc M n
  | 0, _ => Nat.le_refl _
  | n + 1, h => by
    have ih := k_ci_lc hI n (by omega)
    cases o : x_op M n with
    | true => rw [k_ci_o o]; exact Nat.le_trans ih (x_lc_le (by omega))
    | false =>
      obtain ⟨-, ⟨x, hx, e⟩, -⟩ := hI.closed (d := n) (by omega) o
      have h2 : x_lc M (n + 1) = x_lc M n + 1 := by simp only [x_lc]; rw [if_neg (by rw [e]; exact nI_pos (by omega))]
      rw [k_ci_s o, h2]; omega
theorem k_ci10 {nR nD nK nG : Nat} {M : m_S} (hI : m_I nR nD nK nG M) : k_ci M nD ≤ 10 := Nat.le_trans (k_ci_lc hI nD (Nat.le_refl _)) hI.lc
/-- the reference's numbers tell the closed doors apart -/
theorem k_X_ci {nR nD nK nG : Nat} {M : m_S} (hI : m_I nR nD nK nG M) : k_X M nD (k_ci M nD) 0 (k_ci M) := by
  refine ⟨fun a b ha hb oa ob e => ?_, fun d hd ho => ⟨Nat.zero_testBit _, k_ci_lt hd ho⟩, Nat.two_pow_pos _, k_ci10 hI⟩
  rcases Nat.lt_trichotomy a b with q | q | q
  · have := k_ci_lt q oa; omega
  · exact q
  · have := k_ci_lt q ob; omega
/-- each number below the count is that of a closed door -/
theorem k_ci_ex {M : m_S} : ∀ {n k : Nat}, k < k_ci M n → ∃ d, d < n ∧ x_op M d = false ∧ k_ci M d = k
  | 0, k, h => absurd h (by unfold k_ci k_n; omega)
  | n + 1, k, h => by
    cases o : x_op M n with
    | true =>
      rw [k_ci_o o] at h
      obtain ⟨d, h1, h2⟩ := k_ci_ex h
      exact ⟨d, by omega, h2⟩
    | false =>
      rw [k_ci_s o] at h
      by_cases e : k = k_ci M n
      · exact ⟨n, by omega, o, e.symm⟩
      · obtain ⟨d, h1, h2⟩ := k_ci_ex (M := M) (n := n) (k := k) (by omega)
        exact ⟨d, by omega, h2⟩
def k_lay (M M1 : m_S) (i : Nat) : Prop := m_Q M M1 ∧ M1.1 22 = nI (k_ci M i) ∧ ∀ d, d < i → x_op M d = false → M1.2 23 (k_ci M d) = nI d
theorem m_sS_Q {M M1 : m_S} {k : Nat} {v : Int32} (h : m_Q M M1) (hk : 21 < k) : m_Q M (m_sS M1 k v) := ⟨fun j hj => by rw [m_sS1, if_neg (by omega)]; exact h.1 j hj, h.2⟩
theorem m_sA_Q {M M1 : m_S} {k i : Nat} {v : Int32} (h : m_Q M M1) (hk : 19 < k) : m_Q M (m_sA M1 k i v) := ⟨h.1, fun j hj => by rw [m_sA_arr (by omega)]; exact h.2 j hj⟩
theorem k_lay.start {M : m_S} : k_lay M (m_sS M 22 0) 0 := ⟨m_sS_Q m_Q.refl (by omega), rfl, fun d hd => absurd hd (by omega)⟩
theorem k_lay.skip {M M1 : m_S} {i : Nat} (h : k_lay M M1 i) (ho : x_op M i = true) : k_lay M M1 (i + 1) := by
  refine ⟨h.1, by rw [k_ci_o ho]; exact h.2.1, fun d hd hc => ?_⟩
  by_cases e : d = i
  · subst e; rw [ho] at hc; cases hc
  · exact h.2.2 d (by omega) hc
theorem k_lay.put {M M1 : m_S} {i : Nat} (h : k_lay M M1 i) (ho : x_op M i = false) : k_lay M (m_sS (m_sA M1 23 (k_ci M i) (nI i)) 22 (nI (k_ci M i) + 1)) (i + 1) := by
  refine ⟨m_sS_Q (m_sA_Q h.1 (by omega)) (by omega), ?_, fun d hd hc => ?_⟩
  · rw [m_sS1, if_pos rfl, k_ci_s ho]; exact z_inc _
  · show (m_sA M1 23 (k_ci M i) (nI i)).2 23 (k_ci M d) = nI d
    by_cases e : d = i
    · subst e; rw [m_sA_at]
    · have := k_ci_lt (M := M) (n := i) (d := d) (by omega) hc
      rw [m_sA_ix (by omega)]
      exact h.2.2 d (by omega) hc
def F_cost (M : m_S) (z : Int32) (n : Nat) : Int32 := m_sum (fun k => if m_has z (nI k) = true then M.2 7 (M.2 23 k).toNatClampNeg else 0) n
def F_sset (z : Int32) (n : Nat) : Int32 := m_cnt (fun k => m_has z (nI k)) n
def F_left1 (M : m_S) (g y c : Int32) (n : Nat) : Int32 := m_cnt (fun k => decide (M.2 10 k = c) && k_near M g y k) n
def F_left2 (M : m_S) (z c : Int32) (n : Nat) : Int32 := m_cnt (fun x => m_has z (nI x) && decide (M.2 6 (M.2 23 x).toNatClampNeg = c)) n
def F_canAdd (M : m_S) (nK nL : Nat) (g z : Int32) (k d : Nat) : Bool := !(m_has z (nI k)) && (m_has (M.2 25 z.toNatClampNeg) (M.2 3 d) || m_has (M.2 25 z.toNatClampNeg) (M.2 4 d)) && decide (0 < F_left1 M g (M.2 25 z.toNatClampNeg) (M.2 6 d) nK - F_left2 M z (M.2 6 d) nL)

