theorem x_arr_0 {T : x_T} {a : Nat → Nat} : x_arr T 0 a = T := by
  refine Prod.ext (funext fun i => ?_) rfl
  show (if i < 0 then nI (a i) else T.1 i) = T.1 i
  rw [if_neg (by omega)]
section XSP
variable {G : z_G} {ad : Nat → Nat → Nat} {nR nD nK nG : Nat} {M : m_S} {T : x_T} {H H1 : Heap} {y : Nat → Nat}
theorem x_R.fill {i : Nat} (h : x_R G ad nR nD nK nG M (x_arr T i y) H) {v : Int32} (hi : i < nR) (hU : z_U G (ad 0 i) (.inr (5, [.int (nI i), .int (x_bit (nI i)), .int v])) H H1) (hv : v = nI (y i)) : x_R G ad nR nD nK nG M (x_arr T (i + 1) y) H1 := by
  refine h.arr hi hU ?_ rfl (fun j hj hne => ?_)
  · rw [x_arr_at (by omega), hv]
  · show (if j < i + 1 then nI (y j) else T.1 j) = (if j < i then nI (y j) else T.1 j)
    by_cases c : j < i
    · rw [if_pos c, if_pos (by omega)]
    · rw [if_neg c, if_neg (by omega)]
theorem x_R.arrPut (h : x_R G ad nR nD nK nG M (x_arr T nR y) H) {r t : Nat} (hr : r < nR) (hU : z_U G (ad 0 r) (.inr (5, [.int (nI r), .int (x_bit (nI r)), .int (nI t)])) H H1) : x_R G ad nR nD nK nG M (x_arr T nR (w_u y r t)) H1 := by
  refine h.arr hr hU ?_ rfl (fun j hj hne => ?_)
  · rw [x_arr_at hr, w_u_at]
  · rw [x_arr_at hj, x_arr_at hj, w_u_ne hne]
theorem x_speed (hX : x_R G ad nR nD nK nG M (x_arr T nR y) H) (hI : m_I nR nD nK nG M) {i r r' : Nat} (hd : i < nD) (ho : x_op M i = true) (hr : r < nR) (hr' : r' < nR) (ha : ∀ q, y q ≤ 1000000) {v : Option Value} (hq : if (x_arr T nR y).1 r = 1000000 ∨ ¬ m_later ((x_arr T nR y).1 r) (x_ot M i) + M.2 5 i < (x_arr T nR y).1 r' then v = some (.int (z_b false)) ∧ H1 = H else v = some (.int (z_b true)) ∧ z_U G (ad 0 r') (.inr (5, [.int (nI r'), .int (x_bit (nI r')), .int (m_later ((x_arr T nR y).1 r) (x_ot M i) + M.2 5 i)])) H H1) : v = some (.int (z_b (w_s (m_f M) 1000000 y i r r'))) ∧ x_R G ad nR nD nK nG M (x_arr T nR (w_v (m_f M) 1000000 y i r r')) H1 := by
  have hs := m_step hI (r := r) (r' := r') hd ho (N := 1000000) (by omega) ha
  rw [show nI 1000000 = (1000000 : Int32) from rfl] at hs
  have h1 := ha r
  obtain ⟨e, hb⟩ := m_f_nI hI hd ho (t := y r) (by omega)
  rw [x_arr_at hr, x_arr_at hr', x_ot_eq ho] at hq
  unfold w_v
  by_cases c : w_s (m_f M) 1000000 y i r r' = true
  · rw [if_neg (fun q => hs.mp q c), e] at hq
    rw [if_pos c, c]
    exact ⟨hq.1, hX.arrPut hr' hq.2⟩
  · rw [if_pos (hs.mpr c)] at hq
    rw [if_neg c]
    have c2 : w_s (m_f M) 1000000 y i r r' = false := by simpa using c
    rw [c2, hq.2]
    exact ⟨hq.1, hX⟩
end XSP

