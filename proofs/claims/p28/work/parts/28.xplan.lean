section XPL
variable {nR nD nK nG r0 : Nat} {M : m_S} {ad : Nat → Nat → Nat}
theorem x_within (hI : m_I nR nD nK nG M) (h : x_inj ad nR nD nK nG) {k g : Nat} (hk : k < nK) (hg : g < nG) (y : Int32) : (if x_kr ad M k = none then decide (x_kh ad M k = some (ad 3 g)) else !(decide (x_bit (M.2 12 k) &&& y = 0))) = k_near M (nI g) y k := by
  have hR := hI.1.1.2
  by_cases c : M.2 11 k = 0
  · have e1 : ¬ x_kr ad M k = none := by unfold x_kr; rw [if_pos c]; exact fun q => by cases q
    rw [if_neg e1]
    unfold k_near m_ho
    have hK := hI.1.2.2.1.2
    rw [nI_clamp (by omega), c]
    rcases (hI.2.2.2.1 k hk).2.1 with ⟨-, r, hr, e⟩ | ⟨z, -⟩ | ⟨z, -⟩
    · rw [e, m_has_tb (by omega)]
      have h0 : (x_bit (nI r) &&& y = 0) ↔ tb y r = false := by
        constructor
        · intro w
          have : tb (x_bit (nI r) &&& y) r = false := by rw [w, tb_0]
          rw [tb_and, tb_bit (by omega)] at this
          simpa using this
        · intro w
          refine tb_ext fun i hi => ?_
          rw [tb_and, tb_bit (by omega), tb_0]
          by_cases q : i = r
          · rw [q, w]; simp
          · simp [q]
      cases w : tb y r with
      | false => rw [decide_eq_true (h0.mpr w)]; simp
      | true => rw [decide_eq_false (fun z => by rw [h0.mp z] at w; cases w)]; simp
    · rw [z] at c; exact absurd c (by decide)
    · rw [z] at c; exact absurd c (by decide)
  · have e1 : x_kr ad M k = none := by unfold x_kr; rw [if_neg c]
    rw [if_pos e1]
    have h1 := x_kh_iff hI h hk hg
    unfold k_near
    rw [decide_eq_false c, Bool.false_and, Bool.false_or]
    cases w : m_ho M (nI g) (nI k) with
    | true => rw [decide_eq_true (h1.mpr w)]
    | false => rw [decide_eq_false (fun z => by rw [h1.mp z] at w; cases w)]
def x_cost (M : m_S) (S : Nat → Bool) (n : Nat) : Int32 := m_sum (fun d => if S d = true then M.2 7 d else 0) n
theorem x_cost_eq (hI : m_I nR nD nK nG M) (S : Nat → Bool) : x_cost M S nD = nI (k_s (fun x => if S x = true then k_u M x else 0) nD) := by
  unfold x_cost
  refine m_sum_s fun d hd => ?_
  obtain ⟨u, hu, e⟩ := hI.ut hd
  by_cases q : S d = true
  · rw [if_pos q, if_pos q]; unfold k_u; rw [e, nI_clamp (by omega)]
  · rw [if_neg q, if_neg q]; rfl
end XPL
def x_better (T : x_T) (wc wd : Int32) (way : Int64) : Bool := if wc = T.2.2.1 2 then (if wd = T.2.2.1 3 then decide (way < T.2.2.2.1) else decide (wd < T.2.2.1 3)) else decide (wc < T.2.2.1 2)
theorem lg_lt {x y : Int64} : lg_cmp x y < 0 ↔ x < y := by
  unfold lg_cmp
  by_cases h1 : x > y
  · rw [if_pos h1]
    have h2 : y.toInt < x.toInt := Int64.lt_iff_toInt_lt.mp h1
    constructor
    · intro h; exact absurd h (by decide)
    · intro h
      have := Int64.lt_iff_toInt_lt.mp h
      omega
  · rw [if_neg h1]
    by_cases h2 : x = y
    · rw [if_pos h2]
      constructor
      · intro h; exact absurd h (by decide)
      · intro h
        have := Int64.lt_iff_toInt_lt.mp h
        rw [h2] at this; omega
    · rw [if_neg h2]
      constructor
      · intro _
        rw [Int64.lt_iff_toInt_lt]
        have h3 : ¬ y.toInt < x.toInt := fun q => h1 (Int64.lt_iff_toInt_lt.mpr q)
        have h4 : ¬ x.toInt = y.toInt := fun q => h2 (Int64.toInt_inj.mp q)
        omega
      · intro _; decide

