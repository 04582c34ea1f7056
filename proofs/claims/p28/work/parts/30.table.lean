/-! the class's table of states -/
def x_oN (M : m_S) : Nat → Nat
  | 0 => 0
  | n + 1 => if x_op M n = true ∧ ¬ M.2 6 n < 0 then x_oN M n ||| 2 ^ x_lc M n else x_oN M n
theorem b_iff {a b : Bool} (h : a = true ↔ b = true) : a = b := by
  cases a <;> cases b <;> simp at h ⊢
section TAB
variable {nR nD nK nG r0 : Nat} {M : m_S} {g : Int32} {T : x_T}
theorem x_oN_bit : ∀ n, ∀ i, (x_oN M n).testBit i = true ↔ ∃ d, d < n ∧ x_op M d = true ∧ ¬ M.2 6 d < 0 ∧ i = x_lc M d
  | 0, i => by simp [x_oN]
  | n + 1, i => by
    have ih := x_oN_bit n i
    by_cases c : x_op M n = true ∧ ¬ M.2 6 n < 0
    · have e : x_oN M (n + 1) = x_oN M n ||| 2 ^ x_lc M n := if_pos c
      rw [e, Nat.testBit_or, Bool.or_eq_true, ih, testBit_pow, decide_eq_true_eq]
      constructor
      · rintro (⟨d, h1, h2⟩ | h)
        · exact ⟨d, by omega, h2⟩
        · exact ⟨n, by omega, c.1, c.2, h.symm⟩
      · rintro ⟨d, h1, h2, h3, h4⟩
        by_cases q : d = n
        · subst q; exact Or.inr h4.symm
        · exact Or.inl ⟨d, by omega, h2, h3, h4⟩
    · have e : x_oN M (n + 1) = x_oN M n := if_neg c
      rw [e, ih]
      constructor
      · rintro ⟨d, h1, h2⟩; exact ⟨d, by omega, h2⟩
      · rintro ⟨d, h1, h2, h3, h4⟩
        by_cases q : d = n
        · subst q; exact absurd ⟨h2, h3⟩ c
        · exact ⟨d, by omega, h2, h3, h4⟩
theorem x_oN_lt : ∀ n, x_oN M n < 2 ^ x_lc M n
  | 0 => Nat.one_pos
  | n + 1 => by
    have ih := x_oN_lt n
    by_cases c : x_op M n = true ∧ ¬ M.2 6 n < 0
    · have e : x_oN M (n + 1) = x_oN M n ||| 2 ^ x_lc M n := if_pos c
      have e2 : x_lc M (n + 1) = x_lc M n + 1 := by simp only [x_lc]; rw [if_neg c.2]
      rw [e, e2]
      exact or_lt (Nat.lt_of_lt_of_le ih (Nat.pow_le_pow_right (by omega) (by omega))) (by omega)
    · have e : x_oN M (n + 1) = x_oN M n := if_neg c
      rw [e]
      exact Nat.lt_of_lt_of_le ih (Nat.pow_le_pow_right (by omega) (x_lc_le (by omega)))
theorem x_ol_oN (hI : m_I nR nD nK nG M) : x_ol M nD = nI (x_oN M nD) := by
  have h10 := hI.lc
  have h1 := x_oN_lt (M := M) nD
  have h2 := pow10 h10
  refine tb_ext fun i hi => ?_
  rw [tb_nI (by omega) hi]
  have e1 := x_ol_tb (M := M) nD (by omega) i
  have e2 := x_oN_bit (M := M) nD i
  exact b_iff (e1.trans e2.symm)
theorem m_I.colored (hI : m_I nR nD nK nG M) {d : Nat} (hd : d < nD) (ho : x_op M d = false) : ¬ M.2 6 d < 0 := by
  obtain ⟨-, ⟨x, hx, e⟩, -⟩ := hI.closed hd ho
  rw [e]; exact nI_pos (by omega)
theorem k_X_lc (hI : m_I nR nD nK nG M) : k_X M nD (x_lc M nD) (x_oN M nD) (x_lc M) := by
  refine ⟨fun a b ha hb oa ob e => x_lc_inj (hI.colored ha oa) (hI.colored hb ob) e, fun d hd ho => ⟨?_, x_lc_lt hd (hI.colored hd ho)⟩, x_oN_lt nD, hI.lc⟩
  cases w : (x_oN M nD).testBit (x_lc M d) with
  | false => rfl
  | true =>
    obtain ⟨d', h1, h2, h3, h4⟩ := (x_oN_bit nD _).mp w
    rw [x_lc_inj (hI.colored hd ho) h3 h4, h2] at ho; cases ho
/-- the number of a list of locks -/
def d_n (M : m_S) (nD : Nat) (ds : List Nat) : Nat := p_num (x_oN M nD) (x_lc M) ds
theorem d_n_lt (hI : m_I nR nD nK nG M) {ds : List Nat} (h : p_F (k_cA M nD nK r0 g) ds) : d_n M nD ds < 2 ^ x_lc M nD := p_num_lt (k_X_lc hI) (h.ok k_hA)
theorem d_C (hI : m_I nR nD nK nG M) {ds : List Nat} (h : p_F (k_cA M nD nK r0 g) ds) : k_C M nD (x_lc M) (d_n M nD ds) = p_mem ds := k_C_num (k_X_lc hI) (h.ok k_hA)
theorem d_up (hI : m_I nR nD nK nG M) {ds : List Nat} {d : Nat} (h : p_F (k_cA M nD nK r0 g) ds) (hc : k_cA M nD nK r0 g (p_mem ds) d = true) : d_n M nD ds < d_n M nD ds ||| 2 ^ x_lc M d := by
  obtain ⟨h1, h2, h3⟩ := k_hA _ _ hc
  rw [← d_C hI h, k_C_t h1 h2] at h3
  exact lt_or h3
/-- which doors are passable in a state -/
theorem d_op (hI : m_I nR nD nK nG M) {ds : List Nat} (h : p_F (k_cA M nD nK r0 g) ds) {d : Nat} (hd : d < nD) : x_opL M (nI (d_n M nD ds)) d = (x_op M d || p_mem ds d) := by
  have h10 := hI.lcd hd
  have hl := d_n_lt hI h
  have hp := pow10 hI.lc
  have key : x_opL M (nI (d_n M nD ds)) d = true ↔ (x_op M d || p_mem ds d) = true := by
    rw [x_opL_iff (by omega), Bool.or_eq_true, tb_nI (by omega) (by omega)]
    cases o : x_op M d with
    | true =>
      by_cases c : M.2 6 d < 0
      · simp [c]
      · have : (d_n M nD ds).testBit (x_lc M d) = true := (p_num_bit _).mpr (Or.inl ((x_oN_bit nD _).mpr ⟨d, hd, o, c, rfl⟩))
        simp [this]
    | false =>
      have c := hI.colored hd o
      rw [← d_C hI h, k_C_t hd o]
      simp [c]
  exact b_iff key
/-- rooms that are reached from rooms that are reached -/
theorem d_reach (hI : m_I nR nD nK nG M) {ds : List Nat} (h : p_F (k_cA M nD nK r0 g) ds) {y : Int32} (h0 : tb y r0 = true) (hy : ∀ r, tb y r = true → m_Rch M nD (fun d => x_op M d || p_mem ds d) (fun q => q = r0) r) : g_bits (m_Rch M nD (x_opL M (nI (d_n M nD ds))) (fun q => tb y q = true)) 32 = k_R M nD r0 (p_mem ds) := by
  refine g_bits_congr fun i _ => ⟨fun w => ?_, fun w => ?_⟩
  · have w2 : m_Rch M nD (fun d => x_op M d || p_mem ds d) (fun q => tb y q = true) i := w.mono (fun _ q => q) (fun d hd q => by rw [d_op hI h hd] at q; exact q)
    exact g_R.trans hy w2
  · exact w.mono (fun x q => by subst q; exact h0) (fun d hd q => by rw [d_op hI h hd]; exact q)
/-- lists to the state t whose last step is allowed -/
def d_K (M : m_S) (nD nK r0 : Nat) (g : Int32) (Q : Nat → Nat → Prop) (t : Nat) (ds : List Nat) : Prop := p_RF (k_cA M nD nK r0 g) (k_esc M nD r0) (k_out M nD r0) ds ∧ d_n M nD ds = t ∧ ∀ d ds', ds = d :: ds' → Q (d_n M nD ds') d
def d_T (M : m_S) (nD nK r0 : Nat) (g : Int32) (Q : Nat → Nat → Prop) (T : x_T) : Prop := ∀ t, t < 2 ^ x_lc M nD → (T.2.2.2.2.1 t = 0 ∧ ∀ ds, ¬ d_K M nD nK r0 g Q t ds) ∨ ∃ ds, d_K M nD nK r0 g Q t ds ∧ T.2.2.2.2.1 t = k_R M nD r0 (p_mem ds) ∧ T.2.2.2.2.2 t = Int64.ofNat (p_enc ds) ∧ ∀ ds', d_K M nD nK r0 g Q t ds' → p_enc ds ≤ p_enc ds'
theorem d_K.mono {Q Q' : Nat → Nat → Prop} {t : Nat} {ds : List Nat} (h : d_K M nD nK r0 g Q t ds) (hQ : ∀ d ds', ds = d :: ds' → Q (d_n M nD ds') d → Q' (d_n M nD ds') d) : d_K M nD nK r0 g Q' t ds := ⟨h.1, h.2.1, fun d ds' e => hQ d ds' e (h.2.2 d ds' e)⟩
theorem d_T.iff {Q Q' : Nat → Nat → Prop} (h : d_T M nD nK r0 g Q T) (hQ : ∀ t ds, d_K M nD nK r0 g Q t ds ↔ d_K M nD nK r0 g Q' t ds) : d_T M nD nK r0 g Q' T := fun t ht => by
  rcases h t ht with ⟨h1, h2⟩ | ⟨ds, h1, h2, h3, h4⟩
  · exact Or.inl ⟨h1, fun ds q => h2 ds ((hQ t ds).mpr q)⟩
  · exact Or.inr ⟨ds, (hQ t ds).mp h1, h2, h3, fun ds' q => h4 ds' ((hQ t ds').mpr q)⟩
def d_Q (s i a d : Nat) : Prop := a < s ∨ (a = s ∧ d < i)
end TAB

