theorem p_enc_lt : ∀ {ds : List Nat}, (∀ x, x ∈ ds → x < 16) → p_enc ds < 16 ^ ds.length
  | [], _ => Nat.one_pos
  | d :: ds, h => by
    have ih := p_enc_lt (ds := ds) (fun x hx => h x (List.mem_cons_of_mem _ hx))
    have hd := h d (List.mem_cons_self ..)
    show p_enc ds * 16 + d < 16 ^ (ds.length + 1)
    rw [Nat.pow_succ]
    omega
section STEP
variable {nR nD nK nG r0 : Nat} {M : m_S} {g : Int32} {T : x_T} {s e : Nat}
theorem p_RF.len (hI : m_I nR nD nK nG M) {ds : List Nat} (h : p_F (k_cA M nD nK r0 g) ds) : ds.length ≤ 10 := by
  have hok := h.ok k_hA
  rw [p_len_set (k_hH hI h) (fun x hx => (hok x hx).1)]
  refine Nat.le_trans (k_n_mono (q := fun x => !(x_op M x)) fun i _ q => ?_) (k_ci10 hI)
  rw [(hok i (p_mem_t.mp q)).2]; rfl
theorem d_enc (hI : m_I nR nD nK nG M) {ds : List Nat} (h : p_F (k_cA M nD nK r0 g) ds) : p_enc ds < 2 ^ 40 := by
  have hok := h.ok k_hA
  have h16 := hI.1.2.1.2
  have h1 := p_enc_lt (ds := ds) (fun x hx => by have := (hok x hx).1; omega)
  have h2 : 16 ^ ds.length ≤ 16 ^ 10 := Nat.pow_le_pow_right (by omega) (p_RF.len hI h)
  have h3 : (16 : Nat) ^ 10 = 2 ^ 40 := by decide
  omega
theorem d_K_any (hI : m_I nR nD nK nG M) {ds : List Nat} {i : Nat} (h : p_RF (k_cA M nD nK r0 g) (k_esc M nD r0) (k_out M nD r0) ds) (hs : d_n M nD ds = s) : d_K M nD nK r0 g (d_Q s i) s ds := by
  refine ⟨h, hs, fun d ds' q => Or.inl ?_⟩
  subst q
  have := d_up hI h.1.feas h.2.2.1
  have e2 : d_n M nD (d :: ds') = d_n M nD ds' ||| 2 ^ x_lc M d := rfl
  rw [← e2, hs] at this
  exact this
theorem d_K_next {t : Nat} {ds : List Nat} : d_K M nD nK r0 g (d_Q s (e + 1)) t ds ↔ d_K M nD nK r0 g (d_Q s e) t ds ∨ ∃ ds', ds = e :: ds' ∧ p_RF (k_cA M nD nK r0 g) (k_esc M nD r0) (k_out M nD r0) (e :: ds') ∧ d_n M nD ds' = s ∧ d_n M nD (e :: ds') = t := by
  constructor
  · intro h
    by_cases c : ∃ ds', ds = e :: ds' ∧ d_n M nD ds' = s
    · obtain ⟨ds', rfl, q⟩ := c
      exact Or.inr ⟨ds', rfl, h.1, q, h.2.1⟩
    · refine Or.inl (h.mono fun d ds' q w => ?_)
      rcases w with w | ⟨w1, w2⟩
      · exact Or.inl w
      · refine Or.inr ⟨w1, ?_⟩
        have : d ≠ e := fun z => c ⟨ds', by rw [q, z], w1⟩
        omega
  · rintro (h | ⟨ds', rfl, h1, h2, h3⟩)
    · exact h.mono fun d ds' _ w => by unfold d_Q at *; omega
    · refine ⟨h1, h3, fun d ds'' q => ?_⟩
      obtain ⟨q1, q2⟩ := List.cons.inj q
      subst q1; subst q2
      exact Or.inr ⟨h2, by omega⟩
/-- nothing comes through door e -/
theorem d_T.stay (h : d_T M nD nK r0 g (d_Q s e) T) (hn : ∀ ds', p_RF (k_cA M nD nK r0 g) (k_esc M nD r0) (k_out M nD r0) (e :: ds') → d_n M nD ds' = s → False) : d_T M nD nK r0 g (d_Q s (e + 1)) T :=
  h.iff fun t ds => ⟨fun q => d_K_next.mpr (Or.inl q), fun q => (d_K_next.mp q).resolve_right (fun ⟨ds', _, q1, q2, _⟩ => hn ds' q1 q2)⟩
theorem x_come_ne {t t' : Nat} {y : Int32} {w : Int64} (h : t ≠ t') : (x_come M nD T t' y w).2.2.2.2.1 t = T.2.2.2.2.1 t ∧ (x_come M nD T t' y w).2.2.2.2.2 t = T.2.2.2.2.2 t := by
  unfold x_come
  split
  · exact ⟨by simp [t_s, t_r, upd, h], by simp [t_s, t_r, vp_updL, h]⟩
  · split
    · exact ⟨rfl, by simp [t_s, vp_updL, h]⟩
    · exact ⟨rfl, rfl⟩
theorem i64_lt {a b : Nat} (ha : a < 2 ^ 40) (hb : b < 2 ^ 40) : Int64.ofNat a < Int64.ofNat b ↔ a < b := by
  rw [Int64.lt_iff_toInt_lt, Int64.toInt_ofNat_of_lt (by omega), Int64.toInt_ofNat_of_lt (by omega)]
  omega
theorem k_R_r0 {S : Nat → Bool} (h : r0 < 32) : tb (k_R M nD r0 S) r0 = true := (k_R_tb h).mpr (g_R.start rfl)
theorem k_R_ne0 {S : Nat → Bool} (h : r0 < 32) : ¬ k_R M nD r0 S = 0 := fun q => by
  have := k_R_r0 (M := M) (nD := nD) (S := S) h
  rw [q, tb_0] at this; cases this
/-- one door more is gone through -/
theorem d_T.add (hI : m_I nR nD nK nG M) (hr : r0 < 12) (h : d_T M nD nK r0 g (d_Q s e) T) {ds0 : List Nat} (h0 : d_n M nD ds0 = s) (hmin : ∀ ds', p_RF (k_cA M nD nK r0 g) (k_esc M nD r0) (k_out M nD r0) ds' → d_n M nD ds' = s → p_enc ds0 ≤ p_enc ds') (hRF : p_RF (k_cA M nD nK r0 g) (k_esc M nD r0) (k_out M nD r0) (e :: ds0)) {y : Int32} (hy0 : tb y r0 = true) (hy : ∀ r, tb y r = true → m_Rch M nD (fun d => x_op M d || p_mem (e :: ds0) d) (fun q => q = r0) r) : d_T M nD nK r0 g (d_Q s (e + 1)) (x_come M nD T (s ||| 2 ^ x_lc M e) y (Int64.ofNat (p_enc (e :: ds0)))) := by
  have hnum : d_n M nD (e :: ds0) = s ||| 2 ^ x_lc M e := by rw [← h0]; rfl
  have hrch := d_reach hI hRF.feas hy0 hy
  rw [hnum] at hrch
  intro t ht
  by_cases c : t = s ||| 2 ^ x_lc M e
  · subst c
    have hnew : d_K M nD nK r0 g (d_Q s (e + 1)) (s ||| 2 ^ x_lc M e) (e :: ds0) := d_K_next.mpr (Or.inr ⟨ds0, rfl, hRF, h0, hnum⟩)
    have hle : ∀ ds', p_RF (k_cA M nD nK r0 g) (k_esc M nD r0) (k_out M nD r0) (e :: ds') → d_n M nD ds' = s → p_enc (e :: ds0) ≤ p_enc (e :: ds') := fun ds' q1 q2 => by
      have := hmin ds' q1.1 q2
      show p_enc ds0 * 16 + e ≤ p_enc ds' * 16 + e
      omega
    rcases h _ ht with ⟨h1, h2⟩ | ⟨ds1, h1, h2, h3, h4⟩
    · refine Or.inr ⟨e :: ds0, hnew, ?_, ?_, fun ds' q => ?_⟩
      · unfold x_come; rw [if_pos h1]
        show upd T.2.2.2.2.1 _ _ _ = _
        simp only [upd, if_true]; exact hrch
      · unfold x_come; rw [if_pos h1]
        show vp_updL _ _ _ _ = _
        simp [vp_updL]
      · rcases d_K_next.mp q with w | ⟨ds'', rfl, w1, w2, -⟩
        · exact absurd w (h2 ds')
        · exact hle ds'' w1 w2
    · have hne : ¬ T.2.2.2.2.1 (s ||| 2 ^ x_lc M e) = 0 := by rw [h2]; exact k_R_ne0 (by omega)
      have hme : p_mem ds1 = p_mem (e :: ds0) := by rw [← d_C hI h1.1.feas, ← d_C hI hRF.feas, h1.2.1, hnum]
      have e1 := d_enc hI h1.1.feas
      have e2 := d_enc hI hRF.feas
      have hlt := i64_lt e2 e1
      by_cases w : p_enc (e :: ds0) < p_enc ds1
      · refine Or.inr ⟨e :: ds0, hnew, ?_, ?_, fun ds' q => ?_⟩
        · unfold x_come; rw [if_neg hne, h3, if_pos (hlt.mpr w)]
          show T.2.2.2.2.1 _ = _
          rw [h2, hme]
        · unfold x_come; rw [if_neg hne, h3, if_pos (hlt.mpr w)]
          show vp_updL _ _ _ _ = _
          simp [vp_updL]
        · rcases d_K_next.mp q with z | ⟨ds'', rfl, w1, w2, -⟩
          · have := h4 ds' z; omega
          · exact hle ds'' w1 w2
      · refine Or.inr ⟨ds1, d_K_next.mpr (Or.inl h1), ?_, ?_, fun ds' q => ?_⟩
        · unfold x_come; rw [if_neg hne, h3, if_neg (fun z => w (hlt.mp z))]; exact h2
        · unfold x_come; rw [if_neg hne, h3, if_neg (fun z => w (hlt.mp z))]; exact h3
        · rcases d_K_next.mp q with z | ⟨ds'', rfl, w1, w2, -⟩
          · exact h4 ds' z
          · have := hle ds'' w1 w2; omega
  · obtain ⟨c1, c2⟩ := x_come_ne (M := M) (nD := nD) (T := T) (y := y) (w := Int64.ofNat (p_enc (e :: ds0))) c
    have hK : ∀ ds, d_K M nD nK r0 g (d_Q s (e + 1)) t ds ↔ d_K M nD nK r0 g (d_Q s e) t ds := fun ds => ⟨fun q => (d_K_next.mp q).resolve_right (fun ⟨ds', _, _, q2, q3⟩ => c (by rw [← q3, ← q2]; rfl)), fun q => d_K_next.mpr (Or.inl q)⟩
    rw [c1, c2]
    rcases h t ht with ⟨h1, h2⟩ | ⟨ds1, h1, h2, h3, h4⟩
    · exact Or.inl ⟨h1, fun ds q => h2 ds ((hK ds).mp q)⟩
    · exact Or.inr ⟨ds1, (hK ds1).mpr h1, h2, h3, fun ds' q => h4 ds' ((hK ds').mp q)⟩
end STEP

