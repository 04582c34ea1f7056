section FL
variable {nR nD nK nG r0 : Nat} {M : m_S} {g : Int32} {T : x_T} {s : Nat}
theorem d_T.full (h : d_T M nD nK r0 g (d_Q s nD) T) : d_T M nD nK r0 g (d_Q (s + 1) 0) T :=
  h.iff fun t ds => ⟨fun q => q.mono fun d ds' _ w => by unfold d_Q at *; omega, fun q => ⟨q.1, q.2.1, fun d ds' e => by
    have w := q.2.2 d ds' e
    have h1 := q.1
    rw [e] at h1
    have h2 := (k_hA _ _ h1.2.2.1).1
    unfold d_Q at *
    omega⟩⟩
theorem d_T.skip (h : d_T M nD nK r0 g (d_Q s 0) T) (hn : ∀ e ds', p_RF (k_cA M nD nK r0 g) (k_esc M nD r0) (k_out M nD r0) (e :: ds') → d_n M nD ds' = s → False) : d_T M nD nK r0 g (d_Q (s + 1) 0) T :=
  h.iff fun t ds => ⟨fun q => q.mono fun d ds' _ w => by unfold d_Q at *; omega, fun q => ⟨q.1, q.2.1, fun d ds' e => by
    have w := q.2.2 d ds' e
    have h1 := q.1
    rw [e] at h1
    have h2 := fun z => hn d ds' h1 z
    unfold d_Q at *
    have : d_n M nD ds' ≠ s := fun z => h2 z
    omega⟩⟩
theorem d_T.keepT {Q : Nat → Nat → Prop} (h : d_T M nD nK r0 g Q T) {a b : Int32} {w : Int64} : d_T M nD nK r0 g Q (x_keep T a b w) := by
  have e : (x_keep T a b w).2.2.2.2 = T.2.2.2.2 := by unfold x_keep; split <;> rfl
  unfold d_T at *
  rw [e]; exact h
theorem x_keep_W {ad : Nat → Nat → Nat} {gg : Nat} {a b : Int32} {w : Int64} (h : x_W ad M nD gg T) : x_W ad M nD gg (x_keep T a b w) := by
  unfold x_keep
  split
  · exact h
  · exact h
theorem x_keep_4 {a b : Int32} {w : Int64} : (x_keep T a b w).2.2.1 4 = T.2.2.1 4 := by
  unfold x_keep
  split <;> rfl
theorem d_T.init (hI : m_I nR nD nK nG M) (hr : r0 < 12) (hz : ∀ t, t < 2 ^ x_lc M nD → T.2.2.2.2.1 t = 0) : d_T M nD nK r0 g (d_Q 0 0) (x_come M nD T (x_oN M nD) (x_bit (nI r0)) 0) := by
  have ho := x_oN_lt (M := M) nD
  have hnone : ∀ d ds', d_K M nD nK r0 g (d_Q 0 0) (d_n M nD (d :: ds')) (d :: ds') → False := fun d ds' q => by
    have w := q.2.2 d ds' rfl
    unfold d_Q at w
    omega
  have hb : tb (x_bit (nI r0)) r0 = true := by rw [tb_bit (by omega)]; simp
  have hrch := d_reach (nK := nK) (g := g) hI (ds := []) trivial hb (fun r q => by rw [tb_bit (by omega), decide_eq_true_eq] at q; exact g_R.start q)
  have e0 : d_n M nD [] = x_oN M nD := rfl
  rw [e0] at hrch
  intro t ht
  by_cases c : t = x_oN M nD
  · subst c
    refine Or.inr ⟨[], ⟨trivial, rfl, fun d ds' q => by cases q⟩, ?_, ?_, fun ds' _ => Nat.zero_le _⟩
    · unfold x_come; rw [if_pos (hz _ ht)]
      show upd T.2.2.2.2.1 _ _ _ = _
      simp only [upd, if_true]; exact hrch
    · unfold x_come; rw [if_pos (hz _ ht)]
      show vp_updL _ _ _ _ = _
      simp [vp_updL]; rfl
  · obtain ⟨c1, -⟩ := x_come_ne (M := M) (nD := nD) (T := T) (y := x_bit (nI r0)) (w := 0) c
    refine Or.inl ⟨by rw [c1]; exact hz t ht, fun ds q => ?_⟩
    cases ds with
    | nil => exact c q.2.1.symm
    | cons d ds' => exact hnone d ds' (q.2.1 ▸ q)
theorem d_B.init {T' : x_T} (h : T'.2.2.1 1 = 0) : d_B M nD nK r0 g 0 T' := Or.inl ⟨h, fun q _ _ c => absurd c (by omega)⟩
/-- the exit's bit among the rooms reached -/
theorem d_esc (hI : m_I nR nD nK nG M) {S : Nat → Bool} {q0 : Nat} (hq : q0 < nR) (he : M.1 1 = nI q0) : (k_R M nD r0 S &&& x_bit (nI q0) = 0) ↔ k_esc M nD r0 S = false := by
  have h12 := hI.1.1.2
  have e : k_esc M nD r0 S = tb (k_R M nD r0 S) q0 := by
    unfold k_esc
    rw [he, m_has_tb (by omega), decide_eq_false (nI_pos (by omega))]; rfl
  rw [e]
  constructor
  · intro h
    have w : tb (k_R M nD r0 S &&& x_bit (nI q0)) q0 = false := by rw [h, tb_0]
    rw [tb_and, tb_bit (by omega)] at w
    simpa using w
  · intro h
    refine tb_ext fun i hi => ?_
    rw [tb_and, tb_bit (by omega), tb_0]
    by_cases z : i = q0
    · rw [z, h]; rfl
    · simp [z]
theorem d_none (hI : m_I nR nD nK nG M) (he : M.1 1 = -6) : k_best M nD nK g = none := by
  refine p_best_none fun p hp => ?_
  have := hp.2
  unfold k_esc at this
  rw [he] at this
  exact absurd this (by simp)
theorem z_and0 (x : Int32) : 0 &&& x = 0 := by
  refine tb_ext fun i _ => ?_
  rw [tb_and, tb_0, Bool.false_and]
end FL

