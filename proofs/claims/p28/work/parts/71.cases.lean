/-! the law's cases -/
section YCS
variable {p : Program} {l : Launch} {e : Env} {s : State} {m : MethodId} {args : Array Value} {below : List Frame} {meth : Method} {c : Code} {cells slots : Nat} {Q : State → Prop} {H : Heap} {nm : String} {G : z_G} {b ax e0 nR nD nK nG n w d k : Nat} {M : m_S} {t4 xg xh sv : Int32}
set_option maxHeartbeats 4000000 in
set_option maxRecDepth 100000 in
theorem yc_0 (C : z_C p s m args meth c cL_law "EscapeRoomsLaw" ret 17 nm G) (hS : y_S G s.heap.size ax nR nD nK nG M t4 H) (hI : m_I nR nD nK nG M) (hJ : y_J nD nK nG M) (hH : m_Hn M nG n) (ht : t4 = nI n) (hn1 : n ≤ 1000) (hR : 3 ≤ nR) (hw : w < nG) (hd : d < nD) (hk : k < nK) (hc : cells + 6 ≤ room_1.cells ∧ slots + 102 ≤ room_1.slots) (hn : ∀ bs st H', y_End G s.heap.size ax nR nD nK nG n bs st H' → z_Z p l e room_1 s m args below meth c (fun q => s.heap.size ≤ q) 17 (cells + 6) (slots + 102) Q H' 906 [(0, .ref b), (1, .ref ax), (2, .int (nI nR)), (3, .int bs), (4, .int st), (5, .int (nI e0))] []) : z_Z p l e room_1 s m args below meth c (fun q => s.heap.size ≤ q) 17 cells slots Q H 185 [(0, .ref b), (1, .ref ax), (2, .int (nI nR)), (3, .int (M.1 20)), (4, .int (M.1 21)), (5, .int (nI e0)), (6, .int xg), (7, .int xh), (8, .int sv), (9, .int (nI w)), (10, .int (nI d)), (11, .int (nI k))] [] := by
  obtain ⟨ad, hax, hX, hB⟩ := hS
  have hs := y_nsm hI
  refine z_aload_n C dL_law_185 rfl ?_
  refine z_iconst (v := 1) C dL_law_186 (by decide) ?_
  refine y_callR (As := [.int _]) C hX hax (fun T hT4 => c_X5_countR _ _ ad M T hI _ (by decide) (fun h => absurd h (by decide))) kc_X5_count wb_p434 ⟨by decide, by decide⟩ ⟨by omega, by omega⟩ (Nat.le_of_ble_eq_true rfl) dL_law_187 ?_
  rw [y_c1 hI]
  refine z_istore C dL_law_190 (by decide) ?_
  refine z_iload C dL_law_192 rfl ?_
  refine z_iload_n C dL_law_194 rfl ?_
  refine z_callSR (As := [.int _, .int _]) C (c_L_low _ _ _ _ (nI_ne0 (by omega) (by omega))) kc_L_low wb_p518 ⟨by decide, by decide⟩ trivial ⟨by omega, by omega⟩ (Nat.le_of_ble_eq_true rfl) dL_law_195 ?_
  obtain ⟨ra, hra, era⟩ := y_low_lt (v := xg) (n := nR) (by omega) (by omega)
  rw [era]
  refine z_istore C dL_law_198 (by decide) ?_
  refine z_iload C dL_law_200 rfl ?_
  refine z_iload_n C dL_law_202 rfl ?_
  refine z_callSR (As := [.int _, .int _]) C (c_L_low _ _ _ _ (nI_ne0 (by omega) (by omega))) kc_L_low wb_p518 ⟨by decide, by decide⟩ trivial ⟨by omega, by omega⟩ (Nat.le_of_ble_eq_true rfl) dL_law_203 ?_
  obtain ⟨rb, hrb, erb⟩ := y_low_lt (v := xh) (n := nR) (by omega) (by omega)
  rw [erb]
  refine z_istore C dL_law_206 (by decide) ?_
  refine z_iload C dL_law_208 rfl ?_
  refine z_bipush (v := 12) C dL_law_210 (by decide) ?_
  refine z_icmp_ge C 253 dL_law_212 (by decide) (fun h212 => ?_) (fun h212 => ?_)
  · refine z_goto C 906 dL_law_253 (by decide) ?_
    refine z_widen (k2 := cells + 6) (n2 := slots + 102) (by omega) (by omega) ?_
    first
      | exact z_sub [(0, .ref b), (1, .ref ax), (2, .int (nI nR)), (3, .int (M.1 20)), (4, .int (M.1 21)), (5, .int (nI e0))] ⟨rfl, rfl, rfl, rfl, rfl, rfl, trivial⟩ (hn _ _ _ (y_End.g ⟨ad, hax, hX, hB⟩ hI2 (y_N_addDoor hI hJ) ((lw_hh hI (Nat.le_refl _) ht (hn_addDoor hH).1 (hn_addDoor hH).2)) (b_addDoor (by omega)) (b_addDoor (by omega))))
      | exact z_sub [(0, .ref b), (1, .ref ax), (2, .int (nI nR)), (3, .int (M.1 20)), (4, .int (M.1 21)), (5, .int (nI e0))] ⟨rfl, rfl, rfl, rfl, rfl, rfl, trivial⟩ (hn _ _ _ (y_End.g ⟨ad, hax, hX, hB⟩ hI (y_Nx.of hI hJ) (lw_hh hI (Nat.le_refl _) ht hH rfl) rfl rfl))
  · have hD12 : nD < 12 := (nI_ltI (b := 12) (by omega) (by omega)).mp h212
    refine z_aload_n C dL_law_215 rfl ?_
    refine z_iload C dL_law_216 rfl ?_
    refine z_iload C dL_law_218 rfl ?_
    refine z_iconst (v := 1) C dL_law_220 (by decide) ?_
    refine z_iload C dL_law_221 rfl ?_
    refine z_iconst (v := 4) C dL_law_223 (by decide) ?_
    refine z_ishr C dL_law_224 ?_
    refine z_bipush (v := 30) C dL_law_225 (by decide) ?_
    refine z_callSR (As := [.int _, .int _]) C (c_L_low _ _ _ _ (by decide)) kc_L_low wb_p518 ⟨by decide, by decide⟩ trivial ⟨by omega, by omega⟩ (Nat.le_of_ble_eq_true rfl) dL_law_227 ?_
    obtain ⟨jw, hjw, ejw⟩ := y_low_lt (v := xh >>> (4 &&& 31)) (n := 30) (by omega) (by omega)
    rw [show y_low (xh >>> (4 &&& 31)) 30 = nI jw from ejw]
    refine z_iadd C dL_law_230 ?_
    refine z_eqst (st2 := [.int (nI (1 + jw)), .int (nI rb), .int (nI ra), .ref ax]) (by rw [show nI (1 + jw) = 1 + nI jw from (nI_add 1 jw).symm]) ?_
    refine y_callG (As := [.int _, .int _, .int _]) C hX hax hB (fun T _ hO => c_X5_addDoor _ _ ad M T hI _ hO (nI ra) (nI rb) (nI (1 + jw))) (fun q hq => hq) kc_X5_addDoor wb_p234 ⟨by decide, by decide⟩ ⟨by omega, by omega⟩ (Nat.le_of_ble_eq_true rfl) dL_law_231 (fun H231 ad nR2 nD2 nK2 nG2 hax hX hI2 hB => ?_)
    refine z_iload C dL_law_234 rfl ?_
    refine z_iload C dL_law_236 rfl ?_
    refine z_icmp_ne C 246 dL_law_238 (by decide) (fun h238 => ?_) (fun h238 => ?_)
    · refine z_iload C dL_law_246 rfl ?_
      refine z_icmp_eq C 253 dL_law_248 (by decide) (fun h248 => ?_) (fun h248 => ?_)
      · refine z_goto C 906 dL_law_253 (by decide) ?_
        refine z_widen (k2 := cells + 6) (n2 := slots + 102) (by omega) (by omega) ?_
        first
          | exact z_sub [(0, .ref b), (1, .ref ax), (2, .int (nI nR)), (3, .int (M.1 20)), (4, .int (M.1 21)), (5, .int (nI e0))] ⟨rfl, rfl, rfl, rfl, rfl, rfl, trivial⟩ (hn _ _ _ (y_End.g ⟨ad, hax, hX, hB⟩ hI2 (y_N_addDoor hI hJ) ((lw_hh hI (Nat.le_refl _) ht (hn_addDoor hH).1 (hn_addDoor hH).2)) (b_addDoor (by omega)) (b_addDoor (by omega))))
          | exact z_sub [(0, .ref b), (1, .ref ax), (2, .int (nI nR)), (3, .int (M.1 20)), (4, .int (M.1 21)), (5, .int (nI e0))] ⟨rfl, rfl, rfl, rfl, rfl, rfl, trivial⟩ (hn _ _ _ (y_End.g ⟨ad, hax, hX, hB⟩ hI (y_Nx.of hI hJ) (lw_hh hI (Nat.le_refl _) ht hH rfl) rfl rfl))
      · first | exact absurd (by rw [show ra = rb from (nI_inj (by omega) (by omega)).mp h238, y_ad1 hI hrb]) h248 | exact absurd (by rw [y_ad2 hI hra hrb (fun q => h238 (by rw [q])) (y_inW (n := 30) hjw (by omega)) (by omega)]; exact y_pd0 hI) h248
    · refine z_bipush (v := (-2)) C dL_law_241 (by decide) ?_
      refine z_goto C 248 dL_law_243 (by decide) ?_
      refine z_icmp_eq C 253 dL_law_248 (by decide) (fun h248 => ?_) (fun h248 => ?_)
      · refine z_goto C 906 dL_law_253 (by decide) ?_
        refine z_widen (k2 := cells + 6) (n2 := slots + 102) (by omega) (by omega) ?_
        first
          | exact z_sub [(0, .ref b), (1, .ref ax), (2, .int (nI nR)), (3, .int (M.1 20)), (4, .int (M.1 21)), (5, .int (nI e0))] ⟨rfl, rfl, rfl, rfl, rfl, rfl, trivial⟩ (hn _ _ _ (y_End.g ⟨ad, hax, hX, hB⟩ hI2 (y_N_addDoor hI hJ) ((lw_hh hI (Nat.le_refl _) ht (hn_addDoor hH).1 (hn_addDoor hH).2)) (b_addDoor (by omega)) (b_addDoor (by omega))))
          | exact z_sub [(0, .ref b), (1, .ref ax), (2, .int (nI nR)), (3, .int (M.1 20)), (4, .int (M.1 21)), (5, .int (nI e0))] ⟨rfl, rfl, rfl, rfl, rfl, rfl, trivial⟩ (hn _ _ _ (y_End.g ⟨ad, hax, hX, hB⟩ hI (y_Nx.of hI hJ) (lw_hh hI (Nat.le_refl _) ht hH rfl) rfl rfl))
      · first | exact absurd (by rw [show ra = rb from (nI_inj (by omega) (by omega)).mp h238, y_ad1 hI hrb]) h248 | exact absurd (by rw [y_ad2 hI hra hrb (fun q => h238 (by rw [q])) (y_inW (n := 30) hjw (by omega)) (by omega)]; exact y_pd0 hI) h248
set_option maxHeartbeats 4000000 in
set_option maxRecDepth 100000 in
theorem yc_1 (C : z_C p s m args meth c cL_law "EscapeRoomsLaw" ret 17 nm G) (hS : y_S G s.heap.size ax nR nD nK nG M t4 H) (hI : m_I nR nD nK nG M) (hJ : y_J nD nK nG M) (hH : m_Hn M nG n) (ht : t4 = nI n) (hn1 : n ≤ 1000) (hR : 3 ≤ nR) (hw : w < nG) (hd : d < nD) (hk : k < nK) (hc : cells + 6 ≤ room_1.cells ∧ slots + 102 ≤ room_1.slots) (hn : ∀ bs st H', y_End G s.heap.size ax nR nD nK nG n bs st H' → z_Z p l e room_1 s m args below meth c (fun q => s.heap.size ≤ q) 17 (cells + 6) (slots + 102) Q H' 906 [(0, .ref b), (1, .ref ax), (2, .int (nI nR)), (3, .int bs), (4, .int st), (5, .int (nI e0))] []) : z_Z p l e room_1 s m args below meth c (fun q => s.heap.size ≤ q) 17 cells slots Q H 262 [(0, .ref b), (1, .ref ax), (2, .int (nI nR)), (3, .int (M.1 20)), (4, .int (M.1 21)), (5, .int (nI e0)), (6, .int xg), (7, .int xh), (8, .int sv), (9, .int (nI w)), (10, .int (nI d)), (11, .int (nI k))] [] := by
  obtain ⟨ad, hax, hX, hB⟩ := hS
  have hs := y_nsm hI
  refine z_aload_n C dL_law_262 rfl ?_
  refine z_iconst (v := 1) C dL_law_263 (by decide) ?_
  refine y_callR (As := [.int _]) C hX hax (fun T hT4 => c_X5_countR _ _ ad M T hI _ (by decide) (fun h => absurd h (by decide))) kc_X5_count wb_p434 ⟨by decide, by decide⟩ ⟨by omega, by omega⟩ (Nat.le_of_ble_eq_true rfl) dL_law_264 ?_
  rw [y_c1 hI]
  refine z_istore C dL_law_267 (by decide) ?_
  refine z_iload C dL_law_269 rfl ?_
  refine z_iload_n C dL_law_271 rfl ?_
  refine z_callSR (As := [.int _, .int _]) C (c_L_low _ _ _ _ (nI_ne0 (by omega) (by omega))) kc_L_low wb_p518 ⟨by decide, by decide⟩ trivial ⟨by omega, by omega⟩ (Nat.le_of_ble_eq_true rfl) dL_law_272 ?_
  obtain ⟨ra, hra, era⟩ := y_low_lt (v := xg) (n := nR) (by omega) (by omega)
  rw [era]
  refine z_istore C dL_law_275 (by decide) ?_
  refine z_iload C dL_law_277 rfl ?_
  refine z_iload_n C dL_law_279 rfl ?_
  refine z_callSR (As := [.int _, .int _]) C (c_L_low _ _ _ _ (nI_ne0 (by omega) (by omega))) kc_L_low wb_p518 ⟨by decide, by decide⟩ trivial ⟨by omega, by omega⟩ (Nat.le_of_ble_eq_true rfl) dL_law_280 ?_
  obtain ⟨rb, hrb, erb⟩ := y_low_lt (v := xh) (n := nR) (by omega) (by omega)
  rw [erb]
  refine z_istore C dL_law_283 (by decide) ?_
  refine z_aload_n C dL_law_285 rfl ?_
  refine z_iconst (v := 5) C dL_law_286 (by decide) ?_
  refine y_callR (As := [.int _]) C hX hax (fun T hT4 => c_X5_countR _ _ ad M T hI _ (by decide) (fun h => absurd h (by decide))) kc_X5_count wb_p434 ⟨by decide, by decide⟩ ⟨by omega, by omega⟩ (Nat.le_of_ble_eq_true rfl) dL_law_287 ?_
  rw [y_c5 hI, y_unlN]
  refine z_istore C dL_law_290 (by decide) ?_
  refine z_iconst (v := 0) C dL_law_292 (by decide) ?_
  refine z_istore C dL_law_293 (by decide) ?_
  refine z_loopN (fun i => [(0, .ref b), (1, .ref ax), (2, .int (nI nR)), (3, .int (M.1 20)), (4, .int (M.1 21)), (5, .int (nI e0)), (6, .int xg), (7, .int xh), (8, .int sv), (9, .int (nI w)), (10, .int (nI d)), (11, .int (nI k)), (12, .int (nI nD)), (13, .int (nI ra)), (14, .int (nI rb)), (15, .int (nI (k_n (y_lk M) nD + k_s (fun c => k_n (y_cl M c) nD) i))), (16, .int (nI i))]) 6 ⟨rfl, rfl, rfl, rfl, rfl, rfl, rfl, rfl, rfl, rfl, rfl, rfl, rfl, rfl, rfl, rfl, rfl, trivial⟩ (fun i hi1 ihI => ?_)
  refine z_iload C dL_law_295 rfl ?_
  refine z_bipush (v := 6) C dL_law_297 (by decide) ?_
  refine z_icmp_ge C 320 dL_law_299 (by decide) (fun h299 => ?_) (fun h299 => ?_)
  · have hi6 : i = 6 := z_ge (n := 6) rfl (by omega) hi1 h299
    subst hi6
    refine z_iload C dL_law_320 rfl ?_
    refine z_bipush (v := 6) C dL_law_322 (by decide) ?_
    refine z_icmp_ge C 392 dL_law_324 (by decide) (fun h324 => ?_) (fun h324 => ?_)
    · refine z_goto C 906 dL_law_392 (by decide) ?_
      refine z_widen (k2 := cells + 6) (n2 := slots + 102) (by omega) (by omega) ?_
      first
        | exact z_sub [(0, .ref b), (1, .ref ax), (2, .int (nI nR)), (3, .int (M.1 20)), (4, .int (M.1 21)), (5, .int (nI e0))] ⟨rfl, rfl, rfl, rfl, rfl, rfl, trivial⟩ (hn _ _ _ (y_End.g ⟨ad, hax, hX, hB⟩ hI2 (y_N_addLock hI hJ) ((lw_hh hI (Nat.le_refl _) ht (hn_addLock hH).1 (hn_addLock hH).2)) (b_addLock (by omega)) (b_addLock (by omega))))
        | exact z_sub [(0, .ref b), (1, .ref ax), (2, .int (nI nR)), (3, .int (M.1 20)), (4, .int (M.1 21)), (5, .int (nI e0))] ⟨rfl, rfl, rfl, rfl, rfl, rfl, trivial⟩ (hn _ _ _ (y_End.g ⟨ad, hax, hX, hB⟩ hI (y_Nx.of hI hJ) (lw_hh hI (Nat.le_refl _) ht hH rfl) rfl rfl))
    · refine z_iload C dL_law_327 rfl ?_
      refine z_bipush (v := 12) C dL_law_329 (by decide) ?_
      refine z_icmp_ge C 392 dL_law_331 (by decide) (fun h331 => ?_) (fun h331 => ?_)
      · refine z_goto C 906 dL_law_392 (by decide) ?_
        refine z_widen (k2 := cells + 6) (n2 := slots + 102) (by omega) (by omega) ?_
        first
          | exact z_sub [(0, .ref b), (1, .ref ax), (2, .int (nI nR)), (3, .int (M.1 20)), (4, .int (M.1 21)), (5, .int (nI e0))] ⟨rfl, rfl, rfl, rfl, rfl, rfl, trivial⟩ (hn _ _ _ (y_End.g ⟨ad, hax, hX, hB⟩ hI2 (y_N_addLock hI hJ) ((lw_hh hI (Nat.le_refl _) ht (hn_addLock hH).1 (hn_addLock hH).2)) (b_addLock (by omega)) (b_addLock (by omega))))
          | exact z_sub [(0, .ref b), (1, .ref ax), (2, .int (nI nR)), (3, .int (M.1 20)), (4, .int (M.1 21)), (5, .int (nI e0))] ⟨rfl, rfl, rfl, rfl, rfl, rfl, trivial⟩ (hn _ _ _ (y_End.g ⟨ad, hax, hX, hB⟩ hI (y_Nx.of hI hJ) (lw_hh hI (Nat.le_refl _) ht hH rfl) rfl rfl))
      · have hD12 : nD < 12 := (nI_ltI (b := 12) (by omega) (by omega)).mp h331
        refine z_aload_n C dL_law_334 rfl ?_
        refine z_iload C dL_law_335 rfl ?_
        refine z_iload C dL_law_337 rfl ?_
        refine z_iconst (v := 1) C dL_law_339 (by decide) ?_
        refine z_iload C dL_law_340 rfl ?_
        refine z_iconst (v := 4) C dL_law_342 (by decide) ?_
        refine z_ishr C dL_law_343 ?_
        refine z_bipush (v := 30) C dL_law_344 (by decide) ?_
        refine z_callSR (As := [.int _, .int _]) C (c_L_low _ _ _ _ (by decide)) kc_L_low wb_p518 ⟨by decide, by decide⟩ trivial ⟨by omega, by omega⟩ (Nat.le_of_ble_eq_true rfl) dL_law_346 ?_
        obtain ⟨jw, hjw, ejw⟩ := y_low_lt (v := xh >>> (4 &&& 31)) (n := 30) (by omega) (by omega)
        rw [show y_low (xh >>> (4 &&& 31)) 30 = nI jw from ejw]
        refine z_iadd C dL_law_349 ?_
        refine z_eqst (st2 := [.int (nI (1 + jw)), .int (nI rb), .int (nI ra), .ref ax]) (by rw [show nI (1 + jw) = 1 + nI jw from (nI_add 1 jw).symm]) ?_
        refine z_iload C dL_law_350 rfl ?_
        refine z_iconst (v := 4) C dL_law_352 (by decide) ?_
        refine z_ishr C dL_law_353 ?_
        refine z_iconst (v := 3) C dL_law_354 (by decide) ?_
        refine z_callSR (As := [.int _, .int _]) C (c_L_low _ _ _ _ (by decide)) kc_L_low wb_p518 ⟨by decide, by decide⟩ trivial ⟨by omega, by omega⟩ (Nat.le_of_ble_eq_true rfl) dL_law_355 ?_
        obtain ⟨jc, hjc, ejc⟩ := y_low_lt (v := xg >>> (4 &&& 31)) (n := 3) (by omega) (by omega)
        rw [show y_low (xg >>> (4 &&& 31)) 3 = nI jc from ejc]
        refine z_iconst (v := 1) C dL_law_358 (by decide) ?_
        refine z_iload C dL_law_359 rfl ?_
        refine z_bipush (v := 9) C dL_law_361 (by decide) ?_
        refine z_ishr C dL_law_363 ?_
        refine z_bipush (v := 60) C dL_law_364 (by decide) ?_
        refine z_callSR (As := [.int _, .int _]) C (c_L_low _ _ _ _ (by decide)) kc_L_low wb_p518 ⟨by decide, by decide⟩ trivial ⟨by omega, by omega⟩ (Nat.le_of_ble_eq_true rfl) dL_law_366 ?_
        obtain ⟨ju, hju, eju⟩ := y_low_lt (v := xh >>> (9 &&& 31)) (n := 60) (by omega) (by omega)
        rw [show y_low (xh >>> (9 &&& 31)) 60 = nI ju from eju]
        refine z_iadd C dL_law_369 ?_
        refine z_eqst (st2 := [.int (nI (1 + ju)), .int (nI jc), .int (nI (1 + jw)), .int (nI rb), .int (nI ra), .ref ax]) (by rw [show nI (1 + ju) = 1 + nI ju from (nI_add 1 ju).symm]) ?_
        refine y_callG (As := [.int _, .int _, .int _, .int _, .int _]) C hX hax hB (fun T _ hO => c_X5_addLock _ _ ad M T hI _ hO (nI ra) (nI rb) (nI (1 + jw)) (nI jc) (nI (1 + ju))) (fun q hq => hq) kc_X5_addLock wb_p303 ⟨by decide, by decide⟩ ⟨by omega, by omega⟩ (Nat.le_of_ble_eq_true rfl) dL_law_370 (fun H370 ad nR2 nD2 nK2 nG2 hax hX hI2 hB => ?_)
        refine z_iload C dL_law_373 rfl ?_
        refine z_iload C dL_law_375 rfl ?_
        refine z_icmp_ne C 385 dL_law_377 (by decide) (fun h377 => ?_) (fun h377 => ?_)
        · refine z_iload C dL_law_385 rfl ?_
          refine z_icmp_eq C 392 dL_law_387 (by decide) (fun h387 => ?_) (fun h387 => ?_)
          · refine z_goto C 906 dL_law_392 (by decide) ?_
            refine z_widen (k2 := cells + 6) (n2 := slots + 102) (by omega) (by omega) ?_
            first
              | exact z_sub [(0, .ref b), (1, .ref ax), (2, .int (nI nR)), (3, .int (M.1 20)), (4, .int (M.1 21)), (5, .int (nI e0))] ⟨rfl, rfl, rfl, rfl, rfl, rfl, trivial⟩ (hn _ _ _ (y_End.g ⟨ad, hax, hX, hB⟩ hI2 (y_N_addLock hI hJ) ((lw_hh hI (Nat.le_refl _) ht (hn_addLock hH).1 (hn_addLock hH).2)) (b_addLock (by omega)) (b_addLock (by omega))))
              | exact z_sub [(0, .ref b), (1, .ref ax), (2, .int (nI nR)), (3, .int (M.1 20)), (4, .int (M.1 21)), (5, .int (nI e0))] ⟨rfl, rfl, rfl, rfl, rfl, rfl, trivial⟩ (hn _ _ _ (y_End.g ⟨ad, hax, hX, hB⟩ hI (y_Nx.of hI hJ) (lw_hh hI (Nat.le_refl _) ht hH rfl) rfl rfl))
          · first | exact absurd (by rw [show ra = rb from (nI_inj (by omega) (by omega)).mp h377, y_al1 hI hrb]) h387 | exact absurd (by rw [y_al2 hI hra hrb (fun q => h377 (by rw [q])) (y_inW (n := 30) hjw (by omega)) (y_in0 (n := 5) (by omega) (by omega)) (y_inW (n := 60) hju (by omega)) (by omega) (y_few hI h324)]; exact y_pd0 hI) h387
        · refine z_bipush (v := (-2)) C dL_law_380 (by decide) ?_
          refine z_goto C 387 dL_law_382 (by decide) ?_
          refine z_icmp_eq C 392 dL_law_387 (by decide) (fun h387 => ?_) (fun h387 => ?_)
          · refine z_goto C 906 dL_law_392 (by decide) ?_
            refine z_widen (k2 := cells + 6) (n2 := slots + 102) (by omega) (by omega) ?_
            first
              | exact z_sub [(0, .ref b), (1, .ref ax), (2, .int (nI nR)), (3, .int (M.1 20)), (4, .int (M.1 21)), (5, .int (nI e0))] ⟨rfl, rfl, rfl, rfl, rfl, rfl, trivial⟩ (hn _ _ _ (y_End.g ⟨ad, hax, hX, hB⟩ hI2 (y_N_addLock hI hJ) ((lw_hh hI (Nat.le_refl _) ht (hn_addLock hH).1 (hn_addLock hH).2)) (b_addLock (by omega)) (b_addLock (by omega))))
              | exact z_sub [(0, .ref b), (1, .ref ax), (2, .int (nI nR)), (3, .int (M.1 20)), (4, .int (M.1 21)), (5, .int (nI e0))] ⟨rfl, rfl, rfl, rfl, rfl, rfl, trivial⟩ (hn _ _ _ (y_End.g ⟨ad, hax, hX, hB⟩ hI (y_Nx.of hI hJ) (lw_hh hI (Nat.le_refl _) ht hH rfl) rfl rfl))
          · first | exact absurd (by rw [show ra = rb from (nI_inj (by omega) (by omega)).mp h377, y_al1 hI hrb]) h387 | exact absurd (by rw [y_al2 hI hra hrb (fun q => h377 (by rw [q])) (y_inW (n := 30) hjw (by omega)) (y_in0 (n := 5) (by omega) (by omega)) (y_inW (n := 60) hju (by omega)) (by omega) (y_few hI h324)]; exact y_pd0 hI) h387
  · have hi : i < 6 := z_lt (n := 6) rfl (by omega) hi1 h299
    refine z_iload C dL_law_302 rfl ?_
    refine z_aload_n C dL_law_304 rfl ?_
    refine z_iload C dL_law_305 rfl ?_
    refine z_iconst (v := 0) C dL_law_307 (by decide) ?_
    refine y_callR (As := [.int _, .int _]) C hX hax (fun T _ => c_X5_color _ _ ad M T hI _ _) kc_X5_color wb_p418 ⟨by decide, by decide⟩ ⟨by omega, by omega⟩ (Nat.le_of_ble_eq_true rfl) dL_law_308 ?_
    rw [y_clN hi]
    refine z_iadd C dL_law_311 ?_
    refine z_eqst (st2 := [.int (nI (k_n (y_lk M) nD + k_s (fun c => k_n (y_cl M c) nD) (i + 1)))]) (by rw [y_lkS]) ?_
    refine z_istore C dL_law_312 (by decide) ?_
    refine z_iinc C dL_law_314 rfl rfl (by decide) ?_
    refine z_goto C 295 dL_law_317 (by decide) ?_
    exact ihI hi _ ⟨rfl, rfl, rfl, rfl, rfl, rfl, rfl, rfl, rfl, rfl, rfl, rfl, rfl, rfl, rfl, rfl, z_lgI rfl (z_inc i), trivial⟩
set_option maxHeartbeats 4000000 in
set_option maxRecDepth 100000 in
theorem yc_3 (C : z_C p s m args meth c cL_law "EscapeRoomsLaw" ret 17 nm G) (hS : y_S G s.heap.size ax nR nD nK nG M t4 H) (hI : m_I nR nD nK nG M) (hJ : y_J nD nK nG M) (hH : m_Hn M nG n) (ht : t4 = nI n) (hn1 : n ≤ 1000) (hR : 3 ≤ nR) (hw : w < nG) (hd : d < nD) (hk : k < nK) (hc : cells + 6 ≤ room_1.cells ∧ slots + 102 ≤ room_1.slots) (hn : ∀ bs st H', y_End G s.heap.size ax nR nD nK nG n bs st H' → z_Z p l e room_1 s m args below meth c (fun q => s.heap.size ≤ q) 17 (cells + 6) (slots + 102) Q H' 906 [(0, .ref b), (1, .ref ax), (2, .int (nI nR)), (3, .int bs), (4, .int st), (5, .int (nI e0))] []) : z_Z p l e room_1 s m args below meth c (fun q => s.heap.size ≤ q) 17 cells slots Q H 401 [(0, .ref b), (1, .ref ax), (2, .int (nI nR)), (3, .int (M.1 20)), (4, .int (M.1 21)), (5, .int (nI e0)), (6, .int xg), (7, .int xh), (8, .int sv), (9, .int (nI w)), (10, .int (nI d)), (11, .int (nI k))] [] := by
  obtain ⟨ad, hax, hX, hB⟩ := hS
  have hs := y_nsm hI
  refine z_aload_n C dL_law_401 rfl ?_
  refine z_iconst (v := 2) C dL_law_402 (by decide) ?_
  refine y_callR (As := [.int _]) C hX hax (fun T hT4 => c_X5_countR _ _ ad M T hI _ (by decide) (fun h => absurd h (by decide))) kc_X5_count wb_p434 ⟨by decide, by decide⟩ ⟨by omega, by omega⟩ (Nat.le_of_ble_eq_true rfl) dL_law_403 ?_
  rw [y_c2 hI]
  refine z_istore C dL_law_406 (by decide) ?_
  refine z_aload_n C dL_law_408 rfl ?_
  refine z_iload C dL_law_409 rfl ?_
  refine z_iload_n C dL_law_411 rfl ?_
  refine z_callSR (As := [.int _, .int _]) C (c_L_low _ _ _ _ (nI_ne0 (by omega) (by omega))) kc_L_low wb_p518 ⟨by decide, by decide⟩ trivial ⟨by omega, by omega⟩ (Nat.le_of_ble_eq_true rfl) dL_law_412 ?_
  obtain ⟨r, hr, er⟩ := y_low_lt (v := xg) (n := nR) (by omega) (by omega)
  rw [er]
  refine z_iload C dL_law_415 rfl ?_
  refine z_iconst (v := 3) C dL_law_417 (by decide) ?_
  refine z_callSR (As := [.int _, .int _]) C (c_L_low _ _ _ _ (by decide)) kc_L_low wb_p518 ⟨by decide, by decide⟩ trivial ⟨by omega, by omega⟩ (Nat.le_of_ble_eq_true rfl) dL_law_418 ?_
  obtain ⟨x, hx, ex⟩ := y_low_lt (v := xh) (n := 3) (by omega) (by omega)
  rw [show y_low (xh) 3 = nI x from ex]
  refine y_callG (As := [.int _, .int _]) C hX hax hB (fun T _ hO => c_X5_addKey _ _ ad M T hI _ hO (nI r) (nI x)) (fun q hq => hq) kc_X5_addKey wb_p314 ⟨by decide, by decide⟩ ⟨by omega, by omega⟩ (Nat.le_of_ble_eq_true rfl) dL_law_421 (fun H421 ad nR2 nD2 nK2 nG2 hax hX hI2 hB => ?_)
  refine z_iload C dL_law_424 rfl ?_
  refine z_bipush (v := 16) C dL_law_426 (by decide) ?_
  refine z_icmp_ne C 436 dL_law_428 (by decide) (fun h428 => ?_) (fun h428 => ?_)
  · refine z_iload C dL_law_436 rfl ?_
    refine z_icmp_eq C 443 dL_law_438 (by decide) (fun h438 => ?_) (fun h438 => ?_)
    · refine z_goto C 906 dL_law_443 (by decide) ?_
      refine z_widen (k2 := cells + 6) (n2 := slots + 102) (by omega) (by omega) ?_
      first
        | exact z_sub [(0, .ref b), (1, .ref ax), (2, .int (nI nR)), (3, .int (M.1 20)), (4, .int (M.1 21)), (5, .int (nI e0))] ⟨rfl, rfl, rfl, rfl, rfl, rfl, trivial⟩ (hn _ _ _ (y_End.g ⟨ad, hax, hX, hB⟩ hI2 (y_N_addKey hI hJ) ((lw_hh hI (Nat.le_refl _) ht (hn_addKey hH).1 (hn_addKey hH).2)) (b_addKey (by omega)) (b_addKey (by omega))))
    · first | exact absurd (by rw [y_ak1 hI hr (y_in0 (n := 5) (by omega) (by omega)) h428]) h438 | exact absurd (y_ak2 hI hr (y_in0 (n := 5) (by omega) (by omega)) h428).1 h438
  · refine z_bipush (v := (-3)) C dL_law_431 (by decide) ?_
    refine z_goto C 438 dL_law_433 (by decide) ?_
    refine z_icmp_eq C 443 dL_law_438 (by decide) (fun h438 => ?_) (fun h438 => ?_)
    · refine z_goto C 906 dL_law_443 (by decide) ?_
      refine z_widen (k2 := cells + 6) (n2 := slots + 102) (by omega) (by omega) ?_
      first
        | exact z_sub [(0, .ref b), (1, .ref ax), (2, .int (nI nR)), (3, .int (M.1 20)), (4, .int (M.1 21)), (5, .int (nI e0))] ⟨rfl, rfl, rfl, rfl, rfl, rfl, trivial⟩ (hn _ _ _ (y_End.g ⟨ad, hax, hX, hB⟩ hI2 (y_N_addKey hI hJ) ((lw_hh hI (Nat.le_refl _) ht (hn_addKey hH).1 (hn_addKey hH).2)) (b_addKey (by omega)) (b_addKey (by omega))))
    · first | exact absurd (by rw [y_ak1 hI hr (y_in0 (n := 5) (by omega) (by omega)) h428]) h438 | exact absurd (y_ak2 hI hr (y_in0 (n := 5) (by omega) (by omega)) h428).1 h438
set_option maxHeartbeats 4000000 in
set_option maxRecDepth 100000 in
theorem yc_5 (C : z_C p s m args meth c cL_law "EscapeRoomsLaw" ret 17 nm G) (hS : y_S G s.heap.size ax nR nD nK nG M t4 H) (hI : m_I nR nD nK nG M) (hJ : y_J nD nK nG M) (hH : m_Hn M nG n) (ht : t4 = nI n) (hn1 : n ≤ 1000) (hR : 3 ≤ nR) (hw : w < nG) (hd : d < nD) (hk : k < nK) (hc : cells + 6 ≤ room_1.cells ∧ slots + 102 ≤ room_1.slots) (hn : ∀ bs st H', y_End G s.heap.size ax nR nD nK nG n bs st H' → z_Z p l e room_1 s m args below meth c (fun q => s.heap.size ≤ q) 17 (cells + 6) (slots + 102) Q H' 906 [(0, .ref b), (1, .ref ax), (2, .int (nI nR)), (3, .int bs), (4, .int st), (5, .int (nI e0))] []) : z_Z p l e room_1 s m args below meth c (fun q => s.heap.size ≤ q) 17 cells slots Q H 452 [(0, .ref b), (1, .ref ax), (2, .int (nI nR)), (3, .int (M.1 20)), (4, .int (M.1 21)), (5, .int (nI e0)), (6, .int xg), (7, .int xh), (8, .int sv), (9, .int (nI w)), (10, .int (nI d)), (11, .int (nI k))] [] := by
  obtain ⟨ad, hax, hX, hB⟩ := hS
  have hs := y_nsm hI
  refine z_aload_n C dL_law_452 rfl ?_
  refine z_iconst (v := 4) C dL_law_453 (by decide) ?_
  refine y_callR (As := [.int _]) C hX hax (fun T hT4 => c_X5_countR _ _ ad M T hI _ (by decide) (fun h => absurd h (by decide))) kc_X5_count wb_p434 ⟨by decide, by decide⟩ ⟨by omega, by omega⟩ (Nat.le_of_ble_eq_true rfl) dL_law_454 ?_
  rw [y_c4 hI]
  refine z_istore C dL_law_457 (by decide) ?_
  refine z_iload C dL_law_459 rfl ?_
  refine z_iload_n C dL_law_461 rfl ?_
  refine z_callSR (As := [.int _, .int _]) C (c_L_low _ _ _ _ (nI_ne0 (by omega) (by omega))) kc_L_low wb_p518 ⟨by decide, by decide⟩ trivial ⟨by omega, by omega⟩ (Nat.le_of_ble_eq_true rfl) dL_law_462 ?_
  obtain ⟨r, hr, er⟩ := y_low_lt (v := xg) (n := nR) (by omega) (by omega)
  rw [er]
  refine z_istore C dL_law_465 (by decide) ?_
  refine z_aload_n C dL_law_467 rfl ?_
  refine z_iload C dL_law_468 rfl ?_
  refine y_callW (As := [.int _]) C hX hax (fun T _ => c_X5_setExit _ _ ad M T hI _) (fun T v H' hT hq => y_qW hT hq) hB.xA kc_X5_setExit wb_p208 ⟨by decide, by decide⟩ ⟨by omega, by omega⟩ (Nat.le_of_ble_eq_true rfl) dL_law_470 (fun H470 hX470 hF470 => ?_)
  replace hX := hX470
  replace hB := hB.fr hF470
  have hI2 := m_I_setExit hI (nI r)
  refine z_iload C dL_law_473 rfl ?_
  refine z_icmp_ne C 488 dL_law_475 (by decide) (fun h475 => ?_) (fun h475 => ?_)
  · exact absurd (by rw [y_se hI hr]) h475
  · refine z_aload_n C dL_law_478 rfl ?_
    refine z_iconst (v := 4) C dL_law_479 (by decide) ?_
    refine y_callR (As := [.int _]) C hX hax (fun T hT4 => c_X5_countR _ _ ad (F_setExit M (nI r)).2 T hI2 _ (by decide) (fun h => absurd h (by decide))) kc_X5_count wb_p434 ⟨by decide, by decide⟩ ⟨by omega, by omega⟩ (Nat.le_of_ble_eq_true rfl) dL_law_480 ?_
    rw [y_c4 hI2]
    refine z_iload C dL_law_483 rfl ?_
    refine z_icmp_eq C 490 dL_law_485 (by decide) (fun h485 => ?_) (fun h485 => ?_)
    · refine z_goto C 906 dL_law_490 (by decide) ?_
      refine z_widen (k2 := cells + 6) (n2 := slots + 102) (by omega) (by omega) ?_
      first
        | exact z_sub [(0, .ref b), (1, .ref ax), (2, .int (nI nR)), (3, .int (M.1 20)), (4, .int (M.1 21)), (5, .int (nI e0))] ⟨rfl, rfl, rfl, rfl, rfl, rfl, trivial⟩ (hn _ _ _ (y_End.g ⟨ad, hax, hX, hB⟩ (m_I_setExit hI _) (y_Nx.of (m_I_setExit hI _) (y_J_setExit hI hJ)) (lw_hh hI (Nat.le_refl _) ht (hn_setExit hH).1 (hn_setExit hH).2) (b_setExit (by omega)) (b_setExit (by omega))))
    · exact absurd (by rw [y_se hI hr]; show (m_sS M 1 (nI r)).1 1 = _; rw [m_sS1, if_pos rfl]) h485
set_option maxHeartbeats 4000000 in
set_option maxRecDepth 100000 in
theorem yc_6 (C : z_C p s m args meth c cL_law "EscapeRoomsLaw" ret 17 nm G) (hS : y_S G s.heap.size ax nR nD nK nG M t4 H) (hI : m_I nR nD nK nG M) (hJ : y_J nD nK nG M) (hH : m_Hn M nG n) (ht : t4 = nI n) (hn1 : n ≤ 1000) (hR : 3 ≤ nR) (hw : w < nG) (hd : d < nD) (hk : k < nK) (hc : cells + 6 ≤ room_1.cells ∧ slots + 102 ≤ room_1.slots) (hn : ∀ bs st H', y_End G s.heap.size ax nR nD nK nG n bs st H' → z_Z p l e room_1 s m args below meth c (fun q => s.heap.size ≤ q) 17 (cells + 6) (slots + 102) Q H' 906 [(0, .ref b), (1, .ref ax), (2, .int (nI nR)), (3, .int bs), (4, .int st), (5, .int (nI e0))] []) : z_Z p l e room_1 s m args below meth c (fun q => s.heap.size ≤ q) 17 cells slots Q H 500 [(0, .ref b), (1, .ref ax), (2, .int (nI nR)), (3, .int (M.1 20)), (4, .int (M.1 21)), (5, .int (nI e0)), (6, .int xg), (7, .int xh), (8, .int sv), (9, .int (nI w)), (10, .int (nI d)), (11, .int (nI k))] [] := by
  obtain ⟨ad, hax, hX, hB⟩ := hS
  have hs := y_nsm hI
  obtain ⟨r, hr, er⟩ := y_low_lt (v := xh) (n := nR) (by omega) (by omega)
  refine z_aload_n C dL_law_500 rfl ?_
  refine z_iconst (v := 3) C dL_law_501 (by decide) ?_
  refine y_callR (As := [.int _]) C hX hax (fun T hT4 => c_X5_countR _ _ ad M T hI _ (by decide) (fun h => absurd h (by decide))) kc_X5_count wb_p434 ⟨by decide, by decide⟩ ⟨by omega, by omega⟩ (Nat.le_of_ble_eq_true rfl) dL_law_502 ?_
  rw [y_c3 hI]
  refine z_istore C dL_law_505 (by decide) ?_
  refine z_iconst (v := 1) C dL_law_507 (by decide) ?_
  refine z_iload C dL_law_508 rfl ?_
  refine z_bipush (v := 6) C dL_law_510 (by decide) ?_
  refine z_callSR (As := [.int _, .int _]) C (c_L_low _ _ _ _ (by decide)) kc_L_low wb_p518 ⟨by decide, by decide⟩ trivial ⟨by omega, by omega⟩ (Nat.le_of_ble_eq_true rfl) dL_law_512 ?_
  obtain ⟨j, hj, ej⟩ := y_low_lt (v := xg) (n := 6) (by omega) (by omega)
  rw [show y_low (xg) 6 = nI j from ej]
  refine z_iadd C dL_law_515 ?_
  refine z_eqst (st2 := [.int (nI (1 + j))]) (by rw [show nI (1 + j) = 1 + nI j from (nI_add 1 j).symm]) ?_
  refine z_istore C dL_law_516 (by decide) ?_
  refine z_join 553 ((F_addGroup M nG (nI (1 + j)) (nI r)).1) ?_ (fun kJ553 => ?_)
  · refine z_istore C dL_law_553 (by decide) ?_
    refine z_aload_n C dL_law_555 rfl ?_
    refine z_iload C dL_law_556 rfl ?_
    refine z_iload C dL_law_558 rfl ?_
    refine z_iload_n C dL_law_560 rfl ?_
    refine z_callSR (As := [.int _, .int _]) C (c_L_low _ _ _ _ (nI_ne0 (by omega) (by omega))) kc_L_low wb_p518 ⟨by decide, by decide⟩ trivial ⟨by omega, by omega⟩ (Nat.le_of_ble_eq_true rfl) dL_law_561 ?_
    rw [er]
    refine y_callG (As := [.int _, .int _]) C hX hax hB (fun T _ hO => c_X5_addGroup _ _ ad M T hI _ hO (nI (1 + j)) (nI r)) (fun q hq => hq) kc_X5_addGroup wb_p350 ⟨by decide, by decide⟩ ⟨by omega, by omega⟩ (Nat.le_of_ble_eq_true rfl) dL_law_564 (fun H564 ad nR2 nD2 nK2 nG2 hax hX hI2 hB => ?_)
    refine z_iload C dL_law_567 rfl ?_
    refine z_icmp_eq C 574 dL_law_569 (by decide) (fun h569 => ?_) (fun h569 => ?_)
    · refine z_goto C 906 dL_law_574 (by decide) ?_
      refine z_widen (k2 := cells + 6) (n2 := slots + 102) (by omega) (by omega) ?_
      first
        | exact z_sub [(0, .ref b), (1, .ref ax), (2, .int (nI nR)), (3, .int (M.1 20)), (4, .int (M.1 21)), (5, .int (nI e0))] ⟨rfl, rfl, rfl, rfl, rfl, rfl, trivial⟩ (hn _ _ _ (y_End.g ⟨ad, hax, hX, hB⟩ hI2 (y_N_addGroup hI hJ (by omega) (by omega)) ((hh_addGroup hI hH (Nat.le_refl _) ht)) (b_addGroup (by omega)) (b_addGroup (by omega))))
    · exact absurd rfl h569
  · refine z_iload C dL_law_518 rfl ?_
    refine z_bipush (v := 6) C dL_law_520 (by decide) ?_
    refine z_icmp_eq C 546 dL_law_522 (by decide) (fun h522 => ?_) (fun h522 => ?_)
    · refine z_bipush (v := (-3)) C dL_law_546 (by decide) ?_
      refine z_goto C 553 dL_law_548 (by decide) ?_
      exact z_joinE kJ553 (by first | exact (congrArg Prod.fst (y_ag1 hI hr (y_inW (n := 24) (by omega) (by omega)) h522)).symm | exact (congrArg Prod.fst (y_ag2 hI hJ hr (y_inW (n := 24) (by omega) (by omega)) h543)).symm | (rw [y_ag3 hI hJ hr (y_inW (n := 24) (by omega) (by omega)) h522 h543]; exact (y_pg0 hI).1.symm))
    · refine z_aload_n C dL_law_525 rfl ?_
      refine z_bipush (v := 6) C dL_law_526 (by decide) ?_
      refine y_callR (As := [.int _]) C hX hax (fun T hT4 => c_X5_countR _ _ ad M T hI _ (by decide) (fun h => absurd h (by decide))) kc_X5_count wb_p434 ⟨by decide, by decide⟩ ⟨by omega, by omega⟩ (Nat.le_of_ble_eq_true rfl) dL_law_528 ?_
      rw [y_c6 hI]
      refine z_aload_n C dL_law_531 rfl ?_
      refine z_bipush (v := 7) C dL_law_532 (by decide) ?_
      refine y_callR (As := [.int _]) C hX hax (fun T hT4 => c_X5_countR _ _ ad M T hI _ (by decide) (fun h => absurd h (by decide))) kc_X5_count wb_p434 ⟨by decide, by decide⟩ ⟨by omega, by omega⟩ (Nat.le_of_ble_eq_true rfl) dL_law_534 ?_
      rw [y_c7 hI]
      refine z_iadd C dL_law_537 ?_
      refine z_iload C dL_law_538 rfl ?_
      refine z_iadd C dL_law_540 ?_
      refine z_bipush (v := 24) C dL_law_541 (by decide) ?_
      refine z_icmp_le C 551 dL_law_543 (by decide) (fun h543 => ?_) (fun h543 => ?_)
      · refine z_iload C dL_law_551 rfl ?_
        exact z_joinE kJ553 (by first | exact (congrArg Prod.fst (y_ag1 hI hr (y_inW (n := 24) (by omega) (by omega)) h522)).symm | exact (congrArg Prod.fst (y_ag2 hI hJ hr (y_inW (n := 24) (by omega) (by omega)) h543)).symm | (rw [y_ag3 hI hJ hr (y_inW (n := 24) (by omega) (by omega)) h522 h543]; exact (y_pg0 hI).1.symm))
      · refine z_bipush (v := (-3)) C dL_law_546 (by decide) ?_
        refine z_goto C 553 dL_law_548 (by decide) ?_
        exact z_joinE kJ553 (by first | exact (congrArg Prod.fst (y_ag1 hI hr (y_inW (n := 24) (by omega) (by omega)) h522)).symm | exact (congrArg Prod.fst (y_ag2 hI hJ hr (y_inW (n := 24) (by omega) (by omega)) h543)).symm | (rw [y_ag3 hI hJ hr (y_inW (n := 24) (by omega) (by omega)) h522 h543]; exact (y_pg0 hI).1.symm))
set_option maxHeartbeats 4000000 in
set_option maxRecDepth 100000 in
theorem yc_7 (C : z_C p s m args meth c cL_law "EscapeRoomsLaw" ret 17 nm G) (hS : y_S G s.heap.size ax nR nD nK nG M t4 H) (hI : m_I nR nD nK nG M) (hJ : y_J nD nK nG M) (hH : m_Hn M nG n) (ht : t4 = nI n) (hn1 : n ≤ 1000) (hR : 3 ≤ nR) (hw : w < nG) (hd : d < nD) (hk : k < nK) (hc : cells + 6 ≤ room_1.cells ∧ slots + 102 ≤ room_1.slots) (hn : ∀ bs st H', y_End G s.heap.size ax nR nD nK nG n bs st H' → z_Z p l e room_1 s m args below meth c (fun q => s.heap.size ≤ q) 17 (cells + 6) (slots + 102) Q H' 906 [(0, .ref b), (1, .ref ax), (2, .int (nI nR)), (3, .int bs), (4, .int st), (5, .int (nI e0))] []) : z_Z p l e room_1 s m args below meth c (fun q => s.heap.size ≤ q) 17 cells slots Q H 584 [(0, .ref b), (1, .ref ax), (2, .int (nI nR)), (3, .int (M.1 20)), (4, .int (M.1 21)), (5, .int (nI e0)), (6, .int xg), (7, .int xh), (8, .int sv), (9, .int (nI w)), (10, .int (nI d)), (11, .int (nI k))] [] := by
  have hs := y_nsm hI
  refine z_aload_n C dL_law_584 rfl ?_
  refine z_iload C dL_law_585 rfl ?_
  refine z_iload C dL_law_587 rfl ?_
  refine z_callS (As := [.ref _, .int _, .int _]) C (c_L_walks _ _ s.heap.size ax M t4 hI w d hw hd) kc_L_walks wb_p587 ⟨by decide, by decide⟩ hS (fun q hq => hq) ⟨by omega, by omega⟩ (Nat.le_of_ble_eq_true rfl) dL_law_589 (fun v H589 hq _ _ => ?_)
  obtain ⟨rfl, hS2⟩ := hq
  refine z_if_ne C 906 dL_law_592 (by decide) (fun h592 => ?_) (fun h592 => ?_)
  · refine z_widen (k2 := cells + 6) (n2 := slots + 102) (by omega) (by omega) ?_
    first
      | exact z_sub [(0, .ref b), (1, .ref ax), (2, .int (nI nR)), (3, .int (M.1 20)), (4, .int (M.1 21)), (5, .int (nI e0))] ⟨rfl, rfl, rfl, rfl, rfl, rfl, trivial⟩ (hn _ _ _ (y_End.g hS2 (m_I_walk hI _ _) (y_Nx.of (m_I_walk hI _ _) (y_J_walk hI hJ hw hd)) (lw_hh hI (Nat.le_refl _) ht (hn_walk hH).1 (hn_walk hH).2) (by rw [b_walk]) (by rw [b_walk])))
  · exact absurd h592 (by decide)
set_option maxHeartbeats 4000000 in
set_option maxRecDepth 100000 in
theorem yc_10 (C : z_C p s m args meth c cL_law "EscapeRoomsLaw" ret 17 nm G) (hS : y_S G s.heap.size ax nR nD nK nG M t4 H) (hI : m_I nR nD nK nG M) (hJ : y_J nD nK nG M) (hH : m_Hn M nG n) (ht : t4 = nI n) (hn1 : n ≤ 1000) (hR : 3 ≤ nR) (hw : w < nG) (hd : d < nD) (hk : k < nK) (hc : cells + 6 ≤ room_1.cells ∧ slots + 102 ≤ room_1.slots) (hn : ∀ bs st H', y_End G s.heap.size ax nR nD nK nG n bs st H' → z_Z p l e room_1 s m args below meth c (fun q => s.heap.size ≤ q) 17 (cells + 6) (slots + 102) Q H' 906 [(0, .ref b), (1, .ref ax), (2, .int (nI nR)), (3, .int bs), (4, .int st), (5, .int (nI e0))] []) : z_Z p l e room_1 s m args below meth c (fun q => s.heap.size ≤ q) 17 cells slots Q H 604 [(0, .ref b), (1, .ref ax), (2, .int (nI nR)), (3, .int (M.1 20)), (4, .int (M.1 21)), (5, .int (nI e0)), (6, .int xg), (7, .int xh), (8, .int sv), (9, .int (nI w)), (10, .int (nI d)), (11, .int (nI k))] [] := by
  have hs := y_nsm hI
  refine z_aload_n C dL_law_604 rfl ?_
  refine z_iload C dL_law_605 rfl ?_
  refine z_iload C dL_law_607 rfl ?_
  refine z_callS (As := [.ref _, .int _, .int _]) C (c_L_unlocks _ _ s.heap.size ax M t4 hI w d hw hd) kc_L_unlocks wb_p603 ⟨by decide, by decide⟩ hS (fun q hq => hq) ⟨by omega, by omega⟩ (Nat.le_of_ble_eq_true rfl) dL_law_609 (fun v H609 hq _ _ => ?_)
  obtain ⟨rfl, hS2⟩ := hq
  refine z_if_ne C 906 dL_law_612 (by decide) (fun h612 => ?_) (fun h612 => ?_)
  · refine z_widen (k2 := cells + 6) (n2 := slots + 102) (by omega) (by omega) ?_
    first
      | exact z_sub [(0, .ref b), (1, .ref ax), (2, .int (nI nR)), (3, .int (M.1 20)), (4, .int (M.1 21)), (5, .int (nI e0))] ⟨rfl, rfl, rfl, rfl, rfl, rfl, trivial⟩ (hn _ _ _ (y_End.g hS2 (m_I_unlock hI _ _) (y_Nx.of (m_I_unlock hI _ _) (y_J_unlock hI hJ hw hd)) (lw_hh hI (Nat.le_refl _) ht (hn_unlock hH).1 (hn_unlock hH).2) (by rw [b_unlock]) (by rw [b_unlock])))
  · exact absurd h612 (by decide)
set_option maxHeartbeats 4000000 in
set_option maxRecDepth 100000 in
theorem yc_11 (C : z_C p s m args meth c cL_law "EscapeRoomsLaw" ret 17 nm G) (hS : y_S G s.heap.size ax nR nD nK nG M t4 H) (hI : m_I nR nD nK nG M) (hJ : y_J nD nK nG M) (hH : m_Hn M nG n) (ht : t4 = nI n) (hn1 : n ≤ 1000) (hR : 3 ≤ nR) (hw : w < nG) (hd : d < nD) (hk : k < nK) (hc : cells + 6 ≤ room_1.cells ∧ slots + 102 ≤ room_1.slots) (hn : ∀ bs st H', y_End G s.heap.size ax nR nD nK nG n bs st H' → z_Z p l e room_1 s m args below meth c (fun q => s.heap.size ≤ q) 17 (cells + 6) (slots + 102) Q H' 906 [(0, .ref b), (1, .ref ax), (2, .int (nI nR)), (3, .int bs), (4, .int st), (5, .int (nI e0))] []) : z_Z p l e room_1 s m args below meth c (fun q => s.heap.size ≤ q) 17 cells slots Q H 624 [(0, .ref b), (1, .ref ax), (2, .int (nI nR)), (3, .int (M.1 20)), (4, .int (M.1 21)), (5, .int (nI e0)), (6, .int xg), (7, .int xh), (8, .int sv), (9, .int (nI w)), (10, .int (nI d)), (11, .int (nI k))] [] := by
  have hs := y_nsm hI
  refine z_aload_n C dL_law_624 rfl ?_
  refine z_iload C dL_law_625 rfl ?_
  refine z_iload C dL_law_627 rfl ?_
  refine z_iload C dL_law_629 rfl ?_
  refine z_bipush (v := 11) C dL_law_631 (by decide) ?_
  refine z_icmp_eq C 646 dL_law_633 (by decide) (fun h633 => ?_) (fun h633 => ?_)
  · refine z_iconst (v := 1) C dL_law_646 (by decide) ?_
    refine z_goto C 651 dL_law_647 (by decide) ?_
    first
      | refine z_callS (As := [.ref _, .int _, .int _, .int _]) C (c_L_keysT _ _ s.heap.size ax M t4 hI w k hw hk) kc_L_keys wb_p622 ⟨by decide, by decide⟩ hS (fun q hq => hq) ⟨by omega, by omega⟩ (Nat.le_of_ble_eq_true rfl) dL_law_651 (fun v H651 hq _ _ => ?_)
      | refine z_callS (As := [.ref _, .int _, .int _, .int _]) C (c_L_keysD _ _ s.heap.size ax M t4 hI w k hw hk) kc_L_keys wb_p622 ⟨by decide, by decide⟩ hS (fun q hq => hq) ⟨by omega, by omega⟩ (Nat.le_of_ble_eq_true rfl) dL_law_651 (fun v H651 hq _ _ => ?_)
    all_goals obtain ⟨rfl, hS2⟩ := hq
    refine z_if_ne C 906 dL_law_654 (by decide) (fun h654 => ?_) (fun h654 => ?_)
    · refine z_widen (k2 := cells + 6) (n2 := slots + 102) (by omega) (by omega) ?_
      first
        | exact z_sub [(0, .ref b), (1, .ref ax), (2, .int (nI nR)), (3, .int (M.1 20)), (4, .int (M.1 21)), (5, .int (nI e0))] ⟨rfl, rfl, rfl, rfl, rfl, rfl, trivial⟩ (hn _ _ _ (y_End.g hS2 (m_I_take hI _ _) (y_Nx.of (m_I_take hI _ _) (y_J_take hI hJ hw hk)) (lw_hh hI (Nat.le_refl _) ht (hn_take hH).1 (hn_take hH).2) (by rw [b_take]) (by rw [b_take])))
        | exact z_sub [(0, .ref b), (1, .ref ax), (2, .int (nI nR)), (3, .int (M.1 20)), (4, .int (M.1 21)), (5, .int (nI e0))] ⟨rfl, rfl, rfl, rfl, rfl, rfl, trivial⟩ (hn _ _ _ (y_End.g hS2 (m_I_drop hI _ _) (y_Nx.of (m_I_drop hI _ _) (y_J_drop hI hJ hw hk)) (lw_hh hI (Nat.le_refl _) ht (hn_drop hH).1 (hn_drop hH).2) (by rw [b_drop]) (by rw [b_drop])))
    · exact absurd h654 (by decide)
  · refine z_iload C dL_law_636 rfl ?_
    refine z_bipush (v := 9) C dL_law_638 (by decide) ?_
    refine z_ishr C dL_law_640 ?_
    refine z_iconst (v := 1) C dL_law_641 (by decide) ?_
    refine z_iand C dL_law_642 ?_
    refine z_if_ne C 650 dL_law_643 (by decide) (fun h643 => ?_) (fun h643 => ?_)
    · refine z_iconst (v := 0) C dL_law_650 (by decide) ?_
      first
        | refine z_callS (As := [.ref _, .int _, .int _, .int _]) C (c_L_keysT _ _ s.heap.size ax M t4 hI w k hw hk) kc_L_keys wb_p622 ⟨by decide, by decide⟩ hS (fun q hq => hq) ⟨by omega, by omega⟩ (Nat.le_of_ble_eq_true rfl) dL_law_651 (fun v H651 hq _ _ => ?_)
        | refine z_callS (As := [.ref _, .int _, .int _, .int _]) C (c_L_keysD _ _ s.heap.size ax M t4 hI w k hw hk) kc_L_keys wb_p622 ⟨by decide, by decide⟩ hS (fun q hq => hq) ⟨by omega, by omega⟩ (Nat.le_of_ble_eq_true rfl) dL_law_651 (fun v H651 hq _ _ => ?_)
      all_goals obtain ⟨rfl, hS2⟩ := hq
      refine z_if_ne C 906 dL_law_654 (by decide) (fun h654 => ?_) (fun h654 => ?_)
      · refine z_widen (k2 := cells + 6) (n2 := slots + 102) (by omega) (by omega) ?_
        first
          | exact z_sub [(0, .ref b), (1, .ref ax), (2, .int (nI nR)), (3, .int (M.1 20)), (4, .int (M.1 21)), (5, .int (nI e0))] ⟨rfl, rfl, rfl, rfl, rfl, rfl, trivial⟩ (hn _ _ _ (y_End.g hS2 (m_I_take hI _ _) (y_Nx.of (m_I_take hI _ _) (y_J_take hI hJ hw hk)) (lw_hh hI (Nat.le_refl _) ht (hn_take hH).1 (hn_take hH).2) (by rw [b_take]) (by rw [b_take])))
          | exact z_sub [(0, .ref b), (1, .ref ax), (2, .int (nI nR)), (3, .int (M.1 20)), (4, .int (M.1 21)), (5, .int (nI e0))] ⟨rfl, rfl, rfl, rfl, rfl, rfl, trivial⟩ (hn _ _ _ (y_End.g hS2 (m_I_drop hI _ _) (y_Nx.of (m_I_drop hI _ _) (y_J_drop hI hJ hw hk)) (lw_hh hI (Nat.le_refl _) ht (hn_drop hH).1 (hn_drop hH).2) (by rw [b_drop]) (by rw [b_drop])))
      · exact absurd h654 (by decide)
    · refine z_iconst (v := 1) C dL_law_646 (by decide) ?_
      refine z_goto C 651 dL_law_647 (by decide) ?_
      first
        | refine z_callS (As := [.ref _, .int _, .int _, .int _]) C (c_L_keysT _ _ s.heap.size ax M t4 hI w k hw hk) kc_L_keys wb_p622 ⟨by decide, by decide⟩ hS (fun q hq => hq) ⟨by omega, by omega⟩ (Nat.le_of_ble_eq_true rfl) dL_law_651 (fun v H651 hq _ _ => ?_)
        | refine z_callS (As := [.ref _, .int _, .int _, .int _]) C (c_L_keysD _ _ s.heap.size ax M t4 hI w k hw hk) kc_L_keys wb_p622 ⟨by decide, by decide⟩ hS (fun q hq => hq) ⟨by omega, by omega⟩ (Nat.le_of_ble_eq_true rfl) dL_law_651 (fun v H651 hq _ _ => ?_)
      all_goals obtain ⟨rfl, hS2⟩ := hq
      refine z_if_ne C 906 dL_law_654 (by decide) (fun h654 => ?_) (fun h654 => ?_)
      · refine z_widen (k2 := cells + 6) (n2 := slots + 102) (by omega) (by omega) ?_
        first
          | exact z_sub [(0, .ref b), (1, .ref ax), (2, .int (nI nR)), (3, .int (M.1 20)), (4, .int (M.1 21)), (5, .int (nI e0))] ⟨rfl, rfl, rfl, rfl, rfl, rfl, trivial⟩ (hn _ _ _ (y_End.g hS2 (m_I_take hI _ _) (y_Nx.of (m_I_take hI _ _) (y_J_take hI hJ hw hk)) (lw_hh hI (Nat.le_refl _) ht (hn_take hH).1 (hn_take hH).2) (by rw [b_take]) (by rw [b_take])))
          | exact z_sub [(0, .ref b), (1, .ref ax), (2, .int (nI nR)), (3, .int (M.1 20)), (4, .int (M.1 21)), (5, .int (nI e0))] ⟨rfl, rfl, rfl, rfl, rfl, rfl, trivial⟩ (hn _ _ _ (y_End.g hS2 (m_I_drop hI _ _) (y_Nx.of (m_I_drop hI _ _) (y_J_drop hI hJ hw hk)) (lw_hh hI (Nat.le_refl _) ht (hn_drop hH).1 (hn_drop hH).2) (by rw [b_drop]) (by rw [b_drop])))
      · exact absurd h654 (by decide)
set_option maxHeartbeats 4000000 in
set_option maxRecDepth 100000 in
theorem yc_13 (C : z_C p s m args meth c cL_law "EscapeRoomsLaw" ret 17 nm G) (hS : y_S G s.heap.size ax nR nD nK nG M t4 H) (hI : m_I nR nD nK nG M) (hJ : y_J nD nK nG M) (hH : m_Hn M nG n) (ht : t4 = nI n) (hn1 : n ≤ 1000) (hR : 3 ≤ nR) (hw : w < nG) (hd : d < nD) (hk : k < nK) (hc : cells + 6 ≤ room_1.cells ∧ slots + 102 ≤ room_1.slots) (hn : ∀ bs st H', y_End G s.heap.size ax nR nD nK nG n bs st H' → z_Z p l e room_1 s m args below meth c (fun q => s.heap.size ≤ q) 17 (cells + 6) (slots + 102) Q H' 906 [(0, .ref b), (1, .ref ax), (2, .int (nI nR)), (3, .int bs), (4, .int st), (5, .int (nI e0))] []) : z_Z p l e room_1 s m args below meth c (fun q => s.heap.size ≤ q) 17 cells slots Q H 666 [(0, .ref b), (1, .ref ax), (2, .int (nI nR)), (3, .int (M.1 20)), (4, .int (M.1 21)), (5, .int (nI e0)), (6, .int xg), (7, .int xh), (8, .int sv), (9, .int (nI w)), (10, .int (nI d)), (11, .int (nI k))] [] := by
  have hs := y_nsm hI
  refine z_aload_n C dL_law_666 rfl ?_
  refine z_iload C dL_law_667 rfl ?_
  refine z_iload C dL_law_669 rfl ?_
  refine z_iconst (v := 3) C dL_law_671 (by decide) ?_
  refine z_ishr C dL_law_672 ?_
  refine z_callS (As := [.ref _, .int _, .int _]) C (c_L_parts _ _ s.heap.size ax M t4 hI hJ hH ht w hw _) kc_L_parts wb_p641 ⟨by decide, by decide⟩ hS (fun q hq => hq) ⟨by omega, by omega⟩ (Nat.le_of_ble_eq_true rfl) dL_law_673 (fun v H673 hq _ _ => ?_)
  obtain ⟨rfl, hE2⟩ := hq
  refine z_if_ne C 906 dL_law_676 (by decide) (fun h676 => ?_) (fun h676 => ?_)
  · refine z_widen (k2 := cells + 6) (n2 := slots + 102) (by omega) (by omega) ?_
    first
      | exact z_sub [(0, .ref b), (1, .ref ax), (2, .int (nI nR)), (3, .int (M.1 20)), (4, .int (M.1 21)), (5, .int (nI e0))] ⟨rfl, rfl, rfl, rfl, rfl, rfl, trivial⟩ (hn _ _ _ (hE2))
  · exact absurd h676 (by decide)
set_option maxHeartbeats 4000000 in
set_option maxRecDepth 100000 in
theorem yc_14 (C : z_C p s m args meth c cL_law "EscapeRoomsLaw" ret 17 nm G) (hS : y_S G s.heap.size ax nR nD nK nG M t4 H) (hI : m_I nR nD nK nG M) (hJ : y_J nD nK nG M) (hH : m_Hn M nG n) (ht : t4 = nI n) (hn1 : n ≤ 1000) (hR : 3 ≤ nR) (hw : w < nG) (hd : d < nD) (hk : k < nK) (hc : cells + 6 ≤ room_1.cells ∧ slots + 102 ≤ room_1.slots) (hn : ∀ bs st H', y_End G s.heap.size ax nR nD nK nG n bs st H' → z_Z p l e room_1 s m args below meth c (fun q => s.heap.size ≤ q) 17 (cells + 6) (slots + 102) Q H' 906 [(0, .ref b), (1, .ref ax), (2, .int (nI nR)), (3, .int bs), (4, .int st), (5, .int (nI e0))] []) : z_Z p l e room_1 s m args below meth c (fun q => s.heap.size ≤ q) 17 cells slots Q H 688 [(0, .ref b), (1, .ref ax), (2, .int (nI nR)), (3, .int (M.1 20)), (4, .int (M.1 21)), (5, .int (nI e0)), (6, .int xg), (7, .int xh), (8, .int sv), (9, .int (nI w)), (10, .int (nI d)), (11, .int (nI k))] [] := by
  have hs := y_nsm hI
  refine z_aload_n C dL_law_688 rfl ?_
  refine z_iload C dL_law_689 rfl ?_
  refine z_iload_n C dL_law_691 rfl ?_
  refine z_iload C dL_law_692 rfl ?_
  refine z_callS (As := [.ref _, .int _, .int _, .int _]) C (c_L_hints _ _ s.heap.size ax M t4 hI hH (by omega) w hw) kc_L_hints wb_p656 ⟨by decide, by decide⟩ hS (fun q hq => hq) ⟨by omega, by omega⟩ (Nat.le_of_ble_eq_true rfl) dL_law_694 (fun v H694 hq _ _ => ?_)
  obtain ⟨rfl, hS2⟩ := hq
  refine z_if_ne C 906 dL_law_697 (by decide) (fun h697 => ?_) (fun h697 => ?_)
  · refine z_widen (k2 := cells + 6) (n2 := slots + 102) (by omega) (by omega) ?_
    first
      | exact z_sub [(0, .ref b), (1, .ref ax), (2, .int (nI nR)), (3, .int (M.1 20)), (4, .int (M.1 21)), (5, .int (nI e0))] ⟨rfl, rfl, rfl, rfl, rfl, rfl, trivial⟩ (hn _ _ _ (y_End.g hS2 (hI_hint hI hH (by omega)) (y_Nx.of (hI_hint hI hH (by omega)) (y_J_hint hI hJ hw)) (hh_hint hI hH (Nat.le_refl _) ht) (by rw [b_hint]) (by rw [b_hint])))
  · exact absurd h697 (by decide)
set_option maxHeartbeats 4000000 in
set_option maxRecDepth 100000 in
theorem yc_15 (C : z_C p s m args meth c cL_law "EscapeRoomsLaw" ret 17 nm G) (hS : y_S G s.heap.size ax nR nD nK nG M t4 H) (hI : m_I nR nD nK nG M) (hJ : y_J nD nK nG M) (hH : m_Hn M nG n) (ht : t4 = nI n) (hn1 : n ≤ 1000) (hR : 3 ≤ nR) (hw : w < nG) (hd : d < nD) (hk : k < nK) (hc : cells + 6 ≤ room_1.cells ∧ slots + 102 ≤ room_1.slots) (hn : ∀ bs st H', y_End G s.heap.size ax nR nD nK nG n bs st H' → z_Z p l e room_1 s m args below meth c (fun q => s.heap.size ≤ q) 17 (cells + 6) (slots + 102) Q H' 906 [(0, .ref b), (1, .ref ax), (2, .int (nI nR)), (3, .int bs), (4, .int st), (5, .int (nI e0))] []) : z_Z p l e room_1 s m args below meth c (fun q => s.heap.size ≤ q) 17 cells slots Q H 709 [(0, .ref b), (1, .ref ax), (2, .int (nI nR)), (3, .int (M.1 20)), (4, .int (M.1 21)), (5, .int (nI e0)), (6, .int xg), (7, .int xh), (8, .int sv), (9, .int (nI w)), (10, .int (nI d)), (11, .int (nI k))] [] := by
  obtain ⟨ad, hax, hX, hB⟩ := hS
  have hs := y_nsm hI
  refine z_iload_n C dL_law_709 rfl ?_
  refine z_istore C dL_law_710 (by decide) ?_
  refine z_iconst (v := 1) C dL_law_712 (by decide) ?_
  refine z_iload C dL_law_713 rfl ?_
  refine z_bipush (v := 30) C dL_law_715 (by decide) ?_
  refine z_callSR (As := [.int _, .int _]) C (c_L_low _ _ _ _ (by decide)) kc_L_low wb_p518 ⟨by decide, by decide⟩ trivial ⟨by omega, by omega⟩ (Nat.le_of_ble_eq_true rfl) dL_law_717 ?_
  obtain ⟨j, hj, ej⟩ := y_low_lt (v := xg) (n := 30) (by omega) (by omega)
  rw [show y_low (xg) 30 = nI j from ej]
  refine z_iadd C dL_law_720 ?_
  refine z_eqst (st2 := [.int (nI (1 + j))]) (by rw [show nI (1 + j) = 1 + nI j from (nI_add 1 j).symm]) ?_
  refine z_istore_n C dL_law_721 (by decide) ?_
  refine z_iload C dL_law_722 rfl ?_
  refine z_bipush (v := 31) C dL_law_724 (by decide) ?_
  refine z_callSR (As := [.int _, .int _]) C (c_L_low _ _ _ _ (by decide)) kc_L_low wb_p518 ⟨by decide, by decide⟩ trivial ⟨by omega, by omega⟩ (Nat.le_of_ble_eq_true rfl) dL_law_726 ?_
  obtain ⟨j2, hj2, ej2⟩ := y_low_lt (v := xh) (n := 31) (by omega) (by omega)
  rw [show y_low (xh) 31 = nI j2 from ej2]
  refine z_istore C dL_law_729 (by decide) ?_
  refine z_aload_n C dL_law_731 rfl ?_
  refine z_iload_n C dL_law_732 rfl ?_
  refine z_iload C dL_law_733 rfl ?_
  refine y_callW (As := [.int _, .int _]) C hX hax (fun T _ => c_X5_setHints _ _ ad M T hI _ _) (fun T v H' hT hq => y_qW hT hq) hB.xA kc_X5_setHints wb_p389 ⟨by decide, by decide⟩ ⟨by omega, by omega⟩ (Nat.le_of_ble_eq_true rfl) dL_law_735 (fun H735 hX735 hF735 => ?_)
  replace hX := hX735
  replace hB := hB.fr hF735
  refine z_iload C dL_law_738 rfl ?_
  refine z_icmp_eq C 745 dL_law_740 (by decide) (fun h740 => ?_) (fun h740 => ?_)
  · refine z_goto C 906 dL_law_745 (by decide) ?_
    refine z_widen (k2 := cells + 6) (n2 := slots + 102) (by omega) (by omega) ?_
    first
      | exact z_sub [(0, .ref b), (1, .ref ax), (2, .int (nI nR)), (3, .int (nI (1 + j))), (4, .int (nI j2)), (5, .int (nI e0))] ⟨rfl, rfl, rfl, rfl, rfl, rfl, trivial⟩ (hn _ _ _ (y_End.g ⟨ad, hax, hX, hB⟩ (m_I_setHints hI _ _) (y_Nx.of (m_I_setHints hI _ _) (y_J_setHints hI hJ)) (lw_hh hI (Nat.le_refl _) ht (hn_setHints hH).1 (hn_setHints hH).2) (by rw [y_sh hI (y_inW (n := 30) hj (by omega)) (y_in0 (n := 30) (by omega) (by omega))]; rfl) (by rw [y_sh hI (y_inW (n := 30) hj (by omega)) (y_in0 (n := 30) (by omega) (by omega))]; rfl)))
  · exact absurd (by rw [y_sh hI (y_inW (n := 30) hj (by omega)) (y_in0 (n := 30) (by omega) (by omega))]) h740
set_option maxHeartbeats 4000000 in
set_option maxRecDepth 100000 in
theorem yc_16 (C : z_C p s m args meth c cL_law "EscapeRoomsLaw" ret 17 nm G) (hS : y_S G s.heap.size ax nR nD nK nG M t4 H) (hI : m_I nR nD nK nG M) (hJ : y_J nD nK nG M) (hH : m_Hn M nG n) (ht : t4 = nI n) (hn1 : n ≤ 1000) (hR : 3 ≤ nR) (hw : w < nG) (hd : d < nD) (hk : k < nK) (hc : cells + 6 ≤ room_1.cells ∧ slots + 102 ≤ room_1.slots) (hn : ∀ bs st H', y_End G s.heap.size ax nR nD nK nG n bs st H' → z_Z p l e room_1 s m args below meth c (fun q => s.heap.size ≤ q) 17 (cells + 6) (slots + 102) Q H' 906 [(0, .ref b), (1, .ref ax), (2, .int (nI nR)), (3, .int bs), (4, .int st), (5, .int (nI e0))] []) : z_Z p l e room_1 s m args below meth c (fun q => s.heap.size ≤ q) 17 cells slots Q H 748 [(0, .ref b), (1, .ref ax), (2, .int (nI nR)), (3, .int (M.1 20)), (4, .int (M.1 21)), (5, .int (nI e0)), (6, .int xg), (7, .int xh), (8, .int sv), (9, .int (nI w)), (10, .int (nI d)), (11, .int (nI k))] [] := by
  obtain ⟨ad, hax, hX, hB⟩ := hS
  have hs := y_nsm hI
  refine z_aload_n C dL_law_748 rfl ?_
  refine z_iload C dL_law_749 rfl ?_
  refine z_iconst (v := 2) C dL_law_751 (by decide) ?_
  refine y_callR (As := [.int _, .int _]) C hX hax (fun T _ => c_X5_group _ _ ad M T hI _ _) kc_X5_group wb_p410 ⟨by decide, by decide⟩ ⟨by omega, by omega⟩ (Nat.le_of_ble_eq_true rfl) dL_law_752 ?_
  rw [y_g2 hI hw]
  refine z_istore C dL_law_755 (by decide) ?_
  refine z_iconst (v := 1) C dL_law_757 (by decide) ?_
  refine z_iload C dL_law_758 rfl ?_
  refine z_sipush (v := 1000) C dL_law_760 (by decide) ?_
  refine z_callSR (As := [.int _, .int _]) C (c_L_low _ _ _ _ (by decide)) kc_L_low wb_p518 ⟨by decide, by decide⟩ trivial ⟨by omega, by omega⟩ (Nat.le_of_ble_eq_true rfl) dL_law_763 ?_
  obtain ⟨j, hj, ej⟩ := y_low_lt (v := xg) (n := 1000) (by omega) (by omega)
  rw [show y_low (xg) 1000 = nI j from ej]
  refine z_iadd C dL_law_766 ?_
  refine z_eqst (st2 := [.int (nI (1 + j))]) (by rw [show nI (1 + j) = 1 + nI j from (nI_add 1 j).symm]) ?_
  refine z_istore C dL_law_767 (by decide) ?_
  refine z_join 784 (z_b (m_pl M (nI w))) ?_ (fun kJ784 => ?_)
  · refine z_istore C dL_law_784 (by decide) ?_
    refine z_aload_n C dL_law_786 rfl ?_
    refine z_iconst (v := 4) C dL_law_787 (by decide) ?_
    refine y_callR (As := [.int _]) C hX hax (fun T hT4 => c_X5_countR _ _ ad M T hI _ (by decide) (fun h => absurd h (by decide))) kc_X5_count wb_p434 ⟨by decide, by decide⟩ ⟨by omega, by omega⟩ (Nat.le_of_ble_eq_true rfl) dL_law_788 ?_
    rw [y_c4 hI]
    refine z_istore C dL_law_791 (by decide) ?_
    refine z_iload C dL_law_793 rfl ?_
    refine z_iconst (v := 3) C dL_law_795 (by decide) ?_
    refine z_iand C dL_law_796 ?_
    refine z_if_le C 843 dL_law_797 (by decide) (fun h797 => ?_) (fun h797 => ?_)
    · refine z_aload_n C dL_law_843 rfl ?_
      refine z_iload C dL_law_844 rfl ?_
      refine y_callW (As := [.int _]) C hX hax (fun T _ => c_X5_leave _ _ ad M T hI _) (fun T v H' hT hq => y_qW hT hq) hB.xA kc_X5_leave wb_p406 ⟨by decide, by decide⟩ ⟨by omega, by omega⟩ (Nat.le_of_ble_eq_true rfl) dL_law_846 (fun H846 hX846 hF846 => ?_)
      replace hX := hX846
      replace hB := hB.fr hF846
      have hI2 := m_I_leave hI (nI w)
      refine z_iload C dL_law_849 rfl ?_
      refine z_ifb_eq C 871 dL_law_851 (by decide) (fun h851 => ?_) (fun h851 => ?_)
      · refine z_bipush (v := (-4)) C dL_law_871 (by decide) ?_
        refine z_icmp_ne C 904 dL_law_873 (by decide) (fun h873 => ?_) (fun h873 => ?_)
        · first | exact absurd (by rw [y_lv0 hI hw, if_pos (And.intro h851 h863)]) h873 | exact absurd (by rw [y_lv0 hI hw, if_neg (fun q => h863 q.2)]) h873 | exact absurd (by rw [y_lv0 hI hw, if_neg (fun q => by rw [h851] at q; cases q.1)]) h873
        · refine z_iload C dL_law_876 rfl ?_
          refine z_ifb_eq C 906 dL_law_878 (by decide) (fun h878 => ?_) (fun h878 => ?_)
          · refine z_widen (k2 := cells + 6) (n2 := slots + 102) (by omega) (by omega) ?_
            first
              | exact z_sub [(0, .ref b), (1, .ref ax), (2, .int (nI nR)), (3, .int (M.1 20)), (4, .int (M.1 21)), (5, .int (nI e0))] ⟨rfl, rfl, rfl, rfl, rfl, rfl, trivial⟩ (hn _ _ _ (y_End.g ⟨ad, hax, hX, hB⟩ (m_I_idle hI _ _) (y_Nx.of (m_I_idle hI _ _) (y_J_idle hI hJ)) (lw_hh hI (Nat.le_refl _) ht (hn_idle hH).1 (hn_idle hH).2) (by rw [b_idle]) (by rw [b_idle])))
              | exact z_sub [(0, .ref b), (1, .ref ax), (2, .int (nI nR)), (3, .int (M.1 20)), (4, .int (M.1 21)), (5, .int (nI e0))] ⟨rfl, rfl, rfl, rfl, rfl, rfl, trivial⟩ (hn _ _ _ (y_End.g ⟨ad, hax, hX, hB⟩ (m_I_leave hI _) (y_Nx.of (m_I_leave hI _) (y_J_leave hI hJ hw)) (lw_hh hI (Nat.le_refl _) ht (hn_leave hH).1 (hn_leave hH).2) (by rw [b_leave]) (by rw [b_leave])))
          · refine z_aload_n C dL_law_881 rfl ?_
            refine z_iload C dL_law_882 rfl ?_
            refine z_iconst (v := 1) C dL_law_884 (by decide) ?_
            refine y_callR (As := [.int _, .int _]) C hX hax (fun T _ => c_X5_group _ _ ad (F_leave M (nI w)).2 T hI2 _ _) kc_X5_group wb_p410 ⟨by decide, by decide⟩ ⟨by omega, by omega⟩ (Nat.le_of_ble_eq_true rfl) dL_law_885 ?_
            rw [y_g1 hI2 hw, y_lv16 hI hw]
            refine z_iload C dL_law_888 rfl ?_
            refine z_icmp_ne C 906 dL_law_890 (by decide) (fun h890 => ?_) (fun h890 => ?_)
            · refine z_widen (k2 := cells + 6) (n2 := slots + 102) (by omega) (by omega) ?_
              first
                | exact z_sub [(0, .ref b), (1, .ref ax), (2, .int (nI nR)), (3, .int (M.1 20)), (4, .int (M.1 21)), (5, .int (nI e0))] ⟨rfl, rfl, rfl, rfl, rfl, rfl, trivial⟩ (hn _ _ _ (y_End.g ⟨ad, hax, hX, hB⟩ (m_I_idle hI _ _) (y_Nx.of (m_I_idle hI _ _) (y_J_idle hI hJ)) (lw_hh hI (Nat.le_refl _) ht (hn_idle hH).1 (hn_idle hH).2) (by rw [b_idle]) (by rw [b_idle])))
                | exact z_sub [(0, .ref b), (1, .ref ax), (2, .int (nI nR)), (3, .int (M.1 20)), (4, .int (M.1 21)), (5, .int (nI e0))] ⟨rfl, rfl, rfl, rfl, rfl, rfl, trivial⟩ (hn _ _ _ (y_End.g ⟨ad, hax, hX, hB⟩ (m_I_leave hI _) (y_Nx.of (m_I_leave hI _) (y_J_leave hI hJ hw)) (lw_hh hI (Nat.le_refl _) ht (hn_leave hH).1 (hn_leave hH).2) (by rw [b_leave]) (by rw [b_leave])))
            · refine z_aload_n C dL_law_893 rfl ?_
              refine z_iload C dL_law_894 rfl ?_
              refine z_iconst (v := 5) C dL_law_896 (by decide) ?_
              refine y_callR (As := [.int _, .int _]) C hX hax (fun T _ => c_X5_group _ _ ad (F_leave M (nI w)).2 T hI2 _ _) kc_X5_group wb_p410 ⟨by decide, by decide⟩ ⟨by omega, by omega⟩ (Nat.le_of_ble_eq_true rfl) dL_law_897 ?_
              rw [y_g5 hI2 hw]
              refine z_iconst (v := 1) C dL_law_900 (by decide) ?_
              refine z_icmp_eq C 906 dL_law_901 (by decide) (fun h901 => ?_) (fun h901 => ?_)
              · refine z_widen (k2 := cells + 6) (n2 := slots + 102) (by omega) (by omega) ?_
                first
                  | exact z_sub [(0, .ref b), (1, .ref ax), (2, .int (nI nR)), (3, .int (M.1 20)), (4, .int (M.1 21)), (5, .int (nI e0))] ⟨rfl, rfl, rfl, rfl, rfl, rfl, trivial⟩ (hn _ _ _ (y_End.g ⟨ad, hax, hX, hB⟩ (m_I_idle hI _ _) (y_Nx.of (m_I_idle hI _ _) (y_J_idle hI hJ)) (lw_hh hI (Nat.le_refl _) ht (hn_idle hH).1 (hn_idle hH).2) (by rw [b_idle]) (by rw [b_idle])))
                  | exact z_sub [(0, .ref b), (1, .ref ax), (2, .int (nI nR)), (3, .int (M.1 20)), (4, .int (M.1 21)), (5, .int (nI e0))] ⟨rfl, rfl, rfl, rfl, rfl, rfl, trivial⟩ (hn _ _ _ (y_End.g ⟨ad, hax, hX, hB⟩ (m_I_leave hI _) (y_Nx.of (m_I_leave hI _) (y_J_leave hI hJ hw)) (lw_hh hI (Nat.le_refl _) ht (hn_leave hH).1 (hn_leave hH).2) (by rw [b_leave]) (by rw [b_leave])))
              · exact absurd (by rw [y_lv0 hI hw, if_pos (And.intro h878 h890)]; show (m_sA M 19 w 1).2 19 w = 1; rw [m_sA_at]) h901
      · refine z_aload_n C dL_law_854 rfl ?_
        refine z_iload C dL_law_855 rfl ?_
        refine z_iconst (v := 1) C dL_law_857 (by decide) ?_
        refine y_callR (As := [.int _, .int _]) C hX hax (fun T _ => c_X5_group _ _ ad (F_leave M (nI w)).2 T hI2 _ _) kc_X5_group wb_p410 ⟨by decide, by decide⟩ ⟨by omega, by omega⟩ (Nat.le_of_ble_eq_true rfl) dL_law_858 ?_
        rw [y_g1 hI2 hw, y_lv16 hI hw]
        refine z_iload C dL_law_861 rfl ?_
        refine z_icmp_ne C 871 dL_law_863 (by decide) (fun h863 => ?_) (fun h863 => ?_)
        · refine z_bipush (v := (-4)) C dL_law_871 (by decide) ?_
          refine z_icmp_ne C 904 dL_law_873 (by decide) (fun h873 => ?_) (fun h873 => ?_)
          · first | exact absurd (by rw [y_lv0 hI hw, if_pos (And.intro h851 h863)]) h873 | exact absurd (by rw [y_lv0 hI hw, if_neg (fun q => h863 q.2)]) h873 | exact absurd (by rw [y_lv0 hI hw, if_neg (fun q => by rw [h851] at q; cases q.1)]) h873
          · refine z_iload C dL_law_876 rfl ?_
            refine z_ifb_eq C 906 dL_law_878 (by decide) (fun h878 => ?_) (fun h878 => ?_)
            · refine z_widen (k2 := cells + 6) (n2 := slots + 102) (by omega) (by omega) ?_
              first
                | exact z_sub [(0, .ref b), (1, .ref ax), (2, .int (nI nR)), (3, .int (M.1 20)), (4, .int (M.1 21)), (5, .int (nI e0))] ⟨rfl, rfl, rfl, rfl, rfl, rfl, trivial⟩ (hn _ _ _ (y_End.g ⟨ad, hax, hX, hB⟩ (m_I_idle hI _ _) (y_Nx.of (m_I_idle hI _ _) (y_J_idle hI hJ)) (lw_hh hI (Nat.le_refl _) ht (hn_idle hH).1 (hn_idle hH).2) (by rw [b_idle]) (by rw [b_idle])))
                | exact z_sub [(0, .ref b), (1, .ref ax), (2, .int (nI nR)), (3, .int (M.1 20)), (4, .int (M.1 21)), (5, .int (nI e0))] ⟨rfl, rfl, rfl, rfl, rfl, rfl, trivial⟩ (hn _ _ _ (y_End.g ⟨ad, hax, hX, hB⟩ (m_I_leave hI _) (y_Nx.of (m_I_leave hI _) (y_J_leave hI hJ hw)) (lw_hh hI (Nat.le_refl _) ht (hn_leave hH).1 (hn_leave hH).2) (by rw [b_leave]) (by rw [b_leave])))
            · refine z_aload_n C dL_law_881 rfl ?_
              refine z_iload C dL_law_882 rfl ?_
              refine z_iconst (v := 1) C dL_law_884 (by decide) ?_
              refine y_callR (As := [.int _, .int _]) C hX hax (fun T _ => c_X5_group _ _ ad (F_leave M (nI w)).2 T hI2 _ _) kc_X5_group wb_p410 ⟨by decide, by decide⟩ ⟨by omega, by omega⟩ (Nat.le_of_ble_eq_true rfl) dL_law_885 ?_
              rw [y_g1 hI2 hw, y_lv16 hI hw]
              refine z_iload C dL_law_888 rfl ?_
              refine z_icmp_ne C 906 dL_law_890 (by decide) (fun h890 => ?_) (fun h890 => ?_)
              · refine z_widen (k2 := cells + 6) (n2 := slots + 102) (by omega) (by omega) ?_
                first
                  | exact z_sub [(0, .ref b), (1, .ref ax), (2, .int (nI nR)), (3, .int (M.1 20)), (4, .int (M.1 21)), (5, .int (nI e0))] ⟨rfl, rfl, rfl, rfl, rfl, rfl, trivial⟩ (hn _ _ _ (y_End.g ⟨ad, hax, hX, hB⟩ (m_I_idle hI _ _) (y_Nx.of (m_I_idle hI _ _) (y_J_idle hI hJ)) (lw_hh hI (Nat.le_refl _) ht (hn_idle hH).1 (hn_idle hH).2) (by rw [b_idle]) (by rw [b_idle])))
                  | exact z_sub [(0, .ref b), (1, .ref ax), (2, .int (nI nR)), (3, .int (M.1 20)), (4, .int (M.1 21)), (5, .int (nI e0))] ⟨rfl, rfl, rfl, rfl, rfl, rfl, trivial⟩ (hn _ _ _ (y_End.g ⟨ad, hax, hX, hB⟩ (m_I_leave hI _) (y_Nx.of (m_I_leave hI _) (y_J_leave hI hJ hw)) (lw_hh hI (Nat.le_refl _) ht (hn_leave hH).1 (hn_leave hH).2) (by rw [b_leave]) (by rw [b_leave])))
              · refine z_aload_n C dL_law_893 rfl ?_
                refine z_iload C dL_law_894 rfl ?_
                refine z_iconst (v := 5) C dL_law_896 (by decide) ?_
                refine y_callR (As := [.int _, .int _]) C hX hax (fun T _ => c_X5_group _ _ ad (F_leave M (nI w)).2 T hI2 _ _) kc_X5_group wb_p410 ⟨by decide, by decide⟩ ⟨by omega, by omega⟩ (Nat.le_of_ble_eq_true rfl) dL_law_897 ?_
                rw [y_g5 hI2 hw]
                refine z_iconst (v := 1) C dL_law_900 (by decide) ?_
                refine z_icmp_eq C 906 dL_law_901 (by decide) (fun h901 => ?_) (fun h901 => ?_)
                · refine z_widen (k2 := cells + 6) (n2 := slots + 102) (by omega) (by omega) ?_
                  first
                    | exact z_sub [(0, .ref b), (1, .ref ax), (2, .int (nI nR)), (3, .int (M.1 20)), (4, .int (M.1 21)), (5, .int (nI e0))] ⟨rfl, rfl, rfl, rfl, rfl, rfl, trivial⟩ (hn _ _ _ (y_End.g ⟨ad, hax, hX, hB⟩ (m_I_idle hI _ _) (y_Nx.of (m_I_idle hI _ _) (y_J_idle hI hJ)) (lw_hh hI (Nat.le_refl _) ht (hn_idle hH).1 (hn_idle hH).2) (by rw [b_idle]) (by rw [b_idle])))
                    | exact z_sub [(0, .ref b), (1, .ref ax), (2, .int (nI nR)), (3, .int (M.1 20)), (4, .int (M.1 21)), (5, .int (nI e0))] ⟨rfl, rfl, rfl, rfl, rfl, rfl, trivial⟩ (hn _ _ _ (y_End.g ⟨ad, hax, hX, hB⟩ (m_I_leave hI _) (y_Nx.of (m_I_leave hI _) (y_J_leave hI hJ hw)) (lw_hh hI (Nat.le_refl _) ht (hn_leave hH).1 (hn_leave hH).2) (by rw [b_leave]) (by rw [b_leave])))
                · exact absurd (by rw [y_lv0 hI hw, if_pos (And.intro h878 h890)]; show (m_sA M 19 w 1).2 19 w = 1; rw [m_sA_at]) h901
        · refine z_iload C dL_law_866 rfl ?_
          refine z_goto C 873 dL_law_868 (by decide) ?_
          refine z_icmp_ne C 904 dL_law_873 (by decide) (fun h873 => ?_) (fun h873 => ?_)
          · first | exact absurd (by rw [y_lv0 hI hw, if_pos (And.intro h851 h863)]) h873 | exact absurd (by rw [y_lv0 hI hw, if_neg (fun q => h863 q.2)]) h873 | exact absurd (by rw [y_lv0 hI hw, if_neg (fun q => by rw [h851] at q; cases q.1)]) h873
          · refine z_iload C dL_law_876 rfl ?_
            refine z_ifb_eq C 906 dL_law_878 (by decide) (fun h878 => ?_) (fun h878 => ?_)
            · refine z_widen (k2 := cells + 6) (n2 := slots + 102) (by omega) (by omega) ?_
              first
                | exact z_sub [(0, .ref b), (1, .ref ax), (2, .int (nI nR)), (3, .int (M.1 20)), (4, .int (M.1 21)), (5, .int (nI e0))] ⟨rfl, rfl, rfl, rfl, rfl, rfl, trivial⟩ (hn _ _ _ (y_End.g ⟨ad, hax, hX, hB⟩ (m_I_idle hI _ _) (y_Nx.of (m_I_idle hI _ _) (y_J_idle hI hJ)) (lw_hh hI (Nat.le_refl _) ht (hn_idle hH).1 (hn_idle hH).2) (by rw [b_idle]) (by rw [b_idle])))
                | exact z_sub [(0, .ref b), (1, .ref ax), (2, .int (nI nR)), (3, .int (M.1 20)), (4, .int (M.1 21)), (5, .int (nI e0))] ⟨rfl, rfl, rfl, rfl, rfl, rfl, trivial⟩ (hn _ _ _ (y_End.g ⟨ad, hax, hX, hB⟩ (m_I_leave hI _) (y_Nx.of (m_I_leave hI _) (y_J_leave hI hJ hw)) (lw_hh hI (Nat.le_refl _) ht (hn_leave hH).1 (hn_leave hH).2) (by rw [b_leave]) (by rw [b_leave])))
            · refine z_aload_n C dL_law_881 rfl ?_
              refine z_iload C dL_law_882 rfl ?_
              refine z_iconst (v := 1) C dL_law_884 (by decide) ?_
              refine y_callR (As := [.int _, .int _]) C hX hax (fun T _ => c_X5_group _ _ ad (F_leave M (nI w)).2 T hI2 _ _) kc_X5_group wb_p410 ⟨by decide, by decide⟩ ⟨by omega, by omega⟩ (Nat.le_of_ble_eq_true rfl) dL_law_885 ?_
              rw [y_g1 hI2 hw, y_lv16 hI hw]
              refine z_iload C dL_law_888 rfl ?_
              refine z_icmp_ne C 906 dL_law_890 (by decide) (fun h890 => ?_) (fun h890 => ?_)
              · refine z_widen (k2 := cells + 6) (n2 := slots + 102) (by omega) (by omega) ?_
                first
                  | exact z_sub [(0, .ref b), (1, .ref ax), (2, .int (nI nR)), (3, .int (M.1 20)), (4, .int (M.1 21)), (5, .int (nI e0))] ⟨rfl, rfl, rfl, rfl, rfl, rfl, trivial⟩ (hn _ _ _ (y_End.g ⟨ad, hax, hX, hB⟩ (m_I_idle hI _ _) (y_Nx.of (m_I_idle hI _ _) (y_J_idle hI hJ)) (lw_hh hI (Nat.le_refl _) ht (hn_idle hH).1 (hn_idle hH).2) (by rw [b_idle]) (by rw [b_idle])))
                  | exact z_sub [(0, .ref b), (1, .ref ax), (2, .int (nI nR)), (3, .int (M.1 20)), (4, .int (M.1 21)), (5, .int (nI e0))] ⟨rfl, rfl, rfl, rfl, rfl, rfl, trivial⟩ (hn _ _ _ (y_End.g ⟨ad, hax, hX, hB⟩ (m_I_leave hI _) (y_Nx.of (m_I_leave hI _) (y_J_leave hI hJ hw)) (lw_hh hI (Nat.le_refl _) ht (hn_leave hH).1 (hn_leave hH).2) (by rw [b_leave]) (by rw [b_leave])))
              · refine z_aload_n C dL_law_893 rfl ?_
                refine z_iload C dL_law_894 rfl ?_
                refine z_iconst (v := 5) C dL_law_896 (by decide) ?_
                refine y_callR (As := [.int _, .int _]) C hX hax (fun T _ => c_X5_group _ _ ad (F_leave M (nI w)).2 T hI2 _ _) kc_X5_group wb_p410 ⟨by decide, by decide⟩ ⟨by omega, by omega⟩ (Nat.le_of_ble_eq_true rfl) dL_law_897 ?_
                rw [y_g5 hI2 hw]
                refine z_iconst (v := 1) C dL_law_900 (by decide) ?_
                refine z_icmp_eq C 906 dL_law_901 (by decide) (fun h901 => ?_) (fun h901 => ?_)
                · refine z_widen (k2 := cells + 6) (n2 := slots + 102) (by omega) (by omega) ?_
                  first
                    | exact z_sub [(0, .ref b), (1, .ref ax), (2, .int (nI nR)), (3, .int (M.1 20)), (4, .int (M.1 21)), (5, .int (nI e0))] ⟨rfl, rfl, rfl, rfl, rfl, rfl, trivial⟩ (hn _ _ _ (y_End.g ⟨ad, hax, hX, hB⟩ (m_I_idle hI _ _) (y_Nx.of (m_I_idle hI _ _) (y_J_idle hI hJ)) (lw_hh hI (Nat.le_refl _) ht (hn_idle hH).1 (hn_idle hH).2) (by rw [b_idle]) (by rw [b_idle])))
                    | exact z_sub [(0, .ref b), (1, .ref ax), (2, .int (nI nR)), (3, .int (M.1 20)), (4, .int (M.1 21)), (5, .int (nI e0))] ⟨rfl, rfl, rfl, rfl, rfl, rfl, trivial⟩ (hn _ _ _ (y_End.g ⟨ad, hax, hX, hB⟩ (m_I_leave hI _) (y_Nx.of (m_I_leave hI _) (y_J_leave hI hJ hw)) (lw_hh hI (Nat.le_refl _) ht (hn_leave hH).1 (hn_leave hH).2) (by rw [b_leave]) (by rw [b_leave])))
                · exact absurd (by rw [y_lv0 hI hw, if_pos (And.intro h878 h890)]; show (m_sA M 19 w 1).2 19 w = 1; rw [m_sA_at]) h901
    · refine z_aload_n C dL_law_800 rfl ?_
      refine z_iload C dL_law_801 rfl ?_
      refine z_iload C dL_law_803 rfl ?_
      refine y_callW (As := [.int _, .int _]) C hX hax (fun T _ => c_X5_idle _ _ ad M T hI _ _) (fun T v H' hT hq => y_qW hT hq) hB.xA kc_X5_idle wb_p393 ⟨by decide, by decide⟩ ⟨by omega, by omega⟩ (Nat.le_of_ble_eq_true rfl) dL_law_805 (fun H805 hX805 hF805 => ?_)
      replace hX := hX805
      replace hB := hB.fr hF805
      refine z_iload C dL_law_808 rfl ?_
      refine z_ifb_ne C 818 dL_law_810 (by decide) (fun h810 => ?_) (fun h810 => ?_)
      · refine z_iload C dL_law_818 rfl ?_
        refine z_iload C dL_law_820 rfl ?_
        refine z_iadd C dL_law_822 ?_
        refine z_ldc C wb_p533 dL_law_823 ?_
        refine z_icmp_le C 833 dL_law_825 (by decide) (fun h825 => ?_) (fun h825 => ?_)
        · refine z_iload C dL_law_833 rfl ?_
          refine z_iload C dL_law_835 rfl ?_
          refine z_iadd C dL_law_837 ?_
          refine z_icmp_eq C 906 dL_law_838 (by decide) (fun h838 => ?_) (fun h838 => ?_)
          · refine z_widen (k2 := cells + 6) (n2 := slots + 102) (by omega) (by omega) ?_
            first
              | exact z_sub [(0, .ref b), (1, .ref ax), (2, .int (nI nR)), (3, .int (M.1 20)), (4, .int (M.1 21)), (5, .int (nI e0))] ⟨rfl, rfl, rfl, rfl, rfl, rfl, trivial⟩ (hn _ _ _ (y_End.g ⟨ad, hax, hX, hB⟩ (m_I_idle hI _ _) (y_Nx.of (m_I_idle hI _ _) (y_J_idle hI hJ)) (lw_hh hI (Nat.le_refl _) ht (hn_idle hH).1 (hn_idle hH).2) (by rw [b_idle]) (by rw [b_idle])))
              | exact z_sub [(0, .ref b), (1, .ref ax), (2, .int (nI nR)), (3, .int (M.1 20)), (4, .int (M.1 21)), (5, .int (nI e0))] ⟨rfl, rfl, rfl, rfl, rfl, rfl, trivial⟩ (hn _ _ _ (y_End.g ⟨ad, hax, hX, hB⟩ (m_I_leave hI _) (y_Nx.of (m_I_leave hI _) (y_J_leave hI hJ hw)) (lw_hh hI (Nat.le_refl _) ht (hn_leave hH).1 (hn_leave hH).2) (by rw [b_leave]) (by rw [b_leave])))
          · first | exact absurd (by rw [y_id0 hI hw (y_inW (n := 1000) hj (by omega)), h810]; rfl) h838 | exact absurd (by rw [y_id0 hI hw (y_inW (n := 1000) hj (by omega)), if_pos h810, if_pos h825]) h838 | exact absurd (by rw [y_id0 hI hw (y_inW (n := 1000) hj (by omega)), if_pos h810, if_neg h825]) h838
        · refine z_bipush (v := (-5)) C dL_law_828 (by decide) ?_
          refine z_goto C 838 dL_law_830 (by decide) ?_
          refine z_icmp_eq C 906 dL_law_838 (by decide) (fun h838 => ?_) (fun h838 => ?_)
          · refine z_widen (k2 := cells + 6) (n2 := slots + 102) (by omega) (by omega) ?_
            first
              | exact z_sub [(0, .ref b), (1, .ref ax), (2, .int (nI nR)), (3, .int (M.1 20)), (4, .int (M.1 21)), (5, .int (nI e0))] ⟨rfl, rfl, rfl, rfl, rfl, rfl, trivial⟩ (hn _ _ _ (y_End.g ⟨ad, hax, hX, hB⟩ (m_I_idle hI _ _) (y_Nx.of (m_I_idle hI _ _) (y_J_idle hI hJ)) (lw_hh hI (Nat.le_refl _) ht (hn_idle hH).1 (hn_idle hH).2) (by rw [b_idle]) (by rw [b_idle])))
              | exact z_sub [(0, .ref b), (1, .ref ax), (2, .int (nI nR)), (3, .int (M.1 20)), (4, .int (M.1 21)), (5, .int (nI e0))] ⟨rfl, rfl, rfl, rfl, rfl, rfl, trivial⟩ (hn _ _ _ (y_End.g ⟨ad, hax, hX, hB⟩ (m_I_leave hI _) (y_Nx.of (m_I_leave hI _) (y_J_leave hI hJ hw)) (lw_hh hI (Nat.le_refl _) ht (hn_leave hH).1 (hn_leave hH).2) (by rw [b_leave]) (by rw [b_leave])))
          · first | exact absurd (by rw [y_id0 hI hw (y_inW (n := 1000) hj (by omega)), h810]; rfl) h838 | exact absurd (by rw [y_id0 hI hw (y_inW (n := 1000) hj (by omega)), if_pos h810, if_pos h825]) h838 | exact absurd (by rw [y_id0 hI hw (y_inW (n := 1000) hj (by omega)), if_pos h810, if_neg h825]) h838
      · refine z_bipush (v := (-4)) C dL_law_813 (by decide) ?_
        refine z_goto C 838 dL_law_815 (by decide) ?_
        refine z_icmp_eq C 906 dL_law_838 (by decide) (fun h838 => ?_) (fun h838 => ?_)
        · refine z_widen (k2 := cells + 6) (n2 := slots + 102) (by omega) (by omega) ?_
          first
            | exact z_sub [(0, .ref b), (1, .ref ax), (2, .int (nI nR)), (3, .int (M.1 20)), (4, .int (M.1 21)), (5, .int (nI e0))] ⟨rfl, rfl, rfl, rfl, rfl, rfl, trivial⟩ (hn _ _ _ (y_End.g ⟨ad, hax, hX, hB⟩ (m_I_idle hI _ _) (y_Nx.of (m_I_idle hI _ _) (y_J_idle hI hJ)) (lw_hh hI (Nat.le_refl _) ht (hn_idle hH).1 (hn_idle hH).2) (by rw [b_idle]) (by rw [b_idle])))
            | exact z_sub [(0, .ref b), (1, .ref ax), (2, .int (nI nR)), (3, .int (M.1 20)), (4, .int (M.1 21)), (5, .int (nI e0))] ⟨rfl, rfl, rfl, rfl, rfl, rfl, trivial⟩ (hn _ _ _ (y_End.g ⟨ad, hax, hX, hB⟩ (m_I_leave hI _) (y_Nx.of (m_I_leave hI _) (y_J_leave hI hJ hw)) (lw_hh hI (Nat.le_refl _) ht (hn_leave hH).1 (hn_leave hH).2) (by rw [b_leave]) (by rw [b_leave])))
        · first | exact absurd (by rw [y_id0 hI hw (y_inW (n := 1000) hj (by omega)), h810]; rfl) h838 | exact absurd (by rw [y_id0 hI hw (y_inW (n := 1000) hj (by omega)), if_pos h810, if_pos h825]) h838 | exact absurd (by rw [y_id0 hI hw (y_inW (n := 1000) hj (by omega)), if_pos h810, if_neg h825]) h838
  · refine z_aload_n C dL_law_769 rfl ?_
    refine z_iload C dL_law_770 rfl ?_
    refine z_iconst (v := 5) C dL_law_772 (by decide) ?_
    refine y_callR (As := [.int _, .int _]) C hX hax (fun T _ => c_X5_group _ _ ad M T hI _ _) kc_X5_group wb_p410 ⟨by decide, by decide⟩ ⟨by omega, by omega⟩ (Nat.le_of_ble_eq_true rfl) dL_law_773 ?_
    rw [y_g5 hI hw]
    refine z_if_ne C 783 dL_law_776 (by decide) (fun h776 => ?_) (fun h776 => ?_)
    · refine z_iconst (v := 0) C dL_law_783 (by decide) ?_
      exact z_joinE kJ784 (by simp [z_b, m_pl, y_cg hI hw, *])
    · refine z_iconst (v := 1) C dL_law_779 (by decide) ?_
      refine z_goto C 784 dL_law_780 (by decide) ?_
      exact z_joinE kJ784 (by simp [z_b, m_pl, y_cg hI hw, *])
end YCS
