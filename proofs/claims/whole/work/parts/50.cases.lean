/-! the law's cases -/
def lw_H (s : State) (b L : Nat) (xs : Nat → Int32) (i : Nat) : Prop := va_X b L xs s s.heap ∧ b < s.heap.size ∧ 6 * i + 5 < L ∧ L ≤ 3072
section LCS
variable {p : Program} {l : Launch} {e : Env} {s : State} {m : MethodId} {args : Array Value} {below : List Frame} {meth : Method} {c : Code} {cells slots : Nat} {Q : State → Prop} {H : Heap} {nm : String} {G : z_G} {b L i ax a0 : Nat} {xs : Nat → Int32}
theorem z_sld {R : Room} {pc j : Nat} {Lo : List (Nat × Value)} {v : Int32} {rest : List Value} (C : z_C p s m args meth c cL_law "EscapeRoomsLaw" ret 4 nm G) (hb : lw_H s b L xs i) (hv : v = nI j) (hj : j < 6 * i + 6) (hdg : decode cL_law pc = .ok (.iaload, 1)) (kk : z_Z p l e R s m args below meth c (fun q => s.heap.size ≤ q) 4 cells slots Q H (pc + 1) Lo (.int (xs j) :: rest)) : z_Z p l e R s m args below meth c (fun q => s.heap.size ≤ q) 4 cells slots Q H pc Lo (.int v :: .ref b :: rest) := by
  subst hv
  obtain ⟨hX, hbl, h1, h2⟩ := hb
  intro ls locs hl hS
  have hc : (nI j).toNatClampNeg = j := nI_clamp (by omega)
  have K := kk ls locs hl hS
  rw [← hc] at K
  exact va_sld C.1 C.2.1 hX hbl (Nat.not_le.mpr hbl) hS (vp_in_nI (by omega) (by omega)) hdg K

set_option maxHeartbeats 4000000 in
set_option maxRecDepth 100000 in
theorem lc_0 (C : z_C p s m args meth c cL_law "EscapeRoomsLaw" ret 4 nm G) (hb : lw_H s b L xs i) (hJ : lw_J G s.heap.size ax a0 i H) (hc : cells + 2 ≤ room_1.cells ∧ slots + 34 ≤ room_1.slots) (hn : ∀ H', lw_J G s.heap.size ax a0 (i + 1) H' → z_Z p l e room_1 s m args below meth c (fun q => s.heap.size ≤ q) 4 (cells + 2) (slots + 34) Q H' 943 [(0, .ref b), (1, .ref ax), (2, .ref a0), (3, .int (nI (6 * i)))] []) : z_Z p l e room_1 s m args below meth c (fun q => s.heap.size ≤ q) 4 cells slots Q H 148 [(0, .ref b), (1, .ref ax), (2, .ref a0), (3, .int (nI (6 * i)))] [] := by
  obtain ⟨ad, am, M, T, nR, nD, nK, nG, n0, hJI⟩ := hJ
  have hO := hJI.out
  have hJ2 := hJI
  obtain ⟨⟨hX, hR, hI, hH, hn0, hT4⟩, ⟨rfl, rfl⟩, -, -, -, hE, -⟩ := hJ2
  have hb5 := hb.2.2
  refine z_aload_n C dL_law_148 rfl ?_
  refine z_callV (As := []) C (c_X5_addRoom _ _ ad M T hI _ hO) kc_X5_addRoom wb_125 ⟨by decide, by decide⟩ hX.1.1 rfl (⟨rfl, hX, hE⟩) hJI.xG ⟨by omega, by omega⟩ (Nat.le_of_ble_eq_true rfl) dL_law_149 (fun v H1 hq hz1 hf1 => ?_)
  obtain ⟨rfl, hX1⟩ := hq
  have hR1 := hJI.mid (fun q hq => hq) hf1
  refine z_aload_n C dL_law_152 rfl ?_
  refine z_callV (As := []) C (c_X6_addRoom _ _ am M) kc_X6_addRoom wb_733 ⟨by decide, by decide⟩ hR1.1 rfl hR1 hJI.mA ⟨by omega, by omega⟩ (Nat.le_of_ble_eq_true rfl) dL_law_153 (fun v H2 hq _ hf2 => ?_)
  obtain ⟨rfl, hR2⟩ := hq
  refine z_icmp_eq C 943 dL_law_156 (by decide) (fun h156 => ?_) (fun h156 => ?_)
  · refine z_widen (k2 := cells + 2) (n2 := slots + 34) (by omega) (by omega) ?_
    exact hn _ (hJI.step (fun q hq => hq) hf1 hz1 (x_Gt.g hX1 hT4) hf2 ⟨_, m_Q.refl, hR2⟩ (lw_hh hI hn0 rfl (hn_addRoom hH).1 (hn_addRoom hH).2))
  · exact absurd rfl h156
set_option maxHeartbeats 4000000 in
set_option maxRecDepth 100000 in
theorem lc_1 (C : z_C p s m args meth c cL_law "EscapeRoomsLaw" ret 4 nm G) (hb : lw_H s b L xs i) (hJ : lw_J G s.heap.size ax a0 i H) (hc : cells + 2 ≤ room_1.cells ∧ slots + 34 ≤ room_1.slots) (hn : ∀ H', lw_J G s.heap.size ax a0 (i + 1) H' → z_Z p l e room_1 s m args below meth c (fun q => s.heap.size ≤ q) 4 (cells + 2) (slots + 34) Q H' 943 [(0, .ref b), (1, .ref ax), (2, .ref a0), (3, .int (nI (6 * i)))] []) : z_Z p l e room_1 s m args below meth c (fun q => s.heap.size ≤ q) 4 cells slots Q H 161 [(0, .ref b), (1, .ref ax), (2, .ref a0), (3, .int (nI (6 * i)))] [] := by
  obtain ⟨ad, am, M, T, nR, nD, nK, nG, n0, hJI⟩ := hJ
  have hO := hJI.out
  have hJ2 := hJI
  obtain ⟨⟨hX, hR, hI, hH, hn0, hT4⟩, ⟨rfl, rfl⟩, -, -, -, hE, -⟩ := hJ2
  have hb5 := hb.2.2
  refine z_aload_n C dL_law_161 rfl ?_
  refine z_aload_n C dL_law_162 rfl ?_
  refine z_iload_n C dL_law_163 rfl ?_
  refine z_iconst (v := 1) C dL_law_164 (by decide) ?_
  refine z_iadd C dL_law_165 ?_
  refine z_sld (j := 6 * i + 1) C hb (by exact nI_add (6 * i) 1) (by omega) dL_law_166 ?_
  refine z_callV (As := [.int _]) C (c_X5_setExit _ _ ad M T hI _) kc_X5_setExit wb_210 ⟨by decide, by decide⟩ hX.1.1 rfl (hX) hJI.xA ⟨by omega, by omega⟩ (Nat.le_of_ble_eq_true rfl) dL_law_167 (fun v H1 hq hz1 hf1 => ?_)
  obtain ⟨rfl, hX1⟩ := hq
  have hR1 := hJI.mid (fun q hq => Or.inl hq) hf1
  refine z_aload_n C dL_law_170 rfl ?_
  refine z_aload_n C dL_law_171 rfl ?_
  refine z_iload_n C dL_law_172 rfl ?_
  refine z_iconst (v := 1) C dL_law_173 (by decide) ?_
  refine z_iadd C dL_law_174 ?_
  refine z_sld (j := 6 * i + 1) C hb (by exact nI_add (6 * i) 1) (by omega) dL_law_175 ?_
  refine z_callV (As := [.int _]) C (c_X6_setExit _ _ am M _) kc_X6_setExit wb_737 ⟨by decide, by decide⟩ hR1.1 rfl hR1 hJI.mA ⟨by omega, by omega⟩ (Nat.le_of_ble_eq_true rfl) dL_law_176 (fun v H2 hq _ hf2 => ?_)
  obtain ⟨rfl, hR2⟩ := hq
  refine z_icmp_eq C 943 dL_law_179 (by decide) (fun h179 => ?_) (fun h179 => ?_)
  · refine z_widen (k2 := cells + 2) (n2 := slots + 34) (by omega) (by omega) ?_
    exact hn _ (hJI.step (fun q hq => Or.inl hq) hf1 hz1 (x_Gt.w hX1 (m_I_setExit hI _) hT4) hf2 ⟨_, m_Q.refl, hR2⟩ (lw_hh hI hn0 rfl (hn_setExit hH).1 (hn_setExit hH).2))
  · exact absurd rfl h179
set_option maxHeartbeats 4000000 in
set_option maxRecDepth 100000 in
theorem lc_2 (C : z_C p s m args meth c cL_law "EscapeRoomsLaw" ret 4 nm G) (hb : lw_H s b L xs i) (hJ : lw_J G s.heap.size ax a0 i H) (hc : cells + 2 ≤ room_1.cells ∧ slots + 34 ≤ room_1.slots) (hn : ∀ H', lw_J G s.heap.size ax a0 (i + 1) H' → z_Z p l e room_1 s m args below meth c (fun q => s.heap.size ≤ q) 4 (cells + 2) (slots + 34) Q H' 943 [(0, .ref b), (1, .ref ax), (2, .ref a0), (3, .int (nI (6 * i)))] []) : z_Z p l e room_1 s m args below meth c (fun q => s.heap.size ≤ q) 4 cells slots Q H 184 [(0, .ref b), (1, .ref ax), (2, .ref a0), (3, .int (nI (6 * i)))] [] := by
  obtain ⟨ad, am, M, T, nR, nD, nK, nG, n0, hJI⟩ := hJ
  have hO := hJI.out
  have hJ2 := hJI
  obtain ⟨⟨hX, hR, hI, hH, hn0, hT4⟩, ⟨rfl, rfl⟩, -, -, -, hE, -⟩ := hJ2
  have hb5 := hb.2.2
  refine z_aload_n C dL_law_184 rfl ?_
  refine z_aload_n C dL_law_185 rfl ?_
  refine z_iload_n C dL_law_186 rfl ?_
  refine z_iconst (v := 1) C dL_law_187 (by decide) ?_
  refine z_iadd C dL_law_188 ?_
  refine z_sld (j := 6 * i + 1) C hb (by exact nI_add (6 * i) 1) (by omega) dL_law_189 ?_
  refine z_aload_n C dL_law_190 rfl ?_
  refine z_iload_n C dL_law_191 rfl ?_
  refine z_iconst (v := 2) C dL_law_192 (by decide) ?_
  refine z_iadd C dL_law_193 ?_
  refine z_sld (j := 6 * i + 2) C hb (by exact nI_add (6 * i) 2) (by omega) dL_law_194 ?_
  refine z_aload_n C dL_law_195 rfl ?_
  refine z_iload_n C dL_law_196 rfl ?_
  refine z_iconst (v := 3) C dL_law_197 (by decide) ?_
  refine z_iadd C dL_law_198 ?_
  refine z_sld (j := 6 * i + 3) C hb (by exact nI_add (6 * i) 3) (by omega) dL_law_199 ?_
  refine z_callV (As := [.int _, .int _, .int _]) C (c_X5_addDoor _ _ ad M T hI _ hO _ _ _) kc_X5_addDoor wb_236 ⟨by decide, by decide⟩ hX.1.1 rfl (⟨rfl, hX, hE⟩) hJI.xG ⟨by omega, by omega⟩ (Nat.le_of_ble_eq_true rfl) dL_law_200 (fun v H1 hq hz1 hf1 => ?_)
  obtain ⟨rfl, hX1⟩ := hq
  have hR1 := hJI.mid (fun q hq => hq) hf1
  refine z_aload_n C dL_law_203 rfl ?_
  refine z_aload_n C dL_law_204 rfl ?_
  refine z_iload_n C dL_law_205 rfl ?_
  refine z_iconst (v := 1) C dL_law_206 (by decide) ?_
  refine z_iadd C dL_law_207 ?_
  refine z_sld (j := 6 * i + 1) C hb (by exact nI_add (6 * i) 1) (by omega) dL_law_208 ?_
  refine z_aload_n C dL_law_209 rfl ?_
  refine z_iload_n C dL_law_210 rfl ?_
  refine z_iconst (v := 2) C dL_law_211 (by decide) ?_
  refine z_iadd C dL_law_212 ?_
  refine z_sld (j := 6 * i + 2) C hb (by exact nI_add (6 * i) 2) (by omega) dL_law_213 ?_
  refine z_aload_n C dL_law_214 rfl ?_
  refine z_iload_n C dL_law_215 rfl ?_
  refine z_iconst (v := 3) C dL_law_216 (by decide) ?_
  refine z_iadd C dL_law_217 ?_
  refine z_sld (j := 6 * i + 3) C hb (by exact nI_add (6 * i) 3) (by omega) dL_law_218 ?_
  refine z_callV (As := [.int _, .int _, .int _]) C (c_X6_addDoor _ _ am M hI.1 _ _ _) kc_X6_addDoor wb_748 ⟨by decide, by decide⟩ hR1.1 rfl hR1 hJI.mA ⟨by omega, by omega⟩ (Nat.le_of_ble_eq_true rfl) dL_law_219 (fun v H2 hq _ hf2 => ?_)
  obtain ⟨rfl, hR2⟩ := hq
  refine z_icmp_eq C 943 dL_law_222 (by decide) (fun h222 => ?_) (fun h222 => ?_)
  · refine z_widen (k2 := cells + 2) (n2 := slots + 34) (by omega) (by omega) ?_
    exact hn _ (hJI.step (fun q hq => hq) hf1 hz1 (x_Gt.g hX1 hT4) hf2 ⟨_, m_Q.refl, hR2⟩ (lw_hh hI hn0 rfl (hn_addDoor hH).1 (hn_addDoor hH).2))
  · exact absurd rfl h222
set_option maxHeartbeats 4000000 in
set_option maxRecDepth 100000 in
theorem lc_3 (C : z_C p s m args meth c cL_law "EscapeRoomsLaw" ret 4 nm G) (hb : lw_H s b L xs i) (hJ : lw_J G s.heap.size ax a0 i H) (hc : cells + 2 ≤ room_1.cells ∧ slots + 34 ≤ room_1.slots) (hn : ∀ H', lw_J G s.heap.size ax a0 (i + 1) H' → z_Z p l e room_1 s m args below meth c (fun q => s.heap.size ≤ q) 4 (cells + 2) (slots + 34) Q H' 943 [(0, .ref b), (1, .ref ax), (2, .ref a0), (3, .int (nI (6 * i)))] []) : z_Z p l e room_1 s m args below meth c (fun q => s.heap.size ≤ q) 4 cells slots Q H 227 [(0, .ref b), (1, .ref ax), (2, .ref a0), (3, .int (nI (6 * i)))] [] := by
  obtain ⟨ad, am, M, T, nR, nD, nK, nG, n0, hJI⟩ := hJ
  have hO := hJI.out
  have hJ2 := hJI
  obtain ⟨⟨hX, hR, hI, hH, hn0, hT4⟩, ⟨rfl, rfl⟩, -, -, -, hE, -⟩ := hJ2
  have hb5 := hb.2.2
  refine z_aload_n C dL_law_227 rfl ?_
  refine z_aload_n C dL_law_228 rfl ?_
  refine z_iload_n C dL_law_229 rfl ?_
  refine z_iconst (v := 1) C dL_law_230 (by decide) ?_
  refine z_iadd C dL_law_231 ?_
  refine z_sld (j := 6 * i + 1) C hb (by exact nI_add (6 * i) 1) (by omega) dL_law_232 ?_
  refine z_aload_n C dL_law_233 rfl ?_
  refine z_iload_n C dL_law_234 rfl ?_
  refine z_iconst (v := 2) C dL_law_235 (by decide) ?_
  refine z_iadd C dL_law_236 ?_
  refine z_sld (j := 6 * i + 2) C hb (by exact nI_add (6 * i) 2) (by omega) dL_law_237 ?_
  refine z_aload_n C dL_law_238 rfl ?_
  refine z_iload_n C dL_law_239 rfl ?_
  refine z_iconst (v := 3) C dL_law_240 (by decide) ?_
  refine z_iadd C dL_law_241 ?_
  refine z_sld (j := 6 * i + 3) C hb (by exact nI_add (6 * i) 3) (by omega) dL_law_242 ?_
  refine z_aload_n C dL_law_243 rfl ?_
  refine z_iload_n C dL_law_244 rfl ?_
  refine z_iconst (v := 4) C dL_law_245 (by decide) ?_
  refine z_iadd C dL_law_246 ?_
  refine z_sld (j := 6 * i + 4) C hb (by exact nI_add (6 * i) 4) (by omega) dL_law_247 ?_
  refine z_aload_n C dL_law_248 rfl ?_
  refine z_iload_n C dL_law_249 rfl ?_
  refine z_iconst (v := 5) C dL_law_250 (by decide) ?_
  refine z_iadd C dL_law_251 ?_
  refine z_sld (j := 6 * i + 5) C hb (by exact nI_add (6 * i) 5) (by omega) dL_law_252 ?_
  refine z_callV (As := [.int _, .int _, .int _, .int _, .int _]) C (c_X5_addLock _ _ ad M T hI _ hO _ _ _ _ _) kc_X5_addLock wb_305 ⟨by decide, by decide⟩ hX.1.1 rfl (⟨rfl, hX, hE⟩) hJI.xG ⟨by omega, by omega⟩ (Nat.le_of_ble_eq_true rfl) dL_law_253 (fun v H1 hq hz1 hf1 => ?_)
  obtain ⟨rfl, hX1⟩ := hq
  have hR1 := hJI.mid (fun q hq => hq) hf1
  refine z_aload_n C dL_law_256 rfl ?_
  refine z_aload_n C dL_law_257 rfl ?_
  refine z_iload_n C dL_law_258 rfl ?_
  refine z_iconst (v := 1) C dL_law_259 (by decide) ?_
  refine z_iadd C dL_law_260 ?_
  refine z_sld (j := 6 * i + 1) C hb (by exact nI_add (6 * i) 1) (by omega) dL_law_261 ?_
  refine z_aload_n C dL_law_262 rfl ?_
  refine z_iload_n C dL_law_263 rfl ?_
  refine z_iconst (v := 2) C dL_law_264 (by decide) ?_
  refine z_iadd C dL_law_265 ?_
  refine z_sld (j := 6 * i + 2) C hb (by exact nI_add (6 * i) 2) (by omega) dL_law_266 ?_
  refine z_aload_n C dL_law_267 rfl ?_
  refine z_iload_n C dL_law_268 rfl ?_
  refine z_iconst (v := 3) C dL_law_269 (by decide) ?_
  refine z_iadd C dL_law_270 ?_
  refine z_sld (j := 6 * i + 3) C hb (by exact nI_add (6 * i) 3) (by omega) dL_law_271 ?_
  refine z_aload_n C dL_law_272 rfl ?_
  refine z_iload_n C dL_law_273 rfl ?_
  refine z_iconst (v := 4) C dL_law_274 (by decide) ?_
  refine z_iadd C dL_law_275 ?_
  refine z_sld (j := 6 * i + 4) C hb (by exact nI_add (6 * i) 4) (by omega) dL_law_276 ?_
  refine z_aload_n C dL_law_277 rfl ?_
  refine z_iload_n C dL_law_278 rfl ?_
  refine z_iconst (v := 5) C dL_law_279 (by decide) ?_
  refine z_iadd C dL_law_280 ?_
  refine z_sld (j := 6 * i + 5) C hb (by exact nI_add (6 * i) 5) (by omega) dL_law_281 ?_
  refine z_callV (As := [.int _, .int _, .int _, .int _, .int _]) C (c_X6_addLock _ _ am M hI.1 _ _ _ _ _) kc_X6_addLock wb_756 ⟨by decide, by decide⟩ hR1.1 rfl hR1 hJI.mA ⟨by omega, by omega⟩ (Nat.le_of_ble_eq_true rfl) dL_law_282 (fun v H2 hq _ hf2 => ?_)
  obtain ⟨rfl, hR2⟩ := hq
  refine z_icmp_eq C 943 dL_law_285 (by decide) (fun h285 => ?_) (fun h285 => ?_)
  · refine z_widen (k2 := cells + 2) (n2 := slots + 34) (by omega) (by omega) ?_
    exact hn _ (hJI.step (fun q hq => hq) hf1 hz1 (x_Gt.g hX1 hT4) hf2 ⟨_, m_Q.refl, hR2⟩ (lw_hh hI hn0 rfl (hn_addLock hH).1 (hn_addLock hH).2))
  · exact absurd rfl h285
set_option maxHeartbeats 4000000 in
set_option maxRecDepth 100000 in
theorem lc_4 (C : z_C p s m args meth c cL_law "EscapeRoomsLaw" ret 4 nm G) (hb : lw_H s b L xs i) (hJ : lw_J G s.heap.size ax a0 i H) (hc : cells + 2 ≤ room_1.cells ∧ slots + 34 ≤ room_1.slots) (hn : ∀ H', lw_J G s.heap.size ax a0 (i + 1) H' → z_Z p l e room_1 s m args below meth c (fun q => s.heap.size ≤ q) 4 (cells + 2) (slots + 34) Q H' 943 [(0, .ref b), (1, .ref ax), (2, .ref a0), (3, .int (nI (6 * i)))] []) : z_Z p l e room_1 s m args below meth c (fun q => s.heap.size ≤ q) 4 cells slots Q H 290 [(0, .ref b), (1, .ref ax), (2, .ref a0), (3, .int (nI (6 * i)))] [] := by
  obtain ⟨ad, am, M, T, nR, nD, nK, nG, n0, hJI⟩ := hJ
  have hO := hJI.out
  have hJ2 := hJI
  obtain ⟨⟨hX, hR, hI, hH, hn0, hT4⟩, ⟨rfl, rfl⟩, -, -, -, hE, -⟩ := hJ2
  have hb5 := hb.2.2
  refine z_aload_n C dL_law_290 rfl ?_
  refine z_aload_n C dL_law_291 rfl ?_
  refine z_iload_n C dL_law_292 rfl ?_
  refine z_iconst (v := 1) C dL_law_293 (by decide) ?_
  refine z_iadd C dL_law_294 ?_
  refine z_sld (j := 6 * i + 1) C hb (by exact nI_add (6 * i) 1) (by omega) dL_law_295 ?_
  refine z_aload_n C dL_law_296 rfl ?_
  refine z_iload_n C dL_law_297 rfl ?_
  refine z_iconst (v := 2) C dL_law_298 (by decide) ?_
  refine z_iadd C dL_law_299 ?_
  refine z_sld (j := 6 * i + 2) C hb (by exact nI_add (6 * i) 2) (by omega) dL_law_300 ?_
  refine z_callV (As := [.int _, .int _]) C (c_X5_addKey _ _ ad M T hI _ hO _ _) kc_X5_addKey wb_316 ⟨by decide, by decide⟩ hX.1.1 rfl (⟨rfl, hX, hE⟩) hJI.xG ⟨by omega, by omega⟩ (Nat.le_of_ble_eq_true rfl) dL_law_301 (fun v H1 hq hz1 hf1 => ?_)
  obtain ⟨rfl, hX1⟩ := hq
  have hR1 := hJI.mid (fun q hq => hq) hf1
  refine z_aload_n C dL_law_304 rfl ?_
  refine z_aload_n C dL_law_305 rfl ?_
  refine z_iload_n C dL_law_306 rfl ?_
  refine z_iconst (v := 1) C dL_law_307 (by decide) ?_
  refine z_iadd C dL_law_308 ?_
  refine z_sld (j := 6 * i + 1) C hb (by exact nI_add (6 * i) 1) (by omega) dL_law_309 ?_
  refine z_aload_n C dL_law_310 rfl ?_
  refine z_iload_n C dL_law_311 rfl ?_
  refine z_iconst (v := 2) C dL_law_312 (by decide) ?_
  refine z_iadd C dL_law_313 ?_
  refine z_sld (j := 6 * i + 2) C hb (by exact nI_add (6 * i) 2) (by omega) dL_law_314 ?_
  refine z_callV (As := [.int _, .int _]) C (c_X6_addKey _ _ am M hI.1 _ _) kc_X6_addKey wb_764 ⟨by decide, by decide⟩ hR1.1 rfl hR1 hJI.mA ⟨by omega, by omega⟩ (Nat.le_of_ble_eq_true rfl) dL_law_315 (fun v H2 hq _ hf2 => ?_)
  obtain ⟨rfl, hR2⟩ := hq
  refine z_icmp_eq C 943 dL_law_318 (by decide) (fun h318 => ?_) (fun h318 => ?_)
  · refine z_widen (k2 := cells + 2) (n2 := slots + 34) (by omega) (by omega) ?_
    exact hn _ (hJI.step (fun q hq => hq) hf1 hz1 (x_Gt.g hX1 hT4) hf2 ⟨_, m_Q.refl, hR2⟩ (lw_hh hI hn0 rfl (hn_addKey hH).1 (hn_addKey hH).2))
  · exact absurd rfl h318
set_option maxHeartbeats 4000000 in
set_option maxRecDepth 100000 in
theorem lc_5 (C : z_C p s m args meth c cL_law "EscapeRoomsLaw" ret 4 nm G) (hb : lw_H s b L xs i) (hJ : lw_J G s.heap.size ax a0 i H) (hc : cells + 2 ≤ room_1.cells ∧ slots + 34 ≤ room_1.slots) (hn : ∀ H', lw_J G s.heap.size ax a0 (i + 1) H' → z_Z p l e room_1 s m args below meth c (fun q => s.heap.size ≤ q) 4 (cells + 2) (slots + 34) Q H' 943 [(0, .ref b), (1, .ref ax), (2, .ref a0), (3, .int (nI (6 * i)))] []) : z_Z p l e room_1 s m args below meth c (fun q => s.heap.size ≤ q) 4 cells slots Q H 323 [(0, .ref b), (1, .ref ax), (2, .ref a0), (3, .int (nI (6 * i)))] [] := by
  obtain ⟨ad, am, M, T, nR, nD, nK, nG, n0, hJI⟩ := hJ
  have hO := hJI.out
  have hJ2 := hJI
  obtain ⟨⟨hX, hR, hI, hH, hn0, hT4⟩, ⟨rfl, rfl⟩, -, -, -, hE, -⟩ := hJ2
  have hb5 := hb.2.2
  refine z_aload_n C dL_law_323 rfl ?_
  refine z_aload_n C dL_law_324 rfl ?_
  refine z_iload_n C dL_law_325 rfl ?_
  refine z_iconst (v := 1) C dL_law_326 (by decide) ?_
  refine z_iadd C dL_law_327 ?_
  refine z_sld (j := 6 * i + 1) C hb (by exact nI_add (6 * i) 1) (by omega) dL_law_328 ?_
  refine z_aload_n C dL_law_329 rfl ?_
  refine z_iload_n C dL_law_330 rfl ?_
  refine z_iconst (v := 2) C dL_law_331 (by decide) ?_
  refine z_iadd C dL_law_332 ?_
  refine z_sld (j := 6 * i + 2) C hb (by exact nI_add (6 * i) 2) (by omega) dL_law_333 ?_
  refine z_callV (As := [.int _, .int _]) C (c_X5_addGroup _ _ ad M T hI _ hO _ _) kc_X5_addGroup wb_352 ⟨by decide, by decide⟩ hX.1.1 rfl (⟨rfl, hX, hE⟩) hJI.xG ⟨by omega, by omega⟩ (Nat.le_of_ble_eq_true rfl) dL_law_334 (fun v H1 hq hz1 hf1 => ?_)
  obtain ⟨rfl, hX1⟩ := hq
  have hR1 := hJI.mid (fun q hq => hq) hf1
  refine z_aload_n C dL_law_337 rfl ?_
  refine z_aload_n C dL_law_338 rfl ?_
  refine z_iload_n C dL_law_339 rfl ?_
  refine z_iconst (v := 1) C dL_law_340 (by decide) ?_
  refine z_iadd C dL_law_341 ?_
  refine z_sld (j := 6 * i + 1) C hb (by exact nI_add (6 * i) 1) (by omega) dL_law_342 ?_
  refine z_aload_n C dL_law_343 rfl ?_
  refine z_iload_n C dL_law_344 rfl ?_
  refine z_iconst (v := 2) C dL_law_345 (by decide) ?_
  refine z_iadd C dL_law_346 ?_
  refine z_sld (j := 6 * i + 2) C hb (by exact nI_add (6 * i) 2) (by omega) dL_law_347 ?_
  refine z_callV (As := [.int _, .int _]) C (c_X6_addGroup _ _ am M hI.1 _ _) kc_X6_addGroup wb_768 ⟨by decide, by decide⟩ hR1.1 rfl hR1 hJI.mA ⟨by omega, by omega⟩ (Nat.le_of_ble_eq_true rfl) dL_law_348 (fun v H2 hq _ hf2 => ?_)
  obtain ⟨rfl, hR2⟩ := hq
  refine z_icmp_eq C 943 dL_law_351 (by decide) (fun h351 => ?_) (fun h351 => ?_)
  · refine z_widen (k2 := cells + 2) (n2 := slots + 34) (by omega) (by omega) ?_
    exact hn _ (hJI.step (fun q hq => hq) hf1 hz1 (x_Gt.g hX1 hT4) hf2 ⟨_, m_Q.refl, hR2⟩ (hh_addGroup hI hH hn0 rfl))
  · exact absurd rfl h351
set_option maxHeartbeats 4000000 in
set_option maxRecDepth 100000 in
theorem lc_6 (C : z_C p s m args meth c cL_law "EscapeRoomsLaw" ret 4 nm G) (hb : lw_H s b L xs i) (hJ : lw_J G s.heap.size ax a0 i H) (hc : cells + 2 ≤ room_1.cells ∧ slots + 34 ≤ room_1.slots) (hn : ∀ H', lw_J G s.heap.size ax a0 (i + 1) H' → z_Z p l e room_1 s m args below meth c (fun q => s.heap.size ≤ q) 4 (cells + 2) (slots + 34) Q H' 943 [(0, .ref b), (1, .ref ax), (2, .ref a0), (3, .int (nI (6 * i)))] []) : z_Z p l e room_1 s m args below meth c (fun q => s.heap.size ≤ q) 4 cells slots Q H 356 [(0, .ref b), (1, .ref ax), (2, .ref a0), (3, .int (nI (6 * i)))] [] := by
  obtain ⟨ad, am, M, T, nR, nD, nK, nG, n0, hJI⟩ := hJ
  have hO := hJI.out
  have hJ2 := hJI
  obtain ⟨⟨hX, hR, hI, hH, hn0, hT4⟩, ⟨rfl, rfl⟩, -, -, -, hE, -⟩ := hJ2
  have hb5 := hb.2.2
  refine z_aload_n C dL_law_356 rfl ?_
  refine z_aload_n C dL_law_357 rfl ?_
  refine z_iload_n C dL_law_358 rfl ?_
  refine z_iconst (v := 1) C dL_law_359 (by decide) ?_
  refine z_iadd C dL_law_360 ?_
  refine z_sld (j := 6 * i + 1) C hb (by exact nI_add (6 * i) 1) (by omega) dL_law_361 ?_
  refine z_aload_n C dL_law_362 rfl ?_
  refine z_iload_n C dL_law_363 rfl ?_
  refine z_iconst (v := 2) C dL_law_364 (by decide) ?_
  refine z_iadd C dL_law_365 ?_
  refine z_sld (j := 6 * i + 2) C hb (by exact nI_add (6 * i) 2) (by omega) dL_law_366 ?_
  refine z_callV (As := [.int _, .int _]) C (c_X5_setHints _ _ ad M T hI _ _) kc_X5_setHints wb_391 ⟨by decide, by decide⟩ hX.1.1 rfl (hX) hJI.xA ⟨by omega, by omega⟩ (Nat.le_of_ble_eq_true rfl) dL_law_367 (fun v H1 hq hz1 hf1 => ?_)
  obtain ⟨rfl, hX1⟩ := hq
  have hR1 := hJI.mid (fun q hq => Or.inl hq) hf1
  refine z_aload_n C dL_law_370 rfl ?_
  refine z_aload_n C dL_law_371 rfl ?_
  refine z_iload_n C dL_law_372 rfl ?_
  refine z_iconst (v := 1) C dL_law_373 (by decide) ?_
  refine z_iadd C dL_law_374 ?_
  refine z_sld (j := 6 * i + 1) C hb (by exact nI_add (6 * i) 1) (by omega) dL_law_375 ?_
  refine z_aload_n C dL_law_376 rfl ?_
  refine z_iload_n C dL_law_377 rfl ?_
  refine z_iconst (v := 2) C dL_law_378 (by decide) ?_
  refine z_iadd C dL_law_379 ?_
  refine z_sld (j := 6 * i + 2) C hb (by exact nI_add (6 * i) 2) (by omega) dL_law_380 ?_
  refine z_callV (As := [.int _, .int _]) C (c_X6_setHints _ _ am M _ _) kc_X6_setHints wb_780 ⟨by decide, by decide⟩ hR1.1 rfl hR1 hJI.mA ⟨by omega, by omega⟩ (Nat.le_of_ble_eq_true rfl) dL_law_381 (fun v H2 hq _ hf2 => ?_)
  obtain ⟨rfl, hR2⟩ := hq
  refine z_icmp_eq C 943 dL_law_384 (by decide) (fun h384 => ?_) (fun h384 => ?_)
  · refine z_widen (k2 := cells + 2) (n2 := slots + 34) (by omega) (by omega) ?_
    exact hn _ (hJI.step (fun q hq => Or.inl hq) hf1 hz1 (x_Gt.w hX1 (m_I_setHints hI _ _) hT4) hf2 ⟨_, m_Q.refl, hR2⟩ (lw_hh hI hn0 rfl (hn_setHints hH).1 (hn_setHints hH).2))
  · exact absurd rfl h384
set_option maxHeartbeats 4000000 in
set_option maxRecDepth 100000 in
theorem lc_7 (C : z_C p s m args meth c cL_law "EscapeRoomsLaw" ret 4 nm G) (hb : lw_H s b L xs i) (hJ : lw_J G s.heap.size ax a0 i H) (hc : cells + 2 ≤ room_1.cells ∧ slots + 34 ≤ room_1.slots) (hn : ∀ H', lw_J G s.heap.size ax a0 (i + 1) H' → z_Z p l e room_1 s m args below meth c (fun q => s.heap.size ≤ q) 4 (cells + 2) (slots + 34) Q H' 943 [(0, .ref b), (1, .ref ax), (2, .ref a0), (3, .int (nI (6 * i)))] []) : z_Z p l e room_1 s m args below meth c (fun q => s.heap.size ≤ q) 4 cells slots Q H 389 [(0, .ref b), (1, .ref ax), (2, .ref a0), (3, .int (nI (6 * i)))] [] := by
  obtain ⟨ad, am, M, T, nR, nD, nK, nG, n0, hJI⟩ := hJ
  have hO := hJI.out
  have hJ2 := hJI
  obtain ⟨⟨hX, hR, hI, hH, hn0, hT4⟩, ⟨rfl, rfl⟩, -, -, -, hE, -⟩ := hJ2
  have hb5 := hb.2.2
  refine z_aload_n C dL_law_389 rfl ?_
  refine z_aload_n C dL_law_390 rfl ?_
  refine z_iload_n C dL_law_391 rfl ?_
  refine z_iconst (v := 1) C dL_law_392 (by decide) ?_
  refine z_iadd C dL_law_393 ?_
  refine z_sld (j := 6 * i + 1) C hb (by exact nI_add (6 * i) 1) (by omega) dL_law_394 ?_
  refine z_aload_n C dL_law_395 rfl ?_
  refine z_iload_n C dL_law_396 rfl ?_
  refine z_iconst (v := 2) C dL_law_397 (by decide) ?_
  refine z_iadd C dL_law_398 ?_
  refine z_sld (j := 6 * i + 2) C hb (by exact nI_add (6 * i) 2) (by omega) dL_law_399 ?_
  refine z_callV (As := [.int _, .int _]) C (c_X5_walk _ _ ad M T hI _ _) kc_X5_walk wb_395 ⟨by decide, by decide⟩ hX.1.1 rfl (hX) hJI.xA ⟨by omega, by omega⟩ (Nat.le_of_ble_eq_true rfl) dL_law_400 (fun v H1 hq hz1 hf1 => ?_)
  obtain ⟨rfl, hX1⟩ := hq
  have hR1 := hJI.mid (fun q hq => Or.inl hq) hf1
  refine z_aload_n C dL_law_403 rfl ?_
  refine z_aload_n C dL_law_404 rfl ?_
  refine z_iload_n C dL_law_405 rfl ?_
  refine z_iconst (v := 1) C dL_law_406 (by decide) ?_
  refine z_iadd C dL_law_407 ?_
  refine z_sld (j := 6 * i + 1) C hb (by exact nI_add (6 * i) 1) (by omega) dL_law_408 ?_
  refine z_aload_n C dL_law_409 rfl ?_
  refine z_iload_n C dL_law_410 rfl ?_
  refine z_iconst (v := 2) C dL_law_411 (by decide) ?_
  refine z_iadd C dL_law_412 ?_
  refine z_sld (j := 6 * i + 2) C hb (by exact nI_add (6 * i) 2) (by omega) dL_law_413 ?_
  refine z_callV (As := [.int _, .int _]) C (c_X6_walk _ _ am M hI.1 _ _) kc_X6_walk wb_784 ⟨by decide, by decide⟩ hR1.1 rfl hR1 hJI.mA ⟨by omega, by omega⟩ (Nat.le_of_ble_eq_true rfl) dL_law_414 (fun v H2 hq _ hf2 => ?_)
  obtain ⟨rfl, hR2⟩ := hq
  refine z_icmp_eq C 943 dL_law_417 (by decide) (fun h417 => ?_) (fun h417 => ?_)
  · refine z_widen (k2 := cells + 2) (n2 := slots + 34) (by omega) (by omega) ?_
    exact hn _ (hJI.step (fun q hq => Or.inl hq) hf1 hz1 (x_Gt.w hX1 (m_I_walk hI _ _) hT4) hf2 ⟨_, m_Q.refl, hR2⟩ (lw_hh hI hn0 rfl (hn_walk hH).1 (hn_walk hH).2))
  · exact absurd rfl h417
set_option maxHeartbeats 4000000 in
set_option maxRecDepth 100000 in
theorem lc_8 (C : z_C p s m args meth c cL_law "EscapeRoomsLaw" ret 4 nm G) (hb : lw_H s b L xs i) (hJ : lw_J G s.heap.size ax a0 i H) (hc : cells + 2 ≤ room_1.cells ∧ slots + 34 ≤ room_1.slots) (hn : ∀ H', lw_J G s.heap.size ax a0 (i + 1) H' → z_Z p l e room_1 s m args below meth c (fun q => s.heap.size ≤ q) 4 (cells + 2) (slots + 34) Q H' 943 [(0, .ref b), (1, .ref ax), (2, .ref a0), (3, .int (nI (6 * i)))] []) : z_Z p l e room_1 s m args below meth c (fun q => s.heap.size ≤ q) 4 cells slots Q H 422 [(0, .ref b), (1, .ref ax), (2, .ref a0), (3, .int (nI (6 * i)))] [] := by
  obtain ⟨ad, am, M, T, nR, nD, nK, nG, n0, hJI⟩ := hJ
  have hO := hJI.out
  have hJ2 := hJI
  obtain ⟨⟨hX, hR, hI, hH, hn0, hT4⟩, ⟨rfl, rfl⟩, -, -, -, hE, -⟩ := hJ2
  have hb5 := hb.2.2
  refine z_aload_n C dL_law_422 rfl ?_
  refine z_aload_n C dL_law_423 rfl ?_
  refine z_iload_n C dL_law_424 rfl ?_
  refine z_iconst (v := 1) C dL_law_425 (by decide) ?_
  refine z_iadd C dL_law_426 ?_
  refine z_sld (j := 6 * i + 1) C hb (by exact nI_add (6 * i) 1) (by omega) dL_law_427 ?_
  refine z_aload_n C dL_law_428 rfl ?_
  refine z_iload_n C dL_law_429 rfl ?_
  refine z_iconst (v := 2) C dL_law_430 (by decide) ?_
  refine z_iadd C dL_law_431 ?_
  refine z_sld (j := 6 * i + 2) C hb (by exact nI_add (6 * i) 2) (by omega) dL_law_432 ?_
  refine z_callV (As := [.int _, .int _]) C (c_X5_unlock _ _ ad M T hI _ _) kc_X5_unlock wb_425 ⟨by decide, by decide⟩ hX.1.1 rfl (hX) hJI.xA ⟨by omega, by omega⟩ (Nat.le_of_ble_eq_true rfl) dL_law_433 (fun v H1 hq hz1 hf1 => ?_)
  obtain ⟨rfl, hX1⟩ := hq
  have hR1 := hJI.mid (fun q hq => Or.inl hq) hf1
  refine z_aload_n C dL_law_436 rfl ?_
  refine z_aload_n C dL_law_437 rfl ?_
  refine z_iload_n C dL_law_438 rfl ?_
  refine z_iconst (v := 1) C dL_law_439 (by decide) ?_
  refine z_iadd C dL_law_440 ?_
  refine z_sld (j := 6 * i + 1) C hb (by exact nI_add (6 * i) 1) (by omega) dL_law_441 ?_
  refine z_aload_n C dL_law_442 rfl ?_
  refine z_iload_n C dL_law_443 rfl ?_
  refine z_iconst (v := 2) C dL_law_444 (by decide) ?_
  refine z_iadd C dL_law_445 ?_
  refine z_sld (j := 6 * i + 2) C hb (by exact nI_add (6 * i) 2) (by omega) dL_law_446 ?_
  refine z_callV (As := [.int _, .int _]) C (c_X6_unlock _ _ am M hI.1 _ _) kc_X6_unlock wb_805 ⟨by decide, by decide⟩ hR1.1 rfl hR1 hJI.mA ⟨by omega, by omega⟩ (Nat.le_of_ble_eq_true rfl) dL_law_447 (fun v H2 hq _ hf2 => ?_)
  obtain ⟨rfl, hR2⟩ := hq
  refine z_icmp_eq C 943 dL_law_450 (by decide) (fun h450 => ?_) (fun h450 => ?_)
  · refine z_widen (k2 := cells + 2) (n2 := slots + 34) (by omega) (by omega) ?_
    exact hn _ (hJI.step (fun q hq => Or.inl hq) hf1 hz1 (x_Gt.w hX1 (m_I_unlock hI _ _) hT4) hf2 ⟨_, m_Q.refl, hR2⟩ (lw_hh hI hn0 rfl (hn_unlock hH).1 (hn_unlock hH).2))
  · exact absurd rfl h450
set_option maxHeartbeats 4000000 in
set_option maxRecDepth 100000 in
theorem lc_9 (C : z_C p s m args meth c cL_law "EscapeRoomsLaw" ret 4 nm G) (hb : lw_H s b L xs i) (hJ : lw_J G s.heap.size ax a0 i H) (hc : cells + 2 ≤ room_1.cells ∧ slots + 34 ≤ room_1.slots) (hn : ∀ H', lw_J G s.heap.size ax a0 (i + 1) H' → z_Z p l e room_1 s m args below meth c (fun q => s.heap.size ≤ q) 4 (cells + 2) (slots + 34) Q H' 943 [(0, .ref b), (1, .ref ax), (2, .ref a0), (3, .int (nI (6 * i)))] []) : z_Z p l e room_1 s m args below meth c (fun q => s.heap.size ≤ q) 4 cells slots Q H 455 [(0, .ref b), (1, .ref ax), (2, .ref a0), (3, .int (nI (6 * i)))] [] := by
  obtain ⟨ad, am, M, T, nR, nD, nK, nG, n0, hJI⟩ := hJ
  have hO := hJI.out
  have hJ2 := hJI
  obtain ⟨⟨hX, hR, hI, hH, hn0, hT4⟩, ⟨rfl, rfl⟩, -, -, -, hE, -⟩ := hJ2
  have hb5 := hb.2.2
  refine z_aload_n C dL_law_455 rfl ?_
  refine z_aload_n C dL_law_456 rfl ?_
  refine z_iload_n C dL_law_457 rfl ?_
  refine z_iconst (v := 1) C dL_law_458 (by decide) ?_
  refine z_iadd C dL_law_459 ?_
  refine z_sld (j := 6 * i + 1) C hb (by exact nI_add (6 * i) 1) (by omega) dL_law_460 ?_
  refine z_aload_n C dL_law_461 rfl ?_
  refine z_iload_n C dL_law_462 rfl ?_
  refine z_iconst (v := 2) C dL_law_463 (by decide) ?_
  refine z_iadd C dL_law_464 ?_
  refine z_sld (j := 6 * i + 2) C hb (by exact nI_add (6 * i) 2) (by omega) dL_law_465 ?_
  refine z_callV (As := [.int _, .int _]) C (c_X5_take _ _ ad M T hI _ _) kc_X5_take wb_441 ⟨by decide, by decide⟩ hX.1.1 rfl (hX) hJI.xA ⟨by omega, by omega⟩ (Nat.le_of_ble_eq_true rfl) dL_law_466 (fun v H1 hq hz1 hf1 => ?_)
  obtain ⟨rfl, hX1⟩ := hq
  have hR1 := hJI.mid (fun q hq => Or.inl hq) hf1
  refine z_aload_n C dL_law_469 rfl ?_
  refine z_aload_n C dL_law_470 rfl ?_
  refine z_iload_n C dL_law_471 rfl ?_
  refine z_iconst (v := 1) C dL_law_472 (by decide) ?_
  refine z_iadd C dL_law_473 ?_
  refine z_sld (j := 6 * i + 1) C hb (by exact nI_add (6 * i) 1) (by omega) dL_law_474 ?_
  refine z_aload_n C dL_law_475 rfl ?_
  refine z_iload_n C dL_law_476 rfl ?_
  refine z_iconst (v := 2) C dL_law_477 (by decide) ?_
  refine z_iadd C dL_law_478 ?_
  refine z_sld (j := 6 * i + 2) C hb (by exact nI_add (6 * i) 2) (by omega) dL_law_479 ?_
  refine z_callV (As := [.int _, .int _]) C (c_X6_take _ _ am M hI.1 _ _) kc_X6_take wb_817 ⟨by decide, by decide⟩ hR1.1 rfl hR1 hJI.mA ⟨by omega, by omega⟩ (Nat.le_of_ble_eq_true rfl) dL_law_480 (fun v H2 hq _ hf2 => ?_)
  obtain ⟨rfl, hR2⟩ := hq
  refine z_icmp_eq C 943 dL_law_483 (by decide) (fun h483 => ?_) (fun h483 => ?_)
  · refine z_widen (k2 := cells + 2) (n2 := slots + 34) (by omega) (by omega) ?_
    exact hn _ (hJI.step (fun q hq => Or.inl hq) hf1 hz1 (x_Gt.w hX1 (m_I_take hI _ _) hT4) hf2 ⟨_, m_Q.refl, hR2⟩ (lw_hh hI hn0 rfl (hn_take hH).1 (hn_take hH).2))
  · exact absurd rfl h483
set_option maxHeartbeats 4000000 in
set_option maxRecDepth 100000 in
theorem lc_10 (C : z_C p s m args meth c cL_law "EscapeRoomsLaw" ret 4 nm G) (hb : lw_H s b L xs i) (hJ : lw_J G s.heap.size ax a0 i H) (hc : cells + 2 ≤ room_1.cells ∧ slots + 34 ≤ room_1.slots) (hn : ∀ H', lw_J G s.heap.size ax a0 (i + 1) H' → z_Z p l e room_1 s m args below meth c (fun q => s.heap.size ≤ q) 4 (cells + 2) (slots + 34) Q H' 943 [(0, .ref b), (1, .ref ax), (2, .ref a0), (3, .int (nI (6 * i)))] []) : z_Z p l e room_1 s m args below meth c (fun q => s.heap.size ≤ q) 4 cells slots Q H 488 [(0, .ref b), (1, .ref ax), (2, .ref a0), (3, .int (nI (6 * i)))] [] := by
  obtain ⟨ad, am, M, T, nR, nD, nK, nG, n0, hJI⟩ := hJ
  have hO := hJI.out
  have hJ2 := hJI
  obtain ⟨⟨hX, hR, hI, hH, hn0, hT4⟩, ⟨rfl, rfl⟩, -, -, -, hE, -⟩ := hJ2
  have hb5 := hb.2.2
  refine z_aload_n C dL_law_488 rfl ?_
  refine z_aload_n C dL_law_489 rfl ?_
  refine z_iload_n C dL_law_490 rfl ?_
  refine z_iconst (v := 1) C dL_law_491 (by decide) ?_
  refine z_iadd C dL_law_492 ?_
  refine z_sld (j := 6 * i + 1) C hb (by exact nI_add (6 * i) 1) (by omega) dL_law_493 ?_
  refine z_aload_n C dL_law_494 rfl ?_
  refine z_iload_n C dL_law_495 rfl ?_
  refine z_iconst (v := 2) C dL_law_496 (by decide) ?_
  refine z_iadd C dL_law_497 ?_
  refine z_sld (j := 6 * i + 2) C hb (by exact nI_add (6 * i) 2) (by omega) dL_law_498 ?_
  refine z_callV (As := [.int _, .int _]) C (c_X5_drop _ _ ad M T hI _ _) kc_X5_drop wb_457 ⟨by decide, by decide⟩ hX.1.1 rfl (hX) hJI.xA ⟨by omega, by omega⟩ (Nat.le_of_ble_eq_true rfl) dL_law_499 (fun v H1 hq hz1 hf1 => ?_)
  obtain ⟨rfl, hX1⟩ := hq
  have hR1 := hJI.mid (fun q hq => Or.inl hq) hf1
  refine z_aload_n C dL_law_502 rfl ?_
  refine z_aload_n C dL_law_503 rfl ?_
  refine z_iload_n C dL_law_504 rfl ?_
  refine z_iconst (v := 1) C dL_law_505 (by decide) ?_
  refine z_iadd C dL_law_506 ?_
  refine z_sld (j := 6 * i + 1) C hb (by exact nI_add (6 * i) 1) (by omega) dL_law_507 ?_
  refine z_aload_n C dL_law_508 rfl ?_
  refine z_iload_n C dL_law_509 rfl ?_
  refine z_iconst (v := 2) C dL_law_510 (by decide) ?_
  refine z_iadd C dL_law_511 ?_
  refine z_sld (j := 6 * i + 2) C hb (by exact nI_add (6 * i) 2) (by omega) dL_law_512 ?_
  refine z_callV (As := [.int _, .int _]) C (c_X6_drop _ _ am M hI.1 _ _) kc_X6_drop wb_829 ⟨by decide, by decide⟩ hR1.1 rfl hR1 hJI.mA ⟨by omega, by omega⟩ (Nat.le_of_ble_eq_true rfl) dL_law_513 (fun v H2 hq _ hf2 => ?_)
  obtain ⟨rfl, hR2⟩ := hq
  refine z_icmp_eq C 943 dL_law_516 (by decide) (fun h516 => ?_) (fun h516 => ?_)
  · refine z_widen (k2 := cells + 2) (n2 := slots + 34) (by omega) (by omega) ?_
    exact hn _ (hJI.step (fun q hq => Or.inl hq) hf1 hz1 (x_Gt.w hX1 (m_I_drop hI _ _) hT4) hf2 ⟨_, m_Q.refl, hR2⟩ (lw_hh hI hn0 rfl (hn_drop hH).1 (hn_drop hH).2))
  · exact absurd rfl h516
set_option maxHeartbeats 4000000 in
set_option maxRecDepth 100000 in
theorem lc_11 (C : z_C p s m args meth c cL_law "EscapeRoomsLaw" ret 4 nm G) (hb : lw_H s b L xs i) (hJ : lw_J G s.heap.size ax a0 i H) (hc : cells + 2 ≤ room_1.cells ∧ slots + 34 ≤ room_1.slots) (hn : ∀ H', lw_J G s.heap.size ax a0 (i + 1) H' → z_Z p l e room_1 s m args below meth c (fun q => s.heap.size ≤ q) 4 (cells + 2) (slots + 34) Q H' 943 [(0, .ref b), (1, .ref ax), (2, .ref a0), (3, .int (nI (6 * i)))] []) : z_Z p l e room_1 s m args below meth c (fun q => s.heap.size ≤ q) 4 cells slots Q H 521 [(0, .ref b), (1, .ref ax), (2, .ref a0), (3, .int (nI (6 * i)))] [] := by
  obtain ⟨ad, am, M, T, nR, nD, nK, nG, n0, hJI⟩ := hJ
  have hO := hJI.out
  have hJ2 := hJI
  obtain ⟨⟨hX, hR, hI, hH, hn0, hT4⟩, ⟨rfl, rfl⟩, -, -, -, hE, -⟩ := hJ2
  have hb5 := hb.2.2
  refine z_aload_n C dL_law_521 rfl ?_
  refine z_aload_n C dL_law_522 rfl ?_
  refine z_iload_n C dL_law_523 rfl ?_
  refine z_iconst (v := 1) C dL_law_524 (by decide) ?_
  refine z_iadd C dL_law_525 ?_
  refine z_sld (j := 6 * i + 1) C hb (by exact nI_add (6 * i) 1) (by omega) dL_law_526 ?_
  refine z_aload_n C dL_law_527 rfl ?_
  refine z_iload_n C dL_law_528 rfl ?_
  refine z_iconst (v := 2) C dL_law_529 (by decide) ?_
  refine z_iadd C dL_law_530 ?_
  refine z_sld (j := 6 * i + 2) C hb (by exact nI_add (6 * i) 2) (by omega) dL_law_531 ?_
  refine z_callV (As := [.int _, .int _]) C (c_X5_idle _ _ ad M T hI _ _) kc_X5_idle wb_465 ⟨by decide, by decide⟩ hX.1.1 rfl (hX) hJI.xA ⟨by omega, by omega⟩ (Nat.le_of_ble_eq_true rfl) dL_law_532 (fun v H1 hq hz1 hf1 => ?_)
  obtain ⟨rfl, hX1⟩ := hq
  have hR1 := hJI.mid (fun q hq => Or.inl hq) hf1
  refine z_aload_n C dL_law_535 rfl ?_
  refine z_aload_n C dL_law_536 rfl ?_
  refine z_iload_n C dL_law_537 rfl ?_
  refine z_iconst (v := 1) C dL_law_538 (by decide) ?_
  refine z_iadd C dL_law_539 ?_
  refine z_sld (j := 6 * i + 1) C hb (by exact nI_add (6 * i) 1) (by omega) dL_law_540 ?_
  refine z_aload_n C dL_law_541 rfl ?_
  refine z_iload_n C dL_law_542 rfl ?_
  refine z_iconst (v := 2) C dL_law_543 (by decide) ?_
  refine z_iadd C dL_law_544 ?_
  refine z_sld (j := 6 * i + 2) C hb (by exact nI_add (6 * i) 2) (by omega) dL_law_545 ?_
  refine z_callV (As := [.int _, .int _]) C (c_X6_idle _ _ am M hI.1 _ _) kc_X6_idle wb_833 ⟨by decide, by decide⟩ hR1.1 rfl hR1 hJI.mA ⟨by omega, by omega⟩ (Nat.le_of_ble_eq_true rfl) dL_law_546 (fun v H2 hq _ hf2 => ?_)
  obtain ⟨rfl, hR2⟩ := hq
  refine z_icmp_eq C 943 dL_law_549 (by decide) (fun h549 => ?_) (fun h549 => ?_)
  · refine z_widen (k2 := cells + 2) (n2 := slots + 34) (by omega) (by omega) ?_
    exact hn _ (hJI.step (fun q hq => Or.inl hq) hf1 hz1 (x_Gt.w hX1 (m_I_idle hI _ _) hT4) hf2 ⟨_, m_Q.refl, hR2⟩ (lw_hh hI hn0 rfl (hn_idle hH).1 (hn_idle hH).2))
  · exact absurd rfl h549
set_option maxHeartbeats 4000000 in
set_option maxRecDepth 100000 in
theorem lc_12 (C : z_C p s m args meth c cL_law "EscapeRoomsLaw" ret 4 nm G) (hb : lw_H s b L xs i) (hJ : lw_J G s.heap.size ax a0 i H) (hc : cells + 2 ≤ room_1.cells ∧ slots + 34 ≤ room_1.slots) (hn : ∀ H', lw_J G s.heap.size ax a0 (i + 1) H' → z_Z p l e room_1 s m args below meth c (fun q => s.heap.size ≤ q) 4 (cells + 2) (slots + 34) Q H' 943 [(0, .ref b), (1, .ref ax), (2, .ref a0), (3, .int (nI (6 * i)))] []) : z_Z p l e room_1 s m args below meth c (fun q => s.heap.size ≤ q) 4 cells slots Q H 554 [(0, .ref b), (1, .ref ax), (2, .ref a0), (3, .int (nI (6 * i)))] [] := by
  obtain ⟨ad, am, M, T, nR, nD, nK, nG, n0, hJI⟩ := hJ
  have hO := hJI.out
  have hJ2 := hJI
  obtain ⟨⟨hX, hR, hI, hH, hn0, hT4⟩, ⟨rfl, rfl⟩, -, -, -, hE, -⟩ := hJ2
  have hb5 := hb.2.2
  refine z_aload_n C dL_law_554 rfl ?_
  refine z_aload_n C dL_law_555 rfl ?_
  refine z_iload_n C dL_law_556 rfl ?_
  refine z_iconst (v := 1) C dL_law_557 (by decide) ?_
  refine z_iadd C dL_law_558 ?_
  refine z_sld (j := 6 * i + 1) C hb (by exact nI_add (6 * i) 1) (by omega) dL_law_559 ?_
  refine z_aload_n C dL_law_560 rfl ?_
  refine z_iload_n C dL_law_561 rfl ?_
  refine z_iconst (v := 2) C dL_law_562 (by decide) ?_
  refine z_iadd C dL_law_563 ?_
  refine z_sld (j := 6 * i + 2) C hb (by exact nI_add (6 * i) 2) (by omega) dL_law_564 ?_
  refine z_callV (As := [.int _, .int _]) C (c_X5_part _ _ ad M T hI _ hO _ _) kc_X5_part wb_469 ⟨by decide, by decide⟩ hX.1.1 rfl (⟨rfl, hX, hE⟩) hJI.xG ⟨by omega, by omega⟩ (Nat.le_of_ble_eq_true rfl) dL_law_565 (fun v H1 hq hz1 hf1 => ?_)
  obtain ⟨rfl, hX1⟩ := hq
  have hR1 := hJI.mid (fun q hq => hq) hf1
  refine z_aload_n C dL_law_568 rfl ?_
  refine z_aload_n C dL_law_569 rfl ?_
  refine z_iload_n C dL_law_570 rfl ?_
  refine z_iconst (v := 1) C dL_law_571 (by decide) ?_
  refine z_iadd C dL_law_572 ?_
  refine z_sld (j := 6 * i + 1) C hb (by exact nI_add (6 * i) 1) (by omega) dL_law_573 ?_
  refine z_aload_n C dL_law_574 rfl ?_
  refine z_iload_n C dL_law_575 rfl ?_
  refine z_iconst (v := 2) C dL_law_576 (by decide) ?_
  refine z_iadd C dL_law_577 ?_
  refine z_sld (j := 6 * i + 2) C hb (by exact nI_add (6 * i) 2) (by omega) dL_law_578 ?_
  refine z_callV (As := [.int _, .int _]) C (c_X6_part _ _ am M hI.1 _ _) kc_X6_part wb_837 ⟨by decide, by decide⟩ hR1.1 rfl hR1 hJI.mA ⟨by omega, by omega⟩ (Nat.le_of_ble_eq_true rfl) dL_law_579 (fun v H2 hq _ hf2 => ?_)
  obtain ⟨rfl, hR2⟩ := hq
  refine z_icmp_eq C 943 dL_law_582 (by decide) (fun h582 => ?_) (fun h582 => ?_)
  · refine z_widen (k2 := cells + 2) (n2 := slots + 34) (by omega) (by omega) ?_
    exact hn _ (hJI.step (fun q hq => hq) hf1 hz1 (x_Gt.g hX1 hT4) hf2 ⟨_, m_Q.refl, hR2⟩ (hh_part hI hH hn0 rfl))
  · exact absurd rfl h582
set_option maxHeartbeats 4000000 in
set_option maxRecDepth 100000 in
theorem lc_13 (C : z_C p s m args meth c cL_law "EscapeRoomsLaw" ret 4 nm G) (hb : lw_H s b L xs i) (hJ : lw_J G s.heap.size ax a0 i H) (hc : cells + 2 ≤ room_1.cells ∧ slots + 34 ≤ room_1.slots) (hn : ∀ H', lw_J G s.heap.size ax a0 (i + 1) H' → z_Z p l e room_1 s m args below meth c (fun q => s.heap.size ≤ q) 4 (cells + 2) (slots + 34) Q H' 943 [(0, .ref b), (1, .ref ax), (2, .ref a0), (3, .int (nI (6 * i)))] []) : z_Z p l e room_1 s m args below meth c (fun q => s.heap.size ≤ q) 4 cells slots Q H 587 [(0, .ref b), (1, .ref ax), (2, .ref a0), (3, .int (nI (6 * i)))] [] := by
  obtain ⟨ad, am, M, T, nR, nD, nK, nG, n0, hJI⟩ := hJ
  have hO := hJI.out
  have hJ2 := hJI
  obtain ⟨⟨hX, hR, hI, hH, hn0, hT4⟩, ⟨rfl, rfl⟩, -, -, -, hE, -⟩ := hJ2
  have hb5 := hb.2.2
  refine z_aload_n C dL_law_587 rfl ?_
  refine z_aload_n C dL_law_588 rfl ?_
  refine z_iload_n C dL_law_589 rfl ?_
  refine z_iconst (v := 1) C dL_law_590 (by decide) ?_
  refine z_iadd C dL_law_591 ?_
  refine z_sld (j := 6 * i + 1) C hb (by exact nI_add (6 * i) 1) (by omega) dL_law_592 ?_
  refine z_aload_n C dL_law_593 rfl ?_
  refine z_iload_n C dL_law_594 rfl ?_
  refine z_iconst (v := 2) C dL_law_595 (by decide) ?_
  refine z_iadd C dL_law_596 ?_
  refine z_sld (j := 6 * i + 2) C hb (by exact nI_add (6 * i) 2) (by omega) dL_law_597 ?_
  refine z_callV (As := [.int _, .int _]) C (c_X5_join _ _ ad M T hI _ _) kc_X5_join wb_473 ⟨by decide, by decide⟩ hX.1.1 rfl (hX) hJI.xA ⟨by omega, by omega⟩ (Nat.le_of_ble_eq_true rfl) dL_law_598 (fun v H1 hq hz1 hf1 => ?_)
  obtain ⟨rfl, hX1⟩ := hq
  have hR1 := hJI.mid (fun q hq => Or.inl hq) hf1
  refine z_aload_n C dL_law_601 rfl ?_
  refine z_aload_n C dL_law_602 rfl ?_
  refine z_iload_n C dL_law_603 rfl ?_
  refine z_iconst (v := 1) C dL_law_604 (by decide) ?_
  refine z_iadd C dL_law_605 ?_
  refine z_sld (j := 6 * i + 1) C hb (by exact nI_add (6 * i) 1) (by omega) dL_law_606 ?_
  refine z_aload_n C dL_law_607 rfl ?_
  refine z_iload_n C dL_law_608 rfl ?_
  refine z_iconst (v := 2) C dL_law_609 (by decide) ?_
  refine z_iadd C dL_law_610 ?_
  refine z_sld (j := 6 * i + 2) C hb (by exact nI_add (6 * i) 2) (by omega) dL_law_611 ?_
  refine z_callV (As := [.int _, .int _]) C (c_X6_join _ _ am M hI.1 _ _) kc_X6_join wb_841 ⟨by decide, by decide⟩ hR1.1 rfl hR1 hJI.mA ⟨by omega, by omega⟩ (Nat.le_of_ble_eq_true rfl) dL_law_612 (fun v H2 hq _ hf2 => ?_)
  obtain ⟨rfl, hR2⟩ := hq
  refine z_icmp_eq C 943 dL_law_615 (by decide) (fun h615 => ?_) (fun h615 => ?_)
  · refine z_widen (k2 := cells + 2) (n2 := slots + 34) (by omega) (by omega) ?_
    exact hn _ (hJI.step (fun q hq => Or.inl hq) hf1 hz1 (x_Gt.w hX1 (m_I_join hI _ _) hT4) hf2 ⟨_, m_Q.refl, hR2⟩ (lw_hh hI hn0 rfl (hn_join hI hH).1 (hn_join (g := xs (6 * i + 1)) (o := xs (6 * i + 2)) hI hH).2))
  · exact absurd rfl h615
set_option maxHeartbeats 4000000 in
set_option maxRecDepth 100000 in
theorem lc_14 (C : z_C p s m args meth c cL_law "EscapeRoomsLaw" ret 4 nm G) (hb : lw_H s b L xs i) (hJ : lw_J G s.heap.size ax a0 i H) (hc : cells + 2 ≤ room_1.cells ∧ slots + 34 ≤ room_1.slots) (hn : ∀ H', lw_J G s.heap.size ax a0 (i + 1) H' → z_Z p l e room_1 s m args below meth c (fun q => s.heap.size ≤ q) 4 (cells + 2) (slots + 34) Q H' 943 [(0, .ref b), (1, .ref ax), (2, .ref a0), (3, .int (nI (6 * i)))] []) : z_Z p l e room_1 s m args below meth c (fun q => s.heap.size ≤ q) 4 cells slots Q H 620 [(0, .ref b), (1, .ref ax), (2, .ref a0), (3, .int (nI (6 * i)))] [] := by
  obtain ⟨ad, am, M, T, nR, nD, nK, nG, n0, hJI⟩ := hJ
  have hO := hJI.out
  have hJ2 := hJI
  obtain ⟨⟨hX, hR, hI, hH, hn0, hT4⟩, ⟨rfl, rfl⟩, -, -, -, hE, -⟩ := hJ2
  have hb5 := hb.2.2
  refine z_aload_n C dL_law_620 rfl ?_
  refine z_aload_n C dL_law_621 rfl ?_
  refine z_iload_n C dL_law_622 rfl ?_
  refine z_iconst (v := 1) C dL_law_623 (by decide) ?_
  refine z_iadd C dL_law_624 ?_
  refine z_sld (j := 6 * i + 1) C hb (by exact nI_add (6 * i) 1) (by omega) dL_law_625 ?_
  refine z_callV (As := [.int _]) C (c_X5_leave _ _ ad M T hI _) kc_X5_leave wb_481 ⟨by decide, by decide⟩ hX.1.1 rfl (hX) hJI.xA ⟨by omega, by omega⟩ (Nat.le_of_ble_eq_true rfl) dL_law_626 (fun v H1 hq hz1 hf1 => ?_)
  obtain ⟨rfl, hX1⟩ := hq
  have hR1 := hJI.mid (fun q hq => Or.inl hq) hf1
  refine z_aload_n C dL_law_629 rfl ?_
  refine z_aload_n C dL_law_630 rfl ?_
  refine z_iload_n C dL_law_631 rfl ?_
  refine z_iconst (v := 1) C dL_law_632 (by decide) ?_
  refine z_iadd C dL_law_633 ?_
  refine z_sld (j := 6 * i + 1) C hb (by exact nI_add (6 * i) 1) (by omega) dL_law_634 ?_
  refine z_callV (As := [.int _]) C (c_X6_leave _ _ am M hI.1 _) kc_X6_leave wb_845 ⟨by decide, by decide⟩ hR1.1 rfl hR1 hJI.mA ⟨by omega, by omega⟩ (Nat.le_of_ble_eq_true rfl) dL_law_635 (fun v H2 hq _ hf2 => ?_)
  obtain ⟨rfl, hR2⟩ := hq
  refine z_icmp_eq C 943 dL_law_638 (by decide) (fun h638 => ?_) (fun h638 => ?_)
  · refine z_widen (k2 := cells + 2) (n2 := slots + 34) (by omega) (by omega) ?_
    exact hn _ (hJI.step (fun q hq => Or.inl hq) hf1 hz1 (x_Gt.w hX1 (m_I_leave hI _) hT4) hf2 ⟨_, m_Q.refl, hR2⟩ (lw_hh hI hn0 rfl (hn_leave hH).1 (hn_leave hH).2))
  · exact absurd rfl h638
set_option maxHeartbeats 4000000 in
set_option maxRecDepth 100000 in
theorem lc_15 (C : z_C p s m args meth c cL_law "EscapeRoomsLaw" ret 4 nm G) (hb : lw_H s b L xs i) (hJ : lw_J G s.heap.size ax a0 i H) (hc : cells + 2 ≤ room_1.cells ∧ slots + 34 ≤ room_1.slots) (hn : ∀ H', lw_J G s.heap.size ax a0 (i + 1) H' → z_Z p l e room_1 s m args below meth c (fun q => s.heap.size ≤ q) 4 (cells + 2) (slots + 34) Q H' 943 [(0, .ref b), (1, .ref ax), (2, .ref a0), (3, .int (nI (6 * i)))] []) : z_Z p l e room_1 s m args below meth c (fun q => s.heap.size ≤ q) 4 cells slots Q H 643 [(0, .ref b), (1, .ref ax), (2, .ref a0), (3, .int (nI (6 * i)))] [] := by
  obtain ⟨ad, am, M, T, nR, nD, nK, nG, n0, hJI⟩ := hJ
  have hO := hJI.out
  have hJ2 := hJI
  obtain ⟨⟨hX, hR, hI, hH, hn0, hT4⟩, ⟨rfl, rfl⟩, -, -, -, hE, -⟩ := hJ2
  have hb5 := hb.2.2
  refine z_aload_n C dL_law_643 rfl ?_
  refine z_aload_n C dL_law_644 rfl ?_
  refine z_iload_n C dL_law_645 rfl ?_
  refine z_iconst (v := 1) C dL_law_646 (by decide) ?_
  refine z_iadd C dL_law_647 ?_
  refine z_sld (j := 6 * i + 1) C hb (by exact nI_add (6 * i) 1) (by omega) dL_law_648 ?_
  refine z_callV (As := [.int _]) C (c_X5_hint _ _ ad M T hI hH (by omega) _) kc_X5_hint wb_485 ⟨by decide, by decide⟩ hX.1.1 rfl (hX) hJI.xA ⟨by omega, by omega⟩ (Nat.le_of_ble_eq_true rfl) dL_law_649 (fun v H1 hq hz1 hf1 => ?_)
  obtain ⟨rfl, T1, hT1, hX1⟩ := hq
  have hR1 := hJI.mid (fun q hq => Or.inl hq) hf1
  refine z_aload_n C dL_law_652 rfl ?_
  refine z_aload_n C dL_law_653 rfl ?_
  refine z_iload_n C dL_law_654 rfl ?_
  refine z_iconst (v := 1) C dL_law_655 (by decide) ?_
  refine z_iadd C dL_law_656 ?_
  refine z_sld (j := 6 * i + 1) C hb (by exact nI_add (6 * i) 1) (by omega) dL_law_657 ?_
  refine z_callV (As := [.int _]) C (c_X6_hint _ _ am M hI hH (by omega) _) kc_X6_hint wb_849 ⟨by decide, by decide⟩ hR1.1 rfl hR1 hJI.mA ⟨by omega, by omega⟩ (Nat.le_of_ble_eq_true rfl) dL_law_658 (fun v H2 hq _ hf2 => ?_)
  obtain ⟨rfl, hR2⟩ := hq
  refine z_icmp_eq C 943 dL_law_661 (by decide) (fun h661 => ?_) (fun h661 => ?_)
  · refine z_widen (k2 := cells + 2) (n2 := slots + 34) (by omega) (by omega) ?_
    exact hn _ (hJI.step (fun q hq => Or.inl hq) hf1 hz1 (x_Gt.w hX1 (hI_hint hI hH (by omega)) hT1) hf2 hR2 (hh_hint hI hH hn0 hT4))
  · exact absurd rfl h661
set_option maxHeartbeats 4000000 in
set_option maxRecDepth 100000 in
theorem lc_16 (C : z_C p s m args meth c cL_law "EscapeRoomsLaw" ret 4 nm G) (hb : lw_H s b L xs i) (hJ : lw_J G s.heap.size ax a0 i H) (hc : cells + 2 ≤ room_1.cells ∧ slots + 34 ≤ room_1.slots) (hn : ∀ H', lw_J G s.heap.size ax a0 (i + 1) H' → z_Z p l e room_1 s m args below meth c (fun q => s.heap.size ≤ q) 4 (cells + 2) (slots + 34) Q H' 943 [(0, .ref b), (1, .ref ax), (2, .ref a0), (3, .int (nI (6 * i)))] []) : z_Z p l e room_1 s m args below meth c (fun q => s.heap.size ≤ q) 4 cells slots Q H 666 [(0, .ref b), (1, .ref ax), (2, .ref a0), (3, .int (nI (6 * i)))] [] := by
  obtain ⟨ad, am, M, T, nR, nD, nK, nG, n0, hJI⟩ := hJ
  have hO := hJI.out
  have hJ2 := hJI
  obtain ⟨⟨hX, hR, hI, hH, hn0, hT4⟩, ⟨rfl, rfl⟩, -, -, -, hE, -⟩ := hJ2
  have hb5 := hb.2.2
  refine z_aload_n C dL_law_666 rfl ?_
  refine z_aload_n C dL_law_667 rfl ?_
  refine z_iload_n C dL_law_668 rfl ?_
  refine z_iconst (v := 1) C dL_law_669 (by decide) ?_
  refine z_iadd C dL_law_670 ?_
  refine z_sld (j := 6 * i + 1) C hb (by exact nI_add (6 * i) 1) (by omega) dL_law_671 ?_
  refine z_aload_n C dL_law_672 rfl ?_
  refine z_iload_n C dL_law_673 rfl ?_
  refine z_iconst (v := 2) C dL_law_674 (by decide) ?_
  refine z_iadd C dL_law_675 ?_
  refine z_sld (j := 6 * i + 2) C hb (by exact nI_add (6 * i) 2) (by omega) dL_law_676 ?_
  refine z_callV (As := [.int _, .int _]) C (c_X5_plan _ _ ad M T hI _ _) kc_X5_plan wb_559 ⟨by decide, by decide⟩ hX.1.1 rfl (hX) hJI.xA ⟨by omega, by omega⟩ (Nat.le_of_ble_eq_true rfl) dL_law_677 (fun v H1 hq hz1 hf1 => ?_)
  obtain ⟨rfl, T1, hT1, hX1⟩ := hq
  have hR1 := hJI.mid (fun q hq => Or.inl hq) hf1
  refine z_aload_n C dL_law_680 rfl ?_
  refine z_aload_n C dL_law_681 rfl ?_
  refine z_iload_n C dL_law_682 rfl ?_
  refine z_iconst (v := 1) C dL_law_683 (by decide) ?_
  refine z_iadd C dL_law_684 ?_
  refine z_sld (j := 6 * i + 1) C hb (by exact nI_add (6 * i) 1) (by omega) dL_law_685 ?_
  refine z_aload_n C dL_law_686 rfl ?_
  refine z_iload_n C dL_law_687 rfl ?_
  refine z_iconst (v := 2) C dL_law_688 (by decide) ?_
  refine z_iadd C dL_law_689 ?_
  refine z_sld (j := 6 * i + 2) C hb (by exact nI_add (6 * i) 2) (by omega) dL_law_690 ?_
  refine z_callV (As := [.int _, .int _]) C (c_X6_plan _ _ am M hI _ _) kc_X6_plan wb_888 ⟨by decide, by decide⟩ hR1.1 rfl hR1 hJI.mA ⟨by omega, by omega⟩ (Nat.le_of_ble_eq_true rfl) dL_law_691 (fun v H2 hq _ hf2 => ?_)
  obtain ⟨rfl, hR2⟩ := hq
  refine z_icmp_eq C 943 dL_law_694 (by decide) (fun h694 => ?_) (fun h694 => ?_)
  · refine z_widen (k2 := cells + 2) (n2 := slots + 34) (by omega) (by omega) ?_
    exact hn _ (hJI.step (fun q hq => Or.inl hq) hf1 hz1 (x_Gt.w hX1 hI (hT1.trans hT4)) hf2 hR2 (lw_hh hI hn0 rfl hH rfl))
  · exact absurd rfl h694
set_option maxHeartbeats 4000000 in
set_option maxRecDepth 100000 in
theorem lc_17 (C : z_C p s m args meth c cL_law "EscapeRoomsLaw" ret 4 nm G) (hb : lw_H s b L xs i) (hJ : lw_J G s.heap.size ax a0 i H) (hc : cells + 2 ≤ room_1.cells ∧ slots + 34 ≤ room_1.slots) (hn : ∀ H', lw_J G s.heap.size ax a0 (i + 1) H' → z_Z p l e room_1 s m args below meth c (fun q => s.heap.size ≤ q) 4 (cells + 2) (slots + 34) Q H' 943 [(0, .ref b), (1, .ref ax), (2, .ref a0), (3, .int (nI (6 * i)))] []) : z_Z p l e room_1 s m args below meth c (fun q => s.heap.size ≤ q) 4 cells slots Q H 699 [(0, .ref b), (1, .ref ax), (2, .ref a0), (3, .int (nI (6 * i)))] [] := by
  obtain ⟨ad, am, M, T, nR, nD, nK, nG, n0, hJI⟩ := hJ
  have hO := hJI.out
  have hJ2 := hJI
  obtain ⟨⟨hX, hR, hI, hH, hn0, hT4⟩, ⟨rfl, rfl⟩, -, -, -, hE, -⟩ := hJ2
  have hb5 := hb.2.2
  refine z_aload_n C dL_law_699 rfl ?_
  refine z_aload_n C dL_law_700 rfl ?_
  refine z_iload_n C dL_law_701 rfl ?_
  refine z_iconst (v := 1) C dL_law_702 (by decide) ?_
  refine z_iadd C dL_law_703 ?_
  refine z_sld (j := 6 * i + 1) C hb (by exact nI_add (6 * i) 1) (by omega) dL_law_704 ?_
  refine z_aload_n C dL_law_705 rfl ?_
  refine z_iload_n C dL_law_706 rfl ?_
  refine z_iconst (v := 2) C dL_law_707 (by decide) ?_
  refine z_iadd C dL_law_708 ?_
  refine z_sld (j := 6 * i + 2) C hb (by exact nI_add (6 * i) 2) (by omega) dL_law_709 ?_
  refine z_callV (As := [.int _, .int _]) C (c_X5_planned _ _ ad M T hI _ _) kc_X5_planned wb_563 ⟨by decide, by decide⟩ hX.1.1 rfl (hX) hJI.xA ⟨by omega, by omega⟩ (Nat.le_of_ble_eq_true rfl) dL_law_710 (fun v H1 hq hz1 hf1 => ?_)
  obtain ⟨rfl, T1, hT1, hX1⟩ := hq
  have hR1 := hJI.mid (fun q hq => Or.inl hq) hf1
  refine z_aload_n C dL_law_713 rfl ?_
  refine z_aload_n C dL_law_714 rfl ?_
  refine z_iload_n C dL_law_715 rfl ?_
  refine z_iconst (v := 1) C dL_law_716 (by decide) ?_
  refine z_iadd C dL_law_717 ?_
  refine z_sld (j := 6 * i + 1) C hb (by exact nI_add (6 * i) 1) (by omega) dL_law_718 ?_
  refine z_aload_n C dL_law_719 rfl ?_
  refine z_iload_n C dL_law_720 rfl ?_
  refine z_iconst (v := 2) C dL_law_721 (by decide) ?_
  refine z_iadd C dL_law_722 ?_
  refine z_sld (j := 6 * i + 2) C hb (by exact nI_add (6 * i) 2) (by omega) dL_law_723 ?_
  refine z_callV (As := [.int _, .int _]) C (c_X6_planned _ _ am M hI _ _) kc_X6_planned wb_892 ⟨by decide, by decide⟩ hR1.1 rfl hR1 hJI.mA ⟨by omega, by omega⟩ (Nat.le_of_ble_eq_true rfl) dL_law_724 (fun v H2 hq _ hf2 => ?_)
  obtain ⟨rfl, hR2⟩ := hq
  refine z_icmp_eq C 943 dL_law_727 (by decide) (fun h727 => ?_) (fun h727 => ?_)
  · refine z_widen (k2 := cells + 2) (n2 := slots + 34) (by omega) (by omega) ?_
    exact hn _ (hJI.step (fun q hq => Or.inl hq) hf1 hz1 (x_Gt.w hX1 hI (hT1.trans hT4)) hf2 hR2 (lw_hh hI hn0 rfl hH rfl))
  · exact absurd rfl h727
set_option maxHeartbeats 4000000 in
set_option maxRecDepth 100000 in
theorem lc_18 (C : z_C p s m args meth c cL_law "EscapeRoomsLaw" ret 4 nm G) (hb : lw_H s b L xs i) (hJ : lw_J G s.heap.size ax a0 i H) (hc : cells + 2 ≤ room_1.cells ∧ slots + 34 ≤ room_1.slots) (hn : ∀ H', lw_J G s.heap.size ax a0 (i + 1) H' → z_Z p l e room_1 s m args below meth c (fun q => s.heap.size ≤ q) 4 (cells + 2) (slots + 34) Q H' 943 [(0, .ref b), (1, .ref ax), (2, .ref a0), (3, .int (nI (6 * i)))] []) : z_Z p l e room_1 s m args below meth c (fun q => s.heap.size ≤ q) 4 cells slots Q H 732 [(0, .ref b), (1, .ref ax), (2, .ref a0), (3, .int (nI (6 * i)))] [] := by
  obtain ⟨ad, am, M, T, nR, nD, nK, nG, n0, hJI⟩ := hJ
  have hO := hJI.out
  have hJ2 := hJI
  obtain ⟨⟨hX, hR, hI, hH, hn0, hT4⟩, ⟨rfl, rfl⟩, -, -, -, hE, -⟩ := hJ2
  have hb5 := hb.2.2
  refine z_aload_n C dL_law_732 rfl ?_
  refine z_aload_n C dL_law_733 rfl ?_
  refine z_iload_n C dL_law_734 rfl ?_
  refine z_iconst (v := 1) C dL_law_735 (by decide) ?_
  refine z_iadd C dL_law_736 ?_
  refine z_sld (j := 6 * i + 1) C hb (by exact nI_add (6 * i) 1) (by omega) dL_law_737 ?_
  refine z_aload_n C dL_law_738 rfl ?_
  refine z_iload_n C dL_law_739 rfl ?_
  refine z_iconst (v := 2) C dL_law_740 (by decide) ?_
  refine z_iadd C dL_law_741 ?_
  refine z_sld (j := 6 * i + 2) C hb (by exact nI_add (6 * i) 2) (by omega) dL_law_742 ?_
  refine z_callV (As := [.int _, .int _]) C (c_X5_way _ _ ad M T hI _ _) kc_X5_way wb_567 ⟨by decide, by decide⟩ hX.1.1 rfl (hX) hJI.xA ⟨by omega, by omega⟩ (Nat.le_of_ble_eq_true rfl) dL_law_743 (fun v H1 hq hz1 hf1 => ?_)
  obtain ⟨rfl, T1, hT1, hX1⟩ := hq
  have hR1 := hJI.mid (fun q hq => Or.inl hq) hf1
  refine z_aload_n C dL_law_746 rfl ?_
  refine z_aload_n C dL_law_747 rfl ?_
  refine z_iload_n C dL_law_748 rfl ?_
  refine z_iconst (v := 1) C dL_law_749 (by decide) ?_
  refine z_iadd C dL_law_750 ?_
  refine z_sld (j := 6 * i + 1) C hb (by exact nI_add (6 * i) 1) (by omega) dL_law_751 ?_
  refine z_aload_n C dL_law_752 rfl ?_
  refine z_iload_n C dL_law_753 rfl ?_
  refine z_iconst (v := 2) C dL_law_754 (by decide) ?_
  refine z_iadd C dL_law_755 ?_
  refine z_sld (j := 6 * i + 2) C hb (by exact nI_add (6 * i) 2) (by omega) dL_law_756 ?_
  refine z_callV (As := [.int _, .int _]) C (c_X6_way _ _ am M hI _ _) kc_X6_way wb_896 ⟨by decide, by decide⟩ hR1.1 rfl hR1 hJI.mA ⟨by omega, by omega⟩ (Nat.le_of_ble_eq_true rfl) dL_law_757 (fun v H2 hq _ hf2 => ?_)
  obtain ⟨rfl, hR2⟩ := hq
  refine z_icmp_eq C 943 dL_law_760 (by decide) (fun h760 => ?_) (fun h760 => ?_)
  · refine z_widen (k2 := cells + 2) (n2 := slots + 34) (by omega) (by omega) ?_
    exact hn _ (hJI.step (fun q hq => Or.inl hq) hf1 hz1 (x_Gt.w hX1 hI (hT1.trans hT4)) hf2 hR2 (lw_hh hI hn0 rfl hH rfl))
  · exact absurd rfl h760
set_option maxHeartbeats 4000000 in
set_option maxRecDepth 100000 in
theorem lc_19 (C : z_C p s m args meth c cL_law "EscapeRoomsLaw" ret 4 nm G) (hb : lw_H s b L xs i) (hJ : lw_J G s.heap.size ax a0 i H) (hc : cells + 2 ≤ room_1.cells ∧ slots + 34 ≤ room_1.slots) (hn : ∀ H', lw_J G s.heap.size ax a0 (i + 1) H' → z_Z p l e room_1 s m args below meth c (fun q => s.heap.size ≤ q) 4 (cells + 2) (slots + 34) Q H' 943 [(0, .ref b), (1, .ref ax), (2, .ref a0), (3, .int (nI (6 * i)))] []) : z_Z p l e room_1 s m args below meth c (fun q => s.heap.size ≤ q) 4 cells slots Q H 765 [(0, .ref b), (1, .ref ax), (2, .ref a0), (3, .int (nI (6 * i)))] [] := by
  obtain ⟨ad, am, M, T, nR, nD, nK, nG, n0, hJI⟩ := hJ
  have hO := hJI.out
  have hJ2 := hJI
  obtain ⟨⟨hX, hR, hI, hH, hn0, hT4⟩, ⟨rfl, rfl⟩, -, -, -, hE, -⟩ := hJ2
  have hb5 := hb.2.2
  refine z_aload_n C dL_law_765 rfl ?_
  refine z_aload_n C dL_law_766 rfl ?_
  refine z_iload_n C dL_law_767 rfl ?_
  refine z_iconst (v := 1) C dL_law_768 (by decide) ?_
  refine z_iadd C dL_law_769 ?_
  refine z_sld (j := 6 * i + 1) C hb (by exact nI_add (6 * i) 1) (by omega) dL_law_770 ?_
  refine z_callVR (As := [.int _]) C (c_X5_reach _ _ ad M T hI _) kc_X5_reach wb_582 ⟨by decide, by decide⟩ hX.1.1 rfl (hX) ⟨by omega, by omega⟩ (Nat.le_of_ble_eq_true rfl) dL_law_771 ?_
  refine z_aload_n C dL_law_774 rfl ?_
  refine z_aload_n C dL_law_775 rfl ?_
  refine z_iload_n C dL_law_776 rfl ?_
  refine z_iconst (v := 1) C dL_law_777 (by decide) ?_
  refine z_iadd C dL_law_778 ?_
  refine z_sld (j := 6 * i + 1) C hb (by exact nI_add (6 * i) 1) (by omega) dL_law_779 ?_
  refine z_callVR (As := [.int _]) C (c_X6_reach _ _ am M hI _) kc_X6_reach wb_905 ⟨by decide, by decide⟩ hR.1 rfl hR ⟨by omega, by omega⟩ (Nat.le_of_ble_eq_true rfl) dL_law_780 ?_
  refine z_icmp_eq C 943 dL_law_783 (by decide) (fun h783 => ?_) (fun h783 => ?_)
  · refine z_widen (k2 := cells + 2) (n2 := slots + 34) (by omega) (by omega) ?_
    exact hn _ (lw_J.next hJI)
  · exact absurd rfl h783
set_option maxHeartbeats 4000000 in
set_option maxRecDepth 100000 in
theorem lc_20 (C : z_C p s m args meth c cL_law "EscapeRoomsLaw" ret 4 nm G) (hb : lw_H s b L xs i) (hJ : lw_J G s.heap.size ax a0 i H) (hc : cells + 2 ≤ room_1.cells ∧ slots + 34 ≤ room_1.slots) (hn : ∀ H', lw_J G s.heap.size ax a0 (i + 1) H' → z_Z p l e room_1 s m args below meth c (fun q => s.heap.size ≤ q) 4 (cells + 2) (slots + 34) Q H' 943 [(0, .ref b), (1, .ref ax), (2, .ref a0), (3, .int (nI (6 * i)))] []) : z_Z p l e room_1 s m args below meth c (fun q => s.heap.size ≤ q) 4 cells slots Q H 788 [(0, .ref b), (1, .ref ax), (2, .ref a0), (3, .int (nI (6 * i)))] [] := by
  obtain ⟨ad, am, M, T, nR, nD, nK, nG, n0, hJI⟩ := hJ
  have hO := hJI.out
  have hJ2 := hJI
  obtain ⟨⟨hX, hR, hI, hH, hn0, hT4⟩, ⟨rfl, rfl⟩, -, -, -, hE, -⟩ := hJ2
  have hb5 := hb.2.2
  refine z_aload_n C dL_law_788 rfl ?_
  refine z_aload_n C dL_law_789 rfl ?_
  refine z_iload_n C dL_law_790 rfl ?_
  refine z_iconst (v := 1) C dL_law_791 (by decide) ?_
  refine z_iadd C dL_law_792 ?_
  refine z_sld (j := 6 * i + 1) C hb (by exact nI_add (6 * i) 1) (by omega) dL_law_793 ?_
  refine z_aload_n C dL_law_794 rfl ?_
  refine z_iload_n C dL_law_795 rfl ?_
  refine z_iconst (v := 2) C dL_law_796 (by decide) ?_
  refine z_iadd C dL_law_797 ?_
  refine z_sld (j := 6 * i + 2) C hb (by exact nI_add (6 * i) 2) (by omega) dL_law_798 ?_
  refine z_callVR (As := [.int _, .int _]) C (c_X5_door _ _ ad M T hI _ _) kc_X5_door wb_588 ⟨by decide, by decide⟩ hX.1.1 rfl (hX) ⟨by omega, by omega⟩ (Nat.le_of_ble_eq_true rfl) dL_law_799 ?_
  refine z_aload_n C dL_law_802 rfl ?_
  refine z_aload_n C dL_law_803 rfl ?_
  refine z_iload_n C dL_law_804 rfl ?_
  refine z_iconst (v := 1) C dL_law_805 (by decide) ?_
  refine z_iadd C dL_law_806 ?_
  refine z_sld (j := 6 * i + 1) C hb (by exact nI_add (6 * i) 1) (by omega) dL_law_807 ?_
  refine z_aload_n C dL_law_808 rfl ?_
  refine z_iload_n C dL_law_809 rfl ?_
  refine z_iconst (v := 2) C dL_law_810 (by decide) ?_
  refine z_iadd C dL_law_811 ?_
  refine z_sld (j := 6 * i + 2) C hb (by exact nI_add (6 * i) 2) (by omega) dL_law_812 ?_
  refine z_callVR (As := [.int _, .int _]) C (c_X6_door _ _ am M hI.1 _ _) kc_X6_door wb_909 ⟨by decide, by decide⟩ hR.1 rfl hR ⟨by omega, by omega⟩ (Nat.le_of_ble_eq_true rfl) dL_law_813 ?_
  refine z_icmp_eq C 943 dL_law_816 (by decide) (fun h816 => ?_) (fun h816 => ?_)
  · refine z_widen (k2 := cells + 2) (n2 := slots + 34) (by omega) (by omega) ?_
    exact hn _ (lw_J.next hJI)
  · exact absurd rfl h816
set_option maxHeartbeats 4000000 in
set_option maxRecDepth 100000 in
theorem lc_21 (C : z_C p s m args meth c cL_law "EscapeRoomsLaw" ret 4 nm G) (hb : lw_H s b L xs i) (hJ : lw_J G s.heap.size ax a0 i H) (hc : cells + 2 ≤ room_1.cells ∧ slots + 34 ≤ room_1.slots) (hn : ∀ H', lw_J G s.heap.size ax a0 (i + 1) H' → z_Z p l e room_1 s m args below meth c (fun q => s.heap.size ≤ q) 4 (cells + 2) (slots + 34) Q H' 943 [(0, .ref b), (1, .ref ax), (2, .ref a0), (3, .int (nI (6 * i)))] []) : z_Z p l e room_1 s m args below meth c (fun q => s.heap.size ≤ q) 4 cells slots Q H 821 [(0, .ref b), (1, .ref ax), (2, .ref a0), (3, .int (nI (6 * i)))] [] := by
  obtain ⟨ad, am, M, T, nR, nD, nK, nG, n0, hJI⟩ := hJ
  have hO := hJI.out
  have hJ2 := hJI
  obtain ⟨⟨hX, hR, hI, hH, hn0, hT4⟩, ⟨rfl, rfl⟩, -, -, -, hE, -⟩ := hJ2
  have hb5 := hb.2.2
  refine z_aload_n C dL_law_821 rfl ?_
  refine z_aload_n C dL_law_822 rfl ?_
  refine z_iload_n C dL_law_823 rfl ?_
  refine z_iconst (v := 1) C dL_law_824 (by decide) ?_
  refine z_iadd C dL_law_825 ?_
  refine z_sld (j := 6 * i + 1) C hb (by exact nI_add (6 * i) 1) (by omega) dL_law_826 ?_
  refine z_aload_n C dL_law_827 rfl ?_
  refine z_iload_n C dL_law_828 rfl ?_
  refine z_iconst (v := 2) C dL_law_829 (by decide) ?_
  refine z_iadd C dL_law_830 ?_
  refine z_sld (j := 6 * i + 2) C hb (by exact nI_add (6 * i) 2) (by omega) dL_law_831 ?_
  refine z_callVR (As := [.int _, .int _]) C (c_X5_key _ _ ad M T hI _ _) kc_X5_key wb_592 ⟨by decide, by decide⟩ hX.1.1 rfl (hX) ⟨by omega, by omega⟩ (Nat.le_of_ble_eq_true rfl) dL_law_832 ?_
  refine z_aload_n C dL_law_835 rfl ?_
  refine z_aload_n C dL_law_836 rfl ?_
  refine z_iload_n C dL_law_837 rfl ?_
  refine z_iconst (v := 1) C dL_law_838 (by decide) ?_
  refine z_iadd C dL_law_839 ?_
  refine z_sld (j := 6 * i + 1) C hb (by exact nI_add (6 * i) 1) (by omega) dL_law_840 ?_
  refine z_aload_n C dL_law_841 rfl ?_
  refine z_iload_n C dL_law_842 rfl ?_
  refine z_iconst (v := 2) C dL_law_843 (by decide) ?_
  refine z_iadd C dL_law_844 ?_
  refine z_sld (j := 6 * i + 2) C hb (by exact nI_add (6 * i) 2) (by omega) dL_law_845 ?_
  refine z_callVR (As := [.int _, .int _]) C (c_X6_key _ _ am M hI.1 _ _) kc_X6_key wb_913 ⟨by decide, by decide⟩ hR.1 rfl hR ⟨by omega, by omega⟩ (Nat.le_of_ble_eq_true rfl) dL_law_846 ?_
  refine z_icmp_eq C 943 dL_law_849 (by decide) (fun h849 => ?_) (fun h849 => ?_)
  · refine z_widen (k2 := cells + 2) (n2 := slots + 34) (by omega) (by omega) ?_
    exact hn _ (lw_J.next hJI)
  · exact absurd rfl h849
set_option maxHeartbeats 4000000 in
set_option maxRecDepth 100000 in
theorem lc_22 (C : z_C p s m args meth c cL_law "EscapeRoomsLaw" ret 4 nm G) (hb : lw_H s b L xs i) (hJ : lw_J G s.heap.size ax a0 i H) (hc : cells + 2 ≤ room_1.cells ∧ slots + 34 ≤ room_1.slots) (hn : ∀ H', lw_J G s.heap.size ax a0 (i + 1) H' → z_Z p l e room_1 s m args below meth c (fun q => s.heap.size ≤ q) 4 (cells + 2) (slots + 34) Q H' 943 [(0, .ref b), (1, .ref ax), (2, .ref a0), (3, .int (nI (6 * i)))] []) : z_Z p l e room_1 s m args below meth c (fun q => s.heap.size ≤ q) 4 cells slots Q H 854 [(0, .ref b), (1, .ref ax), (2, .ref a0), (3, .int (nI (6 * i)))] [] := by
  obtain ⟨ad, am, M, T, nR, nD, nK, nG, n0, hJI⟩ := hJ
  have hO := hJI.out
  have hJ2 := hJI
  obtain ⟨⟨hX, hR, hI, hH, hn0, hT4⟩, ⟨rfl, rfl⟩, -, -, -, hE, -⟩ := hJ2
  have hb5 := hb.2.2
  refine z_aload_n C dL_law_854 rfl ?_
  refine z_aload_n C dL_law_855 rfl ?_
  refine z_iload_n C dL_law_856 rfl ?_
  refine z_iconst (v := 1) C dL_law_857 (by decide) ?_
  refine z_iadd C dL_law_858 ?_
  refine z_sld (j := 6 * i + 1) C hb (by exact nI_add (6 * i) 1) (by omega) dL_law_859 ?_
  refine z_aload_n C dL_law_860 rfl ?_
  refine z_iload_n C dL_law_861 rfl ?_
  refine z_iconst (v := 2) C dL_law_862 (by decide) ?_
  refine z_iadd C dL_law_863 ?_
  refine z_sld (j := 6 * i + 2) C hb (by exact nI_add (6 * i) 2) (by omega) dL_law_864 ?_
  refine z_callVR (As := [.int _, .int _]) C (c_X5_group _ _ ad M T hI _ _) kc_X5_group wb_600 ⟨by decide, by decide⟩ hX.1.1 rfl (hX) ⟨by omega, by omega⟩ (Nat.le_of_ble_eq_true rfl) dL_law_865 ?_
  refine z_aload_n C dL_law_868 rfl ?_
  refine z_aload_n C dL_law_869 rfl ?_
  refine z_iload_n C dL_law_870 rfl ?_
  refine z_iconst (v := 1) C dL_law_871 (by decide) ?_
  refine z_iadd C dL_law_872 ?_
  refine z_sld (j := 6 * i + 1) C hb (by exact nI_add (6 * i) 1) (by omega) dL_law_873 ?_
  refine z_aload_n C dL_law_874 rfl ?_
  refine z_iload_n C dL_law_875 rfl ?_
  refine z_iconst (v := 2) C dL_law_876 (by decide) ?_
  refine z_iadd C dL_law_877 ?_
  refine z_sld (j := 6 * i + 2) C hb (by exact nI_add (6 * i) 2) (by omega) dL_law_878 ?_
  refine z_callVR (As := [.int _, .int _]) C (c_X6_group _ _ am M hI.1 _ _) kc_X6_group wb_917 ⟨by decide, by decide⟩ hR.1 rfl hR ⟨by omega, by omega⟩ (Nat.le_of_ble_eq_true rfl) dL_law_879 ?_
  refine z_icmp_eq C 943 dL_law_882 (by decide) (fun h882 => ?_) (fun h882 => ?_)
  · refine z_widen (k2 := cells + 2) (n2 := slots + 34) (by omega) (by omega) ?_
    exact hn _ (lw_J.next hJI)
  · exact absurd rfl h882
set_option maxHeartbeats 4000000 in
set_option maxRecDepth 100000 in
theorem lc_23 (C : z_C p s m args meth c cL_law "EscapeRoomsLaw" ret 4 nm G) (hb : lw_H s b L xs i) (hJ : lw_J G s.heap.size ax a0 i H) (hc : cells + 2 ≤ room_1.cells ∧ slots + 34 ≤ room_1.slots) (hn : ∀ H', lw_J G s.heap.size ax a0 (i + 1) H' → z_Z p l e room_1 s m args below meth c (fun q => s.heap.size ≤ q) 4 (cells + 2) (slots + 34) Q H' 943 [(0, .ref b), (1, .ref ax), (2, .ref a0), (3, .int (nI (6 * i)))] []) : z_Z p l e room_1 s m args below meth c (fun q => s.heap.size ≤ q) 4 cells slots Q H 887 [(0, .ref b), (1, .ref ax), (2, .ref a0), (3, .int (nI (6 * i)))] [] := by
  obtain ⟨ad, am, M, T, nR, nD, nK, nG, n0, hJI⟩ := hJ
  have hO := hJI.out
  have hJ2 := hJI
  obtain ⟨⟨hX, hR, hI, hH, hn0, hT4⟩, ⟨rfl, rfl⟩, -, -, -, hE, -⟩ := hJ2
  have hb5 := hb.2.2
  refine z_aload_n C dL_law_887 rfl ?_
  refine z_aload_n C dL_law_888 rfl ?_
  refine z_iload_n C dL_law_889 rfl ?_
  refine z_iconst (v := 1) C dL_law_890 (by decide) ?_
  refine z_iadd C dL_law_891 ?_
  refine z_sld (j := 6 * i + 1) C hb (by exact nI_add (6 * i) 1) (by omega) dL_law_892 ?_
  refine z_aload_n C dL_law_893 rfl ?_
  refine z_iload_n C dL_law_894 rfl ?_
  refine z_iconst (v := 2) C dL_law_895 (by decide) ?_
  refine z_iadd C dL_law_896 ?_
  refine z_sld (j := 6 * i + 2) C hb (by exact nI_add (6 * i) 2) (by omega) dL_law_897 ?_
  refine z_callVR (As := [.int _, .int _]) C (c_X5_color _ _ ad M T hI _ _) kc_X5_color wb_604 ⟨by decide, by decide⟩ hX.1.1 rfl (hX) ⟨by omega, by omega⟩ (Nat.le_of_ble_eq_true rfl) dL_law_898 ?_
  refine z_aload_n C dL_law_901 rfl ?_
  refine z_aload_n C dL_law_902 rfl ?_
  refine z_iload_n C dL_law_903 rfl ?_
  refine z_iconst (v := 1) C dL_law_904 (by decide) ?_
  refine z_iadd C dL_law_905 ?_
  refine z_sld (j := 6 * i + 1) C hb (by exact nI_add (6 * i) 1) (by omega) dL_law_906 ?_
  refine z_aload_n C dL_law_907 rfl ?_
  refine z_iload_n C dL_law_908 rfl ?_
  refine z_iconst (v := 2) C dL_law_909 (by decide) ?_
  refine z_iadd C dL_law_910 ?_
  refine z_sld (j := 6 * i + 2) C hb (by exact nI_add (6 * i) 2) (by omega) dL_law_911 ?_
  refine z_callVR (As := [.int _, .int _]) C (c_X6_color _ _ am M hI.1 _ _) kc_X6_color wb_921 ⟨by decide, by decide⟩ hR.1 rfl hR ⟨by omega, by omega⟩ (Nat.le_of_ble_eq_true rfl) dL_law_912 ?_
  refine z_icmp_eq C 943 dL_law_915 (by decide) (fun h915 => ?_) (fun h915 => ?_)
  · refine z_widen (k2 := cells + 2) (n2 := slots + 34) (by omega) (by omega) ?_
    exact hn _ (lw_J.next hJI)
  · exact absurd rfl h915
set_option maxHeartbeats 4000000 in
set_option maxRecDepth 100000 in
theorem lc_24 (C : z_C p s m args meth c cL_law "EscapeRoomsLaw" ret 4 nm G) (hb : lw_H s b L xs i) (hJ : lw_J G s.heap.size ax a0 i H) (hc : cells + 2 ≤ room_1.cells ∧ slots + 34 ≤ room_1.slots) (hn : ∀ H', lw_J G s.heap.size ax a0 (i + 1) H' → z_Z p l e room_1 s m args below meth c (fun q => s.heap.size ≤ q) 4 (cells + 2) (slots + 34) Q H' 943 [(0, .ref b), (1, .ref ax), (2, .ref a0), (3, .int (nI (6 * i)))] []) : z_Z p l e room_1 s m args below meth c (fun q => s.heap.size ≤ q) 4 cells slots Q H 920 [(0, .ref b), (1, .ref ax), (2, .ref a0), (3, .int (nI (6 * i)))] [] := by
  obtain ⟨ad, am, M, T, nR, nD, nK, nG, n0, hJI⟩ := hJ
  have hO := hJI.out
  have hJ2 := hJI
  obtain ⟨⟨hX, hR, hI, hH, hn0, hT4⟩, ⟨rfl, rfl⟩, -, -, -, hE, -⟩ := hJ2
  have hb5 := hb.2.2
  refine z_aload_n C dL_law_920 rfl ?_
  refine z_aload_n C dL_law_921 rfl ?_
  refine z_iload_n C dL_law_922 rfl ?_
  refine z_iconst (v := 1) C dL_law_923 (by decide) ?_
  refine z_iadd C dL_law_924 ?_
  refine z_sld (j := 6 * i + 1) C hb (by exact nI_add (6 * i) 1) (by omega) dL_law_925 ?_
  refine z_callV (As := [.int _]) C (c_X5_count _ _ ad M T hI (hT4.trans (m_Hn.hints hH).symm) _) kc_X5_count wb_616 ⟨by decide, by decide⟩ hX.1.1 rfl (hX) hJI.xA ⟨by omega, by omega⟩ (Nat.le_of_ble_eq_true rfl) dL_law_926 (fun v H1 hq hz1 hf1 => ?_)
  obtain ⟨rfl, T1, hT1, hX1⟩ := hq
  have hR1 := hJI.mid (fun q hq => Or.inl hq) hf1
  refine z_aload_n C dL_law_929 rfl ?_
  refine z_aload_n C dL_law_930 rfl ?_
  refine z_iload_n C dL_law_931 rfl ?_
  refine z_iconst (v := 1) C dL_law_932 (by decide) ?_
  refine z_iadd C dL_law_933 ?_
  refine z_sld (j := 6 * i + 1) C hb (by exact nI_add (6 * i) 1) (by omega) dL_law_934 ?_
  refine z_callV (As := [.int _]) C (c_X6_count _ _ am M hI _) kc_X6_count wb_925 ⟨by decide, by decide⟩ hR1.1 rfl hR1 hJI.mA ⟨by omega, by omega⟩ (Nat.le_of_ble_eq_true rfl) dL_law_935 (fun v H2 hq _ hf2 => ?_)
  obtain ⟨rfl, hR2⟩ := hq
  refine z_icmp_eq C 943 dL_law_938 (by decide) (fun h938 => ?_) (fun h938 => ?_)
  · refine z_widen (k2 := cells + 2) (n2 := slots + 34) (by omega) (by omega) ?_
    exact hn _ (hJI.step (fun q hq => Or.inl hq) hf1 hz1 (x_Gt.w hX1 hI (hT1.trans hT4)) hf2 hR2 (lw_hh hI hn0 rfl hH rfl))
  · exact absurd rfl h938
end LCS
