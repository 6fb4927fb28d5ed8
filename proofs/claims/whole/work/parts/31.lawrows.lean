/-! the law does what its functions say (laid by wip/whole/gen) -/
theorem ii_5 (x : Int32) : x + Int32.ofInt 5 = x + 5 := by rw [show Int32.ofInt 5 = 5 from by decide]
set_option maxHeartbeats 4000000 in
set_option maxRecDepth 100000 in
theorem lawc_0 {p : Program} {l : Launch} {e : Env} {s : State} {m : MethodId} {args : Array Value} {below : List Frame} {meth : Method} {c : Code} {Q : State → Prop} {D : va_G} {cyI cyZ cyJ : ClassId} {A : Nat → Prop} {tb : List ExceptionTableEntry} (C : Cx ev_s p l s m args meth c cL_law 9 wsL_law RL D (ty3 cyI cyZ cyJ) A tb) (hfl : l.stackTraces = false) {b L : Nat} {xs : Nat → Int32} (hX : va_X b L xs s s.heap) (hbl : b < s.heap.size) (hbA : ¬ A b) {g z : Nat} {h1 h2 h : Nat → Nat} {l4 : Int32} {b1 b2 : S2} {o : Nat → Int64} {w : S2} {K : S2 → S2 → (Nat → Int64) → S2 → Option Int32} {cells slots : Nat} (hc1 : cells + 170 ≤ 601024) (hc2 : slots + 1027 ≤ 7293034) (hK : ∀ (b1 b2 : S2) (o : Nat → Int64) (w : S2), K b1 b2 o w = some 1 → Gq p l e room_1 s m args below meth c D A 9 Q (wC g h1 h2 ++ (wB cyI h1 b1 ++ (wB cyI h2 b2 ++ (wO cyJ z o ++ wM cyI cyZ h w)))) (cells + 170) (slots + 1027) 1466 [(0, .ref b), (1, .ref g), (2, .ref (h 0)), (3, .ref z), (4, .int l4)] []) (hf : L_law_C0 xs L K l4 b1 b2 o w = some 1) : Gq p l e room_1 s m args below meth c D A 9 Q (wC g h1 h2 ++ (wB cyI h1 b1 ++ (wB cyI h2 b2 ++ (wO cyJ z o ++ wM cyI cyZ h w)))) cells slots 180 [(0, .ref b), (1, .ref g), (2, .ref (h 0)), (3, .ref z), (4, .int l4)] [] := by
  unfold L_law_C0 at hf
  refine g_aload_n C dL_law_180 181 rfl 1 rfl ?_
  refine g_aload_n C dL_law_181 182 rfl 3 rfl ?_
  obtain ⟨x1, b1_2, o_3, e4, hf⟩ := bd3_s hf
  refine g_callSH1 C (m_L_addGuard hfl (g := g) (h1 := h1) (h2 := h2) (z := z) e4) cf_L_addGuard gL_law_L_addGuard ⟨Nat.le_of_ble_eq_true rfl, Nat.le_of_ble_eq_true rfl⟩ (As := [.ref g, .ref z]) (rest := []) (wl := []) (wr := wM cyI cyZ h w) (c2 := cells + 1) (s2 := slots + 6) rfl rfl rfl (Nat.le_of_ble_eq_true rfl) rfl rfl ⟨(by show _ ≤ 601024; omega), (by show _ ≤ 7293034; omega)⟩ dL_law_182 185 rfl (ws2 := wC g h1 h2 ++ (wB cyI h1 b1_2 ++ (wB cyI h2 b2 ++ (wO cyJ z o_3 ++ wM cyI cyZ h w)))) rfl (st2 := [.int x1]) rfl ?_
  refine g_istore C dL_law_185 187 rfl (by decide) (lv' := [(5, .int x1), (0, .ref b), (1, .ref g), (2, .ref (h 0)), (3, .ref z), (4, .int l4)]) rfl ?_
  refine g_aload_n C dL_law_187 188 rfl 3 rfl ?_
  obtain ⟨x5, w_6, e7, hf⟩ := bd2_s hf
  refine g_callV1 C (m_X2_addGuard hfl (h := h) e7) cf_X2_addGuard gL_law_X2_addGuard ⟨Nat.le_of_ble_eq_true rfl, Nat.le_of_ble_eq_true rfl⟩ (q0 := 0) (As := []) (rest := []) (wl := wC g h1 h2 ++ (wB cyI h1 b1_2 ++ (wB cyI h2 b2 ++ wO cyJ z o_3))) (wr := []) (c2 := cells + 1) (s2 := slots + 6) rfl rfl rfl rfl rfl rfl (Nat.le_of_ble_eq_true rfl) rfl rfl ⟨(by show _ ≤ 601024; omega), (by show _ ≤ 7293034; omega)⟩ dL_law_188 191 rfl (ws2 := wC g h1 h2 ++ (wB cyI h1 b1_2 ++ (wB cyI h2 b2 ++ (wO cyJ z o_3 ++ wM cyI cyZ h w_6)))) rfl (st2 := [.int x5]) rfl ?_
  refine g_istore C dL_law_191 193 rfl (by decide) (lv' := [(6, .int x5), (5, .int x1), (0, .ref b), (1, .ref g), (2, .ref (h 0)), (3, .ref z), (4, .int l4)]) rfl ?_
  refine g_aload_n C dL_law_193 194 rfl 4 rfl ?_
  obtain ⟨x8, e9, hf⟩ := bd1_s hf
  refine g_callV1 C (m_X2_thrown hfl (h := h) e9) cf_X2_thrown gL_law_X2_thrown ⟨Nat.le_of_ble_eq_true rfl, Nat.le_of_ble_eq_true rfl⟩ (q0 := 0) (As := []) (rest := []) (wl := wC g h1 h2 ++ (wB cyI h1 b1_2 ++ (wB cyI h2 b2 ++ wO cyJ z o_3))) (wr := []) (c2 := cells + 1) (s2 := slots + 6) rfl rfl rfl rfl rfl rfl (Nat.le_of_ble_eq_true rfl) rfl rfl ⟨(by show _ ≤ 601024; omega), (by show _ ≤ 7293034; omega)⟩ dL_law_194 197 rfl (ws2 := wC g h1 h2 ++ (wB cyI h1 b1_2 ++ (wB cyI h2 b2 ++ (wO cyJ z o_3 ++ wM cyI cyZ h w_6)))) rfl (st2 := [.int x8]) rfl ?_
  refine g_iload C dL_law_197 199 rfl 1 rfl ?_
  refine g_icmp_eq C dL_law_199 204 202 (by decide) rfl (fun c10 => ?_) (fun c10 => ?_)
  · have hf := ifp c10 hf
    refine g_iload C dL_law_204 206 rfl 1 rfl ?_
    refine g_if_ne C dL_law_206 221 209 (by decide) rfl (fun c11 => ?_) (fun c11 => ?_)
    · have hf := ifn c11 hf
      refine g_goto C dL_law_221 1466 (by decide) ?_
      refine g_lv [2, 3, 4, 5, 6] (lv' := [(0, .ref b), (1, .ref g), (2, .ref (h 0)), (3, .ref z), (4, .int l4)]) rfl ?_
      refine g_wide (c2 := cells + 170) (s2 := slots + 1027) (by omega) (by omega) ?_
      exact hK b1_2 b2 o_3 w_6 hf
    · have hf := ifp c11 hf
      refine g_aload_n C dL_law_209 210 rfl 5 rfl ?_
      refine g_iconst C dL_law_210 211 rfl ic_0 ?_
      obtain ⟨x13, e12, hf⟩ := bd1_s hf
      refine g_lald C 23 2 rfl rfl e12 dL_law_211 212 rfl ?_
      refine g_iload C dL_law_212 214 rfl 0 rfl ?_
      refine g_i2l C dL_law_214 215 rfl ?_
      refine g_lcmp C dL_law_215 216 rfl ?_
      refine g_if_eq C dL_law_216 221 219 (by decide) rfl (fun c14 => ?_) (fun c14 => ?_)
      · have hf := ifp c14 hf
        refine g_goto C dL_law_221 1466 (by decide) ?_
        refine g_lv [2, 3, 4, 5, 6] (lv' := [(0, .ref b), (1, .ref g), (2, .ref (h 0)), (3, .ref z), (4, .int l4)]) rfl ?_
        refine g_wide (c2 := cells + 170) (s2 := slots + 1027) (by omega) (by omega) ?_
        exact hK b1_2 b2 o_3 w_6 hf
      · have hf := ifn c14 hf
        refine g_iconst C dL_law_219 220 rfl ic_0 ?_
        exact absurd (Option.some.inj hf) (by decide)
  · have hf := ifn c10 hf
    refine g_iconst C dL_law_202 203 rfl ic_0 ?_
    exact absurd (Option.some.inj hf) (by decide)
set_option maxHeartbeats 4000000 in
set_option maxRecDepth 100000 in
theorem lawc_1 {p : Program} {l : Launch} {e : Env} {s : State} {m : MethodId} {args : Array Value} {below : List Frame} {meth : Method} {c : Code} {Q : State → Prop} {D : va_G} {cyI cyZ cyJ : ClassId} {A : Nat → Prop} {tb : List ExceptionTableEntry} (C : Cx ev_s p l s m args meth c cL_law 9 wsL_law RL D (ty3 cyI cyZ cyJ) A tb) (hfl : l.stackTraces = false) {b L : Nat} {xs : Nat → Int32} (hX : va_X b L xs s s.heap) (hbl : b < s.heap.size) (hbA : ¬ A b) {g z : Nat} {h1 h2 h : Nat → Nat} {l4 : Int32} {b1 b2 : S2} {o : Nat → Int64} {w : S2} {K : S2 → S2 → (Nat → Int64) → S2 → Option Int32} {cells slots : Nat} (hc1 : cells + 170 ≤ 601024) (hc2 : slots + 1027 ≤ 7293034) (hK : ∀ (b1 b2 : S2) (o : Nat → Int64) (w : S2), K b1 b2 o w = some 1 → Gq p l e room_1 s m args below meth c D A 9 Q (wC g h1 h2 ++ (wB cyI h1 b1 ++ (wB cyI h2 b2 ++ (wO cyJ z o ++ wM cyI cyZ h w)))) (cells + 170) (slots + 1027) 1466 [(0, .ref b), (1, .ref g), (2, .ref (h 0)), (3, .ref z), (4, .int l4)] []) (hf : L_law_C1 xs L K l4 b1 b2 o w = some 1) : Gq p l e room_1 s m args below meth c D A 9 Q (wC g h1 h2 ++ (wB cyI h1 b1 ++ (wB cyI h2 b2 ++ (wO cyJ z o ++ wM cyI cyZ h w)))) cells slots 224 [(0, .ref b), (1, .ref g), (2, .ref (h 0)), (3, .ref z), (4, .int l4)] [] := by
  unfold L_law_C1 at hf
  refine g_aload_n C dL_law_224 225 rfl 1 rfl ?_
  refine g_aload_n C dL_law_225 226 rfl 0 rfl ?_
  refine g_iload C dL_law_226 228 rfl 4 rfl ?_
  refine g_iconst C dL_law_228 229 rfl ic_1 ?_
  refine g_iadd C dL_law_229 230 rfl ?_
  obtain ⟨x2, e1, hf⟩ := bd1_s hf
  refine g_sld C hX hbl hbA e1 dL_law_230 231 rfl ?_
  refine g_aload_n C dL_law_231 232 rfl 0 rfl ?_
  refine g_iload C dL_law_232 234 rfl 4 rfl ?_
  refine g_iconst C dL_law_234 235 rfl ic_2 ?_
  refine g_iadd C dL_law_235 236 rfl ?_
  obtain ⟨x4, e3, hf⟩ := bd1_s hf
  refine g_sld C hX hbl hbA e3 dL_law_236 237 rfl ?_
  refine g_aload_n C dL_law_237 238 rfl 0 rfl ?_
  refine g_iload C dL_law_238 240 rfl 4 rfl ?_
  refine g_iconst C dL_law_240 241 rfl ic_3 ?_
  refine g_iadd C dL_law_241 242 rfl ?_
  obtain ⟨x6, e5, hf⟩ := bd1_s hf
  refine g_sld C hX hbl hbA e5 dL_law_242 243 rfl ?_
  refine g_aload_n C dL_law_243 244 rfl 0 rfl ?_
  refine g_iload C dL_law_244 246 rfl 4 rfl ?_
  refine g_iconst C dL_law_246 247 rfl ic_4 ?_
  refine g_iadd C dL_law_247 248 rfl ?_
  obtain ⟨x8, e7, hf⟩ := bd1_s hf
  refine g_sld C hX hbl hbA e7 dL_law_248 249 rfl ?_
  refine g_aload_n C dL_law_249 250 rfl 3 rfl ?_
  obtain ⟨x9, b1_10, o_11, e12, hf⟩ := bd3_s hf
  refine g_callSH1 C (m_L_arrive hfl (g := g) (h1 := h1) (h2 := h2) (z := z) e12) cf_L_arrive gL_law_L_arrive ⟨Nat.le_of_ble_eq_true rfl, Nat.le_of_ble_eq_true rfl⟩ (As := [.ref g, .int x2, .int x4, .int x6, .int x8, .ref z]) (rest := []) (wl := []) (wr := wM cyI cyZ h w) (c2 := cells + 5) (s2 := slots + 30) rfl rfl rfl (Nat.le_of_ble_eq_true rfl) rfl rfl ⟨(by show _ ≤ 601024; omega), (by show _ ≤ 7293034; omega)⟩ dL_law_250 253 rfl (ws2 := wC g h1 h2 ++ (wB cyI h1 b1_10 ++ (wB cyI h2 b2 ++ (wO cyJ z o_11 ++ wM cyI cyZ h w)))) rfl (st2 := [.int x9]) rfl ?_
  refine g_istore C dL_law_253 255 rfl (by decide) (lv' := [(5, .int x9), (0, .ref b), (1, .ref g), (2, .ref (h 0)), (3, .ref z), (4, .int l4)]) rfl ?_
  refine g_aload_n C dL_law_255 256 rfl 3 rfl ?_
  refine g_aload_n C dL_law_256 257 rfl 1 rfl ?_
  refine g_iload C dL_law_257 259 rfl 5 rfl ?_
  refine g_iconst C dL_law_259 260 rfl ic_1 ?_
  refine g_iadd C dL_law_260 261 rfl ?_
  obtain ⟨x14, e13, hf⟩ := bd1_s hf
  refine g_sld C hX hbl hbA e13 dL_law_261 262 rfl ?_
  refine g_aload_n C dL_law_262 263 rfl 1 rfl ?_
  refine g_iload C dL_law_263 265 rfl 5 rfl ?_
  refine g_iconst C dL_law_265 266 rfl ic_2 ?_
  refine g_iadd C dL_law_266 267 rfl ?_
  obtain ⟨x16, e15, hf⟩ := bd1_s hf
  refine g_sld C hX hbl hbA e15 dL_law_267 268 rfl ?_
  refine g_aload_n C dL_law_268 269 rfl 1 rfl ?_
  refine g_iload C dL_law_269 271 rfl 5 rfl ?_
  refine g_iconst C dL_law_271 272 rfl ic_3 ?_
  refine g_iadd C dL_law_272 273 rfl ?_
  obtain ⟨x18, e17, hf⟩ := bd1_s hf
  refine g_sld C hX hbl hbA e17 dL_law_273 274 rfl ?_
  refine g_aload_n C dL_law_274 275 rfl 1 rfl ?_
  refine g_iload C dL_law_275 277 rfl 5 rfl ?_
  refine g_iconst C dL_law_277 278 rfl ic_4 ?_
  refine g_iadd C dL_law_278 279 rfl ?_
  obtain ⟨x20, e19, hf⟩ := bd1_s hf
  refine g_sld C hX hbl hbA e19 dL_law_279 280 rfl ?_
  obtain ⟨x21, w_22, e23, hf⟩ := bd2_s hf
  refine g_callV1 C (m_X2_arrive hfl (h := h) e23) cf_X2_arrive gL_law_X2_arrive ⟨Nat.le_of_ble_eq_true rfl, Nat.le_of_ble_eq_true rfl⟩ (q0 := 0) (As := [.int x14, .int x16, .int x18, .int x20]) (rest := []) (wl := wC g h1 h2 ++ (wB cyI h1 b1_10 ++ (wB cyI h2 b2 ++ wO cyJ z o_11))) (wr := []) (c2 := cells + 5) (s2 := slots + 30) rfl rfl rfl rfl rfl rfl (Nat.le_of_ble_eq_true rfl) rfl rfl ⟨(by show _ ≤ 601024; omega), (by show _ ≤ 7293034; omega)⟩ dL_law_280 283 rfl (ws2 := wC g h1 h2 ++ (wB cyI h1 b1_10 ++ (wB cyI h2 b2 ++ (wO cyJ z o_11 ++ wM cyI cyZ h w_22)))) rfl (st2 := [.int x21]) rfl ?_
  refine g_istore C dL_law_283 285 rfl (by decide) (lv' := [(6, .int x21), (5, .int x9), (0, .ref b), (1, .ref g), (2, .ref (h 0)), (3, .ref z), (4, .int l4)]) rfl ?_
  refine g_aload_n C dL_law_285 286 rfl 4 rfl ?_
  obtain ⟨x24, e25, hf⟩ := bd1_s hf
  refine g_callV1 C (m_X2_thrown hfl (h := h) e25) cf_X2_thrown gL_law_X2_thrown ⟨Nat.le_of_ble_eq_true rfl, Nat.le_of_ble_eq_true rfl⟩ (q0 := 0) (As := []) (rest := []) (wl := wC g h1 h2 ++ (wB cyI h1 b1_10 ++ (wB cyI h2 b2 ++ wO cyJ z o_11))) (wr := []) (c2 := cells + 5) (s2 := slots + 30) rfl rfl rfl rfl rfl rfl (Nat.le_of_ble_eq_true rfl) rfl rfl ⟨(by show _ ≤ 601024; omega), (by show _ ≤ 7293034; omega)⟩ dL_law_286 289 rfl (ws2 := wC g h1 h2 ++ (wB cyI h1 b1_10 ++ (wB cyI h2 b2 ++ (wO cyJ z o_11 ++ wM cyI cyZ h w_22)))) rfl (st2 := [.int x24]) rfl ?_
  refine g_iload C dL_law_289 291 rfl 1 rfl ?_
  refine g_icmp_eq C dL_law_291 296 294 (by decide) rfl (fun c26 => ?_) (fun c26 => ?_)
  · have hf := ifp c26 hf
    refine g_iload C dL_law_296 298 rfl 1 rfl ?_
    refine g_if_ne C dL_law_298 313 301 (by decide) rfl (fun c27 => ?_) (fun c27 => ?_)
    · have hf := ifn c27 hf
      refine g_goto C dL_law_313 1466 (by decide) ?_
      refine g_lv [2, 3, 4, 5, 6] (lv' := [(0, .ref b), (1, .ref g), (2, .ref (h 0)), (3, .ref z), (4, .int l4)]) rfl ?_
      refine g_wide (c2 := cells + 170) (s2 := slots + 1027) (by omega) (by omega) ?_
      exact hK b1_10 b2 o_11 w_22 hf
    · have hf := ifp c27 hf
      refine g_aload_n C dL_law_301 302 rfl 5 rfl ?_
      refine g_iconst C dL_law_302 303 rfl ic_0 ?_
      obtain ⟨x29, e28, hf⟩ := bd1_s hf
      refine g_lald C 23 2 rfl rfl e28 dL_law_303 304 rfl ?_
      refine g_iload C dL_law_304 306 rfl 0 rfl ?_
      refine g_i2l C dL_law_306 307 rfl ?_
      refine g_lcmp C dL_law_307 308 rfl ?_
      refine g_if_eq C dL_law_308 313 311 (by decide) rfl (fun c30 => ?_) (fun c30 => ?_)
      · have hf := ifp c30 hf
        refine g_goto C dL_law_313 1466 (by decide) ?_
        refine g_lv [2, 3, 4, 5, 6] (lv' := [(0, .ref b), (1, .ref g), (2, .ref (h 0)), (3, .ref z), (4, .int l4)]) rfl ?_
        refine g_wide (c2 := cells + 170) (s2 := slots + 1027) (by omega) (by omega) ?_
        exact hK b1_10 b2 o_11 w_22 hf
      · have hf := ifn c30 hf
        refine g_iconst C dL_law_311 312 rfl ic_0 ?_
        exact absurd (Option.some.inj hf) (by decide)
  · have hf := ifn c26 hf
    refine g_iconst C dL_law_294 295 rfl ic_0 ?_
    exact absurd (Option.some.inj hf) (by decide)
set_option maxHeartbeats 4000000 in
set_option maxRecDepth 100000 in
theorem lawc_2 {p : Program} {l : Launch} {e : Env} {s : State} {m : MethodId} {args : Array Value} {below : List Frame} {meth : Method} {c : Code} {Q : State → Prop} {D : va_G} {cyI cyZ cyJ : ClassId} {A : Nat → Prop} {tb : List ExceptionTableEntry} (C : Cx ev_s p l s m args meth c cL_law 9 wsL_law RL D (ty3 cyI cyZ cyJ) A tb) (hfl : l.stackTraces = false) {b L : Nat} {xs : Nat → Int32} (hX : va_X b L xs s s.heap) (hbl : b < s.heap.size) (hbA : ¬ A b) {g z : Nat} {h1 h2 h : Nat → Nat} {l4 : Int32} {b1 b2 : S2} {o : Nat → Int64} {w : S2} {K : S2 → S2 → (Nat → Int64) → S2 → Option Int32} {cells slots : Nat} (hc1 : cells + 170 ≤ 601024) (hc2 : slots + 1027 ≤ 7293034) (hK : ∀ (b1 b2 : S2) (o : Nat → Int64) (w : S2), K b1 b2 o w = some 1 → Gq p l e room_1 s m args below meth c D A 9 Q (wC g h1 h2 ++ (wB cyI h1 b1 ++ (wB cyI h2 b2 ++ (wO cyJ z o ++ wM cyI cyZ h w)))) (cells + 170) (slots + 1027) 1466 [(0, .ref b), (1, .ref g), (2, .ref (h 0)), (3, .ref z), (4, .int l4)] []) (hf : L_law_C2 xs L K l4 b1 b2 o w = some 1) : Gq p l e room_1 s m args below meth c D A 9 Q (wC g h1 h2 ++ (wB cyI h1 b1 ++ (wB cyI h2 b2 ++ (wO cyJ z o ++ wM cyI cyZ h w)))) cells slots 316 [(0, .ref b), (1, .ref g), (2, .ref (h 0)), (3, .ref z), (4, .int l4)] [] := by
  unfold L_law_C2 at hf
  refine g_aload_n C dL_law_316 317 rfl 1 rfl ?_
  refine g_aload_n C dL_law_317 318 rfl 0 rfl ?_
  refine g_iload C dL_law_318 320 rfl 4 rfl ?_
  refine g_iconst C dL_law_320 321 rfl ic_1 ?_
  refine g_iadd C dL_law_321 322 rfl ?_
  obtain ⟨x2, e1, hf⟩ := bd1_s hf
  refine g_sld C hX hbl hbA e1 dL_law_322 323 rfl ?_
  refine g_aload_n C dL_law_323 324 rfl 0 rfl ?_
  refine g_iload C dL_law_324 326 rfl 4 rfl ?_
  refine g_iconst C dL_law_326 327 rfl ic_2 ?_
  refine g_iadd C dL_law_327 328 rfl ?_
  obtain ⟨x4, e3, hf⟩ := bd1_s hf
  refine g_sld C hX hbl hbA e3 dL_law_328 329 rfl ?_
  refine g_aload_n C dL_law_329 330 rfl 3 rfl ?_
  obtain ⟨x5, b1_6, o_7, e8, hf⟩ := bd3_s hf
  refine g_callSH1 C (m_L_declare hfl (g := g) (h1 := h1) (h2 := h2) (z := z) e8) cf_L_declare gL_law_L_declare ⟨Nat.le_of_ble_eq_true rfl, Nat.le_of_ble_eq_true rfl⟩ (As := [.ref g, .int x2, .int x4, .ref z]) (rest := []) (wl := []) (wr := wM cyI cyZ h w) (c2 := cells + 3) (s2 := slots + 18) rfl rfl rfl (Nat.le_of_ble_eq_true rfl) rfl rfl ⟨(by show _ ≤ 601024; omega), (by show _ ≤ 7293034; omega)⟩ dL_law_330 333 rfl (ws2 := wC g h1 h2 ++ (wB cyI h1 b1_6 ++ (wB cyI h2 b2 ++ (wO cyJ z o_7 ++ wM cyI cyZ h w)))) rfl (st2 := [.int x5]) rfl ?_
  refine g_istore C dL_law_333 335 rfl (by decide) (lv' := [(5, .int x5), (0, .ref b), (1, .ref g), (2, .ref (h 0)), (3, .ref z), (4, .int l4)]) rfl ?_
  refine g_aload_n C dL_law_335 336 rfl 3 rfl ?_
  refine g_aload_n C dL_law_336 337 rfl 1 rfl ?_
  refine g_iload C dL_law_337 339 rfl 5 rfl ?_
  refine g_iconst C dL_law_339 340 rfl ic_1 ?_
  refine g_iadd C dL_law_340 341 rfl ?_
  obtain ⟨x10, e9, hf⟩ := bd1_s hf
  refine g_sld C hX hbl hbA e9 dL_law_341 342 rfl ?_
  refine g_aload_n C dL_law_342 343 rfl 1 rfl ?_
  refine g_iload C dL_law_343 345 rfl 5 rfl ?_
  refine g_iconst C dL_law_345 346 rfl ic_2 ?_
  refine g_iadd C dL_law_346 347 rfl ?_
  obtain ⟨x12, e11, hf⟩ := bd1_s hf
  refine g_sld C hX hbl hbA e11 dL_law_347 348 rfl ?_
  obtain ⟨x13, w_14, e15, hf⟩ := bd2_s hf
  refine g_callV1 C (m_X2_declare hfl (h := h) e15) cf_X2_declare gL_law_X2_declare ⟨Nat.le_of_ble_eq_true rfl, Nat.le_of_ble_eq_true rfl⟩ (q0 := 0) (As := [.int x10, .int x12]) (rest := []) (wl := wC g h1 h2 ++ (wB cyI h1 b1_6 ++ (wB cyI h2 b2 ++ wO cyJ z o_7))) (wr := []) (c2 := cells + 3) (s2 := slots + 18) rfl rfl rfl rfl rfl rfl (Nat.le_of_ble_eq_true rfl) rfl rfl ⟨(by show _ ≤ 601024; omega), (by show _ ≤ 7293034; omega)⟩ dL_law_348 351 rfl (ws2 := wC g h1 h2 ++ (wB cyI h1 b1_6 ++ (wB cyI h2 b2 ++ (wO cyJ z o_7 ++ wM cyI cyZ h w_14)))) rfl (st2 := [.int x13]) rfl ?_
  refine g_istore C dL_law_351 353 rfl (by decide) (lv' := [(6, .int x13), (5, .int x5), (0, .ref b), (1, .ref g), (2, .ref (h 0)), (3, .ref z), (4, .int l4)]) rfl ?_
  refine g_aload_n C dL_law_353 354 rfl 4 rfl ?_
  obtain ⟨x16, e17, hf⟩ := bd1_s hf
  refine g_callV1 C (m_X2_thrown hfl (h := h) e17) cf_X2_thrown gL_law_X2_thrown ⟨Nat.le_of_ble_eq_true rfl, Nat.le_of_ble_eq_true rfl⟩ (q0 := 0) (As := []) (rest := []) (wl := wC g h1 h2 ++ (wB cyI h1 b1_6 ++ (wB cyI h2 b2 ++ wO cyJ z o_7))) (wr := []) (c2 := cells + 3) (s2 := slots + 18) rfl rfl rfl rfl rfl rfl (Nat.le_of_ble_eq_true rfl) rfl rfl ⟨(by show _ ≤ 601024; omega), (by show _ ≤ 7293034; omega)⟩ dL_law_354 357 rfl (ws2 := wC g h1 h2 ++ (wB cyI h1 b1_6 ++ (wB cyI h2 b2 ++ (wO cyJ z o_7 ++ wM cyI cyZ h w_14)))) rfl (st2 := [.int x16]) rfl ?_
  refine g_iload C dL_law_357 359 rfl 1 rfl ?_
  refine g_icmp_eq C dL_law_359 364 362 (by decide) rfl (fun c18 => ?_) (fun c18 => ?_)
  · have hf := ifp c18 hf
    refine g_iload C dL_law_364 366 rfl 1 rfl ?_
    refine g_if_ne C dL_law_366 381 369 (by decide) rfl (fun c19 => ?_) (fun c19 => ?_)
    · have hf := ifn c19 hf
      refine g_goto C dL_law_381 1466 (by decide) ?_
      refine g_lv [2, 3, 4, 5, 6] (lv' := [(0, .ref b), (1, .ref g), (2, .ref (h 0)), (3, .ref z), (4, .int l4)]) rfl ?_
      refine g_wide (c2 := cells + 170) (s2 := slots + 1027) (by omega) (by omega) ?_
      exact hK b1_6 b2 o_7 w_14 hf
    · have hf := ifp c19 hf
      refine g_aload_n C dL_law_369 370 rfl 5 rfl ?_
      refine g_iconst C dL_law_370 371 rfl ic_0 ?_
      obtain ⟨x21, e20, hf⟩ := bd1_s hf
      refine g_lald C 23 2 rfl rfl e20 dL_law_371 372 rfl ?_
      refine g_iload C dL_law_372 374 rfl 0 rfl ?_
      refine g_i2l C dL_law_374 375 rfl ?_
      refine g_lcmp C dL_law_375 376 rfl ?_
      refine g_if_eq C dL_law_376 381 379 (by decide) rfl (fun c22 => ?_) (fun c22 => ?_)
      · have hf := ifp c22 hf
        refine g_goto C dL_law_381 1466 (by decide) ?_
        refine g_lv [2, 3, 4, 5, 6] (lv' := [(0, .ref b), (1, .ref g), (2, .ref (h 0)), (3, .ref z), (4, .int l4)]) rfl ?_
        refine g_wide (c2 := cells + 170) (s2 := slots + 1027) (by omega) (by omega) ?_
        exact hK b1_6 b2 o_7 w_14 hf
      · have hf := ifn c22 hf
        refine g_iconst C dL_law_379 380 rfl ic_0 ?_
        exact absurd (Option.some.inj hf) (by decide)
  · have hf := ifn c18 hf
    refine g_iconst C dL_law_362 363 rfl ic_0 ?_
    exact absurd (Option.some.inj hf) (by decide)
set_option maxHeartbeats 4000000 in
set_option maxRecDepth 100000 in
theorem lawc_3 {p : Program} {l : Launch} {e : Env} {s : State} {m : MethodId} {args : Array Value} {below : List Frame} {meth : Method} {c : Code} {Q : State → Prop} {D : va_G} {cyI cyZ cyJ : ClassId} {A : Nat → Prop} {tb : List ExceptionTableEntry} (C : Cx ev_s p l s m args meth c cL_law 9 wsL_law RL D (ty3 cyI cyZ cyJ) A tb) (hfl : l.stackTraces = false) {b L : Nat} {xs : Nat → Int32} (hX : va_X b L xs s s.heap) (hbl : b < s.heap.size) (hbA : ¬ A b) {g z : Nat} {h1 h2 h : Nat → Nat} {l4 : Int32} {b1 b2 : S2} {o : Nat → Int64} {w : S2} {K : S2 → S2 → (Nat → Int64) → S2 → Option Int32} {cells slots : Nat} (hc1 : cells + 170 ≤ 601024) (hc2 : slots + 1027 ≤ 7293034) (hK : ∀ (b1 b2 : S2) (o : Nat → Int64) (w : S2), K b1 b2 o w = some 1 → Gq p l e room_1 s m args below meth c D A 9 Q (wC g h1 h2 ++ (wB cyI h1 b1 ++ (wB cyI h2 b2 ++ (wO cyJ z o ++ wM cyI cyZ h w)))) (cells + 170) (slots + 1027) 1466 [(0, .ref b), (1, .ref g), (2, .ref (h 0)), (3, .ref z), (4, .int l4)] []) (hf : L_law_C3 xs L K l4 b1 b2 o w = some 1) : Gq p l e room_1 s m args below meth c D A 9 Q (wC g h1 h2 ++ (wB cyI h1 b1 ++ (wB cyI h2 b2 ++ (wO cyJ z o ++ wM cyI cyZ h w)))) cells slots 384 [(0, .ref b), (1, .ref g), (2, .ref (h 0)), (3, .ref z), (4, .int l4)] [] := by
  unfold L_law_C3 at hf
  refine g_aload_n C dL_law_384 385 rfl 1 rfl ?_
  refine g_aload_n C dL_law_385 386 rfl 0 rfl ?_
  refine g_iload C dL_law_386 388 rfl 4 rfl ?_
  refine g_iconst C dL_law_388 389 rfl ic_1 ?_
  refine g_iadd C dL_law_389 390 rfl ?_
  obtain ⟨x2, e1, hf⟩ := bd1_s hf
  refine g_sld C hX hbl hbA e1 dL_law_390 391 rfl ?_
  refine g_aload_n C dL_law_391 392 rfl 0 rfl ?_
  refine g_iload C dL_law_392 394 rfl 4 rfl ?_
  refine g_iconst C dL_law_394 395 rfl ic_2 ?_
  refine g_iadd C dL_law_395 396 rfl ?_
  obtain ⟨x4, e3, hf⟩ := bd1_s hf
  refine g_sld C hX hbl hbA e3 dL_law_396 397 rfl ?_
  refine g_aload_n C dL_law_397 398 rfl 3 rfl ?_
  obtain ⟨x5, b1_6, o_7, e8, hf⟩ := bd3_s hf
  refine g_callSH1 C (m_L_sing hfl (g := g) (h1 := h1) (h2 := h2) (z := z) e8) cf_L_sing gL_law_L_sing ⟨Nat.le_of_ble_eq_true rfl, Nat.le_of_ble_eq_true rfl⟩ (As := [.ref g, .int x2, .int x4, .ref z]) (rest := []) (wl := []) (wr := wM cyI cyZ h w) (c2 := cells + 3) (s2 := slots + 18) rfl rfl rfl (Nat.le_of_ble_eq_true rfl) rfl rfl ⟨(by show _ ≤ 601024; omega), (by show _ ≤ 7293034; omega)⟩ dL_law_398 401 rfl (ws2 := wC g h1 h2 ++ (wB cyI h1 b1_6 ++ (wB cyI h2 b2 ++ (wO cyJ z o_7 ++ wM cyI cyZ h w)))) rfl (st2 := [.int x5]) rfl ?_
  refine g_istore C dL_law_401 403 rfl (by decide) (lv' := [(5, .int x5), (0, .ref b), (1, .ref g), (2, .ref (h 0)), (3, .ref z), (4, .int l4)]) rfl ?_
  refine g_aload_n C dL_law_403 404 rfl 3 rfl ?_
  refine g_aload_n C dL_law_404 405 rfl 1 rfl ?_
  refine g_iload C dL_law_405 407 rfl 5 rfl ?_
  refine g_iconst C dL_law_407 408 rfl ic_1 ?_
  refine g_iadd C dL_law_408 409 rfl ?_
  obtain ⟨x10, e9, hf⟩ := bd1_s hf
  refine g_sld C hX hbl hbA e9 dL_law_409 410 rfl ?_
  refine g_aload_n C dL_law_410 411 rfl 1 rfl ?_
  refine g_iload C dL_law_411 413 rfl 5 rfl ?_
  refine g_iconst C dL_law_413 414 rfl ic_2 ?_
  refine g_iadd C dL_law_414 415 rfl ?_
  obtain ⟨x12, e11, hf⟩ := bd1_s hf
  refine g_sld C hX hbl hbA e11 dL_law_415 416 rfl ?_
  obtain ⟨x13, w_14, e15, hf⟩ := bd2_s hf
  refine g_callV1 C (m_X2_sing hfl (h := h) e15) cf_X2_sing gL_law_X2_sing ⟨Nat.le_of_ble_eq_true rfl, Nat.le_of_ble_eq_true rfl⟩ (q0 := 0) (As := [.int x10, .int x12]) (rest := []) (wl := wC g h1 h2 ++ (wB cyI h1 b1_6 ++ (wB cyI h2 b2 ++ wO cyJ z o_7))) (wr := []) (c2 := cells + 3) (s2 := slots + 18) rfl rfl rfl rfl rfl rfl (Nat.le_of_ble_eq_true rfl) rfl rfl ⟨(by show _ ≤ 601024; omega), (by show _ ≤ 7293034; omega)⟩ dL_law_416 419 rfl (ws2 := wC g h1 h2 ++ (wB cyI h1 b1_6 ++ (wB cyI h2 b2 ++ (wO cyJ z o_7 ++ wM cyI cyZ h w_14)))) rfl (st2 := [.int x13]) rfl ?_
  refine g_istore C dL_law_419 421 rfl (by decide) (lv' := [(6, .int x13), (5, .int x5), (0, .ref b), (1, .ref g), (2, .ref (h 0)), (3, .ref z), (4, .int l4)]) rfl ?_
  refine g_aload_n C dL_law_421 422 rfl 4 rfl ?_
  obtain ⟨x16, e17, hf⟩ := bd1_s hf
  refine g_callV1 C (m_X2_thrown hfl (h := h) e17) cf_X2_thrown gL_law_X2_thrown ⟨Nat.le_of_ble_eq_true rfl, Nat.le_of_ble_eq_true rfl⟩ (q0 := 0) (As := []) (rest := []) (wl := wC g h1 h2 ++ (wB cyI h1 b1_6 ++ (wB cyI h2 b2 ++ wO cyJ z o_7))) (wr := []) (c2 := cells + 3) (s2 := slots + 18) rfl rfl rfl rfl rfl rfl (Nat.le_of_ble_eq_true rfl) rfl rfl ⟨(by show _ ≤ 601024; omega), (by show _ ≤ 7293034; omega)⟩ dL_law_422 425 rfl (ws2 := wC g h1 h2 ++ (wB cyI h1 b1_6 ++ (wB cyI h2 b2 ++ (wO cyJ z o_7 ++ wM cyI cyZ h w_14)))) rfl (st2 := [.int x16]) rfl ?_
  refine g_iload C dL_law_425 427 rfl 1 rfl ?_
  refine g_icmp_eq C dL_law_427 432 430 (by decide) rfl (fun c18 => ?_) (fun c18 => ?_)
  · have hf := ifp c18 hf
    refine g_iload C dL_law_432 434 rfl 1 rfl ?_
    refine g_if_ne C dL_law_434 449 437 (by decide) rfl (fun c19 => ?_) (fun c19 => ?_)
    · have hf := ifn c19 hf
      refine g_goto C dL_law_449 1466 (by decide) ?_
      refine g_lv [2, 3, 4, 5, 6] (lv' := [(0, .ref b), (1, .ref g), (2, .ref (h 0)), (3, .ref z), (4, .int l4)]) rfl ?_
      refine g_wide (c2 := cells + 170) (s2 := slots + 1027) (by omega) (by omega) ?_
      exact hK b1_6 b2 o_7 w_14 hf
    · have hf := ifp c19 hf
      refine g_aload_n C dL_law_437 438 rfl 5 rfl ?_
      refine g_iconst C dL_law_438 439 rfl ic_0 ?_
      obtain ⟨x21, e20, hf⟩ := bd1_s hf
      refine g_lald C 23 2 rfl rfl e20 dL_law_439 440 rfl ?_
      refine g_iload C dL_law_440 442 rfl 0 rfl ?_
      refine g_i2l C dL_law_442 443 rfl ?_
      refine g_lcmp C dL_law_443 444 rfl ?_
      refine g_if_eq C dL_law_444 449 447 (by decide) rfl (fun c22 => ?_) (fun c22 => ?_)
      · have hf := ifp c22 hf
        refine g_goto C dL_law_449 1466 (by decide) ?_
        refine g_lv [2, 3, 4, 5, 6] (lv' := [(0, .ref b), (1, .ref g), (2, .ref (h 0)), (3, .ref z), (4, .int l4)]) rfl ?_
        refine g_wide (c2 := cells + 170) (s2 := slots + 1027) (by omega) (by omega) ?_
        exact hK b1_6 b2 o_7 w_14 hf
      · have hf := ifn c22 hf
        refine g_iconst C dL_law_447 448 rfl ic_0 ?_
        exact absurd (Option.some.inj hf) (by decide)
  · have hf := ifn c18 hf
    refine g_iconst C dL_law_430 431 rfl ic_0 ?_
    exact absurd (Option.some.inj hf) (by decide)
set_option maxHeartbeats 4000000 in
set_option maxRecDepth 100000 in
theorem lawc_4 {p : Program} {l : Launch} {e : Env} {s : State} {m : MethodId} {args : Array Value} {below : List Frame} {meth : Method} {c : Code} {Q : State → Prop} {D : va_G} {cyI cyZ cyJ : ClassId} {A : Nat → Prop} {tb : List ExceptionTableEntry} (C : Cx ev_s p l s m args meth c cL_law 9 wsL_law RL D (ty3 cyI cyZ cyJ) A tb) (hfl : l.stackTraces = false) {b L : Nat} {xs : Nat → Int32} (hX : va_X b L xs s s.heap) (hbl : b < s.heap.size) (hbA : ¬ A b) {g z : Nat} {h1 h2 h : Nat → Nat} {l4 : Int32} {b1 b2 : S2} {o : Nat → Int64} {w : S2} {K : S2 → S2 → (Nat → Int64) → S2 → Option Int32} {cells slots : Nat} (hc1 : cells + 170 ≤ 601024) (hc2 : slots + 1027 ≤ 7293034) (hK : ∀ (b1 b2 : S2) (o : Nat → Int64) (w : S2), K b1 b2 o w = some 1 → Gq p l e room_1 s m args below meth c D A 9 Q (wC g h1 h2 ++ (wB cyI h1 b1 ++ (wB cyI h2 b2 ++ (wO cyJ z o ++ wM cyI cyZ h w)))) (cells + 170) (slots + 1027) 1466 [(0, .ref b), (1, .ref g), (2, .ref (h 0)), (3, .ref z), (4, .int l4)] []) (hf : L_law_C4 xs L K l4 b1 b2 o w = some 1) : Gq p l e room_1 s m args below meth c D A 9 Q (wC g h1 h2 ++ (wB cyI h1 b1 ++ (wB cyI h2 b2 ++ (wO cyJ z o ++ wM cyI cyZ h w)))) cells slots 452 [(0, .ref b), (1, .ref g), (2, .ref (h 0)), (3, .ref z), (4, .int l4)] [] := by
  unfold L_law_C4 at hf
  refine g_aload_n C dL_law_452 453 rfl 1 rfl ?_
  refine g_aload_n C dL_law_453 454 rfl 0 rfl ?_
  refine g_iload C dL_law_454 456 rfl 4 rfl ?_
  refine g_iconst C dL_law_456 457 rfl ic_1 ?_
  refine g_iadd C dL_law_457 458 rfl ?_
  obtain ⟨x2, e1, hf⟩ := bd1_s hf
  refine g_sld C hX hbl hbA e1 dL_law_458 459 rfl ?_
  refine g_aload_n C dL_law_459 460 rfl 3 rfl ?_
  obtain ⟨x3, b1_4, o_5, e6, hf⟩ := bd3_s hf
  refine g_callSH1 C (m_L_wake hfl (g := g) (h1 := h1) (h2 := h2) (z := z) e6) cf_L_wake gL_law_L_wake ⟨Nat.le_of_ble_eq_true rfl, Nat.le_of_ble_eq_true rfl⟩ (As := [.ref g, .int x2, .ref z]) (rest := []) (wl := []) (wr := wM cyI cyZ h w) (c2 := cells + 1) (s2 := slots + 6) rfl rfl rfl (Nat.le_of_ble_eq_true rfl) rfl rfl ⟨(by show _ ≤ 601024; omega), (by show _ ≤ 7293034; omega)⟩ dL_law_460 463 rfl (ws2 := wC g h1 h2 ++ (wB cyI h1 b1_4 ++ (wB cyI h2 b2 ++ (wO cyJ z o_5 ++ wM cyI cyZ h w)))) rfl (st2 := [.int x3]) rfl ?_
  refine g_istore C dL_law_463 465 rfl (by decide) (lv' := [(5, .int x3), (0, .ref b), (1, .ref g), (2, .ref (h 0)), (3, .ref z), (4, .int l4)]) rfl ?_
  refine g_aload_n C dL_law_465 466 rfl 3 rfl ?_
  refine g_aload_n C dL_law_466 467 rfl 1 rfl ?_
  refine g_iload C dL_law_467 469 rfl 5 rfl ?_
  refine g_iconst C dL_law_469 470 rfl ic_1 ?_
  refine g_iadd C dL_law_470 471 rfl ?_
  obtain ⟨x8, e7, hf⟩ := bd1_s hf
  refine g_sld C hX hbl hbA e7 dL_law_471 472 rfl ?_
  obtain ⟨x9, w_10, e11, hf⟩ := bd2_s hf
  refine g_callV1 C (m_X2_wake hfl (h := h) e11) cf_X2_wake gL_law_X2_wake ⟨Nat.le_of_ble_eq_true rfl, Nat.le_of_ble_eq_true rfl⟩ (q0 := 0) (As := [.int x8]) (rest := []) (wl := wC g h1 h2 ++ (wB cyI h1 b1_4 ++ (wB cyI h2 b2 ++ wO cyJ z o_5))) (wr := []) (c2 := cells + 1) (s2 := slots + 6) rfl rfl rfl rfl rfl rfl (Nat.le_of_ble_eq_true rfl) rfl rfl ⟨(by show _ ≤ 601024; omega), (by show _ ≤ 7293034; omega)⟩ dL_law_472 475 rfl (ws2 := wC g h1 h2 ++ (wB cyI h1 b1_4 ++ (wB cyI h2 b2 ++ (wO cyJ z o_5 ++ wM cyI cyZ h w_10)))) rfl (st2 := [.int x9]) rfl ?_
  refine g_istore C dL_law_475 477 rfl (by decide) (lv' := [(6, .int x9), (5, .int x3), (0, .ref b), (1, .ref g), (2, .ref (h 0)), (3, .ref z), (4, .int l4)]) rfl ?_
  refine g_aload_n C dL_law_477 478 rfl 4 rfl ?_
  obtain ⟨x12, e13, hf⟩ := bd1_s hf
  refine g_callV1 C (m_X2_thrown hfl (h := h) e13) cf_X2_thrown gL_law_X2_thrown ⟨Nat.le_of_ble_eq_true rfl, Nat.le_of_ble_eq_true rfl⟩ (q0 := 0) (As := []) (rest := []) (wl := wC g h1 h2 ++ (wB cyI h1 b1_4 ++ (wB cyI h2 b2 ++ wO cyJ z o_5))) (wr := []) (c2 := cells + 1) (s2 := slots + 6) rfl rfl rfl rfl rfl rfl (Nat.le_of_ble_eq_true rfl) rfl rfl ⟨(by show _ ≤ 601024; omega), (by show _ ≤ 7293034; omega)⟩ dL_law_478 481 rfl (ws2 := wC g h1 h2 ++ (wB cyI h1 b1_4 ++ (wB cyI h2 b2 ++ (wO cyJ z o_5 ++ wM cyI cyZ h w_10)))) rfl (st2 := [.int x12]) rfl ?_
  refine g_iload C dL_law_481 483 rfl 1 rfl ?_
  refine g_icmp_eq C dL_law_483 488 486 (by decide) rfl (fun c14 => ?_) (fun c14 => ?_)
  · have hf := ifp c14 hf
    refine g_iload C dL_law_488 490 rfl 1 rfl ?_
    refine g_if_ne C dL_law_490 505 493 (by decide) rfl (fun c15 => ?_) (fun c15 => ?_)
    · have hf := ifn c15 hf
      refine g_goto C dL_law_505 1466 (by decide) ?_
      refine g_lv [2, 3, 4, 5, 6] (lv' := [(0, .ref b), (1, .ref g), (2, .ref (h 0)), (3, .ref z), (4, .int l4)]) rfl ?_
      refine g_wide (c2 := cells + 170) (s2 := slots + 1027) (by omega) (by omega) ?_
      exact hK b1_4 b2 o_5 w_10 hf
    · have hf := ifp c15 hf
      refine g_aload_n C dL_law_493 494 rfl 5 rfl ?_
      refine g_iconst C dL_law_494 495 rfl ic_0 ?_
      obtain ⟨x17, e16, hf⟩ := bd1_s hf
      refine g_lald C 23 2 rfl rfl e16 dL_law_495 496 rfl ?_
      refine g_iload C dL_law_496 498 rfl 0 rfl ?_
      refine g_i2l C dL_law_498 499 rfl ?_
      refine g_lcmp C dL_law_499 500 rfl ?_
      refine g_if_eq C dL_law_500 505 503 (by decide) rfl (fun c18 => ?_) (fun c18 => ?_)
      · have hf := ifp c18 hf
        refine g_goto C dL_law_505 1466 (by decide) ?_
        refine g_lv [2, 3, 4, 5, 6] (lv' := [(0, .ref b), (1, .ref g), (2, .ref (h 0)), (3, .ref z), (4, .int l4)]) rfl ?_
        refine g_wide (c2 := cells + 170) (s2 := slots + 1027) (by omega) (by omega) ?_
        exact hK b1_4 b2 o_5 w_10 hf
      · have hf := ifn c18 hf
        refine g_iconst C dL_law_503 504 rfl ic_0 ?_
        exact absurd (Option.some.inj hf) (by decide)
  · have hf := ifn c14 hf
    refine g_iconst C dL_law_486 487 rfl ic_0 ?_
    exact absurd (Option.some.inj hf) (by decide)
set_option maxHeartbeats 4000000 in
set_option maxRecDepth 100000 in
theorem lawc_5 {p : Program} {l : Launch} {e : Env} {s : State} {m : MethodId} {args : Array Value} {below : List Frame} {meth : Method} {c : Code} {Q : State → Prop} {D : va_G} {cyI cyZ cyJ : ClassId} {A : Nat → Prop} {tb : List ExceptionTableEntry} (C : Cx ev_s p l s m args meth c cL_law 9 wsL_law RL D (ty3 cyI cyZ cyJ) A tb) (hfl : l.stackTraces = false) {b L : Nat} {xs : Nat → Int32} (hX : va_X b L xs s s.heap) (hbl : b < s.heap.size) (hbA : ¬ A b) {g z : Nat} {h1 h2 h : Nat → Nat} {l4 : Int32} {b1 b2 : S2} {o : Nat → Int64} {w : S2} {K : S2 → S2 → (Nat → Int64) → S2 → Option Int32} {cells slots : Nat} (hc1 : cells + 170 ≤ 601024) (hc2 : slots + 1027 ≤ 7293034) (hK : ∀ (b1 b2 : S2) (o : Nat → Int64) (w : S2), K b1 b2 o w = some 1 → Gq p l e room_1 s m args below meth c D A 9 Q (wC g h1 h2 ++ (wB cyI h1 b1 ++ (wB cyI h2 b2 ++ (wO cyJ z o ++ wM cyI cyZ h w)))) (cells + 170) (slots + 1027) 1466 [(0, .ref b), (1, .ref g), (2, .ref (h 0)), (3, .ref z), (4, .int l4)] []) (hf : L_law_C5 xs L K l4 b1 b2 o w = some 1) : Gq p l e room_1 s m args below meth c D A 9 Q (wC g h1 h2 ++ (wB cyI h1 b1 ++ (wB cyI h2 b2 ++ (wO cyJ z o ++ wM cyI cyZ h w)))) cells slots 508 [(0, .ref b), (1, .ref g), (2, .ref (h 0)), (3, .ref z), (4, .int l4)] [] := by
  unfold L_law_C5 at hf
  refine g_aload_n C dL_law_508 509 rfl 1 rfl ?_
  refine g_aload_n C dL_law_509 510 rfl 0 rfl ?_
  refine g_iload C dL_law_510 512 rfl 4 rfl ?_
  refine g_iconst C dL_law_512 513 rfl ic_1 ?_
  refine g_iadd C dL_law_513 514 rfl ?_
  obtain ⟨x2, e1, hf⟩ := bd1_s hf
  refine g_sld C hX hbl hbA e1 dL_law_514 515 rfl ?_
  refine g_aload_n C dL_law_515 516 rfl 3 rfl ?_
  obtain ⟨x3, b1_4, o_5, e6, hf⟩ := bd3_s hf
  refine g_callSH1 C (m_L_pass hfl (g := g) (h1 := h1) (h2 := h2) (z := z) e6) cf_L_pass gL_law_L_pass ⟨Nat.le_of_ble_eq_true rfl, Nat.le_of_ble_eq_true rfl⟩ (As := [.ref g, .int x2, .ref z]) (rest := []) (wl := []) (wr := wM cyI cyZ h w) (c2 := cells + 1) (s2 := slots + 6) rfl rfl rfl (Nat.le_of_ble_eq_true rfl) rfl rfl ⟨(by show _ ≤ 601024; omega), (by show _ ≤ 7293034; omega)⟩ dL_law_516 519 rfl (ws2 := wC g h1 h2 ++ (wB cyI h1 b1_4 ++ (wB cyI h2 b2 ++ (wO cyJ z o_5 ++ wM cyI cyZ h w)))) rfl (st2 := [.int x3]) rfl ?_
  refine g_istore C dL_law_519 521 rfl (by decide) (lv' := [(5, .int x3), (0, .ref b), (1, .ref g), (2, .ref (h 0)), (3, .ref z), (4, .int l4)]) rfl ?_
  refine g_aload_n C dL_law_521 522 rfl 3 rfl ?_
  refine g_aload_n C dL_law_522 523 rfl 1 rfl ?_
  refine g_iload C dL_law_523 525 rfl 5 rfl ?_
  refine g_iconst C dL_law_525 526 rfl ic_1 ?_
  refine g_iadd C dL_law_526 527 rfl ?_
  obtain ⟨x8, e7, hf⟩ := bd1_s hf
  refine g_sld C hX hbl hbA e7 dL_law_527 528 rfl ?_
  obtain ⟨x9, w_10, e11, hf⟩ := bd2_s hf
  refine g_callV1 C (m_X2_pass hfl (h := h) e11) cf_X2_pass gL_law_X2_pass ⟨Nat.le_of_ble_eq_true rfl, Nat.le_of_ble_eq_true rfl⟩ (q0 := 0) (As := [.int x8]) (rest := []) (wl := wC g h1 h2 ++ (wB cyI h1 b1_4 ++ (wB cyI h2 b2 ++ wO cyJ z o_5))) (wr := []) (c2 := cells + 1) (s2 := slots + 6) rfl rfl rfl rfl rfl rfl (Nat.le_of_ble_eq_true rfl) rfl rfl ⟨(by show _ ≤ 601024; omega), (by show _ ≤ 7293034; omega)⟩ dL_law_528 531 rfl (ws2 := wC g h1 h2 ++ (wB cyI h1 b1_4 ++ (wB cyI h2 b2 ++ (wO cyJ z o_5 ++ wM cyI cyZ h w_10)))) rfl (st2 := [.int x9]) rfl ?_
  refine g_istore C dL_law_531 533 rfl (by decide) (lv' := [(6, .int x9), (5, .int x3), (0, .ref b), (1, .ref g), (2, .ref (h 0)), (3, .ref z), (4, .int l4)]) rfl ?_
  refine g_aload_n C dL_law_533 534 rfl 4 rfl ?_
  obtain ⟨x12, e13, hf⟩ := bd1_s hf
  refine g_callV1 C (m_X2_thrown hfl (h := h) e13) cf_X2_thrown gL_law_X2_thrown ⟨Nat.le_of_ble_eq_true rfl, Nat.le_of_ble_eq_true rfl⟩ (q0 := 0) (As := []) (rest := []) (wl := wC g h1 h2 ++ (wB cyI h1 b1_4 ++ (wB cyI h2 b2 ++ wO cyJ z o_5))) (wr := []) (c2 := cells + 1) (s2 := slots + 6) rfl rfl rfl rfl rfl rfl (Nat.le_of_ble_eq_true rfl) rfl rfl ⟨(by show _ ≤ 601024; omega), (by show _ ≤ 7293034; omega)⟩ dL_law_534 537 rfl (ws2 := wC g h1 h2 ++ (wB cyI h1 b1_4 ++ (wB cyI h2 b2 ++ (wO cyJ z o_5 ++ wM cyI cyZ h w_10)))) rfl (st2 := [.int x12]) rfl ?_
  refine g_iload C dL_law_537 539 rfl 1 rfl ?_
  refine g_icmp_eq C dL_law_539 544 542 (by decide) rfl (fun c14 => ?_) (fun c14 => ?_)
  · have hf := ifp c14 hf
    refine g_iload C dL_law_544 546 rfl 1 rfl ?_
    refine g_if_ne C dL_law_546 561 549 (by decide) rfl (fun c15 => ?_) (fun c15 => ?_)
    · have hf := ifn c15 hf
      refine g_goto C dL_law_561 1466 (by decide) ?_
      refine g_lv [2, 3, 4, 5, 6] (lv' := [(0, .ref b), (1, .ref g), (2, .ref (h 0)), (3, .ref z), (4, .int l4)]) rfl ?_
      refine g_wide (c2 := cells + 170) (s2 := slots + 1027) (by omega) (by omega) ?_
      exact hK b1_4 b2 o_5 w_10 hf
    · have hf := ifp c15 hf
      refine g_aload_n C dL_law_549 550 rfl 5 rfl ?_
      refine g_iconst C dL_law_550 551 rfl ic_0 ?_
      obtain ⟨x17, e16, hf⟩ := bd1_s hf
      refine g_lald C 23 2 rfl rfl e16 dL_law_551 552 rfl ?_
      refine g_iload C dL_law_552 554 rfl 0 rfl ?_
      refine g_i2l C dL_law_554 555 rfl ?_
      refine g_lcmp C dL_law_555 556 rfl ?_
      refine g_if_eq C dL_law_556 561 559 (by decide) rfl (fun c18 => ?_) (fun c18 => ?_)
      · have hf := ifp c18 hf
        refine g_goto C dL_law_561 1466 (by decide) ?_
        refine g_lv [2, 3, 4, 5, 6] (lv' := [(0, .ref b), (1, .ref g), (2, .ref (h 0)), (3, .ref z), (4, .int l4)]) rfl ?_
        refine g_wide (c2 := cells + 170) (s2 := slots + 1027) (by omega) (by omega) ?_
        exact hK b1_4 b2 o_5 w_10 hf
      · have hf := ifn c18 hf
        refine g_iconst C dL_law_559 560 rfl ic_0 ?_
        exact absurd (Option.some.inj hf) (by decide)
  · have hf := ifn c14 hf
    refine g_iconst C dL_law_542 543 rfl ic_0 ?_
    exact absurd (Option.some.inj hf) (by decide)
set_option maxHeartbeats 4000000 in
set_option maxRecDepth 100000 in
theorem lawc_6 {p : Program} {l : Launch} {e : Env} {s : State} {m : MethodId} {args : Array Value} {below : List Frame} {meth : Method} {c : Code} {Q : State → Prop} {D : va_G} {cyI cyZ cyJ : ClassId} {A : Nat → Prop} {tb : List ExceptionTableEntry} (C : Cx ev_s p l s m args meth c cL_law 9 wsL_law RL D (ty3 cyI cyZ cyJ) A tb) (hfl : l.stackTraces = false) {b L : Nat} {xs : Nat → Int32} (hX : va_X b L xs s s.heap) (hbl : b < s.heap.size) (hbA : ¬ A b) {g z : Nat} {h1 h2 h : Nat → Nat} {l4 : Int32} {b1 b2 : S2} {o : Nat → Int64} {w : S2} {K : S2 → S2 → (Nat → Int64) → S2 → Option Int32} {cells slots : Nat} (hc1 : cells + 170 ≤ 601024) (hc2 : slots + 1027 ≤ 7293034) (hK : ∀ (b1 b2 : S2) (o : Nat → Int64) (w : S2), K b1 b2 o w = some 1 → Gq p l e room_1 s m args below meth c D A 9 Q (wC g h1 h2 ++ (wB cyI h1 b1 ++ (wB cyI h2 b2 ++ (wO cyJ z o ++ wM cyI cyZ h w)))) (cells + 170) (slots + 1027) 1466 [(0, .ref b), (1, .ref g), (2, .ref (h 0)), (3, .ref z), (4, .int l4)] []) (hf : L_law_C6 xs L K l4 b1 b2 o w = some 1) : Gq p l e room_1 s m args below meth c D A 9 Q (wC g h1 h2 ++ (wB cyI h1 b1 ++ (wB cyI h2 b2 ++ (wO cyJ z o ++ wM cyI cyZ h w)))) cells slots 564 [(0, .ref b), (1, .ref g), (2, .ref (h 0)), (3, .ref z), (4, .int l4)] [] := by
  unfold L_law_C6 at hf
  refine g_aload_n C dL_law_564 565 rfl 1 rfl ?_
  obtain ⟨x1, e2, hf⟩ := bd1_s hf
  refine g_callV1 C (m_X1_minute hfl (g := g) (h1 := h1) (h2 := h2) e2) cf_X1_minute gL_law_X1_minute ⟨Nat.le_of_ble_eq_true rfl, Nat.le_of_ble_eq_true rfl⟩ (q0 := 0) (As := []) (rest := []) (wl := []) (wr := wO cyJ z o ++ wM cyI cyZ h w) (c2 := cells) (s2 := slots) rfl rfl rfl rfl rfl rfl (Nat.le_of_ble_eq_true rfl) rfl rfl ⟨(by show _ ≤ 601024; omega), (by show _ ≤ 7293034; omega)⟩ dL_law_565 568 rfl (ws2 := wC g h1 h2 ++ (wB cyI h1 b1 ++ (wB cyI h2 b2 ++ (wO cyJ z o ++ wM cyI cyZ h w)))) rfl (st2 := [.int x1]) rfl ?_
  refine g_aload_n C dL_law_568 569 rfl 2 rfl ?_
  obtain ⟨x3, w_4, e5, hf⟩ := bd2_s hf
  refine g_callV1 C (m_X2_minute hfl (h := h) e5) cf_X2_minute gL_law_X2_minute ⟨Nat.le_of_ble_eq_true rfl, Nat.le_of_ble_eq_true rfl⟩ (q0 := 0) (As := []) (rest := [.int x1]) (wl := wC g h1 h2 ++ (wB cyI h1 b1 ++ (wB cyI h2 b2 ++ wO cyJ z o))) (wr := []) (c2 := cells) (s2 := slots) rfl rfl rfl rfl rfl rfl (Nat.le_of_ble_eq_true rfl) rfl rfl ⟨(by show _ ≤ 601024; omega), (by show _ ≤ 7293034; omega)⟩ dL_law_569 572 rfl (ws2 := wC g h1 h2 ++ (wB cyI h1 b1 ++ (wB cyI h2 b2 ++ (wO cyJ z o ++ wM cyI cyZ h w_4)))) rfl (st2 := [.int x3, .int x1]) rfl ?_
  refine g_icmp_eq C dL_law_572 1466 575 (by decide) rfl (fun c6 => ?_) (fun c6 => ?_)
  · have hf := ifp c6 hf
    refine g_wide (c2 := cells + 170) (s2 := slots + 1027) (by omega) (by omega) ?_
    exact hK b1 b2 o w_4 hf
  · have hf := ifn c6 hf
    refine g_iconst C dL_law_575 576 rfl ic_0 ?_
    exact absurd (Option.some.inj hf) (by decide)
set_option maxHeartbeats 4000000 in
set_option maxRecDepth 100000 in
theorem lawc_7 {p : Program} {l : Launch} {e : Env} {s : State} {m : MethodId} {args : Array Value} {below : List Frame} {meth : Method} {c : Code} {Q : State → Prop} {D : va_G} {cyI cyZ cyJ : ClassId} {A : Nat → Prop} {tb : List ExceptionTableEntry} (C : Cx ev_s p l s m args meth c cL_law 9 wsL_law RL D (ty3 cyI cyZ cyJ) A tb) (hfl : l.stackTraces = false) {b L : Nat} {xs : Nat → Int32} (hX : va_X b L xs s s.heap) (hbl : b < s.heap.size) (hbA : ¬ A b) {g z : Nat} {h1 h2 h : Nat → Nat} {l4 : Int32} {b1 b2 : S2} {o : Nat → Int64} {w : S2} {K : S2 → S2 → (Nat → Int64) → S2 → Option Int32} {cells slots : Nat} (hc1 : cells + 170 ≤ 601024) (hc2 : slots + 1027 ≤ 7293034) (hK : ∀ (b1 b2 : S2) (o : Nat → Int64) (w : S2), K b1 b2 o w = some 1 → Gq p l e room_1 s m args below meth c D A 9 Q (wC g h1 h2 ++ (wB cyI h1 b1 ++ (wB cyI h2 b2 ++ (wO cyJ z o ++ wM cyI cyZ h w)))) (cells + 170) (slots + 1027) 1466 [(0, .ref b), (1, .ref g), (2, .ref (h 0)), (3, .ref z), (4, .int l4)] []) (hf : L_law_C7 xs L K l4 b1 b2 o w = some 1) : Gq p l e room_1 s m args below meth c D A 9 Q (wC g h1 h2 ++ (wB cyI h1 b1 ++ (wB cyI h2 b2 ++ (wO cyJ z o ++ wM cyI cyZ h w)))) cells slots 577 [(0, .ref b), (1, .ref g), (2, .ref (h 0)), (3, .ref z), (4, .int l4)] [] := by
  unfold L_law_C7 at hf
  refine g_aload_n C dL_law_577 578 rfl 1 rfl ?_
  obtain ⟨x1, e2, hf⟩ := bd1_s hf
  refine g_callV1 C (m_X1_travellers hfl (g := g) (h1 := h1) (h2 := h2) e2) cf_X1_travellers gL_law_X1_travellers ⟨Nat.le_of_ble_eq_true rfl, Nat.le_of_ble_eq_true rfl⟩ (q0 := 0) (As := []) (rest := []) (wl := []) (wr := wO cyJ z o ++ wM cyI cyZ h w) (c2 := cells) (s2 := slots) rfl rfl rfl rfl rfl rfl (Nat.le_of_ble_eq_true rfl) rfl rfl ⟨(by show _ ≤ 601024; omega), (by show _ ≤ 7293034; omega)⟩ dL_law_578 581 rfl (ws2 := wC g h1 h2 ++ (wB cyI h1 b1 ++ (wB cyI h2 b2 ++ (wO cyJ z o ++ wM cyI cyZ h w)))) rfl (st2 := [.int x1]) rfl ?_
  refine g_aload_n C dL_law_581 582 rfl 2 rfl ?_
  obtain ⟨x3, w_4, e5, hf⟩ := bd2_s hf
  refine g_callV1 C (m_X2_travellers hfl (h := h) e5) cf_X2_travellers gL_law_X2_travellers ⟨Nat.le_of_ble_eq_true rfl, Nat.le_of_ble_eq_true rfl⟩ (q0 := 0) (As := []) (rest := [.int x1]) (wl := wC g h1 h2 ++ (wB cyI h1 b1 ++ (wB cyI h2 b2 ++ wO cyJ z o))) (wr := []) (c2 := cells) (s2 := slots) rfl rfl rfl rfl rfl rfl (Nat.le_of_ble_eq_true rfl) rfl rfl ⟨(by show _ ≤ 601024; omega), (by show _ ≤ 7293034; omega)⟩ dL_law_582 585 rfl (ws2 := wC g h1 h2 ++ (wB cyI h1 b1 ++ (wB cyI h2 b2 ++ (wO cyJ z o ++ wM cyI cyZ h w_4)))) rfl (st2 := [.int x3, .int x1]) rfl ?_
  refine g_icmp_eq C dL_law_585 1466 588 (by decide) rfl (fun c6 => ?_) (fun c6 => ?_)
  · have hf := ifp c6 hf
    refine g_wide (c2 := cells + 170) (s2 := slots + 1027) (by omega) (by omega) ?_
    exact hK b1 b2 o w_4 hf
  · have hf := ifn c6 hf
    refine g_iconst C dL_law_588 589 rfl ic_0 ?_
    exact absurd (Option.some.inj hf) (by decide)
set_option maxHeartbeats 4000000 in
set_option maxRecDepth 100000 in
theorem lawc_8 {p : Program} {l : Launch} {e : Env} {s : State} {m : MethodId} {args : Array Value} {below : List Frame} {meth : Method} {c : Code} {Q : State → Prop} {D : va_G} {cyI cyZ cyJ : ClassId} {A : Nat → Prop} {tb : List ExceptionTableEntry} (C : Cx ev_s p l s m args meth c cL_law 9 wsL_law RL D (ty3 cyI cyZ cyJ) A tb) (hfl : l.stackTraces = false) {b L : Nat} {xs : Nat → Int32} (hX : va_X b L xs s s.heap) (hbl : b < s.heap.size) (hbA : ¬ A b) {g z : Nat} {h1 h2 h : Nat → Nat} {l4 : Int32} {b1 b2 : S2} {o : Nat → Int64} {w : S2} {K : S2 → S2 → (Nat → Int64) → S2 → Option Int32} {cells slots : Nat} (hc1 : cells + 170 ≤ 601024) (hc2 : slots + 1027 ≤ 7293034) (hK : ∀ (b1 b2 : S2) (o : Nat → Int64) (w : S2), K b1 b2 o w = some 1 → Gq p l e room_1 s m args below meth c D A 9 Q (wC g h1 h2 ++ (wB cyI h1 b1 ++ (wB cyI h2 b2 ++ (wO cyJ z o ++ wM cyI cyZ h w)))) (cells + 170) (slots + 1027) 1466 [(0, .ref b), (1, .ref g), (2, .ref (h 0)), (3, .ref z), (4, .int l4)] []) (hf : L_law_C8 xs L K l4 b1 b2 o w = some 1) : Gq p l e room_1 s m args below meth c D A 9 Q (wC g h1 h2 ++ (wB cyI h1 b1 ++ (wB cyI h2 b2 ++ (wO cyJ z o ++ wM cyI cyZ h w)))) cells slots 590 [(0, .ref b), (1, .ref g), (2, .ref (h 0)), (3, .ref z), (4, .int l4)] [] := by
  unfold L_law_C8 at hf
  refine g_aload_n C dL_law_590 591 rfl 1 rfl ?_
  obtain ⟨x1, e2, hf⟩ := bd1_s hf
  refine g_callV1 C (m_X1_waiting hfl (g := g) (h1 := h1) (h2 := h2) e2) cf_X1_waiting gL_law_X1_waiting ⟨Nat.le_of_ble_eq_true rfl, Nat.le_of_ble_eq_true rfl⟩ (q0 := 0) (As := []) (rest := []) (wl := []) (wr := wO cyJ z o ++ wM cyI cyZ h w) (c2 := cells) (s2 := slots) rfl rfl rfl rfl rfl rfl (Nat.le_of_ble_eq_true rfl) rfl rfl ⟨(by show _ ≤ 601024; omega), (by show _ ≤ 7293034; omega)⟩ dL_law_591 594 rfl (ws2 := wC g h1 h2 ++ (wB cyI h1 b1 ++ (wB cyI h2 b2 ++ (wO cyJ z o ++ wM cyI cyZ h w)))) rfl (st2 := [.int x1]) rfl ?_
  refine g_aload_n C dL_law_594 595 rfl 2 rfl ?_
  obtain ⟨x3, w_4, e5, hf⟩ := bd2_s hf
  refine g_callV1 C (m_X2_waiting hfl (h := h) e5) cf_X2_waiting gL_law_X2_waiting ⟨Nat.le_of_ble_eq_true rfl, Nat.le_of_ble_eq_true rfl⟩ (q0 := 0) (As := []) (rest := [.int x1]) (wl := wC g h1 h2 ++ (wB cyI h1 b1 ++ (wB cyI h2 b2 ++ wO cyJ z o))) (wr := []) (c2 := cells) (s2 := slots) rfl rfl rfl rfl rfl rfl (Nat.le_of_ble_eq_true rfl) rfl rfl ⟨(by show _ ≤ 601024; omega), (by show _ ≤ 7293034; omega)⟩ dL_law_595 598 rfl (ws2 := wC g h1 h2 ++ (wB cyI h1 b1 ++ (wB cyI h2 b2 ++ (wO cyJ z o ++ wM cyI cyZ h w_4)))) rfl (st2 := [.int x3, .int x1]) rfl ?_
  refine g_icmp_eq C dL_law_598 1466 601 (by decide) rfl (fun c6 => ?_) (fun c6 => ?_)
  · have hf := ifp c6 hf
    refine g_wide (c2 := cells + 170) (s2 := slots + 1027) (by omega) (by omega) ?_
    exact hK b1 b2 o w_4 hf
  · have hf := ifn c6 hf
    refine g_iconst C dL_law_601 602 rfl ic_0 ?_
    exact absurd (Option.some.inj hf) (by decide)
set_option maxHeartbeats 4000000 in
set_option maxRecDepth 100000 in
theorem lawc_9 {p : Program} {l : Launch} {e : Env} {s : State} {m : MethodId} {args : Array Value} {below : List Frame} {meth : Method} {c : Code} {Q : State → Prop} {D : va_G} {cyI cyZ cyJ : ClassId} {A : Nat → Prop} {tb : List ExceptionTableEntry} (C : Cx ev_s p l s m args meth c cL_law 9 wsL_law RL D (ty3 cyI cyZ cyJ) A tb) (hfl : l.stackTraces = false) {b L : Nat} {xs : Nat → Int32} (hX : va_X b L xs s s.heap) (hbl : b < s.heap.size) (hbA : ¬ A b) {g z : Nat} {h1 h2 h : Nat → Nat} {l4 : Int32} {b1 b2 : S2} {o : Nat → Int64} {w : S2} {K : S2 → S2 → (Nat → Int64) → S2 → Option Int32} {cells slots : Nat} (hc1 : cells + 170 ≤ 601024) (hc2 : slots + 1027 ≤ 7293034) (hK : ∀ (b1 b2 : S2) (o : Nat → Int64) (w : S2), K b1 b2 o w = some 1 → Gq p l e room_1 s m args below meth c D A 9 Q (wC g h1 h2 ++ (wB cyI h1 b1 ++ (wB cyI h2 b2 ++ (wO cyJ z o ++ wM cyI cyZ h w)))) (cells + 170) (slots + 1027) 1466 [(0, .ref b), (1, .ref g), (2, .ref (h 0)), (3, .ref z), (4, .int l4)] []) (hf : L_law_C9 xs L K l4 b1 b2 o w = some 1) : Gq p l e room_1 s m args below meth c D A 9 Q (wC g h1 h2 ++ (wB cyI h1 b1 ++ (wB cyI h2 b2 ++ (wO cyJ z o ++ wM cyI cyZ h w)))) cells slots 603 [(0, .ref b), (1, .ref g), (2, .ref (h 0)), (3, .ref z), (4, .int l4)] [] := by
  unfold L_law_C9 at hf
  refine g_aload_n C dL_law_603 604 rfl 1 rfl ?_
  obtain ⟨x1, e2, hf⟩ := bd1_s hf
  refine g_callV1 C (m_X1_asleep hfl (g := g) (h1 := h1) (h2 := h2) e2) cf_X1_asleep gL_law_X1_asleep ⟨Nat.le_of_ble_eq_true rfl, Nat.le_of_ble_eq_true rfl⟩ (q0 := 0) (As := []) (rest := []) (wl := []) (wr := wO cyJ z o ++ wM cyI cyZ h w) (c2 := cells) (s2 := slots) rfl rfl rfl rfl rfl rfl (Nat.le_of_ble_eq_true rfl) rfl rfl ⟨(by show _ ≤ 601024; omega), (by show _ ≤ 7293034; omega)⟩ dL_law_604 607 rfl (ws2 := wC g h1 h2 ++ (wB cyI h1 b1 ++ (wB cyI h2 b2 ++ (wO cyJ z o ++ wM cyI cyZ h w)))) rfl (st2 := [.int x1]) rfl ?_
  refine g_aload_n C dL_law_607 608 rfl 2 rfl ?_
  obtain ⟨x3, w_4, e5, hf⟩ := bd2_s hf
  refine g_callV1 C (m_X2_asleep hfl (h := h) e5) cf_X2_asleep gL_law_X2_asleep ⟨Nat.le_of_ble_eq_true rfl, Nat.le_of_ble_eq_true rfl⟩ (q0 := 0) (As := []) (rest := [.int x1]) (wl := wC g h1 h2 ++ (wB cyI h1 b1 ++ (wB cyI h2 b2 ++ wO cyJ z o))) (wr := []) (c2 := cells) (s2 := slots) rfl rfl rfl rfl rfl rfl (Nat.le_of_ble_eq_true rfl) rfl rfl ⟨(by show _ ≤ 601024; omega), (by show _ ≤ 7293034; omega)⟩ dL_law_608 611 rfl (ws2 := wC g h1 h2 ++ (wB cyI h1 b1 ++ (wB cyI h2 b2 ++ (wO cyJ z o ++ wM cyI cyZ h w_4)))) rfl (st2 := [.int x3, .int x1]) rfl ?_
  refine g_icmp_eq C dL_law_611 1466 614 (by decide) rfl (fun c6 => ?_) (fun c6 => ?_)
  · have hf := ifp c6 hf
    refine g_wide (c2 := cells + 170) (s2 := slots + 1027) (by omega) (by omega) ?_
    exact hK b1 b2 o w_4 hf
  · have hf := ifn c6 hf
    refine g_iconst C dL_law_614 615 rfl ic_0 ?_
    exact absurd (Option.some.inj hf) (by decide)
set_option maxHeartbeats 4000000 in
set_option maxRecDepth 100000 in
theorem lawc_10 {p : Program} {l : Launch} {e : Env} {s : State} {m : MethodId} {args : Array Value} {below : List Frame} {meth : Method} {c : Code} {Q : State → Prop} {D : va_G} {cyI cyZ cyJ : ClassId} {A : Nat → Prop} {tb : List ExceptionTableEntry} (C : Cx ev_s p l s m args meth c cL_law 9 wsL_law RL D (ty3 cyI cyZ cyJ) A tb) (hfl : l.stackTraces = false) {b L : Nat} {xs : Nat → Int32} (hX : va_X b L xs s s.heap) (hbl : b < s.heap.size) (hbA : ¬ A b) {g z : Nat} {h1 h2 h : Nat → Nat} {l4 : Int32} {b1 b2 : S2} {o : Nat → Int64} {w : S2} {K : S2 → S2 → (Nat → Int64) → S2 → Option Int32} {cells slots : Nat} (hc1 : cells + 170 ≤ 601024) (hc2 : slots + 1027 ≤ 7293034) (hK : ∀ (b1 b2 : S2) (o : Nat → Int64) (w : S2), K b1 b2 o w = some 1 → Gq p l e room_1 s m args below meth c D A 9 Q (wC g h1 h2 ++ (wB cyI h1 b1 ++ (wB cyI h2 b2 ++ (wO cyJ z o ++ wM cyI cyZ h w)))) (cells + 170) (slots + 1027) 1466 [(0, .ref b), (1, .ref g), (2, .ref (h 0)), (3, .ref z), (4, .int l4)] []) (hf : L_law_C10 xs L K l4 b1 b2 o w = some 1) : Gq p l e room_1 s m args below meth c D A 9 Q (wC g h1 h2 ++ (wB cyI h1 b1 ++ (wB cyI h2 b2 ++ (wO cyJ z o ++ wM cyI cyZ h w)))) cells slots 616 [(0, .ref b), (1, .ref g), (2, .ref (h 0)), (3, .ref z), (4, .int l4)] [] := by
  unfold L_law_C10 at hf
  refine g_aload_n C dL_law_616 617 rfl 1 rfl ?_
  obtain ⟨x1, e2, hf⟩ := bd1_s hf
  refine g_callV1 C (m_X1_sentBack hfl (g := g) (h1 := h1) (h2 := h2) e2) cf_X1_sentBack gL_law_X1_sentBack ⟨Nat.le_of_ble_eq_true rfl, Nat.le_of_ble_eq_true rfl⟩ (q0 := 0) (As := []) (rest := []) (wl := []) (wr := wO cyJ z o ++ wM cyI cyZ h w) (c2 := cells) (s2 := slots) rfl rfl rfl rfl rfl rfl (Nat.le_of_ble_eq_true rfl) rfl rfl ⟨(by show _ ≤ 601024; omega), (by show _ ≤ 7293034; omega)⟩ dL_law_617 620 rfl (ws2 := wC g h1 h2 ++ (wB cyI h1 b1 ++ (wB cyI h2 b2 ++ (wO cyJ z o ++ wM cyI cyZ h w)))) rfl (st2 := [.int x1]) rfl ?_
  refine g_aload_n C dL_law_620 621 rfl 2 rfl ?_
  obtain ⟨x3, w_4, e5, hf⟩ := bd2_s hf
  refine g_callV1 C (m_X2_sentBack hfl (h := h) e5) cf_X2_sentBack gL_law_X2_sentBack ⟨Nat.le_of_ble_eq_true rfl, Nat.le_of_ble_eq_true rfl⟩ (q0 := 0) (As := []) (rest := [.int x1]) (wl := wC g h1 h2 ++ (wB cyI h1 b1 ++ (wB cyI h2 b2 ++ wO cyJ z o))) (wr := []) (c2 := cells) (s2 := slots) rfl rfl rfl rfl rfl rfl (Nat.le_of_ble_eq_true rfl) rfl rfl ⟨(by show _ ≤ 601024; omega), (by show _ ≤ 7293034; omega)⟩ dL_law_621 624 rfl (ws2 := wC g h1 h2 ++ (wB cyI h1 b1 ++ (wB cyI h2 b2 ++ (wO cyJ z o ++ wM cyI cyZ h w_4)))) rfl (st2 := [.int x3, .int x1]) rfl ?_
  refine g_icmp_eq C dL_law_624 1466 627 (by decide) rfl (fun c6 => ?_) (fun c6 => ?_)
  · have hf := ifp c6 hf
    refine g_wide (c2 := cells + 170) (s2 := slots + 1027) (by omega) (by omega) ?_
    exact hK b1 b2 o w_4 hf
  · have hf := ifn c6 hf
    refine g_iconst C dL_law_627 628 rfl ic_0 ?_
    exact absurd (Option.some.inj hf) (by decide)
set_option maxHeartbeats 4000000 in
set_option maxRecDepth 100000 in
theorem lawc_11 {p : Program} {l : Launch} {e : Env} {s : State} {m : MethodId} {args : Array Value} {below : List Frame} {meth : Method} {c : Code} {Q : State → Prop} {D : va_G} {cyI cyZ cyJ : ClassId} {A : Nat → Prop} {tb : List ExceptionTableEntry} (C : Cx ev_s p l s m args meth c cL_law 9 wsL_law RL D (ty3 cyI cyZ cyJ) A tb) (hfl : l.stackTraces = false) {b L : Nat} {xs : Nat → Int32} (hX : va_X b L xs s s.heap) (hbl : b < s.heap.size) (hbA : ¬ A b) {g z : Nat} {h1 h2 h : Nat → Nat} {l4 : Int32} {b1 b2 : S2} {o : Nat → Int64} {w : S2} {K : S2 → S2 → (Nat → Int64) → S2 → Option Int32} {cells slots : Nat} (hc1 : cells + 170 ≤ 601024) (hc2 : slots + 1027 ≤ 7293034) (hK : ∀ (b1 b2 : S2) (o : Nat → Int64) (w : S2), K b1 b2 o w = some 1 → Gq p l e room_1 s m args below meth c D A 9 Q (wC g h1 h2 ++ (wB cyI h1 b1 ++ (wB cyI h2 b2 ++ (wO cyJ z o ++ wM cyI cyZ h w)))) (cells + 170) (slots + 1027) 1466 [(0, .ref b), (1, .ref g), (2, .ref (h 0)), (3, .ref z), (4, .int l4)] []) (hf : L_law_C11 xs L K l4 b1 b2 o w = some 1) : Gq p l e room_1 s m args below meth c D A 9 Q (wC g h1 h2 ++ (wB cyI h1 b1 ++ (wB cyI h2 b2 ++ (wO cyJ z o ++ wM cyI cyZ h w)))) cells slots 629 [(0, .ref b), (1, .ref g), (2, .ref (h 0)), (3, .ref z), (4, .int l4)] [] := by
  unfold L_law_C11 at hf
  refine g_aload_n C dL_law_629 630 rfl 1 rfl ?_
  obtain ⟨x1, e2, hf⟩ := bd1_s hf
  refine g_callV1 C (m_X1_expired hfl (g := g) (h1 := h1) (h2 := h2) e2) cf_X1_expired gL_law_X1_expired ⟨Nat.le_of_ble_eq_true rfl, Nat.le_of_ble_eq_true rfl⟩ (q0 := 0) (As := []) (rest := []) (wl := []) (wr := wO cyJ z o ++ wM cyI cyZ h w) (c2 := cells) (s2 := slots) rfl rfl rfl rfl rfl rfl (Nat.le_of_ble_eq_true rfl) rfl rfl ⟨(by show _ ≤ 601024; omega), (by show _ ≤ 7293034; omega)⟩ dL_law_630 633 rfl (ws2 := wC g h1 h2 ++ (wB cyI h1 b1 ++ (wB cyI h2 b2 ++ (wO cyJ z o ++ wM cyI cyZ h w)))) rfl (st2 := [.int x1]) rfl ?_
  refine g_aload_n C dL_law_633 634 rfl 2 rfl ?_
  obtain ⟨x3, w_4, e5, hf⟩ := bd2_s hf
  refine g_callV1 C (m_X2_expired hfl (h := h) e5) cf_X2_expired gL_law_X2_expired ⟨Nat.le_of_ble_eq_true rfl, Nat.le_of_ble_eq_true rfl⟩ (q0 := 0) (As := []) (rest := [.int x1]) (wl := wC g h1 h2 ++ (wB cyI h1 b1 ++ (wB cyI h2 b2 ++ wO cyJ z o))) (wr := []) (c2 := cells) (s2 := slots) rfl rfl rfl rfl rfl rfl (Nat.le_of_ble_eq_true rfl) rfl rfl ⟨(by show _ ≤ 601024; omega), (by show _ ≤ 7293034; omega)⟩ dL_law_634 637 rfl (ws2 := wC g h1 h2 ++ (wB cyI h1 b1 ++ (wB cyI h2 b2 ++ (wO cyJ z o ++ wM cyI cyZ h w_4)))) rfl (st2 := [.int x3, .int x1]) rfl ?_
  refine g_icmp_eq C dL_law_637 1466 640 (by decide) rfl (fun c6 => ?_) (fun c6 => ?_)
  · have hf := ifp c6 hf
    refine g_wide (c2 := cells + 170) (s2 := slots + 1027) (by omega) (by omega) ?_
    exact hK b1 b2 o w_4 hf
  · have hf := ifn c6 hf
    refine g_iconst C dL_law_640 641 rfl ic_0 ?_
    exact absurd (Option.some.inj hf) (by decide)
set_option maxHeartbeats 4000000 in
set_option maxRecDepth 100000 in
theorem lawc_12 {p : Program} {l : Launch} {e : Env} {s : State} {m : MethodId} {args : Array Value} {below : List Frame} {meth : Method} {c : Code} {Q : State → Prop} {D : va_G} {cyI cyZ cyJ : ClassId} {A : Nat → Prop} {tb : List ExceptionTableEntry} (C : Cx ev_s p l s m args meth c cL_law 9 wsL_law RL D (ty3 cyI cyZ cyJ) A tb) (hfl : l.stackTraces = false) {b L : Nat} {xs : Nat → Int32} (hX : va_X b L xs s s.heap) (hbl : b < s.heap.size) (hbA : ¬ A b) {g z : Nat} {h1 h2 h : Nat → Nat} {l4 : Int32} {b1 b2 : S2} {o : Nat → Int64} {w : S2} {K : S2 → S2 → (Nat → Int64) → S2 → Option Int32} {cells slots : Nat} (hc1 : cells + 170 ≤ 601024) (hc2 : slots + 1027 ≤ 7293034) (hK : ∀ (b1 b2 : S2) (o : Nat → Int64) (w : S2), K b1 b2 o w = some 1 → Gq p l e room_1 s m args below meth c D A 9 Q (wC g h1 h2 ++ (wB cyI h1 b1 ++ (wB cyI h2 b2 ++ (wO cyJ z o ++ wM cyI cyZ h w)))) (cells + 170) (slots + 1027) 1466 [(0, .ref b), (1, .ref g), (2, .ref (h 0)), (3, .ref z), (4, .int l4)] []) (hf : L_law_C12 xs L K l4 b1 b2 o w = some 1) : Gq p l e room_1 s m args below meth c D A 9 Q (wC g h1 h2 ++ (wB cyI h1 b1 ++ (wB cyI h2 b2 ++ (wO cyJ z o ++ wM cyI cyZ h w)))) cells slots 642 [(0, .ref b), (1, .ref g), (2, .ref (h 0)), (3, .ref z), (4, .int l4)] [] := by
  unfold L_law_C12 at hf
  refine g_aload_n C dL_law_642 643 rfl 1 rfl ?_
  obtain ⟨x1, e2, hf⟩ := bd1_s hf
  refine g_callV1 C (m_X1_paid hfl (g := g) (h1 := h1) (h2 := h2) e2) cf_X1_paid gL_law_X1_paid ⟨Nat.le_of_ble_eq_true rfl, Nat.le_of_ble_eq_true rfl⟩ (q0 := 0) (As := []) (rest := []) (wl := []) (wr := wO cyJ z o ++ wM cyI cyZ h w) (c2 := cells) (s2 := slots) rfl rfl rfl rfl rfl rfl (Nat.le_of_ble_eq_true rfl) rfl rfl ⟨(by show _ ≤ 601024; omega), (by show _ ≤ 7293034; omega)⟩ dL_law_643 646 rfl (ws2 := wC g h1 h2 ++ (wB cyI h1 b1 ++ (wB cyI h2 b2 ++ (wO cyJ z o ++ wM cyI cyZ h w)))) rfl (st2 := [.int x1]) rfl ?_
  refine g_aload_n C dL_law_646 647 rfl 2 rfl ?_
  obtain ⟨x3, w_4, e5, hf⟩ := bd2_s hf
  refine g_callV1 C (m_X2_paid hfl (h := h) e5) cf_X2_paid gL_law_X2_paid ⟨Nat.le_of_ble_eq_true rfl, Nat.le_of_ble_eq_true rfl⟩ (q0 := 0) (As := []) (rest := [.int x1]) (wl := wC g h1 h2 ++ (wB cyI h1 b1 ++ (wB cyI h2 b2 ++ wO cyJ z o))) (wr := []) (c2 := cells) (s2 := slots) rfl rfl rfl rfl rfl rfl (Nat.le_of_ble_eq_true rfl) rfl rfl ⟨(by show _ ≤ 601024; omega), (by show _ ≤ 7293034; omega)⟩ dL_law_647 650 rfl (ws2 := wC g h1 h2 ++ (wB cyI h1 b1 ++ (wB cyI h2 b2 ++ (wO cyJ z o ++ wM cyI cyZ h w_4)))) rfl (st2 := [.int x3, .int x1]) rfl ?_
  refine g_icmp_eq C dL_law_650 1466 653 (by decide) rfl (fun c6 => ?_) (fun c6 => ?_)
  · have hf := ifp c6 hf
    refine g_wide (c2 := cells + 170) (s2 := slots + 1027) (by omega) (by omega) ?_
    exact hK b1 b2 o w_4 hf
  · have hf := ifn c6 hf
    refine g_iconst C dL_law_653 654 rfl ic_0 ?_
    exact absurd (Option.some.inj hf) (by decide)
set_option maxHeartbeats 4000000 in
set_option maxRecDepth 100000 in
theorem lawc_13 {p : Program} {l : Launch} {e : Env} {s : State} {m : MethodId} {args : Array Value} {below : List Frame} {meth : Method} {c : Code} {Q : State → Prop} {D : va_G} {cyI cyZ cyJ : ClassId} {A : Nat → Prop} {tb : List ExceptionTableEntry} (C : Cx ev_s p l s m args meth c cL_law 9 wsL_law RL D (ty3 cyI cyZ cyJ) A tb) (hfl : l.stackTraces = false) {b L : Nat} {xs : Nat → Int32} (hX : va_X b L xs s s.heap) (hbl : b < s.heap.size) (hbA : ¬ A b) {g z : Nat} {h1 h2 h : Nat → Nat} {l4 : Int32} {b1 b2 : S2} {o : Nat → Int64} {w : S2} {K : S2 → S2 → (Nat → Int64) → S2 → Option Int32} {cells slots : Nat} (hc1 : cells + 170 ≤ 601024) (hc2 : slots + 1027 ≤ 7293034) (hK : ∀ (b1 b2 : S2) (o : Nat → Int64) (w : S2), K b1 b2 o w = some 1 → Gq p l e room_1 s m args below meth c D A 9 Q (wC g h1 h2 ++ (wB cyI h1 b1 ++ (wB cyI h2 b2 ++ (wO cyJ z o ++ wM cyI cyZ h w)))) (cells + 170) (slots + 1027) 1466 [(0, .ref b), (1, .ref g), (2, .ref (h 0)), (3, .ref z), (4, .int l4)] []) (hf : L_law_C13 xs L K l4 b1 b2 o w = some 1) : Gq p l e room_1 s m args below meth c D A 9 Q (wC g h1 h2 ++ (wB cyI h1 b1 ++ (wB cyI h2 b2 ++ (wO cyJ z o ++ wM cyI cyZ h w)))) cells slots 655 [(0, .ref b), (1, .ref g), (2, .ref (h 0)), (3, .ref z), (4, .int l4)] [] := by
  unfold L_law_C13 at hf
  refine g_aload_n C dL_law_655 656 rfl 1 rfl ?_
  obtain ⟨x1, e2, hf⟩ := bd1_s hf
  refine g_callV1 C (m_X1_noise hfl (g := g) (h1 := h1) (h2 := h2) e2) cf_X1_noise gL_law_X1_noise ⟨Nat.le_of_ble_eq_true rfl, Nat.le_of_ble_eq_true rfl⟩ (q0 := 0) (As := []) (rest := []) (wl := []) (wr := wO cyJ z o ++ wM cyI cyZ h w) (c2 := cells) (s2 := slots) rfl rfl rfl rfl rfl rfl (Nat.le_of_ble_eq_true rfl) rfl rfl ⟨(by show _ ≤ 601024; omega), (by show _ ≤ 7293034; omega)⟩ dL_law_656 659 rfl (ws2 := wC g h1 h2 ++ (wB cyI h1 b1 ++ (wB cyI h2 b2 ++ (wO cyJ z o ++ wM cyI cyZ h w)))) rfl (st2 := [.int x1]) rfl ?_
  refine g_aload_n C dL_law_659 660 rfl 2 rfl ?_
  obtain ⟨x3, w_4, e5, hf⟩ := bd2_s hf
  refine g_callV1 C (m_X2_noise hfl (h := h) e5) cf_X2_noise gL_law_X2_noise ⟨Nat.le_of_ble_eq_true rfl, Nat.le_of_ble_eq_true rfl⟩ (q0 := 0) (As := []) (rest := [.int x1]) (wl := wC g h1 h2 ++ (wB cyI h1 b1 ++ (wB cyI h2 b2 ++ wO cyJ z o))) (wr := []) (c2 := cells) (s2 := slots) rfl rfl rfl rfl rfl rfl (Nat.le_of_ble_eq_true rfl) rfl rfl ⟨(by show _ ≤ 601024; omega), (by show _ ≤ 7293034; omega)⟩ dL_law_660 663 rfl (ws2 := wC g h1 h2 ++ (wB cyI h1 b1 ++ (wB cyI h2 b2 ++ (wO cyJ z o ++ wM cyI cyZ h w_4)))) rfl (st2 := [.int x3, .int x1]) rfl ?_
  refine g_icmp_eq C dL_law_663 1466 666 (by decide) rfl (fun c6 => ?_) (fun c6 => ?_)
  · have hf := ifp c6 hf
    refine g_wide (c2 := cells + 170) (s2 := slots + 1027) (by omega) (by omega) ?_
    exact hK b1 b2 o w_4 hf
  · have hf := ifn c6 hf
    refine g_iconst C dL_law_666 667 rfl ic_0 ?_
    exact absurd (Option.some.inj hf) (by decide)
set_option maxHeartbeats 4000000 in
set_option maxRecDepth 100000 in
theorem lawc_14 {p : Program} {l : Launch} {e : Env} {s : State} {m : MethodId} {args : Array Value} {below : List Frame} {meth : Method} {c : Code} {Q : State → Prop} {D : va_G} {cyI cyZ cyJ : ClassId} {A : Nat → Prop} {tb : List ExceptionTableEntry} (C : Cx ev_s p l s m args meth c cL_law 9 wsL_law RL D (ty3 cyI cyZ cyJ) A tb) (hfl : l.stackTraces = false) {b L : Nat} {xs : Nat → Int32} (hX : va_X b L xs s s.heap) (hbl : b < s.heap.size) (hbA : ¬ A b) {g z : Nat} {h1 h2 h : Nat → Nat} {l4 : Int32} {b1 b2 : S2} {o : Nat → Int64} {w : S2} {K : S2 → S2 → (Nat → Int64) → S2 → Option Int32} {cells slots : Nat} (hc1 : cells + 170 ≤ 601024) (hc2 : slots + 1027 ≤ 7293034) (hK : ∀ (b1 b2 : S2) (o : Nat → Int64) (w : S2), K b1 b2 o w = some 1 → Gq p l e room_1 s m args below meth c D A 9 Q (wC g h1 h2 ++ (wB cyI h1 b1 ++ (wB cyI h2 b2 ++ (wO cyJ z o ++ wM cyI cyZ h w)))) (cells + 170) (slots + 1027) 1466 [(0, .ref b), (1, .ref g), (2, .ref (h 0)), (3, .ref z), (4, .int l4)] []) (hf : L_law_C14 xs L K l4 b1 b2 o w = some 1) : Gq p l e room_1 s m args below meth c D A 9 Q (wC g h1 h2 ++ (wB cyI h1 b1 ++ (wB cyI h2 b2 ++ (wO cyJ z o ++ wM cyI cyZ h w)))) cells slots 668 [(0, .ref b), (1, .ref g), (2, .ref (h 0)), (3, .ref z), (4, .int l4)] [] := by
  unfold L_law_C14 at hf
  refine g_aload_n C dL_law_668 669 rfl 1 rfl ?_
  obtain ⟨x1, e2, hf⟩ := bd1_s hf
  refine g_callV1 C (m_X1_nextInLine hfl (g := g) (h1 := h1) (h2 := h2) e2) cf_X1_nextInLine gL_law_X1_nextInLine ⟨Nat.le_of_ble_eq_true rfl, Nat.le_of_ble_eq_true rfl⟩ (q0 := 0) (As := []) (rest := []) (wl := []) (wr := wO cyJ z o ++ wM cyI cyZ h w) (c2 := cells) (s2 := slots) rfl rfl rfl rfl rfl rfl (Nat.le_of_ble_eq_true rfl) rfl rfl ⟨(by show _ ≤ 601024; omega), (by show _ ≤ 7293034; omega)⟩ dL_law_669 672 rfl (ws2 := wC g h1 h2 ++ (wB cyI h1 b1 ++ (wB cyI h2 b2 ++ (wO cyJ z o ++ wM cyI cyZ h w)))) rfl (st2 := [.int x1]) rfl ?_
  refine g_aload_n C dL_law_672 673 rfl 2 rfl ?_
  obtain ⟨x3, w_4, e5, hf⟩ := bd2_s hf
  refine g_callV1 C (m_X2_nextInLine hfl (h := h) e5) cf_X2_nextInLine gL_law_X2_nextInLine ⟨Nat.le_of_ble_eq_true rfl, Nat.le_of_ble_eq_true rfl⟩ (q0 := 0) (As := []) (rest := [.int x1]) (wl := wC g h1 h2 ++ (wB cyI h1 b1 ++ (wB cyI h2 b2 ++ wO cyJ z o))) (wr := []) (c2 := cells) (s2 := slots) rfl rfl rfl rfl rfl rfl (Nat.le_of_ble_eq_true rfl) rfl rfl ⟨(by show _ ≤ 601024; omega), (by show _ ≤ 7293034; omega)⟩ dL_law_673 676 rfl (ws2 := wC g h1 h2 ++ (wB cyI h1 b1 ++ (wB cyI h2 b2 ++ (wO cyJ z o ++ wM cyI cyZ h w_4)))) rfl (st2 := [.int x3, .int x1]) rfl ?_
  refine g_icmp_eq C dL_law_676 1466 679 (by decide) rfl (fun c6 => ?_) (fun c6 => ?_)
  · have hf := ifp c6 hf
    refine g_wide (c2 := cells + 170) (s2 := slots + 1027) (by omega) (by omega) ?_
    exact hK b1 b2 o w_4 hf
  · have hf := ifn c6 hf
    refine g_iconst C dL_law_679 680 rfl ic_0 ?_
    exact absurd (Option.some.inj hf) (by decide)
set_option maxHeartbeats 4000000 in
set_option maxRecDepth 100000 in
theorem lawc_15 {p : Program} {l : Launch} {e : Env} {s : State} {m : MethodId} {args : Array Value} {below : List Frame} {meth : Method} {c : Code} {Q : State → Prop} {D : va_G} {cyI cyZ cyJ : ClassId} {A : Nat → Prop} {tb : List ExceptionTableEntry} (C : Cx ev_s p l s m args meth c cL_law 9 wsL_law RL D (ty3 cyI cyZ cyJ) A tb) (hfl : l.stackTraces = false) {b L : Nat} {xs : Nat → Int32} (hX : va_X b L xs s s.heap) (hbl : b < s.heap.size) (hbA : ¬ A b) {g z : Nat} {h1 h2 h : Nat → Nat} {l4 : Int32} {b1 b2 : S2} {o : Nat → Int64} {w : S2} {K : S2 → S2 → (Nat → Int64) → S2 → Option Int32} {cells slots : Nat} (hc1 : cells + 170 ≤ 601024) (hc2 : slots + 1027 ≤ 7293034) (hK : ∀ (b1 b2 : S2) (o : Nat → Int64) (w : S2), K b1 b2 o w = some 1 → Gq p l e room_1 s m args below meth c D A 9 Q (wC g h1 h2 ++ (wB cyI h1 b1 ++ (wB cyI h2 b2 ++ (wO cyJ z o ++ wM cyI cyZ h w)))) (cells + 170) (slots + 1027) 1466 [(0, .ref b), (1, .ref g), (2, .ref (h 0)), (3, .ref z), (4, .int l4)] []) (hf : L_law_C15 xs L K l4 b1 b2 o w = some 1) : Gq p l e room_1 s m args below meth c D A 9 Q (wC g h1 h2 ++ (wB cyI h1 b1 ++ (wB cyI h2 b2 ++ (wO cyJ z o ++ wM cyI cyZ h w)))) cells slots 681 [(0, .ref b), (1, .ref g), (2, .ref (h 0)), (3, .ref z), (4, .int l4)] [] := by
  unfold L_law_C15 at hf
  refine g_aload_n C dL_law_681 682 rfl 1 rfl ?_
  refine g_aload_n C dL_law_682 683 rfl 0 rfl ?_
  refine g_iload C dL_law_683 685 rfl 4 rfl ?_
  refine g_iconst C dL_law_685 686 rfl ic_1 ?_
  refine g_iadd C dL_law_686 687 rfl ?_
  obtain ⟨x2, e1, hf⟩ := bd1_s hf
  refine g_sld C hX hbl hbA e1 dL_law_687 688 rfl ?_
  refine g_aload_n C dL_law_688 689 rfl 3 rfl ?_
  obtain ⟨x3, o_4, e5, hf⟩ := bd2_s hf
  refine g_callSH1 C (m_L_stateOf hfl (g := g) (h1 := h1) (h2 := h2) (z := z) e5) cf_L_stateOf gL_law_L_stateOf ⟨Nat.le_of_ble_eq_true rfl, Nat.le_of_ble_eq_true rfl⟩ (As := [.ref g, .int x2, .ref z]) (rest := []) (wl := []) (wr := wM cyI cyZ h w) (c2 := cells + 1) (s2 := slots + 6) rfl rfl rfl (Nat.le_of_ble_eq_true rfl) rfl rfl ⟨(by show _ ≤ 601024; omega), (by show _ ≤ 7293034; omega)⟩ dL_law_689 692 rfl (ws2 := wC g h1 h2 ++ (wB cyI h1 b1 ++ (wB cyI h2 b2 ++ (wO cyJ z o_4 ++ wM cyI cyZ h w)))) rfl (st2 := [.int x3]) rfl ?_
  refine g_istore C dL_law_692 694 rfl (by decide) (lv' := [(5, .int x3), (0, .ref b), (1, .ref g), (2, .ref (h 0)), (3, .ref z), (4, .int l4)]) rfl ?_
  refine g_aload_n C dL_law_694 695 rfl 3 rfl ?_
  refine g_aload_n C dL_law_695 696 rfl 1 rfl ?_
  refine g_iload C dL_law_696 698 rfl 5 rfl ?_
  refine g_iconst C dL_law_698 699 rfl ic_1 ?_
  refine g_iadd C dL_law_699 700 rfl ?_
  obtain ⟨x7, e6, hf⟩ := bd1_s hf
  refine g_sld C hX hbl hbA e6 dL_law_700 701 rfl ?_
  obtain ⟨x8, w_9, e10, hf⟩ := bd2_s hf
  refine g_callV1 C (m_X2_stateOf hfl (h := h) e10) cf_X2_stateOf gL_law_X2_stateOf ⟨Nat.le_of_ble_eq_true rfl, Nat.le_of_ble_eq_true rfl⟩ (q0 := 0) (As := [.int x7]) (rest := []) (wl := wC g h1 h2 ++ (wB cyI h1 b1 ++ (wB cyI h2 b2 ++ wO cyJ z o_4))) (wr := []) (c2 := cells + 1) (s2 := slots + 6) rfl rfl rfl rfl rfl rfl (Nat.le_of_ble_eq_true rfl) rfl rfl ⟨(by show _ ≤ 601024; omega), (by show _ ≤ 7293034; omega)⟩ dL_law_701 704 rfl (ws2 := wC g h1 h2 ++ (wB cyI h1 b1 ++ (wB cyI h2 b2 ++ (wO cyJ z o_4 ++ wM cyI cyZ h w_9)))) rfl (st2 := [.int x8]) rfl ?_
  refine g_istore C dL_law_704 706 rfl (by decide) (lv' := [(6, .int x8), (5, .int x3), (0, .ref b), (1, .ref g), (2, .ref (h 0)), (3, .ref z), (4, .int l4)]) rfl ?_
  refine g_aload_n C dL_law_706 707 rfl 4 rfl ?_
  obtain ⟨x11, e12, hf⟩ := bd1_s hf
  refine g_callV1 C (m_X2_thrown hfl (h := h) e12) cf_X2_thrown gL_law_X2_thrown ⟨Nat.le_of_ble_eq_true rfl, Nat.le_of_ble_eq_true rfl⟩ (q0 := 0) (As := []) (rest := []) (wl := wC g h1 h2 ++ (wB cyI h1 b1 ++ (wB cyI h2 b2 ++ wO cyJ z o_4))) (wr := []) (c2 := cells + 1) (s2 := slots + 6) rfl rfl rfl rfl rfl rfl (Nat.le_of_ble_eq_true rfl) rfl rfl ⟨(by show _ ≤ 601024; omega), (by show _ ≤ 7293034; omega)⟩ dL_law_707 710 rfl (ws2 := wC g h1 h2 ++ (wB cyI h1 b1 ++ (wB cyI h2 b2 ++ (wO cyJ z o_4 ++ wM cyI cyZ h w_9)))) rfl (st2 := [.int x11]) rfl ?_
  refine g_iload C dL_law_710 712 rfl 1 rfl ?_
  refine g_icmp_eq C dL_law_712 717 715 (by decide) rfl (fun c13 => ?_) (fun c13 => ?_)
  · have hf := ifp c13 hf
    refine g_iload C dL_law_717 719 rfl 1 rfl ?_
    refine g_if_ne C dL_law_719 734 722 (by decide) rfl (fun c14 => ?_) (fun c14 => ?_)
    · have hf := ifn c14 hf
      refine g_goto C dL_law_734 1466 (by decide) ?_
      refine g_lv [2, 3, 4, 5, 6] (lv' := [(0, .ref b), (1, .ref g), (2, .ref (h 0)), (3, .ref z), (4, .int l4)]) rfl ?_
      refine g_wide (c2 := cells + 170) (s2 := slots + 1027) (by omega) (by omega) ?_
      exact hK b1 b2 o_4 w_9 hf
    · have hf := ifp c14 hf
      refine g_aload_n C dL_law_722 723 rfl 5 rfl ?_
      refine g_iconst C dL_law_723 724 rfl ic_0 ?_
      obtain ⟨x16, e15, hf⟩ := bd1_s hf
      refine g_lald C 23 2 rfl rfl e15 dL_law_724 725 rfl ?_
      refine g_iload C dL_law_725 727 rfl 0 rfl ?_
      refine g_i2l C dL_law_727 728 rfl ?_
      refine g_lcmp C dL_law_728 729 rfl ?_
      refine g_if_eq C dL_law_729 734 732 (by decide) rfl (fun c17 => ?_) (fun c17 => ?_)
      · have hf := ifp c17 hf
        refine g_goto C dL_law_734 1466 (by decide) ?_
        refine g_lv [2, 3, 4, 5, 6] (lv' := [(0, .ref b), (1, .ref g), (2, .ref (h 0)), (3, .ref z), (4, .int l4)]) rfl ?_
        refine g_wide (c2 := cells + 170) (s2 := slots + 1027) (by omega) (by omega) ?_
        exact hK b1 b2 o_4 w_9 hf
      · have hf := ifn c17 hf
        refine g_iconst C dL_law_732 733 rfl ic_0 ?_
        exact absurd (Option.some.inj hf) (by decide)
  · have hf := ifn c13 hf
    refine g_iconst C dL_law_715 716 rfl ic_0 ?_
    exact absurd (Option.some.inj hf) (by decide)
set_option maxHeartbeats 4000000 in
set_option maxRecDepth 100000 in
theorem lawc_16 {p : Program} {l : Launch} {e : Env} {s : State} {m : MethodId} {args : Array Value} {below : List Frame} {meth : Method} {c : Code} {Q : State → Prop} {D : va_G} {cyI cyZ cyJ : ClassId} {A : Nat → Prop} {tb : List ExceptionTableEntry} (C : Cx ev_s p l s m args meth c cL_law 9 wsL_law RL D (ty3 cyI cyZ cyJ) A tb) (hfl : l.stackTraces = false) {b L : Nat} {xs : Nat → Int32} (hX : va_X b L xs s s.heap) (hbl : b < s.heap.size) (hbA : ¬ A b) {g z : Nat} {h1 h2 h : Nat → Nat} {l4 : Int32} {b1 b2 : S2} {o : Nat → Int64} {w : S2} {K : S2 → S2 → (Nat → Int64) → S2 → Option Int32} {cells slots : Nat} (hc1 : cells + 170 ≤ 601024) (hc2 : slots + 1027 ≤ 7293034) (hK : ∀ (b1 b2 : S2) (o : Nat → Int64) (w : S2), K b1 b2 o w = some 1 → Gq p l e room_1 s m args below meth c D A 9 Q (wC g h1 h2 ++ (wB cyI h1 b1 ++ (wB cyI h2 b2 ++ (wO cyJ z o ++ wM cyI cyZ h w)))) (cells + 170) (slots + 1027) 1466 [(0, .ref b), (1, .ref g), (2, .ref (h 0)), (3, .ref z), (4, .int l4)] []) (hf : L_law_C16 xs L K l4 b1 b2 o w = some 1) : Gq p l e room_1 s m args below meth c D A 9 Q (wC g h1 h2 ++ (wB cyI h1 b1 ++ (wB cyI h2 b2 ++ (wO cyJ z o ++ wM cyI cyZ h w)))) cells slots 737 [(0, .ref b), (1, .ref g), (2, .ref (h 0)), (3, .ref z), (4, .int l4)] [] := by
  unfold L_law_C16 at hf
  refine g_aload_n C dL_law_737 738 rfl 1 rfl ?_
  refine g_aload_n C dL_law_738 739 rfl 0 rfl ?_
  refine g_iload C dL_law_739 741 rfl 4 rfl ?_
  refine g_iconst C dL_law_741 742 rfl ic_1 ?_
  refine g_iadd C dL_law_742 743 rfl ?_
  obtain ⟨x2, e1, hf⟩ := bd1_s hf
  refine g_sld C hX hbl hbA e1 dL_law_743 744 rfl ?_
  refine g_aload_n C dL_law_744 745 rfl 3 rfl ?_
  obtain ⟨x3, o_4, e5, hf⟩ := bd2_s hf
  refine g_callSH1 C (m_L_hiddenOf hfl (g := g) (h1 := h1) (h2 := h2) (z := z) e5) cf_L_hiddenOf gL_law_L_hiddenOf ⟨Nat.le_of_ble_eq_true rfl, Nat.le_of_ble_eq_true rfl⟩ (As := [.ref g, .int x2, .ref z]) (rest := []) (wl := []) (wr := wM cyI cyZ h w) (c2 := cells + 1) (s2 := slots + 6) rfl rfl rfl (Nat.le_of_ble_eq_true rfl) rfl rfl ⟨(by show _ ≤ 601024; omega), (by show _ ≤ 7293034; omega)⟩ dL_law_745 748 rfl (ws2 := wC g h1 h2 ++ (wB cyI h1 b1 ++ (wB cyI h2 b2 ++ (wO cyJ z o_4 ++ wM cyI cyZ h w)))) rfl (st2 := [.int x3]) rfl ?_
  refine g_istore C dL_law_748 750 rfl (by decide) (lv' := [(5, .int x3), (0, .ref b), (1, .ref g), (2, .ref (h 0)), (3, .ref z), (4, .int l4)]) rfl ?_
  refine g_aload_n C dL_law_750 751 rfl 3 rfl ?_
  refine g_aload_n C dL_law_751 752 rfl 1 rfl ?_
  refine g_iload C dL_law_752 754 rfl 5 rfl ?_
  refine g_iconst C dL_law_754 755 rfl ic_1 ?_
  refine g_iadd C dL_law_755 756 rfl ?_
  obtain ⟨x7, e6, hf⟩ := bd1_s hf
  refine g_sld C hX hbl hbA e6 dL_law_756 757 rfl ?_
  obtain ⟨x8, w_9, e10, hf⟩ := bd2_s hf
  refine g_callV1 C (m_X2_hiddenOf hfl (h := h) e10) cf_X2_hiddenOf gL_law_X2_hiddenOf ⟨Nat.le_of_ble_eq_true rfl, Nat.le_of_ble_eq_true rfl⟩ (q0 := 0) (As := [.int x7]) (rest := []) (wl := wC g h1 h2 ++ (wB cyI h1 b1 ++ (wB cyI h2 b2 ++ wO cyJ z o_4))) (wr := []) (c2 := cells + 1) (s2 := slots + 6) rfl rfl rfl rfl rfl rfl (Nat.le_of_ble_eq_true rfl) rfl rfl ⟨(by show _ ≤ 601024; omega), (by show _ ≤ 7293034; omega)⟩ dL_law_757 760 rfl (ws2 := wC g h1 h2 ++ (wB cyI h1 b1 ++ (wB cyI h2 b2 ++ (wO cyJ z o_4 ++ wM cyI cyZ h w_9)))) rfl (st2 := [.int x8]) rfl ?_
  refine g_istore C dL_law_760 762 rfl (by decide) (lv' := [(6, .int x8), (5, .int x3), (0, .ref b), (1, .ref g), (2, .ref (h 0)), (3, .ref z), (4, .int l4)]) rfl ?_
  refine g_aload_n C dL_law_762 763 rfl 4 rfl ?_
  obtain ⟨x11, e12, hf⟩ := bd1_s hf
  refine g_callV1 C (m_X2_thrown hfl (h := h) e12) cf_X2_thrown gL_law_X2_thrown ⟨Nat.le_of_ble_eq_true rfl, Nat.le_of_ble_eq_true rfl⟩ (q0 := 0) (As := []) (rest := []) (wl := wC g h1 h2 ++ (wB cyI h1 b1 ++ (wB cyI h2 b2 ++ wO cyJ z o_4))) (wr := []) (c2 := cells + 1) (s2 := slots + 6) rfl rfl rfl rfl rfl rfl (Nat.le_of_ble_eq_true rfl) rfl rfl ⟨(by show _ ≤ 601024; omega), (by show _ ≤ 7293034; omega)⟩ dL_law_763 766 rfl (ws2 := wC g h1 h2 ++ (wB cyI h1 b1 ++ (wB cyI h2 b2 ++ (wO cyJ z o_4 ++ wM cyI cyZ h w_9)))) rfl (st2 := [.int x11]) rfl ?_
  refine g_iload C dL_law_766 768 rfl 1 rfl ?_
  refine g_icmp_eq C dL_law_768 773 771 (by decide) rfl (fun c13 => ?_) (fun c13 => ?_)
  · have hf := ifp c13 hf
    refine g_iload C dL_law_773 775 rfl 1 rfl ?_
    refine g_if_ne C dL_law_775 790 778 (by decide) rfl (fun c14 => ?_) (fun c14 => ?_)
    · have hf := ifn c14 hf
      refine g_goto C dL_law_790 1466 (by decide) ?_
      refine g_lv [2, 3, 4, 5, 6] (lv' := [(0, .ref b), (1, .ref g), (2, .ref (h 0)), (3, .ref z), (4, .int l4)]) rfl ?_
      refine g_wide (c2 := cells + 170) (s2 := slots + 1027) (by omega) (by omega) ?_
      exact hK b1 b2 o_4 w_9 hf
    · have hf := ifp c14 hf
      refine g_aload_n C dL_law_778 779 rfl 5 rfl ?_
      refine g_iconst C dL_law_779 780 rfl ic_0 ?_
      obtain ⟨x16, e15, hf⟩ := bd1_s hf
      refine g_lald C 23 2 rfl rfl e15 dL_law_780 781 rfl ?_
      refine g_iload C dL_law_781 783 rfl 0 rfl ?_
      refine g_i2l C dL_law_783 784 rfl ?_
      refine g_lcmp C dL_law_784 785 rfl ?_
      refine g_if_eq C dL_law_785 790 788 (by decide) rfl (fun c17 => ?_) (fun c17 => ?_)
      · have hf := ifp c17 hf
        refine g_goto C dL_law_790 1466 (by decide) ?_
        refine g_lv [2, 3, 4, 5, 6] (lv' := [(0, .ref b), (1, .ref g), (2, .ref (h 0)), (3, .ref z), (4, .int l4)]) rfl ?_
        refine g_wide (c2 := cells + 170) (s2 := slots + 1027) (by omega) (by omega) ?_
        exact hK b1 b2 o_4 w_9 hf
      · have hf := ifn c17 hf
        refine g_iconst C dL_law_788 789 rfl ic_0 ?_
        exact absurd (Option.some.inj hf) (by decide)
  · have hf := ifn c13 hf
    refine g_iconst C dL_law_771 772 rfl ic_0 ?_
    exact absurd (Option.some.inj hf) (by decide)
set_option maxHeartbeats 4000000 in
set_option maxRecDepth 100000 in
theorem lawc_17 {p : Program} {l : Launch} {e : Env} {s : State} {m : MethodId} {args : Array Value} {below : List Frame} {meth : Method} {c : Code} {Q : State → Prop} {D : va_G} {cyI cyZ cyJ : ClassId} {A : Nat → Prop} {tb : List ExceptionTableEntry} (C : Cx ev_s p l s m args meth c cL_law 9 wsL_law RL D (ty3 cyI cyZ cyJ) A tb) (hfl : l.stackTraces = false) {b L : Nat} {xs : Nat → Int32} (hX : va_X b L xs s s.heap) (hbl : b < s.heap.size) (hbA : ¬ A b) {g z : Nat} {h1 h2 h : Nat → Nat} {l4 : Int32} {b1 b2 : S2} {o : Nat → Int64} {w : S2} {K : S2 → S2 → (Nat → Int64) → S2 → Option Int32} {cells slots : Nat} (hc1 : cells + 170 ≤ 601024) (hc2 : slots + 1027 ≤ 7293034) (hK : ∀ (b1 b2 : S2) (o : Nat → Int64) (w : S2), K b1 b2 o w = some 1 → Gq p l e room_1 s m args below meth c D A 9 Q (wC g h1 h2 ++ (wB cyI h1 b1 ++ (wB cyI h2 b2 ++ (wO cyJ z o ++ wM cyI cyZ h w)))) (cells + 170) (slots + 1027) 1466 [(0, .ref b), (1, .ref g), (2, .ref (h 0)), (3, .ref z), (4, .int l4)] []) (hf : L_law_C17 xs L K l4 b1 b2 o w = some 1) : Gq p l e room_1 s m args below meth c D A 9 Q (wC g h1 h2 ++ (wB cyI h1 b1 ++ (wB cyI h2 b2 ++ (wO cyJ z o ++ wM cyI cyZ h w)))) cells slots 793 [(0, .ref b), (1, .ref g), (2, .ref (h 0)), (3, .ref z), (4, .int l4)] [] := by
  unfold L_law_C17 at hf
  refine g_aload_n C dL_law_793 794 rfl 1 rfl ?_
  refine g_aload_n C dL_law_794 795 rfl 0 rfl ?_
  refine g_iload C dL_law_795 797 rfl 4 rfl ?_
  refine g_iconst C dL_law_797 798 rfl ic_1 ?_
  refine g_iadd C dL_law_798 799 rfl ?_
  obtain ⟨x2, e1, hf⟩ := bd1_s hf
  refine g_sld C hX hbl hbA e1 dL_law_799 800 rfl ?_
  refine g_aload_n C dL_law_800 801 rfl 3 rfl ?_
  obtain ⟨x3, o_4, e5, hf⟩ := bd2_s hf
  refine g_callSH1 C (m_L_lullabyOf hfl (g := g) (h1 := h1) (h2 := h2) (z := z) e5) cf_L_lullabyOf gL_law_L_lullabyOf ⟨Nat.le_of_ble_eq_true rfl, Nat.le_of_ble_eq_true rfl⟩ (As := [.ref g, .int x2, .ref z]) (rest := []) (wl := []) (wr := wM cyI cyZ h w) (c2 := cells + 1) (s2 := slots + 6) rfl rfl rfl (Nat.le_of_ble_eq_true rfl) rfl rfl ⟨(by show _ ≤ 601024; omega), (by show _ ≤ 7293034; omega)⟩ dL_law_801 804 rfl (ws2 := wC g h1 h2 ++ (wB cyI h1 b1 ++ (wB cyI h2 b2 ++ (wO cyJ z o_4 ++ wM cyI cyZ h w)))) rfl (st2 := [.int x3]) rfl ?_
  refine g_istore C dL_law_804 806 rfl (by decide) (lv' := [(5, .int x3), (0, .ref b), (1, .ref g), (2, .ref (h 0)), (3, .ref z), (4, .int l4)]) rfl ?_
  refine g_aload_n C dL_law_806 807 rfl 3 rfl ?_
  refine g_aload_n C dL_law_807 808 rfl 1 rfl ?_
  refine g_iload C dL_law_808 810 rfl 5 rfl ?_
  refine g_iconst C dL_law_810 811 rfl ic_1 ?_
  refine g_iadd C dL_law_811 812 rfl ?_
  obtain ⟨x7, e6, hf⟩ := bd1_s hf
  refine g_sld C hX hbl hbA e6 dL_law_812 813 rfl ?_
  obtain ⟨x8, w_9, e10, hf⟩ := bd2_s hf
  refine g_callV1 C (m_X2_lullabyOf hfl (h := h) e10) cf_X2_lullabyOf gL_law_X2_lullabyOf ⟨Nat.le_of_ble_eq_true rfl, Nat.le_of_ble_eq_true rfl⟩ (q0 := 0) (As := [.int x7]) (rest := []) (wl := wC g h1 h2 ++ (wB cyI h1 b1 ++ (wB cyI h2 b2 ++ wO cyJ z o_4))) (wr := []) (c2 := cells + 1) (s2 := slots + 6) rfl rfl rfl rfl rfl rfl (Nat.le_of_ble_eq_true rfl) rfl rfl ⟨(by show _ ≤ 601024; omega), (by show _ ≤ 7293034; omega)⟩ dL_law_813 816 rfl (ws2 := wC g h1 h2 ++ (wB cyI h1 b1 ++ (wB cyI h2 b2 ++ (wO cyJ z o_4 ++ wM cyI cyZ h w_9)))) rfl (st2 := [.int x8]) rfl ?_
  refine g_istore C dL_law_816 818 rfl (by decide) (lv' := [(6, .int x8), (5, .int x3), (0, .ref b), (1, .ref g), (2, .ref (h 0)), (3, .ref z), (4, .int l4)]) rfl ?_
  refine g_aload_n C dL_law_818 819 rfl 4 rfl ?_
  obtain ⟨x11, e12, hf⟩ := bd1_s hf
  refine g_callV1 C (m_X2_thrown hfl (h := h) e12) cf_X2_thrown gL_law_X2_thrown ⟨Nat.le_of_ble_eq_true rfl, Nat.le_of_ble_eq_true rfl⟩ (q0 := 0) (As := []) (rest := []) (wl := wC g h1 h2 ++ (wB cyI h1 b1 ++ (wB cyI h2 b2 ++ wO cyJ z o_4))) (wr := []) (c2 := cells + 1) (s2 := slots + 6) rfl rfl rfl rfl rfl rfl (Nat.le_of_ble_eq_true rfl) rfl rfl ⟨(by show _ ≤ 601024; omega), (by show _ ≤ 7293034; omega)⟩ dL_law_819 822 rfl (ws2 := wC g h1 h2 ++ (wB cyI h1 b1 ++ (wB cyI h2 b2 ++ (wO cyJ z o_4 ++ wM cyI cyZ h w_9)))) rfl (st2 := [.int x11]) rfl ?_
  refine g_iload C dL_law_822 824 rfl 1 rfl ?_
  refine g_icmp_eq C dL_law_824 829 827 (by decide) rfl (fun c13 => ?_) (fun c13 => ?_)
  · have hf := ifp c13 hf
    refine g_iload C dL_law_829 831 rfl 1 rfl ?_
    refine g_if_ne C dL_law_831 846 834 (by decide) rfl (fun c14 => ?_) (fun c14 => ?_)
    · have hf := ifn c14 hf
      refine g_goto C dL_law_846 1466 (by decide) ?_
      refine g_lv [2, 3, 4, 5, 6] (lv' := [(0, .ref b), (1, .ref g), (2, .ref (h 0)), (3, .ref z), (4, .int l4)]) rfl ?_
      refine g_wide (c2 := cells + 170) (s2 := slots + 1027) (by omega) (by omega) ?_
      exact hK b1 b2 o_4 w_9 hf
    · have hf := ifp c14 hf
      refine g_aload_n C dL_law_834 835 rfl 5 rfl ?_
      refine g_iconst C dL_law_835 836 rfl ic_0 ?_
      obtain ⟨x16, e15, hf⟩ := bd1_s hf
      refine g_lald C 23 2 rfl rfl e15 dL_law_836 837 rfl ?_
      refine g_iload C dL_law_837 839 rfl 0 rfl ?_
      refine g_i2l C dL_law_839 840 rfl ?_
      refine g_lcmp C dL_law_840 841 rfl ?_
      refine g_if_eq C dL_law_841 846 844 (by decide) rfl (fun c17 => ?_) (fun c17 => ?_)
      · have hf := ifp c17 hf
        refine g_goto C dL_law_846 1466 (by decide) ?_
        refine g_lv [2, 3, 4, 5, 6] (lv' := [(0, .ref b), (1, .ref g), (2, .ref (h 0)), (3, .ref z), (4, .int l4)]) rfl ?_
        refine g_wide (c2 := cells + 170) (s2 := slots + 1027) (by omega) (by omega) ?_
        exact hK b1 b2 o_4 w_9 hf
      · have hf := ifn c17 hf
        refine g_iconst C dL_law_844 845 rfl ic_0 ?_
        exact absurd (Option.some.inj hf) (by decide)
  · have hf := ifn c13 hf
    refine g_iconst C dL_law_827 828 rfl ic_0 ?_
    exact absurd (Option.some.inj hf) (by decide)
set_option maxHeartbeats 4000000 in
set_option maxRecDepth 100000 in
theorem lawc_18 {p : Program} {l : Launch} {e : Env} {s : State} {m : MethodId} {args : Array Value} {below : List Frame} {meth : Method} {c : Code} {Q : State → Prop} {D : va_G} {cyI cyZ cyJ : ClassId} {A : Nat → Prop} {tb : List ExceptionTableEntry} (C : Cx ev_s p l s m args meth c cL_law 9 wsL_law RL D (ty3 cyI cyZ cyJ) A tb) (hfl : l.stackTraces = false) {b L : Nat} {xs : Nat → Int32} (hX : va_X b L xs s s.heap) (hbl : b < s.heap.size) (hbA : ¬ A b) {g z : Nat} {h1 h2 h : Nat → Nat} {l4 : Int32} {b1 b2 : S2} {o : Nat → Int64} {w : S2} {K : S2 → S2 → (Nat → Int64) → S2 → Option Int32} {cells slots : Nat} (hc1 : cells + 170 ≤ 601024) (hc2 : slots + 1027 ≤ 7293034) (hK : ∀ (b1 b2 : S2) (o : Nat → Int64) (w : S2), K b1 b2 o w = some 1 → Gq p l e room_1 s m args below meth c D A 9 Q (wC g h1 h2 ++ (wB cyI h1 b1 ++ (wB cyI h2 b2 ++ (wO cyJ z o ++ wM cyI cyZ h w)))) (cells + 170) (slots + 1027) 1466 [(0, .ref b), (1, .ref g), (2, .ref (h 0)), (3, .ref z), (4, .int l4)] []) (hf : L_law_C18 xs L K l4 b1 b2 o w = some 1) : Gq p l e room_1 s m args below meth c D A 9 Q (wC g h1 h2 ++ (wB cyI h1 b1 ++ (wB cyI h2 b2 ++ (wO cyJ z o ++ wM cyI cyZ h w)))) cells slots 849 [(0, .ref b), (1, .ref g), (2, .ref (h 0)), (3, .ref z), (4, .int l4)] [] := by
  unfold L_law_C18 at hf
  refine g_aload_n C dL_law_849 850 rfl 1 rfl ?_
  refine g_aload_n C dL_law_850 851 rfl 0 rfl ?_
  refine g_iload C dL_law_851 853 rfl 4 rfl ?_
  refine g_iconst C dL_law_853 854 rfl ic_1 ?_
  refine g_iadd C dL_law_854 855 rfl ?_
  obtain ⟨x2, e1, hf⟩ := bd1_s hf
  refine g_sld C hX hbl hbA e1 dL_law_855 856 rfl ?_
  refine g_aload_n C dL_law_856 857 rfl 3 rfl ?_
  obtain ⟨x3, o_4, e5, hf⟩ := bd2_s hf
  refine g_callSH1 C (m_L_placeInLine hfl (g := g) (h1 := h1) (h2 := h2) (z := z) e5) cf_L_placeInLine gL_law_L_placeInLine ⟨Nat.le_of_ble_eq_true rfl, Nat.le_of_ble_eq_true rfl⟩ (As := [.ref g, .int x2, .ref z]) (rest := []) (wl := []) (wr := wM cyI cyZ h w) (c2 := cells + 1) (s2 := slots + 6) rfl rfl rfl (Nat.le_of_ble_eq_true rfl) rfl rfl ⟨(by show _ ≤ 601024; omega), (by show _ ≤ 7293034; omega)⟩ dL_law_857 860 rfl (ws2 := wC g h1 h2 ++ (wB cyI h1 b1 ++ (wB cyI h2 b2 ++ (wO cyJ z o_4 ++ wM cyI cyZ h w)))) rfl (st2 := [.int x3]) rfl ?_
  refine g_istore C dL_law_860 862 rfl (by decide) (lv' := [(5, .int x3), (0, .ref b), (1, .ref g), (2, .ref (h 0)), (3, .ref z), (4, .int l4)]) rfl ?_
  refine g_aload_n C dL_law_862 863 rfl 3 rfl ?_
  refine g_aload_n C dL_law_863 864 rfl 1 rfl ?_
  refine g_iload C dL_law_864 866 rfl 5 rfl ?_
  refine g_iconst C dL_law_866 867 rfl ic_1 ?_
  refine g_iadd C dL_law_867 868 rfl ?_
  obtain ⟨x7, e6, hf⟩ := bd1_s hf
  refine g_sld C hX hbl hbA e6 dL_law_868 869 rfl ?_
  obtain ⟨x8, w_9, e10, hf⟩ := bd2_s hf
  refine g_callV1 C (m_X2_placeInLine hfl (h := h) e10) cf_X2_placeInLine gL_law_X2_placeInLine ⟨Nat.le_of_ble_eq_true rfl, Nat.le_of_ble_eq_true rfl⟩ (q0 := 0) (As := [.int x7]) (rest := []) (wl := wC g h1 h2 ++ (wB cyI h1 b1 ++ (wB cyI h2 b2 ++ wO cyJ z o_4))) (wr := []) (c2 := cells + 1) (s2 := slots + 6) rfl rfl rfl rfl rfl rfl (Nat.le_of_ble_eq_true rfl) rfl rfl ⟨(by show _ ≤ 601024; omega), (by show _ ≤ 7293034; omega)⟩ dL_law_869 872 rfl (ws2 := wC g h1 h2 ++ (wB cyI h1 b1 ++ (wB cyI h2 b2 ++ (wO cyJ z o_4 ++ wM cyI cyZ h w_9)))) rfl (st2 := [.int x8]) rfl ?_
  refine g_istore C dL_law_872 874 rfl (by decide) (lv' := [(6, .int x8), (5, .int x3), (0, .ref b), (1, .ref g), (2, .ref (h 0)), (3, .ref z), (4, .int l4)]) rfl ?_
  refine g_aload_n C dL_law_874 875 rfl 4 rfl ?_
  obtain ⟨x11, e12, hf⟩ := bd1_s hf
  refine g_callV1 C (m_X2_thrown hfl (h := h) e12) cf_X2_thrown gL_law_X2_thrown ⟨Nat.le_of_ble_eq_true rfl, Nat.le_of_ble_eq_true rfl⟩ (q0 := 0) (As := []) (rest := []) (wl := wC g h1 h2 ++ (wB cyI h1 b1 ++ (wB cyI h2 b2 ++ wO cyJ z o_4))) (wr := []) (c2 := cells + 1) (s2 := slots + 6) rfl rfl rfl rfl rfl rfl (Nat.le_of_ble_eq_true rfl) rfl rfl ⟨(by show _ ≤ 601024; omega), (by show _ ≤ 7293034; omega)⟩ dL_law_875 878 rfl (ws2 := wC g h1 h2 ++ (wB cyI h1 b1 ++ (wB cyI h2 b2 ++ (wO cyJ z o_4 ++ wM cyI cyZ h w_9)))) rfl (st2 := [.int x11]) rfl ?_
  refine g_iload C dL_law_878 880 rfl 1 rfl ?_
  refine g_icmp_eq C dL_law_880 885 883 (by decide) rfl (fun c13 => ?_) (fun c13 => ?_)
  · have hf := ifp c13 hf
    refine g_iload C dL_law_885 887 rfl 1 rfl ?_
    refine g_if_ne C dL_law_887 902 890 (by decide) rfl (fun c14 => ?_) (fun c14 => ?_)
    · have hf := ifn c14 hf
      refine g_goto C dL_law_902 1466 (by decide) ?_
      refine g_lv [2, 3, 4, 5, 6] (lv' := [(0, .ref b), (1, .ref g), (2, .ref (h 0)), (3, .ref z), (4, .int l4)]) rfl ?_
      refine g_wide (c2 := cells + 170) (s2 := slots + 1027) (by omega) (by omega) ?_
      exact hK b1 b2 o_4 w_9 hf
    · have hf := ifp c14 hf
      refine g_aload_n C dL_law_890 891 rfl 5 rfl ?_
      refine g_iconst C dL_law_891 892 rfl ic_0 ?_
      obtain ⟨x16, e15, hf⟩ := bd1_s hf
      refine g_lald C 23 2 rfl rfl e15 dL_law_892 893 rfl ?_
      refine g_iload C dL_law_893 895 rfl 0 rfl ?_
      refine g_i2l C dL_law_895 896 rfl ?_
      refine g_lcmp C dL_law_896 897 rfl ?_
      refine g_if_eq C dL_law_897 902 900 (by decide) rfl (fun c17 => ?_) (fun c17 => ?_)
      · have hf := ifp c17 hf
        refine g_goto C dL_law_902 1466 (by decide) ?_
        refine g_lv [2, 3, 4, 5, 6] (lv' := [(0, .ref b), (1, .ref g), (2, .ref (h 0)), (3, .ref z), (4, .int l4)]) rfl ?_
        refine g_wide (c2 := cells + 170) (s2 := slots + 1027) (by omega) (by omega) ?_
        exact hK b1 b2 o_4 w_9 hf
      · have hf := ifn c17 hf
        refine g_iconst C dL_law_900 901 rfl ic_0 ?_
        exact absurd (Option.some.inj hf) (by decide)
  · have hf := ifn c13 hf
    refine g_iconst C dL_law_883 884 rfl ic_0 ?_
    exact absurd (Option.some.inj hf) (by decide)
set_option maxHeartbeats 4000000 in
set_option maxRecDepth 100000 in
theorem lawc_19 {p : Program} {l : Launch} {e : Env} {s : State} {m : MethodId} {args : Array Value} {below : List Frame} {meth : Method} {c : Code} {Q : State → Prop} {D : va_G} {cyI cyZ cyJ : ClassId} {A : Nat → Prop} {tb : List ExceptionTableEntry} (C : Cx ev_s p l s m args meth c cL_law 9 wsL_law RL D (ty3 cyI cyZ cyJ) A tb) (hfl : l.stackTraces = false) {b L : Nat} {xs : Nat → Int32} (hX : va_X b L xs s s.heap) (hbl : b < s.heap.size) (hbA : ¬ A b) {g z : Nat} {h1 h2 h : Nat → Nat} {l4 : Int32} {b1 b2 : S2} {o : Nat → Int64} {w : S2} {K : S2 → S2 → (Nat → Int64) → S2 → Option Int32} {cells slots : Nat} (hc1 : cells + 170 ≤ 601024) (hc2 : slots + 1027 ≤ 7293034) (hK : ∀ (b1 b2 : S2) (o : Nat → Int64) (w : S2), K b1 b2 o w = some 1 → Gq p l e room_1 s m args below meth c D A 9 Q (wC g h1 h2 ++ (wB cyI h1 b1 ++ (wB cyI h2 b2 ++ (wO cyJ z o ++ wM cyI cyZ h w)))) (cells + 170) (slots + 1027) 1466 [(0, .ref b), (1, .ref g), (2, .ref (h 0)), (3, .ref z), (4, .int l4)] []) (hf : L_law_C19 xs L K l4 b1 b2 o w = some 1) : Gq p l e room_1 s m args below meth c D A 9 Q (wC g h1 h2 ++ (wB cyI h1 b1 ++ (wB cyI h2 b2 ++ (wO cyJ z o ++ wM cyI cyZ h w)))) cells slots 905 [(0, .ref b), (1, .ref g), (2, .ref (h 0)), (3, .ref z), (4, .int l4)] [] := by
  unfold L_law_C19 at hf
  refine g_aload_n C dL_law_905 906 rfl 1 rfl ?_
  refine g_aload_n C dL_law_906 907 rfl 0 rfl ?_
  refine g_iload C dL_law_907 909 rfl 4 rfl ?_
  refine g_iconst C dL_law_909 910 rfl ic_1 ?_
  refine g_iadd C dL_law_910 911 rfl ?_
  obtain ⟨x2, e1, hf⟩ := bd1_s hf
  refine g_sld C hX hbl hbA e1 dL_law_911 912 rfl ?_
  refine g_aload_n C dL_law_912 913 rfl 3 rfl ?_
  obtain ⟨x3, o_4, e5, hf⟩ := bd2_s hf
  refine g_callSH1 C (m_L_searchTime hfl (g := g) (h1 := h1) (h2 := h2) (z := z) e5) cf_L_searchTime gL_law_L_searchTime ⟨Nat.le_of_ble_eq_true rfl, Nat.le_of_ble_eq_true rfl⟩ (As := [.ref g, .int x2, .ref z]) (rest := []) (wl := []) (wr := wM cyI cyZ h w) (c2 := cells + 1) (s2 := slots + 6) rfl rfl rfl (Nat.le_of_ble_eq_true rfl) rfl rfl ⟨(by show _ ≤ 601024; omega), (by show _ ≤ 7293034; omega)⟩ dL_law_913 916 rfl (ws2 := wC g h1 h2 ++ (wB cyI h1 b1 ++ (wB cyI h2 b2 ++ (wO cyJ z o_4 ++ wM cyI cyZ h w)))) rfl (st2 := [.int x3]) rfl ?_
  refine g_istore C dL_law_916 918 rfl (by decide) (lv' := [(5, .int x3), (0, .ref b), (1, .ref g), (2, .ref (h 0)), (3, .ref z), (4, .int l4)]) rfl ?_
  refine g_aload_n C dL_law_918 919 rfl 3 rfl ?_
  refine g_aload_n C dL_law_919 920 rfl 1 rfl ?_
  refine g_iload C dL_law_920 922 rfl 5 rfl ?_
  refine g_iconst C dL_law_922 923 rfl ic_1 ?_
  refine g_iadd C dL_law_923 924 rfl ?_
  obtain ⟨x7, e6, hf⟩ := bd1_s hf
  refine g_sld C hX hbl hbA e6 dL_law_924 925 rfl ?_
  obtain ⟨x8, w_9, e10, hf⟩ := bd2_s hf
  refine g_callV1 C (m_X2_searchTime hfl (h := h) e10) cf_X2_searchTime gL_law_X2_searchTime ⟨Nat.le_of_ble_eq_true rfl, Nat.le_of_ble_eq_true rfl⟩ (q0 := 0) (As := [.int x7]) (rest := []) (wl := wC g h1 h2 ++ (wB cyI h1 b1 ++ (wB cyI h2 b2 ++ wO cyJ z o_4))) (wr := []) (c2 := cells + 1) (s2 := slots + 6) rfl rfl rfl rfl rfl rfl (Nat.le_of_ble_eq_true rfl) rfl rfl ⟨(by show _ ≤ 601024; omega), (by show _ ≤ 7293034; omega)⟩ dL_law_925 928 rfl (ws2 := wC g h1 h2 ++ (wB cyI h1 b1 ++ (wB cyI h2 b2 ++ (wO cyJ z o_4 ++ wM cyI cyZ h w_9)))) rfl (st2 := [.int x8]) rfl ?_
  refine g_istore C dL_law_928 930 rfl (by decide) (lv' := [(6, .int x8), (5, .int x3), (0, .ref b), (1, .ref g), (2, .ref (h 0)), (3, .ref z), (4, .int l4)]) rfl ?_
  refine g_aload_n C dL_law_930 931 rfl 4 rfl ?_
  obtain ⟨x11, e12, hf⟩ := bd1_s hf
  refine g_callV1 C (m_X2_thrown hfl (h := h) e12) cf_X2_thrown gL_law_X2_thrown ⟨Nat.le_of_ble_eq_true rfl, Nat.le_of_ble_eq_true rfl⟩ (q0 := 0) (As := []) (rest := []) (wl := wC g h1 h2 ++ (wB cyI h1 b1 ++ (wB cyI h2 b2 ++ wO cyJ z o_4))) (wr := []) (c2 := cells + 1) (s2 := slots + 6) rfl rfl rfl rfl rfl rfl (Nat.le_of_ble_eq_true rfl) rfl rfl ⟨(by show _ ≤ 601024; omega), (by show _ ≤ 7293034; omega)⟩ dL_law_931 934 rfl (ws2 := wC g h1 h2 ++ (wB cyI h1 b1 ++ (wB cyI h2 b2 ++ (wO cyJ z o_4 ++ wM cyI cyZ h w_9)))) rfl (st2 := [.int x11]) rfl ?_
  refine g_iload C dL_law_934 936 rfl 1 rfl ?_
  refine g_icmp_eq C dL_law_936 941 939 (by decide) rfl (fun c13 => ?_) (fun c13 => ?_)
  · have hf := ifp c13 hf
    refine g_iload C dL_law_941 943 rfl 1 rfl ?_
    refine g_if_ne C dL_law_943 958 946 (by decide) rfl (fun c14 => ?_) (fun c14 => ?_)
    · have hf := ifn c14 hf
      refine g_goto C dL_law_958 1466 (by decide) ?_
      refine g_lv [2, 3, 4, 5, 6] (lv' := [(0, .ref b), (1, .ref g), (2, .ref (h 0)), (3, .ref z), (4, .int l4)]) rfl ?_
      refine g_wide (c2 := cells + 170) (s2 := slots + 1027) (by omega) (by omega) ?_
      exact hK b1 b2 o_4 w_9 hf
    · have hf := ifp c14 hf
      refine g_aload_n C dL_law_946 947 rfl 5 rfl ?_
      refine g_iconst C dL_law_947 948 rfl ic_0 ?_
      obtain ⟨x16, e15, hf⟩ := bd1_s hf
      refine g_lald C 23 2 rfl rfl e15 dL_law_948 949 rfl ?_
      refine g_iload C dL_law_949 951 rfl 0 rfl ?_
      refine g_i2l C dL_law_951 952 rfl ?_
      refine g_lcmp C dL_law_952 953 rfl ?_
      refine g_if_eq C dL_law_953 958 956 (by decide) rfl (fun c17 => ?_) (fun c17 => ?_)
      · have hf := ifp c17 hf
        refine g_goto C dL_law_958 1466 (by decide) ?_
        refine g_lv [2, 3, 4, 5, 6] (lv' := [(0, .ref b), (1, .ref g), (2, .ref (h 0)), (3, .ref z), (4, .int l4)]) rfl ?_
        refine g_wide (c2 := cells + 170) (s2 := slots + 1027) (by omega) (by omega) ?_
        exact hK b1 b2 o_4 w_9 hf
      · have hf := ifn c17 hf
        refine g_iconst C dL_law_956 957 rfl ic_0 ?_
        exact absurd (Option.some.inj hf) (by decide)
  · have hf := ifn c13 hf
    refine g_iconst C dL_law_939 940 rfl ic_0 ?_
    exact absurd (Option.some.inj hf) (by decide)
set_option maxHeartbeats 4000000 in
set_option maxRecDepth 100000 in
theorem lawc_20 {p : Program} {l : Launch} {e : Env} {s : State} {m : MethodId} {args : Array Value} {below : List Frame} {meth : Method} {c : Code} {Q : State → Prop} {D : va_G} {cyI cyZ cyJ : ClassId} {A : Nat → Prop} {tb : List ExceptionTableEntry} (C : Cx ev_s p l s m args meth c cL_law 9 wsL_law RL D (ty3 cyI cyZ cyJ) A tb) (hfl : l.stackTraces = false) {b L : Nat} {xs : Nat → Int32} (hX : va_X b L xs s s.heap) (hbl : b < s.heap.size) (hbA : ¬ A b) {g z : Nat} {h1 h2 h : Nat → Nat} {l4 : Int32} {b1 b2 : S2} {o : Nat → Int64} {w : S2} {K : S2 → S2 → (Nat → Int64) → S2 → Option Int32} {cells slots : Nat} (hc1 : cells + 170 ≤ 601024) (hc2 : slots + 1027 ≤ 7293034) (hK : ∀ (b1 b2 : S2) (o : Nat → Int64) (w : S2), K b1 b2 o w = some 1 → Gq p l e room_1 s m args below meth c D A 9 Q (wC g h1 h2 ++ (wB cyI h1 b1 ++ (wB cyI h2 b2 ++ (wO cyJ z o ++ wM cyI cyZ h w)))) (cells + 170) (slots + 1027) 1466 [(0, .ref b), (1, .ref g), (2, .ref (h 0)), (3, .ref z), (4, .int l4)] []) (hf : L_law_C20 xs L K l4 b1 b2 o w = some 1) : Gq p l e room_1 s m args below meth c D A 9 Q (wC g h1 h2 ++ (wB cyI h1 b1 ++ (wB cyI h2 b2 ++ (wO cyJ z o ++ wM cyI cyZ h w)))) cells slots 961 [(0, .ref b), (1, .ref g), (2, .ref (h 0)), (3, .ref z), (4, .int l4)] [] := by
  unfold L_law_C20 at hf
  refine g_aload_n C dL_law_961 962 rfl 1 rfl ?_
  obtain ⟨x1, e2, hf⟩ := bd1_s hf
  refine g_callV1 C (m_X1_guards hfl (g := g) (h1 := h1) (h2 := h2) e2) cf_X1_guards gL_law_X1_guards ⟨Nat.le_of_ble_eq_true rfl, Nat.le_of_ble_eq_true rfl⟩ (q0 := 0) (As := []) (rest := []) (wl := []) (wr := wO cyJ z o ++ wM cyI cyZ h w) (c2 := cells) (s2 := slots) rfl rfl rfl rfl rfl rfl (Nat.le_of_ble_eq_true rfl) rfl rfl ⟨(by show _ ≤ 601024; omega), (by show _ ≤ 7293034; omega)⟩ dL_law_962 965 rfl (ws2 := wC g h1 h2 ++ (wB cyI h1 b1 ++ (wB cyI h2 b2 ++ (wO cyJ z o ++ wM cyI cyZ h w)))) rfl (st2 := [.int x1]) rfl ?_
  refine g_aload_n C dL_law_965 966 rfl 2 rfl ?_
  obtain ⟨x3, w_4, e5, hf⟩ := bd2_s hf
  refine g_callV1 C (m_X2_guards hfl (h := h) e5) cf_X2_guards gL_law_X2_guards ⟨Nat.le_of_ble_eq_true rfl, Nat.le_of_ble_eq_true rfl⟩ (q0 := 0) (As := []) (rest := [.int x1]) (wl := wC g h1 h2 ++ (wB cyI h1 b1 ++ (wB cyI h2 b2 ++ wO cyJ z o))) (wr := []) (c2 := cells) (s2 := slots) rfl rfl rfl rfl rfl rfl (Nat.le_of_ble_eq_true rfl) rfl rfl ⟨(by show _ ≤ 601024; omega), (by show _ ≤ 7293034; omega)⟩ dL_law_966 969 rfl (ws2 := wC g h1 h2 ++ (wB cyI h1 b1 ++ (wB cyI h2 b2 ++ (wO cyJ z o ++ wM cyI cyZ h w_4)))) rfl (st2 := [.int x3, .int x1]) rfl ?_
  refine g_icmp_eq C dL_law_969 1466 972 (by decide) rfl (fun c6 => ?_) (fun c6 => ?_)
  · have hf := ifp c6 hf
    refine g_wide (c2 := cells + 170) (s2 := slots + 1027) (by omega) (by omega) ?_
    exact hK b1 b2 o w_4 hf
  · have hf := ifn c6 hf
    refine g_iconst C dL_law_972 973 rfl ic_0 ?_
    exact absurd (Option.some.inj hf) (by decide)
set_option maxHeartbeats 4000000 in
set_option maxRecDepth 100000 in
theorem lawc_21 {p : Program} {l : Launch} {e : Env} {s : State} {m : MethodId} {args : Array Value} {below : List Frame} {meth : Method} {c : Code} {Q : State → Prop} {D : va_G} {cyI cyZ cyJ : ClassId} {A : Nat → Prop} {tb : List ExceptionTableEntry} (C : Cx ev_s p l s m args meth c cL_law 9 wsL_law RL D (ty3 cyI cyZ cyJ) A tb) (hfl : l.stackTraces = false) {b L : Nat} {xs : Nat → Int32} (hX : va_X b L xs s s.heap) (hbl : b < s.heap.size) (hbA : ¬ A b) {g z : Nat} {h1 h2 h : Nat → Nat} {l4 : Int32} {b1 b2 : S2} {o : Nat → Int64} {w : S2} {K : S2 → S2 → (Nat → Int64) → S2 → Option Int32} {cells slots : Nat} (hc1 : cells + 170 ≤ 601024) (hc2 : slots + 1027 ≤ 7293034) (hK : ∀ (b1 b2 : S2) (o : Nat → Int64) (w : S2), K b1 b2 o w = some 1 → Gq p l e room_1 s m args below meth c D A 9 Q (wC g h1 h2 ++ (wB cyI h1 b1 ++ (wB cyI h2 b2 ++ (wO cyJ z o ++ wM cyI cyZ h w)))) (cells + 170) (slots + 1027) 1466 [(0, .ref b), (1, .ref g), (2, .ref (h 0)), (3, .ref z), (4, .int l4)] []) (hf : L_law_C21 xs L K l4 b1 b2 o w = some 1) : Gq p l e room_1 s m args below meth c D A 9 Q (wC g h1 h2 ++ (wB cyI h1 b1 ++ (wB cyI h2 b2 ++ (wO cyJ z o ++ wM cyI cyZ h w)))) cells slots 974 [(0, .ref b), (1, .ref g), (2, .ref (h 0)), (3, .ref z), (4, .int l4)] [] := by
  unfold L_law_C21 at hf
  refine g_aload_n C dL_law_974 975 rfl 1 rfl ?_
  refine g_aload_n C dL_law_975 976 rfl 0 rfl ?_
  refine g_iload C dL_law_976 978 rfl 4 rfl ?_
  refine g_iconst C dL_law_978 979 rfl ic_1 ?_
  refine g_iadd C dL_law_979 980 rfl ?_
  obtain ⟨x2, e1, hf⟩ := bd1_s hf
  refine g_sld C hX hbl hbA e1 dL_law_980 981 rfl ?_
  refine g_aload_n C dL_law_981 982 rfl 3 rfl ?_
  obtain ⟨x3, o_4, e5, hf⟩ := bd2_s hf
  refine g_callSH1 C (m_L_alertnessOf hfl (g := g) (h1 := h1) (h2 := h2) (z := z) e5) cf_L_alertnessOf gL_law_L_alertnessOf ⟨Nat.le_of_ble_eq_true rfl, Nat.le_of_ble_eq_true rfl⟩ (As := [.ref g, .int x2, .ref z]) (rest := []) (wl := []) (wr := wM cyI cyZ h w) (c2 := cells + 1) (s2 := slots + 6) rfl rfl rfl (Nat.le_of_ble_eq_true rfl) rfl rfl ⟨(by show _ ≤ 601024; omega), (by show _ ≤ 7293034; omega)⟩ dL_law_982 985 rfl (ws2 := wC g h1 h2 ++ (wB cyI h1 b1 ++ (wB cyI h2 b2 ++ (wO cyJ z o_4 ++ wM cyI cyZ h w)))) rfl (st2 := [.int x3]) rfl ?_
  refine g_istore C dL_law_985 987 rfl (by decide) (lv' := [(5, .int x3), (0, .ref b), (1, .ref g), (2, .ref (h 0)), (3, .ref z), (4, .int l4)]) rfl ?_
  refine g_aload_n C dL_law_987 988 rfl 3 rfl ?_
  refine g_aload_n C dL_law_988 989 rfl 1 rfl ?_
  refine g_iload C dL_law_989 991 rfl 5 rfl ?_
  refine g_iconst C dL_law_991 992 rfl ic_1 ?_
  refine g_iadd C dL_law_992 993 rfl ?_
  obtain ⟨x7, e6, hf⟩ := bd1_s hf
  refine g_sld C hX hbl hbA e6 dL_law_993 994 rfl ?_
  obtain ⟨x8, w_9, e10, hf⟩ := bd2_s hf
  refine g_callV1 C (m_X2_alertnessOf hfl (h := h) e10) cf_X2_alertnessOf gL_law_X2_alertnessOf ⟨Nat.le_of_ble_eq_true rfl, Nat.le_of_ble_eq_true rfl⟩ (q0 := 0) (As := [.int x7]) (rest := []) (wl := wC g h1 h2 ++ (wB cyI h1 b1 ++ (wB cyI h2 b2 ++ wO cyJ z o_4))) (wr := []) (c2 := cells + 1) (s2 := slots + 6) rfl rfl rfl rfl rfl rfl (Nat.le_of_ble_eq_true rfl) rfl rfl ⟨(by show _ ≤ 601024; omega), (by show _ ≤ 7293034; omega)⟩ dL_law_994 997 rfl (ws2 := wC g h1 h2 ++ (wB cyI h1 b1 ++ (wB cyI h2 b2 ++ (wO cyJ z o_4 ++ wM cyI cyZ h w_9)))) rfl (st2 := [.int x8]) rfl ?_
  refine g_istore C dL_law_997 999 rfl (by decide) (lv' := [(6, .int x8), (5, .int x3), (0, .ref b), (1, .ref g), (2, .ref (h 0)), (3, .ref z), (4, .int l4)]) rfl ?_
  refine g_aload_n C dL_law_999 1000 rfl 4 rfl ?_
  obtain ⟨x11, e12, hf⟩ := bd1_s hf
  refine g_callV1 C (m_X2_thrown hfl (h := h) e12) cf_X2_thrown gL_law_X2_thrown ⟨Nat.le_of_ble_eq_true rfl, Nat.le_of_ble_eq_true rfl⟩ (q0 := 0) (As := []) (rest := []) (wl := wC g h1 h2 ++ (wB cyI h1 b1 ++ (wB cyI h2 b2 ++ wO cyJ z o_4))) (wr := []) (c2 := cells + 1) (s2 := slots + 6) rfl rfl rfl rfl rfl rfl (Nat.le_of_ble_eq_true rfl) rfl rfl ⟨(by show _ ≤ 601024; omega), (by show _ ≤ 7293034; omega)⟩ dL_law_1000 1003 rfl (ws2 := wC g h1 h2 ++ (wB cyI h1 b1 ++ (wB cyI h2 b2 ++ (wO cyJ z o_4 ++ wM cyI cyZ h w_9)))) rfl (st2 := [.int x11]) rfl ?_
  refine g_iload C dL_law_1003 1005 rfl 1 rfl ?_
  refine g_icmp_eq C dL_law_1005 1010 1008 (by decide) rfl (fun c13 => ?_) (fun c13 => ?_)
  · have hf := ifp c13 hf
    refine g_iload C dL_law_1010 1012 rfl 1 rfl ?_
    refine g_if_ne C dL_law_1012 1027 1015 (by decide) rfl (fun c14 => ?_) (fun c14 => ?_)
    · have hf := ifn c14 hf
      refine g_goto C dL_law_1027 1466 (by decide) ?_
      refine g_lv [2, 3, 4, 5, 6] (lv' := [(0, .ref b), (1, .ref g), (2, .ref (h 0)), (3, .ref z), (4, .int l4)]) rfl ?_
      refine g_wide (c2 := cells + 170) (s2 := slots + 1027) (by omega) (by omega) ?_
      exact hK b1 b2 o_4 w_9 hf
    · have hf := ifp c14 hf
      refine g_aload_n C dL_law_1015 1016 rfl 5 rfl ?_
      refine g_iconst C dL_law_1016 1017 rfl ic_0 ?_
      obtain ⟨x16, e15, hf⟩ := bd1_s hf
      refine g_lald C 23 2 rfl rfl e15 dL_law_1017 1018 rfl ?_
      refine g_iload C dL_law_1018 1020 rfl 0 rfl ?_
      refine g_i2l C dL_law_1020 1021 rfl ?_
      refine g_lcmp C dL_law_1021 1022 rfl ?_
      refine g_if_eq C dL_law_1022 1027 1025 (by decide) rfl (fun c17 => ?_) (fun c17 => ?_)
      · have hf := ifp c17 hf
        refine g_goto C dL_law_1027 1466 (by decide) ?_
        refine g_lv [2, 3, 4, 5, 6] (lv' := [(0, .ref b), (1, .ref g), (2, .ref (h 0)), (3, .ref z), (4, .int l4)]) rfl ?_
        refine g_wide (c2 := cells + 170) (s2 := slots + 1027) (by omega) (by omega) ?_
        exact hK b1 b2 o_4 w_9 hf
      · have hf := ifn c17 hf
        refine g_iconst C dL_law_1025 1026 rfl ic_0 ?_
        exact absurd (Option.some.inj hf) (by decide)
  · have hf := ifn c13 hf
    refine g_iconst C dL_law_1008 1009 rfl ic_0 ?_
    exact absurd (Option.some.inj hf) (by decide)
set_option maxHeartbeats 4000000 in
set_option maxRecDepth 100000 in
theorem lawc_22 {p : Program} {l : Launch} {e : Env} {s : State} {m : MethodId} {args : Array Value} {below : List Frame} {meth : Method} {c : Code} {Q : State → Prop} {D : va_G} {cyI cyZ cyJ : ClassId} {A : Nat → Prop} {tb : List ExceptionTableEntry} (C : Cx ev_s p l s m args meth c cL_law 9 wsL_law RL D (ty3 cyI cyZ cyJ) A tb) (hfl : l.stackTraces = false) {b L : Nat} {xs : Nat → Int32} (hX : va_X b L xs s s.heap) (hbl : b < s.heap.size) (hbA : ¬ A b) {g z : Nat} {h1 h2 h : Nat → Nat} {l4 : Int32} {b1 b2 : S2} {o : Nat → Int64} {w : S2} {K : S2 → S2 → (Nat → Int64) → S2 → Option Int32} {cells slots : Nat} (hc1 : cells + 170 ≤ 601024) (hc2 : slots + 1027 ≤ 7293034) (hK : ∀ (b1 b2 : S2) (o : Nat → Int64) (w : S2), K b1 b2 o w = some 1 → Gq p l e room_1 s m args below meth c D A 9 Q (wC g h1 h2 ++ (wB cyI h1 b1 ++ (wB cyI h2 b2 ++ (wO cyJ z o ++ wM cyI cyZ h w)))) (cells + 170) (slots + 1027) 1466 [(0, .ref b), (1, .ref g), (2, .ref (h 0)), (3, .ref z), (4, .int l4)] []) (hf : L_law_C22 xs L K l4 b1 b2 o w = some 1) : Gq p l e room_1 s m args below meth c D A 9 Q (wC g h1 h2 ++ (wB cyI h1 b1 ++ (wB cyI h2 b2 ++ (wO cyJ z o ++ wM cyI cyZ h w)))) cells slots 1030 [(0, .ref b), (1, .ref g), (2, .ref (h 0)), (3, .ref z), (4, .int l4)] [] := by
  unfold L_law_C22 at hf
  refine g_aload_n C dL_law_1030 1031 rfl 1 rfl ?_
  refine g_aload_n C dL_law_1031 1032 rfl 0 rfl ?_
  refine g_iload C dL_law_1032 1034 rfl 4 rfl ?_
  refine g_iconst C dL_law_1034 1035 rfl ic_1 ?_
  refine g_iadd C dL_law_1035 1036 rfl ?_
  obtain ⟨x2, e1, hf⟩ := bd1_s hf
  refine g_sld C hX hbl hbA e1 dL_law_1036 1037 rfl ?_
  refine g_aload_n C dL_law_1037 1038 rfl 3 rfl ?_
  obtain ⟨x3, o_4, e5, hf⟩ := bd2_s hf
  refine g_callSH1 C (m_L_searches hfl (g := g) (h1 := h1) (h2 := h2) (z := z) e5) cf_L_searches gL_law_L_searches ⟨Nat.le_of_ble_eq_true rfl, Nat.le_of_ble_eq_true rfl⟩ (As := [.ref g, .int x2, .ref z]) (rest := []) (wl := []) (wr := wM cyI cyZ h w) (c2 := cells + 1) (s2 := slots + 6) rfl rfl rfl (Nat.le_of_ble_eq_true rfl) rfl rfl ⟨(by show _ ≤ 601024; omega), (by show _ ≤ 7293034; omega)⟩ dL_law_1038 1041 rfl (ws2 := wC g h1 h2 ++ (wB cyI h1 b1 ++ (wB cyI h2 b2 ++ (wO cyJ z o_4 ++ wM cyI cyZ h w)))) rfl (st2 := [.int x3]) rfl ?_
  refine g_istore C dL_law_1041 1043 rfl (by decide) (lv' := [(5, .int x3), (0, .ref b), (1, .ref g), (2, .ref (h 0)), (3, .ref z), (4, .int l4)]) rfl ?_
  refine g_aload_n C dL_law_1043 1044 rfl 3 rfl ?_
  refine g_aload_n C dL_law_1044 1045 rfl 1 rfl ?_
  refine g_iload C dL_law_1045 1047 rfl 5 rfl ?_
  refine g_iconst C dL_law_1047 1048 rfl ic_1 ?_
  refine g_iadd C dL_law_1048 1049 rfl ?_
  obtain ⟨x7, e6, hf⟩ := bd1_s hf
  refine g_sld C hX hbl hbA e6 dL_law_1049 1050 rfl ?_
  obtain ⟨x8, w_9, e10, hf⟩ := bd2_s hf
  refine g_callV1 C (m_X2_searches hfl (h := h) e10) cf_X2_searches gL_law_X2_searches ⟨Nat.le_of_ble_eq_true rfl, Nat.le_of_ble_eq_true rfl⟩ (q0 := 0) (As := [.int x7]) (rest := []) (wl := wC g h1 h2 ++ (wB cyI h1 b1 ++ (wB cyI h2 b2 ++ wO cyJ z o_4))) (wr := []) (c2 := cells + 1) (s2 := slots + 6) rfl rfl rfl rfl rfl rfl (Nat.le_of_ble_eq_true rfl) rfl rfl ⟨(by show _ ≤ 601024; omega), (by show _ ≤ 7293034; omega)⟩ dL_law_1050 1053 rfl (ws2 := wC g h1 h2 ++ (wB cyI h1 b1 ++ (wB cyI h2 b2 ++ (wO cyJ z o_4 ++ wM cyI cyZ h w_9)))) rfl (st2 := [.int x8]) rfl ?_
  refine g_istore C dL_law_1053 1055 rfl (by decide) (lv' := [(6, .int x8), (5, .int x3), (0, .ref b), (1, .ref g), (2, .ref (h 0)), (3, .ref z), (4, .int l4)]) rfl ?_
  refine g_aload_n C dL_law_1055 1056 rfl 4 rfl ?_
  obtain ⟨x11, e12, hf⟩ := bd1_s hf
  refine g_callV1 C (m_X2_thrown hfl (h := h) e12) cf_X2_thrown gL_law_X2_thrown ⟨Nat.le_of_ble_eq_true rfl, Nat.le_of_ble_eq_true rfl⟩ (q0 := 0) (As := []) (rest := []) (wl := wC g h1 h2 ++ (wB cyI h1 b1 ++ (wB cyI h2 b2 ++ wO cyJ z o_4))) (wr := []) (c2 := cells + 1) (s2 := slots + 6) rfl rfl rfl rfl rfl rfl (Nat.le_of_ble_eq_true rfl) rfl rfl ⟨(by show _ ≤ 601024; omega), (by show _ ≤ 7293034; omega)⟩ dL_law_1056 1059 rfl (ws2 := wC g h1 h2 ++ (wB cyI h1 b1 ++ (wB cyI h2 b2 ++ (wO cyJ z o_4 ++ wM cyI cyZ h w_9)))) rfl (st2 := [.int x11]) rfl ?_
  refine g_iload C dL_law_1059 1061 rfl 1 rfl ?_
  refine g_icmp_eq C dL_law_1061 1066 1064 (by decide) rfl (fun c13 => ?_) (fun c13 => ?_)
  · have hf := ifp c13 hf
    refine g_iload C dL_law_1066 1068 rfl 1 rfl ?_
    refine g_if_ne C dL_law_1068 1083 1071 (by decide) rfl (fun c14 => ?_) (fun c14 => ?_)
    · have hf := ifn c14 hf
      refine g_goto C dL_law_1083 1466 (by decide) ?_
      refine g_lv [2, 3, 4, 5, 6] (lv' := [(0, .ref b), (1, .ref g), (2, .ref (h 0)), (3, .ref z), (4, .int l4)]) rfl ?_
      refine g_wide (c2 := cells + 170) (s2 := slots + 1027) (by omega) (by omega) ?_
      exact hK b1 b2 o_4 w_9 hf
    · have hf := ifp c14 hf
      refine g_aload_n C dL_law_1071 1072 rfl 5 rfl ?_
      refine g_iconst C dL_law_1072 1073 rfl ic_0 ?_
      obtain ⟨x16, e15, hf⟩ := bd1_s hf
      refine g_lald C 23 2 rfl rfl e15 dL_law_1073 1074 rfl ?_
      refine g_iload C dL_law_1074 1076 rfl 0 rfl ?_
      refine g_i2l C dL_law_1076 1077 rfl ?_
      refine g_lcmp C dL_law_1077 1078 rfl ?_
      refine g_if_eq C dL_law_1078 1083 1081 (by decide) rfl (fun c17 => ?_) (fun c17 => ?_)
      · have hf := ifp c17 hf
        refine g_goto C dL_law_1083 1466 (by decide) ?_
        refine g_lv [2, 3, 4, 5, 6] (lv' := [(0, .ref b), (1, .ref g), (2, .ref (h 0)), (3, .ref z), (4, .int l4)]) rfl ?_
        refine g_wide (c2 := cells + 170) (s2 := slots + 1027) (by omega) (by omega) ?_
        exact hK b1 b2 o_4 w_9 hf
      · have hf := ifn c17 hf
        refine g_iconst C dL_law_1081 1082 rfl ic_0 ?_
        exact absurd (Option.some.inj hf) (by decide)
  · have hf := ifn c13 hf
    refine g_iconst C dL_law_1064 1065 rfl ic_0 ?_
    exact absurd (Option.some.inj hf) (by decide)
set_option maxHeartbeats 4000000 in
set_option maxRecDepth 100000 in
theorem lawc_23 {p : Program} {l : Launch} {e : Env} {s : State} {m : MethodId} {args : Array Value} {below : List Frame} {meth : Method} {c : Code} {Q : State → Prop} {D : va_G} {cyI cyZ cyJ : ClassId} {A : Nat → Prop} {tb : List ExceptionTableEntry} (C : Cx ev_s p l s m args meth c cL_law 9 wsL_law RL D (ty3 cyI cyZ cyJ) A tb) (hfl : l.stackTraces = false) {b L : Nat} {xs : Nat → Int32} (hX : va_X b L xs s s.heap) (hbl : b < s.heap.size) (hbA : ¬ A b) {g z : Nat} {h1 h2 h : Nat → Nat} {l4 : Int32} {b1 b2 : S2} {o : Nat → Int64} {w : S2} {K : S2 → S2 → (Nat → Int64) → S2 → Option Int32} {cells slots : Nat} (hc1 : cells + 170 ≤ 601024) (hc2 : slots + 1027 ≤ 7293034) (hK : ∀ (b1 b2 : S2) (o : Nat → Int64) (w : S2), K b1 b2 o w = some 1 → Gq p l e room_1 s m args below meth c D A 9 Q (wC g h1 h2 ++ (wB cyI h1 b1 ++ (wB cyI h2 b2 ++ (wO cyJ z o ++ wM cyI cyZ h w)))) (cells + 170) (slots + 1027) 1466 [(0, .ref b), (1, .ref g), (2, .ref (h 0)), (3, .ref z), (4, .int l4)] []) (hf : L_law_C23 xs L K l4 b1 b2 o w = some 1) : Gq p l e room_1 s m args below meth c D A 9 Q (wC g h1 h2 ++ (wB cyI h1 b1 ++ (wB cyI h2 b2 ++ (wO cyJ z o ++ wM cyI cyZ h w)))) cells slots 1086 [(0, .ref b), (1, .ref g), (2, .ref (h 0)), (3, .ref z), (4, .int l4)] [] := by
  unfold L_law_C23 at hf
  refine g_aload_n C dL_law_1086 1087 rfl 1 rfl ?_
  refine g_aload_n C dL_law_1087 1088 rfl 0 rfl ?_
  refine g_iload C dL_law_1088 1090 rfl 4 rfl ?_
  refine g_iconst C dL_law_1090 1091 rfl ic_1 ?_
  refine g_iadd C dL_law_1091 1092 rfl ?_
  obtain ⟨x2, e1, hf⟩ := bd1_s hf
  refine g_sld C hX hbl hbA e1 dL_law_1092 1093 rfl ?_
  refine g_aload_n C dL_law_1093 1094 rfl 3 rfl ?_
  obtain ⟨x3, o_4, e5, hf⟩ := bd2_s hf
  refine g_callSH1 C (m_L_minutesToGo hfl (g := g) (h1 := h1) (h2 := h2) (z := z) e5) cf_L_minutesToGo gL_law_L_minutesToGo ⟨Nat.le_of_ble_eq_true rfl, Nat.le_of_ble_eq_true rfl⟩ (As := [.ref g, .int x2, .ref z]) (rest := []) (wl := []) (wr := wM cyI cyZ h w) (c2 := cells + 1) (s2 := slots + 6) rfl rfl rfl (Nat.le_of_ble_eq_true rfl) rfl rfl ⟨(by show _ ≤ 601024; omega), (by show _ ≤ 7293034; omega)⟩ dL_law_1094 1097 rfl (ws2 := wC g h1 h2 ++ (wB cyI h1 b1 ++ (wB cyI h2 b2 ++ (wO cyJ z o_4 ++ wM cyI cyZ h w)))) rfl (st2 := [.int x3]) rfl ?_
  refine g_istore C dL_law_1097 1099 rfl (by decide) (lv' := [(5, .int x3), (0, .ref b), (1, .ref g), (2, .ref (h 0)), (3, .ref z), (4, .int l4)]) rfl ?_
  refine g_aload_n C dL_law_1099 1100 rfl 3 rfl ?_
  refine g_aload_n C dL_law_1100 1101 rfl 1 rfl ?_
  refine g_iload C dL_law_1101 1103 rfl 5 rfl ?_
  refine g_iconst C dL_law_1103 1104 rfl ic_1 ?_
  refine g_iadd C dL_law_1104 1105 rfl ?_
  obtain ⟨x7, e6, hf⟩ := bd1_s hf
  refine g_sld C hX hbl hbA e6 dL_law_1105 1106 rfl ?_
  obtain ⟨x8, w_9, e10, hf⟩ := bd2_s hf
  refine g_callV1 C (m_X2_minutesToGo hfl (h := h) e10) cf_X2_minutesToGo gL_law_X2_minutesToGo ⟨Nat.le_of_ble_eq_true rfl, Nat.le_of_ble_eq_true rfl⟩ (q0 := 0) (As := [.int x7]) (rest := []) (wl := wC g h1 h2 ++ (wB cyI h1 b1 ++ (wB cyI h2 b2 ++ wO cyJ z o_4))) (wr := []) (c2 := cells + 1) (s2 := slots + 6) rfl rfl rfl rfl rfl rfl (Nat.le_of_ble_eq_true rfl) rfl rfl ⟨(by show _ ≤ 601024; omega), (by show _ ≤ 7293034; omega)⟩ dL_law_1106 1109 rfl (ws2 := wC g h1 h2 ++ (wB cyI h1 b1 ++ (wB cyI h2 b2 ++ (wO cyJ z o_4 ++ wM cyI cyZ h w_9)))) rfl (st2 := [.int x8]) rfl ?_
  refine g_istore C dL_law_1109 1111 rfl (by decide) (lv' := [(6, .int x8), (5, .int x3), (0, .ref b), (1, .ref g), (2, .ref (h 0)), (3, .ref z), (4, .int l4)]) rfl ?_
  refine g_aload_n C dL_law_1111 1112 rfl 4 rfl ?_
  obtain ⟨x11, e12, hf⟩ := bd1_s hf
  refine g_callV1 C (m_X2_thrown hfl (h := h) e12) cf_X2_thrown gL_law_X2_thrown ⟨Nat.le_of_ble_eq_true rfl, Nat.le_of_ble_eq_true rfl⟩ (q0 := 0) (As := []) (rest := []) (wl := wC g h1 h2 ++ (wB cyI h1 b1 ++ (wB cyI h2 b2 ++ wO cyJ z o_4))) (wr := []) (c2 := cells + 1) (s2 := slots + 6) rfl rfl rfl rfl rfl rfl (Nat.le_of_ble_eq_true rfl) rfl rfl ⟨(by show _ ≤ 601024; omega), (by show _ ≤ 7293034; omega)⟩ dL_law_1112 1115 rfl (ws2 := wC g h1 h2 ++ (wB cyI h1 b1 ++ (wB cyI h2 b2 ++ (wO cyJ z o_4 ++ wM cyI cyZ h w_9)))) rfl (st2 := [.int x11]) rfl ?_
  refine g_iload C dL_law_1115 1117 rfl 1 rfl ?_
  refine g_icmp_eq C dL_law_1117 1122 1120 (by decide) rfl (fun c13 => ?_) (fun c13 => ?_)
  · have hf := ifp c13 hf
    refine g_iload C dL_law_1122 1124 rfl 1 rfl ?_
    refine g_if_ne C dL_law_1124 1139 1127 (by decide) rfl (fun c14 => ?_) (fun c14 => ?_)
    · have hf := ifn c14 hf
      refine g_goto C dL_law_1139 1466 (by decide) ?_
      refine g_lv [2, 3, 4, 5, 6] (lv' := [(0, .ref b), (1, .ref g), (2, .ref (h 0)), (3, .ref z), (4, .int l4)]) rfl ?_
      refine g_wide (c2 := cells + 170) (s2 := slots + 1027) (by omega) (by omega) ?_
      exact hK b1 b2 o_4 w_9 hf
    · have hf := ifp c14 hf
      refine g_aload_n C dL_law_1127 1128 rfl 5 rfl ?_
      refine g_iconst C dL_law_1128 1129 rfl ic_0 ?_
      obtain ⟨x16, e15, hf⟩ := bd1_s hf
      refine g_lald C 23 2 rfl rfl e15 dL_law_1129 1130 rfl ?_
      refine g_iload C dL_law_1130 1132 rfl 0 rfl ?_
      refine g_i2l C dL_law_1132 1133 rfl ?_
      refine g_lcmp C dL_law_1133 1134 rfl ?_
      refine g_if_eq C dL_law_1134 1139 1137 (by decide) rfl (fun c17 => ?_) (fun c17 => ?_)
      · have hf := ifp c17 hf
        refine g_goto C dL_law_1139 1466 (by decide) ?_
        refine g_lv [2, 3, 4, 5, 6] (lv' := [(0, .ref b), (1, .ref g), (2, .ref (h 0)), (3, .ref z), (4, .int l4)]) rfl ?_
        refine g_wide (c2 := cells + 170) (s2 := slots + 1027) (by omega) (by omega) ?_
        exact hK b1 b2 o_4 w_9 hf
      · have hf := ifn c17 hf
        refine g_iconst C dL_law_1137 1138 rfl ic_0 ?_
        exact absurd (Option.some.inj hf) (by decide)
  · have hf := ifn c13 hf
    refine g_iconst C dL_law_1120 1121 rfl ic_0 ?_
    exact absurd (Option.some.inj hf) (by decide)
set_option maxHeartbeats 4000000 in
set_option maxRecDepth 100000 in
theorem lawc_24 {p : Program} {l : Launch} {e : Env} {s : State} {m : MethodId} {args : Array Value} {below : List Frame} {meth : Method} {c : Code} {Q : State → Prop} {D : va_G} {cyI cyZ cyJ : ClassId} {A : Nat → Prop} {tb : List ExceptionTableEntry} (C : Cx ev_s p l s m args meth c cL_law 9 wsL_law RL D (ty3 cyI cyZ cyJ) A tb) (hfl : l.stackTraces = false) {b L : Nat} {xs : Nat → Int32} (hX : va_X b L xs s s.heap) (hbl : b < s.heap.size) (hbA : ¬ A b) {g z : Nat} {h1 h2 h : Nat → Nat} {l4 : Int32} {b1 b2 : S2} {o : Nat → Int64} {w : S2} {K : S2 → S2 → (Nat → Int64) → S2 → Option Int32} {cells slots : Nat} (hc1 : cells + 170 ≤ 601024) (hc2 : slots + 1027 ≤ 7293034) (hK : ∀ (b1 b2 : S2) (o : Nat → Int64) (w : S2), K b1 b2 o w = some 1 → Gq p l e room_1 s m args below meth c D A 9 Q (wC g h1 h2 ++ (wB cyI h1 b1 ++ (wB cyI h2 b2 ++ (wO cyJ z o ++ wM cyI cyZ h w)))) (cells + 170) (slots + 1027) 1466 [(0, .ref b), (1, .ref g), (2, .ref (h 0)), (3, .ref z), (4, .int l4)] []) (hf : L_law_C24 xs L K l4 b1 b2 o w = some 1) : Gq p l e room_1 s m args below meth c D A 9 Q (wC g h1 h2 ++ (wB cyI h1 b1 ++ (wB cyI h2 b2 ++ (wO cyJ z o ++ wM cyI cyZ h w)))) cells slots 1142 [(0, .ref b), (1, .ref g), (2, .ref (h 0)), (3, .ref z), (4, .int l4)] [] := by
  unfold L_law_C24 at hf
  refine g_aload_n C dL_law_1142 1143 rfl 1 rfl ?_
  refine g_aload_n C dL_law_1143 1144 rfl 0 rfl ?_
  refine g_iload C dL_law_1144 1146 rfl 4 rfl ?_
  refine g_iconst C dL_law_1146 1147 rfl ic_1 ?_
  refine g_iadd C dL_law_1147 1148 rfl ?_
  obtain ⟨x2, e1, hf⟩ := bd1_s hf
  refine g_sld C hX hbl hbA e1 dL_law_1148 1149 rfl ?_
  refine g_aload_n C dL_law_1149 1150 rfl 0 rfl ?_
  refine g_iload C dL_law_1150 1152 rfl 4 rfl ?_
  refine g_iconst C dL_law_1152 1153 rfl ic_2 ?_
  refine g_iadd C dL_law_1153 1154 rfl ?_
  obtain ⟨x4, e3, hf⟩ := bd1_s hf
  refine g_sld C hX hbl hbA e3 dL_law_1154 1155 rfl ?_
  refine g_aload_n C dL_law_1155 1156 rfl 3 rfl ?_
  obtain ⟨x5, o_6, e7, hf⟩ := bd2_s hf
  refine g_callSH1 C (m_L_wouldFind hfl (g := g) (h1 := h1) (h2 := h2) (z := z) e7) cf_L_wouldFind gL_law_L_wouldFind ⟨Nat.le_of_ble_eq_true rfl, Nat.le_of_ble_eq_true rfl⟩ (As := [.ref g, .int x2, .int x4, .ref z]) (rest := []) (wl := []) (wr := wM cyI cyZ h w) (c2 := cells + 2) (s2 := slots + 12) rfl rfl rfl (Nat.le_of_ble_eq_true rfl) rfl rfl ⟨(by show _ ≤ 601024; omega), (by show _ ≤ 7293034; omega)⟩ dL_law_1156 1159 rfl (ws2 := wC g h1 h2 ++ (wB cyI h1 b1 ++ (wB cyI h2 b2 ++ (wO cyJ z o_6 ++ wM cyI cyZ h w)))) rfl (st2 := [.int x5]) rfl ?_
  refine g_istore C dL_law_1159 1161 rfl (by decide) (lv' := [(5, .int x5), (0, .ref b), (1, .ref g), (2, .ref (h 0)), (3, .ref z), (4, .int l4)]) rfl ?_
  refine g_aload_n C dL_law_1161 1162 rfl 3 rfl ?_
  refine g_aload_n C dL_law_1162 1163 rfl 1 rfl ?_
  refine g_iload C dL_law_1163 1165 rfl 5 rfl ?_
  refine g_iconst C dL_law_1165 1166 rfl ic_1 ?_
  refine g_iadd C dL_law_1166 1167 rfl ?_
  obtain ⟨x9, e8, hf⟩ := bd1_s hf
  refine g_sld C hX hbl hbA e8 dL_law_1167 1168 rfl ?_
  refine g_aload_n C dL_law_1168 1169 rfl 1 rfl ?_
  refine g_iload C dL_law_1169 1171 rfl 5 rfl ?_
  refine g_iconst C dL_law_1171 1172 rfl ic_2 ?_
  refine g_iadd C dL_law_1172 1173 rfl ?_
  obtain ⟨x11, e10, hf⟩ := bd1_s hf
  refine g_sld C hX hbl hbA e10 dL_law_1173 1174 rfl ?_
  obtain ⟨x12, w_13, e14, hf⟩ := bd2_s hf
  refine g_callV1 C (m_X2_wouldFind hfl (h := h) e14) cf_X2_wouldFind gL_law_X2_wouldFind ⟨Nat.le_of_ble_eq_true rfl, Nat.le_of_ble_eq_true rfl⟩ (q0 := 0) (As := [.int x9, .int x11]) (rest := []) (wl := wC g h1 h2 ++ (wB cyI h1 b1 ++ (wB cyI h2 b2 ++ wO cyJ z o_6))) (wr := []) (c2 := cells + 2) (s2 := slots + 12) rfl rfl rfl rfl rfl rfl (Nat.le_of_ble_eq_true rfl) rfl rfl ⟨(by show _ ≤ 601024; omega), (by show _ ≤ 7293034; omega)⟩ dL_law_1174 1177 rfl (ws2 := wC g h1 h2 ++ (wB cyI h1 b1 ++ (wB cyI h2 b2 ++ (wO cyJ z o_6 ++ wM cyI cyZ h w_13)))) rfl (st2 := [.int x12]) rfl ?_
  refine g_istore C dL_law_1177 1179 rfl (by decide) (lv' := [(6, .int x12), (5, .int x5), (0, .ref b), (1, .ref g), (2, .ref (h 0)), (3, .ref z), (4, .int l4)]) rfl ?_
  refine g_aload_n C dL_law_1179 1180 rfl 4 rfl ?_
  obtain ⟨x15, e16, hf⟩ := bd1_s hf
  refine g_callV1 C (m_X2_thrown hfl (h := h) e16) cf_X2_thrown gL_law_X2_thrown ⟨Nat.le_of_ble_eq_true rfl, Nat.le_of_ble_eq_true rfl⟩ (q0 := 0) (As := []) (rest := []) (wl := wC g h1 h2 ++ (wB cyI h1 b1 ++ (wB cyI h2 b2 ++ wO cyJ z o_6))) (wr := []) (c2 := cells + 2) (s2 := slots + 12) rfl rfl rfl rfl rfl rfl (Nat.le_of_ble_eq_true rfl) rfl rfl ⟨(by show _ ≤ 601024; omega), (by show _ ≤ 7293034; omega)⟩ dL_law_1180 1183 rfl (ws2 := wC g h1 h2 ++ (wB cyI h1 b1 ++ (wB cyI h2 b2 ++ (wO cyJ z o_6 ++ wM cyI cyZ h w_13)))) rfl (st2 := [.int x15]) rfl ?_
  refine g_iload C dL_law_1183 1185 rfl 1 rfl ?_
  refine g_icmp_eq C dL_law_1185 1190 1188 (by decide) rfl (fun c17 => ?_) (fun c17 => ?_)
  · have hf := ifp c17 hf
    refine g_iload C dL_law_1190 1192 rfl 1 rfl ?_
    refine g_if_ne C dL_law_1192 1214 1195 (by decide) rfl (fun c18 => ?_) (fun c18 => ?_)
    · have hf := ifn c18 hf
      refine g_goto C dL_law_1214 1466 (by decide) ?_
      refine g_lv [2, 3, 4, 5, 6] (lv' := [(0, .ref b), (1, .ref g), (2, .ref (h 0)), (3, .ref z), (4, .int l4)]) rfl ?_
      refine g_wide (c2 := cells + 170) (s2 := slots + 1027) (by omega) (by omega) ?_
      exact hK b1 b2 o_6 w_13 hf
    · have hf := ifp c18 hf
      refine g_aload_n C dL_law_1195 1196 rfl 5 rfl ?_
      refine g_iconst C dL_law_1196 1197 rfl ic_0 ?_
      obtain ⟨x20, e19, hf⟩ := bd1_s hf
      refine g_lald C 23 2 rfl rfl e19 dL_law_1197 1198 rfl ?_
      refine g_iload C dL_law_1198 1200 rfl 0 rfl ?_
      refine g_if_eq C dL_law_1200 1207 1203 (by decide) rfl (fun c21 => ?_) (fun c21 => ?_)
      · have hf := ifp c21 hf
        refine g_lconst C dL_law_1207 1208 rfl (v := 0) rfl ?_
        refine g_lcmp C dL_law_1208 1209 rfl ?_
        refine g_if_eq C dL_law_1209 1214 1212 (by decide) rfl (fun c22 => ?_) (fun c22 => ?_)
        · have hf := ifp c22 hf
          refine g_goto C dL_law_1214 1466 (by decide) ?_
          refine g_lv [2, 3, 4, 5, 6] (lv' := [(0, .ref b), (1, .ref g), (2, .ref (h 0)), (3, .ref z), (4, .int l4)]) rfl ?_
          refine g_wide (c2 := cells + 170) (s2 := slots + 1027) (by omega) (by omega) ?_
          exact hK b1 b2 o_6 w_13 hf
        · have hf := ifn c22 hf
          refine g_iconst C dL_law_1212 1213 rfl ic_0 ?_
          exact absurd (Option.some.inj hf) (by decide)
      · have hf := ifn c21 hf
        refine g_lconst C dL_law_1203 1204 rfl (v := 1) rfl ?_
        refine g_goto C dL_law_1204 1208 (by decide) ?_
        refine g_lcmp C dL_law_1208 1209 rfl ?_
        refine g_if_eq C dL_law_1209 1214 1212 (by decide) rfl (fun c23 => ?_) (fun c23 => ?_)
        · have hf := ifp c23 hf
          refine g_goto C dL_law_1214 1466 (by decide) ?_
          refine g_lv [2, 3, 4, 5, 6] (lv' := [(0, .ref b), (1, .ref g), (2, .ref (h 0)), (3, .ref z), (4, .int l4)]) rfl ?_
          refine g_wide (c2 := cells + 170) (s2 := slots + 1027) (by omega) (by omega) ?_
          exact hK b1 b2 o_6 w_13 hf
        · have hf := ifn c23 hf
          refine g_iconst C dL_law_1212 1213 rfl ic_0 ?_
          exact absurd (Option.some.inj hf) (by decide)
  · have hf := ifn c17 hf
    refine g_iconst C dL_law_1188 1189 rfl ic_0 ?_
    exact absurd (Option.some.inj hf) (by decide)
set_option maxHeartbeats 4000000 in
set_option maxRecDepth 100000 in
theorem lawc_25 {p : Program} {l : Launch} {e : Env} {s : State} {m : MethodId} {args : Array Value} {below : List Frame} {meth : Method} {c : Code} {Q : State → Prop} {D : va_G} {cyI cyZ cyJ : ClassId} {A : Nat → Prop} {tb : List ExceptionTableEntry} (C : Cx ev_s p l s m args meth c cL_law 9 wsL_law RL D (ty3 cyI cyZ cyJ) A tb) (hfl : l.stackTraces = false) {b L : Nat} {xs : Nat → Int32} (hX : va_X b L xs s s.heap) (hbl : b < s.heap.size) (hbA : ¬ A b) {g z : Nat} {h1 h2 h : Nat → Nat} {l4 : Int32} {b1 b2 : S2} {o : Nat → Int64} {w : S2} {K : S2 → S2 → (Nat → Int64) → S2 → Option Int32} {cells slots : Nat} (hc1 : cells + 170 ≤ 601024) (hc2 : slots + 1027 ≤ 7293034) (hK : ∀ (b1 b2 : S2) (o : Nat → Int64) (w : S2), K b1 b2 o w = some 1 → Gq p l e room_1 s m args below meth c D A 9 Q (wC g h1 h2 ++ (wB cyI h1 b1 ++ (wB cyI h2 b2 ++ (wO cyJ z o ++ wM cyI cyZ h w)))) (cells + 170) (slots + 1027) 1466 [(0, .ref b), (1, .ref g), (2, .ref (h 0)), (3, .ref z), (4, .int l4)] []) (hf : L_law_C25 xs L K l4 b1 b2 o w = some 1) : Gq p l e room_1 s m args below meth c D A 9 Q (wC g h1 h2 ++ (wB cyI h1 b1 ++ (wB cyI h2 b2 ++ (wO cyJ z o ++ wM cyI cyZ h w)))) cells slots 1217 [(0, .ref b), (1, .ref g), (2, .ref (h 0)), (3, .ref z), (4, .int l4)] [] := by
  unfold L_law_C25 at hf
  refine g_aload_n C dL_law_1217 1218 rfl 1 rfl ?_
  obtain ⟨x1, e2, hf⟩ := bd1_s hf
  refine g_callV1 C (m_X1_mostAlert hfl (g := g) (h1 := h1) (h2 := h2) e2) cf_X1_mostAlert gL_law_X1_mostAlert ⟨Nat.le_of_ble_eq_true rfl, Nat.le_of_ble_eq_true rfl⟩ (q0 := 0) (As := []) (rest := []) (wl := []) (wr := wO cyJ z o ++ wM cyI cyZ h w) (c2 := cells) (s2 := slots) rfl rfl rfl rfl rfl rfl (Nat.le_of_ble_eq_true rfl) rfl rfl ⟨(by show _ ≤ 601024; omega), (by show _ ≤ 7293034; omega)⟩ dL_law_1218 1221 rfl (ws2 := wC g h1 h2 ++ (wB cyI h1 b1 ++ (wB cyI h2 b2 ++ (wO cyJ z o ++ wM cyI cyZ h w)))) rfl (st2 := [.int x1]) rfl ?_
  refine g_aload_n C dL_law_1221 1222 rfl 2 rfl ?_
  obtain ⟨x3, w_4, e5, hf⟩ := bd2_s hf
  refine g_callV1 C (m_X2_mostAlert hfl (h := h) e5) cf_X2_mostAlert gL_law_X2_mostAlert ⟨Nat.le_of_ble_eq_true rfl, Nat.le_of_ble_eq_true rfl⟩ (q0 := 0) (As := []) (rest := [.int x1]) (wl := wC g h1 h2 ++ (wB cyI h1 b1 ++ (wB cyI h2 b2 ++ wO cyJ z o))) (wr := []) (c2 := cells) (s2 := slots) rfl rfl rfl rfl rfl rfl (Nat.le_of_ble_eq_true rfl) rfl rfl ⟨(by show _ ≤ 601024; omega), (by show _ ≤ 7293034; omega)⟩ dL_law_1222 1225 rfl (ws2 := wC g h1 h2 ++ (wB cyI h1 b1 ++ (wB cyI h2 b2 ++ (wO cyJ z o ++ wM cyI cyZ h w_4)))) rfl (st2 := [.int x3, .int x1]) rfl ?_
  refine g_icmp_eq C dL_law_1225 1466 1228 (by decide) rfl (fun c6 => ?_) (fun c6 => ?_)
  · have hf := ifp c6 hf
    refine g_wide (c2 := cells + 170) (s2 := slots + 1027) (by omega) (by omega) ?_
    exact hK b1 b2 o w_4 hf
  · have hf := ifn c6 hf
    refine g_iconst C dL_law_1228 1229 rfl ic_0 ?_
    exact absurd (Option.some.inj hf) (by decide)
set_option maxHeartbeats 4000000 in
set_option maxRecDepth 100000 in
theorem lawc_26 {p : Program} {l : Launch} {e : Env} {s : State} {m : MethodId} {args : Array Value} {below : List Frame} {meth : Method} {c : Code} {Q : State → Prop} {D : va_G} {cyI cyZ cyJ : ClassId} {A : Nat → Prop} {tb : List ExceptionTableEntry} (C : Cx ev_s p l s m args meth c cL_law 9 wsL_law RL D (ty3 cyI cyZ cyJ) A tb) (hfl : l.stackTraces = false) {b L : Nat} {xs : Nat → Int32} (hX : va_X b L xs s s.heap) (hbl : b < s.heap.size) (hbA : ¬ A b) {g z : Nat} {h1 h2 h : Nat → Nat} {l4 : Int32} {b1 b2 : S2} {o : Nat → Int64} {w : S2} {K : S2 → S2 → (Nat → Int64) → S2 → Option Int32} {cells slots : Nat} (hc1 : cells + 170 ≤ 601024) (hc2 : slots + 1027 ≤ 7293034) (hK : ∀ (b1 b2 : S2) (o : Nat → Int64) (w : S2), K b1 b2 o w = some 1 → Gq p l e room_1 s m args below meth c D A 9 Q (wC g h1 h2 ++ (wB cyI h1 b1 ++ (wB cyI h2 b2 ++ (wO cyJ z o ++ wM cyI cyZ h w)))) (cells + 170) (slots + 1027) 1466 [(0, .ref b), (1, .ref g), (2, .ref (h 0)), (3, .ref z), (4, .int l4)] []) (hf : L_law_C26 xs L K l4 b1 b2 o w = some 1) : Gq p l e room_1 s m args below meth c D A 9 Q (wC g h1 h2 ++ (wB cyI h1 b1 ++ (wB cyI h2 b2 ++ (wO cyJ z o ++ wM cyI cyZ h w)))) cells slots 1230 [(0, .ref b), (1, .ref g), (2, .ref (h 0)), (3, .ref z), (4, .int l4)] [] := by
  unfold L_law_C26 at hf
  refine g_aload_n C dL_law_1230 1231 rfl 1 rfl ?_
  refine g_aload_n C dL_law_1231 1232 rfl 0 rfl ?_
  refine g_iload C dL_law_1232 1234 rfl 4 rfl ?_
  refine g_iconst C dL_law_1234 1235 rfl ic_1 ?_
  refine g_iadd C dL_law_1235 1236 rfl ?_
  obtain ⟨x2, e1, hf⟩ := bd1_s hf
  refine g_sld C hX hbl hbA e1 dL_law_1236 1237 rfl ?_
  refine g_aload_n C dL_law_1237 1238 rfl 3 rfl ?_
  obtain ⟨x3, b2_4, o_5, e6, hf⟩ := bd3_s hf
  refine g_callSH1 C (m_L_minutesUntilAsleep hfl (g := g) (h1 := h1) (h2 := h2) (z := z) e6) cf_L_minutesUntilAsleep gL_law_L_minutesUntilAsleep ⟨Nat.le_of_ble_eq_true rfl, Nat.le_of_ble_eq_true rfl⟩ (As := [.ref g, .int x2, .ref z]) (rest := []) (wl := []) (wr := wM cyI cyZ h w) (c2 := cells + 1) (s2 := slots + 6) rfl rfl rfl (Nat.le_of_ble_eq_true rfl) rfl rfl ⟨(by show _ ≤ 601024; omega), (by show _ ≤ 7293034; omega)⟩ dL_law_1238 1241 rfl (ws2 := wC g h1 h2 ++ (wB cyI h1 b1 ++ (wB cyI h2 b2_4 ++ (wO cyJ z o_5 ++ wM cyI cyZ h w)))) rfl (st2 := [.int x3]) rfl ?_
  refine g_istore C dL_law_1241 1243 rfl (by decide) (lv' := [(5, .int x3), (0, .ref b), (1, .ref g), (2, .ref (h 0)), (3, .ref z), (4, .int l4)]) rfl ?_
  refine g_aload_n C dL_law_1243 1244 rfl 3 rfl ?_
  refine g_aload_n C dL_law_1244 1245 rfl 1 rfl ?_
  refine g_iload C dL_law_1245 1247 rfl 5 rfl ?_
  refine g_iconst C dL_law_1247 1248 rfl ic_1 ?_
  refine g_iadd C dL_law_1248 1249 rfl ?_
  obtain ⟨x8, e7, hf⟩ := bd1_s hf
  refine g_sld C hX hbl hbA e7 dL_law_1249 1250 rfl ?_
  obtain ⟨x9, w_10, e11, hf⟩ := bd2_s hf
  refine g_callV1 C (m_X2_minutesUntilAsleep hfl (h := h) e11) cf_X2_minutesUntilAsleep gL_law_X2_minutesUntilAsleep ⟨Nat.le_of_ble_eq_true rfl, Nat.le_of_ble_eq_true rfl⟩ (q0 := 0) (As := [.int x8]) (rest := []) (wl := wC g h1 h2 ++ (wB cyI h1 b1 ++ (wB cyI h2 b2_4 ++ wO cyJ z o_5))) (wr := []) (c2 := cells + 1) (s2 := slots + 6) rfl rfl rfl rfl rfl rfl (Nat.le_of_ble_eq_true rfl) rfl rfl ⟨(by show _ ≤ 601024; omega), (by show _ ≤ 7293034; omega)⟩ dL_law_1250 1253 rfl (ws2 := wC g h1 h2 ++ (wB cyI h1 b1 ++ (wB cyI h2 b2_4 ++ (wO cyJ z o_5 ++ wM cyI cyZ h w_10)))) rfl (st2 := [.int x9]) rfl ?_
  refine g_istore C dL_law_1253 1255 rfl (by decide) (lv' := [(6, .int x9), (5, .int x3), (0, .ref b), (1, .ref g), (2, .ref (h 0)), (3, .ref z), (4, .int l4)]) rfl ?_
  refine g_aload_n C dL_law_1255 1256 rfl 4 rfl ?_
  obtain ⟨x12, e13, hf⟩ := bd1_s hf
  refine g_callV1 C (m_X2_thrown hfl (h := h) e13) cf_X2_thrown gL_law_X2_thrown ⟨Nat.le_of_ble_eq_true rfl, Nat.le_of_ble_eq_true rfl⟩ (q0 := 0) (As := []) (rest := []) (wl := wC g h1 h2 ++ (wB cyI h1 b1 ++ (wB cyI h2 b2_4 ++ wO cyJ z o_5))) (wr := []) (c2 := cells + 1) (s2 := slots + 6) rfl rfl rfl rfl rfl rfl (Nat.le_of_ble_eq_true rfl) rfl rfl ⟨(by show _ ≤ 601024; omega), (by show _ ≤ 7293034; omega)⟩ dL_law_1256 1259 rfl (ws2 := wC g h1 h2 ++ (wB cyI h1 b1 ++ (wB cyI h2 b2_4 ++ (wO cyJ z o_5 ++ wM cyI cyZ h w_10)))) rfl (st2 := [.int x12]) rfl ?_
  refine g_iload C dL_law_1259 1261 rfl 1 rfl ?_
  refine g_icmp_eq C dL_law_1261 1266 1264 (by decide) rfl (fun c14 => ?_) (fun c14 => ?_)
  · have hf := ifp c14 hf
    refine g_iload C dL_law_1266 1268 rfl 1 rfl ?_
    refine g_if_ne C dL_law_1268 1283 1271 (by decide) rfl (fun c15 => ?_) (fun c15 => ?_)
    · have hf := ifn c15 hf
      refine g_goto C dL_law_1283 1466 (by decide) ?_
      refine g_lv [2, 3, 4, 5, 6] (lv' := [(0, .ref b), (1, .ref g), (2, .ref (h 0)), (3, .ref z), (4, .int l4)]) rfl ?_
      refine g_wide (c2 := cells + 170) (s2 := slots + 1027) (by omega) (by omega) ?_
      exact hK b1 b2_4 o_5 w_10 hf
    · have hf := ifp c15 hf
      refine g_aload_n C dL_law_1271 1272 rfl 5 rfl ?_
      refine g_iconst C dL_law_1272 1273 rfl ic_0 ?_
      obtain ⟨x17, e16, hf⟩ := bd1_s hf
      refine g_lald C 23 2 rfl rfl e16 dL_law_1273 1274 rfl ?_
      refine g_iload C dL_law_1274 1276 rfl 0 rfl ?_
      refine g_i2l C dL_law_1276 1277 rfl ?_
      refine g_lcmp C dL_law_1277 1278 rfl ?_
      refine g_if_eq C dL_law_1278 1283 1281 (by decide) rfl (fun c18 => ?_) (fun c18 => ?_)
      · have hf := ifp c18 hf
        refine g_goto C dL_law_1283 1466 (by decide) ?_
        refine g_lv [2, 3, 4, 5, 6] (lv' := [(0, .ref b), (1, .ref g), (2, .ref (h 0)), (3, .ref z), (4, .int l4)]) rfl ?_
        refine g_wide (c2 := cells + 170) (s2 := slots + 1027) (by omega) (by omega) ?_
        exact hK b1 b2_4 o_5 w_10 hf
      · have hf := ifn c18 hf
        refine g_iconst C dL_law_1281 1282 rfl ic_0 ?_
        exact absurd (Option.some.inj hf) (by decide)
  · have hf := ifn c14 hf
    refine g_iconst C dL_law_1264 1265 rfl ic_0 ?_
    exact absurd (Option.some.inj hf) (by decide)
set_option maxHeartbeats 4000000 in
set_option maxRecDepth 100000 in
theorem lawc_27 {p : Program} {l : Launch} {e : Env} {s : State} {m : MethodId} {args : Array Value} {below : List Frame} {meth : Method} {c : Code} {Q : State → Prop} {D : va_G} {cyI cyZ cyJ : ClassId} {A : Nat → Prop} {tb : List ExceptionTableEntry} (C : Cx ev_s p l s m args meth c cL_law 9 wsL_law RL D (ty3 cyI cyZ cyJ) A tb) (hfl : l.stackTraces = false) {b L : Nat} {xs : Nat → Int32} (hX : va_X b L xs s s.heap) (hbl : b < s.heap.size) (hbA : ¬ A b) {g z : Nat} {h1 h2 h : Nat → Nat} {l4 : Int32} {b1 b2 : S2} {o : Nat → Int64} {w : S2} {K : S2 → S2 → (Nat → Int64) → S2 → Option Int32} {cells slots : Nat} (hc1 : cells + 170 ≤ 601024) (hc2 : slots + 1027 ≤ 7293034) (hK : ∀ (b1 b2 : S2) (o : Nat → Int64) (w : S2), K b1 b2 o w = some 1 → Gq p l e room_1 s m args below meth c D A 9 Q (wC g h1 h2 ++ (wB cyI h1 b1 ++ (wB cyI h2 b2 ++ (wO cyJ z o ++ wM cyI cyZ h w)))) (cells + 170) (slots + 1027) 1466 [(0, .ref b), (1, .ref g), (2, .ref (h 0)), (3, .ref z), (4, .int l4)] []) (hf : L_law_C27 xs L K l4 b1 b2 o w = some 1) : Gq p l e room_1 s m args below meth c D A 9 Q (wC g h1 h2 ++ (wB cyI h1 b1 ++ (wB cyI h2 b2 ++ (wO cyJ z o ++ wM cyI cyZ h w)))) cells slots 1286 [(0, .ref b), (1, .ref g), (2, .ref (h 0)), (3, .ref z), (4, .int l4)] [] := by
  unfold L_law_C27 at hf
  refine g_aload_n C dL_law_1286 1287 rfl 1 rfl ?_
  refine g_aload_n C dL_law_1287 1288 rfl 0 rfl ?_
  refine g_iload C dL_law_1288 1290 rfl 4 rfl ?_
  refine g_iconst C dL_law_1290 1291 rfl ic_1 ?_
  refine g_iadd C dL_law_1291 1292 rfl ?_
  obtain ⟨x2, e1, hf⟩ := bd1_s hf
  refine g_sld C hX hbl hbA e1 dL_law_1292 1293 rfl ?_
  refine g_aload_n C dL_law_1293 1294 rfl 3 rfl ?_
  obtain ⟨x3, b2_4, o_5, e6, hf⟩ := bd3_s hf
  refine g_callSH1 C (m_L_asleepIn hfl (g := g) (h1 := h1) (h2 := h2) (z := z) e6) cf_L_asleepIn gL_law_L_asleepIn ⟨Nat.le_of_ble_eq_true rfl, Nat.le_of_ble_eq_true rfl⟩ (As := [.ref g, .int x2, .ref z]) (rest := []) (wl := []) (wr := wM cyI cyZ h w) (c2 := cells + 1) (s2 := slots + 6) rfl rfl rfl (Nat.le_of_ble_eq_true rfl) rfl rfl ⟨(by show _ ≤ 601024; omega), (by show _ ≤ 7293034; omega)⟩ dL_law_1294 1297 rfl (ws2 := wC g h1 h2 ++ (wB cyI h1 b1 ++ (wB cyI h2 b2_4 ++ (wO cyJ z o_5 ++ wM cyI cyZ h w)))) rfl (st2 := [.int x3]) rfl ?_
  refine g_istore C dL_law_1297 1299 rfl (by decide) (lv' := [(5, .int x3), (0, .ref b), (1, .ref g), (2, .ref (h 0)), (3, .ref z), (4, .int l4)]) rfl ?_
  refine g_aload_n C dL_law_1299 1300 rfl 3 rfl ?_
  refine g_aload_n C dL_law_1300 1301 rfl 1 rfl ?_
  refine g_iload C dL_law_1301 1303 rfl 5 rfl ?_
  refine g_iconst C dL_law_1303 1304 rfl ic_1 ?_
  refine g_iadd C dL_law_1304 1305 rfl ?_
  obtain ⟨x8, e7, hf⟩ := bd1_s hf
  refine g_sld C hX hbl hbA e7 dL_law_1305 1306 rfl ?_
  obtain ⟨x9, w_10, e11, hf⟩ := bd2_s hf
  refine g_callV1 C (m_X2_asleepIn hfl (h := h) e11) cf_X2_asleepIn gL_law_X2_asleepIn ⟨Nat.le_of_ble_eq_true rfl, Nat.le_of_ble_eq_true rfl⟩ (q0 := 0) (As := [.int x8]) (rest := []) (wl := wC g h1 h2 ++ (wB cyI h1 b1 ++ (wB cyI h2 b2_4 ++ wO cyJ z o_5))) (wr := []) (c2 := cells + 1) (s2 := slots + 6) rfl rfl rfl rfl rfl rfl (Nat.le_of_ble_eq_true rfl) rfl rfl ⟨(by show _ ≤ 601024; omega), (by show _ ≤ 7293034; omega)⟩ dL_law_1306 1309 rfl (ws2 := wC g h1 h2 ++ (wB cyI h1 b1 ++ (wB cyI h2 b2_4 ++ (wO cyJ z o_5 ++ wM cyI cyZ h w_10)))) rfl (st2 := [.int x9]) rfl ?_
  refine g_istore C dL_law_1309 1311 rfl (by decide) (lv' := [(6, .int x9), (5, .int x3), (0, .ref b), (1, .ref g), (2, .ref (h 0)), (3, .ref z), (4, .int l4)]) rfl ?_
  refine g_aload_n C dL_law_1311 1312 rfl 4 rfl ?_
  obtain ⟨x12, e13, hf⟩ := bd1_s hf
  refine g_callV1 C (m_X2_thrown hfl (h := h) e13) cf_X2_thrown gL_law_X2_thrown ⟨Nat.le_of_ble_eq_true rfl, Nat.le_of_ble_eq_true rfl⟩ (q0 := 0) (As := []) (rest := []) (wl := wC g h1 h2 ++ (wB cyI h1 b1 ++ (wB cyI h2 b2_4 ++ wO cyJ z o_5))) (wr := []) (c2 := cells + 1) (s2 := slots + 6) rfl rfl rfl rfl rfl rfl (Nat.le_of_ble_eq_true rfl) rfl rfl ⟨(by show _ ≤ 601024; omega), (by show _ ≤ 7293034; omega)⟩ dL_law_1312 1315 rfl (ws2 := wC g h1 h2 ++ (wB cyI h1 b1 ++ (wB cyI h2 b2_4 ++ (wO cyJ z o_5 ++ wM cyI cyZ h w_10)))) rfl (st2 := [.int x12]) rfl ?_
  refine g_iload C dL_law_1315 1317 rfl 1 rfl ?_
  refine g_icmp_eq C dL_law_1317 1322 1320 (by decide) rfl (fun c14 => ?_) (fun c14 => ?_)
  · have hf := ifp c14 hf
    refine g_iload C dL_law_1322 1324 rfl 1 rfl ?_
    refine g_if_ne C dL_law_1324 1339 1327 (by decide) rfl (fun c15 => ?_) (fun c15 => ?_)
    · have hf := ifn c15 hf
      refine g_goto C dL_law_1339 1466 (by decide) ?_
      refine g_lv [2, 3, 4, 5, 6] (lv' := [(0, .ref b), (1, .ref g), (2, .ref (h 0)), (3, .ref z), (4, .int l4)]) rfl ?_
      refine g_wide (c2 := cells + 170) (s2 := slots + 1027) (by omega) (by omega) ?_
      exact hK b1 b2_4 o_5 w_10 hf
    · have hf := ifp c15 hf
      refine g_aload_n C dL_law_1327 1328 rfl 5 rfl ?_
      refine g_iconst C dL_law_1328 1329 rfl ic_0 ?_
      obtain ⟨x17, e16, hf⟩ := bd1_s hf
      refine g_lald C 23 2 rfl rfl e16 dL_law_1329 1330 rfl ?_
      refine g_iload C dL_law_1330 1332 rfl 0 rfl ?_
      refine g_i2l C dL_law_1332 1333 rfl ?_
      refine g_lcmp C dL_law_1333 1334 rfl ?_
      refine g_if_eq C dL_law_1334 1339 1337 (by decide) rfl (fun c18 => ?_) (fun c18 => ?_)
      · have hf := ifp c18 hf
        refine g_goto C dL_law_1339 1466 (by decide) ?_
        refine g_lv [2, 3, 4, 5, 6] (lv' := [(0, .ref b), (1, .ref g), (2, .ref (h 0)), (3, .ref z), (4, .int l4)]) rfl ?_
        refine g_wide (c2 := cells + 170) (s2 := slots + 1027) (by omega) (by omega) ?_
        exact hK b1 b2_4 o_5 w_10 hf
      · have hf := ifn c18 hf
        refine g_iconst C dL_law_1337 1338 rfl ic_0 ?_
        exact absurd (Option.some.inj hf) (by decide)
  · have hf := ifn c14 hf
    refine g_iconst C dL_law_1320 1321 rfl ic_0 ?_
    exact absurd (Option.some.inj hf) (by decide)
set_option maxHeartbeats 4000000 in
set_option maxRecDepth 100000 in
theorem lawc_28 {p : Program} {l : Launch} {e : Env} {s : State} {m : MethodId} {args : Array Value} {below : List Frame} {meth : Method} {c : Code} {Q : State → Prop} {D : va_G} {cyI cyZ cyJ : ClassId} {A : Nat → Prop} {tb : List ExceptionTableEntry} (C : Cx ev_s p l s m args meth c cL_law 9 wsL_law RL D (ty3 cyI cyZ cyJ) A tb) (hfl : l.stackTraces = false) {b L : Nat} {xs : Nat → Int32} (hX : va_X b L xs s s.heap) (hbl : b < s.heap.size) (hbA : ¬ A b) {g z : Nat} {h1 h2 h : Nat → Nat} {l4 : Int32} {b1 b2 : S2} {o : Nat → Int64} {w : S2} {K : S2 → S2 → (Nat → Int64) → S2 → Option Int32} {cells slots : Nat} (hc1 : cells + 170 ≤ 601024) (hc2 : slots + 1027 ≤ 7293034) (hK : ∀ (b1 b2 : S2) (o : Nat → Int64) (w : S2), K b1 b2 o w = some 1 → Gq p l e room_1 s m args below meth c D A 9 Q (wC g h1 h2 ++ (wB cyI h1 b1 ++ (wB cyI h2 b2 ++ (wO cyJ z o ++ wM cyI cyZ h w)))) (cells + 170) (slots + 1027) 1466 [(0, .ref b), (1, .ref g), (2, .ref (h 0)), (3, .ref z), (4, .int l4)] []) (hf : L_law_C28 xs L K l4 b1 b2 o w = some 1) : Gq p l e room_1 s m args below meth c D A 9 Q (wC g h1 h2 ++ (wB cyI h1 b1 ++ (wB cyI h2 b2 ++ (wO cyJ z o ++ wM cyI cyZ h w)))) cells slots 1342 [(0, .ref b), (1, .ref g), (2, .ref (h 0)), (3, .ref z), (4, .int l4)] [] := by
  unfold L_law_C28 at hf
  refine g_aload_n C dL_law_1342 1343 rfl 1 rfl ?_
  refine g_aload_n C dL_law_1343 1344 rfl 0 rfl ?_
  refine g_iload C dL_law_1344 1346 rfl 4 rfl ?_
  refine g_iconst C dL_law_1346 1347 rfl ic_1 ?_
  refine g_iadd C dL_law_1347 1348 rfl ?_
  obtain ⟨x2, e1, hf⟩ := bd1_s hf
  refine g_sld C hX hbl hbA e1 dL_law_1348 1349 rfl ?_
  refine g_aload_n C dL_law_1349 1350 rfl 3 rfl ?_
  obtain ⟨x3, b2_4, o_5, e6, hf⟩ := bd3_s hf
  refine g_callSH1 C (m_L_bestToDeclare hfl (g := g) (h1 := h1) (h2 := h2) (z := z) e6) cf_L_bestToDeclare gL_law_L_bestToDeclare ⟨Nat.le_of_ble_eq_true rfl, Nat.le_of_ble_eq_true rfl⟩ (As := [.ref g, .int x2, .ref z]) (rest := []) (wl := []) (wr := wM cyI cyZ h w) (c2 := cells + 1) (s2 := slots + 6) rfl rfl rfl (Nat.le_of_ble_eq_true rfl) rfl rfl ⟨(by show _ ≤ 601024; omega), (by show _ ≤ 7293034; omega)⟩ dL_law_1350 1353 rfl (ws2 := wC g h1 h2 ++ (wB cyI h1 b1 ++ (wB cyI h2 b2_4 ++ (wO cyJ z o_5 ++ wM cyI cyZ h w)))) rfl (st2 := [.int x3]) rfl ?_
  refine g_istore C dL_law_1353 1355 rfl (by decide) (lv' := [(5, .int x3), (0, .ref b), (1, .ref g), (2, .ref (h 0)), (3, .ref z), (4, .int l4)]) rfl ?_
  refine g_aload_n C dL_law_1355 1356 rfl 3 rfl ?_
  refine g_aload_n C dL_law_1356 1357 rfl 1 rfl ?_
  refine g_iload C dL_law_1357 1359 rfl 5 rfl ?_
  refine g_iconst C dL_law_1359 1360 rfl ic_1 ?_
  refine g_iadd C dL_law_1360 1361 rfl ?_
  obtain ⟨x8, e7, hf⟩ := bd1_s hf
  refine g_sld C hX hbl hbA e7 dL_law_1361 1362 rfl ?_
  obtain ⟨x9, w_10, e11, hf⟩ := bd2_s hf
  refine g_callV1 C (m_X2_bestToDeclare hfl (h := h) e11) cf_X2_bestToDeclare gL_law_X2_bestToDeclare ⟨Nat.le_of_ble_eq_true rfl, Nat.le_of_ble_eq_true rfl⟩ (q0 := 0) (As := [.int x8]) (rest := []) (wl := wC g h1 h2 ++ (wB cyI h1 b1 ++ (wB cyI h2 b2_4 ++ wO cyJ z o_5))) (wr := []) (c2 := cells + 1) (s2 := slots + 6) rfl rfl rfl rfl rfl rfl (Nat.le_of_ble_eq_true rfl) rfl rfl ⟨(by show _ ≤ 601024; omega), (by show _ ≤ 7293034; omega)⟩ dL_law_1362 1365 rfl (ws2 := wC g h1 h2 ++ (wB cyI h1 b1 ++ (wB cyI h2 b2_4 ++ (wO cyJ z o_5 ++ wM cyI cyZ h w_10)))) rfl (st2 := [.int x9]) rfl ?_
  refine g_istore C dL_law_1365 1367 rfl (by decide) (lv' := [(6, .int x9), (5, .int x3), (0, .ref b), (1, .ref g), (2, .ref (h 0)), (3, .ref z), (4, .int l4)]) rfl ?_
  refine g_aload_n C dL_law_1367 1368 rfl 4 rfl ?_
  obtain ⟨x12, e13, hf⟩ := bd1_s hf
  refine g_callV1 C (m_X2_thrown hfl (h := h) e13) cf_X2_thrown gL_law_X2_thrown ⟨Nat.le_of_ble_eq_true rfl, Nat.le_of_ble_eq_true rfl⟩ (q0 := 0) (As := []) (rest := []) (wl := wC g h1 h2 ++ (wB cyI h1 b1 ++ (wB cyI h2 b2_4 ++ wO cyJ z o_5))) (wr := []) (c2 := cells + 1) (s2 := slots + 6) rfl rfl rfl rfl rfl rfl (Nat.le_of_ble_eq_true rfl) rfl rfl ⟨(by show _ ≤ 601024; omega), (by show _ ≤ 7293034; omega)⟩ dL_law_1368 1371 rfl (ws2 := wC g h1 h2 ++ (wB cyI h1 b1 ++ (wB cyI h2 b2_4 ++ (wO cyJ z o_5 ++ wM cyI cyZ h w_10)))) rfl (st2 := [.int x12]) rfl ?_
  refine g_iload C dL_law_1371 1373 rfl 1 rfl ?_
  refine g_icmp_eq C dL_law_1373 1378 1376 (by decide) rfl (fun c14 => ?_) (fun c14 => ?_)
  · have hf := ifp c14 hf
    refine g_iload C dL_law_1378 1380 rfl 1 rfl ?_
    refine g_if_ne C dL_law_1380 1395 1383 (by decide) rfl (fun c15 => ?_) (fun c15 => ?_)
    · have hf := ifn c15 hf
      refine g_goto C dL_law_1395 1466 (by decide) ?_
      refine g_lv [2, 3, 4, 5, 6] (lv' := [(0, .ref b), (1, .ref g), (2, .ref (h 0)), (3, .ref z), (4, .int l4)]) rfl ?_
      refine g_wide (c2 := cells + 170) (s2 := slots + 1027) (by omega) (by omega) ?_
      exact hK b1 b2_4 o_5 w_10 hf
    · have hf := ifp c15 hf
      refine g_aload_n C dL_law_1383 1384 rfl 5 rfl ?_
      refine g_iconst C dL_law_1384 1385 rfl ic_0 ?_
      obtain ⟨x17, e16, hf⟩ := bd1_s hf
      refine g_lald C 23 2 rfl rfl e16 dL_law_1385 1386 rfl ?_
      refine g_iload C dL_law_1386 1388 rfl 0 rfl ?_
      refine g_i2l C dL_law_1388 1389 rfl ?_
      refine g_lcmp C dL_law_1389 1390 rfl ?_
      refine g_if_eq C dL_law_1390 1395 1393 (by decide) rfl (fun c18 => ?_) (fun c18 => ?_)
      · have hf := ifp c18 hf
        refine g_goto C dL_law_1395 1466 (by decide) ?_
        refine g_lv [2, 3, 4, 5, 6] (lv' := [(0, .ref b), (1, .ref g), (2, .ref (h 0)), (3, .ref z), (4, .int l4)]) rfl ?_
        refine g_wide (c2 := cells + 170) (s2 := slots + 1027) (by omega) (by omega) ?_
        exact hK b1 b2_4 o_5 w_10 hf
      · have hf := ifn c18 hf
        refine g_iconst C dL_law_1393 1394 rfl ic_0 ?_
        exact absurd (Option.some.inj hf) (by decide)
  · have hf := ifn c14 hf
    refine g_iconst C dL_law_1376 1377 rfl ic_0 ?_
    exact absurd (Option.some.inj hf) (by decide)
set_option maxHeartbeats 4000000 in
set_option maxRecDepth 100000 in
theorem lawc_29 {p : Program} {l : Launch} {e : Env} {s : State} {m : MethodId} {args : Array Value} {below : List Frame} {meth : Method} {c : Code} {Q : State → Prop} {D : va_G} {cyI cyZ cyJ : ClassId} {A : Nat → Prop} {tb : List ExceptionTableEntry} (C : Cx ev_s p l s m args meth c cL_law 9 wsL_law RL D (ty3 cyI cyZ cyJ) A tb) (hfl : l.stackTraces = false) {b L : Nat} {xs : Nat → Int32} (hX : va_X b L xs s s.heap) (hbl : b < s.heap.size) (hbA : ¬ A b) {g z : Nat} {h1 h2 h : Nat → Nat} {l4 : Int32} {b1 b2 : S2} {o : Nat → Int64} {w : S2} {K : S2 → S2 → (Nat → Int64) → S2 → Option Int32} {cells slots : Nat} (hc1 : cells + 170 ≤ 601024) (hc2 : slots + 1027 ≤ 7293034) (hK : ∀ (b1 b2 : S2) (o : Nat → Int64) (w : S2), K b1 b2 o w = some 1 → Gq p l e room_1 s m args below meth c D A 9 Q (wC g h1 h2 ++ (wB cyI h1 b1 ++ (wB cyI h2 b2 ++ (wO cyJ z o ++ wM cyI cyZ h w)))) (cells + 170) (slots + 1027) 1466 [(0, .ref b), (1, .ref g), (2, .ref (h 0)), (3, .ref z), (4, .int l4)] []) (hf : L_law_C29 xs L K l4 b1 b2 o w = some 1) : Gq p l e room_1 s m args below meth c D A 9 Q (wC g h1 h2 ++ (wB cyI h1 b1 ++ (wB cyI h2 b2 ++ (wO cyJ z o ++ wM cyI cyZ h w)))) cells slots 1398 [(0, .ref b), (1, .ref g), (2, .ref (h 0)), (3, .ref z), (4, .int l4)] [] := by
  unfold L_law_C29 at hf
  refine g_aload_n C dL_law_1398 1399 rfl 1 rfl ?_
  obtain ⟨x1, b2_2, e3, hf⟩ := bd2_s hf
  refine g_callV1 C (m_X1_guardsWanted hfl (g := g) (h1 := h1) (h2 := h2) e3) cf_X1_guardsWanted gL_law_X1_guardsWanted ⟨Nat.le_of_ble_eq_true rfl, Nat.le_of_ble_eq_true rfl⟩ (q0 := 0) (As := []) (rest := []) (wl := []) (wr := wO cyJ z o ++ wM cyI cyZ h w) (c2 := cells) (s2 := slots) rfl rfl rfl rfl rfl rfl (Nat.le_of_ble_eq_true rfl) rfl rfl ⟨(by show _ ≤ 601024; omega), (by show _ ≤ 7293034; omega)⟩ dL_law_1399 1402 rfl (ws2 := wC g h1 h2 ++ (wB cyI h1 b1 ++ (wB cyI h2 b2_2 ++ (wO cyJ z o ++ wM cyI cyZ h w)))) rfl (st2 := [.int x1]) rfl ?_
  refine g_aload_n C dL_law_1402 1403 rfl 2 rfl ?_
  obtain ⟨x4, w_5, e6, hf⟩ := bd2_s hf
  refine g_callV1 C (m_X2_guardsWanted hfl (h := h) e6) cf_X2_guardsWanted gL_law_X2_guardsWanted ⟨Nat.le_of_ble_eq_true rfl, Nat.le_of_ble_eq_true rfl⟩ (q0 := 0) (As := []) (rest := [.int x1]) (wl := wC g h1 h2 ++ (wB cyI h1 b1 ++ (wB cyI h2 b2_2 ++ wO cyJ z o))) (wr := []) (c2 := cells) (s2 := slots) rfl rfl rfl rfl rfl rfl (Nat.le_of_ble_eq_true rfl) rfl rfl ⟨(by show _ ≤ 601024; omega), (by show _ ≤ 7293034; omega)⟩ dL_law_1403 1406 rfl (ws2 := wC g h1 h2 ++ (wB cyI h1 b1 ++ (wB cyI h2 b2_2 ++ (wO cyJ z o ++ wM cyI cyZ h w_5)))) rfl (st2 := [.int x4, .int x1]) rfl ?_
  refine g_icmp_eq C dL_law_1406 1466 1409 (by decide) rfl (fun c7 => ?_) (fun c7 => ?_)
  · have hf := ifp c7 hf
    refine g_wide (c2 := cells + 170) (s2 := slots + 1027) (by omega) (by omega) ?_
    exact hK b1 b2_2 o w_5 hf
  · have hf := ifn c7 hf
    refine g_iconst C dL_law_1409 1410 rfl ic_0 ?_
    exact absurd (Option.some.inj hf) (by decide)
set_option maxHeartbeats 4000000 in
set_option maxRecDepth 100000 in
theorem lawc_30 {p : Program} {l : Launch} {e : Env} {s : State} {m : MethodId} {args : Array Value} {below : List Frame} {meth : Method} {c : Code} {Q : State → Prop} {D : va_G} {cyI cyZ cyJ : ClassId} {A : Nat → Prop} {tb : List ExceptionTableEntry} (C : Cx ev_s p l s m args meth c cL_law 9 wsL_law RL D (ty3 cyI cyZ cyJ) A tb) (hfl : l.stackTraces = false) {b L : Nat} {xs : Nat → Int32} (hX : va_X b L xs s s.heap) (hbl : b < s.heap.size) (hbA : ¬ A b) {g z : Nat} {h1 h2 h : Nat → Nat} {l4 : Int32} {b1 b2 : S2} {o : Nat → Int64} {w : S2} {K : S2 → S2 → (Nat → Int64) → S2 → Option Int32} {cells slots : Nat} (hc1 : cells + 170 ≤ 601024) (hc2 : slots + 1027 ≤ 7293034) (hK : ∀ (b1 b2 : S2) (o : Nat → Int64) (w : S2), K b1 b2 o w = some 1 → Gq p l e room_1 s m args below meth c D A 9 Q (wC g h1 h2 ++ (wB cyI h1 b1 ++ (wB cyI h2 b2 ++ (wO cyJ z o ++ wM cyI cyZ h w)))) (cells + 170) (slots + 1027) 1466 [(0, .ref b), (1, .ref g), (2, .ref (h 0)), (3, .ref z), (4, .int l4)] []) (hf : L_law_C30 xs L K l4 b1 b2 o w = some 1) : Gq p l e room_1 s m args below meth c D A 9 Q (wC g h1 h2 ++ (wB cyI h1 b1 ++ (wB cyI h2 b2 ++ (wO cyJ z o ++ wM cyI cyZ h w)))) cells slots 1411 [(0, .ref b), (1, .ref g), (2, .ref (h 0)), (3, .ref z), (4, .int l4)] [] := by
  unfold L_law_C30 at hf
  refine g_aload_n C dL_law_1411 1412 rfl 1 rfl ?_
  obtain ⟨x1, e2, hf⟩ := bd1_s hf
  refine g_callV1 C (m_X1_meanAlertness hfl (g := g) (h1 := h1) (h2 := h2) e2) cf_X1_meanAlertness gL_law_X1_meanAlertness ⟨Nat.le_of_ble_eq_true rfl, Nat.le_of_ble_eq_true rfl⟩ (q0 := 0) (As := []) (rest := []) (wl := []) (wr := wO cyJ z o ++ wM cyI cyZ h w) (c2 := cells) (s2 := slots) rfl rfl rfl rfl rfl rfl (Nat.le_of_ble_eq_true rfl) rfl rfl ⟨(by show _ ≤ 601024; omega), (by show _ ≤ 7293034; omega)⟩ dL_law_1412 1415 rfl (ws2 := wC g h1 h2 ++ (wB cyI h1 b1 ++ (wB cyI h2 b2 ++ (wO cyJ z o ++ wM cyI cyZ h w)))) rfl (st2 := [.double x1]) rfl ?_
  refine g_dstore C dL_law_1415 1417 rfl (by decide) (lv' := [(5, .double x1), (0, .ref b), (1, .ref g), (2, .ref (h 0)), (3, .ref z), (4, .int l4)]) rfl ?_
  refine g_aload_n C dL_law_1417 1418 rfl 3 rfl ?_
  obtain ⟨x3, w_4, e5, hf⟩ := bd2_s hf
  refine g_callV1 C (m_X2_meanAlertness hfl (h := h) e5) cf_X2_meanAlertness gL_law_X2_meanAlertness ⟨Nat.le_of_ble_eq_true rfl, Nat.le_of_ble_eq_true rfl⟩ (q0 := 0) (As := []) (rest := []) (wl := wC g h1 h2 ++ (wB cyI h1 b1 ++ (wB cyI h2 b2 ++ wO cyJ z o))) (wr := []) (c2 := cells) (s2 := slots) rfl rfl rfl rfl rfl rfl (Nat.le_of_ble_eq_true rfl) rfl rfl ⟨(by show _ ≤ 601024; omega), (by show _ ≤ 7293034; omega)⟩ dL_law_1418 1421 rfl (ws2 := wC g h1 h2 ++ (wB cyI h1 b1 ++ (wB cyI h2 b2 ++ (wO cyJ z o ++ wM cyI cyZ h w_4)))) rfl (st2 := [.double x3]) rfl ?_
  refine g_dstore C dL_law_1421 1423 rfl (by decide) (lv' := [(7, .double x3), (5, .double x1), (0, .ref b), (1, .ref g), (2, .ref (h 0)), (3, .ref z), (4, .int l4)]) rfl ?_
  refine g_dload C dL_law_1423 1425 rfl 1 rfl ?_
  refine g_dload C dL_law_1425 1427 rfl 0 rfl ?_
  refine g_dcmp C dL_law_1427 1428 rfl ?_
  refine g_if_eq C dL_law_1428 1449 1431 (by decide) rfl (fun c6 => ?_) (fun c6 => ?_)
  · have hf := ifp c6 hf
    refine g_goto C dL_law_1449 1466 (by decide) ?_
    refine g_lv [2, 3, 4, 5, 6] (lv' := [(0, .ref b), (1, .ref g), (2, .ref (h 0)), (3, .ref z), (4, .int l4)]) rfl ?_
    refine g_wide (c2 := cells + 170) (s2 := slots + 1027) (by omega) (by omega) ?_
    exact hK b1 b2 o w_4 hf
  · have hf := ifn c6 hf
    refine g_dload C dL_law_1431 1433 rfl 1 rfl ?_
    refine g_dload C dL_law_1433 1435 rfl 1 rfl ?_
    refine g_dcmp C dL_law_1435 1436 rfl ?_
    refine g_if_eq C dL_law_1436 1447 1439 (by decide) rfl (fun c7 => ?_) (fun c7 => ?_)
    · have hf := ifp c7 hf
      refine g_iconst C dL_law_1447 1448 rfl ic_0 ?_
      exact absurd (Option.some.inj hf) (by decide)
    · have hf := ifn c7 hf
      refine g_dload C dL_law_1439 1441 rfl 0 rfl ?_
      refine g_dload C dL_law_1441 1443 rfl 0 rfl ?_
      refine g_dcmp C dL_law_1443 1444 rfl ?_
      refine g_if_ne C dL_law_1444 1449 1447 (by decide) rfl (fun c8 => ?_) (fun c8 => ?_)
      · have hf := ifn c8 hf
        refine g_goto C dL_law_1449 1466 (by decide) ?_
        refine g_lv [2, 3, 4, 5, 6] (lv' := [(0, .ref b), (1, .ref g), (2, .ref (h 0)), (3, .ref z), (4, .int l4)]) rfl ?_
        refine g_wide (c2 := cells + 170) (s2 := slots + 1027) (by omega) (by omega) ?_
        exact hK b1 b2 o w_4 hf
      · have hf := ifp c8 hf
        refine g_iconst C dL_law_1447 1448 rfl ic_0 ?_
        exact absurd (Option.some.inj hf) (by decide)
set_option maxHeartbeats 4000000 in
set_option maxRecDepth 100000 in
theorem lawc_31 {p : Program} {l : Launch} {e : Env} {s : State} {m : MethodId} {args : Array Value} {below : List Frame} {meth : Method} {c : Code} {Q : State → Prop} {D : va_G} {cyI cyZ cyJ : ClassId} {A : Nat → Prop} {tb : List ExceptionTableEntry} (C : Cx ev_s p l s m args meth c cL_law 9 wsL_law RL D (ty3 cyI cyZ cyJ) A tb) (hfl : l.stackTraces = false) {b L : Nat} {xs : Nat → Int32} (hX : va_X b L xs s s.heap) (hbl : b < s.heap.size) (hbA : ¬ A b) {g z : Nat} {h1 h2 h : Nat → Nat} {l4 : Int32} {b1 b2 : S2} {o : Nat → Int64} {w : S2} {K : S2 → S2 → (Nat → Int64) → S2 → Option Int32} {cells slots : Nat} (hc1 : cells + 170 ≤ 601024) (hc2 : slots + 1027 ≤ 7293034) (hK : ∀ (b1 b2 : S2) (o : Nat → Int64) (w : S2), K b1 b2 o w = some 1 → Gq p l e room_1 s m args below meth c D A 9 Q (wC g h1 h2 ++ (wB cyI h1 b1 ++ (wB cyI h2 b2 ++ (wO cyJ z o ++ wM cyI cyZ h w)))) (cells + 170) (slots + 1027) 1466 [(0, .ref b), (1, .ref g), (2, .ref (h 0)), (3, .ref z), (4, .int l4)] []) (hf : L_law_C31 xs L K l4 b1 b2 o w = some 1) : Gq p l e room_1 s m args below meth c D A 9 Q (wC g h1 h2 ++ (wB cyI h1 b1 ++ (wB cyI h2 b2 ++ (wO cyJ z o ++ wM cyI cyZ h w)))) cells slots 1452 [(0, .ref b), (1, .ref g), (2, .ref (h 0)), (3, .ref z), (4, .int l4)] [] := by
  unfold L_law_C31 at hf
  refine g_aload_n C dL_law_1452 1453 rfl 1 rfl ?_
  obtain ⟨x1, b2_2, e3, hf⟩ := bz2_s hf
  refine g_callV1 C (m_X1_digest_r hfl (g := g) (h1 := h1) (h2 := h2) e3) cf_X1_digest gL_law_X1_digest ⟨Nat.le_of_ble_eq_true rfl, Nat.le_of_ble_eq_true rfl⟩ (q0 := 0) (As := []) (rest := []) (wl := []) (wr := wO cyJ z o ++ wM cyI cyZ h w) (c2 := cells + 144) (s2 := slots + 864) rfl rfl rfl rfl rfl rfl (Nat.le_of_ble_eq_true rfl) rfl rfl ⟨(by show _ ≤ 601024; omega), (by show _ ≤ 7293034; omega)⟩ dL_law_1453 1456 rfl (ws2 := wC g h1 h2 ++ (wB cyI h1 b1 ++ (wB cyI h2 b2_2 ++ (wO cyJ z o ++ wM cyI cyZ h w)))) rfl (st2 := [.long x1]) rfl ?_
  refine g_aload_n C dL_law_1456 1457 rfl 2 rfl ?_
  obtain ⟨x5, w_6, e7, hf⟩ := bd2_s hf
  refine g_callV1 C (m_X2_digest hfl (h := h) e7) cf_X2_digest gL_law_X2_digest ⟨Nat.le_of_ble_eq_true rfl, Nat.le_of_ble_eq_true rfl⟩ (q0 := 0) (As := []) (rest := [.long x1]) (wl := wC g h1 h2 ++ (wB cyI h1 b1 ++ (wB cyI h2 b2_2 ++ wO cyJ z o))) (wr := []) (c2 := cells + 170) (s2 := slots + 1027) rfl rfl rfl rfl rfl rfl (Nat.le_of_ble_eq_true rfl) rfl rfl ⟨(by show _ ≤ 601024; omega), (by show _ ≤ 7293034; omega)⟩ dL_law_1457 1460 rfl (ws2 := wC g h1 h2 ++ (wB cyI h1 b1 ++ (wB cyI h2 b2_2 ++ (wO cyJ z o ++ wM cyI cyZ h w_6)))) rfl (st2 := [.long x5, .long x1]) rfl ?_
  refine g_lcmp C dL_law_1460 1461 rfl ?_
  refine g_if_eq C dL_law_1461 1466 1464 (by decide) rfl (fun c8 => ?_) (fun c8 => ?_)
  · have hf := ifp c8 hf
    refine g_wide (c2 := cells + 170) (s2 := slots + 1027) (by omega) (by omega) ?_
    exact hK b1 b2_2 o w_6 hf
  · have hf := ifn c8 hf
    refine g_iconst C dL_law_1464 1465 rfl ic_0 ?_
    exact absurd (Option.some.inj hf) (by decide)
set_option maxHeartbeats 4000000 in
set_option maxRecDepth 100000 in
theorem law_loop {p : Program} {l : Launch} {e : Env} {s : State} {m : MethodId} {args : Array Value} {below : List Frame} {meth : Method} {c : Code} {Q : State → Prop} {D : va_G} {cyI cyZ cyJ : ClassId} {A : Nat → Prop} {tb : List ExceptionTableEntry} (C : Cx ev_s p l s m args meth c cL_law 9 wsL_law RL D (ty3 cyI cyZ cyJ) A tb) (hfl : l.stackTraces = false) {b L : Nat} {xs : Nat → Int32} (hX : va_X b L xs s s.heap) (hbl : b < s.heap.size) (hbA : ¬ A b) {g z : Nat} {h1 h2 h : Nat → Nat} (hEnd : ∀ (l4 : Int32) (b1 b2 : S2) (o : Nat → Int64) (w : S2) (cells slots : Nat), cells ≤ 601024 → slots ≤ 7293034 → Gq p l e room_1 s m args below meth c D A 9 Q (wC g h1 h2 ++ (wB cyI h1 b1 ++ (wB cyI h2 b2 ++ (wO cyJ z o ++ wM cyI cyZ h w)))) cells slots 1472 [(0, .ref b), (1, .ref g), (2, .ref (h 0)), (3, .ref z), (4, .int l4)] []) : ∀ (n : Nat) (l4 : Int32) (b1 b2 : S2) (o : Nat → Int64) (w : S2) (cells slots : Nat), cells + n * 170 ≤ 601024 → slots + n * 1027 ≤ 7293034 → L_law_L23 xs L n l4 b1 b2 o w = some 1 → Gq p l e room_1 s m args below meth c D A 9 Q (wC g h1 h2 ++ (wB cyI h1 b1 ++ (wB cyI h2 b2 ++ (wO cyJ z o ++ wM cyI cyZ h w)))) cells slots 23 [(0, .ref b), (1, .ref g), (2, .ref (h 0)), (3, .ref z), (4, .int l4)] [] := by
  intro n
  induction n with
  | zero => intro l4 b1 b2 o w cells slots hc1 hc2 hf; simp [L_law_L23] at hf
  | succ n ih =>
    intro l4 b1 b2 o w cells slots hc1 hc2 hf
    rw [L_law_L23] at hf
    refine g_iload C dL_law_23 25 rfl 4 rfl ?_
    refine g_aload_n C dL_law_25 26 rfl 0 rfl ?_
    refine g_slen C hX hbl hbA dL_law_26 27 rfl ?_
    refine g_iconst C dL_law_27 28 rfl ic_5 ?_
    refine g_isub C dL_law_28 29 rfl ?_
    refine g_icmp_gt C dL_law_29 1472 32 (by decide) rfl (fun c1 => ?_) (fun c1 => ?_)
    · exact hEnd l4 b1 b2 o w cells slots (by omega) (by omega)
    · have hf := ifn c1 hf
      obtain ⟨x, e1, hf⟩ := bd1_s hf
      refine g_aload_n C dL_law_32 33 rfl 0 rfl ?_
      refine g_iload C dL_law_33 35 rfl 4 rfl ?_
      refine g_sld C hX hbl hbA e1 dL_law_35 36 rfl ?_
      refine g_bipush C dL_law_36 38 rfl (v := 31) (by decide) ?_
      refine g_iand C dL_law_38 39 rfl ?_
      have hJ : ∀ (b1 b2 : S2) (o : Nat → Int64) (w : S2), L_law_L23 xs L n (l4 + 5) b1 b2 o w = some 1 → Gq p l e room_1 s m args below meth c D A 9 Q (wC g h1 h2 ++ (wB cyI h1 b1 ++ (wB cyI h2 b2 ++ (wO cyJ z o ++ wM cyI cyZ h w)))) (cells + 170) (slots + 1027) 1466 [(0, .ref b), (1, .ref g), (2, .ref (h 0)), (3, .ref z), (4, .int l4)] [] := by
        intro b1 b2 o w hf
        refine g_iinc C dL_law_1466 1469 rfl 4 rfl (ii_5 _) (by decide) (lv' := [(4, .int (l4 + 5)), (0, .ref b), (1, .ref g), (2, .ref (h 0)), (3, .ref z)]) rfl ?_
        refine g_goto C dL_law_1469 23 (by decide) ?_
        refine g_lv [1, 2, 3, 4, 0] (lv' := [(0, .ref b), (1, .ref g), (2, .ref (h 0)), (3, .ref z), (4, .int (l4 + 5))]) rfl ?_
        exact ih (l4 + 5) b1 b2 o w (cells + 170) (slots + 1027) (by omega) (by omega) hf
      by_cases q0 : (x &&& 31) = 0
      · have hf := ifp q0 hf
        refine g_tab C q0 dL_law_39 (by decide) (by decide) rfl 180 (by decide) ?_
        exact lawc_0 C hfl hX hbl hbA (K := (fun b1 b2 o w => L_law_L23 xs L n (l4 + 5) b1 b2 o w)) (by omega) (by omega) hJ hf
      · have hf := ifn q0 hf
        by_cases q1 : (x &&& 31) = 1
        · have hf := ifp q1 hf
          refine g_tab C q1 dL_law_39 (by decide) (by decide) rfl 224 (by decide) ?_
          exact lawc_1 C hfl hX hbl hbA (K := (fun b1 b2 o w => L_law_L23 xs L n (l4 + 5) b1 b2 o w)) (by omega) (by omega) hJ hf
        · have hf := ifn q1 hf
          by_cases q2 : (x &&& 31) = 2
          · have hf := ifp q2 hf
            refine g_tab C q2 dL_law_39 (by decide) (by decide) rfl 316 (by decide) ?_
            exact lawc_2 C hfl hX hbl hbA (K := (fun b1 b2 o w => L_law_L23 xs L n (l4 + 5) b1 b2 o w)) (by omega) (by omega) hJ hf
          · have hf := ifn q2 hf
            by_cases q3 : (x &&& 31) = 3
            · have hf := ifp q3 hf
              refine g_tab C q3 dL_law_39 (by decide) (by decide) rfl 384 (by decide) ?_
              exact lawc_3 C hfl hX hbl hbA (K := (fun b1 b2 o w => L_law_L23 xs L n (l4 + 5) b1 b2 o w)) (by omega) (by omega) hJ hf
            · have hf := ifn q3 hf
              by_cases q4 : (x &&& 31) = 4
              · have hf := ifp q4 hf
                refine g_tab C q4 dL_law_39 (by decide) (by decide) rfl 452 (by decide) ?_
                exact lawc_4 C hfl hX hbl hbA (K := (fun b1 b2 o w => L_law_L23 xs L n (l4 + 5) b1 b2 o w)) (by omega) (by omega) hJ hf
              · have hf := ifn q4 hf
                by_cases q5 : (x &&& 31) = 5
                · have hf := ifp q5 hf
                  refine g_tab C q5 dL_law_39 (by decide) (by decide) rfl 508 (by decide) ?_
                  exact lawc_5 C hfl hX hbl hbA (K := (fun b1 b2 o w => L_law_L23 xs L n (l4 + 5) b1 b2 o w)) (by omega) (by omega) hJ hf
                · have hf := ifn q5 hf
                  by_cases q6 : (x &&& 31) = 6
                  · have hf := ifp q6 hf
                    refine g_tab C q6 dL_law_39 (by decide) (by decide) rfl 564 (by decide) ?_
                    exact lawc_6 C hfl hX hbl hbA (K := (fun b1 b2 o w => L_law_L23 xs L n (l4 + 5) b1 b2 o w)) (by omega) (by omega) hJ hf
                  · have hf := ifn q6 hf
                    by_cases q7 : (x &&& 31) = 7
                    · have hf := ifp q7 hf
                      refine g_tab C q7 dL_law_39 (by decide) (by decide) rfl 577 (by decide) ?_
                      exact lawc_7 C hfl hX hbl hbA (K := (fun b1 b2 o w => L_law_L23 xs L n (l4 + 5) b1 b2 o w)) (by omega) (by omega) hJ hf
                    · have hf := ifn q7 hf
                      by_cases q8 : (x &&& 31) = 8
                      · have hf := ifp q8 hf
                        refine g_tab C q8 dL_law_39 (by decide) (by decide) rfl 590 (by decide) ?_
                        exact lawc_8 C hfl hX hbl hbA (K := (fun b1 b2 o w => L_law_L23 xs L n (l4 + 5) b1 b2 o w)) (by omega) (by omega) hJ hf
                      · have hf := ifn q8 hf
                        by_cases q9 : (x &&& 31) = 9
                        · have hf := ifp q9 hf
                          refine g_tab C q9 dL_law_39 (by decide) (by decide) rfl 603 (by decide) ?_
                          exact lawc_9 C hfl hX hbl hbA (K := (fun b1 b2 o w => L_law_L23 xs L n (l4 + 5) b1 b2 o w)) (by omega) (by omega) hJ hf
                        · have hf := ifn q9 hf
                          by_cases q10 : (x &&& 31) = 10
                          · have hf := ifp q10 hf
                            refine g_tab C q10 dL_law_39 (by decide) (by decide) rfl 616 (by decide) ?_
                            exact lawc_10 C hfl hX hbl hbA (K := (fun b1 b2 o w => L_law_L23 xs L n (l4 + 5) b1 b2 o w)) (by omega) (by omega) hJ hf
                          · have hf := ifn q10 hf
                            by_cases q11 : (x &&& 31) = 11
                            · have hf := ifp q11 hf
                              refine g_tab C q11 dL_law_39 (by decide) (by decide) rfl 629 (by decide) ?_
                              exact lawc_11 C hfl hX hbl hbA (K := (fun b1 b2 o w => L_law_L23 xs L n (l4 + 5) b1 b2 o w)) (by omega) (by omega) hJ hf
                            · have hf := ifn q11 hf
                              by_cases q12 : (x &&& 31) = 12
                              · have hf := ifp q12 hf
                                refine g_tab C q12 dL_law_39 (by decide) (by decide) rfl 642 (by decide) ?_
                                exact lawc_12 C hfl hX hbl hbA (K := (fun b1 b2 o w => L_law_L23 xs L n (l4 + 5) b1 b2 o w)) (by omega) (by omega) hJ hf
                              · have hf := ifn q12 hf
                                by_cases q13 : (x &&& 31) = 13
                                · have hf := ifp q13 hf
                                  refine g_tab C q13 dL_law_39 (by decide) (by decide) rfl 655 (by decide) ?_
                                  exact lawc_13 C hfl hX hbl hbA (K := (fun b1 b2 o w => L_law_L23 xs L n (l4 + 5) b1 b2 o w)) (by omega) (by omega) hJ hf
                                · have hf := ifn q13 hf
                                  by_cases q14 : (x &&& 31) = 14
                                  · have hf := ifp q14 hf
                                    refine g_tab C q14 dL_law_39 (by decide) (by decide) rfl 668 (by decide) ?_
                                    exact lawc_14 C hfl hX hbl hbA (K := (fun b1 b2 o w => L_law_L23 xs L n (l4 + 5) b1 b2 o w)) (by omega) (by omega) hJ hf
                                  · have hf := ifn q14 hf
                                    by_cases q15 : (x &&& 31) = 15
                                    · have hf := ifp q15 hf
                                      refine g_tab C q15 dL_law_39 (by decide) (by decide) rfl 681 (by decide) ?_
                                      exact lawc_15 C hfl hX hbl hbA (K := (fun b1 b2 o w => L_law_L23 xs L n (l4 + 5) b1 b2 o w)) (by omega) (by omega) hJ hf
                                    · have hf := ifn q15 hf
                                      by_cases q16 : (x &&& 31) = 16
                                      · have hf := ifp q16 hf
                                        refine g_tab C q16 dL_law_39 (by decide) (by decide) rfl 737 (by decide) ?_
                                        exact lawc_16 C hfl hX hbl hbA (K := (fun b1 b2 o w => L_law_L23 xs L n (l4 + 5) b1 b2 o w)) (by omega) (by omega) hJ hf
                                      · have hf := ifn q16 hf
                                        by_cases q17 : (x &&& 31) = 17
                                        · have hf := ifp q17 hf
                                          refine g_tab C q17 dL_law_39 (by decide) (by decide) rfl 793 (by decide) ?_
                                          exact lawc_17 C hfl hX hbl hbA (K := (fun b1 b2 o w => L_law_L23 xs L n (l4 + 5) b1 b2 o w)) (by omega) (by omega) hJ hf
                                        · have hf := ifn q17 hf
                                          by_cases q18 : (x &&& 31) = 18
                                          · have hf := ifp q18 hf
                                            refine g_tab C q18 dL_law_39 (by decide) (by decide) rfl 849 (by decide) ?_
                                            exact lawc_18 C hfl hX hbl hbA (K := (fun b1 b2 o w => L_law_L23 xs L n (l4 + 5) b1 b2 o w)) (by omega) (by omega) hJ hf
                                          · have hf := ifn q18 hf
                                            by_cases q19 : (x &&& 31) = 19
                                            · have hf := ifp q19 hf
                                              refine g_tab C q19 dL_law_39 (by decide) (by decide) rfl 905 (by decide) ?_
                                              exact lawc_19 C hfl hX hbl hbA (K := (fun b1 b2 o w => L_law_L23 xs L n (l4 + 5) b1 b2 o w)) (by omega) (by omega) hJ hf
                                            · have hf := ifn q19 hf
                                              by_cases q20 : (x &&& 31) = 20
                                              · have hf := ifp q20 hf
                                                refine g_tab C q20 dL_law_39 (by decide) (by decide) rfl 961 (by decide) ?_
                                                exact lawc_20 C hfl hX hbl hbA (K := (fun b1 b2 o w => L_law_L23 xs L n (l4 + 5) b1 b2 o w)) (by omega) (by omega) hJ hf
                                              · have hf := ifn q20 hf
                                                by_cases q21 : (x &&& 31) = 21
                                                · have hf := ifp q21 hf
                                                  refine g_tab C q21 dL_law_39 (by decide) (by decide) rfl 974 (by decide) ?_
                                                  exact lawc_21 C hfl hX hbl hbA (K := (fun b1 b2 o w => L_law_L23 xs L n (l4 + 5) b1 b2 o w)) (by omega) (by omega) hJ hf
                                                · have hf := ifn q21 hf
                                                  by_cases q22 : (x &&& 31) = 22
                                                  · have hf := ifp q22 hf
                                                    refine g_tab C q22 dL_law_39 (by decide) (by decide) rfl 1030 (by decide) ?_
                                                    exact lawc_22 C hfl hX hbl hbA (K := (fun b1 b2 o w => L_law_L23 xs L n (l4 + 5) b1 b2 o w)) (by omega) (by omega) hJ hf
                                                  · have hf := ifn q22 hf
                                                    by_cases q23 : (x &&& 31) = 23
                                                    · have hf := ifp q23 hf
                                                      refine g_tab C q23 dL_law_39 (by decide) (by decide) rfl 1086 (by decide) ?_
                                                      exact lawc_23 C hfl hX hbl hbA (K := (fun b1 b2 o w => L_law_L23 xs L n (l4 + 5) b1 b2 o w)) (by omega) (by omega) hJ hf
                                                    · have hf := ifn q23 hf
                                                      by_cases q24 : (x &&& 31) = 24
                                                      · have hf := ifp q24 hf
                                                        refine g_tab C q24 dL_law_39 (by decide) (by decide) rfl 1142 (by decide) ?_
                                                        exact lawc_24 C hfl hX hbl hbA (K := (fun b1 b2 o w => L_law_L23 xs L n (l4 + 5) b1 b2 o w)) (by omega) (by omega) hJ hf
                                                      · have hf := ifn q24 hf
                                                        by_cases q25 : (x &&& 31) = 25
                                                        · have hf := ifp q25 hf
                                                          refine g_tab C q25 dL_law_39 (by decide) (by decide) rfl 1217 (by decide) ?_
                                                          exact lawc_25 C hfl hX hbl hbA (K := (fun b1 b2 o w => L_law_L23 xs L n (l4 + 5) b1 b2 o w)) (by omega) (by omega) hJ hf
                                                        · have hf := ifn q25 hf
                                                          by_cases q26 : (x &&& 31) = 26
                                                          · have hf := ifp q26 hf
                                                            refine g_tab C q26 dL_law_39 (by decide) (by decide) rfl 1230 (by decide) ?_
                                                            exact lawc_26 C hfl hX hbl hbA (K := (fun b1 b2 o w => L_law_L23 xs L n (l4 + 5) b1 b2 o w)) (by omega) (by omega) hJ hf
                                                          · have hf := ifn q26 hf
                                                            by_cases q27 : (x &&& 31) = 27
                                                            · have hf := ifp q27 hf
                                                              refine g_tab C q27 dL_law_39 (by decide) (by decide) rfl 1286 (by decide) ?_
                                                              exact lawc_27 C hfl hX hbl hbA (K := (fun b1 b2 o w => L_law_L23 xs L n (l4 + 5) b1 b2 o w)) (by omega) (by omega) hJ hf
                                                            · have hf := ifn q27 hf
                                                              by_cases q28 : (x &&& 31) = 28
                                                              · have hf := ifp q28 hf
                                                                refine g_tab C q28 dL_law_39 (by decide) (by decide) rfl 1342 (by decide) ?_
                                                                exact lawc_28 C hfl hX hbl hbA (K := (fun b1 b2 o w => L_law_L23 xs L n (l4 + 5) b1 b2 o w)) (by omega) (by omega) hJ hf
                                                              · have hf := ifn q28 hf
                                                                by_cases q29 : (x &&& 31) = 29
                                                                · have hf := ifp q29 hf
                                                                  refine g_tab C q29 dL_law_39 (by decide) (by decide) rfl 1398 (by decide) ?_
                                                                  exact lawc_29 C hfl hX hbl hbA (K := (fun b1 b2 o w => L_law_L23 xs L n (l4 + 5) b1 b2 o w)) (by omega) (by omega) hJ hf
                                                                · have hf := ifn q29 hf
                                                                  by_cases q30 : (x &&& 31) = 30
                                                                  · have hf := ifp q30 hf
                                                                    refine g_tab C q30 dL_law_39 (by decide) (by decide) rfl 1411 (by decide) ?_
                                                                    exact lawc_30 C hfl hX hbl hbA (K := (fun b1 b2 o w => L_law_L23 xs L n (l4 + 5) b1 b2 o w)) (by omega) (by omega) hJ hf
                                                                  · have hf := ifn q30 hf
                                                                    by_cases q31 : (x &&& 31) = 31
                                                                    · have hf := ifp q31 hf
                                                                      refine g_tab C q31 dL_law_39 (by decide) (by decide) rfl 1452 (by decide) ?_
                                                                      exact lawc_31 C hfl hX hbl hbA (K := (fun b1 b2 o w => L_law_L23 xs L n (l4 + 5) b1 b2 o w)) (by omega) (by omega) hJ hf
                                                                    · have hf := ifn q31 hf
                                                                      cases hf
