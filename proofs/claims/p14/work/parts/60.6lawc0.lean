section WLC
def wk606lawc0_code_192 : ByteArray := .mk #[0x00, 0x00, 0x05, 0x61, 0x00, 0x00, 0x05, 0x6e, 0x2b, 0x2a, 0x15, 0x04, 0x04, 0x60, 0x2e, 0x2a, 0x15, 0x04, 0x05, 0x60, 0x2e, 0x2a, 0x15, 0x04, 0x06, 0x60, 0x2e, 0x2a, 0x15, 0x04, 0x07, 0x60, 0x2e, 0x2a, 0x15, 0x04, 0x08, 0x60, 0x2e, 0xb6, 0x00, 0x6e, 0x57, 0x2c, 0x2a, 0x15, 0x04, 0x04]
theorem wk606lawc0_code_192_c : wt_ck code wk606lawc0_code_192 192 := wt_ck_of 48 (by decide) (by decide +kernel) (by decide +kernel)
theorem wld_200 : decode code 200 = .ok (.aload_n 1, 1) := wt_dc wk606lawc0_code_192_c 8 200 rfl (by decide +kernel)
theorem wld_201 : decode code 201 = .ok (.aload_n 0, 1) := wt_dc wk606lawc0_code_192_c 9 201 rfl (by decide +kernel)
theorem wld_202 : decode code 202 = .ok (.iload 4, 2) := wt_dc wk606lawc0_code_192_c 10 202 rfl (by decide +kernel)
theorem wld_204 : decode code 204 = .ok (.iconst 1, 1) := wt_dc wk606lawc0_code_192_c 12 204 rfl (by decide +kernel)
theorem wld_205 : decode code 205 = .ok (.iadd, 1) := wt_dc wk606lawc0_code_192_c 13 205 rfl (by decide +kernel)
theorem wld_206 : decode code 206 = .ok (.iaload, 1) := wt_dc wk606lawc0_code_192_c 14 206 rfl (by decide +kernel)
theorem wld_207 : decode code 207 = .ok (.aload_n 0, 1) := wt_dc wk606lawc0_code_192_c 15 207 rfl (by decide +kernel)
theorem wld_208 : decode code 208 = .ok (.iload 4, 2) := wt_dc wk606lawc0_code_192_c 16 208 rfl (by decide +kernel)
theorem wld_210 : decode code 210 = .ok (.iconst 2, 1) := wt_dc wk606lawc0_code_192_c 18 210 rfl (by decide +kernel)
theorem wld_211 : decode code 211 = .ok (.iadd, 1) := wt_dc wk606lawc0_code_192_c 19 211 rfl (by decide +kernel)
theorem wld_212 : decode code 212 = .ok (.iaload, 1) := wt_dc wk606lawc0_code_192_c 20 212 rfl (by decide +kernel)
theorem wld_213 : decode code 213 = .ok (.aload_n 0, 1) := wt_dc wk606lawc0_code_192_c 21 213 rfl (by decide +kernel)
theorem wld_214 : decode code 214 = .ok (.iload 4, 2) := wt_dc wk606lawc0_code_192_c 22 214 rfl (by decide +kernel)
theorem wld_216 : decode code 216 = .ok (.iconst 3, 1) := wt_dc wk606lawc0_code_192_c 24 216 rfl (by decide +kernel)
theorem wld_217 : decode code 217 = .ok (.iadd, 1) := wt_dc wk606lawc0_code_192_c 25 217 rfl (by decide +kernel)
theorem wld_218 : decode code 218 = .ok (.iaload, 1) := wt_dc wk606lawc0_code_192_c 26 218 rfl (by decide +kernel)
theorem wld_219 : decode code 219 = .ok (.aload_n 0, 1) := wt_dc wk606lawc0_code_192_c 27 219 rfl (by decide +kernel)
theorem wld_220 : decode code 220 = .ok (.iload 4, 2) := wt_dc wk606lawc0_code_192_c 28 220 rfl (by decide +kernel)
theorem wld_222 : decode code 222 = .ok (.iconst 4, 1) := wt_dc wk606lawc0_code_192_c 30 222 rfl (by decide +kernel)
theorem wld_223 : decode code 223 = .ok (.iadd, 1) := wt_dc wk606lawc0_code_192_c 31 223 rfl (by decide +kernel)
def wk606lawc0_code_224 : ByteArray := .mk #[0x2e, 0x2a, 0x15, 0x04, 0x08, 0x60, 0x2e, 0xb6, 0x00, 0x6e, 0x57, 0x2c, 0x2a, 0x15, 0x04, 0x04, 0x60, 0x2e, 0x2a, 0x15, 0x04, 0x05, 0x60, 0x2e, 0x2a, 0x15, 0x04, 0x06, 0x60, 0x2e, 0x2a, 0x15, 0x04, 0x07, 0x60, 0x2e, 0x2a, 0x15, 0x04, 0x08, 0x60, 0x2e, 0xb6, 0x00, 0x72, 0x57, 0xa7, 0x04]
theorem wk606lawc0_code_224_c : wt_ck code wk606lawc0_code_224 224 := wt_ck_of 48 (by decide) (by decide +kernel) (by decide +kernel)
theorem wld_224 : decode code 224 = .ok (.iaload, 1) := wt_dc wk606lawc0_code_224_c 0 224 rfl (by decide +kernel)
theorem wld_225 : decode code 225 = .ok (.aload_n 0, 1) := wt_dc wk606lawc0_code_224_c 1 225 rfl (by decide +kernel)
theorem wld_226 : decode code 226 = .ok (.iload 4, 2) := wt_dc wk606lawc0_code_224_c 2 226 rfl (by decide +kernel)
theorem wld_228 : decode code 228 = .ok (.iconst 5, 1) := wt_dc wk606lawc0_code_224_c 4 228 rfl (by decide +kernel)
theorem wld_229 : decode code 229 = .ok (.iadd, 1) := wt_dc wk606lawc0_code_224_c 5 229 rfl (by decide +kernel)
theorem wld_230 : decode code 230 = .ok (.iaload, 1) := wt_dc wk606lawc0_code_224_c 6 230 rfl (by decide +kernel)
theorem wld_231 : decode code 231 = .ok (.invokevirtual 110, 3) := wt_dc wk606lawc0_code_224_c 7 231 rfl (by decide +kernel)
theorem wld_234 : decode code 234 = .ok (.pop, 1) := wt_dc wk606lawc0_code_224_c 10 234 rfl (by decide +kernel)
theorem wld_235 : decode code 235 = .ok (.aload_n 2, 1) := wt_dc wk606lawc0_code_224_c 11 235 rfl (by decide +kernel)
theorem wld_236 : decode code 236 = .ok (.aload_n 0, 1) := wt_dc wk606lawc0_code_224_c 12 236 rfl (by decide +kernel)
theorem wld_237 : decode code 237 = .ok (.iload 4, 2) := wt_dc wk606lawc0_code_224_c 13 237 rfl (by decide +kernel)
theorem wld_239 : decode code 239 = .ok (.iconst 1, 1) := wt_dc wk606lawc0_code_224_c 15 239 rfl (by decide +kernel)
theorem wld_240 : decode code 240 = .ok (.iadd, 1) := wt_dc wk606lawc0_code_224_c 16 240 rfl (by decide +kernel)
theorem wld_241 : decode code 241 = .ok (.iaload, 1) := wt_dc wk606lawc0_code_224_c 17 241 rfl (by decide +kernel)
theorem wld_242 : decode code 242 = .ok (.aload_n 0, 1) := wt_dc wk606lawc0_code_224_c 18 242 rfl (by decide +kernel)
theorem wld_243 : decode code 243 = .ok (.iload 4, 2) := wt_dc wk606lawc0_code_224_c 19 243 rfl (by decide +kernel)
theorem wld_245 : decode code 245 = .ok (.iconst 2, 1) := wt_dc wk606lawc0_code_224_c 21 245 rfl (by decide +kernel)
theorem wld_246 : decode code 246 = .ok (.iadd, 1) := wt_dc wk606lawc0_code_224_c 22 246 rfl (by decide +kernel)
theorem wld_247 : decode code 247 = .ok (.iaload, 1) := wt_dc wk606lawc0_code_224_c 23 247 rfl (by decide +kernel)
theorem wld_248 : decode code 248 = .ok (.aload_n 0, 1) := wt_dc wk606lawc0_code_224_c 24 248 rfl (by decide +kernel)
theorem wld_249 : decode code 249 = .ok (.iload 4, 2) := wt_dc wk606lawc0_code_224_c 25 249 rfl (by decide +kernel)
theorem wld_251 : decode code 251 = .ok (.iconst 3, 1) := wt_dc wk606lawc0_code_224_c 27 251 rfl (by decide +kernel)
theorem wld_252 : decode code 252 = .ok (.iadd, 1) := wt_dc wk606lawc0_code_224_c 28 252 rfl (by decide +kernel)
theorem wld_253 : decode code 253 = .ok (.iaload, 1) := wt_dc wk606lawc0_code_224_c 29 253 rfl (by decide +kernel)
theorem wld_254 : decode code 254 = .ok (.aload_n 0, 1) := wt_dc wk606lawc0_code_224_c 30 254 rfl (by decide +kernel)
theorem wld_255 : decode code 255 = .ok (.iload 4, 2) := wt_dc wk606lawc0_code_224_c 31 255 rfl (by decide +kernel)
def wk606lawc0_code_256 : ByteArray := .mk #[0x04, 0x07, 0x60, 0x2e, 0x2a, 0x15, 0x04, 0x08, 0x60, 0x2e, 0xb6, 0x00, 0x72, 0x57, 0xa7, 0x04, 0xa1, 0x2b, 0x2a, 0x15, 0x04, 0x04, 0x60, 0x2e, 0x2d, 0xb8, 0x00, 0x73, 0x36, 0x05, 0x2c, 0x2a, 0x15, 0x04, 0x04, 0x60, 0x2e, 0xb6, 0x00, 0x78, 0x36, 0x06, 0xa7, 0x04, 0x85, 0x2b, 0x2a, 0x15]
theorem wk606lawc0_code_256_c : wt_ck code wk606lawc0_code_256 256 := wt_ck_of 48 (by decide) (by decide +kernel) (by decide +kernel)
theorem wld_257 : decode code 257 = .ok (.iconst 4, 1) := wt_dc wk606lawc0_code_256_c 1 257 rfl (by decide +kernel)
theorem wld_258 : decode code 258 = .ok (.iadd, 1) := wt_dc wk606lawc0_code_256_c 2 258 rfl (by decide +kernel)
theorem wld_259 : decode code 259 = .ok (.iaload, 1) := wt_dc wk606lawc0_code_256_c 3 259 rfl (by decide +kernel)
theorem wld_260 : decode code 260 = .ok (.aload_n 0, 1) := wt_dc wk606lawc0_code_256_c 4 260 rfl (by decide +kernel)
theorem wld_261 : decode code 261 = .ok (.iload 4, 2) := wt_dc wk606lawc0_code_256_c 5 261 rfl (by decide +kernel)
theorem wld_263 : decode code 263 = .ok (.iconst 5, 1) := wt_dc wk606lawc0_code_256_c 7 263 rfl (by decide +kernel)
theorem wld_264 : decode code 264 = .ok (.iadd, 1) := wt_dc wk606lawc0_code_256_c 8 264 rfl (by decide +kernel)
theorem wld_265 : decode code 265 = .ok (.iaload, 1) := wt_dc wk606lawc0_code_256_c 9 265 rfl (by decide +kernel)
theorem wld_266 : decode code 266 = .ok (.invokevirtual 114, 3) := wt_dc wk606lawc0_code_256_c 10 266 rfl (by decide +kernel)
theorem wld_269 : decode code 269 = .ok (.pop, 1) := wt_dc wk606lawc0_code_256_c 13 269 rfl (by decide +kernel)
theorem wld_270 : decode code 270 = .ok (.goto 1185, 3) := wt_dc wk606lawc0_code_256_c 14 270 rfl (by decide +kernel)
set_option maxRecDepth 100000 in
set_option maxHeartbeats 4000000 in
theorem wl_feed {X : wt_X} {o b L : Nat} {xs : Nat → Int32} {n K : Nat} {Inv : wt_St → Prop} {i : Int32} (hE : wt_OkO X o code 7 "WornTypeLaw" 400 100000) (hdm : ∀ i, wt_dom (wt_xw X) i ↔ i < 321) (hSN : wt_SN (wt_Ao (wt_xw X) o (wt_xs X).heap.size) (wt_xs X) (wt_xs X).heap) (htr : (wt_xl X).stackTraces = false) (hX : wt_scr X o b L xs) (hi : ∀ c : Int32, c = 1 ∨ c = 2 ∨ c = 3 ∨ c = 4 ∨ c = 5 → vp_in (i + c) L) (hK : K + 8 ≤ 100000) (hP : wt_P_feed n Inv) {σ : wt_St} (hσ : Inv σ) (kn : ∀ τ : wt_St, Inv τ → wt_O X o (K + 8) τ 1455 [some (.ref b), some (.ref (wt_ad (wt_xw X) 0)), some (.ref (wt_ad (wt_xw X) 108)), some (.ref o), some (.int i), none, none] []) : wt_O X o K σ 200 [some (.ref b), some (.ref (wt_ad (wt_xw X) 0)), some (.ref (wt_ad (wt_xw X) 108)), some (.ref o), some (.int i), none, none] [] := by
  have hD : ∀ i, i < 108 → wt_dom (wt_xw X) i := fun i hi => (hdm i).mpr (by omega)
  have hM : ∀ i, 108 ≤ i → i < 321 → wt_dom (wt_xw X) i := fun i _ hi => (hdm i).mpr hi
  obtain ⟨q, hq, r, hr, hI⟩ := hP _ (xs (i + (1 : Int32)).toNatClampNeg) (xs (i + (2 : Int32)).toNatClampNeg) (xs (i + (3 : Int32)).toNatClampNeg) (xs (i + (4 : Int32)).toNatClampNeg) (xs (i + (5 : Int32)).toNatClampNeg) hσ
  refine wt_o_aload_n hE wld_200 rfl ?_
  refine wt_o_aload_n hE wld_201 rfl ?_
  refine wt_o_iload hE wld_202 rfl ?_
  refine wt_o_iconst hE (1 : Int32) wld_204 (by decide) ?_
  refine wt_o_iadd hE wld_205 ?_
  refine wt_o_sld hE hX (hi 1 (by decide)) wld_206 ?_
  refine wt_o_aload_n hE wld_207 rfl ?_
  refine wt_o_iload hE wld_208 rfl ?_
  refine wt_o_iconst hE (2 : Int32) wld_210 (by decide) ?_
  refine wt_o_iadd hE wld_211 ?_
  refine wt_o_sld hE hX (hi 2 (by decide)) wld_212 ?_
  refine wt_o_aload_n hE wld_213 rfl ?_
  refine wt_o_iload hE wld_214 rfl ?_
  refine wt_o_iconst hE (3 : Int32) wld_216 (by decide) ?_
  refine wt_o_iadd hE wld_217 ?_
  refine wt_o_sld hE hX (hi 3 (by decide)) wld_218 ?_
  refine wt_o_aload_n hE wld_219 rfl ?_
  refine wt_o_iload hE wld_220 rfl ?_
  refine wt_o_iconst hE (4 : Int32) wld_222 (by decide) ?_
  refine wt_o_iadd hE wld_223 ?_
  refine wt_o_sld hE hX (hi 4 (by decide)) wld_224 ?_
  refine wt_o_aload_n hE wld_225 rfl ?_
  refine wt_o_iload hE wld_226 rfl ?_
  refine wt_o_iconst hE (5 : Int32) wld_228 (by decide) ?_
  refine wt_o_iadd hE wld_229 ?_
  refine wt_o_sld hE hX (hi 5 (by decide)) wld_230 ?_
  refine wt_o_callVi (dd := 2) hE [.int (xs (i + (1 : Int32)).toNatClampNeg), .int (xs (i + (2 : Int32)).toNatClampNeg), .int (xs (i + (3 : Int32)).toNatClampNeg), .int (xs (i + (4 : Int32)).toNatClampNeg), .int (xs (i + (5 : Int32)).toNatClampNeg)] wt_lm_lw_110 wt_ya_ap_feed (wp_ap_feed_ok hD hq) (by decide) (hD 0 (by decide)) wt_L0 rfl rfl rfl (Nat.le_of_ble_eq_true rfl) (by omega) wld_231 ?_
  refine wt_o_pop hE wld_234 rfl ?_
  refine wt_o_aload_n hE wld_235 rfl ?_
  refine wt_o_aload_n hE wld_236 rfl ?_
  refine wt_o_iload hE wld_237 rfl ?_
  refine wt_o_iconst hE (1 : Int32) wld_239 (by decide) ?_
  refine wt_o_iadd hE wld_240 ?_
  refine wt_o_sld hE hX (hi 1 (by decide)) wld_241 ?_
  refine wt_o_aload_n hE wld_242 rfl ?_
  refine wt_o_iload hE wld_243 rfl ?_
  refine wt_o_iconst hE (2 : Int32) wld_245 (by decide) ?_
  refine wt_o_iadd hE wld_246 ?_
  refine wt_o_sld hE hX (hi 2 (by decide)) wld_247 ?_
  refine wt_o_aload_n hE wld_248 rfl ?_
  refine wt_o_iload hE wld_249 rfl ?_
  refine wt_o_iconst hE (3 : Int32) wld_251 (by decide) ?_
  refine wt_o_iadd hE wld_252 ?_
  refine wt_o_sld hE hX (hi 3 (by decide)) wld_253 ?_
  refine wt_o_aload_n hE wld_254 rfl ?_
  refine wt_o_iload hE wld_255 rfl ?_
  refine wt_o_iconst hE (4 : Int32) wld_257 (by decide) ?_
  refine wt_o_iadd hE wld_258 ?_
  refine wt_o_sld hE hX (hi 4 (by decide)) wld_259 ?_
  refine wt_o_aload_n hE wld_260 rfl ?_
  refine wt_o_iload hE wld_261 rfl ?_
  refine wt_o_iconst hE (5 : Int32) wld_263 (by decide) ?_
  refine wt_o_iadd hE wld_264 ?_
  refine wt_o_sld hE hX (hi 5 (by decide)) wld_265 ?_
  refine wt_o_callVi (dd := 0) hE [.int (xs (i + (1 : Int32)).toNatClampNeg), .int (xs (i + (2 : Int32)).toNatClampNeg), .int (xs (i + (3 : Int32)).toNatClampNeg), .int (xs (i + (4 : Int32)).toNatClampNeg), .int (xs (i + (5 : Int32)).toNatClampNeg)] wt_lm_lw_114 wt_ya_md_feed (wp_md_feed_ok hM hr) (by decide) (hM 108 (by decide) (by decide)) wt_L108 rfl rfl rfl (Nat.le_of_ble_eq_true rfl) (by omega) wld_266 ?_
  refine wt_o_pop hE wld_269 rfl ?_
  refine wt_o_goto hE 1455 wld_270 rfl ?_
  refine wt_o_kup (K' := K + 8) (by omega) ?_
  exact wt_o_wk [true, true, true, true, true, false, false] rfl (kn _ hI)
theorem wld_273 : decode code 273 = .ok (.aload_n 1, 1) := wt_dc wk606lawc0_code_256_c 17 273 rfl (by decide +kernel)
theorem wld_274 : decode code 274 = .ok (.aload_n 0, 1) := wt_dc wk606lawc0_code_256_c 18 274 rfl (by decide +kernel)
theorem wld_275 : decode code 275 = .ok (.iload 4, 2) := wt_dc wk606lawc0_code_256_c 19 275 rfl (by decide +kernel)
theorem wld_277 : decode code 277 = .ok (.iconst 1, 1) := wt_dc wk606lawc0_code_256_c 21 277 rfl (by decide +kernel)
theorem wld_278 : decode code 278 = .ok (.iadd, 1) := wt_dc wk606lawc0_code_256_c 22 278 rfl (by decide +kernel)
theorem wld_279 : decode code 279 = .ok (.iaload, 1) := wt_dc wk606lawc0_code_256_c 23 279 rfl (by decide +kernel)
theorem wld_280 : decode code 280 = .ok (.aload_n 3, 1) := wt_dc wk606lawc0_code_256_c 24 280 rfl (by decide +kernel)
theorem wld_281 : decode code 281 = .ok (.invokestatic 115, 3) := wt_dc wk606lawc0_code_256_c 25 281 rfl (by decide +kernel)
theorem wld_284 : decode code 284 = .ok (.istore 5, 2) := wt_dc wk606lawc0_code_256_c 28 284 rfl (by decide +kernel)
theorem wld_286 : decode code 286 = .ok (.aload_n 2, 1) := wt_dc wk606lawc0_code_256_c 30 286 rfl (by decide +kernel)
theorem wld_287 : decode code 287 = .ok (.aload_n 0, 1) := wt_dc wk606lawc0_code_256_c 31 287 rfl (by decide +kernel)
def wk606lawc0_code_288 : ByteArray := .mk #[0x15, 0x04, 0x04, 0x60, 0x2e, 0xb6, 0x00, 0x78, 0x36, 0x06, 0xa7, 0x04, 0x85, 0x2b, 0x2a, 0x15, 0x04, 0x04, 0x60, 0x2e, 0x2d, 0xb8, 0x00, 0x79, 0x36, 0x05, 0x2c, 0x2a, 0x15, 0x04, 0x04, 0x60, 0x2e, 0xb6, 0x00, 0x7b, 0x36, 0x06, 0xa7, 0x04, 0x69, 0x2b, 0x2a, 0x15, 0x04, 0x04, 0x60, 0x2e]
theorem wk606lawc0_code_288_c : wt_ck code wk606lawc0_code_288 288 := wt_ck_of 48 (by decide) (by decide +kernel) (by decide +kernel)
theorem wld_288 : decode code 288 = .ok (.iload 4, 2) := wt_dc wk606lawc0_code_288_c 0 288 rfl (by decide +kernel)
theorem wld_290 : decode code 290 = .ok (.iconst 1, 1) := wt_dc wk606lawc0_code_288_c 2 290 rfl (by decide +kernel)
theorem wld_291 : decode code 291 = .ok (.iadd, 1) := wt_dc wk606lawc0_code_288_c 3 291 rfl (by decide +kernel)
theorem wld_292 : decode code 292 = .ok (.iaload, 1) := wt_dc wk606lawc0_code_288_c 4 292 rfl (by decide +kernel)
theorem wld_293 : decode code 293 = .ok (.invokevirtual 120, 3) := wt_dc wk606lawc0_code_288_c 5 293 rfl (by decide +kernel)
theorem wld_296 : decode code 296 = .ok (.istore 6, 2) := wt_dc wk606lawc0_code_288_c 8 296 rfl (by decide +kernel)
theorem wld_298 : decode code 298 = .ok (.goto 1157, 3) := wt_dc wk606lawc0_code_288_c 10 298 rfl (by decide +kernel)
set_option maxRecDepth 100000 in
set_option maxHeartbeats 4000000 in
theorem wl_kase {X : wt_X} {o b L : Nat} {xs : Nat → Int32} {n K : Nat} {Inv : wt_St → Prop} {i : Int32} (hE : wt_OkO X o code 7 "WornTypeLaw" 400 100000) (hdm : ∀ i, wt_dom (wt_xw X) i ↔ i < 321) (hSN : wt_SN (wt_Ao (wt_xw X) o (wt_xs X).heap.size) (wt_xs X) (wt_xs X).heap) (htr : (wt_xl X).stackTraces = false) (hX : wt_scr X o b L xs) (hi : ∀ c : Int32, c = 1 ∨ c = 2 ∨ c = 3 ∨ c = 4 ∨ c = 5 → vp_in (i + c) L) (hK : K + 8 ≤ 100000) (hP : wt_P_kase n Inv) {σ : wt_St} (hσ : Inv σ) (kn : ∀ τ : wt_St, Inv τ → wt_O X o (K + 8) τ 1455 [some (.ref b), some (.ref (wt_ad (wt_xw X) 0)), some (.ref (wt_ad (wt_xw X) 108)), some (.ref o), some (.int i), none, none] []) : wt_O X o K σ 273 [some (.ref b), some (.ref (wt_ad (wt_xw X) 0)), some (.ref (wt_ad (wt_xw X) 108)), some (.ref o), some (.int i), none, none] [] := by
  have hD : ∀ i, i < 108 → wt_dom (wt_xw X) i := fun i hi => (hdm i).mpr (by omega)
  have hM : ∀ i, 108 ≤ i → i < 321 → wt_dom (wt_xw X) i := fun i _ hi => (hdm i).mpr hi
  obtain ⟨q, hq, hx, r, hr, hI⟩ := hP _ (xs (i + (1 : Int32)).toNatClampNeg) hσ
  refine wt_o_aload_n hE wld_273 rfl ?_
  refine wt_o_aload_n hE wld_274 rfl ?_
  refine wt_o_iload hE wld_275 rfl ?_
  refine wt_o_iconst hE (1 : Int32) wld_277 (by decide) ?_
  refine wt_o_iadd hE wld_278 ?_
  refine wt_o_sld hE hX (hi 1 (by decide)) wld_279 ?_
  refine wt_o_aload_n hE wld_280 rfl ?_
  refine wt_o_callW hE hSN (k := 3) (dd := 9) (mc := 8) [.ref (wt_ad (wt_xw X) 0), .int (xs (i + (1 : Int32)).toNatClampNeg), .ref o] (wt_g3 53 rfl rfl) (wt_g3 54 rfl rfl) (wt_g1 0 rfl rfl) wt_cm_kase ⟨by decide, by decide, by decide +kernel⟩ (by decide) (ww_kase_ok htr hE.2.2 hD hq hx) (by decide) rfl rfl (Nat.le_of_ble_eq_true rfl) (by omega) wld_281 (fun w5 => ?_)
  refine wt_o_istore hE [some (.ref b), some (.ref (wt_ad (wt_xw X) 0)), some (.ref (wt_ad (wt_xw X) 108)), some (.ref o), some (.int i), some (.int w5), none] wld_284 (by decide) rfl ?_
  refine wt_o_aload_n hE wld_286 rfl ?_
  refine wt_o_aload_n hE wld_287 rfl ?_
  refine wt_o_iload hE wld_288 rfl ?_
  refine wt_o_iconst hE (1 : Int32) wld_290 (by decide) ?_
  refine wt_o_iadd hE wld_291 ?_
  refine wt_o_sld hE hX (hi 1 (by decide)) wld_292 ?_
  refine wt_o_callVi (dd := 6) hE [.int (xs (i + (1 : Int32)).toNatClampNeg)] wt_lm_lw_120 wt_ya_md_kase (wp_md_kase_ok hM hr) (by decide) (hM 108 (by decide) (by decide)) wt_L108 rfl rfl rfl (Nat.le_of_ble_eq_true rfl) (by omega) wld_293 ?_
  refine wt_o_istore hE [some (.ref b), some (.ref (wt_ad (wt_xw X) 0)), some (.ref (wt_ad (wt_xw X) 108)), some (.ref o), some (.int i), some (.int w5), some (.int r.1)] wld_296 (by decide) rfl ?_
  refine wt_o_goto hE 1455 wld_298 rfl ?_
  exact wt_o_wk [true, true, true, true, true, false, false] rfl (kn _ hI)
theorem wld_301 : decode code 301 = .ok (.aload_n 1, 1) := wt_dc wk606lawc0_code_288_c 13 301 rfl (by decide +kernel)
theorem wld_302 : decode code 302 = .ok (.aload_n 0, 1) := wt_dc wk606lawc0_code_288_c 14 302 rfl (by decide +kernel)
theorem wld_303 : decode code 303 = .ok (.iload 4, 2) := wt_dc wk606lawc0_code_288_c 15 303 rfl (by decide +kernel)
theorem wld_305 : decode code 305 = .ok (.iconst 1, 1) := wt_dc wk606lawc0_code_288_c 17 305 rfl (by decide +kernel)
theorem wld_306 : decode code 306 = .ok (.iadd, 1) := wt_dc wk606lawc0_code_288_c 18 306 rfl (by decide +kernel)
theorem wld_307 : decode code 307 = .ok (.iaload, 1) := wt_dc wk606lawc0_code_288_c 19 307 rfl (by decide +kernel)
theorem wld_308 : decode code 308 = .ok (.aload_n 3, 1) := wt_dc wk606lawc0_code_288_c 20 308 rfl (by decide +kernel)
theorem wld_309 : decode code 309 = .ok (.invokestatic 121, 3) := wt_dc wk606lawc0_code_288_c 21 309 rfl (by decide +kernel)
theorem wld_312 : decode code 312 = .ok (.istore 5, 2) := wt_dc wk606lawc0_code_288_c 24 312 rfl (by decide +kernel)
theorem wld_314 : decode code 314 = .ok (.aload_n 2, 1) := wt_dc wk606lawc0_code_288_c 26 314 rfl (by decide +kernel)
theorem wld_315 : decode code 315 = .ok (.aload_n 0, 1) := wt_dc wk606lawc0_code_288_c 27 315 rfl (by decide +kernel)
theorem wld_316 : decode code 316 = .ok (.iload 4, 2) := wt_dc wk606lawc0_code_288_c 28 316 rfl (by decide +kernel)
theorem wld_318 : decode code 318 = .ok (.iconst 1, 1) := wt_dc wk606lawc0_code_288_c 30 318 rfl (by decide +kernel)
theorem wld_319 : decode code 319 = .ok (.iadd, 1) := wt_dc wk606lawc0_code_288_c 31 319 rfl (by decide +kernel)
def wk606lawc0_code_320 : ByteArray := .mk #[0x2e, 0xb6, 0x00, 0x7b, 0x36, 0x06, 0xa7, 0x04, 0x69, 0x2b, 0x2a, 0x15, 0x04, 0x04, 0x60, 0x2e, 0x2d, 0xb8, 0x00, 0x7c, 0x36, 0x05, 0x2c, 0x2a, 0x15, 0x04, 0x04, 0x60, 0x2e, 0xb6, 0x00, 0x7e, 0x36, 0x06, 0xa7, 0x04, 0x4d, 0x2b, 0xb6, 0x00, 0x7f, 0x57, 0x2c, 0xb6, 0x00, 0x83, 0x57, 0xa7]
theorem wk606lawc0_code_320_c : wt_ck code wk606lawc0_code_320 320 := wt_ck_of 48 (by decide) (by decide +kernel) (by decide +kernel)
theorem wld_320 : decode code 320 = .ok (.iaload, 1) := wt_dc wk606lawc0_code_320_c 0 320 rfl (by decide +kernel)
theorem wld_321 : decode code 321 = .ok (.invokevirtual 123, 3) := wt_dc wk606lawc0_code_320_c 1 321 rfl (by decide +kernel)
theorem wld_324 : decode code 324 = .ok (.istore 6, 2) := wt_dc wk606lawc0_code_320_c 4 324 rfl (by decide +kernel)
theorem wld_326 : decode code 326 = .ok (.goto 1129, 3) := wt_dc wk606lawc0_code_320_c 6 326 rfl (by decide +kernel)
set_option maxRecDepth 100000 in
set_option maxHeartbeats 4000000 in
theorem wl_tongue {X : wt_X} {o b L : Nat} {xs : Nat → Int32} {n K : Nat} {Inv : wt_St → Prop} {i : Int32} (hE : wt_OkO X o code 7 "WornTypeLaw" 400 100000) (hdm : ∀ i, wt_dom (wt_xw X) i ↔ i < 321) (hSN : wt_SN (wt_Ao (wt_xw X) o (wt_xs X).heap.size) (wt_xs X) (wt_xs X).heap) (htr : (wt_xl X).stackTraces = false) (hX : wt_scr X o b L xs) (hi : ∀ c : Int32, c = 1 ∨ c = 2 ∨ c = 3 ∨ c = 4 ∨ c = 5 → vp_in (i + c) L) (hK : K + 8 ≤ 100000) (hP : wt_P_tongue n Inv) {σ : wt_St} (hσ : Inv σ) (kn : ∀ τ : wt_St, Inv τ → wt_O X o (K + 8) τ 1455 [some (.ref b), some (.ref (wt_ad (wt_xw X) 0)), some (.ref (wt_ad (wt_xw X) 108)), some (.ref o), some (.int i), none, none] []) : wt_O X o K σ 301 [some (.ref b), some (.ref (wt_ad (wt_xw X) 0)), some (.ref (wt_ad (wt_xw X) 108)), some (.ref o), some (.int i), none, none] [] := by
  have hD : ∀ i, i < 108 → wt_dom (wt_xw X) i := fun i hi => (hdm i).mpr (by omega)
  have hM : ∀ i, 108 ≤ i → i < 321 → wt_dom (wt_xw X) i := fun i _ hi => (hdm i).mpr hi
  obtain ⟨q, hq, hx, r, hr, hI⟩ := hP _ (xs (i + (1 : Int32)).toNatClampNeg) hσ
  refine wt_o_aload_n hE wld_301 rfl ?_
  refine wt_o_aload_n hE wld_302 rfl ?_
  refine wt_o_iload hE wld_303 rfl ?_
  refine wt_o_iconst hE (1 : Int32) wld_305 (by decide) ?_
  refine wt_o_iadd hE wld_306 ?_
  refine wt_o_sld hE hX (hi 1 (by decide)) wld_307 ?_
  refine wt_o_aload_n hE wld_308 rfl ?_
  refine wt_o_callW hE hSN (k := 3) (dd := 8) (mc := 8) [.ref (wt_ad (wt_xw X) 0), .int (xs (i + (1 : Int32)).toNatClampNeg), .ref o] (wt_g4 46 rfl rfl) (wt_g4 47 rfl rfl) (wt_g1 0 rfl rfl) wt_cm_tongue ⟨by decide, by decide, by decide +kernel⟩ (by decide) (ww_tongue_ok htr hE.2.2 hD hq hx) (by decide) rfl rfl (Nat.le_of_ble_eq_true rfl) (by omega) wld_309 (fun w5 => ?_)
  refine wt_o_istore hE [some (.ref b), some (.ref (wt_ad (wt_xw X) 0)), some (.ref (wt_ad (wt_xw X) 108)), some (.ref o), some (.int i), some (.int w5), none] wld_312 (by decide) rfl ?_
  refine wt_o_aload_n hE wld_314 rfl ?_
  refine wt_o_aload_n hE wld_315 rfl ?_
  refine wt_o_iload hE wld_316 rfl ?_
  refine wt_o_iconst hE (1 : Int32) wld_318 (by decide) ?_
  refine wt_o_iadd hE wld_319 ?_
  refine wt_o_sld hE hX (hi 1 (by decide)) wld_320 ?_
  refine wt_o_callVi (dd := 4) hE [.int (xs (i + (1 : Int32)).toNatClampNeg)] wt_lm_lw_123 wt_ya_md_tongue (wp_md_tongue_ok hM hr) (by decide) (hM 108 (by decide) (by decide)) wt_L108 rfl rfl rfl (Nat.le_of_ble_eq_true rfl) (by omega) wld_321 ?_
  refine wt_o_istore hE [some (.ref b), some (.ref (wt_ad (wt_xw X) 0)), some (.ref (wt_ad (wt_xw X) 108)), some (.ref o), some (.int i), some (.int w5), some (.int r.1)] wld_324 (by decide) rfl ?_
  refine wt_o_goto hE 1455 wld_326 rfl ?_
  exact wt_o_wk [true, true, true, true, true, false, false] rfl (kn _ hI)
theorem wld_329 : decode code 329 = .ok (.aload_n 1, 1) := wt_dc wk606lawc0_code_320_c 9 329 rfl (by decide +kernel)
theorem wld_330 : decode code 330 = .ok (.aload_n 0, 1) := wt_dc wk606lawc0_code_320_c 10 330 rfl (by decide +kernel)
theorem wld_331 : decode code 331 = .ok (.iload 4, 2) := wt_dc wk606lawc0_code_320_c 11 331 rfl (by decide +kernel)
theorem wld_333 : decode code 333 = .ok (.iconst 1, 1) := wt_dc wk606lawc0_code_320_c 13 333 rfl (by decide +kernel)
theorem wld_334 : decode code 334 = .ok (.iadd, 1) := wt_dc wk606lawc0_code_320_c 14 334 rfl (by decide +kernel)
theorem wld_335 : decode code 335 = .ok (.iaload, 1) := wt_dc wk606lawc0_code_320_c 15 335 rfl (by decide +kernel)
theorem wld_336 : decode code 336 = .ok (.aload_n 3, 1) := wt_dc wk606lawc0_code_320_c 16 336 rfl (by decide +kernel)
theorem wld_337 : decode code 337 = .ok (.invokestatic 124, 3) := wt_dc wk606lawc0_code_320_c 17 337 rfl (by decide +kernel)
theorem wld_340 : decode code 340 = .ok (.istore 5, 2) := wt_dc wk606lawc0_code_320_c 20 340 rfl (by decide +kernel)
theorem wld_342 : decode code 342 = .ok (.aload_n 2, 1) := wt_dc wk606lawc0_code_320_c 22 342 rfl (by decide +kernel)
theorem wld_343 : decode code 343 = .ok (.aload_n 0, 1) := wt_dc wk606lawc0_code_320_c 23 343 rfl (by decide +kernel)
theorem wld_344 : decode code 344 = .ok (.iload 4, 2) := wt_dc wk606lawc0_code_320_c 24 344 rfl (by decide +kernel)
theorem wld_346 : decode code 346 = .ok (.iconst 1, 1) := wt_dc wk606lawc0_code_320_c 26 346 rfl (by decide +kernel)
theorem wld_347 : decode code 347 = .ok (.iadd, 1) := wt_dc wk606lawc0_code_320_c 27 347 rfl (by decide +kernel)
theorem wld_348 : decode code 348 = .ok (.iaload, 1) := wt_dc wk606lawc0_code_320_c 28 348 rfl (by decide +kernel)
theorem wld_349 : decode code 349 = .ok (.invokevirtual 126, 3) := wt_dc wk606lawc0_code_320_c 29 349 rfl (by decide +kernel)
def wk606lawc0_code_352 : ByteArray := .mk #[0x36, 0x06, 0xa7, 0x04, 0x4d, 0x2b, 0xb6, 0x00, 0x7f, 0x57, 0x2c, 0xb6, 0x00, 0x83, 0x57, 0xa7, 0x04, 0x40, 0x2b, 0x2a, 0x15, 0x04, 0x04, 0x60, 0x2e, 0x2d, 0xb8, 0x00, 0x84, 0x36, 0x05, 0x2c, 0x2a, 0x15, 0x04, 0x04, 0x60, 0x2e, 0xb6, 0x00, 0x86, 0x36, 0x06, 0xa7, 0x04, 0x24, 0x2b, 0x2a]
theorem wk606lawc0_code_352_c : wt_ck code wk606lawc0_code_352 352 := wt_ck_of 48 (by decide) (by decide +kernel) (by decide +kernel)
theorem wld_352 : decode code 352 = .ok (.istore 6, 2) := wt_dc wk606lawc0_code_352_c 0 352 rfl (by decide +kernel)
theorem wld_354 : decode code 354 = .ok (.goto 1101, 3) := wt_dc wk606lawc0_code_352_c 2 354 rfl (by decide +kernel)
set_option maxRecDepth 100000 in
set_option maxHeartbeats 4000000 in
theorem wl_text {X : wt_X} {o b L : Nat} {xs : Nat → Int32} {n K : Nat} {Inv : wt_St → Prop} {i : Int32} (hE : wt_OkO X o code 7 "WornTypeLaw" 400 100000) (hdm : ∀ i, wt_dom (wt_xw X) i ↔ i < 321) (hSN : wt_SN (wt_Ao (wt_xw X) o (wt_xs X).heap.size) (wt_xs X) (wt_xs X).heap) (htr : (wt_xl X).stackTraces = false) (hX : wt_scr X o b L xs) (hi : ∀ c : Int32, c = 1 ∨ c = 2 ∨ c = 3 ∨ c = 4 ∨ c = 5 → vp_in (i + c) L) (hK : K + 8 ≤ 100000) (hP : wt_P_text n Inv) {σ : wt_St} (hσ : Inv σ) (kn : ∀ τ : wt_St, Inv τ → wt_O X o (K + 8) τ 1455 [some (.ref b), some (.ref (wt_ad (wt_xw X) 0)), some (.ref (wt_ad (wt_xw X) 108)), some (.ref o), some (.int i), none, none] []) : wt_O X o K σ 329 [some (.ref b), some (.ref (wt_ad (wt_xw X) 0)), some (.ref (wt_ad (wt_xw X) 108)), some (.ref o), some (.int i), none, none] [] := by
  have hD : ∀ i, i < 108 → wt_dom (wt_xw X) i := fun i hi => (hdm i).mpr (by omega)
  have hM : ∀ i, 108 ≤ i → i < 321 → wt_dom (wt_xw X) i := fun i _ hi => (hdm i).mpr hi
  obtain ⟨q, hq, hx, r, hr, hI⟩ := hP _ (xs (i + (1 : Int32)).toNatClampNeg) hσ
  refine wt_o_aload_n hE wld_329 rfl ?_
  refine wt_o_aload_n hE wld_330 rfl ?_
  refine wt_o_iload hE wld_331 rfl ?_
  refine wt_o_iconst hE (1 : Int32) wld_333 (by decide) ?_
  refine wt_o_iadd hE wld_334 ?_
  refine wt_o_sld hE hX (hi 1 (by decide)) wld_335 ?_
  refine wt_o_aload_n hE wld_336 rfl ?_
  refine wt_o_callW hE hSN (k := 3) (dd := 8) (mc := 8) [.ref (wt_ad (wt_xw X) 0), .int (xs (i + (1 : Int32)).toNatClampNeg), .ref o] (wt_g4 92 rfl rfl) (wt_g4 93 rfl rfl) (wt_g1 0 rfl rfl) wt_cm_text ⟨by decide, by decide, by decide +kernel⟩ (by decide) (ww_text_ok htr hE.2.2 hD hq hx) (by decide) rfl rfl (Nat.le_of_ble_eq_true rfl) (by omega) wld_337 (fun w5 => ?_)
  refine wt_o_istore hE [some (.ref b), some (.ref (wt_ad (wt_xw X) 0)), some (.ref (wt_ad (wt_xw X) 108)), some (.ref o), some (.int i), some (.int w5), none] wld_340 (by decide) rfl ?_
  refine wt_o_aload_n hE wld_342 rfl ?_
  refine wt_o_aload_n hE wld_343 rfl ?_
  refine wt_o_iload hE wld_344 rfl ?_
  refine wt_o_iconst hE (1 : Int32) wld_346 (by decide) ?_
  refine wt_o_iadd hE wld_347 ?_
  refine wt_o_sld hE hX (hi 1 (by decide)) wld_348 ?_
  refine wt_o_callVi (dd := 3) hE [.int (xs (i + (1 : Int32)).toNatClampNeg)] wt_lm_lw_126 wt_ya_md_text (wp_md_text_ok hM hr) (by decide) (hM 108 (by decide) (by decide)) wt_L108 rfl rfl rfl (Nat.le_of_ble_eq_true rfl) (by omega) wld_349 ?_
  refine wt_o_istore hE [some (.ref b), some (.ref (wt_ad (wt_xw X) 0)), some (.ref (wt_ad (wt_xw X) 108)), some (.ref o), some (.int i), some (.int w5), some (.int r.1)] wld_352 (by decide) rfl ?_
  refine wt_o_goto hE 1455 wld_354 rfl ?_
  exact wt_o_wk [true, true, true, true, true, false, false] rfl (kn _ hI)
theorem wld_357 : decode code 357 = .ok (.aload_n 1, 1) := wt_dc wk606lawc0_code_352_c 5 357 rfl (by decide +kernel)
theorem wld_358 : decode code 358 = .ok (.invokevirtual 127, 3) := wt_dc wk606lawc0_code_352_c 6 358 rfl (by decide +kernel)
theorem wld_361 : decode code 361 = .ok (.pop, 1) := wt_dc wk606lawc0_code_352_c 9 361 rfl (by decide +kernel)
theorem wld_362 : decode code 362 = .ok (.aload_n 2, 1) := wt_dc wk606lawc0_code_352_c 10 362 rfl (by decide +kernel)
theorem wld_363 : decode code 363 = .ok (.invokevirtual 131, 3) := wt_dc wk606lawc0_code_352_c 11 363 rfl (by decide +kernel)
theorem wld_366 : decode code 366 = .ok (.pop, 1) := wt_dc wk606lawc0_code_352_c 14 366 rfl (by decide +kernel)
theorem wld_367 : decode code 367 = .ok (.goto 1088, 3) := wt_dc wk606lawc0_code_352_c 15 367 rfl (by decide +kernel)
set_option maxRecDepth 100000 in
set_option maxHeartbeats 4000000 in
theorem wl_fault {X : wt_X} {o b L : Nat} {xs : Nat → Int32} {n K : Nat} {Inv : wt_St → Prop} {i : Int32} (hE : wt_OkO X o code 7 "WornTypeLaw" 400 100000) (hdm : ∀ i, wt_dom (wt_xw X) i ↔ i < 321) (hSN : wt_SN (wt_Ao (wt_xw X) o (wt_xs X).heap.size) (wt_xs X) (wt_xs X).heap) (htr : (wt_xl X).stackTraces = false) (hX : wt_scr X o b L xs) (hi : ∀ c : Int32, c = 1 ∨ c = 2 ∨ c = 3 ∨ c = 4 ∨ c = 5 → vp_in (i + c) L) (hK : K + 8 ≤ 100000) (hP : wt_P_fault n Inv) {σ : wt_St} (hσ : Inv σ) (kn : ∀ τ : wt_St, Inv τ → wt_O X o (K + 8) τ 1455 [some (.ref b), some (.ref (wt_ad (wt_xw X) 0)), some (.ref (wt_ad (wt_xw X) 108)), some (.ref o), some (.int i), none, none] []) : wt_O X o K σ 357 [some (.ref b), some (.ref (wt_ad (wt_xw X) 0)), some (.ref (wt_ad (wt_xw X) 108)), some (.ref o), some (.int i), none, none] [] := by
  have hD : ∀ i, i < 108 → wt_dom (wt_xw X) i := fun i hi => (hdm i).mpr (by omega)
  have hM : ∀ i, 108 ≤ i → i < 321 → wt_dom (wt_xw X) i := fun i _ hi => (hdm i).mpr hi
  obtain ⟨q, hq, r, hr, hI⟩ := hP _  hσ
  refine wt_o_aload_n hE wld_357 rfl ?_
  refine wt_o_callVi (dd := 0) hE [] wt_lm_lw_127 wt_ya_ap_fault (wp_ap_fault_ok hD hq) (by decide) (hD 0 (by decide)) wt_L0 rfl rfl rfl (Nat.le_of_ble_eq_true rfl) (by omega) wld_358 ?_
  refine wt_o_pop hE wld_361 rfl ?_
  refine wt_o_aload_n hE wld_362 rfl ?_
  refine wt_o_callVi (dd := 0) hE [] wt_lm_lw_131 wt_ya_md_fault (wp_md_fault_ok hM hr) (by decide) (hM 108 (by decide) (by decide)) wt_L108 rfl rfl rfl (Nat.le_of_ble_eq_true rfl) (by omega) wld_363 ?_
  refine wt_o_pop hE wld_366 rfl ?_
  refine wt_o_goto hE 1455 wld_367 rfl ?_
  refine wt_o_kup (K' := K + 8) (by omega) ?_
  exact wt_o_wk [true, true, true, true, true, false, false] rfl (kn _ hI)
theorem wld_370 : decode code 370 = .ok (.aload_n 1, 1) := wt_dc wk606lawc0_code_352_c 18 370 rfl (by decide +kernel)
theorem wld_371 : decode code 371 = .ok (.aload_n 0, 1) := wt_dc wk606lawc0_code_352_c 19 371 rfl (by decide +kernel)
theorem wld_372 : decode code 372 = .ok (.iload 4, 2) := wt_dc wk606lawc0_code_352_c 20 372 rfl (by decide +kernel)
theorem wld_374 : decode code 374 = .ok (.iconst 1, 1) := wt_dc wk606lawc0_code_352_c 22 374 rfl (by decide +kernel)
theorem wld_375 : decode code 375 = .ok (.iadd, 1) := wt_dc wk606lawc0_code_352_c 23 375 rfl (by decide +kernel)
theorem wld_376 : decode code 376 = .ok (.iaload, 1) := wt_dc wk606lawc0_code_352_c 24 376 rfl (by decide +kernel)
theorem wld_377 : decode code 377 = .ok (.aload_n 3, 1) := wt_dc wk606lawc0_code_352_c 25 377 rfl (by decide +kernel)
theorem wld_378 : decode code 378 = .ok (.invokestatic 132, 3) := wt_dc wk606lawc0_code_352_c 26 378 rfl (by decide +kernel)
theorem wld_381 : decode code 381 = .ok (.istore 5, 2) := wt_dc wk606lawc0_code_352_c 29 381 rfl (by decide +kernel)
theorem wld_383 : decode code 383 = .ok (.aload_n 2, 1) := wt_dc wk606lawc0_code_352_c 31 383 rfl (by decide +kernel)
def wk606lawc0_code_384 : ByteArray := .mk #[0x2a, 0x15, 0x04, 0x04, 0x60, 0x2e, 0xb6, 0x00, 0x86, 0x36, 0x06, 0xa7, 0x04, 0x24, 0x2b, 0x2a, 0x15, 0x04, 0x04, 0x60, 0x2e, 0x2a, 0x15, 0x04, 0x05, 0x60, 0x2e, 0x2d, 0xb8, 0x00, 0x87, 0x36, 0x05, 0x2c, 0x2a, 0x15, 0x04, 0x04, 0x60, 0x2e, 0x2a, 0x15, 0x04, 0x05, 0x60, 0x2e, 0xb6, 0x00]
theorem wk606lawc0_code_384_c : wt_ck code wk606lawc0_code_384 384 := wt_ck_of 48 (by decide) (by decide +kernel) (by decide +kernel)
theorem wld_384 : decode code 384 = .ok (.aload_n 0, 1) := wt_dc wk606lawc0_code_384_c 0 384 rfl (by decide +kernel)
theorem wld_385 : decode code 385 = .ok (.iload 4, 2) := wt_dc wk606lawc0_code_384_c 1 385 rfl (by decide +kernel)
theorem wld_387 : decode code 387 = .ok (.iconst 1, 1) := wt_dc wk606lawc0_code_384_c 3 387 rfl (by decide +kernel)
theorem wld_388 : decode code 388 = .ok (.iadd, 1) := wt_dc wk606lawc0_code_384_c 4 388 rfl (by decide +kernel)
theorem wld_389 : decode code 389 = .ok (.iaload, 1) := wt_dc wk606lawc0_code_384_c 5 389 rfl (by decide +kernel)
theorem wld_390 : decode code 390 = .ok (.invokevirtual 134, 3) := wt_dc wk606lawc0_code_384_c 6 390 rfl (by decide +kernel)
theorem wld_393 : decode code 393 = .ok (.istore 6, 2) := wt_dc wk606lawc0_code_384_c 9 393 rfl (by decide +kernel)
theorem wld_395 : decode code 395 = .ok (.goto 1060, 3) := wt_dc wk606lawc0_code_384_c 11 395 rfl (by decide +kernel)
set_option maxRecDepth 100000 in
set_option maxHeartbeats 4000000 in
theorem wl_told {X : wt_X} {o b L : Nat} {xs : Nat → Int32} {n K : Nat} {Inv : wt_St → Prop} {i : Int32} (hE : wt_OkO X o code 7 "WornTypeLaw" 400 100000) (hdm : ∀ i, wt_dom (wt_xw X) i ↔ i < 321) (hSN : wt_SN (wt_Ao (wt_xw X) o (wt_xs X).heap.size) (wt_xs X) (wt_xs X).heap) (htr : (wt_xl X).stackTraces = false) (hX : wt_scr X o b L xs) (hi : ∀ c : Int32, c = 1 ∨ c = 2 ∨ c = 3 ∨ c = 4 ∨ c = 5 → vp_in (i + c) L) (hK : K + 8 ≤ 100000) (hP : wt_P_told n Inv) {σ : wt_St} (hσ : Inv σ) (kn : ∀ τ : wt_St, Inv τ → wt_O X o (K + 8) τ 1455 [some (.ref b), some (.ref (wt_ad (wt_xw X) 0)), some (.ref (wt_ad (wt_xw X) 108)), some (.ref o), some (.int i), none, none] []) : wt_O X o K σ 370 [some (.ref b), some (.ref (wt_ad (wt_xw X) 0)), some (.ref (wt_ad (wt_xw X) 108)), some (.ref o), some (.int i), none, none] [] := by
  have hD : ∀ i, i < 108 → wt_dom (wt_xw X) i := fun i hi => (hdm i).mpr (by omega)
  have hM : ∀ i, 108 ≤ i → i < 321 → wt_dom (wt_xw X) i := fun i _ hi => (hdm i).mpr hi
  obtain ⟨q, hq, hx, r, hr, hI⟩ := hP _ (xs (i + (1 : Int32)).toNatClampNeg) hσ
  refine wt_o_aload_n hE wld_370 rfl ?_
  refine wt_o_aload_n hE wld_371 rfl ?_
  refine wt_o_iload hE wld_372 rfl ?_
  refine wt_o_iconst hE (1 : Int32) wld_374 (by decide) ?_
  refine wt_o_iadd hE wld_375 ?_
  refine wt_o_sld hE hX (hi 1 (by decide)) wld_376 ?_
  refine wt_o_aload_n hE wld_377 rfl ?_
  refine wt_o_callW hE hSN (k := 3) (dd := 7) (mc := 8) [.ref (wt_ad (wt_xw X) 0), .int (xs (i + (1 : Int32)).toNatClampNeg), .ref o] (wt_g4 118 rfl rfl) (wt_g4 119 rfl rfl) (wt_g1 0 rfl rfl) wt_cm_told ⟨by decide, by decide, by decide +kernel⟩ (by decide) (ww_told_ok htr hE.2.2 hD hq hx) (by decide) rfl rfl (Nat.le_of_ble_eq_true rfl) (by omega) wld_378 (fun w5 => ?_)
  refine wt_o_istore hE [some (.ref b), some (.ref (wt_ad (wt_xw X) 0)), some (.ref (wt_ad (wt_xw X) 108)), some (.ref o), some (.int i), some (.int w5), none] wld_381 (by decide) rfl ?_
  refine wt_o_aload_n hE wld_383 rfl ?_
  refine wt_o_aload_n hE wld_384 rfl ?_
  refine wt_o_iload hE wld_385 rfl ?_
  refine wt_o_iconst hE (1 : Int32) wld_387 (by decide) ?_
  refine wt_o_iadd hE wld_388 ?_
  refine wt_o_sld hE hX (hi 1 (by decide)) wld_389 ?_
  refine wt_o_callVi (dd := 1) hE [.int (xs (i + (1 : Int32)).toNatClampNeg)] wt_lm_lw_134 wt_ya_md_told (wp_md_told_ok hM hr) (by decide) (hM 108 (by decide) (by decide)) wt_L108 rfl rfl rfl (Nat.le_of_ble_eq_true rfl) (by omega) wld_390 ?_
  refine wt_o_istore hE [some (.ref b), some (.ref (wt_ad (wt_xw X) 0)), some (.ref (wt_ad (wt_xw X) 108)), some (.ref o), some (.int i), some (.int w5), some (.int r.1)] wld_393 (by decide) rfl ?_
  refine wt_o_goto hE 1455 wld_395 rfl ?_
  exact wt_o_wk [true, true, true, true, true, false, false] rfl (kn _ hI)
theorem wld_398 : decode code 398 = .ok (.aload_n 1, 1) := wt_dc wk606lawc0_code_384_c 14 398 rfl (by decide +kernel)
theorem wld_399 : decode code 399 = .ok (.aload_n 0, 1) := wt_dc wk606lawc0_code_384_c 15 399 rfl (by decide +kernel)
theorem wld_400 : decode code 400 = .ok (.iload 4, 2) := wt_dc wk606lawc0_code_384_c 16 400 rfl (by decide +kernel)
theorem wld_402 : decode code 402 = .ok (.iconst 1, 1) := wt_dc wk606lawc0_code_384_c 18 402 rfl (by decide +kernel)
theorem wld_403 : decode code 403 = .ok (.iadd, 1) := wt_dc wk606lawc0_code_384_c 19 403 rfl (by decide +kernel)
theorem wld_404 : decode code 404 = .ok (.iaload, 1) := wt_dc wk606lawc0_code_384_c 20 404 rfl (by decide +kernel)
theorem wld_405 : decode code 405 = .ok (.aload_n 0, 1) := wt_dc wk606lawc0_code_384_c 21 405 rfl (by decide +kernel)
theorem wld_406 : decode code 406 = .ok (.iload 4, 2) := wt_dc wk606lawc0_code_384_c 22 406 rfl (by decide +kernel)
theorem wld_408 : decode code 408 = .ok (.iconst 2, 1) := wt_dc wk606lawc0_code_384_c 24 408 rfl (by decide +kernel)
theorem wld_409 : decode code 409 = .ok (.iadd, 1) := wt_dc wk606lawc0_code_384_c 25 409 rfl (by decide +kernel)
theorem wld_410 : decode code 410 = .ok (.iaload, 1) := wt_dc wk606lawc0_code_384_c 26 410 rfl (by decide +kernel)
theorem wld_411 : decode code 411 = .ok (.aload_n 3, 1) := wt_dc wk606lawc0_code_384_c 27 411 rfl (by decide +kernel)
theorem wld_412 : decode code 412 = .ok (.invokestatic 135, 3) := wt_dc wk606lawc0_code_384_c 28 412 rfl (by decide +kernel)
theorem wld_415 : decode code 415 = .ok (.istore 5, 2) := wt_dc wk606lawc0_code_384_c 31 415 rfl (by decide +kernel)
def wk606lawc0_code_416 : ByteArray := .mk #[0x05, 0x2c, 0x2a, 0x15, 0x04, 0x04, 0x60, 0x2e, 0x2a, 0x15, 0x04, 0x05, 0x60, 0x2e, 0xb6, 0x00, 0x8a, 0x36, 0x06, 0xa7, 0x03, 0xfc, 0x2b, 0x2a, 0x15, 0x04, 0x04, 0x60, 0x2e, 0x2a, 0x15, 0x04, 0x05, 0x60, 0x2e, 0x2a, 0x15, 0x04, 0x06, 0x60, 0x2e, 0x2d, 0xb8, 0x00, 0x8b, 0x36, 0x05, 0x2c]
theorem wk606lawc0_code_416_c : wt_ck code wk606lawc0_code_416 416 := wt_ck_of 48 (by decide) (by decide +kernel) (by decide +kernel)
theorem wld_417 : decode code 417 = .ok (.aload_n 2, 1) := wt_dc wk606lawc0_code_416_c 1 417 rfl (by decide +kernel)
theorem wld_418 : decode code 418 = .ok (.aload_n 0, 1) := wt_dc wk606lawc0_code_416_c 2 418 rfl (by decide +kernel)
theorem wld_419 : decode code 419 = .ok (.iload 4, 2) := wt_dc wk606lawc0_code_416_c 3 419 rfl (by decide +kernel)
theorem wld_421 : decode code 421 = .ok (.iconst 1, 1) := wt_dc wk606lawc0_code_416_c 5 421 rfl (by decide +kernel)
theorem wld_422 : decode code 422 = .ok (.iadd, 1) := wt_dc wk606lawc0_code_416_c 6 422 rfl (by decide +kernel)
theorem wld_423 : decode code 423 = .ok (.iaload, 1) := wt_dc wk606lawc0_code_416_c 7 423 rfl (by decide +kernel)
theorem wld_424 : decode code 424 = .ok (.aload_n 0, 1) := wt_dc wk606lawc0_code_416_c 8 424 rfl (by decide +kernel)
theorem wld_425 : decode code 425 = .ok (.iload 4, 2) := wt_dc wk606lawc0_code_416_c 9 425 rfl (by decide +kernel)
theorem wld_427 : decode code 427 = .ok (.iconst 2, 1) := wt_dc wk606lawc0_code_416_c 11 427 rfl (by decide +kernel)
theorem wld_428 : decode code 428 = .ok (.iadd, 1) := wt_dc wk606lawc0_code_416_c 12 428 rfl (by decide +kernel)
theorem wld_429 : decode code 429 = .ok (.iaload, 1) := wt_dc wk606lawc0_code_416_c 13 429 rfl (by decide +kernel)
theorem wld_430 : decode code 430 = .ok (.invokevirtual 138, 3) := wt_dc wk606lawc0_code_416_c 14 430 rfl (by decide +kernel)
theorem wld_433 : decode code 433 = .ok (.istore 6, 2) := wt_dc wk606lawc0_code_416_c 17 433 rfl (by decide +kernel)
theorem wld_435 : decode code 435 = .ok (.goto 1020, 3) := wt_dc wk606lawc0_code_416_c 19 435 rfl (by decide +kernel)
set_option maxRecDepth 100000 in
set_option maxHeartbeats 4000000 in
theorem wl_letter {X : wt_X} {o b L : Nat} {xs : Nat → Int32} {n K : Nat} {Inv : wt_St → Prop} {i : Int32} (hE : wt_OkO X o code 7 "WornTypeLaw" 400 100000) (hdm : ∀ i, wt_dom (wt_xw X) i ↔ i < 321) (hSN : wt_SN (wt_Ao (wt_xw X) o (wt_xs X).heap.size) (wt_xs X) (wt_xs X).heap) (htr : (wt_xl X).stackTraces = false) (hX : wt_scr X o b L xs) (hi : ∀ c : Int32, c = 1 ∨ c = 2 ∨ c = 3 ∨ c = 4 ∨ c = 5 → vp_in (i + c) L) (hK : K + 8 ≤ 100000) (hP : wt_P_letter n Inv) {σ : wt_St} (hσ : Inv σ) (kn : ∀ τ : wt_St, Inv τ → wt_O X o (K + 8) τ 1455 [some (.ref b), some (.ref (wt_ad (wt_xw X) 0)), some (.ref (wt_ad (wt_xw X) 108)), some (.ref o), some (.int i), none, none] []) : wt_O X o K σ 398 [some (.ref b), some (.ref (wt_ad (wt_xw X) 0)), some (.ref (wt_ad (wt_xw X) 108)), some (.ref o), some (.int i), none, none] [] := by
  have hD : ∀ i, i < 108 → wt_dom (wt_xw X) i := fun i hi => (hdm i).mpr (by omega)
  have hM : ∀ i, 108 ≤ i → i < 321 → wt_dom (wt_xw X) i := fun i _ hi => (hdm i).mpr hi
  obtain ⟨q, hq, hx, r, hr, hI⟩ := hP _ (xs (i + (1 : Int32)).toNatClampNeg) (xs (i + (2 : Int32)).toNatClampNeg) hσ
  refine wt_o_aload_n hE wld_398 rfl ?_
  refine wt_o_aload_n hE wld_399 rfl ?_
  refine wt_o_iload hE wld_400 rfl ?_
  refine wt_o_iconst hE (1 : Int32) wld_402 (by decide) ?_
  refine wt_o_iadd hE wld_403 ?_
  refine wt_o_sld hE hX (hi 1 (by decide)) wld_404 ?_
  refine wt_o_aload_n hE wld_405 rfl ?_
  refine wt_o_iload hE wld_406 rfl ?_
  refine wt_o_iconst hE (2 : Int32) wld_408 (by decide) ?_
  refine wt_o_iadd hE wld_409 ?_
  refine wt_o_sld hE hX (hi 2 (by decide)) wld_410 ?_
  refine wt_o_aload_n hE wld_411 rfl ?_
  refine wt_o_callW hE hSN (k := 4) (dd := 8) (mc := 8) [.ref (wt_ad (wt_xw X) 0), .int (xs (i + (1 : Int32)).toNatClampNeg), .int (xs (i + (2 : Int32)).toNatClampNeg), .ref o] (wt_g4 135 rfl rfl) (wt_g4 136 rfl rfl) (wt_g1 0 rfl rfl) wt_cm_letter ⟨by decide, by decide, by decide +kernel⟩ (by decide) (ww_letter_ok htr hE.2.2 hD hq hx) (by decide) rfl rfl (Nat.le_of_ble_eq_true rfl) (by omega) wld_412 (fun w5 => ?_)
  refine wt_o_istore hE [some (.ref b), some (.ref (wt_ad (wt_xw X) 0)), some (.ref (wt_ad (wt_xw X) 108)), some (.ref o), some (.int i), some (.int w5), none] wld_415 (by decide) rfl ?_
  refine wt_o_aload_n hE wld_417 rfl ?_
  refine wt_o_aload_n hE wld_418 rfl ?_
  refine wt_o_iload hE wld_419 rfl ?_
  refine wt_o_iconst hE (1 : Int32) wld_421 (by decide) ?_
  refine wt_o_iadd hE wld_422 ?_
  refine wt_o_sld hE hX (hi 1 (by decide)) wld_423 ?_
  refine wt_o_aload_n hE wld_424 rfl ?_
  refine wt_o_iload hE wld_425 rfl ?_
  refine wt_o_iconst hE (2 : Int32) wld_427 (by decide) ?_
  refine wt_o_iadd hE wld_428 ?_
  refine wt_o_sld hE hX (hi 2 (by decide)) wld_429 ?_
  refine wt_o_callVi (dd := 2) hE [.int (xs (i + (1 : Int32)).toNatClampNeg), .int (xs (i + (2 : Int32)).toNatClampNeg)] wt_lm_lw_138 wt_ya_md_letter (wp_md_letter_ok hM hr) (by decide) (hM 108 (by decide) (by decide)) wt_L108 rfl rfl rfl (Nat.le_of_ble_eq_true rfl) (by omega) wld_430 ?_
  refine wt_o_istore hE [some (.ref b), some (.ref (wt_ad (wt_xw X) 0)), some (.ref (wt_ad (wt_xw X) 108)), some (.ref o), some (.int i), some (.int w5), some (.int r.1)] wld_433 (by decide) rfl ?_
  refine wt_o_goto hE 1455 wld_435 rfl ?_
  exact wt_o_wk [true, true, true, true, true, false, false] rfl (kn _ hI)
theorem wld_438 : decode code 438 = .ok (.aload_n 1, 1) := wt_dc wk606lawc0_code_416_c 22 438 rfl (by decide +kernel)
theorem wld_439 : decode code 439 = .ok (.aload_n 0, 1) := wt_dc wk606lawc0_code_416_c 23 439 rfl (by decide +kernel)
theorem wld_440 : decode code 440 = .ok (.iload 4, 2) := wt_dc wk606lawc0_code_416_c 24 440 rfl (by decide +kernel)
theorem wld_442 : decode code 442 = .ok (.iconst 1, 1) := wt_dc wk606lawc0_code_416_c 26 442 rfl (by decide +kernel)
theorem wld_443 : decode code 443 = .ok (.iadd, 1) := wt_dc wk606lawc0_code_416_c 27 443 rfl (by decide +kernel)
theorem wld_444 : decode code 444 = .ok (.iaload, 1) := wt_dc wk606lawc0_code_416_c 28 444 rfl (by decide +kernel)
theorem wld_445 : decode code 445 = .ok (.aload_n 0, 1) := wt_dc wk606lawc0_code_416_c 29 445 rfl (by decide +kernel)
theorem wld_446 : decode code 446 = .ok (.iload 4, 2) := wt_dc wk606lawc0_code_416_c 30 446 rfl (by decide +kernel)
def wk606lawc0_code_448 : ByteArray := .mk #[0x05, 0x60, 0x2e, 0x2a, 0x15, 0x04, 0x06, 0x60, 0x2e, 0x2d, 0xb8, 0x00, 0x8b, 0x36, 0x05, 0x2c, 0x2a, 0x15, 0x04, 0x04, 0x60, 0x2e, 0x2a, 0x15, 0x04, 0x05, 0x60, 0x2e, 0x2a, 0x15, 0x04, 0x06, 0x60, 0x2e, 0xb6, 0x00, 0x8e, 0x36, 0x06, 0xa7, 0x03, 0xc8, 0x2b, 0x2a, 0x15, 0x04, 0x04, 0x60]
theorem wk606lawc0_code_448_c : wt_ck code wk606lawc0_code_448 448 := wt_ck_of 48 (by decide) (by decide +kernel) (by decide +kernel)
theorem wld_448 : decode code 448 = .ok (.iconst 2, 1) := wt_dc wk606lawc0_code_448_c 0 448 rfl (by decide +kernel)
theorem wld_449 : decode code 449 = .ok (.iadd, 1) := wt_dc wk606lawc0_code_448_c 1 449 rfl (by decide +kernel)
theorem wld_450 : decode code 450 = .ok (.iaload, 1) := wt_dc wk606lawc0_code_448_c 2 450 rfl (by decide +kernel)
theorem wld_451 : decode code 451 = .ok (.aload_n 0, 1) := wt_dc wk606lawc0_code_448_c 3 451 rfl (by decide +kernel)
theorem wld_452 : decode code 452 = .ok (.iload 4, 2) := wt_dc wk606lawc0_code_448_c 4 452 rfl (by decide +kernel)
theorem wld_454 : decode code 454 = .ok (.iconst 3, 1) := wt_dc wk606lawc0_code_448_c 6 454 rfl (by decide +kernel)
theorem wld_455 : decode code 455 = .ok (.iadd, 1) := wt_dc wk606lawc0_code_448_c 7 455 rfl (by decide +kernel)
theorem wld_456 : decode code 456 = .ok (.iaload, 1) := wt_dc wk606lawc0_code_448_c 8 456 rfl (by decide +kernel)
theorem wld_457 : decode code 457 = .ok (.aload_n 3, 1) := wt_dc wk606lawc0_code_448_c 9 457 rfl (by decide +kernel)
theorem wld_458 : decode code 458 = .ok (.invokestatic 139, 3) := wt_dc wk606lawc0_code_448_c 10 458 rfl (by decide +kernel)
theorem wld_461 : decode code 461 = .ok (.istore 5, 2) := wt_dc wk606lawc0_code_448_c 13 461 rfl (by decide +kernel)
theorem wld_463 : decode code 463 = .ok (.aload_n 2, 1) := wt_dc wk606lawc0_code_448_c 15 463 rfl (by decide +kernel)
theorem wld_464 : decode code 464 = .ok (.aload_n 0, 1) := wt_dc wk606lawc0_code_448_c 16 464 rfl (by decide +kernel)
theorem wld_465 : decode code 465 = .ok (.iload 4, 2) := wt_dc wk606lawc0_code_448_c 17 465 rfl (by decide +kernel)
theorem wld_467 : decode code 467 = .ok (.iconst 1, 1) := wt_dc wk606lawc0_code_448_c 19 467 rfl (by decide +kernel)
theorem wld_468 : decode code 468 = .ok (.iadd, 1) := wt_dc wk606lawc0_code_448_c 20 468 rfl (by decide +kernel)
theorem wld_469 : decode code 469 = .ok (.iaload, 1) := wt_dc wk606lawc0_code_448_c 21 469 rfl (by decide +kernel)
theorem wld_470 : decode code 470 = .ok (.aload_n 0, 1) := wt_dc wk606lawc0_code_448_c 22 470 rfl (by decide +kernel)
theorem wld_471 : decode code 471 = .ok (.iload 4, 2) := wt_dc wk606lawc0_code_448_c 23 471 rfl (by decide +kernel)
theorem wld_473 : decode code 473 = .ok (.iconst 2, 1) := wt_dc wk606lawc0_code_448_c 25 473 rfl (by decide +kernel)
theorem wld_474 : decode code 474 = .ok (.iadd, 1) := wt_dc wk606lawc0_code_448_c 26 474 rfl (by decide +kernel)
theorem wld_475 : decode code 475 = .ok (.iaload, 1) := wt_dc wk606lawc0_code_448_c 27 475 rfl (by decide +kernel)
theorem wld_476 : decode code 476 = .ok (.aload_n 0, 1) := wt_dc wk606lawc0_code_448_c 28 476 rfl (by decide +kernel)
theorem wld_477 : decode code 477 = .ok (.iload 4, 2) := wt_dc wk606lawc0_code_448_c 29 477 rfl (by decide +kernel)
theorem wld_479 : decode code 479 = .ok (.iconst 3, 1) := wt_dc wk606lawc0_code_448_c 31 479 rfl (by decide +kernel)
def wk606lawc0_code_480 : ByteArray := .mk #[0x60, 0x2e, 0xb6, 0x00, 0x8e, 0x36, 0x06, 0xa7, 0x03, 0xc8, 0x2b, 0x2a, 0x15, 0x04, 0x04, 0x60, 0x2e, 0x2a, 0x15, 0x04, 0x05, 0x60, 0x2e, 0x2d, 0xb8, 0x00, 0x8f, 0x36, 0x05, 0x2c, 0x2a, 0x15, 0x04, 0x04, 0x60, 0x2e, 0x2a, 0x15, 0x04, 0x05, 0x60, 0x2e, 0xb6, 0x00, 0x91, 0x36, 0x06, 0xa7]
theorem wk606lawc0_code_480_c : wt_ck code wk606lawc0_code_480 480 := wt_ck_of 48 (by decide) (by decide +kernel) (by decide +kernel)
theorem wld_480 : decode code 480 = .ok (.iadd, 1) := wt_dc wk606lawc0_code_480_c 0 480 rfl (by decide +kernel)
theorem wld_481 : decode code 481 = .ok (.iaload, 1) := wt_dc wk606lawc0_code_480_c 1 481 rfl (by decide +kernel)
theorem wld_482 : decode code 482 = .ok (.invokevirtual 142, 3) := wt_dc wk606lawc0_code_480_c 2 482 rfl (by decide +kernel)
theorem wld_485 : decode code 485 = .ok (.istore 6, 2) := wt_dc wk606lawc0_code_480_c 5 485 rfl (by decide +kernel)
theorem wld_487 : decode code 487 = .ok (.goto 968, 3) := wt_dc wk606lawc0_code_480_c 7 487 rfl (by decide +kernel)
set_option maxRecDepth 100000 in
set_option maxHeartbeats 4000000 in
theorem wl_piece {X : wt_X} {o b L : Nat} {xs : Nat → Int32} {n K : Nat} {Inv : wt_St → Prop} {i : Int32} (hE : wt_OkO X o code 7 "WornTypeLaw" 400 100000) (hdm : ∀ i, wt_dom (wt_xw X) i ↔ i < 321) (hSN : wt_SN (wt_Ao (wt_xw X) o (wt_xs X).heap.size) (wt_xs X) (wt_xs X).heap) (htr : (wt_xl X).stackTraces = false) (hX : wt_scr X o b L xs) (hi : ∀ c : Int32, c = 1 ∨ c = 2 ∨ c = 3 ∨ c = 4 ∨ c = 5 → vp_in (i + c) L) (hK : K + 8 ≤ 100000) (hP : wt_P_piece n Inv) {σ : wt_St} (hσ : Inv σ) (kn : ∀ τ : wt_St, Inv τ → wt_O X o (K + 8) τ 1455 [some (.ref b), some (.ref (wt_ad (wt_xw X) 0)), some (.ref (wt_ad (wt_xw X) 108)), some (.ref o), some (.int i), none, none] []) : wt_O X o K σ 438 [some (.ref b), some (.ref (wt_ad (wt_xw X) 0)), some (.ref (wt_ad (wt_xw X) 108)), some (.ref o), some (.int i), none, none] [] := by
  have hD : ∀ i, i < 108 → wt_dom (wt_xw X) i := fun i hi => (hdm i).mpr (by omega)
  have hM : ∀ i, 108 ≤ i → i < 321 → wt_dom (wt_xw X) i := fun i _ hi => (hdm i).mpr hi
  obtain ⟨q, hq, hx, r, hr, hI⟩ := hP _ (xs (i + (1 : Int32)).toNatClampNeg) (xs (i + (2 : Int32)).toNatClampNeg) (xs (i + (3 : Int32)).toNatClampNeg) hσ
  refine wt_o_aload_n hE wld_438 rfl ?_
  refine wt_o_aload_n hE wld_439 rfl ?_
  refine wt_o_iload hE wld_440 rfl ?_
  refine wt_o_iconst hE (1 : Int32) wld_442 (by decide) ?_
  refine wt_o_iadd hE wld_443 ?_
  refine wt_o_sld hE hX (hi 1 (by decide)) wld_444 ?_
  refine wt_o_aload_n hE wld_445 rfl ?_
  refine wt_o_iload hE wld_446 rfl ?_
  refine wt_o_iconst hE (2 : Int32) wld_448 (by decide) ?_
  refine wt_o_iadd hE wld_449 ?_
  refine wt_o_sld hE hX (hi 2 (by decide)) wld_450 ?_
  refine wt_o_aload_n hE wld_451 rfl ?_
  refine wt_o_iload hE wld_452 rfl ?_
  refine wt_o_iconst hE (3 : Int32) wld_454 (by decide) ?_
  refine wt_o_iadd hE wld_455 ?_
  refine wt_o_sld hE hX (hi 3 (by decide)) wld_456 ?_
  refine wt_o_aload_n hE wld_457 rfl ?_
  refine wt_o_callW hE hSN (k := 5) (dd := 8) (mc := 8) [.ref (wt_ad (wt_xw X) 0), .int (xs (i + (1 : Int32)).toNatClampNeg), .int (xs (i + (2 : Int32)).toNatClampNeg), .int (xs (i + (3 : Int32)).toNatClampNeg), .ref o] (wt_g4 168 rfl rfl) (wt_g4 169 rfl rfl) (wt_g1 0 rfl rfl) wt_cm_piece ⟨by decide, by decide, by decide +kernel⟩ (by decide) (ww_piece_ok htr hE.2.2 hD hq hx) (by decide) rfl rfl (Nat.le_of_ble_eq_true rfl) (by omega) wld_458 (fun w5 => ?_)
  refine wt_o_istore hE [some (.ref b), some (.ref (wt_ad (wt_xw X) 0)), some (.ref (wt_ad (wt_xw X) 108)), some (.ref o), some (.int i), some (.int w5), none] wld_461 (by decide) rfl ?_
  refine wt_o_aload_n hE wld_463 rfl ?_
  refine wt_o_aload_n hE wld_464 rfl ?_
  refine wt_o_iload hE wld_465 rfl ?_
  refine wt_o_iconst hE (1 : Int32) wld_467 (by decide) ?_
  refine wt_o_iadd hE wld_468 ?_
  refine wt_o_sld hE hX (hi 1 (by decide)) wld_469 ?_
  refine wt_o_aload_n hE wld_470 rfl ?_
  refine wt_o_iload hE wld_471 rfl ?_
  refine wt_o_iconst hE (2 : Int32) wld_473 (by decide) ?_
  refine wt_o_iadd hE wld_474 ?_
  refine wt_o_sld hE hX (hi 2 (by decide)) wld_475 ?_
  refine wt_o_aload_n hE wld_476 rfl ?_
  refine wt_o_iload hE wld_477 rfl ?_
  refine wt_o_iconst hE (3 : Int32) wld_479 (by decide) ?_
  refine wt_o_iadd hE wld_480 ?_
  refine wt_o_sld hE hX (hi 3 (by decide)) wld_481 ?_
  refine wt_o_callVi (dd := 2) hE [.int (xs (i + (1 : Int32)).toNatClampNeg), .int (xs (i + (2 : Int32)).toNatClampNeg), .int (xs (i + (3 : Int32)).toNatClampNeg)] wt_lm_lw_142 wt_ya_md_piece (wp_md_piece_ok hM hr) (by decide) (hM 108 (by decide) (by decide)) wt_L108 rfl rfl rfl (Nat.le_of_ble_eq_true rfl) (by omega) wld_482 ?_
  refine wt_o_istore hE [some (.ref b), some (.ref (wt_ad (wt_xw X) 0)), some (.ref (wt_ad (wt_xw X) 108)), some (.ref o), some (.int i), some (.int w5), some (.int r.1)] wld_485 (by decide) rfl ?_
  refine wt_o_goto hE 1455 wld_487 rfl ?_
  exact wt_o_wk [true, true, true, true, true, false, false] rfl (kn _ hI)
theorem wld_490 : decode code 490 = .ok (.aload_n 1, 1) := wt_dc wk606lawc0_code_480_c 10 490 rfl (by decide +kernel)
theorem wld_491 : decode code 491 = .ok (.aload_n 0, 1) := wt_dc wk606lawc0_code_480_c 11 491 rfl (by decide +kernel)
theorem wld_492 : decode code 492 = .ok (.iload 4, 2) := wt_dc wk606lawc0_code_480_c 12 492 rfl (by decide +kernel)
theorem wld_494 : decode code 494 = .ok (.iconst 1, 1) := wt_dc wk606lawc0_code_480_c 14 494 rfl (by decide +kernel)
theorem wld_495 : decode code 495 = .ok (.iadd, 1) := wt_dc wk606lawc0_code_480_c 15 495 rfl (by decide +kernel)
theorem wld_496 : decode code 496 = .ok (.iaload, 1) := wt_dc wk606lawc0_code_480_c 16 496 rfl (by decide +kernel)
theorem wld_497 : decode code 497 = .ok (.aload_n 0, 1) := wt_dc wk606lawc0_code_480_c 17 497 rfl (by decide +kernel)
theorem wld_498 : decode code 498 = .ok (.iload 4, 2) := wt_dc wk606lawc0_code_480_c 18 498 rfl (by decide +kernel)
theorem wld_500 : decode code 500 = .ok (.iconst 2, 1) := wt_dc wk606lawc0_code_480_c 20 500 rfl (by decide +kernel)
theorem wld_501 : decode code 501 = .ok (.iadd, 1) := wt_dc wk606lawc0_code_480_c 21 501 rfl (by decide +kernel)
theorem wld_502 : decode code 502 = .ok (.iaload, 1) := wt_dc wk606lawc0_code_480_c 22 502 rfl (by decide +kernel)
theorem wld_503 : decode code 503 = .ok (.aload_n 3, 1) := wt_dc wk606lawc0_code_480_c 23 503 rfl (by decide +kernel)
theorem wld_504 : decode code 504 = .ok (.invokestatic 143, 3) := wt_dc wk606lawc0_code_480_c 24 504 rfl (by decide +kernel)
theorem wld_507 : decode code 507 = .ok (.istore 5, 2) := wt_dc wk606lawc0_code_480_c 27 507 rfl (by decide +kernel)
theorem wld_509 : decode code 509 = .ok (.aload_n 2, 1) := wt_dc wk606lawc0_code_480_c 29 509 rfl (by decide +kernel)
theorem wld_510 : decode code 510 = .ok (.aload_n 0, 1) := wt_dc wk606lawc0_code_480_c 30 510 rfl (by decide +kernel)
theorem wld_511 : decode code 511 = .ok (.iload 4, 2) := wt_dc wk606lawc0_code_480_c 31 511 rfl (by decide +kernel)
def wk606lawc0_code_512 : ByteArray := .mk #[0x04, 0x04, 0x60, 0x2e, 0x2a, 0x15, 0x04, 0x05, 0x60, 0x2e, 0xb6, 0x00, 0x91, 0x36, 0x06, 0xa7, 0x03, 0xa0, 0x2b, 0x2a, 0x15, 0x04, 0x04, 0x60, 0x2e, 0x2a, 0x15, 0x04, 0x05, 0x60, 0x2e, 0x2d, 0xb8, 0x00, 0x92, 0x36, 0x05, 0x2c, 0x2a, 0x15, 0x04, 0x04, 0x60, 0x2e, 0x2a, 0x15, 0x04, 0x05]
theorem wk606lawc0_code_512_c : wt_ck code wk606lawc0_code_512 512 := wt_ck_of 48 (by decide) (by decide +kernel) (by decide +kernel)
theorem wld_513 : decode code 513 = .ok (.iconst 1, 1) := wt_dc wk606lawc0_code_512_c 1 513 rfl (by decide +kernel)
theorem wld_514 : decode code 514 = .ok (.iadd, 1) := wt_dc wk606lawc0_code_512_c 2 514 rfl (by decide +kernel)
theorem wld_515 : decode code 515 = .ok (.iaload, 1) := wt_dc wk606lawc0_code_512_c 3 515 rfl (by decide +kernel)
theorem wld_516 : decode code 516 = .ok (.aload_n 0, 1) := wt_dc wk606lawc0_code_512_c 4 516 rfl (by decide +kernel)
theorem wld_517 : decode code 517 = .ok (.iload 4, 2) := wt_dc wk606lawc0_code_512_c 5 517 rfl (by decide +kernel)
theorem wld_519 : decode code 519 = .ok (.iconst 2, 1) := wt_dc wk606lawc0_code_512_c 7 519 rfl (by decide +kernel)
theorem wld_520 : decode code 520 = .ok (.iadd, 1) := wt_dc wk606lawc0_code_512_c 8 520 rfl (by decide +kernel)
theorem wld_521 : decode code 521 = .ok (.iaload, 1) := wt_dc wk606lawc0_code_512_c 9 521 rfl (by decide +kernel)
theorem wld_522 : decode code 522 = .ok (.invokevirtual 145, 3) := wt_dc wk606lawc0_code_512_c 10 522 rfl (by decide +kernel)
theorem wld_525 : decode code 525 = .ok (.istore 6, 2) := wt_dc wk606lawc0_code_512_c 13 525 rfl (by decide +kernel)
theorem wld_527 : decode code 527 = .ok (.goto 928, 3) := wt_dc wk606lawc0_code_512_c 15 527 rfl (by decide +kernel)
set_option maxRecDepth 100000 in
set_option maxHeartbeats 4000000 in
theorem wl_word {X : wt_X} {o b L : Nat} {xs : Nat → Int32} {n K : Nat} {Inv : wt_St → Prop} {i : Int32} (hE : wt_OkO X o code 7 "WornTypeLaw" 400 100000) (hdm : ∀ i, wt_dom (wt_xw X) i ↔ i < 321) (hSN : wt_SN (wt_Ao (wt_xw X) o (wt_xs X).heap.size) (wt_xs X) (wt_xs X).heap) (htr : (wt_xl X).stackTraces = false) (hX : wt_scr X o b L xs) (hi : ∀ c : Int32, c = 1 ∨ c = 2 ∨ c = 3 ∨ c = 4 ∨ c = 5 → vp_in (i + c) L) (hK : K + 8 ≤ 100000) (hP : wt_P_word n Inv) {σ : wt_St} (hσ : Inv σ) (kn : ∀ τ : wt_St, Inv τ → wt_O X o (K + 8) τ 1455 [some (.ref b), some (.ref (wt_ad (wt_xw X) 0)), some (.ref (wt_ad (wt_xw X) 108)), some (.ref o), some (.int i), none, none] []) : wt_O X o K σ 490 [some (.ref b), some (.ref (wt_ad (wt_xw X) 0)), some (.ref (wt_ad (wt_xw X) 108)), some (.ref o), some (.int i), none, none] [] := by
  have hD : ∀ i, i < 108 → wt_dom (wt_xw X) i := fun i hi => (hdm i).mpr (by omega)
  have hM : ∀ i, 108 ≤ i → i < 321 → wt_dom (wt_xw X) i := fun i _ hi => (hdm i).mpr hi
  obtain ⟨q, hq, hx, r, hr, hI⟩ := hP _ (xs (i + (1 : Int32)).toNatClampNeg) (xs (i + (2 : Int32)).toNatClampNeg) hσ
  refine wt_o_aload_n hE wld_490 rfl ?_
  refine wt_o_aload_n hE wld_491 rfl ?_
  refine wt_o_iload hE wld_492 rfl ?_
  refine wt_o_iconst hE (1 : Int32) wld_494 (by decide) ?_
  refine wt_o_iadd hE wld_495 ?_
  refine wt_o_sld hE hX (hi 1 (by decide)) wld_496 ?_
  refine wt_o_aload_n hE wld_497 rfl ?_
  refine wt_o_iload hE wld_498 rfl ?_
  refine wt_o_iconst hE (2 : Int32) wld_500 (by decide) ?_
  refine wt_o_iadd hE wld_501 ?_
  refine wt_o_sld hE hX (hi 2 (by decide)) wld_502 ?_
  refine wt_o_aload_n hE wld_503 rfl ?_
  refine wt_o_callW hE hSN (k := 4) (dd := 8) (mc := 8) [.ref (wt_ad (wt_xw X) 0), .int (xs (i + (1 : Int32)).toNatClampNeg), .int (xs (i + (2 : Int32)).toNatClampNeg), .ref o] (wt_g4 192 rfl rfl) (wt_g4 193 rfl rfl) (wt_g1 0 rfl rfl) wt_cm_word ⟨by decide, by decide, by decide +kernel⟩ (by decide) (ww_word_ok htr hE.2.2 hD hq hx) (by decide) rfl rfl (Nat.le_of_ble_eq_true rfl) (by omega) wld_504 (fun w5 => ?_)
  refine wt_o_istore hE [some (.ref b), some (.ref (wt_ad (wt_xw X) 0)), some (.ref (wt_ad (wt_xw X) 108)), some (.ref o), some (.int i), some (.int w5), none] wld_507 (by decide) rfl ?_
  refine wt_o_aload_n hE wld_509 rfl ?_
  refine wt_o_aload_n hE wld_510 rfl ?_
  refine wt_o_iload hE wld_511 rfl ?_
  refine wt_o_iconst hE (1 : Int32) wld_513 (by decide) ?_
  refine wt_o_iadd hE wld_514 ?_
  refine wt_o_sld hE hX (hi 1 (by decide)) wld_515 ?_
  refine wt_o_aload_n hE wld_516 rfl ?_
  refine wt_o_iload hE wld_517 rfl ?_
  refine wt_o_iconst hE (2 : Int32) wld_519 (by decide) ?_
  refine wt_o_iadd hE wld_520 ?_
  refine wt_o_sld hE hX (hi 2 (by decide)) wld_521 ?_
  refine wt_o_callVi (dd := 5) hE [.int (xs (i + (1 : Int32)).toNatClampNeg), .int (xs (i + (2 : Int32)).toNatClampNeg)] wt_lm_lw_145 wt_ya_md_word (wp_md_word_ok hM hr) (by decide) (hM 108 (by decide) (by decide)) wt_L108 rfl rfl rfl (Nat.le_of_ble_eq_true rfl) (by omega) wld_522 ?_
  refine wt_o_istore hE [some (.ref b), some (.ref (wt_ad (wt_xw X) 0)), some (.ref (wt_ad (wt_xw X) 108)), some (.ref o), some (.int i), some (.int w5), some (.int r.1)] wld_525 (by decide) rfl ?_
  refine wt_o_goto hE 1455 wld_527 rfl ?_
  exact wt_o_wk [true, true, true, true, true, false, false] rfl (kn _ hI)
theorem wld_530 : decode code 530 = .ok (.aload_n 1, 1) := wt_dc wk606lawc0_code_512_c 18 530 rfl (by decide +kernel)
theorem wld_531 : decode code 531 = .ok (.aload_n 0, 1) := wt_dc wk606lawc0_code_512_c 19 531 rfl (by decide +kernel)
theorem wld_532 : decode code 532 = .ok (.iload 4, 2) := wt_dc wk606lawc0_code_512_c 20 532 rfl (by decide +kernel)
theorem wld_534 : decode code 534 = .ok (.iconst 1, 1) := wt_dc wk606lawc0_code_512_c 22 534 rfl (by decide +kernel)
theorem wld_535 : decode code 535 = .ok (.iadd, 1) := wt_dc wk606lawc0_code_512_c 23 535 rfl (by decide +kernel)
theorem wld_536 : decode code 536 = .ok (.iaload, 1) := wt_dc wk606lawc0_code_512_c 24 536 rfl (by decide +kernel)
theorem wld_537 : decode code 537 = .ok (.aload_n 0, 1) := wt_dc wk606lawc0_code_512_c 25 537 rfl (by decide +kernel)
theorem wld_538 : decode code 538 = .ok (.iload 4, 2) := wt_dc wk606lawc0_code_512_c 26 538 rfl (by decide +kernel)
theorem wld_540 : decode code 540 = .ok (.iconst 2, 1) := wt_dc wk606lawc0_code_512_c 28 540 rfl (by decide +kernel)
theorem wld_541 : decode code 541 = .ok (.iadd, 1) := wt_dc wk606lawc0_code_512_c 29 541 rfl (by decide +kernel)
theorem wld_542 : decode code 542 = .ok (.iaload, 1) := wt_dc wk606lawc0_code_512_c 30 542 rfl (by decide +kernel)
theorem wld_543 : decode code 543 = .ok (.aload_n 3, 1) := wt_dc wk606lawc0_code_512_c 31 543 rfl (by decide +kernel)
def wk606lawc0_code_544 : ByteArray := .mk #[0xb8, 0x00, 0x92, 0x36, 0x05, 0x2c, 0x2a, 0x15, 0x04, 0x04, 0x60, 0x2e, 0x2a, 0x15, 0x04, 0x05, 0x60, 0x2e, 0xb6, 0x00, 0x94, 0x36, 0x06, 0xa7, 0x03, 0x78, 0x2b, 0x2a, 0x15, 0x04, 0x04, 0x60, 0x2e, 0x2a, 0x15, 0x04, 0x05, 0x60, 0x2e, 0x2d, 0xb8, 0x00, 0x95, 0x36, 0x05, 0x2c, 0x2a, 0x15]
theorem wk606lawc0_code_544_c : wt_ck code wk606lawc0_code_544 544 := wt_ck_of 48 (by decide) (by decide +kernel) (by decide +kernel)
theorem wld_544 : decode code 544 = .ok (.invokestatic 146, 3) := wt_dc wk606lawc0_code_544_c 0 544 rfl (by decide +kernel)
theorem wld_547 : decode code 547 = .ok (.istore 5, 2) := wt_dc wk606lawc0_code_544_c 3 547 rfl (by decide +kernel)
theorem wld_549 : decode code 549 = .ok (.aload_n 2, 1) := wt_dc wk606lawc0_code_544_c 5 549 rfl (by decide +kernel)
theorem wld_550 : decode code 550 = .ok (.aload_n 0, 1) := wt_dc wk606lawc0_code_544_c 6 550 rfl (by decide +kernel)
theorem wld_551 : decode code 551 = .ok (.iload 4, 2) := wt_dc wk606lawc0_code_544_c 7 551 rfl (by decide +kernel)
theorem wld_553 : decode code 553 = .ok (.iconst 1, 1) := wt_dc wk606lawc0_code_544_c 9 553 rfl (by decide +kernel)
theorem wld_554 : decode code 554 = .ok (.iadd, 1) := wt_dc wk606lawc0_code_544_c 10 554 rfl (by decide +kernel)
theorem wld_555 : decode code 555 = .ok (.iaload, 1) := wt_dc wk606lawc0_code_544_c 11 555 rfl (by decide +kernel)
theorem wld_556 : decode code 556 = .ok (.aload_n 0, 1) := wt_dc wk606lawc0_code_544_c 12 556 rfl (by decide +kernel)
theorem wld_557 : decode code 557 = .ok (.iload 4, 2) := wt_dc wk606lawc0_code_544_c 13 557 rfl (by decide +kernel)
theorem wld_559 : decode code 559 = .ok (.iconst 2, 1) := wt_dc wk606lawc0_code_544_c 15 559 rfl (by decide +kernel)
theorem wld_560 : decode code 560 = .ok (.iadd, 1) := wt_dc wk606lawc0_code_544_c 16 560 rfl (by decide +kernel)
theorem wld_561 : decode code 561 = .ok (.iaload, 1) := wt_dc wk606lawc0_code_544_c 17 561 rfl (by decide +kernel)
theorem wld_562 : decode code 562 = .ok (.invokevirtual 148, 3) := wt_dc wk606lawc0_code_544_c 18 562 rfl (by decide +kernel)
theorem wld_565 : decode code 565 = .ok (.istore 6, 2) := wt_dc wk606lawc0_code_544_c 21 565 rfl (by decide +kernel)
theorem wld_567 : decode code 567 = .ok (.goto 888, 3) := wt_dc wk606lawc0_code_544_c 23 567 rfl (by decide +kernel)
set_option maxRecDepth 100000 in
set_option maxHeartbeats 4000000 in
theorem wl_at {X : wt_X} {o b L : Nat} {xs : Nat → Int32} {n K : Nat} {Inv : wt_St → Prop} {i : Int32} (hE : wt_OkO X o code 7 "WornTypeLaw" 400 100000) (hdm : ∀ i, wt_dom (wt_xw X) i ↔ i < 321) (hSN : wt_SN (wt_Ao (wt_xw X) o (wt_xs X).heap.size) (wt_xs X) (wt_xs X).heap) (htr : (wt_xl X).stackTraces = false) (hX : wt_scr X o b L xs) (hi : ∀ c : Int32, c = 1 ∨ c = 2 ∨ c = 3 ∨ c = 4 ∨ c = 5 → vp_in (i + c) L) (hK : K + 8 ≤ 100000) (hP : wt_P_at n Inv) {σ : wt_St} (hσ : Inv σ) (kn : ∀ τ : wt_St, Inv τ → wt_O X o (K + 8) τ 1455 [some (.ref b), some (.ref (wt_ad (wt_xw X) 0)), some (.ref (wt_ad (wt_xw X) 108)), some (.ref o), some (.int i), none, none] []) : wt_O X o K σ 530 [some (.ref b), some (.ref (wt_ad (wt_xw X) 0)), some (.ref (wt_ad (wt_xw X) 108)), some (.ref o), some (.int i), none, none] [] := by
  have hD : ∀ i, i < 108 → wt_dom (wt_xw X) i := fun i hi => (hdm i).mpr (by omega)
  have hM : ∀ i, 108 ≤ i → i < 321 → wt_dom (wt_xw X) i := fun i _ hi => (hdm i).mpr hi
  obtain ⟨q, hq, hx, r, hr, hI⟩ := hP _ (xs (i + (1 : Int32)).toNatClampNeg) (xs (i + (2 : Int32)).toNatClampNeg) hσ
  refine wt_o_aload_n hE wld_530 rfl ?_
  refine wt_o_aload_n hE wld_531 rfl ?_
  refine wt_o_iload hE wld_532 rfl ?_
  refine wt_o_iconst hE (1 : Int32) wld_534 (by decide) ?_
  refine wt_o_iadd hE wld_535 ?_
  refine wt_o_sld hE hX (hi 1 (by decide)) wld_536 ?_
  refine wt_o_aload_n hE wld_537 rfl ?_
  refine wt_o_iload hE wld_538 rfl ?_
  refine wt_o_iconst hE (2 : Int32) wld_540 (by decide) ?_
  refine wt_o_iadd hE wld_541 ?_
  refine wt_o_sld hE hX (hi 2 (by decide)) wld_542 ?_
  refine wt_o_aload_n hE wld_543 rfl ?_
  refine wt_o_callW hE hSN (k := 4) (dd := 8) (mc := 8) [.ref (wt_ad (wt_xw X) 0), .int (xs (i + (1 : Int32)).toNatClampNeg), .int (xs (i + (2 : Int32)).toNatClampNeg), .ref o] (wt_g5 6 rfl rfl) (wt_g5 7 rfl rfl) (wt_g1 0 rfl rfl) wt_cm_at ⟨by decide, by decide, by decide +kernel⟩ (by decide) (ww_at_ok htr hE.2.2 hD hq hx) (by decide) rfl rfl (Nat.le_of_ble_eq_true rfl) (by omega) wld_544 (fun w5 => ?_)
  refine wt_o_istore hE [some (.ref b), some (.ref (wt_ad (wt_xw X) 0)), some (.ref (wt_ad (wt_xw X) 108)), some (.ref o), some (.int i), some (.int w5), none] wld_547 (by decide) rfl ?_
  refine wt_o_aload_n hE wld_549 rfl ?_
  refine wt_o_aload_n hE wld_550 rfl ?_
  refine wt_o_iload hE wld_551 rfl ?_
  refine wt_o_iconst hE (1 : Int32) wld_553 (by decide) ?_
  refine wt_o_iadd hE wld_554 ?_
  refine wt_o_sld hE hX (hi 1 (by decide)) wld_555 ?_
  refine wt_o_aload_n hE wld_556 rfl ?_
  refine wt_o_iload hE wld_557 rfl ?_
  refine wt_o_iconst hE (2 : Int32) wld_559 (by decide) ?_
  refine wt_o_iadd hE wld_560 ?_
  refine wt_o_sld hE hX (hi 2 (by decide)) wld_561 ?_
  refine wt_o_callVi (dd := 2) hE [.int (xs (i + (1 : Int32)).toNatClampNeg), .int (xs (i + (2 : Int32)).toNatClampNeg)] wt_lm_lw_148 wt_ya_md_at (wp_md_at_ok hM hr) (by decide) (hM 108 (by decide) (by decide)) wt_L108 rfl rfl rfl (Nat.le_of_ble_eq_true rfl) (by omega) wld_562 ?_
  refine wt_o_istore hE [some (.ref b), some (.ref (wt_ad (wt_xw X) 0)), some (.ref (wt_ad (wt_xw X) 108)), some (.ref o), some (.int i), some (.int w5), some (.int r.1)] wld_565 (by decide) rfl ?_
  refine wt_o_goto hE 1455 wld_567 rfl ?_
  exact wt_o_wk [true, true, true, true, true, false, false] rfl (kn _ hI)
theorem wld_570 : decode code 570 = .ok (.aload_n 1, 1) := wt_dc wk606lawc0_code_544_c 26 570 rfl (by decide +kernel)
theorem wld_571 : decode code 571 = .ok (.aload_n 0, 1) := wt_dc wk606lawc0_code_544_c 27 571 rfl (by decide +kernel)
theorem wld_572 : decode code 572 = .ok (.iload 4, 2) := wt_dc wk606lawc0_code_544_c 28 572 rfl (by decide +kernel)
theorem wld_574 : decode code 574 = .ok (.iconst 1, 1) := wt_dc wk606lawc0_code_544_c 30 574 rfl (by decide +kernel)
theorem wld_575 : decode code 575 = .ok (.iadd, 1) := wt_dc wk606lawc0_code_544_c 31 575 rfl (by decide +kernel)
def wk606lawc0_code_576 : ByteArray := .mk #[0x2e, 0x2a, 0x15, 0x04, 0x05, 0x60, 0x2e, 0x2d, 0xb8, 0x00, 0x95, 0x36, 0x05, 0x2c, 0x2a, 0x15, 0x04, 0x04, 0x60, 0x2e, 0x2a, 0x15, 0x04, 0x05, 0x60, 0x2e, 0xb6, 0x00, 0x97, 0x36, 0x06, 0xa7, 0x03, 0x50, 0x2b, 0x2a, 0x15, 0x04, 0x04, 0x60, 0x2e, 0x2d, 0xb8, 0x00, 0x98, 0x36, 0x05, 0x2c]
theorem wk606lawc0_code_576_c : wt_ck code wk606lawc0_code_576 576 := wt_ck_of 48 (by decide) (by decide +kernel) (by decide +kernel)
theorem wld_576 : decode code 576 = .ok (.iaload, 1) := wt_dc wk606lawc0_code_576_c 0 576 rfl (by decide +kernel)
theorem wld_577 : decode code 577 = .ok (.aload_n 0, 1) := wt_dc wk606lawc0_code_576_c 1 577 rfl (by decide +kernel)
theorem wld_578 : decode code 578 = .ok (.iload 4, 2) := wt_dc wk606lawc0_code_576_c 2 578 rfl (by decide +kernel)
theorem wld_580 : decode code 580 = .ok (.iconst 2, 1) := wt_dc wk606lawc0_code_576_c 4 580 rfl (by decide +kernel)
theorem wld_581 : decode code 581 = .ok (.iadd, 1) := wt_dc wk606lawc0_code_576_c 5 581 rfl (by decide +kernel)
theorem wld_582 : decode code 582 = .ok (.iaload, 1) := wt_dc wk606lawc0_code_576_c 6 582 rfl (by decide +kernel)
theorem wld_583 : decode code 583 = .ok (.aload_n 3, 1) := wt_dc wk606lawc0_code_576_c 7 583 rfl (by decide +kernel)
theorem wld_584 : decode code 584 = .ok (.invokestatic 149, 3) := wt_dc wk606lawc0_code_576_c 8 584 rfl (by decide +kernel)
theorem wld_587 : decode code 587 = .ok (.istore 5, 2) := wt_dc wk606lawc0_code_576_c 11 587 rfl (by decide +kernel)
theorem wld_589 : decode code 589 = .ok (.aload_n 2, 1) := wt_dc wk606lawc0_code_576_c 13 589 rfl (by decide +kernel)
theorem wld_590 : decode code 590 = .ok (.aload_n 0, 1) := wt_dc wk606lawc0_code_576_c 14 590 rfl (by decide +kernel)
theorem wld_591 : decode code 591 = .ok (.iload 4, 2) := wt_dc wk606lawc0_code_576_c 15 591 rfl (by decide +kernel)
theorem wld_593 : decode code 593 = .ok (.iconst 1, 1) := wt_dc wk606lawc0_code_576_c 17 593 rfl (by decide +kernel)
theorem wld_594 : decode code 594 = .ok (.iadd, 1) := wt_dc wk606lawc0_code_576_c 18 594 rfl (by decide +kernel)
theorem wld_595 : decode code 595 = .ok (.iaload, 1) := wt_dc wk606lawc0_code_576_c 19 595 rfl (by decide +kernel)
theorem wld_596 : decode code 596 = .ok (.aload_n 0, 1) := wt_dc wk606lawc0_code_576_c 20 596 rfl (by decide +kernel)
theorem wld_597 : decode code 597 = .ok (.iload 4, 2) := wt_dc wk606lawc0_code_576_c 21 597 rfl (by decide +kernel)
theorem wld_599 : decode code 599 = .ok (.iconst 2, 1) := wt_dc wk606lawc0_code_576_c 23 599 rfl (by decide +kernel)
theorem wld_600 : decode code 600 = .ok (.iadd, 1) := wt_dc wk606lawc0_code_576_c 24 600 rfl (by decide +kernel)
theorem wld_601 : decode code 601 = .ok (.iaload, 1) := wt_dc wk606lawc0_code_576_c 25 601 rfl (by decide +kernel)
theorem wld_602 : decode code 602 = .ok (.invokevirtual 151, 3) := wt_dc wk606lawc0_code_576_c 26 602 rfl (by decide +kernel)
theorem wld_605 : decode code 605 = .ok (.istore 6, 2) := wt_dc wk606lawc0_code_576_c 29 605 rfl (by decide +kernel)
theorem wld_607 : decode code 607 = .ok (.goto 848, 3) := wt_dc wk606lawc0_code_576_c 31 607 rfl (by decide +kernel)
set_option maxRecDepth 100000 in
set_option maxHeartbeats 4000000 in
theorem wl_needs {X : wt_X} {o b L : Nat} {xs : Nat → Int32} {n K : Nat} {Inv : wt_St → Prop} {i : Int32} (hE : wt_OkO X o code 7 "WornTypeLaw" 400 100000) (hdm : ∀ i, wt_dom (wt_xw X) i ↔ i < 321) (hSN : wt_SN (wt_Ao (wt_xw X) o (wt_xs X).heap.size) (wt_xs X) (wt_xs X).heap) (htr : (wt_xl X).stackTraces = false) (hX : wt_scr X o b L xs) (hi : ∀ c : Int32, c = 1 ∨ c = 2 ∨ c = 3 ∨ c = 4 ∨ c = 5 → vp_in (i + c) L) (hK : K + 8 ≤ 100000) (hP : wt_P_needs n Inv) {σ : wt_St} (hσ : Inv σ) (kn : ∀ τ : wt_St, Inv τ → wt_O X o (K + 8) τ 1455 [some (.ref b), some (.ref (wt_ad (wt_xw X) 0)), some (.ref (wt_ad (wt_xw X) 108)), some (.ref o), some (.int i), none, none] []) : wt_O X o K σ 570 [some (.ref b), some (.ref (wt_ad (wt_xw X) 0)), some (.ref (wt_ad (wt_xw X) 108)), some (.ref o), some (.int i), none, none] [] := by
  have hD : ∀ i, i < 108 → wt_dom (wt_xw X) i := fun i hi => (hdm i).mpr (by omega)
  have hM : ∀ i, 108 ≤ i → i < 321 → wt_dom (wt_xw X) i := fun i _ hi => (hdm i).mpr hi
  obtain ⟨q, hq, hx, r, hr, hI⟩ := hP _ (xs (i + (1 : Int32)).toNatClampNeg) (xs (i + (2 : Int32)).toNatClampNeg) hσ
  refine wt_o_aload_n hE wld_570 rfl ?_
  refine wt_o_aload_n hE wld_571 rfl ?_
  refine wt_o_iload hE wld_572 rfl ?_
  refine wt_o_iconst hE (1 : Int32) wld_574 (by decide) ?_
  refine wt_o_iadd hE wld_575 ?_
  refine wt_o_sld hE hX (hi 1 (by decide)) wld_576 ?_
  refine wt_o_aload_n hE wld_577 rfl ?_
  refine wt_o_iload hE wld_578 rfl ?_
  refine wt_o_iconst hE (2 : Int32) wld_580 (by decide) ?_
  refine wt_o_iadd hE wld_581 ?_
  refine wt_o_sld hE hX (hi 2 (by decide)) wld_582 ?_
  refine wt_o_aload_n hE wld_583 rfl ?_
  refine wt_o_callW hE hSN (k := 4) (dd := 8) (mc := 8) [.ref (wt_ad (wt_xw X) 0), .int (xs (i + (1 : Int32)).toNatClampNeg), .int (xs (i + (2 : Int32)).toNatClampNeg), .ref o] (wt_g5 25 rfl rfl) (wt_g5 26 rfl rfl) (wt_g1 0 rfl rfl) wt_cm_needs ⟨by decide, by decide, by decide +kernel⟩ (by decide) (ww_needs_ok htr hE.2.2 hD hq hx) (by decide) rfl rfl (Nat.le_of_ble_eq_true rfl) (by omega) wld_584 (fun w5 => ?_)
  refine wt_o_istore hE [some (.ref b), some (.ref (wt_ad (wt_xw X) 0)), some (.ref (wt_ad (wt_xw X) 108)), some (.ref o), some (.int i), some (.int w5), none] wld_587 (by decide) rfl ?_
  refine wt_o_aload_n hE wld_589 rfl ?_
  refine wt_o_aload_n hE wld_590 rfl ?_
  refine wt_o_iload hE wld_591 rfl ?_
  refine wt_o_iconst hE (1 : Int32) wld_593 (by decide) ?_
  refine wt_o_iadd hE wld_594 ?_
  refine wt_o_sld hE hX (hi 1 (by decide)) wld_595 ?_
  refine wt_o_aload_n hE wld_596 rfl ?_
  refine wt_o_iload hE wld_597 rfl ?_
  refine wt_o_iconst hE (2 : Int32) wld_599 (by decide) ?_
  refine wt_o_iadd hE wld_600 ?_
  refine wt_o_sld hE hX (hi 2 (by decide)) wld_601 ?_
  refine wt_o_callVi (dd := 2) hE [.int (xs (i + (1 : Int32)).toNatClampNeg), .int (xs (i + (2 : Int32)).toNatClampNeg)] wt_lm_lw_151 wt_ya_md_needs (wp_md_needs_ok hM hr) (by decide) (hM 108 (by decide) (by decide)) wt_L108 rfl rfl rfl (Nat.le_of_ble_eq_true rfl) (by omega) wld_602 ?_
  refine wt_o_istore hE [some (.ref b), some (.ref (wt_ad (wt_xw X) 0)), some (.ref (wt_ad (wt_xw X) 108)), some (.ref o), some (.int i), some (.int w5), some (.int r.1)] wld_605 (by decide) rfl ?_
  refine wt_o_goto hE 1455 wld_607 rfl ?_
  exact wt_o_wk [true, true, true, true, true, false, false] rfl (kn _ hI)
def wk606lawc0_code_608 : ByteArray := .mk #[0x03, 0x50, 0x2b, 0x2a, 0x15, 0x04, 0x04, 0x60, 0x2e, 0x2d, 0xb8, 0x00, 0x98, 0x36, 0x05, 0x2c, 0x2a, 0x15, 0x04, 0x04, 0x60, 0x2e, 0xb6, 0x00, 0x9a, 0x36, 0x06, 0xa7, 0x03, 0x34, 0x2b, 0x2a, 0x15, 0x04, 0x04, 0x60, 0x2e, 0x2d, 0xb8, 0x00, 0x9b, 0x36, 0x05, 0x2c, 0x2a, 0x15, 0x04, 0x04]
theorem wk606lawc0_code_608_c : wt_ck code wk606lawc0_code_608 608 := wt_ck_of 48 (by decide) (by decide +kernel) (by decide +kernel)
theorem wld_610 : decode code 610 = .ok (.aload_n 1, 1) := wt_dc wk606lawc0_code_608_c 2 610 rfl (by decide +kernel)
theorem wld_611 : decode code 611 = .ok (.aload_n 0, 1) := wt_dc wk606lawc0_code_608_c 3 611 rfl (by decide +kernel)
theorem wld_612 : decode code 612 = .ok (.iload 4, 2) := wt_dc wk606lawc0_code_608_c 4 612 rfl (by decide +kernel)
theorem wld_614 : decode code 614 = .ok (.iconst 1, 1) := wt_dc wk606lawc0_code_608_c 6 614 rfl (by decide +kernel)
theorem wld_615 : decode code 615 = .ok (.iadd, 1) := wt_dc wk606lawc0_code_608_c 7 615 rfl (by decide +kernel)
theorem wld_616 : decode code 616 = .ok (.iaload, 1) := wt_dc wk606lawc0_code_608_c 8 616 rfl (by decide +kernel)
theorem wld_617 : decode code 617 = .ok (.aload_n 3, 1) := wt_dc wk606lawc0_code_608_c 9 617 rfl (by decide +kernel)
theorem wld_618 : decode code 618 = .ok (.invokestatic 152, 3) := wt_dc wk606lawc0_code_608_c 10 618 rfl (by decide +kernel)
theorem wld_621 : decode code 621 = .ok (.istore 5, 2) := wt_dc wk606lawc0_code_608_c 13 621 rfl (by decide +kernel)
theorem wld_623 : decode code 623 = .ok (.aload_n 2, 1) := wt_dc wk606lawc0_code_608_c 15 623 rfl (by decide +kernel)
theorem wld_624 : decode code 624 = .ok (.aload_n 0, 1) := wt_dc wk606lawc0_code_608_c 16 624 rfl (by decide +kernel)
theorem wld_625 : decode code 625 = .ok (.iload 4, 2) := wt_dc wk606lawc0_code_608_c 17 625 rfl (by decide +kernel)
theorem wld_627 : decode code 627 = .ok (.iconst 1, 1) := wt_dc wk606lawc0_code_608_c 19 627 rfl (by decide +kernel)
theorem wld_628 : decode code 628 = .ok (.iadd, 1) := wt_dc wk606lawc0_code_608_c 20 628 rfl (by decide +kernel)
theorem wld_629 : decode code 629 = .ok (.iaload, 1) := wt_dc wk606lawc0_code_608_c 21 629 rfl (by decide +kernel)
theorem wld_630 : decode code 630 = .ok (.invokevirtual 154, 3) := wt_dc wk606lawc0_code_608_c 22 630 rfl (by decide +kernel)
theorem wld_633 : decode code 633 = .ok (.istore 6, 2) := wt_dc wk606lawc0_code_608_c 25 633 rfl (by decide +kernel)
theorem wld_635 : decode code 635 = .ok (.goto 820, 3) := wt_dc wk606lawc0_code_608_c 27 635 rfl (by decide +kernel)
set_option maxRecDepth 100000 in
set_option maxHeartbeats 4000000 in
theorem wl_habit {X : wt_X} {o b L : Nat} {xs : Nat → Int32} {n K : Nat} {Inv : wt_St → Prop} {i : Int32} (hE : wt_OkO X o code 7 "WornTypeLaw" 400 100000) (hdm : ∀ i, wt_dom (wt_xw X) i ↔ i < 321) (hSN : wt_SN (wt_Ao (wt_xw X) o (wt_xs X).heap.size) (wt_xs X) (wt_xs X).heap) (htr : (wt_xl X).stackTraces = false) (hX : wt_scr X o b L xs) (hi : ∀ c : Int32, c = 1 ∨ c = 2 ∨ c = 3 ∨ c = 4 ∨ c = 5 → vp_in (i + c) L) (hK : K + 8 ≤ 100000) (hP : wt_P_habit n Inv) {σ : wt_St} (hσ : Inv σ) (kn : ∀ τ : wt_St, Inv τ → wt_O X o (K + 8) τ 1455 [some (.ref b), some (.ref (wt_ad (wt_xw X) 0)), some (.ref (wt_ad (wt_xw X) 108)), some (.ref o), some (.int i), none, none] []) : wt_O X o K σ 610 [some (.ref b), some (.ref (wt_ad (wt_xw X) 0)), some (.ref (wt_ad (wt_xw X) 108)), some (.ref o), some (.int i), none, none] [] := by
  have hD : ∀ i, i < 108 → wt_dom (wt_xw X) i := fun i hi => (hdm i).mpr (by omega)
  have hM : ∀ i, 108 ≤ i → i < 321 → wt_dom (wt_xw X) i := fun i _ hi => (hdm i).mpr hi
  obtain ⟨q, hq, hx, r, hr, hI⟩ := hP _ (xs (i + (1 : Int32)).toNatClampNeg) hσ
  refine wt_o_aload_n hE wld_610 rfl ?_
  refine wt_o_aload_n hE wld_611 rfl ?_
  refine wt_o_iload hE wld_612 rfl ?_
  refine wt_o_iconst hE (1 : Int32) wld_614 (by decide) ?_
  refine wt_o_iadd hE wld_615 ?_
  refine wt_o_sld hE hX (hi 1 (by decide)) wld_616 ?_
  refine wt_o_aload_n hE wld_617 rfl ?_
  refine wt_o_callW hE hSN (k := 3) (dd := 8) (mc := 8) [.ref (wt_ad (wt_xw X) 0), .int (xs (i + (1 : Int32)).toNatClampNeg), .ref o] (wt_g5 33 rfl rfl) (wt_g5 34 rfl rfl) (wt_g1 0 rfl rfl) wt_cm_habit ⟨by decide, by decide, by decide +kernel⟩ (by decide) (ww_habit_ok htr hE.2.2 hD hq hx) (by decide) rfl rfl (Nat.le_of_ble_eq_true rfl) (by omega) wld_618 (fun w5 => ?_)
  refine wt_o_istore hE [some (.ref b), some (.ref (wt_ad (wt_xw X) 0)), some (.ref (wt_ad (wt_xw X) 108)), some (.ref o), some (.int i), some (.int w5), none] wld_621 (by decide) rfl ?_
  refine wt_o_aload_n hE wld_623 rfl ?_
  refine wt_o_aload_n hE wld_624 rfl ?_
  refine wt_o_iload hE wld_625 rfl ?_
  refine wt_o_iconst hE (1 : Int32) wld_627 (by decide) ?_
  refine wt_o_iadd hE wld_628 ?_
  refine wt_o_sld hE hX (hi 1 (by decide)) wld_629 ?_
  refine wt_o_callVi (dd := 1) hE [.int (xs (i + (1 : Int32)).toNatClampNeg)] wt_lm_lw_154 wt_ya_md_habit (wp_md_habit_ok hM hr) (by decide) (hM 108 (by decide) (by decide)) wt_L108 rfl rfl rfl (Nat.le_of_ble_eq_true rfl) (by omega) wld_630 ?_
  refine wt_o_istore hE [some (.ref b), some (.ref (wt_ad (wt_xw X) 0)), some (.ref (wt_ad (wt_xw X) 108)), some (.ref o), some (.int i), some (.int w5), some (.int r.1)] wld_633 (by decide) rfl ?_
  refine wt_o_goto hE 1455 wld_635 rfl ?_
  exact wt_o_wk [true, true, true, true, true, false, false] rfl (kn _ hI)
theorem wld_638 : decode code 638 = .ok (.aload_n 1, 1) := wt_dc wk606lawc0_code_608_c 30 638 rfl (by decide +kernel)
theorem wld_639 : decode code 639 = .ok (.aload_n 0, 1) := wt_dc wk606lawc0_code_608_c 31 639 rfl (by decide +kernel)
def wk606lawc0_code_640 : ByteArray := .mk #[0x15, 0x04, 0x04, 0x60, 0x2e, 0x2d, 0xb8, 0x00, 0x9b, 0x36, 0x05, 0x2c, 0x2a, 0x15, 0x04, 0x04, 0x60, 0x2e, 0xb6, 0x00, 0x9d, 0x36, 0x06, 0x2c, 0xb6, 0x00, 0x9e, 0x15, 0x05, 0x9f, 0x00, 0x05, 0x03, 0xac, 0x15, 0x05, 0x9a, 0x00, 0x0f, 0x2d, 0x03, 0x2f, 0x15, 0x06, 0x85, 0x94, 0x99, 0x00]
theorem wk606lawc0_code_640_c : wt_ck code wk606lawc0_code_640 640 := wt_ck_of 48 (by decide) (by decide +kernel) (by decide +kernel)
theorem wld_640 : decode code 640 = .ok (.iload 4, 2) := wt_dc wk606lawc0_code_640_c 0 640 rfl (by decide +kernel)
theorem wld_642 : decode code 642 = .ok (.iconst 1, 1) := wt_dc wk606lawc0_code_640_c 2 642 rfl (by decide +kernel)
theorem wld_643 : decode code 643 = .ok (.iadd, 1) := wt_dc wk606lawc0_code_640_c 3 643 rfl (by decide +kernel)
theorem wld_644 : decode code 644 = .ok (.iaload, 1) := wt_dc wk606lawc0_code_640_c 4 644 rfl (by decide +kernel)
theorem wld_645 : decode code 645 = .ok (.aload_n 3, 1) := wt_dc wk606lawc0_code_640_c 5 645 rfl (by decide +kernel)
theorem wld_646 : decode code 646 = .ok (.invokestatic 155, 3) := wt_dc wk606lawc0_code_640_c 6 646 rfl (by decide +kernel)
theorem wld_649 : decode code 649 = .ok (.istore 5, 2) := wt_dc wk606lawc0_code_640_c 9 649 rfl (by decide +kernel)
theorem wld_651 : decode code 651 = .ok (.aload_n 2, 1) := wt_dc wk606lawc0_code_640_c 11 651 rfl (by decide +kernel)
theorem wld_652 : decode code 652 = .ok (.aload_n 0, 1) := wt_dc wk606lawc0_code_640_c 12 652 rfl (by decide +kernel)
theorem wld_653 : decode code 653 = .ok (.iload 4, 2) := wt_dc wk606lawc0_code_640_c 13 653 rfl (by decide +kernel)
theorem wld_655 : decode code 655 = .ok (.iconst 1, 1) := wt_dc wk606lawc0_code_640_c 15 655 rfl (by decide +kernel)
theorem wld_656 : decode code 656 = .ok (.iadd, 1) := wt_dc wk606lawc0_code_640_c 16 656 rfl (by decide +kernel)
theorem wld_657 : decode code 657 = .ok (.iaload, 1) := wt_dc wk606lawc0_code_640_c 17 657 rfl (by decide +kernel)
theorem wld_658 : decode code 658 = .ok (.invokevirtual 157, 3) := wt_dc wk606lawc0_code_640_c 18 658 rfl (by decide +kernel)
theorem wld_661 : decode code 661 = .ok (.istore 6, 2) := wt_dc wk606lawc0_code_640_c 21 661 rfl (by decide +kernel)
theorem wld_663 : decode code 663 = .ok (.aload_n 2, 1) := wt_dc wk606lawc0_code_640_c 23 663 rfl (by decide +kernel)
theorem wld_664 : decode code 664 = .ok (.invokevirtual 158, 3) := wt_dc wk606lawc0_code_640_c 24 664 rfl (by decide +kernel)
theorem wld_667 : decode code 667 = .ok (.iload 5, 2) := wt_dc wk606lawc0_code_640_c 27 667 rfl (by decide +kernel)
theorem wld_669 : decode code 669 = .ok (.if_icmp .eq 5, 3) := wt_dc wk606lawc0_code_640_c 29 669 rfl (by decide +kernel)
def wk606lawc0_code_672 : ByteArray := .mk #[0x03, 0xac, 0x15, 0x05, 0x9a, 0x00, 0x0f, 0x2d, 0x03, 0x2f, 0x15, 0x06, 0x85, 0x94, 0x99, 0x00, 0x05, 0x03, 0xac, 0xa7, 0x02, 0xfc, 0x2b, 0x2a, 0x15, 0x04, 0x04, 0x60, 0x2e, 0x2a, 0x15, 0x04, 0x05, 0x60, 0x2e, 0x2d, 0xb8, 0x00, 0xa1, 0x36, 0x05, 0x2c, 0x2a, 0x15, 0x04, 0x04, 0x60, 0x2e]
theorem wk606lawc0_code_672_c : wt_ck code wk606lawc0_code_672 672 := wt_ck_of 48 (by decide) (by decide +kernel) (by decide +kernel)
theorem wld_672 : decode code 672 = .ok (.iconst 0, 1) := wt_dc wk606lawc0_code_672_c 0 672 rfl (by decide +kernel)
theorem wld_673 : decode code 673 = .ok (.ireturn, 1) := wt_dc wk606lawc0_code_672_c 1 673 rfl (by decide +kernel)
theorem wld_674 : decode code 674 = .ok (.iload 5, 2) := wt_dc wk606lawc0_code_672_c 2 674 rfl (by decide +kernel)
theorem wld_676 : decode code 676 = .ok (.ifCond .ne 15, 3) := wt_dc wk606lawc0_code_672_c 4 676 rfl (by decide +kernel)
theorem wld_679 : decode code 679 = .ok (.aload_n 3, 1) := wt_dc wk606lawc0_code_672_c 7 679 rfl (by decide +kernel)
theorem wld_680 : decode code 680 = .ok (.iconst 0, 1) := wt_dc wk606lawc0_code_672_c 8 680 rfl (by decide +kernel)
theorem wld_681 : decode code 681 = .ok (.laload, 1) := wt_dc wk606lawc0_code_672_c 9 681 rfl (by decide +kernel)
theorem wld_682 : decode code 682 = .ok (.iload 6, 2) := wt_dc wk606lawc0_code_672_c 10 682 rfl (by decide +kernel)
theorem wld_684 : decode code 684 = .ok (.i2l, 1) := wt_dc wk606lawc0_code_672_c 12 684 rfl (by decide +kernel)
theorem wld_685 : decode code 685 = .ok (.lcmp, 1) := wt_dc wk606lawc0_code_672_c 13 685 rfl (by decide +kernel)
theorem wld_686 : decode code 686 = .ok (.ifCond .eq 5, 3) := wt_dc wk606lawc0_code_672_c 14 686 rfl (by decide +kernel)
theorem wld_689 : decode code 689 = .ok (.iconst 0, 1) := wt_dc wk606lawc0_code_672_c 17 689 rfl (by decide +kernel)
theorem wld_690 : decode code 690 = .ok (.ireturn, 1) := wt_dc wk606lawc0_code_672_c 18 690 rfl (by decide +kernel)
theorem wld_691 : decode code 691 = .ok (.goto 764, 3) := wt_dc wk606lawc0_code_672_c 19 691 rfl (by decide +kernel)
set_option maxRecDepth 100000 in
set_option maxHeartbeats 4000000 in
theorem wl_can {X : wt_X} {o b L : Nat} {xs : Nat → Int32} {n K : Nat} {Inv : wt_St → Prop} {i : Int32} (hE : wt_OkO X o code 7 "WornTypeLaw" 400 100000) (hdm : ∀ i, wt_dom (wt_xw X) i ↔ i < 321) (hSN : wt_SN (wt_Ao (wt_xw X) o (wt_xs X).heap.size) (wt_xs X) (wt_xs X).heap) (htr : (wt_xl X).stackTraces = false) (hX : wt_scr X o b L xs) (hi : ∀ c : Int32, c = 1 ∨ c = 2 ∨ c = 3 ∨ c = 4 ∨ c = 5 → vp_in (i + c) L) (hK : K + 8 ≤ 100000) (hP : wt_P_can n Inv) {σ : wt_St} (hσ : Inv σ) (kn : ∀ τ : wt_St, Inv τ → wt_O X o (K + 8) τ 1455 [some (.ref b), some (.ref (wt_ad (wt_xw X) 0)), some (.ref (wt_ad (wt_xw X) 108)), some (.ref o), some (.int i), none, none] []) : wt_O X o K σ 638 [some (.ref b), some (.ref (wt_ad (wt_xw X) 0)), some (.ref (wt_ad (wt_xw X) 108)), some (.ref o), some (.int i), none, none] [] := by
  have hD : ∀ i, i < 108 → wt_dom (wt_xw X) i := fun i hi => (hdm i).mpr (by omega)
  have hM : ∀ i, 108 ≤ i → i < 321 → wt_dom (wt_xw X) i := fun i _ hi => (hdm i).mpr hi
  obtain ⟨q, hq, hx, r, hr, hk0, hk2, ha, hI⟩ := hP _ (xs (i + (1 : Int32)).toNatClampNeg) hσ
  refine wt_o_aload_n hE wld_638 rfl ?_
  refine wt_o_aload_n hE wld_639 rfl ?_
  refine wt_o_iload hE wld_640 rfl ?_
  refine wt_o_iconst hE (1 : Int32) wld_642 (by decide) ?_
  refine wt_o_iadd hE wld_643 ?_
  refine wt_o_sld hE hX (hi 1 (by decide)) wld_644 ?_
  refine wt_o_aload_n hE wld_645 rfl ?_
  refine wt_o_callWV hE hSN (k := 3) (dd := 8) (mc := 8) [.ref (wt_ad (wt_xw X) 0), .int (xs (i + (1 : Int32)).toNatClampNeg), .ref o] (wt_g5 40 rfl rfl) (wt_g5 41 rfl rfl) (wt_g1 0 rfl rfl) wt_cm_can ⟨by decide, by decide, by decide +kernel⟩ (by decide) (ww_can_okV htr hE.2.2 hD hq hx (r0 := wt_gf r.2 108 0) hk0 hk2) (by decide) rfl rfl (Nat.le_of_ble_eq_true rfl) (by omega) wld_646 (fun hr0 => ?_) (fun hr0 => ?_)
  · refine wt_o_istore hE [some (.ref b), some (.ref (wt_ad (wt_xw X) 0)), some (.ref (wt_ad (wt_xw X) 108)), some (.ref o), some (.int i), some (.int (wt_gf r.2 108 0)), none] wld_649 (by decide) rfl ?_
    refine wt_o_aload_n hE wld_651 rfl ?_
    refine wt_o_aload_n hE wld_652 rfl ?_
    refine wt_o_iload hE wld_653 rfl ?_
    refine wt_o_iconst hE (1 : Int32) wld_655 (by decide) ?_
    refine wt_o_iadd hE wld_656 ?_
    refine wt_o_sld hE hX (hi 1 (by decide)) wld_657 ?_
    refine wt_o_callVi (dd := 4) hE [.int (xs (i + (1 : Int32)).toNatClampNeg)] wt_lm_lw_157 wt_ya_md_can (wp_md_can_ok hM hr) (by decide) (hM 108 (by decide) (by decide)) wt_L108 rfl rfl rfl (Nat.le_of_ble_eq_true rfl) (by omega) wld_658 ?_
    refine wt_o_istore hE [some (.ref b), some (.ref (wt_ad (wt_xw X) 0)), some (.ref (wt_ad (wt_xw X) 108)), some (.ref o), some (.int i), some (.int (wt_gf r.2 108 0)), some (.int r.1)] wld_661 (by decide) rfl ?_
    refine wt_o_aload_n hE wld_663 rfl ?_
    refine wt_o_callVi (dd := 0) hE [] wt_lm_lw_158 wt_ya_md_thrown (wp_md_thrown_ok hM (show wp_md_thrown n r.2 = some (wt_gf r.2 108 0, r.2) from rfl)) (by decide) (hM 108 (by decide) (by decide)) wt_L108 rfl rfl rfl (Nat.le_of_ble_eq_true rfl) (by omega) wld_664 ?_
    refine wt_o_iload hE wld_667 rfl ?_
    refine wt_o_icmp_eqT hE 674 wld_669 rfl rfl ?_
    refine wt_o_iload hE wld_674 rfl ?_
    refine wt_o_ifneT hE 691 hr0 wld_676 rfl ?_
    refine wt_o_goto hE 1455 wld_691 rfl ?_
    exact wt_o_wk [true, true, true, true, true, false, false] rfl (kn _ hI)
  · rw [hr0]
    refine wt_ov_istore hE [some (.ref b), some (.ref (wt_ad (wt_xw X) 0)), some (.ref (wt_ad (wt_xw X) 108)), some (.ref o), some (.int i), some (.int 0), none] wld_649 (by decide) rfl ?_
    refine wt_ov_aload_n hE wld_651 rfl ?_
    refine wt_ov_aload_n hE wld_652 rfl ?_
    refine wt_ov_iload hE wld_653 rfl ?_
    refine wt_ov_iconst hE (1 : Int32) wld_655 (by decide) ?_
    refine wt_ov_iadd hE wld_656 ?_
    refine wt_ov_sld hE hX (hi 1 (by decide)) wld_657 ?_
    refine wt_ov_callVi (dd := 4) hE [.int (xs (i + (1 : Int32)).toNatClampNeg)] wt_lm_lw_157 wt_ya_md_can (wp_md_can_ok hM hr) (by decide) (hM 108 (by decide) (by decide)) wt_L108 rfl rfl rfl (Nat.le_of_ble_eq_true rfl) (by omega) wld_658 ?_
    refine wt_ov_istore hE [some (.ref b), some (.ref (wt_ad (wt_xw X) 0)), some (.ref (wt_ad (wt_xw X) 108)), some (.ref o), some (.int i), some (.int 0), some (.int r.1)] wld_661 (by decide) rfl ?_
    refine wt_ov_aload_n hE wld_663 rfl ?_
    refine wt_ov_callVi (dd := 0) hE [] wt_lm_lw_158 wt_ya_md_thrown (wp_md_thrown_ok hM (show wp_md_thrown n r.2 = some (wt_gf r.2 108 0, r.2) from rfl)) (by decide) (hM 108 (by decide) (by decide)) wt_L108 rfl rfl rfl (Nat.le_of_ble_eq_true rfl) (by omega) wld_664 ?_
    refine wt_ov_iload hE wld_667 rfl ?_
    refine wt_ov_icmp_eqT hE 674 wld_669 rfl hr0 ?_
    refine wt_ov_iload hE wld_674 rfl ?_
    refine wt_ov_ifneF hE 691 wld_676 rfl ?_
    refine wt_ov_aload_n hE wld_679 rfl ?_
    refine wt_ov_iconst hE (0 : Int32) wld_680 (by decide) ?_
    refine wt_ov_laload hE wld_681 ?_
    refine wt_ov_iload hE wld_682 rfl ?_
    refine wt_ov_i2l hE wld_684 ?_
    have hq0 : q.1 = 0 := by
      rcases hx with h | h
      · exact h
      · exact absurd ((hk2 h).symm.trans hr0) (by decide)
    refine wt_ov_lcmpE hE (congrArg Int32.toInt64 (ha hq0)) wld_685 ?_
    refine wt_ov_ifeqT hE 691 wld_686 rfl ?_
    refine wt_ov_goto hE 1455 wld_691 rfl ?_
    refine wt_ov_o ?_
    exact wt_o_wk [true, true, true, true, true, false, false] rfl (kn _ hI)
theorem wld_694 : decode code 694 = .ok (.aload_n 1, 1) := wt_dc wk606lawc0_code_672_c 22 694 rfl (by decide +kernel)
theorem wld_695 : decode code 695 = .ok (.aload_n 0, 1) := wt_dc wk606lawc0_code_672_c 23 695 rfl (by decide +kernel)
theorem wld_696 : decode code 696 = .ok (.iload 4, 2) := wt_dc wk606lawc0_code_672_c 24 696 rfl (by decide +kernel)
theorem wld_698 : decode code 698 = .ok (.iconst 1, 1) := wt_dc wk606lawc0_code_672_c 26 698 rfl (by decide +kernel)
theorem wld_699 : decode code 699 = .ok (.iadd, 1) := wt_dc wk606lawc0_code_672_c 27 699 rfl (by decide +kernel)
theorem wld_700 : decode code 700 = .ok (.iaload, 1) := wt_dc wk606lawc0_code_672_c 28 700 rfl (by decide +kernel)
theorem wld_701 : decode code 701 = .ok (.aload_n 0, 1) := wt_dc wk606lawc0_code_672_c 29 701 rfl (by decide +kernel)
theorem wld_702 : decode code 702 = .ok (.iload 4, 2) := wt_dc wk606lawc0_code_672_c 30 702 rfl (by decide +kernel)
def wk606lawc0_code_704 : ByteArray := .mk #[0x05, 0x60, 0x2e, 0x2d, 0xb8, 0x00, 0xa1, 0x36, 0x05, 0x2c, 0x2a, 0x15, 0x04, 0x04, 0x60, 0x2e, 0x2a, 0x15, 0x04, 0x05, 0x60, 0x2e, 0xb6, 0x00, 0xa3, 0x36, 0x06, 0xa7, 0x02, 0xd4, 0x2b, 0x2a, 0x15, 0x04, 0x04, 0x60, 0x2e, 0x2a, 0x15, 0x04, 0x05, 0x60, 0x2e, 0x2d, 0xb8, 0x00, 0xa4, 0x36]
theorem wk606lawc0_code_704_c : wt_ck code wk606lawc0_code_704 704 := wt_ck_of 48 (by decide) (by decide +kernel) (by decide +kernel)
theorem wld_704 : decode code 704 = .ok (.iconst 2, 1) := wt_dc wk606lawc0_code_704_c 0 704 rfl (by decide +kernel)
theorem wld_705 : decode code 705 = .ok (.iadd, 1) := wt_dc wk606lawc0_code_704_c 1 705 rfl (by decide +kernel)
theorem wld_706 : decode code 706 = .ok (.iaload, 1) := wt_dc wk606lawc0_code_704_c 2 706 rfl (by decide +kernel)
theorem wld_707 : decode code 707 = .ok (.aload_n 3, 1) := wt_dc wk606lawc0_code_704_c 3 707 rfl (by decide +kernel)
theorem wld_708 : decode code 708 = .ok (.invokestatic 161, 3) := wt_dc wk606lawc0_code_704_c 4 708 rfl (by decide +kernel)
theorem wld_711 : decode code 711 = .ok (.istore 5, 2) := wt_dc wk606lawc0_code_704_c 7 711 rfl (by decide +kernel)
theorem wld_713 : decode code 713 = .ok (.aload_n 2, 1) := wt_dc wk606lawc0_code_704_c 9 713 rfl (by decide +kernel)
theorem wld_714 : decode code 714 = .ok (.aload_n 0, 1) := wt_dc wk606lawc0_code_704_c 10 714 rfl (by decide +kernel)
theorem wld_715 : decode code 715 = .ok (.iload 4, 2) := wt_dc wk606lawc0_code_704_c 11 715 rfl (by decide +kernel)
theorem wld_717 : decode code 717 = .ok (.iconst 1, 1) := wt_dc wk606lawc0_code_704_c 13 717 rfl (by decide +kernel)
theorem wld_718 : decode code 718 = .ok (.iadd, 1) := wt_dc wk606lawc0_code_704_c 14 718 rfl (by decide +kernel)
theorem wld_719 : decode code 719 = .ok (.iaload, 1) := wt_dc wk606lawc0_code_704_c 15 719 rfl (by decide +kernel)
theorem wld_720 : decode code 720 = .ok (.aload_n 0, 1) := wt_dc wk606lawc0_code_704_c 16 720 rfl (by decide +kernel)
theorem wld_721 : decode code 721 = .ok (.iload 4, 2) := wt_dc wk606lawc0_code_704_c 17 721 rfl (by decide +kernel)
theorem wld_723 : decode code 723 = .ok (.iconst 2, 1) := wt_dc wk606lawc0_code_704_c 19 723 rfl (by decide +kernel)
theorem wld_724 : decode code 724 = .ok (.iadd, 1) := wt_dc wk606lawc0_code_704_c 20 724 rfl (by decide +kernel)
theorem wld_725 : decode code 725 = .ok (.iaload, 1) := wt_dc wk606lawc0_code_704_c 21 725 rfl (by decide +kernel)
theorem wld_726 : decode code 726 = .ok (.invokevirtual 163, 3) := wt_dc wk606lawc0_code_704_c 22 726 rfl (by decide +kernel)
theorem wld_729 : decode code 729 = .ok (.istore 6, 2) := wt_dc wk606lawc0_code_704_c 25 729 rfl (by decide +kernel)
theorem wld_731 : decode code 731 = .ok (.goto 724, 3) := wt_dc wk606lawc0_code_704_c 27 731 rfl (by decide +kernel)
set_option maxRecDepth 100000 in
set_option maxHeartbeats 4000000 in
theorem wl_lacks {X : wt_X} {o b L : Nat} {xs : Nat → Int32} {n K : Nat} {Inv : wt_St → Prop} {i : Int32} (hE : wt_OkO X o code 7 "WornTypeLaw" 400 100000) (hdm : ∀ i, wt_dom (wt_xw X) i ↔ i < 321) (hSN : wt_SN (wt_Ao (wt_xw X) o (wt_xs X).heap.size) (wt_xs X) (wt_xs X).heap) (htr : (wt_xl X).stackTraces = false) (hX : wt_scr X o b L xs) (hi : ∀ c : Int32, c = 1 ∨ c = 2 ∨ c = 3 ∨ c = 4 ∨ c = 5 → vp_in (i + c) L) (hK : K + 8 ≤ 100000) (hP : wt_P_lacks n Inv) {σ : wt_St} (hσ : Inv σ) (kn : ∀ τ : wt_St, Inv τ → wt_O X o (K + 8) τ 1455 [some (.ref b), some (.ref (wt_ad (wt_xw X) 0)), some (.ref (wt_ad (wt_xw X) 108)), some (.ref o), some (.int i), none, none] []) : wt_O X o K σ 694 [some (.ref b), some (.ref (wt_ad (wt_xw X) 0)), some (.ref (wt_ad (wt_xw X) 108)), some (.ref o), some (.int i), none, none] [] := by
  have hD : ∀ i, i < 108 → wt_dom (wt_xw X) i := fun i hi => (hdm i).mpr (by omega)
  have hM : ∀ i, 108 ≤ i → i < 321 → wt_dom (wt_xw X) i := fun i _ hi => (hdm i).mpr hi
  obtain ⟨q, hq, hx, r, hr, hI⟩ := hP _ (xs (i + (1 : Int32)).toNatClampNeg) (xs (i + (2 : Int32)).toNatClampNeg) hσ
  refine wt_o_aload_n hE wld_694 rfl ?_
  refine wt_o_aload_n hE wld_695 rfl ?_
  refine wt_o_iload hE wld_696 rfl ?_
  refine wt_o_iconst hE (1 : Int32) wld_698 (by decide) ?_
  refine wt_o_iadd hE wld_699 ?_
  refine wt_o_sld hE hX (hi 1 (by decide)) wld_700 ?_
  refine wt_o_aload_n hE wld_701 rfl ?_
  refine wt_o_iload hE wld_702 rfl ?_
  refine wt_o_iconst hE (2 : Int32) wld_704 (by decide) ?_
  refine wt_o_iadd hE wld_705 ?_
  refine wt_o_sld hE hX (hi 2 (by decide)) wld_706 ?_
  refine wt_o_aload_n hE wld_707 rfl ?_
  refine wt_o_callW hE hSN (k := 4) (dd := 9) (mc := 8) [.ref (wt_ad (wt_xw X) 0), .int (xs (i + (1 : Int32)).toNatClampNeg), .int (xs (i + (2 : Int32)).toNatClampNeg), .ref o] (wt_g5 52 rfl rfl) (wt_g5 53 rfl rfl) (wt_g1 0 rfl rfl) wt_cm_lacks ⟨by decide, by decide, by decide +kernel⟩ (by decide) (ww_lacks_ok htr hE.2.2 hD hq hx) (by decide) rfl rfl (Nat.le_of_ble_eq_true rfl) (by omega) wld_708 (fun w5 => ?_)
  refine wt_o_istore hE [some (.ref b), some (.ref (wt_ad (wt_xw X) 0)), some (.ref (wt_ad (wt_xw X) 108)), some (.ref o), some (.int i), some (.int w5), none] wld_711 (by decide) rfl ?_
  refine wt_o_aload_n hE wld_713 rfl ?_
  refine wt_o_aload_n hE wld_714 rfl ?_
  refine wt_o_iload hE wld_715 rfl ?_
  refine wt_o_iconst hE (1 : Int32) wld_717 (by decide) ?_
  refine wt_o_iadd hE wld_718 ?_
  refine wt_o_sld hE hX (hi 1 (by decide)) wld_719 ?_
  refine wt_o_aload_n hE wld_720 rfl ?_
  refine wt_o_iload hE wld_721 rfl ?_
  refine wt_o_iconst hE (2 : Int32) wld_723 (by decide) ?_
  refine wt_o_iadd hE wld_724 ?_
  refine wt_o_sld hE hX (hi 2 (by decide)) wld_725 ?_
  refine wt_o_callVi (dd := 3) hE [.int (xs (i + (1 : Int32)).toNatClampNeg), .int (xs (i + (2 : Int32)).toNatClampNeg)] wt_lm_lw_163 wt_ya_md_lacks (wp_md_lacks_ok hM hr) (by decide) (hM 108 (by decide) (by decide)) wt_L108 rfl rfl rfl (Nat.le_of_ble_eq_true rfl) (by omega) wld_726 ?_
  refine wt_o_istore hE [some (.ref b), some (.ref (wt_ad (wt_xw X) 0)), some (.ref (wt_ad (wt_xw X) 108)), some (.ref o), some (.int i), some (.int w5), some (.int r.1)] wld_729 (by decide) rfl ?_
  refine wt_o_goto hE 1455 wld_731 rfl ?_
  exact wt_o_wk [true, true, true, true, true, false, false] rfl (kn _ hI)
theorem wld_734 : decode code 734 = .ok (.aload_n 1, 1) := wt_dc wk606lawc0_code_704_c 30 734 rfl (by decide +kernel)
theorem wld_735 : decode code 735 = .ok (.aload_n 0, 1) := wt_dc wk606lawc0_code_704_c 31 735 rfl (by decide +kernel)
def wk606lawc0_code_736 : ByteArray := .mk #[0x15, 0x04, 0x04, 0x60, 0x2e, 0x2a, 0x15, 0x04, 0x05, 0x60, 0x2e, 0x2d, 0xb8, 0x00, 0xa4, 0x36, 0x05, 0x2c, 0x2a, 0x15, 0x04, 0x04, 0x60, 0x2e, 0x2a, 0x15, 0x04, 0x05, 0x60, 0x2e, 0xb6, 0x00, 0xa6, 0x36, 0x06, 0xa7, 0x02, 0xac, 0x2b, 0x2a, 0x15, 0x04, 0x04, 0x60, 0x2e, 0x2a, 0x15, 0x04]
theorem wk606lawc0_code_736_c : wt_ck code wk606lawc0_code_736 736 := wt_ck_of 48 (by decide) (by decide +kernel) (by decide +kernel)
theorem wld_736 : decode code 736 = .ok (.iload 4, 2) := wt_dc wk606lawc0_code_736_c 0 736 rfl (by decide +kernel)
theorem wld_738 : decode code 738 = .ok (.iconst 1, 1) := wt_dc wk606lawc0_code_736_c 2 738 rfl (by decide +kernel)
theorem wld_739 : decode code 739 = .ok (.iadd, 1) := wt_dc wk606lawc0_code_736_c 3 739 rfl (by decide +kernel)
theorem wld_740 : decode code 740 = .ok (.iaload, 1) := wt_dc wk606lawc0_code_736_c 4 740 rfl (by decide +kernel)
theorem wld_741 : decode code 741 = .ok (.aload_n 0, 1) := wt_dc wk606lawc0_code_736_c 5 741 rfl (by decide +kernel)
theorem wld_742 : decode code 742 = .ok (.iload 4, 2) := wt_dc wk606lawc0_code_736_c 6 742 rfl (by decide +kernel)
theorem wld_744 : decode code 744 = .ok (.iconst 2, 1) := wt_dc wk606lawc0_code_736_c 8 744 rfl (by decide +kernel)
theorem wld_745 : decode code 745 = .ok (.iadd, 1) := wt_dc wk606lawc0_code_736_c 9 745 rfl (by decide +kernel)
theorem wld_746 : decode code 746 = .ok (.iaload, 1) := wt_dc wk606lawc0_code_736_c 10 746 rfl (by decide +kernel)
theorem wld_747 : decode code 747 = .ok (.aload_n 3, 1) := wt_dc wk606lawc0_code_736_c 11 747 rfl (by decide +kernel)
theorem wld_748 : decode code 748 = .ok (.invokestatic 164, 3) := wt_dc wk606lawc0_code_736_c 12 748 rfl (by decide +kernel)
theorem wld_751 : decode code 751 = .ok (.istore 5, 2) := wt_dc wk606lawc0_code_736_c 15 751 rfl (by decide +kernel)
theorem wld_753 : decode code 753 = .ok (.aload_n 2, 1) := wt_dc wk606lawc0_code_736_c 17 753 rfl (by decide +kernel)
theorem wld_754 : decode code 754 = .ok (.aload_n 0, 1) := wt_dc wk606lawc0_code_736_c 18 754 rfl (by decide +kernel)
theorem wld_755 : decode code 755 = .ok (.iload 4, 2) := wt_dc wk606lawc0_code_736_c 19 755 rfl (by decide +kernel)
theorem wld_757 : decode code 757 = .ok (.iconst 1, 1) := wt_dc wk606lawc0_code_736_c 21 757 rfl (by decide +kernel)
theorem wld_758 : decode code 758 = .ok (.iadd, 1) := wt_dc wk606lawc0_code_736_c 22 758 rfl (by decide +kernel)
theorem wld_759 : decode code 759 = .ok (.iaload, 1) := wt_dc wk606lawc0_code_736_c 23 759 rfl (by decide +kernel)
theorem wld_760 : decode code 760 = .ok (.aload_n 0, 1) := wt_dc wk606lawc0_code_736_c 24 760 rfl (by decide +kernel)
theorem wld_761 : decode code 761 = .ok (.iload 4, 2) := wt_dc wk606lawc0_code_736_c 25 761 rfl (by decide +kernel)
theorem wld_763 : decode code 763 = .ok (.iconst 2, 1) := wt_dc wk606lawc0_code_736_c 27 763 rfl (by decide +kernel)
theorem wld_764 : decode code 764 = .ok (.iadd, 1) := wt_dc wk606lawc0_code_736_c 28 764 rfl (by decide +kernel)
theorem wld_765 : decode code 765 = .ok (.iaload, 1) := wt_dc wk606lawc0_code_736_c 29 765 rfl (by decide +kernel)
theorem wld_766 : decode code 766 = .ok (.invokevirtual 166, 3) := wt_dc wk606lawc0_code_736_c 30 766 rfl (by decide +kernel)
def wk606lawc0_code_768 : ByteArray := .mk #[0xa6, 0x36, 0x06, 0xa7, 0x02, 0xac, 0x2b, 0x2a, 0x15, 0x04, 0x04, 0x60, 0x2e, 0x2a, 0x15, 0x04, 0x05, 0x60, 0x2e, 0x2d, 0xb8, 0x00, 0xa7, 0x36, 0x05, 0x2c, 0x2a, 0x15, 0x04, 0x04, 0x60, 0x2e, 0x2a, 0x15, 0x04, 0x05, 0x60, 0x2e, 0xb6, 0x00, 0xa9, 0x36, 0x06, 0xa7, 0x02, 0x84, 0x2b, 0x2a]
theorem wk606lawc0_code_768_c : wt_ck code wk606lawc0_code_768 768 := wt_ck_of 48 (by decide) (by decide +kernel) (by decide +kernel)
theorem wld_769 : decode code 769 = .ok (.istore 6, 2) := wt_dc wk606lawc0_code_768_c 1 769 rfl (by decide +kernel)
theorem wld_771 : decode code 771 = .ok (.goto 684, 3) := wt_dc wk606lawc0_code_768_c 3 771 rfl (by decide +kernel)
set_option maxRecDepth 100000 in
set_option maxHeartbeats 4000000 in
theorem wl_set {X : wt_X} {o b L : Nat} {xs : Nat → Int32} {n K : Nat} {Inv : wt_St → Prop} {i : Int32} (hE : wt_OkO X o code 7 "WornTypeLaw" 400 100000) (hdm : ∀ i, wt_dom (wt_xw X) i ↔ i < 321) (hSN : wt_SN (wt_Ao (wt_xw X) o (wt_xs X).heap.size) (wt_xs X) (wt_xs X).heap) (htr : (wt_xl X).stackTraces = false) (hX : wt_scr X o b L xs) (hi : ∀ c : Int32, c = 1 ∨ c = 2 ∨ c = 3 ∨ c = 4 ∨ c = 5 → vp_in (i + c) L) (hK : K + 8 ≤ 100000) (hP : wt_P_set n Inv) {σ : wt_St} (hσ : Inv σ) (kn : ∀ τ : wt_St, Inv τ → wt_O X o (K + 8) τ 1455 [some (.ref b), some (.ref (wt_ad (wt_xw X) 0)), some (.ref (wt_ad (wt_xw X) 108)), some (.ref o), some (.int i), none, none] []) : wt_O X o K σ 734 [some (.ref b), some (.ref (wt_ad (wt_xw X) 0)), some (.ref (wt_ad (wt_xw X) 108)), some (.ref o), some (.int i), none, none] [] := by
  have hD : ∀ i, i < 108 → wt_dom (wt_xw X) i := fun i hi => (hdm i).mpr (by omega)
  have hM : ∀ i, 108 ≤ i → i < 321 → wt_dom (wt_xw X) i := fun i _ hi => (hdm i).mpr hi
  obtain ⟨q, hq, hx, r, hr, hI⟩ := hP _ (xs (i + (1 : Int32)).toNatClampNeg) (xs (i + (2 : Int32)).toNatClampNeg) hσ
  refine wt_o_aload_n hE wld_734 rfl ?_
  refine wt_o_aload_n hE wld_735 rfl ?_
  refine wt_o_iload hE wld_736 rfl ?_
  refine wt_o_iconst hE (1 : Int32) wld_738 (by decide) ?_
  refine wt_o_iadd hE wld_739 ?_
  refine wt_o_sld hE hX (hi 1 (by decide)) wld_740 ?_
  refine wt_o_aload_n hE wld_741 rfl ?_
  refine wt_o_iload hE wld_742 rfl ?_
  refine wt_o_iconst hE (2 : Int32) wld_744 (by decide) ?_
  refine wt_o_iadd hE wld_745 ?_
  refine wt_o_sld hE hX (hi 2 (by decide)) wld_746 ?_
  refine wt_o_aload_n hE wld_747 rfl ?_
  refine wt_o_callW hE hSN (k := 4) (dd := 9) (mc := 8) [.ref (wt_ad (wt_xw X) 0), .int (xs (i + (1 : Int32)).toNatClampNeg), .int (xs (i + (2 : Int32)).toNatClampNeg), .ref o] (wt_g5 66 rfl rfl) (wt_g5 67 rfl rfl) (wt_g1 0 rfl rfl) wt_cm_set ⟨by decide, by decide, by decide +kernel⟩ (by decide) (ww_set_ok htr hE.2.2 hD hq hx) (by decide) rfl rfl (Nat.le_of_ble_eq_true rfl) (by omega) wld_748 (fun w5 => ?_)
  refine wt_o_istore hE [some (.ref b), some (.ref (wt_ad (wt_xw X) 0)), some (.ref (wt_ad (wt_xw X) 108)), some (.ref o), some (.int i), some (.int w5), none] wld_751 (by decide) rfl ?_
  refine wt_o_aload_n hE wld_753 rfl ?_
  refine wt_o_aload_n hE wld_754 rfl ?_
  refine wt_o_iload hE wld_755 rfl ?_
  refine wt_o_iconst hE (1 : Int32) wld_757 (by decide) ?_
  refine wt_o_iadd hE wld_758 ?_
  refine wt_o_sld hE hX (hi 1 (by decide)) wld_759 ?_
  refine wt_o_aload_n hE wld_760 rfl ?_
  refine wt_o_iload hE wld_761 rfl ?_
  refine wt_o_iconst hE (2 : Int32) wld_763 (by decide) ?_
  refine wt_o_iadd hE wld_764 ?_
  refine wt_o_sld hE hX (hi 2 (by decide)) wld_765 ?_
  refine wt_o_callVi (dd := 4) hE [.int (xs (i + (1 : Int32)).toNatClampNeg), .int (xs (i + (2 : Int32)).toNatClampNeg)] wt_lm_lw_166 wt_ya_md_set (wp_md_set_ok hM hr) (by decide) (hM 108 (by decide) (by decide)) wt_L108 rfl rfl rfl (Nat.le_of_ble_eq_true rfl) (by omega) wld_766 ?_
  refine wt_o_istore hE [some (.ref b), some (.ref (wt_ad (wt_xw X) 0)), some (.ref (wt_ad (wt_xw X) 108)), some (.ref o), some (.int i), some (.int w5), some (.int r.1)] wld_769 (by decide) rfl ?_
  refine wt_o_goto hE 1455 wld_771 rfl ?_
  exact wt_o_wk [true, true, true, true, true, false, false] rfl (kn _ hI)
theorem wld_774 : decode code 774 = .ok (.aload_n 1, 1) := wt_dc wk606lawc0_code_768_c 6 774 rfl (by decide +kernel)
theorem wld_775 : decode code 775 = .ok (.aload_n 0, 1) := wt_dc wk606lawc0_code_768_c 7 775 rfl (by decide +kernel)
theorem wld_776 : decode code 776 = .ok (.iload 4, 2) := wt_dc wk606lawc0_code_768_c 8 776 rfl (by decide +kernel)
theorem wld_778 : decode code 778 = .ok (.iconst 1, 1) := wt_dc wk606lawc0_code_768_c 10 778 rfl (by decide +kernel)
theorem wld_779 : decode code 779 = .ok (.iadd, 1) := wt_dc wk606lawc0_code_768_c 11 779 rfl (by decide +kernel)
theorem wld_780 : decode code 780 = .ok (.iaload, 1) := wt_dc wk606lawc0_code_768_c 12 780 rfl (by decide +kernel)
theorem wld_781 : decode code 781 = .ok (.aload_n 0, 1) := wt_dc wk606lawc0_code_768_c 13 781 rfl (by decide +kernel)
theorem wld_782 : decode code 782 = .ok (.iload 4, 2) := wt_dc wk606lawc0_code_768_c 14 782 rfl (by decide +kernel)
theorem wld_784 : decode code 784 = .ok (.iconst 2, 1) := wt_dc wk606lawc0_code_768_c 16 784 rfl (by decide +kernel)
theorem wld_785 : decode code 785 = .ok (.iadd, 1) := wt_dc wk606lawc0_code_768_c 17 785 rfl (by decide +kernel)
theorem wld_786 : decode code 786 = .ok (.iaload, 1) := wt_dc wk606lawc0_code_768_c 18 786 rfl (by decide +kernel)
theorem wld_787 : decode code 787 = .ok (.aload_n 3, 1) := wt_dc wk606lawc0_code_768_c 19 787 rfl (by decide +kernel)
theorem wld_788 : decode code 788 = .ok (.invokestatic 167, 3) := wt_dc wk606lawc0_code_768_c 20 788 rfl (by decide +kernel)
theorem wld_791 : decode code 791 = .ok (.istore 5, 2) := wt_dc wk606lawc0_code_768_c 23 791 rfl (by decide +kernel)
theorem wld_793 : decode code 793 = .ok (.aload_n 2, 1) := wt_dc wk606lawc0_code_768_c 25 793 rfl (by decide +kernel)
theorem wld_794 : decode code 794 = .ok (.aload_n 0, 1) := wt_dc wk606lawc0_code_768_c 26 794 rfl (by decide +kernel)
theorem wld_795 : decode code 795 = .ok (.iload 4, 2) := wt_dc wk606lawc0_code_768_c 27 795 rfl (by decide +kernel)
theorem wld_797 : decode code 797 = .ok (.iconst 1, 1) := wt_dc wk606lawc0_code_768_c 29 797 rfl (by decide +kernel)
theorem wld_798 : decode code 798 = .ok (.iadd, 1) := wt_dc wk606lawc0_code_768_c 30 798 rfl (by decide +kernel)
theorem wld_799 : decode code 799 = .ok (.iaload, 1) := wt_dc wk606lawc0_code_768_c 31 799 rfl (by decide +kernel)
def wk606lawc0_code_800 : ByteArray := .mk #[0x2a, 0x15, 0x04, 0x05, 0x60, 0x2e, 0xb6, 0x00, 0xa9, 0x36, 0x06, 0xa7, 0x02, 0x84, 0x2b, 0x2a, 0x15, 0x04, 0x04, 0x60, 0x2e, 0x2d, 0xb8, 0x00, 0xaa, 0x36, 0x05, 0x2c, 0x2a, 0x15, 0x04, 0x04, 0x60, 0x2e, 0xb6, 0x00, 0xac, 0x36, 0x06, 0xa7, 0x02, 0x68, 0x2b, 0x2a, 0x15, 0x04, 0x04, 0x60]
theorem wk606lawc0_code_800_c : wt_ck code wk606lawc0_code_800 800 := wt_ck_of 48 (by decide) (by decide +kernel) (by decide +kernel)
theorem wld_800 : decode code 800 = .ok (.aload_n 0, 1) := wt_dc wk606lawc0_code_800_c 0 800 rfl (by decide +kernel)
theorem wld_801 : decode code 801 = .ok (.iload 4, 2) := wt_dc wk606lawc0_code_800_c 1 801 rfl (by decide +kernel)
theorem wld_803 : decode code 803 = .ok (.iconst 2, 1) := wt_dc wk606lawc0_code_800_c 3 803 rfl (by decide +kernel)
theorem wld_804 : decode code 804 = .ok (.iadd, 1) := wt_dc wk606lawc0_code_800_c 4 804 rfl (by decide +kernel)
theorem wld_805 : decode code 805 = .ok (.iaload, 1) := wt_dc wk606lawc0_code_800_c 5 805 rfl (by decide +kernel)
theorem wld_806 : decode code 806 = .ok (.invokevirtual 169, 3) := wt_dc wk606lawc0_code_800_c 6 806 rfl (by decide +kernel)
theorem wld_809 : decode code 809 = .ok (.istore 6, 2) := wt_dc wk606lawc0_code_800_c 9 809 rfl (by decide +kernel)
theorem wld_811 : decode code 811 = .ok (.goto 644, 3) := wt_dc wk606lawc0_code_800_c 11 811 rfl (by decide +kernel)
set_option maxRecDepth 100000 in
set_option maxHeartbeats 4000000 in
theorem wl_print {X : wt_X} {o b L : Nat} {xs : Nat → Int32} {n K : Nat} {Inv : wt_St → Prop} {i : Int32} (hE : wt_OkO X o code 7 "WornTypeLaw" 400 100000) (hdm : ∀ i, wt_dom (wt_xw X) i ↔ i < 321) (hSN : wt_SN (wt_Ao (wt_xw X) o (wt_xs X).heap.size) (wt_xs X) (wt_xs X).heap) (htr : (wt_xl X).stackTraces = false) (hX : wt_scr X o b L xs) (hi : ∀ c : Int32, c = 1 ∨ c = 2 ∨ c = 3 ∨ c = 4 ∨ c = 5 → vp_in (i + c) L) (hK : K + 8 ≤ 100000) (hP : wt_P_print n Inv) {σ : wt_St} (hσ : Inv σ) (kn : ∀ τ : wt_St, Inv τ → wt_O X o (K + 8) τ 1455 [some (.ref b), some (.ref (wt_ad (wt_xw X) 0)), some (.ref (wt_ad (wt_xw X) 108)), some (.ref o), some (.int i), none, none] []) : wt_O X o K σ 774 [some (.ref b), some (.ref (wt_ad (wt_xw X) 0)), some (.ref (wt_ad (wt_xw X) 108)), some (.ref o), some (.int i), none, none] [] := by
  have hD : ∀ i, i < 108 → wt_dom (wt_xw X) i := fun i hi => (hdm i).mpr (by omega)
  have hM : ∀ i, 108 ≤ i → i < 321 → wt_dom (wt_xw X) i := fun i _ hi => (hdm i).mpr hi
  obtain ⟨q, hq, hx, r, hr, hI⟩ := hP _ (xs (i + (1 : Int32)).toNatClampNeg) (xs (i + (2 : Int32)).toNatClampNeg) hσ
  refine wt_o_aload_n hE wld_774 rfl ?_
  refine wt_o_aload_n hE wld_775 rfl ?_
  refine wt_o_iload hE wld_776 rfl ?_
  refine wt_o_iconst hE (1 : Int32) wld_778 (by decide) ?_
  refine wt_o_iadd hE wld_779 ?_
  refine wt_o_sld hE hX (hi 1 (by decide)) wld_780 ?_
  refine wt_o_aload_n hE wld_781 rfl ?_
  refine wt_o_iload hE wld_782 rfl ?_
  refine wt_o_iconst hE (2 : Int32) wld_784 (by decide) ?_
  refine wt_o_iadd hE wld_785 ?_
  refine wt_o_sld hE hX (hi 2 (by decide)) wld_786 ?_
  refine wt_o_aload_n hE wld_787 rfl ?_
  refine wt_o_callW hE hSN (k := 4) (dd := 9) (mc := 8) [.ref (wt_ad (wt_xw X) 0), .int (xs (i + (1 : Int32)).toNatClampNeg), .int (xs (i + (2 : Int32)).toNatClampNeg), .ref o] (wt_g5 92 rfl rfl) (wt_g5 93 rfl rfl) (wt_g1 0 rfl rfl) wt_cm_print ⟨by decide, by decide, by decide +kernel⟩ (by decide) (ww_print_ok htr hE.2.2 hD hq hx) (by decide) rfl rfl (Nat.le_of_ble_eq_true rfl) (by omega) wld_788 (fun w5 => ?_)
  refine wt_o_istore hE [some (.ref b), some (.ref (wt_ad (wt_xw X) 0)), some (.ref (wt_ad (wt_xw X) 108)), some (.ref o), some (.int i), some (.int w5), none] wld_791 (by decide) rfl ?_
  refine wt_o_aload_n hE wld_793 rfl ?_
  refine wt_o_aload_n hE wld_794 rfl ?_
  refine wt_o_iload hE wld_795 rfl ?_
  refine wt_o_iconst hE (1 : Int32) wld_797 (by decide) ?_
  refine wt_o_iadd hE wld_798 ?_
  refine wt_o_sld hE hX (hi 1 (by decide)) wld_799 ?_
  refine wt_o_aload_n hE wld_800 rfl ?_
  refine wt_o_iload hE wld_801 rfl ?_
  refine wt_o_iconst hE (2 : Int32) wld_803 (by decide) ?_
  refine wt_o_iadd hE wld_804 ?_
  refine wt_o_sld hE hX (hi 2 (by decide)) wld_805 ?_
  refine wt_o_callVi (dd := 2) hE [.int (xs (i + (1 : Int32)).toNatClampNeg), .int (xs (i + (2 : Int32)).toNatClampNeg)] wt_lm_lw_169 wt_ya_md_print (wp_md_print_ok hM hr) (by decide) (hM 108 (by decide) (by decide)) wt_L108 rfl rfl rfl (Nat.le_of_ble_eq_true rfl) (by omega) wld_806 ?_
  refine wt_o_istore hE [some (.ref b), some (.ref (wt_ad (wt_xw X) 0)), some (.ref (wt_ad (wt_xw X) 108)), some (.ref o), some (.int i), some (.int w5), some (.int r.1)] wld_809 (by decide) rfl ?_
  refine wt_o_goto hE 1455 wld_811 rfl ?_
  exact wt_o_wk [true, true, true, true, true, false, false] rfl (kn _ hI)
theorem wld_814 : decode code 814 = .ok (.aload_n 1, 1) := wt_dc wk606lawc0_code_800_c 14 814 rfl (by decide +kernel)
theorem wld_815 : decode code 815 = .ok (.aload_n 0, 1) := wt_dc wk606lawc0_code_800_c 15 815 rfl (by decide +kernel)
theorem wld_816 : decode code 816 = .ok (.iload 4, 2) := wt_dc wk606lawc0_code_800_c 16 816 rfl (by decide +kernel)
theorem wld_818 : decode code 818 = .ok (.iconst 1, 1) := wt_dc wk606lawc0_code_800_c 18 818 rfl (by decide +kernel)
theorem wld_819 : decode code 819 = .ok (.iadd, 1) := wt_dc wk606lawc0_code_800_c 19 819 rfl (by decide +kernel)
theorem wld_820 : decode code 820 = .ok (.iaload, 1) := wt_dc wk606lawc0_code_800_c 20 820 rfl (by decide +kernel)
theorem wld_821 : decode code 821 = .ok (.aload_n 3, 1) := wt_dc wk606lawc0_code_800_c 21 821 rfl (by decide +kernel)
theorem wld_822 : decode code 822 = .ok (.invokestatic 170, 3) := wt_dc wk606lawc0_code_800_c 22 822 rfl (by decide +kernel)
theorem wld_825 : decode code 825 = .ok (.istore 5, 2) := wt_dc wk606lawc0_code_800_c 25 825 rfl (by decide +kernel)
theorem wld_827 : decode code 827 = .ok (.aload_n 2, 1) := wt_dc wk606lawc0_code_800_c 27 827 rfl (by decide +kernel)
theorem wld_828 : decode code 828 = .ok (.aload_n 0, 1) := wt_dc wk606lawc0_code_800_c 28 828 rfl (by decide +kernel)
theorem wld_829 : decode code 829 = .ok (.iload 4, 2) := wt_dc wk606lawc0_code_800_c 29 829 rfl (by decide +kernel)
theorem wld_831 : decode code 831 = .ok (.iconst 1, 1) := wt_dc wk606lawc0_code_800_c 31 831 rfl (by decide +kernel)
def wk606lawc0_code_832 : ByteArray := .mk #[0x60, 0x2e, 0xb6, 0x00, 0xac, 0x36, 0x06, 0xa7, 0x02, 0x68, 0x2b, 0x2a, 0x15, 0x04, 0x04, 0x60, 0x2e, 0x2a, 0x15, 0x04, 0x05, 0x60, 0x2e, 0x2d, 0xb8, 0x00, 0xad, 0x36, 0x05, 0x2c, 0x2a, 0x15, 0x04, 0x04, 0x60, 0x2e, 0x2a, 0x15, 0x04, 0x05, 0x60, 0x2e, 0xb6, 0x00, 0xaf, 0x36, 0x06, 0xa7]
theorem wk606lawc0_code_832_c : wt_ck code wk606lawc0_code_832 832 := wt_ck_of 48 (by decide) (by decide +kernel) (by decide +kernel)
theorem wld_832 : decode code 832 = .ok (.iadd, 1) := wt_dc wk606lawc0_code_832_c 0 832 rfl (by decide +kernel)
theorem wld_833 : decode code 833 = .ok (.iaload, 1) := wt_dc wk606lawc0_code_832_c 1 833 rfl (by decide +kernel)
theorem wld_834 : decode code 834 = .ok (.invokevirtual 172, 3) := wt_dc wk606lawc0_code_832_c 2 834 rfl (by decide +kernel)
theorem wld_837 : decode code 837 = .ok (.istore 6, 2) := wt_dc wk606lawc0_code_832_c 5 837 rfl (by decide +kernel)
theorem wld_839 : decode code 839 = .ok (.goto 616, 3) := wt_dc wk606lawc0_code_832_c 7 839 rfl (by decide +kernel)
set_option maxRecDepth 100000 in
set_option maxHeartbeats 4000000 in
theorem wl_apart {X : wt_X} {o b L : Nat} {xs : Nat → Int32} {n K : Nat} {Inv : wt_St → Prop} {i : Int32} (hE : wt_OkO X o code 7 "WornTypeLaw" 400 100000) (hdm : ∀ i, wt_dom (wt_xw X) i ↔ i < 321) (hSN : wt_SN (wt_Ao (wt_xw X) o (wt_xs X).heap.size) (wt_xs X) (wt_xs X).heap) (htr : (wt_xl X).stackTraces = false) (hX : wt_scr X o b L xs) (hi : ∀ c : Int32, c = 1 ∨ c = 2 ∨ c = 3 ∨ c = 4 ∨ c = 5 → vp_in (i + c) L) (hK : K + 8 ≤ 100000) (hP : wt_P_apart n Inv) {σ : wt_St} (hσ : Inv σ) (kn : ∀ τ : wt_St, Inv τ → wt_O X o (K + 8) τ 1455 [some (.ref b), some (.ref (wt_ad (wt_xw X) 0)), some (.ref (wt_ad (wt_xw X) 108)), some (.ref o), some (.int i), none, none] []) : wt_O X o K σ 814 [some (.ref b), some (.ref (wt_ad (wt_xw X) 0)), some (.ref (wt_ad (wt_xw X) 108)), some (.ref o), some (.int i), none, none] [] := by
  have hD : ∀ i, i < 108 → wt_dom (wt_xw X) i := fun i hi => (hdm i).mpr (by omega)
  have hM : ∀ i, 108 ≤ i → i < 321 → wt_dom (wt_xw X) i := fun i _ hi => (hdm i).mpr hi
  obtain ⟨q, hq, hx, r, hr, hI⟩ := hP _ (xs (i + (1 : Int32)).toNatClampNeg) hσ
  refine wt_o_aload_n hE wld_814 rfl ?_
  refine wt_o_aload_n hE wld_815 rfl ?_
  refine wt_o_iload hE wld_816 rfl ?_
  refine wt_o_iconst hE (1 : Int32) wld_818 (by decide) ?_
  refine wt_o_iadd hE wld_819 ?_
  refine wt_o_sld hE hX (hi 1 (by decide)) wld_820 ?_
  refine wt_o_aload_n hE wld_821 rfl ?_
  refine wt_o_callW hE hSN (k := 3) (dd := 8) (mc := 8) [.ref (wt_ad (wt_xw X) 0), .int (xs (i + (1 : Int32)).toNatClampNeg), .ref o] (wt_g5 110 rfl rfl) (wt_g5 111 rfl rfl) (wt_g1 0 rfl rfl) wt_cm_apart ⟨by decide, by decide, by decide +kernel⟩ (by decide) (ww_apart_ok htr hE.2.2 hD hq hx) (by decide) rfl rfl (Nat.le_of_ble_eq_true rfl) (by omega) wld_822 (fun w5 => ?_)
  refine wt_o_istore hE [some (.ref b), some (.ref (wt_ad (wt_xw X) 0)), some (.ref (wt_ad (wt_xw X) 108)), some (.ref o), some (.int i), some (.int w5), none] wld_825 (by decide) rfl ?_
  refine wt_o_aload_n hE wld_827 rfl ?_
  refine wt_o_aload_n hE wld_828 rfl ?_
  refine wt_o_iload hE wld_829 rfl ?_
  refine wt_o_iconst hE (1 : Int32) wld_831 (by decide) ?_
  refine wt_o_iadd hE wld_832 ?_
  refine wt_o_sld hE hX (hi 1 (by decide)) wld_833 ?_
  refine wt_o_callVi (dd := 2) hE [.int (xs (i + (1 : Int32)).toNatClampNeg)] wt_lm_lw_172 wt_ya_md_apart (wp_md_apart_ok hM hr) (by decide) (hM 108 (by decide) (by decide)) wt_L108 rfl rfl rfl (Nat.le_of_ble_eq_true rfl) (by omega) wld_834 ?_
  refine wt_o_istore hE [some (.ref b), some (.ref (wt_ad (wt_xw X) 0)), some (.ref (wt_ad (wt_xw X) 108)), some (.ref o), some (.int i), some (.int w5), some (.int r.1)] wld_837 (by decide) rfl ?_
  refine wt_o_goto hE 1455 wld_839 rfl ?_
  exact wt_o_wk [true, true, true, true, true, false, false] rfl (kn _ hI)
theorem wld_842 : decode code 842 = .ok (.aload_n 1, 1) := wt_dc wk606lawc0_code_832_c 10 842 rfl (by decide +kernel)
theorem wld_843 : decode code 843 = .ok (.aload_n 0, 1) := wt_dc wk606lawc0_code_832_c 11 843 rfl (by decide +kernel)
theorem wld_844 : decode code 844 = .ok (.iload 4, 2) := wt_dc wk606lawc0_code_832_c 12 844 rfl (by decide +kernel)
theorem wld_846 : decode code 846 = .ok (.iconst 1, 1) := wt_dc wk606lawc0_code_832_c 14 846 rfl (by decide +kernel)
theorem wld_847 : decode code 847 = .ok (.iadd, 1) := wt_dc wk606lawc0_code_832_c 15 847 rfl (by decide +kernel)
theorem wld_848 : decode code 848 = .ok (.iaload, 1) := wt_dc wk606lawc0_code_832_c 16 848 rfl (by decide +kernel)
theorem wld_849 : decode code 849 = .ok (.aload_n 0, 1) := wt_dc wk606lawc0_code_832_c 17 849 rfl (by decide +kernel)
theorem wld_850 : decode code 850 = .ok (.iload 4, 2) := wt_dc wk606lawc0_code_832_c 18 850 rfl (by decide +kernel)
theorem wld_852 : decode code 852 = .ok (.iconst 2, 1) := wt_dc wk606lawc0_code_832_c 20 852 rfl (by decide +kernel)
theorem wld_853 : decode code 853 = .ok (.iadd, 1) := wt_dc wk606lawc0_code_832_c 21 853 rfl (by decide +kernel)
theorem wld_854 : decode code 854 = .ok (.iaload, 1) := wt_dc wk606lawc0_code_832_c 22 854 rfl (by decide +kernel)
theorem wld_855 : decode code 855 = .ok (.aload_n 3, 1) := wt_dc wk606lawc0_code_832_c 23 855 rfl (by decide +kernel)
theorem wld_856 : decode code 856 = .ok (.invokestatic 173, 3) := wt_dc wk606lawc0_code_832_c 24 856 rfl (by decide +kernel)
theorem wld_859 : decode code 859 = .ok (.istore 5, 2) := wt_dc wk606lawc0_code_832_c 27 859 rfl (by decide +kernel)
theorem wld_861 : decode code 861 = .ok (.aload_n 2, 1) := wt_dc wk606lawc0_code_832_c 29 861 rfl (by decide +kernel)
theorem wld_862 : decode code 862 = .ok (.aload_n 0, 1) := wt_dc wk606lawc0_code_832_c 30 862 rfl (by decide +kernel)
theorem wld_863 : decode code 863 = .ok (.iload 4, 2) := wt_dc wk606lawc0_code_832_c 31 863 rfl (by decide +kernel)
def wk606lawc0_code_864 : ByteArray := .mk #[0x04, 0x04, 0x60, 0x2e, 0x2a, 0x15, 0x04, 0x05, 0x60, 0x2e, 0xb6, 0x00, 0xaf, 0x36, 0x06, 0xa7, 0x02, 0x40, 0x2b, 0x2a, 0x15, 0x04, 0x04, 0x60, 0x2e, 0x2a, 0x15, 0x04, 0x05, 0x60, 0x2e, 0x2d, 0xb8, 0x00, 0xb0, 0x36, 0x05, 0x2c, 0x2a, 0x15, 0x04, 0x04, 0x60, 0x2e, 0x2a, 0x15, 0x04, 0x05]
theorem wk606lawc0_code_864_c : wt_ck code wk606lawc0_code_864 864 := wt_ck_of 48 (by decide) (by decide +kernel) (by decide +kernel)
theorem wld_865 : decode code 865 = .ok (.iconst 1, 1) := wt_dc wk606lawc0_code_864_c 1 865 rfl (by decide +kernel)
theorem wld_866 : decode code 866 = .ok (.iadd, 1) := wt_dc wk606lawc0_code_864_c 2 866 rfl (by decide +kernel)
theorem wld_867 : decode code 867 = .ok (.iaload, 1) := wt_dc wk606lawc0_code_864_c 3 867 rfl (by decide +kernel)
theorem wld_868 : decode code 868 = .ok (.aload_n 0, 1) := wt_dc wk606lawc0_code_864_c 4 868 rfl (by decide +kernel)
theorem wld_869 : decode code 869 = .ok (.iload 4, 2) := wt_dc wk606lawc0_code_864_c 5 869 rfl (by decide +kernel)
theorem wld_871 : decode code 871 = .ok (.iconst 2, 1) := wt_dc wk606lawc0_code_864_c 7 871 rfl (by decide +kernel)
theorem wld_872 : decode code 872 = .ok (.iadd, 1) := wt_dc wk606lawc0_code_864_c 8 872 rfl (by decide +kernel)
theorem wld_873 : decode code 873 = .ok (.iaload, 1) := wt_dc wk606lawc0_code_864_c 9 873 rfl (by decide +kernel)
theorem wld_874 : decode code 874 = .ok (.invokevirtual 175, 3) := wt_dc wk606lawc0_code_864_c 10 874 rfl (by decide +kernel)
theorem wld_877 : decode code 877 = .ok (.istore 6, 2) := wt_dc wk606lawc0_code_864_c 13 877 rfl (by decide +kernel)
theorem wld_879 : decode code 879 = .ok (.goto 576, 3) := wt_dc wk606lawc0_code_864_c 15 879 rfl (by decide +kernel)
set_option maxRecDepth 100000 in
set_option maxHeartbeats 4000000 in
theorem wl_page {X : wt_X} {o b L : Nat} {xs : Nat → Int32} {n K : Nat} {Inv : wt_St → Prop} {i : Int32} (hE : wt_OkO X o code 7 "WornTypeLaw" 400 100000) (hdm : ∀ i, wt_dom (wt_xw X) i ↔ i < 321) (hSN : wt_SN (wt_Ao (wt_xw X) o (wt_xs X).heap.size) (wt_xs X) (wt_xs X).heap) (htr : (wt_xl X).stackTraces = false) (hX : wt_scr X o b L xs) (hi : ∀ c : Int32, c = 1 ∨ c = 2 ∨ c = 3 ∨ c = 4 ∨ c = 5 → vp_in (i + c) L) (hK : K + 8 ≤ 100000) (hP : wt_P_page n Inv) {σ : wt_St} (hσ : Inv σ) (kn : ∀ τ : wt_St, Inv τ → wt_O X o (K + 8) τ 1455 [some (.ref b), some (.ref (wt_ad (wt_xw X) 0)), some (.ref (wt_ad (wt_xw X) 108)), some (.ref o), some (.int i), none, none] []) : wt_O X o K σ 842 [some (.ref b), some (.ref (wt_ad (wt_xw X) 0)), some (.ref (wt_ad (wt_xw X) 108)), some (.ref o), some (.int i), none, none] [] := by
  have hD : ∀ i, i < 108 → wt_dom (wt_xw X) i := fun i hi => (hdm i).mpr (by omega)
  have hM : ∀ i, 108 ≤ i → i < 321 → wt_dom (wt_xw X) i := fun i _ hi => (hdm i).mpr hi
  obtain ⟨q, hq, hx, r, hr, hI⟩ := hP _ (xs (i + (1 : Int32)).toNatClampNeg) (xs (i + (2 : Int32)).toNatClampNeg) hσ
  refine wt_o_aload_n hE wld_842 rfl ?_
  refine wt_o_aload_n hE wld_843 rfl ?_
  refine wt_o_iload hE wld_844 rfl ?_
  refine wt_o_iconst hE (1 : Int32) wld_846 (by decide) ?_
  refine wt_o_iadd hE wld_847 ?_
  refine wt_o_sld hE hX (hi 1 (by decide)) wld_848 ?_
  refine wt_o_aload_n hE wld_849 rfl ?_
  refine wt_o_iload hE wld_850 rfl ?_
  refine wt_o_iconst hE (2 : Int32) wld_852 (by decide) ?_
  refine wt_o_iadd hE wld_853 ?_
  refine wt_o_sld hE hX (hi 2 (by decide)) wld_854 ?_
  refine wt_o_aload_n hE wld_855 rfl ?_
  refine wt_o_callW hE hSN (k := 4) (dd := 8) (mc := 8) [.ref (wt_ad (wt_xw X) 0), .int (xs (i + (1 : Int32)).toNatClampNeg), .int (xs (i + (2 : Int32)).toNatClampNeg), .ref o] (wt_g5 126 rfl rfl) (wt_g5 127 rfl rfl) (wt_g1 0 rfl rfl) wt_cm_page ⟨by decide, by decide, by decide +kernel⟩ (by decide) (ww_page_ok htr hE.2.2 hD hq hx) (by decide) rfl rfl (Nat.le_of_ble_eq_true rfl) (by omega) wld_856 (fun w5 => ?_)
  refine wt_o_istore hE [some (.ref b), some (.ref (wt_ad (wt_xw X) 0)), some (.ref (wt_ad (wt_xw X) 108)), some (.ref o), some (.int i), some (.int w5), none] wld_859 (by decide) rfl ?_
  refine wt_o_aload_n hE wld_861 rfl ?_
  refine wt_o_aload_n hE wld_862 rfl ?_
  refine wt_o_iload hE wld_863 rfl ?_
  refine wt_o_iconst hE (1 : Int32) wld_865 (by decide) ?_
  refine wt_o_iadd hE wld_866 ?_
  refine wt_o_sld hE hX (hi 1 (by decide)) wld_867 ?_
  refine wt_o_aload_n hE wld_868 rfl ?_
  refine wt_o_iload hE wld_869 rfl ?_
  refine wt_o_iconst hE (2 : Int32) wld_871 (by decide) ?_
  refine wt_o_iadd hE wld_872 ?_
  refine wt_o_sld hE hX (hi 2 (by decide)) wld_873 ?_
  refine wt_o_callVi (dd := 2) hE [.int (xs (i + (1 : Int32)).toNatClampNeg), .int (xs (i + (2 : Int32)).toNatClampNeg)] wt_lm_lw_175 wt_ya_md_page (wp_md_page_ok hM hr) (by decide) (hM 108 (by decide) (by decide)) wt_L108 rfl rfl rfl (Nat.le_of_ble_eq_true rfl) (by omega) wld_874 ?_
  refine wt_o_istore hE [some (.ref b), some (.ref (wt_ad (wt_xw X) 0)), some (.ref (wt_ad (wt_xw X) 108)), some (.ref o), some (.int i), some (.int w5), some (.int r.1)] wld_877 (by decide) rfl ?_
  refine wt_o_goto hE 1455 wld_879 rfl ?_
  exact wt_o_wk [true, true, true, true, true, false, false] rfl (kn _ hI)
end WLC
