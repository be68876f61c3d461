/-! ===== the law ===== -/
theorem jl_ix {i : Nat} (j : Nat) (h : i + j < 2 ^ 31) : jb_ix (nI i + nI j) (i + j) := jb_ix_of (nI_add i j) h
theorem jI.l0 {c : Nat} {h : jb_H} (hI : jI c h) : ∃ fs, jb_look h 0 = some (.inr (11, fs)) := by
  obtain ⟨im, Im, Tm, row, stk, tpm, I, W, T, Ik, Wk, Tk, Ix, Wx, Tx, I0, n0, J0, W0, I1, n1, J1, W1, I2, n2, J2, W2, I3, n3, J3, W3, A, bo, er, R, J, d, e, kp, nm, Wm, s11, rfl, -⟩ := hI
  exact ⟨_, rfl⟩
theorem jI.no {c : Nat} {h : jb_H} (hI : jI c h) : jI (c + 1) h := by
  obtain ⟨im, Im, Tm, row, stk, tpm, I, W, T, Ik, Wk, Tk, Ix, Wx, Tx, I0, n0, J0, W0, I1, n1, J1, W1, I2, n2, J2, W2, I3, n3, J3, W3, A, bo, er, R, J, d, e, kp, nm, Wm, s11, rfl, hF⟩ := hI
  exact jI.of hF.no
theorem jq_gt {n i : Nat} (hn : n ≤ 384) (hi : i ≤ 400) : nI n - 6 < nI i ↔ n < i + 6 := by
  have e : (nI n - 6).toInt = (n : Int) - 6 := pk_sub_toInt (a := n) (b := 6) (by omega) (by decide)
  rw [Int32.lt_iff_toInt_lt, e, nI_toInt (by omega)]
  omega
set_option maxRecDepth 100000 in
set_option maxHeartbeats 4000000 in
theorem lw_c0 {sc : Nat × (Nat → Int32)} {i c a b : Nat} {h : jb_H} {Q : Option Value → jb_H → Prop} (hs : sc.1 ≤ 384) (hi : i + 6 ≤ sc.1) (hc : c < 900) (hI : jI c h) (k : ∀ h2, jI (c + 1) h2 → jb_J sc RL cL_law 4 (Option.some .boolean) false 62 a b 1357 [some (.ref 1000000), some (.ref 0), some (.ref 105), some (.int (nI i))] [] h2 Q) : jb_J sc RL cL_law 4 (Option.some .boolean) false 62 (a + 1) (b + 50) 196 [some (.ref 1000000), some (.ref 0), some (.ref 105), some (.int (nI i))] [] h Q := by
  have P : jPc _ _ _ _ _ _ _ _ _ _ := p_air (sc := sc) ((sc.2 (i + 1))) ((sc.2 (i + 2))) c h hc hI
  obtain ⟨d1, a1, b1, Q1, k1, k2, k3, hC, hK⟩ := P
  obtain ⟨f0, l0⟩ := hI.l0
  refine jb_aload_n (pc' := 197) dL_law_196 rfl rfl ?_
  refine jb_aload_n (pc' := 198) dL_law_197 rfl rfl ?_
  refine jb_iload_n (pc' := 199) dL_law_198 rfl rfl ?_
  refine jb_iconst (pc' := 200) 1 dL_law_199 (by decide) rfl ?_
  refine jb_iadd (pc' := 201) dL_law_200 rfl ?_
  refine jb_sload (pc' := 202) (i9 := i + 1) dL_law_201 (jl_ix 1 (by omega)) (by omega) rfl ?_
  refine jb_aload_n (pc' := 203) dL_law_202 rfl rfl ?_
  refine jb_iload_n (pc' := 204) dL_law_203 rfl rfl ?_
  refine jb_iconst (pc' := 205) 2 dL_law_204 (by decide) rfl ?_
  refine jb_iadd (pc' := 206) dL_law_205 rfl ?_
  refine jb_sload (pc' := 207) (i9 := i + 2) dL_law_206 (jl_ix 2 (by omega)) (by omega) rfl ?_
  refine jb_callV (pc' := 210) (ci := 11) (q := 0) (As := [.int (sc.2 (i + 1)), .int (sc.2 (i + 2))]) (a2 := a) (b2 := b) wv_L_13 rfl dL_law_207 hC l0 rfl ⟨by omega, by omega, by omega⟩ (Nat.le_of_ble_eq_true rfl) rfl (fun r h1 hq => ?_)
  obtain ⟨v, rfl, ⟨f1, l1⟩, d2, Q2, k4, hC2, hK2⟩ := hK r h1 hq
  show jb_J sc RL cL_law 4 (Option.some .boolean) false 62 a b 210 [some (.ref 1000000), some (.ref 0), some (.ref 105), some (.int (nI i))] [.int v] h1 Q
  refine jb_aload_n (pc' := 211) dL_law_210 rfl rfl ?_
  refine jb_aload_n (pc' := 212) dL_law_211 rfl rfl ?_
  refine jb_iload_n (pc' := 213) dL_law_212 rfl rfl ?_
  refine jb_iconst (pc' := 214) 1 dL_law_213 (by decide) rfl ?_
  refine jb_iadd (pc' := 215) dL_law_214 rfl ?_
  refine jb_sload (pc' := 216) (i9 := i + 1) dL_law_215 (jl_ix 1 (by omega)) (by omega) rfl ?_
  refine jb_aload_n (pc' := 217) dL_law_216 rfl rfl ?_
  refine jb_iload_n (pc' := 218) dL_law_217 rfl rfl ?_
  refine jb_iconst (pc' := 219) 2 dL_law_218 (by decide) rfl ?_
  refine jb_iadd (pc' := 220) dL_law_219 rfl ?_
  refine jb_sload (pc' := 221) (i9 := i + 2) dL_law_220 (jl_ix 2 (by omega)) (by omega) rfl ?_
  refine jb_callV (pc' := 224) (ci := 12) (q := 105) (As := [.int (sc.2 (i + 1)), .int (sc.2 (i + 2))]) (a2 := a) (b2 := b) wv_L_17 rfl dL_law_221 hC2 l1 rfl ⟨by omega, by omega, by omega⟩ (Nat.le_of_ble_eq_true rfl) rfl (fun r h2 hq2 => ?_)
  obtain ⟨rfl, hJ⟩ := hK2 r h2 hq2
  show jb_J sc RL cL_law 4 (Option.some .boolean) false 62 a b 224 [some (.ref 1000000), some (.ref 0), some (.ref 105), some (.int (nI i))] [.int v, .int v] h2 Q
  refine jb_icmp_eq (tgt := 1357) (pc' := 227) dL_law_224 (by decide) rfl (fun _ => k h2 hJ) (fun z => absurd rfl z)
set_option maxRecDepth 100000 in
set_option maxHeartbeats 4000000 in
theorem lw_c1 {sc : Nat × (Nat → Int32)} {i c a b : Nat} {h : jb_H} {Q : Option Value → jb_H → Prop} (hs : sc.1 ≤ 384) (hi : i + 6 ≤ sc.1) (hc : c < 900) (hI : jI c h) (k : ∀ h2, jI (c + 1) h2 → jb_J sc RL cL_law 4 (Option.some .boolean) false 62 a b 1357 [some (.ref 1000000), some (.ref 0), some (.ref 105), some (.int (nI i))] [] h2 Q) : jb_J sc RL cL_law 4 (Option.some .boolean) false 62 (a + 1) (b + 50) 229 [some (.ref 1000000), some (.ref 0), some (.ref 105), some (.int (nI i))] [] h Q := by
  have P : jPc _ _ _ _ _ _ _ _ _ _ := p_person (sc := sc) ((sc.2 (i + 1))) ((sc.2 (i + 2))) c h hc hI
  obtain ⟨d1, a1, b1, Q1, k1, k2, k3, hC, hK⟩ := P
  obtain ⟨f0, l0⟩ := hI.l0
  refine jb_aload_n (pc' := 230) dL_law_229 rfl rfl ?_
  refine jb_aload_n (pc' := 231) dL_law_230 rfl rfl ?_
  refine jb_iload_n (pc' := 232) dL_law_231 rfl rfl ?_
  refine jb_iconst (pc' := 233) 1 dL_law_232 (by decide) rfl ?_
  refine jb_iadd (pc' := 234) dL_law_233 rfl ?_
  refine jb_sload (pc' := 235) (i9 := i + 1) dL_law_234 (jl_ix 1 (by omega)) (by omega) rfl ?_
  refine jb_aload_n (pc' := 236) dL_law_235 rfl rfl ?_
  refine jb_iload_n (pc' := 237) dL_law_236 rfl rfl ?_
  refine jb_iconst (pc' := 238) 2 dL_law_237 (by decide) rfl ?_
  refine jb_iadd (pc' := 239) dL_law_238 rfl ?_
  refine jb_sload (pc' := 240) (i9 := i + 2) dL_law_239 (jl_ix 2 (by omega)) (by omega) rfl ?_
  refine jb_callV (pc' := 243) (ci := 11) (q := 0) (As := [.int (sc.2 (i + 1)), .int (sc.2 (i + 2))]) (a2 := a) (b2 := b) wv_L_18 rfl dL_law_240 hC l0 rfl ⟨by omega, by omega, by omega⟩ (Nat.le_of_ble_eq_true rfl) rfl (fun r h1 hq => ?_)
  obtain ⟨v, rfl, ⟨f1, l1⟩, d2, Q2, k4, hC2, hK2⟩ := hK r h1 hq
  show jb_J sc RL cL_law 4 (Option.some .boolean) false 62 a b 243 [some (.ref 1000000), some (.ref 0), some (.ref 105), some (.int (nI i))] [.int v] h1 Q
  refine jb_aload_n (pc' := 244) dL_law_243 rfl rfl ?_
  refine jb_aload_n (pc' := 245) dL_law_244 rfl rfl ?_
  refine jb_iload_n (pc' := 246) dL_law_245 rfl rfl ?_
  refine jb_iconst (pc' := 247) 1 dL_law_246 (by decide) rfl ?_
  refine jb_iadd (pc' := 248) dL_law_247 rfl ?_
  refine jb_sload (pc' := 249) (i9 := i + 1) dL_law_248 (jl_ix 1 (by omega)) (by omega) rfl ?_
  refine jb_aload_n (pc' := 250) dL_law_249 rfl rfl ?_
  refine jb_iload_n (pc' := 251) dL_law_250 rfl rfl ?_
  refine jb_iconst (pc' := 252) 2 dL_law_251 (by decide) rfl ?_
  refine jb_iadd (pc' := 253) dL_law_252 rfl ?_
  refine jb_sload (pc' := 254) (i9 := i + 2) dL_law_253 (jl_ix 2 (by omega)) (by omega) rfl ?_
  refine jb_callV (pc' := 257) (ci := 12) (q := 105) (As := [.int (sc.2 (i + 1)), .int (sc.2 (i + 2))]) (a2 := a) (b2 := b) wv_L_21 rfl dL_law_254 hC2 l1 rfl ⟨by omega, by omega, by omega⟩ (Nat.le_of_ble_eq_true rfl) rfl (fun r h2 hq2 => ?_)
  obtain ⟨rfl, hJ⟩ := hK2 r h2 hq2
  show jb_J sc RL cL_law 4 (Option.some .boolean) false 62 a b 257 [some (.ref 1000000), some (.ref 0), some (.ref 105), some (.int (nI i))] [.int v, .int v] h2 Q
  refine jb_icmp_eq (tgt := 1357) (pc' := 260) dL_law_257 (by decide) rfl (fun _ => k h2 hJ) (fun z => absurd rfl z)
set_option maxRecDepth 100000 in
set_option maxHeartbeats 4000000 in
theorem lw_c2 {sc : Nat × (Nat → Int32)} {i c a b : Nat} {h : jb_H} {Q : Option Value → jb_H → Prop} (hs : sc.1 ≤ 384) (hi : i + 6 ≤ sc.1) (hc : c < 900) (hI : jI c h) (k : ∀ h2, jI (c + 1) h2 → jb_J sc RL cL_law 4 (Option.some .boolean) false 62 a b 1357 [some (.ref 1000000), some (.ref 0), some (.ref 105), some (.int (nI i))] [] h2 Q) : jb_J sc RL cL_law 4 (Option.some .boolean) false 62 (a + 1) (b + 50) 262 [some (.ref 1000000), some (.ref 0), some (.ref 105), some (.int (nI i))] [] h Q := by
  have P : jPc _ _ _ _ _ _ _ _ _ _ := p_ofVoice (sc := sc) ((sc.2 (i + 1))) ((sc.2 (i + 2))) c h hc hI
  obtain ⟨d1, a1, b1, Q1, k1, k2, k3, hC, hK⟩ := P
  obtain ⟨f0, l0⟩ := hI.l0
  refine jb_aload_n (pc' := 263) dL_law_262 rfl rfl ?_
  refine jb_aload_n (pc' := 264) dL_law_263 rfl rfl ?_
  refine jb_iload_n (pc' := 265) dL_law_264 rfl rfl ?_
  refine jb_iconst (pc' := 266) 1 dL_law_265 (by decide) rfl ?_
  refine jb_iadd (pc' := 267) dL_law_266 rfl ?_
  refine jb_sload (pc' := 268) (i9 := i + 1) dL_law_267 (jl_ix 1 (by omega)) (by omega) rfl ?_
  refine jb_aload_n (pc' := 269) dL_law_268 rfl rfl ?_
  refine jb_iload_n (pc' := 270) dL_law_269 rfl rfl ?_
  refine jb_iconst (pc' := 271) 2 dL_law_270 (by decide) rfl ?_
  refine jb_iadd (pc' := 272) dL_law_271 rfl ?_
  refine jb_sload (pc' := 273) (i9 := i + 2) dL_law_272 (jl_ix 2 (by omega)) (by omega) rfl ?_
  refine jb_callV (pc' := 276) (ci := 11) (q := 0) (As := [.int (sc.2 (i + 1)), .int (sc.2 (i + 2))]) (a2 := a) (b2 := b) wv_L_22 rfl dL_law_273 hC l0 rfl ⟨by omega, by omega, by omega⟩ (Nat.le_of_ble_eq_true rfl) rfl (fun r h1 hq => ?_)
  obtain ⟨v, rfl, ⟨f1, l1⟩, d2, Q2, k4, hC2, hK2⟩ := hK r h1 hq
  show jb_J sc RL cL_law 4 (Option.some .boolean) false 62 a b 276 [some (.ref 1000000), some (.ref 0), some (.ref 105), some (.int (nI i))] [.int v] h1 Q
  refine jb_aload_n (pc' := 277) dL_law_276 rfl rfl ?_
  refine jb_aload_n (pc' := 278) dL_law_277 rfl rfl ?_
  refine jb_iload_n (pc' := 279) dL_law_278 rfl rfl ?_
  refine jb_iconst (pc' := 280) 1 dL_law_279 (by decide) rfl ?_
  refine jb_iadd (pc' := 281) dL_law_280 rfl ?_
  refine jb_sload (pc' := 282) (i9 := i + 1) dL_law_281 (jl_ix 1 (by omega)) (by omega) rfl ?_
  refine jb_aload_n (pc' := 283) dL_law_282 rfl rfl ?_
  refine jb_iload_n (pc' := 284) dL_law_283 rfl rfl ?_
  refine jb_iconst (pc' := 285) 2 dL_law_284 (by decide) rfl ?_
  refine jb_iadd (pc' := 286) dL_law_285 rfl ?_
  refine jb_sload (pc' := 287) (i9 := i + 2) dL_law_286 (jl_ix 2 (by omega)) (by omega) rfl ?_
  refine jb_callV (pc' := 290) (ci := 12) (q := 105) (As := [.int (sc.2 (i + 1)), .int (sc.2 (i + 2))]) (a2 := a) (b2 := b) wv_L_25 rfl dL_law_287 hC2 l1 rfl ⟨by omega, by omega, by omega⟩ (Nat.le_of_ble_eq_true rfl) rfl (fun r h2 hq2 => ?_)
  obtain ⟨rfl, hJ⟩ := hK2 r h2 hq2
  show jb_J sc RL cL_law 4 (Option.some .boolean) false 62 a b 290 [some (.ref 1000000), some (.ref 0), some (.ref 105), some (.int (nI i))] [.int v, .int v] h2 Q
  refine jb_icmp_eq (tgt := 1357) (pc' := 293) dL_law_290 (by decide) rfl (fun _ => k h2 hJ) (fun z => absurd rfl z)
set_option maxRecDepth 100000 in
set_option maxHeartbeats 4000000 in
theorem lw_c3 {sc : Nat × (Nat → Int32)} {i c a b : Nat} {h : jb_H} {Q : Option Value → jb_H → Prop} (hs : sc.1 ≤ 384) (hi : i + 6 ≤ sc.1) (hc : c < 900) (hI : jI c h) (k : ∀ h2, jI (c + 1) h2 → jb_J sc RL cL_law 4 (Option.some .boolean) false 62 a b 1357 [some (.ref 1000000), some (.ref 0), some (.ref 105), some (.int (nI i))] [] h2 Q) : jb_J sc RL cL_law 4 (Option.some .boolean) false 62 (a + 1) (b + 50) 295 [some (.ref 1000000), some (.ref 0), some (.ref 105), some (.int (nI i))] [] h Q := by
  have P : jPc _ _ _ _ _ _ _ _ _ _ := p_carries (sc := sc) ((sc.2 (i + 1))) ((sc.2 (i + 2))) c h hc hI
  obtain ⟨d1, a1, b1, Q1, k1, k2, k3, hC, hK⟩ := P
  obtain ⟨f0, l0⟩ := hI.l0
  refine jb_aload_n (pc' := 296) dL_law_295 rfl rfl ?_
  refine jb_aload_n (pc' := 297) dL_law_296 rfl rfl ?_
  refine jb_iload_n (pc' := 298) dL_law_297 rfl rfl ?_
  refine jb_iconst (pc' := 299) 1 dL_law_298 (by decide) rfl ?_
  refine jb_iadd (pc' := 300) dL_law_299 rfl ?_
  refine jb_sload (pc' := 301) (i9 := i + 1) dL_law_300 (jl_ix 1 (by omega)) (by omega) rfl ?_
  refine jb_aload_n (pc' := 302) dL_law_301 rfl rfl ?_
  refine jb_iload_n (pc' := 303) dL_law_302 rfl rfl ?_
  refine jb_iconst (pc' := 304) 2 dL_law_303 (by decide) rfl ?_
  refine jb_iadd (pc' := 305) dL_law_304 rfl ?_
  refine jb_sload (pc' := 306) (i9 := i + 2) dL_law_305 (jl_ix 2 (by omega)) (by omega) rfl ?_
  refine jb_callV (pc' := 309) (ci := 11) (q := 0) (As := [.int (sc.2 (i + 1)), .int (sc.2 (i + 2))]) (a2 := a) (b2 := b) wv_L_26 rfl dL_law_306 hC l0 rfl ⟨by omega, by omega, by omega⟩ (Nat.le_of_ble_eq_true rfl) rfl (fun r h1 hq => ?_)
  obtain ⟨v, rfl, ⟨f1, l1⟩, d2, Q2, k4, hC2, hK2⟩ := hK r h1 hq
  show jb_J sc RL cL_law 4 (Option.some .boolean) false 62 a b 309 [some (.ref 1000000), some (.ref 0), some (.ref 105), some (.int (nI i))] [.int v] h1 Q
  refine jb_aload_n (pc' := 310) dL_law_309 rfl rfl ?_
  refine jb_aload_n (pc' := 311) dL_law_310 rfl rfl ?_
  refine jb_iload_n (pc' := 312) dL_law_311 rfl rfl ?_
  refine jb_iconst (pc' := 313) 1 dL_law_312 (by decide) rfl ?_
  refine jb_iadd (pc' := 314) dL_law_313 rfl ?_
  refine jb_sload (pc' := 315) (i9 := i + 1) dL_law_314 (jl_ix 1 (by omega)) (by omega) rfl ?_
  refine jb_aload_n (pc' := 316) dL_law_315 rfl rfl ?_
  refine jb_iload_n (pc' := 317) dL_law_316 rfl rfl ?_
  refine jb_iconst (pc' := 318) 2 dL_law_317 (by decide) rfl ?_
  refine jb_iadd (pc' := 319) dL_law_318 rfl ?_
  refine jb_sload (pc' := 320) (i9 := i + 2) dL_law_319 (jl_ix 2 (by omega)) (by omega) rfl ?_
  refine jb_callV (pc' := 323) (ci := 12) (q := 105) (As := [.int (sc.2 (i + 1)), .int (sc.2 (i + 2))]) (a2 := a) (b2 := b) wv_L_29 rfl dL_law_320 hC2 l1 rfl ⟨by omega, by omega, by omega⟩ (Nat.le_of_ble_eq_true rfl) rfl (fun r h2 hq2 => ?_)
  obtain ⟨rfl, hJ⟩ := hK2 r h2 hq2
  show jb_J sc RL cL_law 4 (Option.some .boolean) false 62 a b 323 [some (.ref 1000000), some (.ref 0), some (.ref 105), some (.int (nI i))] [.int v, .int v] h2 Q
  refine jb_icmp_eq (tgt := 1357) (pc' := 326) dL_law_323 (by decide) rfl (fun _ => k h2 hJ) (fun z => absurd rfl z)
set_option maxRecDepth 100000 in
set_option maxHeartbeats 4000000 in
theorem lw_c4 {sc : Nat × (Nat → Int32)} {i c a b : Nat} {h : jb_H} {Q : Option Value → jb_H → Prop} (hs : sc.1 ≤ 384) (hi : i + 6 ≤ sc.1) (hc : c < 900) (hI : jI c h) (k : ∀ h2, jI (c + 1) h2 → jb_J sc RL cL_law 4 (Option.some .boolean) false 62 a b 1357 [some (.ref 1000000), some (.ref 0), some (.ref 105), some (.int (nI i))] [] h2 Q) : jb_J sc RL cL_law 4 (Option.some .boolean) false 62 (a + 1) (b + 50) 328 [some (.ref 1000000), some (.ref 0), some (.ref 105), some (.int (nI i))] [] h Q := by
  have P : jPc _ _ _ _ _ _ _ _ _ _ := p_says (sc := sc) ((sc.2 (i + 1))) ((sc.2 (i + 2))) c h hc hI
  obtain ⟨d1, a1, b1, Q1, k1, k2, k3, hC, hK⟩ := P
  obtain ⟨f0, l0⟩ := hI.l0
  refine jb_aload_n (pc' := 329) dL_law_328 rfl rfl ?_
  refine jb_aload_n (pc' := 330) dL_law_329 rfl rfl ?_
  refine jb_iload_n (pc' := 331) dL_law_330 rfl rfl ?_
  refine jb_iconst (pc' := 332) 1 dL_law_331 (by decide) rfl ?_
  refine jb_iadd (pc' := 333) dL_law_332 rfl ?_
  refine jb_sload (pc' := 334) (i9 := i + 1) dL_law_333 (jl_ix 1 (by omega)) (by omega) rfl ?_
  refine jb_aload_n (pc' := 335) dL_law_334 rfl rfl ?_
  refine jb_iload_n (pc' := 336) dL_law_335 rfl rfl ?_
  refine jb_iconst (pc' := 337) 2 dL_law_336 (by decide) rfl ?_
  refine jb_iadd (pc' := 338) dL_law_337 rfl ?_
  refine jb_sload (pc' := 339) (i9 := i + 2) dL_law_338 (jl_ix 2 (by omega)) (by omega) rfl ?_
  refine jb_callV (pc' := 342) (ci := 11) (q := 0) (As := [.int (sc.2 (i + 1)), .int (sc.2 (i + 2))]) (a2 := a) (b2 := b) wv_L_30 rfl dL_law_339 hC l0 rfl ⟨by omega, by omega, by omega⟩ (Nat.le_of_ble_eq_true rfl) rfl (fun r h1 hq => ?_)
  obtain ⟨v, rfl, ⟨f1, l1⟩, d2, Q2, k4, hC2, hK2⟩ := hK r h1 hq
  show jb_J sc RL cL_law 4 (Option.some .boolean) false 62 a b 342 [some (.ref 1000000), some (.ref 0), some (.ref 105), some (.int (nI i))] [.int v] h1 Q
  refine jb_aload_n (pc' := 343) dL_law_342 rfl rfl ?_
  refine jb_aload_n (pc' := 344) dL_law_343 rfl rfl ?_
  refine jb_iload_n (pc' := 345) dL_law_344 rfl rfl ?_
  refine jb_iconst (pc' := 346) 1 dL_law_345 (by decide) rfl ?_
  refine jb_iadd (pc' := 347) dL_law_346 rfl ?_
  refine jb_sload (pc' := 348) (i9 := i + 1) dL_law_347 (jl_ix 1 (by omega)) (by omega) rfl ?_
  refine jb_aload_n (pc' := 349) dL_law_348 rfl rfl ?_
  refine jb_iload_n (pc' := 350) dL_law_349 rfl rfl ?_
  refine jb_iconst (pc' := 351) 2 dL_law_350 (by decide) rfl ?_
  refine jb_iadd (pc' := 352) dL_law_351 rfl ?_
  refine jb_sload (pc' := 353) (i9 := i + 2) dL_law_352 (jl_ix 2 (by omega)) (by omega) rfl ?_
  refine jb_callV (pc' := 356) (ci := 12) (q := 105) (As := [.int (sc.2 (i + 1)), .int (sc.2 (i + 2))]) (a2 := a) (b2 := b) wv_L_33 rfl dL_law_353 hC2 l1 rfl ⟨by omega, by omega, by omega⟩ (Nat.le_of_ble_eq_true rfl) rfl (fun r h2 hq2 => ?_)
  obtain ⟨rfl, hJ⟩ := hK2 r h2 hq2
  show jb_J sc RL cL_law 4 (Option.some .boolean) false 62 a b 356 [some (.ref 1000000), some (.ref 0), some (.ref 105), some (.int (nI i))] [.int v, .int v] h2 Q
  refine jb_icmp_eq (tgt := 1357) (pc' := 359) dL_law_356 (by decide) rfl (fun _ => k h2 hJ) (fun z => absurd rfl z)
set_option maxRecDepth 100000 in
set_option maxHeartbeats 4000000 in
theorem lw_c5 {sc : Nat × (Nat → Int32)} {i c a b : Nat} {h : jb_H} {Q : Option Value → jb_H → Prop} (hs : sc.1 ≤ 384) (hi : i + 6 ≤ sc.1) (hc : c < 900) (hI : jI c h) (k : ∀ h2, jI (c + 1) h2 → jb_J sc RL cL_law 4 (Option.some .boolean) false 62 a b 1357 [some (.ref 1000000), some (.ref 0), some (.ref 105), some (.int (nI i))] [] h2 Q) : jb_J sc RL cL_law 4 (Option.some .boolean) false 62 (a + 1) (b + 50) 361 [some (.ref 1000000), some (.ref 0), some (.ref 105), some (.int (nI i))] [] h Q := by
  have P : jPc _ _ _ _ _ _ _ _ _ _ := p_go (sc := sc) ((sc.2 (i + 1))) ((sc.2 (i + 2))) c h hc hI
  obtain ⟨d1, a1, b1, Q1, k1, k2, k3, hC, hK⟩ := P
  obtain ⟨f0, l0⟩ := hI.l0
  refine jb_aload_n (pc' := 362) dL_law_361 rfl rfl ?_
  refine jb_aload_n (pc' := 363) dL_law_362 rfl rfl ?_
  refine jb_iload_n (pc' := 364) dL_law_363 rfl rfl ?_
  refine jb_iconst (pc' := 365) 1 dL_law_364 (by decide) rfl ?_
  refine jb_iadd (pc' := 366) dL_law_365 rfl ?_
  refine jb_sload (pc' := 367) (i9 := i + 1) dL_law_366 (jl_ix 1 (by omega)) (by omega) rfl ?_
  refine jb_aload_n (pc' := 368) dL_law_367 rfl rfl ?_
  refine jb_iload_n (pc' := 369) dL_law_368 rfl rfl ?_
  refine jb_iconst (pc' := 370) 2 dL_law_369 (by decide) rfl ?_
  refine jb_iadd (pc' := 371) dL_law_370 rfl ?_
  refine jb_sload (pc' := 372) (i9 := i + 2) dL_law_371 (jl_ix 2 (by omega)) (by omega) rfl ?_
  refine jb_callV (pc' := 375) (ci := 11) (q := 0) (As := [.int (sc.2 (i + 1)), .int (sc.2 (i + 2))]) (a2 := a) (b2 := b) wv_L_34 rfl dL_law_372 hC l0 rfl ⟨by omega, by omega, by omega⟩ (Nat.le_of_ble_eq_true rfl) rfl (fun r h1 hq => ?_)
  obtain ⟨v, rfl, ⟨f1, l1⟩, d2, Q2, k4, hC2, hK2⟩ := hK r h1 hq
  show jb_J sc RL cL_law 4 (Option.some .boolean) false 62 a b 375 [some (.ref 1000000), some (.ref 0), some (.ref 105), some (.int (nI i))] [.int v] h1 Q
  refine jb_aload_n (pc' := 376) dL_law_375 rfl rfl ?_
  refine jb_aload_n (pc' := 377) dL_law_376 rfl rfl ?_
  refine jb_iload_n (pc' := 378) dL_law_377 rfl rfl ?_
  refine jb_iconst (pc' := 379) 1 dL_law_378 (by decide) rfl ?_
  refine jb_iadd (pc' := 380) dL_law_379 rfl ?_
  refine jb_sload (pc' := 381) (i9 := i + 1) dL_law_380 (jl_ix 1 (by omega)) (by omega) rfl ?_
  refine jb_aload_n (pc' := 382) dL_law_381 rfl rfl ?_
  refine jb_iload_n (pc' := 383) dL_law_382 rfl rfl ?_
  refine jb_iconst (pc' := 384) 2 dL_law_383 (by decide) rfl ?_
  refine jb_iadd (pc' := 385) dL_law_384 rfl ?_
  refine jb_sload (pc' := 386) (i9 := i + 2) dL_law_385 (jl_ix 2 (by omega)) (by omega) rfl ?_
  refine jb_callV (pc' := 389) (ci := 12) (q := 105) (As := [.int (sc.2 (i + 1)), .int (sc.2 (i + 2))]) (a2 := a) (b2 := b) wv_L_37 rfl dL_law_386 hC2 l1 rfl ⟨by omega, by omega, by omega⟩ (Nat.le_of_ble_eq_true rfl) rfl (fun r h2 hq2 => ?_)
  obtain ⟨rfl, hJ⟩ := hK2 r h2 hq2
  show jb_J sc RL cL_law 4 (Option.some .boolean) false 62 a b 389 [some (.ref 1000000), some (.ref 0), some (.ref 105), some (.int (nI i))] [.int v, .int v] h2 Q
  refine jb_icmp_eq (tgt := 1357) (pc' := 392) dL_law_389 (by decide) rfl (fun _ => k h2 hJ) (fun z => absurd rfl z)
set_option maxRecDepth 100000 in
set_option maxHeartbeats 4000000 in
theorem lw_c6 {sc : Nat × (Nat → Int32)} {i c a b : Nat} {h : jb_H} {Q : Option Value → jb_H → Prop} (hs : sc.1 ≤ 384) (hi : i + 6 ≤ sc.1) (hc : c < 900) (hI : jI c h) (k : ∀ h2, jI (c + 1) h2 → jb_J sc RL cL_law 4 (Option.some .boolean) false 62 a b 1357 [some (.ref 1000000), some (.ref 0), some (.ref 105), some (.int (nI i))] [] h2 Q) : jb_J sc RL cL_law 4 (Option.some .boolean) false 62 (a + 1) (b + 50) 394 [some (.ref 1000000), some (.ref 0), some (.ref 105), some (.int (nI i))] [] h Q := by
  have P : jPc _ _ _ _ _ _ _ _ _ _ := p_become (sc := sc) ((sc.2 (i + 1))) ((sc.2 (i + 2))) c h hc hI
  obtain ⟨d1, a1, b1, Q1, k1, k2, k3, hC, hK⟩ := P
  obtain ⟨f0, l0⟩ := hI.l0
  refine jb_aload_n (pc' := 395) dL_law_394 rfl rfl ?_
  refine jb_aload_n (pc' := 396) dL_law_395 rfl rfl ?_
  refine jb_iload_n (pc' := 397) dL_law_396 rfl rfl ?_
  refine jb_iconst (pc' := 398) 1 dL_law_397 (by decide) rfl ?_
  refine jb_iadd (pc' := 399) dL_law_398 rfl ?_
  refine jb_sload (pc' := 400) (i9 := i + 1) dL_law_399 (jl_ix 1 (by omega)) (by omega) rfl ?_
  refine jb_aload_n (pc' := 401) dL_law_400 rfl rfl ?_
  refine jb_iload_n (pc' := 402) dL_law_401 rfl rfl ?_
  refine jb_iconst (pc' := 403) 2 dL_law_402 (by decide) rfl ?_
  refine jb_iadd (pc' := 404) dL_law_403 rfl ?_
  refine jb_sload (pc' := 405) (i9 := i + 2) dL_law_404 (jl_ix 2 (by omega)) (by omega) rfl ?_
  refine jb_callV (pc' := 408) (ci := 11) (q := 0) (As := [.int (sc.2 (i + 1)), .int (sc.2 (i + 2))]) (a2 := a) (b2 := b) wv_L_38 rfl dL_law_405 hC l0 rfl ⟨by omega, by omega, by omega⟩ (Nat.le_of_ble_eq_true rfl) rfl (fun r h1 hq => ?_)
  obtain ⟨v, rfl, ⟨f1, l1⟩, d2, Q2, k4, hC2, hK2⟩ := hK r h1 hq
  show jb_J sc RL cL_law 4 (Option.some .boolean) false 62 a b 408 [some (.ref 1000000), some (.ref 0), some (.ref 105), some (.int (nI i))] [.int v] h1 Q
  refine jb_aload_n (pc' := 409) dL_law_408 rfl rfl ?_
  refine jb_aload_n (pc' := 410) dL_law_409 rfl rfl ?_
  refine jb_iload_n (pc' := 411) dL_law_410 rfl rfl ?_
  refine jb_iconst (pc' := 412) 1 dL_law_411 (by decide) rfl ?_
  refine jb_iadd (pc' := 413) dL_law_412 rfl ?_
  refine jb_sload (pc' := 414) (i9 := i + 1) dL_law_413 (jl_ix 1 (by omega)) (by omega) rfl ?_
  refine jb_aload_n (pc' := 415) dL_law_414 rfl rfl ?_
  refine jb_iload_n (pc' := 416) dL_law_415 rfl rfl ?_
  refine jb_iconst (pc' := 417) 2 dL_law_416 (by decide) rfl ?_
  refine jb_iadd (pc' := 418) dL_law_417 rfl ?_
  refine jb_sload (pc' := 419) (i9 := i + 2) dL_law_418 (jl_ix 2 (by omega)) (by omega) rfl ?_
  refine jb_callV (pc' := 422) (ci := 12) (q := 105) (As := [.int (sc.2 (i + 1)), .int (sc.2 (i + 2))]) (a2 := a) (b2 := b) wv_L_41 rfl dL_law_419 hC2 l1 rfl ⟨by omega, by omega, by omega⟩ (Nat.le_of_ble_eq_true rfl) rfl (fun r h2 hq2 => ?_)
  obtain ⟨rfl, hJ⟩ := hK2 r h2 hq2
  show jb_J sc RL cL_law 4 (Option.some .boolean) false 62 a b 422 [some (.ref 1000000), some (.ref 0), some (.ref 105), some (.int (nI i))] [.int v, .int v] h2 Q
  refine jb_icmp_eq (tgt := 1357) (pc' := 425) dL_law_422 (by decide) rfl (fun _ => k h2 hJ) (fun z => absurd rfl z)
set_option maxRecDepth 100000 in
set_option maxHeartbeats 4000000 in
theorem lw_c7 {sc : Nat × (Nat → Int32)} {i c a b : Nat} {h : jb_H} {Q : Option Value → jb_H → Prop} (hs : sc.1 ≤ 384) (hi : i + 6 ≤ sc.1) (hc : c < 900) (hI : jI c h) (k : ∀ h2, jI (c + 1) h2 → jb_J sc RL cL_law 4 (Option.some .boolean) false 62 a b 1357 [some (.ref 1000000), some (.ref 0), some (.ref 105), some (.int (nI i))] [] h2 Q) : jb_J sc RL cL_law 4 (Option.some .boolean) false 62 (a + 1) (b + 50) 427 [some (.ref 1000000), some (.ref 0), some (.ref 105), some (.int (nI i))] [] h Q := by
  have P : jPc _ _ _ _ _ _ _ _ _ _ := p_as (sc := sc) ((sc.2 (i + 1))) ((sc.2 (i + 2))) c h hc hI
  obtain ⟨d1, a1, b1, Q1, k1, k2, k3, hC, hK⟩ := P
  obtain ⟨f0, l0⟩ := hI.l0
  refine jb_aload_n (pc' := 428) dL_law_427 rfl rfl ?_
  refine jb_aload_n (pc' := 429) dL_law_428 rfl rfl ?_
  refine jb_iload_n (pc' := 430) dL_law_429 rfl rfl ?_
  refine jb_iconst (pc' := 431) 1 dL_law_430 (by decide) rfl ?_
  refine jb_iadd (pc' := 432) dL_law_431 rfl ?_
  refine jb_sload (pc' := 433) (i9 := i + 1) dL_law_432 (jl_ix 1 (by omega)) (by omega) rfl ?_
  refine jb_aload_n (pc' := 434) dL_law_433 rfl rfl ?_
  refine jb_iload_n (pc' := 435) dL_law_434 rfl rfl ?_
  refine jb_iconst (pc' := 436) 2 dL_law_435 (by decide) rfl ?_
  refine jb_iadd (pc' := 437) dL_law_436 rfl ?_
  refine jb_sload (pc' := 438) (i9 := i + 2) dL_law_437 (jl_ix 2 (by omega)) (by omega) rfl ?_
  refine jb_callV (pc' := 441) (ci := 11) (q := 0) (As := [.int (sc.2 (i + 1)), .int (sc.2 (i + 2))]) (a2 := a) (b2 := b) wv_L_42 rfl dL_law_438 hC l0 rfl ⟨by omega, by omega, by omega⟩ (Nat.le_of_ble_eq_true rfl) rfl (fun r h1 hq => ?_)
  obtain ⟨v, rfl, ⟨f1, l1⟩, d2, Q2, k4, hC2, hK2⟩ := hK r h1 hq
  show jb_J sc RL cL_law 4 (Option.some .boolean) false 62 a b 441 [some (.ref 1000000), some (.ref 0), some (.ref 105), some (.int (nI i))] [.int v] h1 Q
  refine jb_aload_n (pc' := 442) dL_law_441 rfl rfl ?_
  refine jb_aload_n (pc' := 443) dL_law_442 rfl rfl ?_
  refine jb_iload_n (pc' := 444) dL_law_443 rfl rfl ?_
  refine jb_iconst (pc' := 445) 1 dL_law_444 (by decide) rfl ?_
  refine jb_iadd (pc' := 446) dL_law_445 rfl ?_
  refine jb_sload (pc' := 447) (i9 := i + 1) dL_law_446 (jl_ix 1 (by omega)) (by omega) rfl ?_
  refine jb_aload_n (pc' := 448) dL_law_447 rfl rfl ?_
  refine jb_iload_n (pc' := 449) dL_law_448 rfl rfl ?_
  refine jb_iconst (pc' := 450) 2 dL_law_449 (by decide) rfl ?_
  refine jb_iadd (pc' := 451) dL_law_450 rfl ?_
  refine jb_sload (pc' := 452) (i9 := i + 2) dL_law_451 (jl_ix 2 (by omega)) (by omega) rfl ?_
  refine jb_callV (pc' := 455) (ci := 12) (q := 105) (As := [.int (sc.2 (i + 1)), .int (sc.2 (i + 2))]) (a2 := a) (b2 := b) wv_L_45 rfl dL_law_452 hC2 l1 rfl ⟨by omega, by omega, by omega⟩ (Nat.le_of_ble_eq_true rfl) rfl (fun r h2 hq2 => ?_)
  obtain ⟨rfl, hJ⟩ := hK2 r h2 hq2
  show jb_J sc RL cL_law 4 (Option.some .boolean) false 62 a b 455 [some (.ref 1000000), some (.ref 0), some (.ref 105), some (.int (nI i))] [.int v, .int v] h2 Q
  refine jb_icmp_eq (tgt := 1357) (pc' := 458) dL_law_455 (by decide) rfl (fun _ => k h2 hJ) (fun z => absurd rfl z)
set_option maxRecDepth 100000 in
set_option maxHeartbeats 4000000 in
theorem lw_c8 {sc : Nat × (Nat → Int32)} {i c a b : Nat} {h : jb_H} {Q : Option Value → jb_H → Prop} (hs : sc.1 ≤ 384) (hi : i + 6 ≤ sc.1) (hc : c < 900) (hI : jI c h) (k : ∀ h2, jI (c + 1) h2 → jb_J sc RL cL_law 4 (Option.some .boolean) false 62 a b 1357 [some (.ref 1000000), some (.ref 0), some (.ref 105), some (.int (nI i))] [] h2 Q) : jb_J sc RL cL_law 4 (Option.some .boolean) false 62 (a + 1) (b + 50) 460 [some (.ref 1000000), some (.ref 0), some (.ref 105), some (.int (nI i))] [] h Q := by
  have P : jPc _ _ _ _ _ _ _ _ _ _ := p_shout (sc := sc) ((sc.2 (i + 1))) ((sc.2 (i + 2))) c h hc hI
  obtain ⟨d1, a1, b1, Q1, k1, k2, k3, hC, hK⟩ := P
  obtain ⟨f0, l0⟩ := hI.l0
  refine jb_aload_n (pc' := 461) dL_law_460 rfl rfl ?_
  refine jb_aload_n (pc' := 462) dL_law_461 rfl rfl ?_
  refine jb_iload_n (pc' := 463) dL_law_462 rfl rfl ?_
  refine jb_iconst (pc' := 464) 1 dL_law_463 (by decide) rfl ?_
  refine jb_iadd (pc' := 465) dL_law_464 rfl ?_
  refine jb_sload (pc' := 466) (i9 := i + 1) dL_law_465 (jl_ix 1 (by omega)) (by omega) rfl ?_
  refine jb_aload_n (pc' := 467) dL_law_466 rfl rfl ?_
  refine jb_iload_n (pc' := 468) dL_law_467 rfl rfl ?_
  refine jb_iconst (pc' := 469) 2 dL_law_468 (by decide) rfl ?_
  refine jb_iadd (pc' := 470) dL_law_469 rfl ?_
  refine jb_sload (pc' := 471) (i9 := i + 2) dL_law_470 (jl_ix 2 (by omega)) (by omega) rfl ?_
  refine jb_callV (pc' := 474) (ci := 11) (q := 0) (As := [.int (sc.2 (i + 1)), .int (sc.2 (i + 2))]) (a2 := a) (b2 := b) wv_L_46 rfl dL_law_471 hC l0 rfl ⟨by omega, by omega, by omega⟩ (Nat.le_of_ble_eq_true rfl) rfl (fun r h1 hq => ?_)
  obtain ⟨v, rfl, ⟨f1, l1⟩, d2, Q2, k4, hC2, hK2⟩ := hK r h1 hq
  show jb_J sc RL cL_law 4 (Option.some .boolean) false 62 a b 474 [some (.ref 1000000), some (.ref 0), some (.ref 105), some (.int (nI i))] [.int v] h1 Q
  refine jb_aload_n (pc' := 475) dL_law_474 rfl rfl ?_
  refine jb_aload_n (pc' := 476) dL_law_475 rfl rfl ?_
  refine jb_iload_n (pc' := 477) dL_law_476 rfl rfl ?_
  refine jb_iconst (pc' := 478) 1 dL_law_477 (by decide) rfl ?_
  refine jb_iadd (pc' := 479) dL_law_478 rfl ?_
  refine jb_sload (pc' := 480) (i9 := i + 1) dL_law_479 (jl_ix 1 (by omega)) (by omega) rfl ?_
  refine jb_aload_n (pc' := 481) dL_law_480 rfl rfl ?_
  refine jb_iload_n (pc' := 482) dL_law_481 rfl rfl ?_
  refine jb_iconst (pc' := 483) 2 dL_law_482 (by decide) rfl ?_
  refine jb_iadd (pc' := 484) dL_law_483 rfl ?_
  refine jb_sload (pc' := 485) (i9 := i + 2) dL_law_484 (jl_ix 2 (by omega)) (by omega) rfl ?_
  refine jb_callV (pc' := 488) (ci := 12) (q := 105) (As := [.int (sc.2 (i + 1)), .int (sc.2 (i + 2))]) (a2 := a) (b2 := b) wv_L_49 rfl dL_law_485 hC2 l1 rfl ⟨by omega, by omega, by omega⟩ (Nat.le_of_ble_eq_true rfl) rfl (fun r h2 hq2 => ?_)
  obtain ⟨rfl, hJ⟩ := hK2 r h2 hq2
  show jb_J sc RL cL_law 4 (Option.some .boolean) false 62 a b 488 [some (.ref 1000000), some (.ref 0), some (.ref 105), some (.int (nI i))] [.int v, .int v] h2 Q
  refine jb_icmp_eq (tgt := 1357) (pc' := 491) dL_law_488 (by decide) rfl (fun _ => k h2 hJ) (fun z => absurd rfl z)
set_option maxRecDepth 100000 in
set_option maxHeartbeats 4000000 in
theorem lw_c9 {sc : Nat × (Nat → Int32)} {i c a b : Nat} {h : jb_H} {Q : Option Value → jb_H → Prop} (hs : sc.1 ≤ 384) (hi : i + 6 ≤ sc.1) (hc : c < 900) (hI : jI c h) (k : ∀ h2, jI (c + 1) h2 → jb_J sc RL cL_law 4 (Option.some .boolean) false 62 a b 1357 [some (.ref 1000000), some (.ref 0), some (.ref 105), some (.int (nI i))] [] h2 Q) : jb_J sc RL cL_law 4 (Option.some .boolean) false 62 (a + 1) (b + 50) 493 [some (.ref 1000000), some (.ref 0), some (.ref 105), some (.int (nI i))] [] h Q := by
  have P : jPc _ _ _ _ _ _ _ _ _ _ := p_ofShout (sc := sc) ((sc.2 (i + 1))) ((sc.2 (i + 2))) c h hc hI
  obtain ⟨d1, a1, b1, Q1, k1, k2, k3, hC, hK⟩ := P
  obtain ⟨f0, l0⟩ := hI.l0
  refine jb_aload_n (pc' := 494) dL_law_493 rfl rfl ?_
  refine jb_aload_n (pc' := 495) dL_law_494 rfl rfl ?_
  refine jb_iload_n (pc' := 496) dL_law_495 rfl rfl ?_
  refine jb_iconst (pc' := 497) 1 dL_law_496 (by decide) rfl ?_
  refine jb_iadd (pc' := 498) dL_law_497 rfl ?_
  refine jb_sload (pc' := 499) (i9 := i + 1) dL_law_498 (jl_ix 1 (by omega)) (by omega) rfl ?_
  refine jb_aload_n (pc' := 500) dL_law_499 rfl rfl ?_
  refine jb_iload_n (pc' := 501) dL_law_500 rfl rfl ?_
  refine jb_iconst (pc' := 502) 2 dL_law_501 (by decide) rfl ?_
  refine jb_iadd (pc' := 503) dL_law_502 rfl ?_
  refine jb_sload (pc' := 504) (i9 := i + 2) dL_law_503 (jl_ix 2 (by omega)) (by omega) rfl ?_
  refine jb_callV (pc' := 507) (ci := 11) (q := 0) (As := [.int (sc.2 (i + 1)), .int (sc.2 (i + 2))]) (a2 := a) (b2 := b) wv_L_50 rfl dL_law_504 hC l0 rfl ⟨by omega, by omega, by omega⟩ (Nat.le_of_ble_eq_true rfl) rfl (fun r h1 hq => ?_)
  obtain ⟨v, rfl, ⟨f1, l1⟩, d2, Q2, k4, hC2, hK2⟩ := hK r h1 hq
  show jb_J sc RL cL_law 4 (Option.some .boolean) false 62 a b 507 [some (.ref 1000000), some (.ref 0), some (.ref 105), some (.int (nI i))] [.int v] h1 Q
  refine jb_aload_n (pc' := 508) dL_law_507 rfl rfl ?_
  refine jb_aload_n (pc' := 509) dL_law_508 rfl rfl ?_
  refine jb_iload_n (pc' := 510) dL_law_509 rfl rfl ?_
  refine jb_iconst (pc' := 511) 1 dL_law_510 (by decide) rfl ?_
  refine jb_iadd (pc' := 512) dL_law_511 rfl ?_
  refine jb_sload (pc' := 513) (i9 := i + 1) dL_law_512 (jl_ix 1 (by omega)) (by omega) rfl ?_
  refine jb_aload_n (pc' := 514) dL_law_513 rfl rfl ?_
  refine jb_iload_n (pc' := 515) dL_law_514 rfl rfl ?_
  refine jb_iconst (pc' := 516) 2 dL_law_515 (by decide) rfl ?_
  refine jb_iadd (pc' := 517) dL_law_516 rfl ?_
  refine jb_sload (pc' := 518) (i9 := i + 2) dL_law_517 (jl_ix 2 (by omega)) (by omega) rfl ?_
  refine jb_callV (pc' := 521) (ci := 12) (q := 105) (As := [.int (sc.2 (i + 1)), .int (sc.2 (i + 2))]) (a2 := a) (b2 := b) wv_L_53 rfl dL_law_518 hC2 l1 rfl ⟨by omega, by omega, by omega⟩ (Nat.le_of_ble_eq_true rfl) rfl (fun r h2 hq2 => ?_)
  obtain ⟨rfl, hJ⟩ := hK2 r h2 hq2
  show jb_J sc RL cL_law 4 (Option.some .boolean) false 62 a b 521 [some (.ref 1000000), some (.ref 0), some (.ref 105), some (.int (nI i))] [.int v, .int v] h2 Q
  refine jb_icmp_eq (tgt := 1357) (pc' := 524) dL_law_521 (by decide) rfl (fun _ => k h2 hJ) (fun z => absurd rfl z)
set_option maxRecDepth 100000 in
set_option maxHeartbeats 4000000 in
theorem lw_c10 {sc : Nat × (Nat → Int32)} {i c a b : Nat} {h : jb_H} {Q : Option Value → jb_H → Prop} (hs : sc.1 ≤ 384) (hi : i + 6 ≤ sc.1) (hc : c < 900) (hI : jI c h) (k : ∀ h2, jI (c + 1) h2 → jb_J sc RL cL_law 4 (Option.some .boolean) false 62 a b 1357 [some (.ref 1000000), some (.ref 0), some (.ref 105), some (.int (nI i))] [] h2 Q) : jb_J sc RL cL_law 4 (Option.some .boolean) false 62 (a + 1) (b + 50) 526 [some (.ref 1000000), some (.ref 0), some (.ref 105), some (.int (nI i))] [] h Q := by
  have P : jPc _ _ _ _ _ _ _ _ _ _ := p_lead (sc := sc) ((sc.2 (i + 1))) ((sc.2 (i + 2))) c h hc hI
  obtain ⟨d1, a1, b1, Q1, k1, k2, k3, hC, hK⟩ := P
  obtain ⟨f0, l0⟩ := hI.l0
  refine jb_aload_n (pc' := 527) dL_law_526 rfl rfl ?_
  refine jb_aload_n (pc' := 528) dL_law_527 rfl rfl ?_
  refine jb_iload_n (pc' := 529) dL_law_528 rfl rfl ?_
  refine jb_iconst (pc' := 530) 1 dL_law_529 (by decide) rfl ?_
  refine jb_iadd (pc' := 531) dL_law_530 rfl ?_
  refine jb_sload (pc' := 532) (i9 := i + 1) dL_law_531 (jl_ix 1 (by omega)) (by omega) rfl ?_
  refine jb_aload_n (pc' := 533) dL_law_532 rfl rfl ?_
  refine jb_iload_n (pc' := 534) dL_law_533 rfl rfl ?_
  refine jb_iconst (pc' := 535) 2 dL_law_534 (by decide) rfl ?_
  refine jb_iadd (pc' := 536) dL_law_535 rfl ?_
  refine jb_sload (pc' := 537) (i9 := i + 2) dL_law_536 (jl_ix 2 (by omega)) (by omega) rfl ?_
  refine jb_callV (pc' := 540) (ci := 11) (q := 0) (As := [.int (sc.2 (i + 1)), .int (sc.2 (i + 2))]) (a2 := a) (b2 := b) wv_L_54 rfl dL_law_537 hC l0 rfl ⟨by omega, by omega, by omega⟩ (Nat.le_of_ble_eq_true rfl) rfl (fun r h1 hq => ?_)
  obtain ⟨v, rfl, ⟨f1, l1⟩, d2, Q2, k4, hC2, hK2⟩ := hK r h1 hq
  show jb_J sc RL cL_law 4 (Option.some .boolean) false 62 a b 540 [some (.ref 1000000), some (.ref 0), some (.ref 105), some (.int (nI i))] [.int v] h1 Q
  refine jb_aload_n (pc' := 541) dL_law_540 rfl rfl ?_
  refine jb_aload_n (pc' := 542) dL_law_541 rfl rfl ?_
  refine jb_iload_n (pc' := 543) dL_law_542 rfl rfl ?_
  refine jb_iconst (pc' := 544) 1 dL_law_543 (by decide) rfl ?_
  refine jb_iadd (pc' := 545) dL_law_544 rfl ?_
  refine jb_sload (pc' := 546) (i9 := i + 1) dL_law_545 (jl_ix 1 (by omega)) (by omega) rfl ?_
  refine jb_aload_n (pc' := 547) dL_law_546 rfl rfl ?_
  refine jb_iload_n (pc' := 548) dL_law_547 rfl rfl ?_
  refine jb_iconst (pc' := 549) 2 dL_law_548 (by decide) rfl ?_
  refine jb_iadd (pc' := 550) dL_law_549 rfl ?_
  refine jb_sload (pc' := 551) (i9 := i + 2) dL_law_550 (jl_ix 2 (by omega)) (by omega) rfl ?_
  refine jb_callV (pc' := 554) (ci := 12) (q := 105) (As := [.int (sc.2 (i + 1)), .int (sc.2 (i + 2))]) (a2 := a) (b2 := b) wv_L_57 rfl dL_law_551 hC2 l1 rfl ⟨by omega, by omega, by omega⟩ (Nat.le_of_ble_eq_true rfl) rfl (fun r h2 hq2 => ?_)
  obtain ⟨rfl, hJ⟩ := hK2 r h2 hq2
  show jb_J sc RL cL_law 4 (Option.some .boolean) false 62 a b 554 [some (.ref 1000000), some (.ref 0), some (.ref 105), some (.int (nI i))] [.int v, .int v] h2 Q
  refine jb_icmp_eq (tgt := 1357) (pc' := 557) dL_law_554 (by decide) rfl (fun _ => k h2 hJ) (fun z => absurd rfl z)
set_option maxRecDepth 100000 in
set_option maxHeartbeats 4000000 in
theorem lw_c11 {sc : Nat × (Nat → Int32)} {i c a b : Nat} {h : jb_H} {Q : Option Value → jb_H → Prop} (hs : sc.1 ≤ 384) (hi : i + 6 ≤ sc.1) (hc : c < 900) (hI : jI c h) (k : ∀ h2, jI (c + 1) h2 → jb_J sc RL cL_law 4 (Option.some .boolean) false 62 a b 1357 [some (.ref 1000000), some (.ref 0), some (.ref 105), some (.int (nI i))] [] h2 Q) : jb_J sc RL cL_law 4 (Option.some .boolean) false 62 (a + 1) (b + 50) 559 [some (.ref 1000000), some (.ref 0), some (.ref 105), some (.int (nI i))] [] h Q := by
  have P : jPc _ _ _ _ _ _ _ _ _ _ := p_taught (sc := sc)  c h hc hI
  obtain ⟨d1, a1, b1, Q1, k1, k2, k3, hC, hK⟩ := P
  obtain ⟨f0, l0⟩ := hI.l0
  refine jb_aload_n (pc' := 560) dL_law_559 rfl rfl ?_
  refine jb_callV (pc' := 563) (ci := 11) (q := 0) (As := []) (a2 := a) (b2 := b) wv_L_58 rfl dL_law_560 hC l0 rfl ⟨by omega, by omega, by omega⟩ (Nat.le_of_ble_eq_true rfl) rfl (fun r h1 hq => ?_)
  obtain ⟨v, rfl, ⟨f1, l1⟩, d2, Q2, k4, hC2, hK2⟩ := hK r h1 hq
  show jb_J sc RL cL_law 4 (Option.some .boolean) false 62 a b 563 [some (.ref 1000000), some (.ref 0), some (.ref 105), some (.int (nI i))] [.int v] h1 Q
  refine jb_aload_n (pc' := 564) dL_law_563 rfl rfl ?_
  refine jb_callV (pc' := 567) (ci := 12) (q := 105) (As := []) (a2 := a) (b2 := b) wv_L_62 rfl dL_law_564 hC2 l1 rfl ⟨by omega, by omega, by omega⟩ (Nat.le_of_ble_eq_true rfl) rfl (fun r h2 hq2 => ?_)
  obtain ⟨rfl, hJ⟩ := hK2 r h2 hq2
  show jb_J sc RL cL_law 4 (Option.some .boolean) false 62 a b 567 [some (.ref 1000000), some (.ref 0), some (.ref 105), some (.int (nI i))] [.int v, .int v] h2 Q
  refine jb_icmp_eq (tgt := 1357) (pc' := 570) dL_law_567 (by decide) rfl (fun _ => k h2 hJ) (fun z => absurd rfl z)
set_option maxRecDepth 100000 in
set_option maxHeartbeats 4000000 in
theorem lw_c12 {sc : Nat × (Nat → Int32)} {i c a b : Nat} {h : jb_H} {Q : Option Value → jb_H → Prop} (hs : sc.1 ≤ 384) (hi : i + 6 ≤ sc.1) (hc : c < 900) (hI : jI c h) (k : ∀ h2, jI (c + 1) h2 → jb_J sc RL cL_law 4 (Option.some .boolean) false 62 a b 1357 [some (.ref 1000000), some (.ref 0), some (.ref 105), some (.int (nI i))] [] h2 Q) : jb_J sc RL cL_law 4 (Option.some .boolean) false 62 (a + 1) (b + 50) 572 [some (.ref 1000000), some (.ref 0), some (.ref 105), some (.int (nI i))] [] h Q := by
  have P : jPc _ _ _ _ _ _ _ _ _ _ := p_forget (sc := sc)  c h hc hI
  obtain ⟨d1, a1, b1, Q1, k1, k2, k3, hC, hK⟩ := P
  obtain ⟨f0, l0⟩ := hI.l0
  refine jb_aload_n (pc' := 573) dL_law_572 rfl rfl ?_
  refine jb_callV (pc' := 576) (ci := 11) (q := 0) (As := []) (a2 := a) (b2 := b) wv_L_63 rfl dL_law_573 hC l0 rfl ⟨by omega, by omega, by omega⟩ (Nat.le_of_ble_eq_true rfl) rfl (fun r h1 hq => ?_)
  obtain ⟨v, rfl, ⟨f1, l1⟩, d2, Q2, k4, hC2, hK2⟩ := hK r h1 hq
  show jb_J sc RL cL_law 4 (Option.some .boolean) false 62 a b 576 [some (.ref 1000000), some (.ref 0), some (.ref 105), some (.int (nI i))] [.int v] h1 Q
  refine jb_aload_n (pc' := 577) dL_law_576 rfl rfl ?_
  refine jb_callV (pc' := 580) (ci := 12) (q := 105) (As := []) (a2 := a) (b2 := b) wv_L_66 rfl dL_law_577 hC2 l1 rfl ⟨by omega, by omega, by omega⟩ (Nat.le_of_ble_eq_true rfl) rfl (fun r h2 hq2 => ?_)
  obtain ⟨rfl, hJ⟩ := hK2 r h2 hq2
  show jb_J sc RL cL_law 4 (Option.some .boolean) false 62 a b 580 [some (.ref 1000000), some (.ref 0), some (.ref 105), some (.int (nI i))] [.int v, .int v] h2 Q
  refine jb_icmp_eq (tgt := 1357) (pc' := 583) dL_law_580 (by decide) rfl (fun _ => k h2 hJ) (fun z => absurd rfl z)
set_option maxRecDepth 100000 in
set_option maxHeartbeats 4000000 in
theorem lw_c13 {sc : Nat × (Nat → Int32)} {i c a b : Nat} {h : jb_H} {Q : Option Value → jb_H → Prop} (hs : sc.1 ≤ 384) (hi : i + 6 ≤ sc.1) (hc : c < 900) (hI : jI c h) (k : ∀ h2, jI (c + 1) h2 → jb_J sc RL cL_law 4 (Option.some .boolean) false 62 a b 1357 [some (.ref 1000000), some (.ref 0), some (.ref 105), some (.int (nI i))] [] h2 Q) : jb_J sc RL cL_law 4 (Option.some .boolean) false 62 (a + 1) (b + 50) 585 [some (.ref 1000000), some (.ref 0), some (.ref 105), some (.int (nI i))] [] h Q := by
  have P : jPc _ _ _ _ _ _ _ _ _ _ := p_feed (sc := sc) (((((sc.2 (i + 1)).toInt64) <<< ((32 : Int32).toInt64 &&& 63)) ||| (((sc.2 (i + 2)).toInt64) &&& 4294967295))) ((sc.2 (i + 3))) c h hc hI
  obtain ⟨d1, a1, b1, Q1, k1, k2, k3, hC, hK⟩ := P
  obtain ⟨f0, l0⟩ := hI.l0
  refine jb_aload_n (pc' := 586) dL_law_585 rfl rfl ?_
  refine jb_aload_n (pc' := 587) dL_law_586 rfl rfl ?_
  refine jb_iload_n (pc' := 588) dL_law_587 rfl rfl ?_
  refine jb_iconst (pc' := 589) 1 dL_law_588 (by decide) rfl ?_
  refine jb_iadd (pc' := 590) dL_law_589 rfl ?_
  refine jb_sload (pc' := 591) (i9 := i + 1) dL_law_590 (jl_ix 1 (by omega)) (by omega) rfl ?_
  refine jb_i2l (pc' := 592) dL_law_591 rfl ?_
  refine jb_bipush (pc' := 594) 32 dL_law_592 (by decide) rfl ?_
  refine jb_lshl (pc' := 595) dL_law_594 rfl ?_
  refine jb_aload_n (pc' := 596) dL_law_595 rfl rfl ?_
  refine jb_iload_n (pc' := 597) dL_law_596 rfl rfl ?_
  refine jb_iconst (pc' := 598) 2 dL_law_597 (by decide) rfl ?_
  refine jb_iadd (pc' := 599) dL_law_598 rfl ?_
  refine jb_sload (pc' := 600) (i9 := i + 2) dL_law_599 (jl_ix 2 (by omega)) (by omega) rfl ?_
  refine jb_i2l (pc' := 601) dL_law_600 rfl ?_
  refine jb_ldc2 (pc' := 604) 4294967295 dL_law_601 wk_L_67 rfl ?_
  refine jb_land (pc' := 605) dL_law_604 rfl ?_
  refine jb_lor (pc' := 606) dL_law_605 rfl ?_
  refine jb_aload_n (pc' := 607) dL_law_606 rfl rfl ?_
  refine jb_iload_n (pc' := 608) dL_law_607 rfl rfl ?_
  refine jb_iconst (pc' := 609) 3 dL_law_608 (by decide) rfl ?_
  refine jb_iadd (pc' := 610) dL_law_609 rfl ?_
  refine jb_sload (pc' := 611) (i9 := i + 3) dL_law_610 (jl_ix 3 (by omega)) (by omega) rfl ?_
  refine jb_callV (pc' := 614) (ci := 11) (q := 0) (As := [.long ((((sc.2 (i + 1)).toInt64) <<< ((32 : Int32).toInt64 &&& 63)) ||| (((sc.2 (i + 2)).toInt64) &&& 4294967295)), .int (sc.2 (i + 3))]) (a2 := a) (b2 := b) wv_L_69 rfl dL_law_611 hC l0 rfl ⟨by omega, by omega, by omega⟩ (Nat.le_of_ble_eq_true rfl) rfl (fun r h1 hq => ?_)
  obtain ⟨v, rfl, ⟨f1, l1⟩, d2, Q2, k4, hC2, hK2⟩ := hK r h1 hq
  show jb_J sc RL cL_law 4 (Option.some .boolean) false 62 a b 614 [some (.ref 1000000), some (.ref 0), some (.ref 105), some (.int (nI i))] [.int v] h1 Q
  refine jb_aload_n (pc' := 615) dL_law_614 rfl rfl ?_
  refine jb_aload_n (pc' := 616) dL_law_615 rfl rfl ?_
  refine jb_iload_n (pc' := 617) dL_law_616 rfl rfl ?_
  refine jb_iconst (pc' := 618) 1 dL_law_617 (by decide) rfl ?_
  refine jb_iadd (pc' := 619) dL_law_618 rfl ?_
  refine jb_sload (pc' := 620) (i9 := i + 1) dL_law_619 (jl_ix 1 (by omega)) (by omega) rfl ?_
  refine jb_i2l (pc' := 621) dL_law_620 rfl ?_
  refine jb_bipush (pc' := 623) 32 dL_law_621 (by decide) rfl ?_
  refine jb_lshl (pc' := 624) dL_law_623 rfl ?_
  refine jb_aload_n (pc' := 625) dL_law_624 rfl rfl ?_
  refine jb_iload_n (pc' := 626) dL_law_625 rfl rfl ?_
  refine jb_iconst (pc' := 627) 2 dL_law_626 (by decide) rfl ?_
  refine jb_iadd (pc' := 628) dL_law_627 rfl ?_
  refine jb_sload (pc' := 629) (i9 := i + 2) dL_law_628 (jl_ix 2 (by omega)) (by omega) rfl ?_
  refine jb_i2l (pc' := 630) dL_law_629 rfl ?_
  refine jb_ldc2 (pc' := 633) 4294967295 dL_law_630 wk_L_67 rfl ?_
  refine jb_land (pc' := 634) dL_law_633 rfl ?_
  refine jb_lor (pc' := 635) dL_law_634 rfl ?_
  refine jb_aload_n (pc' := 636) dL_law_635 rfl rfl ?_
  refine jb_iload_n (pc' := 637) dL_law_636 rfl rfl ?_
  refine jb_iconst (pc' := 638) 3 dL_law_637 (by decide) rfl ?_
  refine jb_iadd (pc' := 639) dL_law_638 rfl ?_
  refine jb_sload (pc' := 640) (i9 := i + 3) dL_law_639 (jl_ix 3 (by omega)) (by omega) rfl ?_
  refine jb_callV (pc' := 643) (ci := 12) (q := 105) (As := [.long ((((sc.2 (i + 1)).toInt64) <<< ((32 : Int32).toInt64 &&& 63)) ||| (((sc.2 (i + 2)).toInt64) &&& 4294967295)), .int (sc.2 (i + 3))]) (a2 := a) (b2 := b) wv_L_73 rfl dL_law_640 hC2 l1 rfl ⟨by omega, by omega, by omega⟩ (Nat.le_of_ble_eq_true rfl) rfl (fun r h2 hq2 => ?_)
  obtain ⟨rfl, hJ⟩ := hK2 r h2 hq2
  show jb_J sc RL cL_law 4 (Option.some .boolean) false 62 a b 643 [some (.ref 1000000), some (.ref 0), some (.ref 105), some (.int (nI i))] [.int v, .int v] h2 Q
  refine jb_icmp_eq (tgt := 1357) (pc' := 646) dL_law_643 (by decide) rfl (fun _ => k h2 hJ) (fun z => absurd rfl z)
set_option maxRecDepth 100000 in
set_option maxHeartbeats 4000000 in
theorem lw_c14 {sc : Nat × (Nat → Int32)} {i c a b : Nat} {h : jb_H} {Q : Option Value → jb_H → Prop} (hs : sc.1 ≤ 384) (hi : i + 6 ≤ sc.1) (hc : c < 900) (hI : jI c h) (k : ∀ h2, jI (c + 1) h2 → jb_J sc RL cL_law 4 (Option.some .boolean) false 62 a b 1357 [some (.ref 1000000), some (.ref 0), some (.ref 105), some (.int (nI i))] [] h2 Q) : jb_J sc RL cL_law 4 (Option.some .boolean) false 62 (a + 1) (b + 50) 648 [some (.ref 1000000), some (.ref 0), some (.ref 105), some (.int (nI i))] [] h Q := by
  have P : jPc _ _ _ _ _ _ _ _ _ _ := p_text (sc := sc) ((sc.2 (i + 1))) c h hc hI
  obtain ⟨d1, a1, b1, Q1, k1, k2, k3, hC, hK⟩ := P
  obtain ⟨f0, l0⟩ := hI.l0
  refine jb_aload_n (pc' := 649) dL_law_648 rfl rfl ?_
  refine jb_aload_n (pc' := 650) dL_law_649 rfl rfl ?_
  refine jb_iload_n (pc' := 651) dL_law_650 rfl rfl ?_
  refine jb_iconst (pc' := 652) 1 dL_law_651 (by decide) rfl ?_
  refine jb_iadd (pc' := 653) dL_law_652 rfl ?_
  refine jb_sload (pc' := 654) (i9 := i + 1) dL_law_653 (jl_ix 1 (by omega)) (by omega) rfl ?_
  refine jb_callV (pc' := 657) (ci := 11) (q := 0) (As := [.int (sc.2 (i + 1))]) (a2 := a) (b2 := b) wv_L_74 rfl dL_law_654 hC l0 rfl ⟨by omega, by omega, by omega⟩ (Nat.le_of_ble_eq_true rfl) rfl (fun r h1 hq => ?_)
  obtain ⟨v, rfl, ⟨f1, l1⟩, d2, Q2, k4, hC2, hK2⟩ := hK r h1 hq
  show jb_J sc RL cL_law 4 (Option.some .boolean) false 62 a b 657 [some (.ref 1000000), some (.ref 0), some (.ref 105), some (.int (nI i))] [.int v] h1 Q
  refine jb_aload_n (pc' := 658) dL_law_657 rfl rfl ?_
  refine jb_aload_n (pc' := 659) dL_law_658 rfl rfl ?_
  refine jb_iload_n (pc' := 660) dL_law_659 rfl rfl ?_
  refine jb_iconst (pc' := 661) 1 dL_law_660 (by decide) rfl ?_
  refine jb_iadd (pc' := 662) dL_law_661 rfl ?_
  refine jb_sload (pc' := 663) (i9 := i + 1) dL_law_662 (jl_ix 1 (by omega)) (by omega) rfl ?_
  refine jb_callV (pc' := 666) (ci := 12) (q := 105) (As := [.int (sc.2 (i + 1))]) (a2 := a) (b2 := b) wv_L_78 rfl dL_law_663 hC2 l1 rfl ⟨by omega, by omega, by omega⟩ (Nat.le_of_ble_eq_true rfl) rfl (fun r h2 hq2 => ?_)
  obtain ⟨rfl, hJ⟩ := hK2 r h2 hq2
  show jb_J sc RL cL_law 4 (Option.some .boolean) false 62 a b 666 [some (.ref 1000000), some (.ref 0), some (.ref 105), some (.int (nI i))] [.int v, .int v] h2 Q
  refine jb_icmp_eq (tgt := 1357) (pc' := 669) dL_law_666 (by decide) rfl (fun _ => k h2 hJ) (fun z => absurd rfl z)
set_option maxRecDepth 100000 in
set_option maxHeartbeats 4000000 in
theorem lw_c15 {sc : Nat × (Nat → Int32)} {i c a b : Nat} {h : jb_H} {Q : Option Value → jb_H → Prop} (hs : sc.1 ≤ 384) (hi : i + 6 ≤ sc.1) (hc : c < 900) (hI : jI c h) (k : ∀ h2, jI (c + 1) h2 → jb_J sc RL cL_law 4 (Option.some .boolean) false 62 a b 1357 [some (.ref 1000000), some (.ref 0), some (.ref 105), some (.int (nI i))] [] h2 Q) : jb_J sc RL cL_law 4 (Option.some .boolean) false 62 (a + 1) (b + 50) 671 [some (.ref 1000000), some (.ref 0), some (.ref 105), some (.int (nI i))] [] h Q := by
  have P : jPc _ _ _ _ _ _ _ _ _ _ := p_law (sc := sc) ((sc.2 (i + 1))) ((sc.2 (i + 2))) ((sc.2 (i + 3))) ((sc.2 (i + 4))) ((sc.2 (i + 5))) c h hc hI
  obtain ⟨d1, a1, b1, Q1, k1, k2, k3, hC, hK⟩ := P
  obtain ⟨f0, l0⟩ := hI.l0
  refine jb_aload_n (pc' := 672) dL_law_671 rfl rfl ?_
  refine jb_aload_n (pc' := 673) dL_law_672 rfl rfl ?_
  refine jb_iload_n (pc' := 674) dL_law_673 rfl rfl ?_
  refine jb_iconst (pc' := 675) 1 dL_law_674 (by decide) rfl ?_
  refine jb_iadd (pc' := 676) dL_law_675 rfl ?_
  refine jb_sload (pc' := 677) (i9 := i + 1) dL_law_676 (jl_ix 1 (by omega)) (by omega) rfl ?_
  refine jb_aload_n (pc' := 678) dL_law_677 rfl rfl ?_
  refine jb_iload_n (pc' := 679) dL_law_678 rfl rfl ?_
  refine jb_iconst (pc' := 680) 2 dL_law_679 (by decide) rfl ?_
  refine jb_iadd (pc' := 681) dL_law_680 rfl ?_
  refine jb_sload (pc' := 682) (i9 := i + 2) dL_law_681 (jl_ix 2 (by omega)) (by omega) rfl ?_
  refine jb_aload_n (pc' := 683) dL_law_682 rfl rfl ?_
  refine jb_iload_n (pc' := 684) dL_law_683 rfl rfl ?_
  refine jb_iconst (pc' := 685) 3 dL_law_684 (by decide) rfl ?_
  refine jb_iadd (pc' := 686) dL_law_685 rfl ?_
  refine jb_sload (pc' := 687) (i9 := i + 3) dL_law_686 (jl_ix 3 (by omega)) (by omega) rfl ?_
  refine jb_aload_n (pc' := 688) dL_law_687 rfl rfl ?_
  refine jb_iload_n (pc' := 689) dL_law_688 rfl rfl ?_
  refine jb_iconst (pc' := 690) 4 dL_law_689 (by decide) rfl ?_
  refine jb_iadd (pc' := 691) dL_law_690 rfl ?_
  refine jb_sload (pc' := 692) (i9 := i + 4) dL_law_691 (jl_ix 4 (by omega)) (by omega) rfl ?_
  refine jb_aload_n (pc' := 693) dL_law_692 rfl rfl ?_
  refine jb_iload_n (pc' := 694) dL_law_693 rfl rfl ?_
  refine jb_iconst (pc' := 695) 5 dL_law_694 (by decide) rfl ?_
  refine jb_iadd (pc' := 696) dL_law_695 rfl ?_
  refine jb_sload (pc' := 697) (i9 := i + 5) dL_law_696 (jl_ix 5 (by omega)) (by omega) rfl ?_
  refine jb_callV (pc' := 700) (ci := 11) (q := 0) (As := [.int (sc.2 (i + 1)), .int (sc.2 (i + 2)), .int (sc.2 (i + 3)), .int (sc.2 (i + 4)), .int (sc.2 (i + 5))]) (a2 := a) (b2 := b) wv_L_79 rfl dL_law_697 hC l0 rfl ⟨by omega, by omega, by omega⟩ (Nat.le_of_ble_eq_true rfl) rfl (fun r h1 hq => ?_)
  obtain ⟨v, rfl, ⟨f1, l1⟩, d2, Q2, k4, hC2, hK2⟩ := hK r h1 hq
  show jb_J sc RL cL_law 4 (Option.some .boolean) false 62 a b 700 [some (.ref 1000000), some (.ref 0), some (.ref 105), some (.int (nI i))] [.int v] h1 Q
  refine jb_aload_n (pc' := 701) dL_law_700 rfl rfl ?_
  refine jb_aload_n (pc' := 702) dL_law_701 rfl rfl ?_
  refine jb_iload_n (pc' := 703) dL_law_702 rfl rfl ?_
  refine jb_iconst (pc' := 704) 1 dL_law_703 (by decide) rfl ?_
  refine jb_iadd (pc' := 705) dL_law_704 rfl ?_
  refine jb_sload (pc' := 706) (i9 := i + 1) dL_law_705 (jl_ix 1 (by omega)) (by omega) rfl ?_
  refine jb_aload_n (pc' := 707) dL_law_706 rfl rfl ?_
  refine jb_iload_n (pc' := 708) dL_law_707 rfl rfl ?_
  refine jb_iconst (pc' := 709) 2 dL_law_708 (by decide) rfl ?_
  refine jb_iadd (pc' := 710) dL_law_709 rfl ?_
  refine jb_sload (pc' := 711) (i9 := i + 2) dL_law_710 (jl_ix 2 (by omega)) (by omega) rfl ?_
  refine jb_aload_n (pc' := 712) dL_law_711 rfl rfl ?_
  refine jb_iload_n (pc' := 713) dL_law_712 rfl rfl ?_
  refine jb_iconst (pc' := 714) 3 dL_law_713 (by decide) rfl ?_
  refine jb_iadd (pc' := 715) dL_law_714 rfl ?_
  refine jb_sload (pc' := 716) (i9 := i + 3) dL_law_715 (jl_ix 3 (by omega)) (by omega) rfl ?_
  refine jb_aload_n (pc' := 717) dL_law_716 rfl rfl ?_
  refine jb_iload_n (pc' := 718) dL_law_717 rfl rfl ?_
  refine jb_iconst (pc' := 719) 4 dL_law_718 (by decide) rfl ?_
  refine jb_iadd (pc' := 720) dL_law_719 rfl ?_
  refine jb_sload (pc' := 721) (i9 := i + 4) dL_law_720 (jl_ix 4 (by omega)) (by omega) rfl ?_
  refine jb_aload_n (pc' := 722) dL_law_721 rfl rfl ?_
  refine jb_iload_n (pc' := 723) dL_law_722 rfl rfl ?_
  refine jb_iconst (pc' := 724) 5 dL_law_723 (by decide) rfl ?_
  refine jb_iadd (pc' := 725) dL_law_724 rfl ?_
  refine jb_sload (pc' := 726) (i9 := i + 5) dL_law_725 (jl_ix 5 (by omega)) (by omega) rfl ?_
  refine jb_callV (pc' := 729) (ci := 12) (q := 105) (As := [.int (sc.2 (i + 1)), .int (sc.2 (i + 2)), .int (sc.2 (i + 3)), .int (sc.2 (i + 4)), .int (sc.2 (i + 5))]) (a2 := a) (b2 := b) wv_L_83 rfl dL_law_726 hC2 l1 rfl ⟨by omega, by omega, by omega⟩ (Nat.le_of_ble_eq_true rfl) rfl (fun r h2 hq2 => ?_)
  obtain ⟨rfl, hJ⟩ := hK2 r h2 hq2
  show jb_J sc RL cL_law 4 (Option.some .boolean) false 62 a b 729 [some (.ref 1000000), some (.ref 0), some (.ref 105), some (.int (nI i))] [.int v, .int v] h2 Q
  refine jb_icmp_eq (tgt := 1357) (pc' := 732) dL_law_729 (by decide) rfl (fun _ => k h2 hJ) (fun z => absurd rfl z)
set_option maxRecDepth 100000 in
set_option maxHeartbeats 4000000 in
theorem lw_c16 {sc : Nat × (Nat → Int32)} {i c a b : Nat} {h : jb_H} {Q : Option Value → jb_H → Prop} (hs : sc.1 ≤ 384) (hi : i + 6 ≤ sc.1) (hc : c < 900) (hI : jI c h) (k : ∀ h2, jI (c + 1) h2 → jb_J sc RL cL_law 4 (Option.some .boolean) false 62 a b 1357 [some (.ref 1000000), some (.ref 0), some (.ref 105), some (.int (nI i))] [] h2 Q) : jb_J sc RL cL_law 4 (Option.some .boolean) false 62 (a + 1) (b + 50) 734 [some (.ref 1000000), some (.ref 0), some (.ref 105), some (.int (nI i))] [] h Q := by
  have P : jPc _ _ _ _ _ _ _ _ _ _ := p_seconds (sc := sc) ((sc.2 (i + 1))) c h hc hI
  obtain ⟨d1, a1, b1, Q1, k1, k2, k3, hC, hK⟩ := P
  obtain ⟨f0, l0⟩ := hI.l0
  refine jb_aload_n (pc' := 735) dL_law_734 rfl rfl ?_
  refine jb_aload_n (pc' := 736) dL_law_735 rfl rfl ?_
  refine jb_iload_n (pc' := 737) dL_law_736 rfl rfl ?_
  refine jb_iconst (pc' := 738) 1 dL_law_737 (by decide) rfl ?_
  refine jb_iadd (pc' := 739) dL_law_738 rfl ?_
  refine jb_sload (pc' := 740) (i9 := i + 1) dL_law_739 (jl_ix 1 (by omega)) (by omega) rfl ?_
  refine jb_callV (pc' := 743) (ci := 11) (q := 0) (As := [.int (sc.2 (i + 1))]) (a2 := a) (b2 := b) wv_L_84 rfl dL_law_740 hC l0 rfl ⟨by omega, by omega, by omega⟩ (Nat.le_of_ble_eq_true rfl) rfl (fun r h1 hq => ?_)
  obtain ⟨v, rfl, ⟨f1, l1⟩, d2, Q2, k4, hC2, hK2⟩ := hK r h1 hq
  show jb_J sc RL cL_law 4 (Option.some .boolean) false 62 a b 743 [some (.ref 1000000), some (.ref 0), some (.ref 105), some (.int (nI i))] [.int v] h1 Q
  refine jb_aload_n (pc' := 744) dL_law_743 rfl rfl ?_
  refine jb_aload_n (pc' := 745) dL_law_744 rfl rfl ?_
  refine jb_iload_n (pc' := 746) dL_law_745 rfl rfl ?_
  refine jb_iconst (pc' := 747) 1 dL_law_746 (by decide) rfl ?_
  refine jb_iadd (pc' := 748) dL_law_747 rfl ?_
  refine jb_sload (pc' := 749) (i9 := i + 1) dL_law_748 (jl_ix 1 (by omega)) (by omega) rfl ?_
  refine jb_callV (pc' := 752) (ci := 12) (q := 105) (As := [.int (sc.2 (i + 1))]) (a2 := a) (b2 := b) wv_L_87 rfl dL_law_749 hC2 l1 rfl ⟨by omega, by omega, by omega⟩ (Nat.le_of_ble_eq_true rfl) rfl (fun r h2 hq2 => ?_)
  obtain ⟨rfl, hJ⟩ := hK2 r h2 hq2
  show jb_J sc RL cL_law 4 (Option.some .boolean) false 62 a b 752 [some (.ref 1000000), some (.ref 0), some (.ref 105), some (.int (nI i))] [.int v, .int v] h2 Q
  refine jb_icmp_eq (tgt := 1357) (pc' := 755) dL_law_752 (by decide) rfl (fun _ => k h2 hJ) (fun z => absurd rfl z)
set_option maxRecDepth 100000 in
set_option maxHeartbeats 4000000 in
theorem lw_c17 {sc : Nat × (Nat → Int32)} {i c a b : Nat} {h : jb_H} {Q : Option Value → jb_H → Prop} (hs : sc.1 ≤ 384) (hi : i + 6 ≤ sc.1) (hc : c < 900) (hI : jI c h) (k : ∀ h2, jI (c + 1) h2 → jb_J sc RL cL_law 4 (Option.some .boolean) false 62 a b 1357 [some (.ref 1000000), some (.ref 0), some (.ref 105), some (.int (nI i))] [] h2 Q) : jb_J sc RL cL_law 4 (Option.some .boolean) false 62 (a + 1) (b + 50) 757 [some (.ref 1000000), some (.ref 0), some (.ref 105), some (.int (nI i))] [] h Q := by
  have P : jPc _ _ _ _ _ _ _ _ _ _ := p_loose (sc := sc) ((sc.2 (i + 1))) c h hc hI
  obtain ⟨d1, a1, b1, Q1, k1, k2, k3, hC, hK⟩ := P
  obtain ⟨f0, l0⟩ := hI.l0
  refine jb_aload_n (pc' := 758) dL_law_757 rfl rfl ?_
  refine jb_aload_n (pc' := 759) dL_law_758 rfl rfl ?_
  refine jb_iload_n (pc' := 760) dL_law_759 rfl rfl ?_
  refine jb_iconst (pc' := 761) 1 dL_law_760 (by decide) rfl ?_
  refine jb_iadd (pc' := 762) dL_law_761 rfl ?_
  refine jb_sload (pc' := 763) (i9 := i + 1) dL_law_762 (jl_ix 1 (by omega)) (by omega) rfl ?_
  refine jb_callV (pc' := 766) (ci := 11) (q := 0) (As := [.int (sc.2 (i + 1))]) (a2 := a) (b2 := b) wv_L_88 rfl dL_law_763 hC l0 rfl ⟨by omega, by omega, by omega⟩ (Nat.le_of_ble_eq_true rfl) rfl (fun r h1 hq => ?_)
  obtain ⟨v, rfl, ⟨f1, l1⟩, d2, Q2, k4, hC2, hK2⟩ := hK r h1 hq
  show jb_J sc RL cL_law 4 (Option.some .boolean) false 62 a b 766 [some (.ref 1000000), some (.ref 0), some (.ref 105), some (.int (nI i))] [.int v] h1 Q
  refine jb_aload_n (pc' := 767) dL_law_766 rfl rfl ?_
  refine jb_aload_n (pc' := 768) dL_law_767 rfl rfl ?_
  refine jb_iload_n (pc' := 769) dL_law_768 rfl rfl ?_
  refine jb_iconst (pc' := 770) 1 dL_law_769 (by decide) rfl ?_
  refine jb_iadd (pc' := 771) dL_law_770 rfl ?_
  refine jb_sload (pc' := 772) (i9 := i + 1) dL_law_771 (jl_ix 1 (by omega)) (by omega) rfl ?_
  refine jb_callV (pc' := 775) (ci := 12) (q := 105) (As := [.int (sc.2 (i + 1))]) (a2 := a) (b2 := b) wv_L_91 rfl dL_law_772 hC2 l1 rfl ⟨by omega, by omega, by omega⟩ (Nat.le_of_ble_eq_true rfl) rfl (fun r h2 hq2 => ?_)
  obtain ⟨rfl, hJ⟩ := hK2 r h2 hq2
  show jb_J sc RL cL_law 4 (Option.some .boolean) false 62 a b 775 [some (.ref 1000000), some (.ref 0), some (.ref 105), some (.int (nI i))] [.int v, .int v] h2 Q
  refine jb_icmp_eq (tgt := 1357) (pc' := 778) dL_law_775 (by decide) rfl (fun _ => k h2 hJ) (fun z => absurd rfl z)
set_option maxRecDepth 100000 in
set_option maxHeartbeats 4000000 in
theorem lw_c18 {sc : Nat × (Nat → Int32)} {i c a b : Nat} {h : jb_H} {Q : Option Value → jb_H → Prop} (hs : sc.1 ≤ 384) (hi : i + 6 ≤ sc.1) (hc : c < 900) (hI : jI c h) (k : ∀ h2, jI (c + 1) h2 → jb_J sc RL cL_law 4 (Option.some .boolean) false 62 a b 1357 [some (.ref 1000000), some (.ref 0), some (.ref 105), some (.int (nI i))] [] h2 Q) : jb_J sc RL cL_law 4 (Option.some .boolean) false 62 (a + 1) (b + 50) 780 [some (.ref 1000000), some (.ref 0), some (.ref 105), some (.int (nI i))] [] h Q := by
  have P : jPc _ _ _ _ _ _ _ _ _ _ := p_then (sc := sc) ((sc.2 (i + 1))) ((sc.2 (i + 2))) c h hc hI
  obtain ⟨d1, a1, b1, Q1, k1, k2, k3, hC, hK⟩ := P
  obtain ⟨f0, l0⟩ := hI.l0
  refine jb_aload_n (pc' := 781) dL_law_780 rfl rfl ?_
  refine jb_aload_n (pc' := 782) dL_law_781 rfl rfl ?_
  refine jb_iload_n (pc' := 783) dL_law_782 rfl rfl ?_
  refine jb_iconst (pc' := 784) 1 dL_law_783 (by decide) rfl ?_
  refine jb_iadd (pc' := 785) dL_law_784 rfl ?_
  refine jb_sload (pc' := 786) (i9 := i + 1) dL_law_785 (jl_ix 1 (by omega)) (by omega) rfl ?_
  refine jb_aload_n (pc' := 787) dL_law_786 rfl rfl ?_
  refine jb_iload_n (pc' := 788) dL_law_787 rfl rfl ?_
  refine jb_iconst (pc' := 789) 2 dL_law_788 (by decide) rfl ?_
  refine jb_iadd (pc' := 790) dL_law_789 rfl ?_
  refine jb_sload (pc' := 791) (i9 := i + 2) dL_law_790 (jl_ix 2 (by omega)) (by omega) rfl ?_
  refine jb_callV (pc' := 794) (ci := 11) (q := 0) (As := [.int (sc.2 (i + 1)), .int (sc.2 (i + 2))]) (a2 := a) (b2 := b) wv_L_92 rfl dL_law_791 hC l0 rfl ⟨by omega, by omega, by omega⟩ (Nat.le_of_ble_eq_true rfl) rfl (fun r h1 hq => ?_)
  obtain ⟨v, rfl, ⟨f1, l1⟩, d2, Q2, k4, hC2, hK2⟩ := hK r h1 hq
  show jb_J sc RL cL_law 4 (Option.some .boolean) false 62 a b 794 [some (.ref 1000000), some (.ref 0), some (.ref 105), some (.int (nI i))] [.int v] h1 Q
  refine jb_aload_n (pc' := 795) dL_law_794 rfl rfl ?_
  refine jb_aload_n (pc' := 796) dL_law_795 rfl rfl ?_
  refine jb_iload_n (pc' := 797) dL_law_796 rfl rfl ?_
  refine jb_iconst (pc' := 798) 1 dL_law_797 (by decide) rfl ?_
  refine jb_iadd (pc' := 799) dL_law_798 rfl ?_
  refine jb_sload (pc' := 800) (i9 := i + 1) dL_law_799 (jl_ix 1 (by omega)) (by omega) rfl ?_
  refine jb_aload_n (pc' := 801) dL_law_800 rfl rfl ?_
  refine jb_iload_n (pc' := 802) dL_law_801 rfl rfl ?_
  refine jb_iconst (pc' := 803) 2 dL_law_802 (by decide) rfl ?_
  refine jb_iadd (pc' := 804) dL_law_803 rfl ?_
  refine jb_sload (pc' := 805) (i9 := i + 2) dL_law_804 (jl_ix 2 (by omega)) (by omega) rfl ?_
  refine jb_callV (pc' := 808) (ci := 12) (q := 105) (As := [.int (sc.2 (i + 1)), .int (sc.2 (i + 2))]) (a2 := a) (b2 := b) wv_L_95 rfl dL_law_805 hC2 l1 rfl ⟨by omega, by omega, by omega⟩ (Nat.le_of_ble_eq_true rfl) rfl (fun r h2 hq2 => ?_)
  obtain ⟨rfl, hJ⟩ := hK2 r h2 hq2
  show jb_J sc RL cL_law 4 (Option.some .boolean) false 62 a b 808 [some (.ref 1000000), some (.ref 0), some (.ref 105), some (.int (nI i))] [.int v, .int v] h2 Q
  refine jb_icmp_eq (tgt := 1357) (pc' := 811) dL_law_808 (by decide) rfl (fun _ => k h2 hJ) (fun z => absurd rfl z)
set_option maxRecDepth 100000 in
set_option maxHeartbeats 4000000 in
theorem lw_c19 {sc : Nat × (Nat → Int32)} {i c a b : Nat} {h : jb_H} {Q : Option Value → jb_H → Prop} (hs : sc.1 ≤ 384) (hi : i + 6 ≤ sc.1) (hc : c < 900) (hI : jI c h) (k : ∀ h2, jI (c + 1) h2 → jb_J sc RL cL_law 4 (Option.some .boolean) false 62 a b 1357 [some (.ref 1000000), some (.ref 0), some (.ref 105), some (.int (nI i))] [] h2 Q) : jb_J sc RL cL_law 4 (Option.some .boolean) false 62 (a + 1) (b + 50) 813 [some (.ref 1000000), some (.ref 0), some (.ref 105), some (.int (nI i))] [] h Q := by
  have P : jPc _ _ _ _ _ _ _ _ _ _ := p_thenShout (sc := sc) ((sc.2 (i + 1))) ((sc.2 (i + 2))) ((sc.2 (i + 3))) c h hc hI
  obtain ⟨d1, a1, b1, Q1, k1, k2, k3, hC, hK⟩ := P
  obtain ⟨f0, l0⟩ := hI.l0
  refine jb_aload_n (pc' := 814) dL_law_813 rfl rfl ?_
  refine jb_aload_n (pc' := 815) dL_law_814 rfl rfl ?_
  refine jb_iload_n (pc' := 816) dL_law_815 rfl rfl ?_
  refine jb_iconst (pc' := 817) 1 dL_law_816 (by decide) rfl ?_
  refine jb_iadd (pc' := 818) dL_law_817 rfl ?_
  refine jb_sload (pc' := 819) (i9 := i + 1) dL_law_818 (jl_ix 1 (by omega)) (by omega) rfl ?_
  refine jb_aload_n (pc' := 820) dL_law_819 rfl rfl ?_
  refine jb_iload_n (pc' := 821) dL_law_820 rfl rfl ?_
  refine jb_iconst (pc' := 822) 2 dL_law_821 (by decide) rfl ?_
  refine jb_iadd (pc' := 823) dL_law_822 rfl ?_
  refine jb_sload (pc' := 824) (i9 := i + 2) dL_law_823 (jl_ix 2 (by omega)) (by omega) rfl ?_
  refine jb_aload_n (pc' := 825) dL_law_824 rfl rfl ?_
  refine jb_iload_n (pc' := 826) dL_law_825 rfl rfl ?_
  refine jb_iconst (pc' := 827) 3 dL_law_826 (by decide) rfl ?_
  refine jb_iadd (pc' := 828) dL_law_827 rfl ?_
  refine jb_sload (pc' := 829) (i9 := i + 3) dL_law_828 (jl_ix 3 (by omega)) (by omega) rfl ?_
  refine jb_callV (pc' := 832) (ci := 11) (q := 0) (As := [.int (sc.2 (i + 1)), .int (sc.2 (i + 2)), .int (sc.2 (i + 3))]) (a2 := a) (b2 := b) wv_L_96 rfl dL_law_829 hC l0 rfl ⟨by omega, by omega, by omega⟩ (Nat.le_of_ble_eq_true rfl) rfl (fun r h1 hq => ?_)
  obtain ⟨v, rfl, ⟨f1, l1⟩, d2, Q2, k4, hC2, hK2⟩ := hK r h1 hq
  show jb_J sc RL cL_law 4 (Option.some .boolean) false 62 a b 832 [some (.ref 1000000), some (.ref 0), some (.ref 105), some (.int (nI i))] [.int v] h1 Q
  refine jb_aload_n (pc' := 833) dL_law_832 rfl rfl ?_
  refine jb_aload_n (pc' := 834) dL_law_833 rfl rfl ?_
  refine jb_iload_n (pc' := 835) dL_law_834 rfl rfl ?_
  refine jb_iconst (pc' := 836) 1 dL_law_835 (by decide) rfl ?_
  refine jb_iadd (pc' := 837) dL_law_836 rfl ?_
  refine jb_sload (pc' := 838) (i9 := i + 1) dL_law_837 (jl_ix 1 (by omega)) (by omega) rfl ?_
  refine jb_aload_n (pc' := 839) dL_law_838 rfl rfl ?_
  refine jb_iload_n (pc' := 840) dL_law_839 rfl rfl ?_
  refine jb_iconst (pc' := 841) 2 dL_law_840 (by decide) rfl ?_
  refine jb_iadd (pc' := 842) dL_law_841 rfl ?_
  refine jb_sload (pc' := 843) (i9 := i + 2) dL_law_842 (jl_ix 2 (by omega)) (by omega) rfl ?_
  refine jb_aload_n (pc' := 844) dL_law_843 rfl rfl ?_
  refine jb_iload_n (pc' := 845) dL_law_844 rfl rfl ?_
  refine jb_iconst (pc' := 846) 3 dL_law_845 (by decide) rfl ?_
  refine jb_iadd (pc' := 847) dL_law_846 rfl ?_
  refine jb_sload (pc' := 848) (i9 := i + 3) dL_law_847 (jl_ix 3 (by omega)) (by omega) rfl ?_
  refine jb_callV (pc' := 851) (ci := 12) (q := 105) (As := [.int (sc.2 (i + 1)), .int (sc.2 (i + 2)), .int (sc.2 (i + 3))]) (a2 := a) (b2 := b) wv_L_100 rfl dL_law_848 hC2 l1 rfl ⟨by omega, by omega, by omega⟩ (Nat.le_of_ble_eq_true rfl) rfl (fun r h2 hq2 => ?_)
  obtain ⟨rfl, hJ⟩ := hK2 r h2 hq2
  show jb_J sc RL cL_law 4 (Option.some .boolean) false 62 a b 851 [some (.ref 1000000), some (.ref 0), some (.ref 105), some (.int (nI i))] [.int v, .int v] h2 Q
  refine jb_icmp_eq (tgt := 1357) (pc' := 854) dL_law_851 (by decide) rfl (fun _ => k h2 hJ) (fun z => absurd rfl z)
set_option maxRecDepth 100000 in
set_option maxHeartbeats 4000000 in
theorem lw_c20 {sc : Nat × (Nat → Int32)} {i c a b : Nat} {h : jb_H} {Q : Option Value → jb_H → Prop} (hs : sc.1 ≤ 384) (hi : i + 6 ≤ sc.1) (hc : c < 900) (hI : jI c h) (k : ∀ h2, jI (c + 1) h2 → jb_J sc RL cL_law 4 (Option.some .boolean) false 62 a b 1357 [some (.ref 1000000), some (.ref 0), some (.ref 105), some (.int (nI i))] [] h2 Q) : jb_J sc RL cL_law 4 (Option.some .boolean) false 62 (a + 1) (b + 50) 856 [some (.ref 1000000), some (.ref 0), some (.ref 105), some (.int (nI i))] [] h Q := by
  have P : jPc _ _ _ _ _ _ _ _ _ _ := p_lesson (sc := sc) ((sc.2 (i + 1))) c h hc hI
  obtain ⟨d1, a1, b1, Q1, k1, k2, k3, hC, hK⟩ := P
  obtain ⟨f0, l0⟩ := hI.l0
  refine jb_aload_n (pc' := 857) dL_law_856 rfl rfl ?_
  refine jb_aload_n (pc' := 858) dL_law_857 rfl rfl ?_
  refine jb_iload_n (pc' := 859) dL_law_858 rfl rfl ?_
  refine jb_iconst (pc' := 860) 1 dL_law_859 (by decide) rfl ?_
  refine jb_iadd (pc' := 861) dL_law_860 rfl ?_
  refine jb_sload (pc' := 862) (i9 := i + 1) dL_law_861 (jl_ix 1 (by omega)) (by omega) rfl ?_
  refine jb_callV (pc' := 865) (ci := 11) (q := 0) (As := [.int (sc.2 (i + 1))]) (a2 := a) (b2 := b) wv_L_101 rfl dL_law_862 hC l0 rfl ⟨by omega, by omega, by omega⟩ (Nat.le_of_ble_eq_true rfl) rfl (fun r h1 hq => ?_)
  obtain ⟨v, rfl, ⟨f1, l1⟩, d2, Q2, k4, hC2, hK2⟩ := hK r h1 hq
  show jb_J sc RL cL_law 4 (Option.some .boolean) false 62 a b 865 [some (.ref 1000000), some (.ref 0), some (.ref 105), some (.int (nI i))] [.int v] h1 Q
  refine jb_aload_n (pc' := 866) dL_law_865 rfl rfl ?_
  refine jb_aload_n (pc' := 867) dL_law_866 rfl rfl ?_
  refine jb_iload_n (pc' := 868) dL_law_867 rfl rfl ?_
  refine jb_iconst (pc' := 869) 1 dL_law_868 (by decide) rfl ?_
  refine jb_iadd (pc' := 870) dL_law_869 rfl ?_
  refine jb_sload (pc' := 871) (i9 := i + 1) dL_law_870 (jl_ix 1 (by omega)) (by omega) rfl ?_
  refine jb_callV (pc' := 874) (ci := 12) (q := 105) (As := [.int (sc.2 (i + 1))]) (a2 := a) (b2 := b) wv_L_104 rfl dL_law_871 hC2 l1 rfl ⟨by omega, by omega, by omega⟩ (Nat.le_of_ble_eq_true rfl) rfl (fun r h2 hq2 => ?_)
  obtain ⟨rfl, hJ⟩ := hK2 r h2 hq2
  show jb_J sc RL cL_law 4 (Option.some .boolean) false 62 a b 874 [some (.ref 1000000), some (.ref 0), some (.ref 105), some (.int (nI i))] [.int v, .int v] h2 Q
  refine jb_icmp_eq (tgt := 1357) (pc' := 877) dL_law_874 (by decide) rfl (fun _ => k h2 hJ) (fun z => absurd rfl z)
set_option maxRecDepth 100000 in
set_option maxHeartbeats 4000000 in
theorem lw_c21 {sc : Nat × (Nat → Int32)} {i c a b : Nat} {h : jb_H} {Q : Option Value → jb_H → Prop} (hs : sc.1 ≤ 384) (hi : i + 6 ≤ sc.1) (hc : c < 900) (hI : jI c h) (k : ∀ h2, jI (c + 1) h2 → jb_J sc RL cL_law 4 (Option.some .boolean) false 62 a b 1357 [some (.ref 1000000), some (.ref 0), some (.ref 105), some (.int (nI i))] [] h2 Q) : jb_J sc RL cL_law 4 (Option.some .boolean) false 62 (a + 1) (b + 50) 879 [some (.ref 1000000), some (.ref 0), some (.ref 105), some (.int (nI i))] [] h Q := by
  have P : jPc _ _ _ _ _ _ _ _ _ _ := p_poem (sc := sc) ((sc.2 (i + 1))) ((sc.2 (i + 2))) c h hc hI
  obtain ⟨d1, a1, b1, Q1, k1, k2, k3, hC, hK⟩ := P
  obtain ⟨f0, l0⟩ := hI.l0
  refine jb_aload_n (pc' := 880) dL_law_879 rfl rfl ?_
  refine jb_aload_n (pc' := 881) dL_law_880 rfl rfl ?_
  refine jb_iload_n (pc' := 882) dL_law_881 rfl rfl ?_
  refine jb_iconst (pc' := 883) 1 dL_law_882 (by decide) rfl ?_
  refine jb_iadd (pc' := 884) dL_law_883 rfl ?_
  refine jb_sload (pc' := 885) (i9 := i + 1) dL_law_884 (jl_ix 1 (by omega)) (by omega) rfl ?_
  refine jb_aload_n (pc' := 886) dL_law_885 rfl rfl ?_
  refine jb_iload_n (pc' := 887) dL_law_886 rfl rfl ?_
  refine jb_iconst (pc' := 888) 2 dL_law_887 (by decide) rfl ?_
  refine jb_iadd (pc' := 889) dL_law_888 rfl ?_
  refine jb_sload (pc' := 890) (i9 := i + 2) dL_law_889 (jl_ix 2 (by omega)) (by omega) rfl ?_
  refine jb_callV (pc' := 893) (ci := 11) (q := 0) (As := [.int (sc.2 (i + 1)), .int (sc.2 (i + 2))]) (a2 := a) (b2 := b) wv_L_105 rfl dL_law_890 hC l0 rfl ⟨by omega, by omega, by omega⟩ (Nat.le_of_ble_eq_true rfl) rfl (fun r h1 hq => ?_)
  obtain ⟨v, rfl, ⟨f1, l1⟩, d2, Q2, k4, hC2, hK2⟩ := hK r h1 hq
  show jb_J sc RL cL_law 4 (Option.some .boolean) false 62 a b 893 [some (.ref 1000000), some (.ref 0), some (.ref 105), some (.int (nI i))] [.int v] h1 Q
  refine jb_aload_n (pc' := 894) dL_law_893 rfl rfl ?_
  refine jb_aload_n (pc' := 895) dL_law_894 rfl rfl ?_
  refine jb_iload_n (pc' := 896) dL_law_895 rfl rfl ?_
  refine jb_iconst (pc' := 897) 1 dL_law_896 (by decide) rfl ?_
  refine jb_iadd (pc' := 898) dL_law_897 rfl ?_
  refine jb_sload (pc' := 899) (i9 := i + 1) dL_law_898 (jl_ix 1 (by omega)) (by omega) rfl ?_
  refine jb_aload_n (pc' := 900) dL_law_899 rfl rfl ?_
  refine jb_iload_n (pc' := 901) dL_law_900 rfl rfl ?_
  refine jb_iconst (pc' := 902) 2 dL_law_901 (by decide) rfl ?_
  refine jb_iadd (pc' := 903) dL_law_902 rfl ?_
  refine jb_sload (pc' := 904) (i9 := i + 2) dL_law_903 (jl_ix 2 (by omega)) (by omega) rfl ?_
  refine jb_callV (pc' := 907) (ci := 12) (q := 105) (As := [.int (sc.2 (i + 1)), .int (sc.2 (i + 2))]) (a2 := a) (b2 := b) wv_L_108 rfl dL_law_904 hC2 l1 rfl ⟨by omega, by omega, by omega⟩ (Nat.le_of_ble_eq_true rfl) rfl (fun r h2 hq2 => ?_)
  obtain ⟨rfl, hJ⟩ := hK2 r h2 hq2
  show jb_J sc RL cL_law 4 (Option.some .boolean) false 62 a b 907 [some (.ref 1000000), some (.ref 0), some (.ref 105), some (.int (nI i))] [.int v, .int v] h2 Q
  refine jb_icmp_eq (tgt := 1357) (pc' := 910) dL_law_907 (by decide) rfl (fun _ => k h2 hJ) (fun z => absurd rfl z)
set_option maxRecDepth 100000 in
set_option maxHeartbeats 4000000 in
theorem lw_c22 {sc : Nat × (Nat → Int32)} {i c a b : Nat} {h : jb_H} {Q : Option Value → jb_H → Prop} (hs : sc.1 ≤ 384) (hi : i + 6 ≤ sc.1) (hc : c < 900) (hI : jI c h) (k : ∀ h2, jI (c + 1) h2 → jb_J sc RL cL_law 4 (Option.some .boolean) false 62 a b 1357 [some (.ref 1000000), some (.ref 0), some (.ref 105), some (.int (nI i))] [] h2 Q) : jb_J sc RL cL_law 4 (Option.some .boolean) false 62 (a + 1) (b + 50) 912 [some (.ref 1000000), some (.ref 0), some (.ref 105), some (.int (nI i))] [] h Q := by
  have P : jPc _ _ _ _ _ _ _ _ _ _ := p_heard (sc := sc) ((sc.2 (i + 1))) ((sc.2 (i + 2))) c h hc hI
  obtain ⟨d1, a1, b1, Q1, k1, k2, k3, hC, hK⟩ := P
  obtain ⟨f0, l0⟩ := hI.l0
  refine jb_aload_n (pc' := 913) dL_law_912 rfl rfl ?_
  refine jb_aload_n (pc' := 914) dL_law_913 rfl rfl ?_
  refine jb_iload_n (pc' := 915) dL_law_914 rfl rfl ?_
  refine jb_iconst (pc' := 916) 1 dL_law_915 (by decide) rfl ?_
  refine jb_iadd (pc' := 917) dL_law_916 rfl ?_
  refine jb_sload (pc' := 918) (i9 := i + 1) dL_law_917 (jl_ix 1 (by omega)) (by omega) rfl ?_
  refine jb_aload_n (pc' := 919) dL_law_918 rfl rfl ?_
  refine jb_iload_n (pc' := 920) dL_law_919 rfl rfl ?_
  refine jb_iconst (pc' := 921) 2 dL_law_920 (by decide) rfl ?_
  refine jb_iadd (pc' := 922) dL_law_921 rfl ?_
  refine jb_sload (pc' := 923) (i9 := i + 2) dL_law_922 (jl_ix 2 (by omega)) (by omega) rfl ?_
  refine jb_callV (pc' := 926) (ci := 11) (q := 0) (As := [.int (sc.2 (i + 1)), .int (sc.2 (i + 2))]) (a2 := a) (b2 := b) wv_L_109 rfl dL_law_923 hC l0 rfl ⟨by omega, by omega, by omega⟩ (Nat.le_of_ble_eq_true rfl) rfl (fun r h1 hq => ?_)
  obtain ⟨v, rfl, ⟨f1, l1⟩, d2, Q2, k4, hC2, hK2⟩ := hK r h1 hq
  show jb_J sc RL cL_law 4 (Option.some .boolean) false 62 a b 926 [some (.ref 1000000), some (.ref 0), some (.ref 105), some (.int (nI i))] [.int v] h1 Q
  refine jb_aload_n (pc' := 927) dL_law_926 rfl rfl ?_
  refine jb_aload_n (pc' := 928) dL_law_927 rfl rfl ?_
  refine jb_iload_n (pc' := 929) dL_law_928 rfl rfl ?_
  refine jb_iconst (pc' := 930) 1 dL_law_929 (by decide) rfl ?_
  refine jb_iadd (pc' := 931) dL_law_930 rfl ?_
  refine jb_sload (pc' := 932) (i9 := i + 1) dL_law_931 (jl_ix 1 (by omega)) (by omega) rfl ?_
  refine jb_aload_n (pc' := 933) dL_law_932 rfl rfl ?_
  refine jb_iload_n (pc' := 934) dL_law_933 rfl rfl ?_
  refine jb_iconst (pc' := 935) 2 dL_law_934 (by decide) rfl ?_
  refine jb_iadd (pc' := 936) dL_law_935 rfl ?_
  refine jb_sload (pc' := 937) (i9 := i + 2) dL_law_936 (jl_ix 2 (by omega)) (by omega) rfl ?_
  refine jb_callV (pc' := 940) (ci := 12) (q := 105) (As := [.int (sc.2 (i + 1)), .int (sc.2 (i + 2))]) (a2 := a) (b2 := b) wv_L_112 rfl dL_law_937 hC2 l1 rfl ⟨by omega, by omega, by omega⟩ (Nat.le_of_ble_eq_true rfl) rfl (fun r h2 hq2 => ?_)
  obtain ⟨rfl, hJ⟩ := hK2 r h2 hq2
  show jb_J sc RL cL_law 4 (Option.some .boolean) false 62 a b 940 [some (.ref 1000000), some (.ref 0), some (.ref 105), some (.int (nI i))] [.int v, .int v] h2 Q
  refine jb_icmp_eq (tgt := 1357) (pc' := 943) dL_law_940 (by decide) rfl (fun _ => k h2 hJ) (fun z => absurd rfl z)
set_option maxRecDepth 100000 in
set_option maxHeartbeats 4000000 in
theorem lw_c23 {sc : Nat × (Nat → Int32)} {i c a b : Nat} {h : jb_H} {Q : Option Value → jb_H → Prop} (hs : sc.1 ≤ 384) (hi : i + 6 ≤ sc.1) (hc : c < 900) (hI : jI c h) (k : ∀ h2, jI (c + 1) h2 → jb_J sc RL cL_law 4 (Option.some .boolean) false 62 a b 1357 [some (.ref 1000000), some (.ref 0), some (.ref 105), some (.int (nI i))] [] h2 Q) : jb_J sc RL cL_law 4 (Option.some .boolean) false 62 (a + 1) (b + 50) 945 [some (.ref 1000000), some (.ref 0), some (.ref 105), some (.int (nI i))] [] h Q := by
  have P : jPc _ _ _ _ _ _ _ _ _ _ := p_often (sc := sc) ((sc.2 (i + 1))) ((sc.2 (i + 2))) ((sc.2 (i + 3))) c h hc hI
  obtain ⟨d1, a1, b1, Q1, k1, k2, k3, hC, hK⟩ := P
  obtain ⟨f0, l0⟩ := hI.l0
  refine jb_aload_n (pc' := 946) dL_law_945 rfl rfl ?_
  refine jb_aload_n (pc' := 947) dL_law_946 rfl rfl ?_
  refine jb_iload_n (pc' := 948) dL_law_947 rfl rfl ?_
  refine jb_iconst (pc' := 949) 1 dL_law_948 (by decide) rfl ?_
  refine jb_iadd (pc' := 950) dL_law_949 rfl ?_
  refine jb_sload (pc' := 951) (i9 := i + 1) dL_law_950 (jl_ix 1 (by omega)) (by omega) rfl ?_
  refine jb_aload_n (pc' := 952) dL_law_951 rfl rfl ?_
  refine jb_iload_n (pc' := 953) dL_law_952 rfl rfl ?_
  refine jb_iconst (pc' := 954) 2 dL_law_953 (by decide) rfl ?_
  refine jb_iadd (pc' := 955) dL_law_954 rfl ?_
  refine jb_sload (pc' := 956) (i9 := i + 2) dL_law_955 (jl_ix 2 (by omega)) (by omega) rfl ?_
  refine jb_aload_n (pc' := 957) dL_law_956 rfl rfl ?_
  refine jb_iload_n (pc' := 958) dL_law_957 rfl rfl ?_
  refine jb_iconst (pc' := 959) 3 dL_law_958 (by decide) rfl ?_
  refine jb_iadd (pc' := 960) dL_law_959 rfl ?_
  refine jb_sload (pc' := 961) (i9 := i + 3) dL_law_960 (jl_ix 3 (by omega)) (by omega) rfl ?_
  refine jb_callV (pc' := 964) (ci := 11) (q := 0) (As := [.int (sc.2 (i + 1)), .int (sc.2 (i + 2)), .int (sc.2 (i + 3))]) (a2 := a) (b2 := b) wv_L_113 rfl dL_law_961 hC l0 rfl ⟨by omega, by omega, by omega⟩ (Nat.le_of_ble_eq_true rfl) rfl (fun r h1 hq => ?_)
  obtain ⟨v, rfl, ⟨f1, l1⟩, d2, Q2, k4, hC2, hK2⟩ := hK r h1 hq
  show jb_J sc RL cL_law 4 (Option.some .boolean) false 62 a b 964 [some (.ref 1000000), some (.ref 0), some (.ref 105), some (.int (nI i))] [.int v] h1 Q
  refine jb_aload_n (pc' := 965) dL_law_964 rfl rfl ?_
  refine jb_aload_n (pc' := 966) dL_law_965 rfl rfl ?_
  refine jb_iload_n (pc' := 967) dL_law_966 rfl rfl ?_
  refine jb_iconst (pc' := 968) 1 dL_law_967 (by decide) rfl ?_
  refine jb_iadd (pc' := 969) dL_law_968 rfl ?_
  refine jb_sload (pc' := 970) (i9 := i + 1) dL_law_969 (jl_ix 1 (by omega)) (by omega) rfl ?_
  refine jb_aload_n (pc' := 971) dL_law_970 rfl rfl ?_
  refine jb_iload_n (pc' := 972) dL_law_971 rfl rfl ?_
  refine jb_iconst (pc' := 973) 2 dL_law_972 (by decide) rfl ?_
  refine jb_iadd (pc' := 974) dL_law_973 rfl ?_
  refine jb_sload (pc' := 975) (i9 := i + 2) dL_law_974 (jl_ix 2 (by omega)) (by omega) rfl ?_
  refine jb_aload_n (pc' := 976) dL_law_975 rfl rfl ?_
  refine jb_iload_n (pc' := 977) dL_law_976 rfl rfl ?_
  refine jb_iconst (pc' := 978) 3 dL_law_977 (by decide) rfl ?_
  refine jb_iadd (pc' := 979) dL_law_978 rfl ?_
  refine jb_sload (pc' := 980) (i9 := i + 3) dL_law_979 (jl_ix 3 (by omega)) (by omega) rfl ?_
  refine jb_callV (pc' := 983) (ci := 12) (q := 105) (As := [.int (sc.2 (i + 1)), .int (sc.2 (i + 2)), .int (sc.2 (i + 3))]) (a2 := a) (b2 := b) wv_L_116 rfl dL_law_980 hC2 l1 rfl ⟨by omega, by omega, by omega⟩ (Nat.le_of_ble_eq_true rfl) rfl (fun r h2 hq2 => ?_)
  obtain ⟨rfl, hJ⟩ := hK2 r h2 hq2
  show jb_J sc RL cL_law 4 (Option.some .boolean) false 62 a b 983 [some (.ref 1000000), some (.ref 0), some (.ref 105), some (.int (nI i))] [.int v, .int v] h2 Q
  refine jb_icmp_eq (tgt := 1357) (pc' := 986) dL_law_983 (by decide) rfl (fun _ => k h2 hJ) (fun z => absurd rfl z)
set_option maxRecDepth 100000 in
set_option maxHeartbeats 4000000 in
theorem lw_c24 {sc : Nat × (Nat → Int32)} {i c a b : Nat} {h : jb_H} {Q : Option Value → jb_H → Prop} (hs : sc.1 ≤ 384) (hi : i + 6 ≤ sc.1) (hc : c < 900) (hI : jI c h) (k : ∀ h2, jI (c + 1) h2 → jb_J sc RL cL_law 4 (Option.some .boolean) false 62 a b 1357 [some (.ref 1000000), some (.ref 0), some (.ref 105), some (.int (nI i))] [] h2 Q) : jb_J sc RL cL_law 4 (Option.some .boolean) false 62 (a + 1) (b + 50) 988 [some (.ref 1000000), some (.ref 0), some (.ref 105), some (.int (nI i))] [] h Q := by
  have P : jPc _ _ _ _ _ _ _ _ _ _ := p_over (sc := sc) ((sc.2 (i + 1))) c h hc hI
  obtain ⟨d1, a1, b1, Q1, k1, k2, k3, hC, hK⟩ := P
  obtain ⟨f0, l0⟩ := hI.l0
  refine jb_aload_n (pc' := 989) dL_law_988 rfl rfl ?_
  refine jb_aload_n (pc' := 990) dL_law_989 rfl rfl ?_
  refine jb_iload_n (pc' := 991) dL_law_990 rfl rfl ?_
  refine jb_iconst (pc' := 992) 1 dL_law_991 (by decide) rfl ?_
  refine jb_iadd (pc' := 993) dL_law_992 rfl ?_
  refine jb_sload (pc' := 994) (i9 := i + 1) dL_law_993 (jl_ix 1 (by omega)) (by omega) rfl ?_
  refine jb_callV (pc' := 997) (ci := 11) (q := 0) (As := [.int (sc.2 (i + 1))]) (a2 := a) (b2 := b) wv_L_117 rfl dL_law_994 hC l0 rfl ⟨by omega, by omega, by omega⟩ (Nat.le_of_ble_eq_true rfl) rfl (fun r h1 hq => ?_)
  obtain ⟨v, rfl, ⟨f1, l1⟩, d2, Q2, k4, hC2, hK2⟩ := hK r h1 hq
  show jb_J sc RL cL_law 4 (Option.some .boolean) false 62 a b 997 [some (.ref 1000000), some (.ref 0), some (.ref 105), some (.int (nI i))] [.int v] h1 Q
  refine jb_aload_n (pc' := 998) dL_law_997 rfl rfl ?_
  refine jb_aload_n (pc' := 999) dL_law_998 rfl rfl ?_
  refine jb_iload_n (pc' := 1000) dL_law_999 rfl rfl ?_
  refine jb_iconst (pc' := 1001) 1 dL_law_1000 (by decide) rfl ?_
  refine jb_iadd (pc' := 1002) dL_law_1001 rfl ?_
  refine jb_sload (pc' := 1003) (i9 := i + 1) dL_law_1002 (jl_ix 1 (by omega)) (by omega) rfl ?_
  refine jb_callV (pc' := 1006) (ci := 12) (q := 105) (As := [.int (sc.2 (i + 1))]) (a2 := a) (b2 := b) wv_L_120 rfl dL_law_1003 hC2 l1 rfl ⟨by omega, by omega, by omega⟩ (Nat.le_of_ble_eq_true rfl) rfl (fun r h2 hq2 => ?_)
  obtain ⟨rfl, hJ⟩ := hK2 r h2 hq2
  show jb_J sc RL cL_law 4 (Option.some .boolean) false 62 a b 1006 [some (.ref 1000000), some (.ref 0), some (.ref 105), some (.int (nI i))] [.int v, .int v] h2 Q
  refine jb_icmp_eq (tgt := 1357) (pc' := 1009) dL_law_1006 (by decide) rfl (fun _ => k h2 hJ) (fun z => absurd rfl z)
set_option maxRecDepth 100000 in
set_option maxHeartbeats 4000000 in
theorem lw_c25 {sc : Nat × (Nat → Int32)} {i c a b : Nat} {h : jb_H} {Q : Option Value → jb_H → Prop} (hs : sc.1 ≤ 384) (hi : i + 6 ≤ sc.1) (hc : c < 900) (hI : jI c h) (k : ∀ h2, jI (c + 1) h2 → jb_J sc RL cL_law 4 (Option.some .boolean) false 62 a b 1357 [some (.ref 1000000), some (.ref 0), some (.ref 105), some (.int (nI i))] [] h2 Q) : jb_J sc RL cL_law 4 (Option.some .boolean) false 62 (a + 1) (b + 50) 1011 [some (.ref 1000000), some (.ref 0), some (.ref 105), some (.int (nI i))] [] h Q := by
  have P : jPc _ _ _ _ _ _ _ _ _ _ := p_seed (sc := sc) ((sc.2 (i + 1))) c h hc hI
  obtain ⟨d1, a1, b1, Q1, k1, k2, k3, hC, hK⟩ := P
  obtain ⟨f0, l0⟩ := hI.l0
  refine jb_aload_n (pc' := 1012) dL_law_1011 rfl rfl ?_
  refine jb_aload_n (pc' := 1013) dL_law_1012 rfl rfl ?_
  refine jb_iload_n (pc' := 1014) dL_law_1013 rfl rfl ?_
  refine jb_iconst (pc' := 1015) 1 dL_law_1014 (by decide) rfl ?_
  refine jb_iadd (pc' := 1016) dL_law_1015 rfl ?_
  refine jb_sload (pc' := 1017) (i9 := i + 1) dL_law_1016 (jl_ix 1 (by omega)) (by omega) rfl ?_
  refine jb_callV (pc' := 1020) (ci := 11) (q := 0) (As := [.int (sc.2 (i + 1))]) (a2 := a) (b2 := b) wv_L_121 rfl dL_law_1017 hC l0 rfl ⟨by omega, by omega, by omega⟩ (Nat.le_of_ble_eq_true rfl) rfl (fun r h1 hq => ?_)
  obtain ⟨v, rfl, ⟨f1, l1⟩, d2, Q2, k4, hC2, hK2⟩ := hK r h1 hq
  show jb_J sc RL cL_law 4 (Option.some .boolean) false 62 a b 1020 [some (.ref 1000000), some (.ref 0), some (.ref 105), some (.int (nI i))] [.int v] h1 Q
  refine jb_aload_n (pc' := 1021) dL_law_1020 rfl rfl ?_
  refine jb_aload_n (pc' := 1022) dL_law_1021 rfl rfl ?_
  refine jb_iload_n (pc' := 1023) dL_law_1022 rfl rfl ?_
  refine jb_iconst (pc' := 1024) 1 dL_law_1023 (by decide) rfl ?_
  refine jb_iadd (pc' := 1025) dL_law_1024 rfl ?_
  refine jb_sload (pc' := 1026) (i9 := i + 1) dL_law_1025 (jl_ix 1 (by omega)) (by omega) rfl ?_
  refine jb_callV (pc' := 1029) (ci := 12) (q := 105) (As := [.int (sc.2 (i + 1))]) (a2 := a) (b2 := b) wv_L_124 rfl dL_law_1026 hC2 l1 rfl ⟨by omega, by omega, by omega⟩ (Nat.le_of_ble_eq_true rfl) rfl (fun r h2 hq2 => ?_)
  obtain ⟨rfl, hJ⟩ := hK2 r h2 hq2
  show jb_J sc RL cL_law 4 (Option.some .boolean) false 62 a b 1029 [some (.ref 1000000), some (.ref 0), some (.ref 105), some (.int (nI i))] [.int v, .int v] h2 Q
  refine jb_icmp_eq (tgt := 1357) (pc' := 1032) dL_law_1029 (by decide) rfl (fun _ => k h2 hJ) (fun z => absurd rfl z)
set_option maxRecDepth 100000 in
set_option maxHeartbeats 4000000 in
theorem lw_c26 {sc : Nat × (Nat → Int32)} {i c a b : Nat} {h : jb_H} {Q : Option Value → jb_H → Prop} (hs : sc.1 ≤ 384) (hi : i + 6 ≤ sc.1) (hc : c < 900) (hI : jI c h) (k : ∀ h2, jI (c + 1) h2 → jb_J sc RL cL_law 4 (Option.some .boolean) false 62 a b 1357 [some (.ref 1000000), some (.ref 0), some (.ref 105), some (.int (nI i))] [] h2 Q) : jb_J sc RL cL_law 4 (Option.some .boolean) false 62 (a + 1) (b + 50) 1034 [some (.ref 1000000), some (.ref 0), some (.ref 105), some (.int (nI i))] [] h Q := by
  have P : jPc _ _ _ _ _ _ _ _ _ _ := p_voice (sc := sc) ((sc.2 (i + 1))) ((sc.2 (i + 2))) ((sc.2 (i + 3))) c h hc hI
  obtain ⟨d1, a1, b1, Q1, k1, k2, k3, hC, hK⟩ := P
  obtain ⟨f0, l0⟩ := hI.l0
  refine jb_aload_n (pc' := 1035) dL_law_1034 rfl rfl ?_
  refine jb_aload_n (pc' := 1036) dL_law_1035 rfl rfl ?_
  refine jb_iload_n (pc' := 1037) dL_law_1036 rfl rfl ?_
  refine jb_iconst (pc' := 1038) 1 dL_law_1037 (by decide) rfl ?_
  refine jb_iadd (pc' := 1039) dL_law_1038 rfl ?_
  refine jb_sload (pc' := 1040) (i9 := i + 1) dL_law_1039 (jl_ix 1 (by omega)) (by omega) rfl ?_
  refine jb_aload_n (pc' := 1041) dL_law_1040 rfl rfl ?_
  refine jb_iload_n (pc' := 1042) dL_law_1041 rfl rfl ?_
  refine jb_iconst (pc' := 1043) 2 dL_law_1042 (by decide) rfl ?_
  refine jb_iadd (pc' := 1044) dL_law_1043 rfl ?_
  refine jb_sload (pc' := 1045) (i9 := i + 2) dL_law_1044 (jl_ix 2 (by omega)) (by omega) rfl ?_
  refine jb_aload_n (pc' := 1046) dL_law_1045 rfl rfl ?_
  refine jb_iload_n (pc' := 1047) dL_law_1046 rfl rfl ?_
  refine jb_iconst (pc' := 1048) 3 dL_law_1047 (by decide) rfl ?_
  refine jb_iadd (pc' := 1049) dL_law_1048 rfl ?_
  refine jb_sload (pc' := 1050) (i9 := i + 3) dL_law_1049 (jl_ix 3 (by omega)) (by omega) rfl ?_
  refine jb_callV (pc' := 1053) (ci := 11) (q := 0) (As := [.int (sc.2 (i + 1)), .int (sc.2 (i + 2)), .int (sc.2 (i + 3))]) (a2 := a) (b2 := b) wv_L_125 rfl dL_law_1050 hC l0 rfl ⟨by omega, by omega, by omega⟩ (Nat.le_of_ble_eq_true rfl) rfl (fun r h1 hq => ?_)
  obtain ⟨v, rfl, ⟨f1, l1⟩, d2, Q2, k4, hC2, hK2⟩ := hK r h1 hq
  show jb_J sc RL cL_law 4 (Option.some .boolean) false 62 a b 1053 [some (.ref 1000000), some (.ref 0), some (.ref 105), some (.int (nI i))] [.int v] h1 Q
  refine jb_aload_n (pc' := 1054) dL_law_1053 rfl rfl ?_
  refine jb_aload_n (pc' := 1055) dL_law_1054 rfl rfl ?_
  refine jb_iload_n (pc' := 1056) dL_law_1055 rfl rfl ?_
  refine jb_iconst (pc' := 1057) 1 dL_law_1056 (by decide) rfl ?_
  refine jb_iadd (pc' := 1058) dL_law_1057 rfl ?_
  refine jb_sload (pc' := 1059) (i9 := i + 1) dL_law_1058 (jl_ix 1 (by omega)) (by omega) rfl ?_
  refine jb_aload_n (pc' := 1060) dL_law_1059 rfl rfl ?_
  refine jb_iload_n (pc' := 1061) dL_law_1060 rfl rfl ?_
  refine jb_iconst (pc' := 1062) 2 dL_law_1061 (by decide) rfl ?_
  refine jb_iadd (pc' := 1063) dL_law_1062 rfl ?_
  refine jb_sload (pc' := 1064) (i9 := i + 2) dL_law_1063 (jl_ix 2 (by omega)) (by omega) rfl ?_
  refine jb_aload_n (pc' := 1065) dL_law_1064 rfl rfl ?_
  refine jb_iload_n (pc' := 1066) dL_law_1065 rfl rfl ?_
  refine jb_iconst (pc' := 1067) 3 dL_law_1066 (by decide) rfl ?_
  refine jb_iadd (pc' := 1068) dL_law_1067 rfl ?_
  refine jb_sload (pc' := 1069) (i9 := i + 3) dL_law_1068 (jl_ix 3 (by omega)) (by omega) rfl ?_
  refine jb_callV (pc' := 1072) (ci := 12) (q := 105) (As := [.int (sc.2 (i + 1)), .int (sc.2 (i + 2)), .int (sc.2 (i + 3))]) (a2 := a) (b2 := b) wv_L_128 rfl dL_law_1069 hC2 l1 rfl ⟨by omega, by omega, by omega⟩ (Nat.le_of_ble_eq_true rfl) rfl (fun r h2 hq2 => ?_)
  obtain ⟨rfl, hJ⟩ := hK2 r h2 hq2
  show jb_J sc RL cL_law 4 (Option.some .boolean) false 62 a b 1072 [some (.ref 1000000), some (.ref 0), some (.ref 105), some (.int (nI i))] [.int v, .int v] h2 Q
  refine jb_icmp_eq (tgt := 1357) (pc' := 1075) dL_law_1072 (by decide) rfl (fun _ => k h2 hJ) (fun z => absurd rfl z)
set_option maxRecDepth 100000 in
set_option maxHeartbeats 4000000 in
theorem lw_c27 {sc : Nat × (Nat → Int32)} {i c a b : Nat} {h : jb_H} {Q : Option Value → jb_H → Prop} (hs : sc.1 ≤ 384) (hi : i + 6 ≤ sc.1) (hc : c < 900) (hI : jI c h) (k : ∀ h2, jI (c + 1) h2 → jb_J sc RL cL_law 4 (Option.some .boolean) false 62 a b 1357 [some (.ref 1000000), some (.ref 0), some (.ref 105), some (.int (nI i))] [] h2 Q) : jb_J sc RL cL_law 4 (Option.some .boolean) false 62 (a + 1) (b + 50) 1077 [some (.ref 1000000), some (.ref 0), some (.ref 105), some (.int (nI i))] [] h Q := by
  have P : jPc _ _ _ _ _ _ _ _ _ _ := p_trace (sc := sc) ((sc.2 (i + 1))) c h hc hI
  obtain ⟨d1, a1, b1, Q1, k1, k2, k3, hC, hK⟩ := P
  obtain ⟨f0, l0⟩ := hI.l0
  refine jb_aload_n (pc' := 1078) dL_law_1077 rfl rfl ?_
  refine jb_aload_n (pc' := 1079) dL_law_1078 rfl rfl ?_
  refine jb_iload_n (pc' := 1080) dL_law_1079 rfl rfl ?_
  refine jb_iconst (pc' := 1081) 1 dL_law_1080 (by decide) rfl ?_
  refine jb_iadd (pc' := 1082) dL_law_1081 rfl ?_
  refine jb_sload (pc' := 1083) (i9 := i + 1) dL_law_1082 (jl_ix 1 (by omega)) (by omega) rfl ?_
  refine jb_callV (pc' := 1086) (ci := 11) (q := 0) (As := [.int (sc.2 (i + 1))]) (a2 := a) (b2 := b) wv_L_129 rfl dL_law_1083 hC l0 rfl ⟨by omega, by omega, by omega⟩ (Nat.le_of_ble_eq_true rfl) rfl (fun r h1 hq => ?_)
  obtain ⟨v, rfl, ⟨f1, l1⟩, d2, Q2, k4, hC2, hK2⟩ := hK r h1 hq
  show jb_J sc RL cL_law 4 (Option.some .boolean) false 62 a b 1086 [some (.ref 1000000), some (.ref 0), some (.ref 105), some (.int (nI i))] [.int v] h1 Q
  refine jb_aload_n (pc' := 1087) dL_law_1086 rfl rfl ?_
  refine jb_aload_n (pc' := 1088) dL_law_1087 rfl rfl ?_
  refine jb_iload_n (pc' := 1089) dL_law_1088 rfl rfl ?_
  refine jb_iconst (pc' := 1090) 1 dL_law_1089 (by decide) rfl ?_
  refine jb_iadd (pc' := 1091) dL_law_1090 rfl ?_
  refine jb_sload (pc' := 1092) (i9 := i + 1) dL_law_1091 (jl_ix 1 (by omega)) (by omega) rfl ?_
  refine jb_callV (pc' := 1095) (ci := 12) (q := 105) (As := [.int (sc.2 (i + 1))]) (a2 := a) (b2 := b) wv_L_132 rfl dL_law_1092 hC2 l1 rfl ⟨by omega, by omega, by omega⟩ (Nat.le_of_ble_eq_true rfl) rfl (fun r h2 hq2 => ?_)
  obtain ⟨rfl, hJ⟩ := hK2 r h2 hq2
  show jb_J sc RL cL_law 4 (Option.some .boolean) false 62 a b 1095 [some (.ref 1000000), some (.ref 0), some (.ref 105), some (.int (nI i))] [.int v, .int v] h2 Q
  refine jb_icmp_eq (tgt := 1357) (pc' := 1098) dL_law_1095 (by decide) rfl (fun _ => k h2 hJ) (fun z => absurd rfl z)
set_option maxRecDepth 100000 in
set_option maxHeartbeats 4000000 in
theorem lw_c28 {sc : Nat × (Nat → Int32)} {i c a b : Nat} {h : jb_H} {Q : Option Value → jb_H → Prop} (hs : sc.1 ≤ 384) (hi : i + 6 ≤ sc.1) (hc : c < 900) (hI : jI c h) (k : ∀ h2, jI (c + 1) h2 → jb_J sc RL cL_law 4 (Option.some .boolean) false 62 a b 1357 [some (.ref 1000000), some (.ref 0), some (.ref 105), some (.int (nI i))] [] h2 Q) : jb_J sc RL cL_law 4 (Option.some .boolean) false 62 (a + 1) (b + 50) 1100 [some (.ref 1000000), some (.ref 0), some (.ref 105), some (.int (nI i))] [] h Q := by
  have P : jPc _ _ _ _ _ _ _ _ _ _ := p_sheet (sc := sc) ((sc.2 (i + 1))) ((sc.2 (i + 2))) ((sc.2 (i + 3))) c h hc hI
  obtain ⟨d1, a1, b1, Q1, k1, k2, k3, hC, hK⟩ := P
  obtain ⟨f0, l0⟩ := hI.l0
  refine jb_aload_n (pc' := 1101) dL_law_1100 rfl rfl ?_
  refine jb_aload_n (pc' := 1102) dL_law_1101 rfl rfl ?_
  refine jb_iload_n (pc' := 1103) dL_law_1102 rfl rfl ?_
  refine jb_iconst (pc' := 1104) 1 dL_law_1103 (by decide) rfl ?_
  refine jb_iadd (pc' := 1105) dL_law_1104 rfl ?_
  refine jb_sload (pc' := 1106) (i9 := i + 1) dL_law_1105 (jl_ix 1 (by omega)) (by omega) rfl ?_
  refine jb_aload_n (pc' := 1107) dL_law_1106 rfl rfl ?_
  refine jb_iload_n (pc' := 1108) dL_law_1107 rfl rfl ?_
  refine jb_iconst (pc' := 1109) 2 dL_law_1108 (by decide) rfl ?_
  refine jb_iadd (pc' := 1110) dL_law_1109 rfl ?_
  refine jb_sload (pc' := 1111) (i9 := i + 2) dL_law_1110 (jl_ix 2 (by omega)) (by omega) rfl ?_
  refine jb_aload_n (pc' := 1112) dL_law_1111 rfl rfl ?_
  refine jb_iload_n (pc' := 1113) dL_law_1112 rfl rfl ?_
  refine jb_iconst (pc' := 1114) 3 dL_law_1113 (by decide) rfl ?_
  refine jb_iadd (pc' := 1115) dL_law_1114 rfl ?_
  refine jb_sload (pc' := 1116) (i9 := i + 3) dL_law_1115 (jl_ix 3 (by omega)) (by omega) rfl ?_
  refine jb_callV (pc' := 1119) (ci := 11) (q := 0) (As := [.int (sc.2 (i + 1)), .int (sc.2 (i + 2)), .int (sc.2 (i + 3))]) (a2 := a) (b2 := b) wv_L_133 rfl dL_law_1116 hC l0 rfl ⟨by omega, by omega, by omega⟩ (Nat.le_of_ble_eq_true rfl) rfl (fun r h1 hq => ?_)
  obtain ⟨v, rfl, ⟨f1, l1⟩, d2, Q2, k4, hC2, hK2⟩ := hK r h1 hq
  show jb_J sc RL cL_law 4 (Option.some .boolean) false 62 a b 1119 [some (.ref 1000000), some (.ref 0), some (.ref 105), some (.int (nI i))] [.int v] h1 Q
  refine jb_aload_n (pc' := 1120) dL_law_1119 rfl rfl ?_
  refine jb_aload_n (pc' := 1121) dL_law_1120 rfl rfl ?_
  refine jb_iload_n (pc' := 1122) dL_law_1121 rfl rfl ?_
  refine jb_iconst (pc' := 1123) 1 dL_law_1122 (by decide) rfl ?_
  refine jb_iadd (pc' := 1124) dL_law_1123 rfl ?_
  refine jb_sload (pc' := 1125) (i9 := i + 1) dL_law_1124 (jl_ix 1 (by omega)) (by omega) rfl ?_
  refine jb_aload_n (pc' := 1126) dL_law_1125 rfl rfl ?_
  refine jb_iload_n (pc' := 1127) dL_law_1126 rfl rfl ?_
  refine jb_iconst (pc' := 1128) 2 dL_law_1127 (by decide) rfl ?_
  refine jb_iadd (pc' := 1129) dL_law_1128 rfl ?_
  refine jb_sload (pc' := 1130) (i9 := i + 2) dL_law_1129 (jl_ix 2 (by omega)) (by omega) rfl ?_
  refine jb_aload_n (pc' := 1131) dL_law_1130 rfl rfl ?_
  refine jb_iload_n (pc' := 1132) dL_law_1131 rfl rfl ?_
  refine jb_iconst (pc' := 1133) 3 dL_law_1132 (by decide) rfl ?_
  refine jb_iadd (pc' := 1134) dL_law_1133 rfl ?_
  refine jb_sload (pc' := 1135) (i9 := i + 3) dL_law_1134 (jl_ix 3 (by omega)) (by omega) rfl ?_
  refine jb_callV (pc' := 1138) (ci := 12) (q := 105) (As := [.int (sc.2 (i + 1)), .int (sc.2 (i + 2)), .int (sc.2 (i + 3))]) (a2 := a) (b2 := b) wv_L_136 rfl dL_law_1135 hC2 l1 rfl ⟨by omega, by omega, by omega⟩ (Nat.le_of_ble_eq_true rfl) rfl (fun r h2 hq2 => ?_)
  obtain ⟨rfl, hJ⟩ := hK2 r h2 hq2
  show jb_J sc RL cL_law 4 (Option.some .boolean) false 62 a b 1138 [some (.ref 1000000), some (.ref 0), some (.ref 105), some (.int (nI i))] [.int v, .int v] h2 Q
  refine jb_icmp_eq (tgt := 1357) (pc' := 1141) dL_law_1138 (by decide) rfl (fun _ => k h2 hJ) (fun z => absurd rfl z)
set_option maxRecDepth 100000 in
set_option maxHeartbeats 4000000 in
theorem lw_c29 {sc : Nat × (Nat → Int32)} {i c a b : Nat} {h : jb_H} {Q : Option Value → jb_H → Prop} (hs : sc.1 ≤ 384) (hi : i + 6 ≤ sc.1) (hc : c < 900) (hI : jI c h) (k : ∀ h2, jI (c + 1) h2 → jb_J sc RL cL_law 4 (Option.some .boolean) false 62 a b 1357 [some (.ref 1000000), some (.ref 0), some (.ref 105), some (.int (nI i))] [] h2 Q) : jb_J sc RL cL_law 4 (Option.some .boolean) false 62 (a + 1) (b + 50) 1143 [some (.ref 1000000), some (.ref 0), some (.ref 105), some (.int (nI i))] [] h Q := by
  have P : jPc _ _ _ _ _ _ _ _ _ _ := p_put (sc := sc) ((sc.2 (i + 1))) ((sc.2 (i + 2))) ((sc.2 (i + 3))) c h hc hI
  obtain ⟨d1, a1, b1, Q1, k1, k2, k3, hC, hK⟩ := P
  obtain ⟨f0, l0⟩ := hI.l0
  refine jb_aload_n (pc' := 1144) dL_law_1143 rfl rfl ?_
  refine jb_aload_n (pc' := 1145) dL_law_1144 rfl rfl ?_
  refine jb_iload_n (pc' := 1146) dL_law_1145 rfl rfl ?_
  refine jb_iconst (pc' := 1147) 1 dL_law_1146 (by decide) rfl ?_
  refine jb_iadd (pc' := 1148) dL_law_1147 rfl ?_
  refine jb_sload (pc' := 1149) (i9 := i + 1) dL_law_1148 (jl_ix 1 (by omega)) (by omega) rfl ?_
  refine jb_aload_n (pc' := 1150) dL_law_1149 rfl rfl ?_
  refine jb_iload_n (pc' := 1151) dL_law_1150 rfl rfl ?_
  refine jb_iconst (pc' := 1152) 2 dL_law_1151 (by decide) rfl ?_
  refine jb_iadd (pc' := 1153) dL_law_1152 rfl ?_
  refine jb_sload (pc' := 1154) (i9 := i + 2) dL_law_1153 (jl_ix 2 (by omega)) (by omega) rfl ?_
  refine jb_aload_n (pc' := 1155) dL_law_1154 rfl rfl ?_
  refine jb_iload_n (pc' := 1156) dL_law_1155 rfl rfl ?_
  refine jb_iconst (pc' := 1157) 3 dL_law_1156 (by decide) rfl ?_
  refine jb_iadd (pc' := 1158) dL_law_1157 rfl ?_
  refine jb_sload (pc' := 1159) (i9 := i + 3) dL_law_1158 (jl_ix 3 (by omega)) (by omega) rfl ?_
  refine jb_callV (pc' := 1162) (ci := 11) (q := 0) (As := [.int (sc.2 (i + 1)), .int (sc.2 (i + 2)), .int (sc.2 (i + 3))]) (a2 := a) (b2 := b) wv_L_137 rfl dL_law_1159 hC l0 rfl ⟨by omega, by omega, by omega⟩ (Nat.le_of_ble_eq_true rfl) rfl (fun r h1 hq => ?_)
  obtain ⟨v, rfl, ⟨f1, l1⟩, d2, Q2, k4, hC2, hK2⟩ := hK r h1 hq
  show jb_J sc RL cL_law 4 (Option.some .boolean) false 62 a b 1162 [some (.ref 1000000), some (.ref 0), some (.ref 105), some (.int (nI i))] [.int v] h1 Q
  refine jb_aload_n (pc' := 1163) dL_law_1162 rfl rfl ?_
  refine jb_aload_n (pc' := 1164) dL_law_1163 rfl rfl ?_
  refine jb_iload_n (pc' := 1165) dL_law_1164 rfl rfl ?_
  refine jb_iconst (pc' := 1166) 1 dL_law_1165 (by decide) rfl ?_
  refine jb_iadd (pc' := 1167) dL_law_1166 rfl ?_
  refine jb_sload (pc' := 1168) (i9 := i + 1) dL_law_1167 (jl_ix 1 (by omega)) (by omega) rfl ?_
  refine jb_aload_n (pc' := 1169) dL_law_1168 rfl rfl ?_
  refine jb_iload_n (pc' := 1170) dL_law_1169 rfl rfl ?_
  refine jb_iconst (pc' := 1171) 2 dL_law_1170 (by decide) rfl ?_
  refine jb_iadd (pc' := 1172) dL_law_1171 rfl ?_
  refine jb_sload (pc' := 1173) (i9 := i + 2) dL_law_1172 (jl_ix 2 (by omega)) (by omega) rfl ?_
  refine jb_aload_n (pc' := 1174) dL_law_1173 rfl rfl ?_
  refine jb_iload_n (pc' := 1175) dL_law_1174 rfl rfl ?_
  refine jb_iconst (pc' := 1176) 3 dL_law_1175 (by decide) rfl ?_
  refine jb_iadd (pc' := 1177) dL_law_1176 rfl ?_
  refine jb_sload (pc' := 1178) (i9 := i + 3) dL_law_1177 (jl_ix 3 (by omega)) (by omega) rfl ?_
  refine jb_callV (pc' := 1181) (ci := 12) (q := 105) (As := [.int (sc.2 (i + 1)), .int (sc.2 (i + 2)), .int (sc.2 (i + 3))]) (a2 := a) (b2 := b) wv_L_140 rfl dL_law_1178 hC2 l1 rfl ⟨by omega, by omega, by omega⟩ (Nat.le_of_ble_eq_true rfl) rfl (fun r h2 hq2 => ?_)
  obtain ⟨rfl, hJ⟩ := hK2 r h2 hq2
  show jb_J sc RL cL_law 4 (Option.some .boolean) false 62 a b 1181 [some (.ref 1000000), some (.ref 0), some (.ref 105), some (.int (nI i))] [.int v, .int v] h2 Q
  refine jb_icmp_eq (tgt := 1357) (pc' := 1184) dL_law_1181 (by decide) rfl (fun _ => k h2 hJ) (fun z => absurd rfl z)
set_option maxRecDepth 100000 in
set_option maxHeartbeats 4000000 in
theorem lw_c30 {sc : Nat × (Nat → Int32)} {i c a b : Nat} {h : jb_H} {Q : Option Value → jb_H → Prop} (hs : sc.1 ≤ 384) (hi : i + 6 ≤ sc.1) (hc : c < 900) (hI : jI c h) (k : ∀ h2, jI (c + 1) h2 → jb_J sc RL cL_law 4 (Option.some .boolean) false 62 a b 1357 [some (.ref 1000000), some (.ref 0), some (.ref 105), some (.int (nI i))] [] h2 Q) : jb_J sc RL cL_law 4 (Option.some .boolean) false 62 (a + 1) (b + 50) 1186 [some (.ref 1000000), some (.ref 0), some (.ref 105), some (.int (nI i))] [] h Q := by
  have P : jPc _ _ _ _ _ _ _ _ _ _ := p_move (sc := sc) ((sc.2 (i + 1))) ((sc.2 (i + 2))) ((sc.2 (i + 3))) ((sc.2 (i + 4))) ((sc.2 (i + 5))) c h hc hI
  obtain ⟨d1, a1, b1, Q1, k1, k2, k3, hC, hK⟩ := P
  obtain ⟨f0, l0⟩ := hI.l0
  refine jb_aload_n (pc' := 1187) dL_law_1186 rfl rfl ?_
  refine jb_aload_n (pc' := 1188) dL_law_1187 rfl rfl ?_
  refine jb_iload_n (pc' := 1189) dL_law_1188 rfl rfl ?_
  refine jb_iconst (pc' := 1190) 1 dL_law_1189 (by decide) rfl ?_
  refine jb_iadd (pc' := 1191) dL_law_1190 rfl ?_
  refine jb_sload (pc' := 1192) (i9 := i + 1) dL_law_1191 (jl_ix 1 (by omega)) (by omega) rfl ?_
  refine jb_aload_n (pc' := 1193) dL_law_1192 rfl rfl ?_
  refine jb_iload_n (pc' := 1194) dL_law_1193 rfl rfl ?_
  refine jb_iconst (pc' := 1195) 2 dL_law_1194 (by decide) rfl ?_
  refine jb_iadd (pc' := 1196) dL_law_1195 rfl ?_
  refine jb_sload (pc' := 1197) (i9 := i + 2) dL_law_1196 (jl_ix 2 (by omega)) (by omega) rfl ?_
  refine jb_aload_n (pc' := 1198) dL_law_1197 rfl rfl ?_
  refine jb_iload_n (pc' := 1199) dL_law_1198 rfl rfl ?_
  refine jb_iconst (pc' := 1200) 3 dL_law_1199 (by decide) rfl ?_
  refine jb_iadd (pc' := 1201) dL_law_1200 rfl ?_
  refine jb_sload (pc' := 1202) (i9 := i + 3) dL_law_1201 (jl_ix 3 (by omega)) (by omega) rfl ?_
  refine jb_aload_n (pc' := 1203) dL_law_1202 rfl rfl ?_
  refine jb_iload_n (pc' := 1204) dL_law_1203 rfl rfl ?_
  refine jb_iconst (pc' := 1205) 4 dL_law_1204 (by decide) rfl ?_
  refine jb_iadd (pc' := 1206) dL_law_1205 rfl ?_
  refine jb_sload (pc' := 1207) (i9 := i + 4) dL_law_1206 (jl_ix 4 (by omega)) (by omega) rfl ?_
  refine jb_aload_n (pc' := 1208) dL_law_1207 rfl rfl ?_
  refine jb_iload_n (pc' := 1209) dL_law_1208 rfl rfl ?_
  refine jb_iconst (pc' := 1210) 5 dL_law_1209 (by decide) rfl ?_
  refine jb_iadd (pc' := 1211) dL_law_1210 rfl ?_
  refine jb_sload (pc' := 1212) (i9 := i + 5) dL_law_1211 (jl_ix 5 (by omega)) (by omega) rfl ?_
  refine jb_callV (pc' := 1215) (ci := 11) (q := 0) (As := [.int (sc.2 (i + 1)), .int (sc.2 (i + 2)), .int (sc.2 (i + 3)), .int (sc.2 (i + 4)), .int (sc.2 (i + 5))]) (a2 := a) (b2 := b) wv_L_141 rfl dL_law_1212 hC l0 rfl ⟨by omega, by omega, by omega⟩ (Nat.le_of_ble_eq_true rfl) rfl (fun r h1 hq => ?_)
  obtain ⟨v, rfl, ⟨f1, l1⟩, d2, Q2, k4, hC2, hK2⟩ := hK r h1 hq
  show jb_J sc RL cL_law 4 (Option.some .boolean) false 62 a b 1215 [some (.ref 1000000), some (.ref 0), some (.ref 105), some (.int (nI i))] [.int v] h1 Q
  refine jb_aload_n (pc' := 1216) dL_law_1215 rfl rfl ?_
  refine jb_aload_n (pc' := 1217) dL_law_1216 rfl rfl ?_
  refine jb_iload_n (pc' := 1218) dL_law_1217 rfl rfl ?_
  refine jb_iconst (pc' := 1219) 1 dL_law_1218 (by decide) rfl ?_
  refine jb_iadd (pc' := 1220) dL_law_1219 rfl ?_
  refine jb_sload (pc' := 1221) (i9 := i + 1) dL_law_1220 (jl_ix 1 (by omega)) (by omega) rfl ?_
  refine jb_aload_n (pc' := 1222) dL_law_1221 rfl rfl ?_
  refine jb_iload_n (pc' := 1223) dL_law_1222 rfl rfl ?_
  refine jb_iconst (pc' := 1224) 2 dL_law_1223 (by decide) rfl ?_
  refine jb_iadd (pc' := 1225) dL_law_1224 rfl ?_
  refine jb_sload (pc' := 1226) (i9 := i + 2) dL_law_1225 (jl_ix 2 (by omega)) (by omega) rfl ?_
  refine jb_aload_n (pc' := 1227) dL_law_1226 rfl rfl ?_
  refine jb_iload_n (pc' := 1228) dL_law_1227 rfl rfl ?_
  refine jb_iconst (pc' := 1229) 3 dL_law_1228 (by decide) rfl ?_
  refine jb_iadd (pc' := 1230) dL_law_1229 rfl ?_
  refine jb_sload (pc' := 1231) (i9 := i + 3) dL_law_1230 (jl_ix 3 (by omega)) (by omega) rfl ?_
  refine jb_aload_n (pc' := 1232) dL_law_1231 rfl rfl ?_
  refine jb_iload_n (pc' := 1233) dL_law_1232 rfl rfl ?_
  refine jb_iconst (pc' := 1234) 4 dL_law_1233 (by decide) rfl ?_
  refine jb_iadd (pc' := 1235) dL_law_1234 rfl ?_
  refine jb_sload (pc' := 1236) (i9 := i + 4) dL_law_1235 (jl_ix 4 (by omega)) (by omega) rfl ?_
  refine jb_aload_n (pc' := 1237) dL_law_1236 rfl rfl ?_
  refine jb_iload_n (pc' := 1238) dL_law_1237 rfl rfl ?_
  refine jb_iconst (pc' := 1239) 5 dL_law_1238 (by decide) rfl ?_
  refine jb_iadd (pc' := 1240) dL_law_1239 rfl ?_
  refine jb_sload (pc' := 1241) (i9 := i + 5) dL_law_1240 (jl_ix 5 (by omega)) (by omega) rfl ?_
  refine jb_callV (pc' := 1244) (ci := 12) (q := 105) (As := [.int (sc.2 (i + 1)), .int (sc.2 (i + 2)), .int (sc.2 (i + 3)), .int (sc.2 (i + 4)), .int (sc.2 (i + 5))]) (a2 := a) (b2 := b) wv_L_144 rfl dL_law_1241 hC2 l1 rfl ⟨by omega, by omega, by omega⟩ (Nat.le_of_ble_eq_true rfl) rfl (fun r h2 hq2 => ?_)
  obtain ⟨rfl, hJ⟩ := hK2 r h2 hq2
  show jb_J sc RL cL_law 4 (Option.some .boolean) false 62 a b 1244 [some (.ref 1000000), some (.ref 0), some (.ref 105), some (.int (nI i))] [.int v, .int v] h2 Q
  refine jb_icmp_eq (tgt := 1357) (pc' := 1247) dL_law_1244 (by decide) rfl (fun _ => k h2 hJ) (fun z => absurd rfl z)
set_option maxRecDepth 100000 in
set_option maxHeartbeats 4000000 in
theorem lw_c31 {sc : Nat × (Nat → Int32)} {i c a b : Nat} {h : jb_H} {Q : Option Value → jb_H → Prop} (hs : sc.1 ≤ 384) (hi : i + 6 ≤ sc.1) (hc : c < 900) (hI : jI c h) (k : ∀ h2, jI (c + 1) h2 → jb_J sc RL cL_law 4 (Option.some .boolean) false 62 a b 1357 [some (.ref 1000000), some (.ref 0), some (.ref 105), some (.int (nI i))] [] h2 Q) : jb_J sc RL cL_law 4 (Option.some .boolean) false 62 (a + 1) (b + 50) 1249 [some (.ref 1000000), some (.ref 0), some (.ref 105), some (.int (nI i))] [] h Q := by
  have P : jPc _ _ _ _ _ _ _ _ _ _ := p_image (sc := sc)  c h hc hI
  obtain ⟨d1, a1, b1, Q1, k1, k2, k3, hC, hK⟩ := P
  obtain ⟨f0, l0⟩ := hI.l0
  refine jb_aload_n (pc' := 1250) dL_law_1249 rfl rfl ?_
  refine jb_callV (pc' := 1253) (ci := 11) (q := 0) (As := []) (a2 := a) (b2 := b) wv_L_145 rfl dL_law_1250 hC l0 rfl ⟨by omega, by omega, by omega⟩ (Nat.le_of_ble_eq_true rfl) rfl (fun r h1 hq => ?_)
  obtain ⟨v, rfl, ⟨f1, l1⟩, d2, Q2, k4, hC2, hK2⟩ := hK r h1 hq
  show jb_J sc RL cL_law 4 (Option.some .boolean) false 62 a b 1253 [some (.ref 1000000), some (.ref 0), some (.ref 105), some (.int (nI i))] [.int v] h1 Q
  refine jb_aload_n (pc' := 1254) dL_law_1253 rfl rfl ?_
  refine jb_callV (pc' := 1257) (ci := 12) (q := 105) (As := []) (a2 := a) (b2 := b) wv_L_148 rfl dL_law_1254 hC2 l1 rfl ⟨by omega, by omega, by omega⟩ (Nat.le_of_ble_eq_true rfl) rfl (fun r h2 hq2 => ?_)
  obtain ⟨rfl, hJ⟩ := hK2 r h2 hq2
  show jb_J sc RL cL_law 4 (Option.some .boolean) false 62 a b 1257 [some (.ref 1000000), some (.ref 0), some (.ref 105), some (.int (nI i))] [.int v, .int v] h2 Q
  refine jb_icmp_eq (tgt := 1357) (pc' := 1260) dL_law_1257 (by decide) rfl (fun _ => k h2 hJ) (fun z => absurd rfl z)
set_option maxRecDepth 100000 in
set_option maxHeartbeats 4000000 in
theorem lw_c32 {sc : Nat × (Nat → Int32)} {i c a b : Nat} {h : jb_H} {Q : Option Value → jb_H → Prop} (hs : sc.1 ≤ 384) (hi : i + 6 ≤ sc.1) (hc : c < 900) (hI : jI c h) (k : ∀ h2, jI (c + 1) h2 → jb_J sc RL cL_law 4 (Option.some .boolean) false 62 a b 1357 [some (.ref 1000000), some (.ref 0), some (.ref 105), some (.int (nI i))] [] h2 Q) : jb_J sc RL cL_law 4 (Option.some .boolean) false 62 (a + 1) (b + 50) 1262 [some (.ref 1000000), some (.ref 0), some (.ref 105), some (.int (nI i))] [] h Q := by
  have P : jPc _ _ _ _ _ _ _ _ _ _ := p_restore (sc := sc)  c h hc hI
  obtain ⟨d1, a1, b1, Q1, k1, k2, k3, hC, hK⟩ := P
  obtain ⟨f0, l0⟩ := hI.l0
  refine jb_aload_n (pc' := 1263) dL_law_1262 rfl rfl ?_
  refine jb_callV (pc' := 1266) (ci := 11) (q := 0) (As := []) (a2 := a) (b2 := b) wv_L_149 rfl dL_law_1263 hC l0 rfl ⟨by omega, by omega, by omega⟩ (Nat.le_of_ble_eq_true rfl) rfl (fun r h1 hq => ?_)
  obtain ⟨v, rfl, ⟨f1, l1⟩, d2, Q2, k4, hC2, hK2⟩ := hK r h1 hq
  show jb_J sc RL cL_law 4 (Option.some .boolean) false 62 a b 1266 [some (.ref 1000000), some (.ref 0), some (.ref 105), some (.int (nI i))] [.int v] h1 Q
  refine jb_aload_n (pc' := 1267) dL_law_1266 rfl rfl ?_
  refine jb_callV (pc' := 1270) (ci := 12) (q := 105) (As := []) (a2 := a) (b2 := b) wv_L_152 rfl dL_law_1267 hC2 l1 rfl ⟨by omega, by omega, by omega⟩ (Nat.le_of_ble_eq_true rfl) rfl (fun r h2 hq2 => ?_)
  obtain ⟨rfl, hJ⟩ := hK2 r h2 hq2
  show jb_J sc RL cL_law 4 (Option.some .boolean) false 62 a b 1270 [some (.ref 1000000), some (.ref 0), some (.ref 105), some (.int (nI i))] [.int v, .int v] h2 Q
  refine jb_icmp_eq (tgt := 1357) (pc' := 1273) dL_law_1270 (by decide) rfl (fun _ => k h2 hJ) (fun z => absurd rfl z)
set_option maxRecDepth 100000 in
set_option maxHeartbeats 4000000 in
theorem lw_c33 {sc : Nat × (Nat → Int32)} {i c a b : Nat} {h : jb_H} {Q : Option Value → jb_H → Prop} (hs : sc.1 ≤ 384) (hi : i + 6 ≤ sc.1) (hc : c < 900) (hI : jI c h) (k : ∀ h2, jI (c + 1) h2 → jb_J sc RL cL_law 4 (Option.some .boolean) false 62 a b 1357 [some (.ref 1000000), some (.ref 0), some (.ref 105), some (.int (nI i))] [] h2 Q) : jb_J sc RL cL_law 4 (Option.some .boolean) false 62 (a + 1) (b + 50) 1275 [some (.ref 1000000), some (.ref 0), some (.ref 105), some (.int (nI i))] [] h Q := by
  have P : jPc _ _ _ _ _ _ _ _ _ _ := p_tell (sc := sc) ((sc.2 (i + 1))) c h hc hI
  obtain ⟨d1, a1, b1, Q1, k1, k2, k3, hC, hK⟩ := P
  obtain ⟨f0, l0⟩ := hI.l0
  refine jb_aload_n (pc' := 1276) dL_law_1275 rfl rfl ?_
  refine jb_aload_n (pc' := 1277) dL_law_1276 rfl rfl ?_
  refine jb_iload_n (pc' := 1278) dL_law_1277 rfl rfl ?_
  refine jb_iconst (pc' := 1279) 1 dL_law_1278 (by decide) rfl ?_
  refine jb_iadd (pc' := 1280) dL_law_1279 rfl ?_
  refine jb_sload (pc' := 1281) (i9 := i + 1) dL_law_1280 (jl_ix 1 (by omega)) (by omega) rfl ?_
  refine jb_callV (pc' := 1284) (ci := 11) (q := 0) (As := [.int (sc.2 (i + 1))]) (a2 := a) (b2 := b) wv_L_153 rfl dL_law_1281 hC l0 rfl ⟨by omega, by omega, by omega⟩ (Nat.le_of_ble_eq_true rfl) rfl (fun r h1 hq => ?_)
  obtain ⟨v, rfl, ⟨f1, l1⟩, d2, Q2, k4, hC2, hK2⟩ := hK r h1 hq
  show jb_J sc RL cL_law 4 (Option.some .boolean) false 62 a b 1284 [some (.ref 1000000), some (.ref 0), some (.ref 105), some (.int (nI i))] [.int v] h1 Q
  refine jb_aload_n (pc' := 1285) dL_law_1284 rfl rfl ?_
  refine jb_aload_n (pc' := 1286) dL_law_1285 rfl rfl ?_
  refine jb_iload_n (pc' := 1287) dL_law_1286 rfl rfl ?_
  refine jb_iconst (pc' := 1288) 1 dL_law_1287 (by decide) rfl ?_
  refine jb_iadd (pc' := 1289) dL_law_1288 rfl ?_
  refine jb_sload (pc' := 1290) (i9 := i + 1) dL_law_1289 (jl_ix 1 (by omega)) (by omega) rfl ?_
  refine jb_callV (pc' := 1293) (ci := 12) (q := 105) (As := [.int (sc.2 (i + 1))]) (a2 := a) (b2 := b) wv_L_156 rfl dL_law_1290 hC2 l1 rfl ⟨by omega, by omega, by omega⟩ (Nat.le_of_ble_eq_true rfl) rfl (fun r h2 hq2 => ?_)
  obtain ⟨rfl, hJ⟩ := hK2 r h2 hq2
  show jb_J sc RL cL_law 4 (Option.some .boolean) false 62 a b 1293 [some (.ref 1000000), some (.ref 0), some (.ref 105), some (.int (nI i))] [.int v, .int v] h2 Q
  refine jb_icmp_eq (tgt := 1357) (pc' := 1296) dL_law_1293 (by decide) rfl (fun _ => k h2 hJ) (fun z => absurd rfl z)
set_option maxRecDepth 100000 in
set_option maxHeartbeats 4000000 in
theorem lw_c34 {sc : Nat × (Nat → Int32)} {i c a b : Nat} {h : jb_H} {Q : Option Value → jb_H → Prop} (hs : sc.1 ≤ 384) (hi : i + 6 ≤ sc.1) (hc : c < 900) (hI : jI c h) (k : ∀ h2, jI (c + 1) h2 → jb_J sc RL cL_law 4 (Option.some .boolean) false 62 a b 1357 [some (.ref 1000000), some (.ref 0), some (.ref 105), some (.int (nI i))] [] h2 Q) : jb_J sc RL cL_law 4 (Option.some .boolean) false 62 (a + 1) (b + 50) 1298 [some (.ref 1000000), some (.ref 0), some (.ref 105), some (.int (nI i))] [] h Q := by
  have P : jPc _ _ _ _ _ _ _ _ _ _ := p_check (sc := sc)  c h hc hI
  obtain ⟨d1, a1, b1, Q1, k1, k2, k3, hC, hK⟩ := P
  obtain ⟨f0, l0⟩ := hI.l0
  refine jb_aload_n (pc' := 1299) dL_law_1298 rfl rfl ?_
  refine jb_callV (pc' := 1302) (ci := 11) (q := 0) (As := []) (a2 := a) (b2 := b) wv_L_157 rfl dL_law_1299 hC l0 rfl ⟨by omega, by omega, by omega⟩ (Nat.le_of_ble_eq_true rfl) rfl (fun r h1 hq => ?_)
  obtain ⟨v, rfl, ⟨f1, l1⟩, d2, Q2, k4, hC2, hK2⟩ := hK r h1 hq
  show jb_J sc RL cL_law 4 (Option.some .boolean) false 62 a b 1302 [some (.ref 1000000), some (.ref 0), some (.ref 105), some (.int (nI i))] [.int v] h1 Q
  refine jb_aload_n (pc' := 1303) dL_law_1302 rfl rfl ?_
  refine jb_callV (pc' := 1306) (ci := 12) (q := 105) (As := []) (a2 := a) (b2 := b) wv_L_160 rfl dL_law_1303 hC2 l1 rfl ⟨by omega, by omega, by omega⟩ (Nat.le_of_ble_eq_true rfl) rfl (fun r h2 hq2 => ?_)
  obtain ⟨rfl, hJ⟩ := hK2 r h2 hq2
  show jb_J sc RL cL_law 4 (Option.some .boolean) false 62 a b 1306 [some (.ref 1000000), some (.ref 0), some (.ref 105), some (.int (nI i))] [.int v, .int v] h2 Q
  refine jb_icmp_eq (tgt := 1357) (pc' := 1309) dL_law_1306 (by decide) rfl (fun _ => k h2 hJ) (fun z => absurd rfl z)
set_option maxRecDepth 100000 in
set_option maxHeartbeats 4000000 in
theorem lw_c35 {sc : Nat × (Nat → Int32)} {i c a b : Nat} {h : jb_H} {Q : Option Value → jb_H → Prop} (hs : sc.1 ≤ 384) (hi : i + 6 ≤ sc.1) (hc : c < 900) (hI : jI c h) (k : ∀ h2, jI (c + 1) h2 → jb_J sc RL cL_law 4 (Option.some .boolean) false 62 a b 1357 [some (.ref 1000000), some (.ref 0), some (.ref 105), some (.int (nI i))] [] h2 Q) : jb_J sc RL cL_law 4 (Option.some .boolean) false 62 (a + 1) (b + 50) 1311 [some (.ref 1000000), some (.ref 0), some (.ref 105), some (.int (nI i))] [] h Q := by
  have P : jPc _ _ _ _ _ _ _ _ _ _ := p_count (sc := sc) ((sc.2 (i + 1))) c h hc hI
  obtain ⟨d1, a1, b1, Q1, k1, k2, k3, hC, hK⟩ := P
  obtain ⟨f0, l0⟩ := hI.l0
  refine jb_aload_n (pc' := 1312) dL_law_1311 rfl rfl ?_
  refine jb_aload_n (pc' := 1313) dL_law_1312 rfl rfl ?_
  refine jb_iload_n (pc' := 1314) dL_law_1313 rfl rfl ?_
  refine jb_iconst (pc' := 1315) 1 dL_law_1314 (by decide) rfl ?_
  refine jb_iadd (pc' := 1316) dL_law_1315 rfl ?_
  refine jb_sload (pc' := 1317) (i9 := i + 1) dL_law_1316 (jl_ix 1 (by omega)) (by omega) rfl ?_
  refine jb_callV (pc' := 1320) (ci := 11) (q := 0) (As := [.int (sc.2 (i + 1))]) (a2 := a) (b2 := b) wv_L_161 rfl dL_law_1317 hC l0 rfl ⟨by omega, by omega, by omega⟩ (Nat.le_of_ble_eq_true rfl) rfl (fun r h1 hq => ?_)
  obtain ⟨v, rfl, ⟨f1, l1⟩, d2, Q2, k4, hC2, hK2⟩ := hK r h1 hq
  show jb_J sc RL cL_law 4 (Option.some .boolean) false 62 a b 1320 [some (.ref 1000000), some (.ref 0), some (.ref 105), some (.int (nI i))] [.int v] h1 Q
  refine jb_aload_n (pc' := 1321) dL_law_1320 rfl rfl ?_
  refine jb_aload_n (pc' := 1322) dL_law_1321 rfl rfl ?_
  refine jb_iload_n (pc' := 1323) dL_law_1322 rfl rfl ?_
  refine jb_iconst (pc' := 1324) 1 dL_law_1323 (by decide) rfl ?_
  refine jb_iadd (pc' := 1325) dL_law_1324 rfl ?_
  refine jb_sload (pc' := 1326) (i9 := i + 1) dL_law_1325 (jl_ix 1 (by omega)) (by omega) rfl ?_
  refine jb_callV (pc' := 1329) (ci := 12) (q := 105) (As := [.int (sc.2 (i + 1))]) (a2 := a) (b2 := b) wv_L_164 rfl dL_law_1326 hC2 l1 rfl ⟨by omega, by omega, by omega⟩ (Nat.le_of_ble_eq_true rfl) rfl (fun r h2 hq2 => ?_)
  obtain ⟨rfl, hJ⟩ := hK2 r h2 hq2
  show jb_J sc RL cL_law 4 (Option.some .boolean) false 62 a b 1329 [some (.ref 1000000), some (.ref 0), some (.ref 105), some (.int (nI i))] [.int v, .int v] h2 Q
  refine jb_icmp_eq (tgt := 1357) (pc' := 1332) dL_law_1329 (by decide) rfl (fun _ => k h2 hJ) (fun z => absurd rfl z)
set_option maxRecDepth 100000 in
set_option maxHeartbeats 4000000 in
theorem lw_c36 {sc : Nat × (Nat → Int32)} {i c a b : Nat} {h : jb_H} {Q : Option Value → jb_H → Prop} (hs : sc.1 ≤ 384) (hi : i + 6 ≤ sc.1) (hc : c < 900) (hI : jI c h) (k : ∀ h2, jI (c + 1) h2 → jb_J sc RL cL_law 4 (Option.some .boolean) false 62 a b 1357 [some (.ref 1000000), some (.ref 0), some (.ref 105), some (.int (nI i))] [] h2 Q) : jb_J sc RL cL_law 4 (Option.some .boolean) false 62 (a + 1) (b + 50) 1334 [some (.ref 1000000), some (.ref 0), some (.ref 105), some (.int (nI i))] [] h Q := by
  have P : jPc _ _ _ _ _ _ _ _ _ _ := p_told (sc := sc) ((sc.2 (i + 1))) c h hc hI
  obtain ⟨d1, a1, b1, Q1, k1, k2, k3, hC, hK⟩ := P
  obtain ⟨f0, l0⟩ := hI.l0
  refine jb_aload_n (pc' := 1335) dL_law_1334 rfl rfl ?_
  refine jb_aload_n (pc' := 1336) dL_law_1335 rfl rfl ?_
  refine jb_iload_n (pc' := 1337) dL_law_1336 rfl rfl ?_
  refine jb_iconst (pc' := 1338) 1 dL_law_1337 (by decide) rfl ?_
  refine jb_iadd (pc' := 1339) dL_law_1338 rfl ?_
  refine jb_sload (pc' := 1340) (i9 := i + 1) dL_law_1339 (jl_ix 1 (by omega)) (by omega) rfl ?_
  refine jb_callV (pc' := 1343) (ci := 11) (q := 0) (As := [.int (sc.2 (i + 1))]) (a2 := a) (b2 := b) wv_L_165 rfl dL_law_1340 hC l0 rfl ⟨by omega, by omega, by omega⟩ (Nat.le_of_ble_eq_true rfl) rfl (fun r h1 hq => ?_)
  obtain ⟨v, rfl, ⟨f1, l1⟩, d2, Q2, k4, hC2, hK2⟩ := hK r h1 hq
  show jb_J sc RL cL_law 4 (Option.some .boolean) false 62 a b 1343 [some (.ref 1000000), some (.ref 0), some (.ref 105), some (.int (nI i))] [.int v] h1 Q
  refine jb_aload_n (pc' := 1344) dL_law_1343 rfl rfl ?_
  refine jb_aload_n (pc' := 1345) dL_law_1344 rfl rfl ?_
  refine jb_iload_n (pc' := 1346) dL_law_1345 rfl rfl ?_
  refine jb_iconst (pc' := 1347) 1 dL_law_1346 (by decide) rfl ?_
  refine jb_iadd (pc' := 1348) dL_law_1347 rfl ?_
  refine jb_sload (pc' := 1349) (i9 := i + 1) dL_law_1348 (jl_ix 1 (by omega)) (by omega) rfl ?_
  refine jb_callV (pc' := 1352) (ci := 12) (q := 105) (As := [.int (sc.2 (i + 1))]) (a2 := a) (b2 := b) wv_L_168 rfl dL_law_1349 hC2 l1 rfl ⟨by omega, by omega, by omega⟩ (Nat.le_of_ble_eq_true rfl) rfl (fun r h2 hq2 => ?_)
  obtain ⟨rfl, hJ⟩ := hK2 r h2 hq2
  show jb_J sc RL cL_law 4 (Option.some .boolean) false 62 a b 1352 [some (.ref 1000000), some (.ref 0), some (.ref 105), some (.int (nI i))] [.int v, .int v] h2 Q
  refine jb_icmp_eq (tgt := 1357) (pc' := 1355) dL_law_1352 (by decide) rfl (fun _ => k h2 hJ) (fun z => absurd rfl z)
set_option maxRecDepth 100000 in
set_option maxHeartbeats 4000000 in
theorem l_law {sc : Nat × (Nat → Int32)} (hs : sc.1 ≤ 384) : ∀ (k i c : Nat) (h : jb_H), sc.1 < i + 6 * k + 6 → i ≤ 390 → c + k ≤ 800 → jI c h → jb_J sc RL cL_law 4 (Option.some .boolean) false 62 k (50 * k) 18 [some (.ref 1000000), some (.ref 0), some (.ref 105), some (.int (nI i))] [] h (fun r _ => r = some (.int 1)) := by
  intro k
  induction k with
  | zero =>
    intro i c h h1 h2 h3 hI
    refine jb_iload_n (pc' := 19) dL_law_18 rfl rfl ?_
    refine jb_aload_n (pc' := 20) dL_law_19 rfl rfl ?_
    refine jb_slen (pc' := 21) dL_law_20 rfl ?_
    refine jb_bipush (pc' := 23) 6 dL_law_21 (by decide) rfl ?_
    refine jb_isub (pc' := 24) dL_law_23 rfl ?_
    refine jb_icmp_gt (tgt := 1363) (pc' := 27) dL_law_24 (by decide) rfl (fun _ => ?_) (fun z => absurd ((jq_gt hs (by omega)).mpr (by omega)) z)
    refine jb_iconst (pc' := 1364) 1 dL_law_1363 (by decide) rfl ?_
    exact jb_iret dL_law_1364 rfl rfl
  | succ k ih =>
    intro i c h h1 h2 h3 hI
    rw [show 50 * (k + 1) = 50 * k + 50 from by omega]
    refine jb_iload_n (pc' := 19) dL_law_18 rfl rfl ?_
    refine jb_aload_n (pc' := 20) dL_law_19 rfl rfl ?_
    refine jb_slen (pc' := 21) dL_law_20 rfl ?_
    refine jb_bipush (pc' := 23) 6 dL_law_21 (by decide) rfl ?_
    refine jb_isub (pc' := 24) dL_law_23 rfl ?_
    refine jb_icmp_gt (tgt := 1363) (pc' := 27) dL_law_24 (by decide) rfl (fun _ => ?_) (fun z => ?_)
    · refine jb_iconst (pc' := 1364) 1 dL_law_1363 (by decide) rfl ?_
      exact jb_iret dL_law_1364 rfl rfl
    · have hi : i + 6 ≤ sc.1 := by
        have := (not_congr (jq_gt hs (by omega))).mp z
        omega
      have T : ∀ h2, jI (c + 1) h2 → jb_J sc RL cL_law 4 (Option.some .boolean) false 62 k (50 * k) 1357 [some (.ref 1000000), some (.ref 0), some (.ref 105), some (.int (nI i))] [] h2 (fun r _ => r = some (.int 1)) := by
        intro g hg
        refine jb_iinc_ (pc' := 1360) (nI (i + 6)) dL_law_1357 (by decide) rfl (jb_inc i 6) (jb_at3 rfl) rfl ?_
        refine jb_goto (pc' := 18) dL_law_1360 (by decide) ?_
        exact ih (i + 6) (c + 1) g (by omega) (by omega) (by omega) hg
      refine jb_aload_n (pc' := 28) dL_law_27 rfl rfl ?_
      refine jb_iload_n (pc' := 29) dL_law_28 rfl rfl ?_
      refine jb_sload (pc' := 30) (i9 := i) dL_law_29 (jb_ix_nI (by omega)) (by omega) rfl ?_
      refine jb_bipush (pc' := 32) 63 dL_law_30 (by decide) rfl ?_
      refine jb_iand (pc' := 33) dL_law_32 rfl ?_
      obtain ⟨b0, hb0, hv⟩ : ∃ b0, b0 < 64 ∧ sc.2 i &&& 63 = nI b0 := pk_andE (sc.2 i) 6 (by decide)
      refine jb_top (v := .int (sc.2 i &&& 63)) (w := .int (nI b0)) (jb_vI hv) ?_
      by_cases hb : b0 < 37
      · clear hv hb0
        match b0, hb with
        | 0, _ => exact jb_tableIn (pc' := 196) (off := 163) dL_law_33 (by decide) (by decide) (by decide +kernel) (by decide) (lw_c0 hs hi (by omega) hI T)
        | 1, _ => exact jb_tableIn (pc' := 229) (off := 196) dL_law_33 (by decide) (by decide) (by decide +kernel) (by decide) (lw_c1 hs hi (by omega) hI T)
        | 2, _ => exact jb_tableIn (pc' := 262) (off := 229) dL_law_33 (by decide) (by decide) (by decide +kernel) (by decide) (lw_c2 hs hi (by omega) hI T)
        | 3, _ => exact jb_tableIn (pc' := 295) (off := 262) dL_law_33 (by decide) (by decide) (by decide +kernel) (by decide) (lw_c3 hs hi (by omega) hI T)
        | 4, _ => exact jb_tableIn (pc' := 328) (off := 295) dL_law_33 (by decide) (by decide) (by decide +kernel) (by decide) (lw_c4 hs hi (by omega) hI T)
        | 5, _ => exact jb_tableIn (pc' := 361) (off := 328) dL_law_33 (by decide) (by decide) (by decide +kernel) (by decide) (lw_c5 hs hi (by omega) hI T)
        | 6, _ => exact jb_tableIn (pc' := 394) (off := 361) dL_law_33 (by decide) (by decide) (by decide +kernel) (by decide) (lw_c6 hs hi (by omega) hI T)
        | 7, _ => exact jb_tableIn (pc' := 427) (off := 394) dL_law_33 (by decide) (by decide) (by decide +kernel) (by decide) (lw_c7 hs hi (by omega) hI T)
        | 8, _ => exact jb_tableIn (pc' := 460) (off := 427) dL_law_33 (by decide) (by decide) (by decide +kernel) (by decide) (lw_c8 hs hi (by omega) hI T)
        | 9, _ => exact jb_tableIn (pc' := 493) (off := 460) dL_law_33 (by decide) (by decide) (by decide +kernel) (by decide) (lw_c9 hs hi (by omega) hI T)
        | 10, _ => exact jb_tableIn (pc' := 526) (off := 493) dL_law_33 (by decide) (by decide) (by decide +kernel) (by decide) (lw_c10 hs hi (by omega) hI T)
        | 11, _ => exact jb_tableIn (pc' := 559) (off := 526) dL_law_33 (by decide) (by decide) (by decide +kernel) (by decide) (lw_c11 hs hi (by omega) hI T)
        | 12, _ => exact jb_tableIn (pc' := 572) (off := 539) dL_law_33 (by decide) (by decide) (by decide +kernel) (by decide) (lw_c12 hs hi (by omega) hI T)
        | 13, _ => exact jb_tableIn (pc' := 585) (off := 552) dL_law_33 (by decide) (by decide) (by decide +kernel) (by decide) (lw_c13 hs hi (by omega) hI T)
        | 14, _ => exact jb_tableIn (pc' := 648) (off := 615) dL_law_33 (by decide) (by decide) (by decide +kernel) (by decide) (lw_c14 hs hi (by omega) hI T)
        | 15, _ => exact jb_tableIn (pc' := 671) (off := 638) dL_law_33 (by decide) (by decide) (by decide +kernel) (by decide) (lw_c15 hs hi (by omega) hI T)
        | 16, _ => exact jb_tableIn (pc' := 734) (off := 701) dL_law_33 (by decide) (by decide) (by decide +kernel) (by decide) (lw_c16 hs hi (by omega) hI T)
        | 17, _ => exact jb_tableIn (pc' := 757) (off := 724) dL_law_33 (by decide) (by decide) (by decide +kernel) (by decide) (lw_c17 hs hi (by omega) hI T)
        | 18, _ => exact jb_tableIn (pc' := 780) (off := 747) dL_law_33 (by decide) (by decide) (by decide +kernel) (by decide) (lw_c18 hs hi (by omega) hI T)
        | 19, _ => exact jb_tableIn (pc' := 813) (off := 780) dL_law_33 (by decide) (by decide) (by decide +kernel) (by decide) (lw_c19 hs hi (by omega) hI T)
        | 20, _ => exact jb_tableIn (pc' := 856) (off := 823) dL_law_33 (by decide) (by decide) (by decide +kernel) (by decide) (lw_c20 hs hi (by omega) hI T)
        | 21, _ => exact jb_tableIn (pc' := 879) (off := 846) dL_law_33 (by decide) (by decide) (by decide +kernel) (by decide) (lw_c21 hs hi (by omega) hI T)
        | 22, _ => exact jb_tableIn (pc' := 912) (off := 879) dL_law_33 (by decide) (by decide) (by decide +kernel) (by decide) (lw_c22 hs hi (by omega) hI T)
        | 23, _ => exact jb_tableIn (pc' := 945) (off := 912) dL_law_33 (by decide) (by decide) (by decide +kernel) (by decide) (lw_c23 hs hi (by omega) hI T)
        | 24, _ => exact jb_tableIn (pc' := 988) (off := 955) dL_law_33 (by decide) (by decide) (by decide +kernel) (by decide) (lw_c24 hs hi (by omega) hI T)
        | 25, _ => exact jb_tableIn (pc' := 1011) (off := 978) dL_law_33 (by decide) (by decide) (by decide +kernel) (by decide) (lw_c25 hs hi (by omega) hI T)
        | 26, _ => exact jb_tableIn (pc' := 1034) (off := 1001) dL_law_33 (by decide) (by decide) (by decide +kernel) (by decide) (lw_c26 hs hi (by omega) hI T)
        | 27, _ => exact jb_tableIn (pc' := 1077) (off := 1044) dL_law_33 (by decide) (by decide) (by decide +kernel) (by decide) (lw_c27 hs hi (by omega) hI T)
        | 28, _ => exact jb_tableIn (pc' := 1100) (off := 1067) dL_law_33 (by decide) (by decide) (by decide +kernel) (by decide) (lw_c28 hs hi (by omega) hI T)
        | 29, _ => exact jb_tableIn (pc' := 1143) (off := 1110) dL_law_33 (by decide) (by decide) (by decide +kernel) (by decide) (lw_c29 hs hi (by omega) hI T)
        | 30, _ => exact jb_tableIn (pc' := 1186) (off := 1153) dL_law_33 (by decide) (by decide) (by decide +kernel) (by decide) (lw_c30 hs hi (by omega) hI T)
        | 31, _ => exact jb_tableIn (pc' := 1249) (off := 1216) dL_law_33 (by decide) (by decide) (by decide +kernel) (by decide) (lw_c31 hs hi (by omega) hI T)
        | 32, _ => exact jb_tableIn (pc' := 1262) (off := 1229) dL_law_33 (by decide) (by decide) (by decide +kernel) (by decide) (lw_c32 hs hi (by omega) hI T)
        | 33, _ => exact jb_tableIn (pc' := 1275) (off := 1242) dL_law_33 (by decide) (by decide) (by decide +kernel) (by decide) (lw_c33 hs hi (by omega) hI T)
        | 34, _ => exact jb_tableIn (pc' := 1298) (off := 1265) dL_law_33 (by decide) (by decide) (by decide +kernel) (by decide) (lw_c34 hs hi (by omega) hI T)
        | 35, _ => exact jb_tableIn (pc' := 1311) (off := 1278) dL_law_33 (by decide) (by decide) (by decide +kernel) (by decide) (lw_c35 hs hi (by omega) hI T)
        | 36, _ => exact jb_tableIn (pc' := 1334) (off := 1301) dL_law_33 (by decide) (by decide) (by decide +kernel) (by decide) (lw_c36 hs hi (by omega) hI T)
        | b9 + 37, hb9 => exact absurd hb9 (by omega)
      · refine jb_tableOut (pc' := 1357) dL_law_33 (Or.inr (by rw [nI_toInt (by omega)]; omega)) (by decide) ?_
        exact (T h hI.no).mono (Nat.le_refl _) (by omega) (by omega) (fun _ _ q => q)
