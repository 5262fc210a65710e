/-! the law's first helper: it answers true -/
set_option maxRecDepth 100000 in
set_option maxHeartbeats 4000000 in
theorem c_holds (lc : Launch) (G : Gc) (E : Wd) (nh : Nat) {Ψ : Fs} (h : isX G E Ψ) (hk : okX Ψ) (hp : okP Ψ.1) : CI lc G 6 yL_holds cL_holds 6 .boolean [.ref (gb G + 0)] E nh 0 0 (fun r E' => r = 1 ∧ E' = E) := by
  refine CI.mk (by decide +kernel) rfl (Nat.le_of_ble_eq_true rfl) ?_
  intro X hG hL cx hR hI
  subst hG; subst hL
  show V X E (nh, 0, 0) 0 [some (.ref (gb (fG X) + 0)), none, none, none, none, none] []
  have hx0 := h.1
  obtain ⟨a0, a1, a2, a3, a4⟩ := vA (Ψ := Ψ)
  obtain ⟨nC0, nC1, nC2, nC3, nC4, nC5, nC6, nC8, nC11, nC13, nC20, nC25, nC26⟩ := vC (Ψ := Ψ)
  obtain ⟨y0, y1, y2, y3, y4, y5, y6, y7, y8, y9, y10, y11⟩ := id hk.1.1
  have n9 := vC9 hk hp
  have p16 := hp.2.2.2.2.2
  have hlm := hk.1.2.2.2.2.1
  have hls := hk.1.2.2.1.1
  have hgr := gre_in hk
  have hns := cnt_le (k1 Ψ.1.2.2.2) (Ψ.1.1 18) Ψ.1.2.2.2.length
  have hns2 : nS Ψ ≤ Ψ.1.2.2.2.length := hns
  have fin : ∀ (w4 w5 : Option Value), V X E (nh, 0, 0) 376 [some (.ref (gb (fG X) + 0)), some (.int (iI 1)), some (.int (iI (vCnt Ψ 2))), some (.int (iI (Ψ.1.2.2.2.length : Int))), w4, w5] [] := by
    intro w4 w5
    refine v_iload_n (pc := 376) cx rfl ga1 dL_holds_376 ?_
    refine v_if_eq (pc := 377) cx 415 dL_holds_377 rfl (by omega) (fun c377 => ?_) (fun c377 => ?_)
    · omega
    refine v_iload_n (pc := 380) cx rfl ga3 dL_holds_380 ?_
    refine v_iload_n (pc := 381) cx rfl ga2 dL_holds_381 ?_
    refine v_icmp_ne (pc := 382) cx 415 dL_holds_382 rfl (by omega) (fun c382 => ?_) (fun c382 => ?_)
    · omega
    refine v_iload_n (pc := 385) cx rfl ga2 dL_holds_385 ?_
    refine v_if_ne (pc := 386) cx 393 dL_holds_386 rfl (by omega) (fun c386 => ?_) (fun c386 => ?_)
    · refine v_iconst (pc := 393) cx dL_holds_393 ?_
      refine v_aload_n (pc := 394) cx rfl ga0 dL_holds_394 ?_
      refine v_callVI (pc := 395) cx hR (c_greatestStorm _ _ _ _ h hk) mlL_28 (by decide) hx0 rfl rfl rfl (Nat.le_of_ble_eq_true rfl) ⟨Nat.le_refl _, Nat.le_refl _⟩ dL_holds_395 (fun r395 E395 hP => ?_)
      obtain ⟨rfl, rfl⟩ := hP
      refine v_bipush (pc := 398) cx (by decide) dL_holds_398 ?_
      refine v_icmp_ne (pc := 400) cx 407 dL_holds_400 rfl (by omega) (fun c400 => ?_) (fun c400 => ?_)
      · refine v_iconst (pc := 407) cx dL_holds_407 ?_
        refine v_icmp_ne (pc := 408) cx 415 dL_holds_408 rfl (by omega) (fun c408 => ?_) (fun c408 => ?_)
        · omega
        refine v_iconst (pc := 411) cx dL_holds_411 ?_
        refine v_goto (pc := 412) cx 416 dL_holds_412 rfl ?_
        refine v_ireturn (pc := 416) cx hI rfl ?_ dL_holds_416
        exact ⟨rfl, rfl⟩
      · omega
    · refine v_iconst (pc := 389) cx dL_holds_389 ?_
      refine v_goto (pc := 390) cx 394 dL_holds_390 rfl ?_
      refine v_aload_n (pc := 394) cx rfl ga0 dL_holds_394 ?_
      refine v_callVI (pc := 395) cx hR (c_greatestStorm _ _ _ _ h hk) mlL_28 (by decide) hx0 rfl rfl rfl (Nat.le_of_ble_eq_true rfl) ⟨Nat.le_refl _, Nat.le_refl _⟩ dL_holds_395 (fun r395 E395 hP => ?_)
      obtain ⟨rfl, rfl⟩ := hP
      refine v_bipush (pc := 398) cx (by decide) dL_holds_398 ?_
      refine v_icmp_ne (pc := 400) cx 407 dL_holds_400 rfl (by omega) (fun c400 => ?_) (fun c400 => ?_)
      · omega
      refine v_iconst (pc := 403) cx dL_holds_403 ?_
      refine v_goto (pc := 404) cx 408 dL_holds_404 rfl ?_
      refine v_icmp_ne (pc := 408) cx 415 dL_holds_408 rfl (by omega) (fun c408 => ?_) (fun c408 => ?_)
      · omega
      refine v_iconst (pc := 411) cx dL_holds_411 ?_
      refine v_goto (pc := 412) cx 416 dL_holds_412 rfl ?_
      refine v_ireturn (pc := 416) cx hI rfl ?_ dL_holds_416
      exact ⟨rfl, rfl⟩
  have loop3 : ∀ (d k : Nat) (la : Int), k ≤ Ψ.1.2.1.length → Ψ.1.2.1.length - k < d → (0 ≤ la ∧ la ≤ 5000) → (k < Ψ.1.2.1.length → la ≤ vSho Ψ (k : Int) 0) → V X E (nh, 0, 0) 302 [some (.ref (gb (fG X) + 0)), some (.int (iI 1)), some (.int (iI (vCnt Ψ 2))), some (.int (iI (Ψ.1.2.2.2.length : Int))), some (.int (iI la)), some (.int (iI (k : Int)))] [] := by
    intro d
    induction d with
    | zero => intro k la h1 h2; omega
    | succ d ih =>
      intro k la hk1 hd hla hle
      refine v_iload (pc := 302) cx ga5 dL_holds_302 ?_
      refine v_aload_n (pc := 304) cx rfl ga0 dL_holds_304 ?_
      refine v_iconst (pc := 305) cx dL_holds_305 ?_
      refine v_callVI (pc := 306) cx hR (c_count _ _ _ _ h hk (by omega)) mlL_15 (by decide) hx0 rfl rfl rfl (Nat.le_of_ble_eq_true rfl) ⟨Nat.le_refl _, Nat.le_refl _⟩ dL_holds_306 (fun r306 E306 hP => ?_)
      obtain ⟨rfl, rfl⟩ := hP
      refine v_icmp_ge (pc := 309) cx 376 dL_holds_309 rfl (by omega) (fun c309 => ?_) (fun c309 => ?_)
      · exact fin _ _
      refine v_iload_n (pc := 312) cx rfl ga1 dL_holds_312 ?_
      refine v_if_eq (pc := 313) cx 376 dL_holds_313 rfl (by omega) (fun c313 => ?_) (fun c313 => ?_)
      · omega
      have hkl : k < Ψ.1.2.1.length := by omega
      obtain ⟨s1, s2, s3⟩ := sh_in hk hp hkl
      have hle := hle hkl
      refine v_aload_n (pc := 316) cx rfl ga0 dL_holds_316 ?_
      refine v_iload (pc := 317) cx ga5 dL_holds_317 ?_
      refine v_iconst (pc := 319) cx dL_holds_319 ?_
      refine v_callVI (pc := 320) cx hR (c_shower _ _ _ _ h hk (by omega) (by omega)) mlL_25 (by decide) hx0 rfl rfl rfl (Nat.le_of_ble_eq_true rfl) ⟨Nat.le_refl _, Nat.le_refl _⟩ dL_holds_320 (fun r320 E320 hP => ?_)
      obtain ⟨rfl, rfl⟩ := hP
      refine v_iload (pc := 323) cx ga4 dL_holds_323 ?_
      refine v_icmp_lt (pc := 325) cx 359 dL_holds_325 rfl (by omega) (fun c325 => ?_) (fun c325 => ?_)
      · omega
      refine v_aload_n (pc := 328) cx rfl ga0 dL_holds_328 ?_
      refine v_iload (pc := 329) cx ga5 dL_holds_329 ?_
      refine v_iconst (pc := 331) cx dL_holds_331 ?_
      refine v_callVI (pc := 332) cx hR (c_shower _ _ _ _ h hk (by omega) (by omega)) mlL_25 (by decide) hx0 rfl rfl rfl (Nat.le_of_ble_eq_true rfl) ⟨Nat.le_refl _, Nat.le_refl _⟩ dL_holds_332 (fun r332 E332 hP => ?_)
      obtain ⟨rfl, rfl⟩ := hP
      refine v_if_le (pc := 335) cx 359 dL_holds_335 rfl (by omega) (fun c335 => ?_) (fun c335 => ?_)
      · omega
      refine v_aload_n (pc := 338) cx rfl ga0 dL_holds_338 ?_
      refine v_iload (pc := 339) cx ga5 dL_holds_339 ?_
      refine v_iconst (pc := 341) cx dL_holds_341 ?_
      refine v_callVI (pc := 342) cx hR (c_shower _ _ _ _ h hk (by omega) (by omega)) mlL_25 (by decide) hx0 rfl rfl rfl (Nat.le_of_ble_eq_true rfl) ⟨Nat.le_refl _, Nat.le_refl _⟩ dL_holds_342 (fun r342 E342 hP => ?_)
      obtain ⟨rfl, rfl⟩ := hP
      refine v_aload_n (pc := 345) cx rfl ga0 dL_holds_345 ?_
      refine v_iload (pc := 346) cx ga5 dL_holds_346 ?_
      refine v_iconst (pc := 348) cx dL_holds_348 ?_
      refine v_callVI (pc := 349) cx hR (c_shower _ _ _ _ h hk (by omega) (by omega)) mlL_25 (by decide) hx0 rfl rfl rfl (Nat.le_of_ble_eq_true rfl) ⟨Nat.le_refl _, Nat.le_refl _⟩ dL_holds_349 (fun r349 E349 hP => ?_)
      obtain ⟨rfl, rfl⟩ := hP
      refine v_icmp_gt (pc := 352) cx 359 dL_holds_352 rfl (by omega) (fun c352 => ?_) (fun c352 => ?_)
      · omega
      refine v_iconst (pc := 355) cx dL_holds_355 ?_
      refine v_goto (pc := 356) cx 360 dL_holds_356 rfl ?_
      refine v_istore_n (pc := 360) cx rfl (sa1 rfl) dL_holds_360 ?_
      refine v_aload_n (pc := 361) cx rfl ga0 dL_holds_361 ?_
      refine v_iload (pc := 362) cx ga5 dL_holds_362 ?_
      refine v_iconst (pc := 364) cx dL_holds_364 ?_
      refine v_callVI (pc := 365) cx hR (c_shower _ _ _ _ h hk (by omega) (by omega)) mlL_25 (by decide) hx0 rfl rfl rfl (Nat.le_of_ble_eq_true rfl) ⟨Nat.le_refl _, Nat.le_refl _⟩ dL_holds_365 (fun r365 E365 hP => ?_)
      obtain ⟨rfl, rfl⟩ := hP
      refine v_istore (pc := 368) cx (sa4 rfl) dL_holds_368 ?_
      refine v_iinc (pc := 370) cx ga5 (sa5 rfl) dL_holds_370 ?_
      refine v_goto (pc := 373) cx 302 dL_holds_373 rfl ?_
      exact ih (k + 1) (vSho Ψ (k : Int) 0) (by omega) (by omega) s1 (fun q => (sh_in hk hp q).2.2 k (by omega))
  have loop2 : ∀ (d k : Nat) (w5 : Option Value), k ≤ nS Ψ → nS Ψ - k < d → V X E (nh, 0, 0) 197 [some (.ref (gb (fG X) + 0)), some (.int (iI 1)), some (.int (iI (vCnt Ψ 2))), some (.int (iI (bS2 Ψ k : Int))), some (.int (iI (k : Int))), w5] [] := by
    intro d
    induction d with
    | zero => intro k w5 h1 h2; omega
    | succ d ih =>
      intro k w5 hk1 hd
      refine v_iload (pc := 197) cx ga4 dL_holds_197 ?_
      refine v_aload_n (pc := 199) cx rfl ga0 dL_holds_199 ?_
      refine v_iconst (pc := 200) cx dL_holds_200 ?_
      refine v_callVI (pc := 201) cx hR (c_count _ _ _ _ h hk (by omega)) mlL_15 (by decide) hx0 rfl rfl rfl (Nat.le_of_ble_eq_true rfl) ⟨Nat.le_refl _, Nat.le_refl _⟩ dL_holds_201 (fun r201 E201 hP => ?_)
      obtain ⟨rfl, rfl⟩ := hP
      refine v_icmp_ge (pc := 204) cx 296 dL_holds_204 rfl (by omega) (fun c204 => ?_) (fun c204 => ?_)
      · refine v_iconst (pc := 296) cx dL_holds_296 ?_
        refine v_istore (pc := 297) cx (sa4 rfl) dL_holds_297 ?_
        refine v_iconst (pc := 299) cx dL_holds_299 ?_
        refine v_istore (pc := 300) cx (sa5 rfl) dL_holds_300 ?_
        have e : bS2 Ψ k = Ψ.1.2.2.2.length := by
          have : k = nS Ψ := by omega
          subst this
          exact sF_n
        rw [e]
        exact loop3 (Ψ.1.2.1.length + 1) 0 0 (Nat.zero_le _) (by omega) ⟨by omega, by omega⟩ (fun q => (sh_in hk hp q).1.1)
      refine v_iload_n (pc := 207) cx rfl ga1 dL_holds_207 ?_
      refine v_if_eq (pc := 208) cx 296 dL_holds_208 rfl (by omega) (fun c208 => ?_) (fun c208 => ?_)
      · omega
      have hkn : k < nS Ψ := by omega
      obtain ⟨t0, t1, t5, t3, t3b, tlt, t60⟩ := sto_in hk hkn
      rw [← nC20] at t3
      refine v_aload_n (pc := 211) cx rfl ga0 dL_holds_211 ?_
      refine v_iload (pc := 212) cx ga4 dL_holds_212 ?_
      refine v_iconst (pc := 214) cx dL_holds_214 ?_
      refine v_callVI (pc := 215) cx hR (c_storm _ _ _ _ h hk (by omega) (by omega)) mlL_22 (by decide) hx0 rfl rfl rfl (Nat.le_of_ble_eq_true rfl) ⟨Nat.le_refl _, Nat.le_refl _⟩ dL_holds_215 (fun r215 E215 hP => ?_)
      obtain ⟨rfl, rfl⟩ := hP
      refine v_iload_n (pc := 218) cx rfl ga3 dL_holds_218 ?_
      refine v_icmp_ne (pc := 219) cx 278 dL_holds_219 rfl (by omega) (fun c219 => ?_) (fun c219 => ?_)
      · omega
      refine v_aload_n (pc := 222) cx rfl ga0 dL_holds_222 ?_
      refine v_iload (pc := 223) cx ga4 dL_holds_223 ?_
      refine v_iconst (pc := 225) cx dL_holds_225 ?_
      refine v_callVI (pc := 226) cx hR (c_storm _ _ _ _ h hk (by omega) (by omega)) mlL_22 (by decide) hx0 rfl rfl rfl (Nat.le_of_ble_eq_true rfl) ⟨Nat.le_refl _, Nat.le_refl _⟩ dL_holds_226 (fun r226 E226 hP => ?_)
      obtain ⟨rfl, rfl⟩ := hP
      refine v_iconst (pc := 229) cx dL_holds_229 ?_
      refine v_icmp_lt (pc := 230) cx 278 dL_holds_230 rfl (by omega) (fun c230 => ?_) (fun c230 => ?_)
      · omega
      refine v_aload_n (pc := 233) cx rfl ga0 dL_holds_233 ?_
      refine v_iload (pc := 234) cx ga4 dL_holds_234 ?_
      refine v_iconst (pc := 236) cx dL_holds_236 ?_
      refine v_callVI (pc := 237) cx hR (c_storm _ _ _ _ h hk (by omega) (by omega)) mlL_22 (by decide) hx0 rfl rfl rfl (Nat.le_of_ble_eq_true rfl) ⟨Nat.le_refl _, Nat.le_refl _⟩ dL_holds_237 (fun r237 E237 hP => ?_)
      obtain ⟨rfl, rfl⟩ := hP
      refine v_aload_n (pc := 240) cx rfl ga0 dL_holds_240 ?_
      refine v_iload (pc := 241) cx ga4 dL_holds_241 ?_
      refine v_iconst (pc := 243) cx dL_holds_243 ?_
      refine v_callVI (pc := 244) cx hR (c_storm _ _ _ _ h hk (by omega) (by omega)) mlL_22 (by decide) hx0 rfl rfl rfl (Nat.le_of_ble_eq_true rfl) ⟨Nat.le_refl _, Nat.le_refl _⟩ dL_holds_244 (fun r244 E244 hP => ?_)
      obtain ⟨rfl, rfl⟩ := hP
      refine v_icmp_gt (pc := 247) cx 278 dL_holds_247 rfl (by omega) (fun c247 => ?_) (fun c247 => ?_)
      · omega
      refine v_aload_n (pc := 250) cx rfl ga0 dL_holds_250 ?_
      refine v_iload (pc := 251) cx ga4 dL_holds_251 ?_
      refine v_iconst (pc := 253) cx dL_holds_253 ?_
      refine v_callVI (pc := 254) cx hR (c_storm _ _ _ _ h hk (by omega) (by omega)) mlL_22 (by decide) hx0 rfl rfl rfl (Nat.le_of_ble_eq_true rfl) ⟨Nat.le_refl _, Nat.le_refl _⟩ dL_holds_254 (fun r254 E254 hP => ?_)
      obtain ⟨rfl, rfl⟩ := hP
      refine v_aload_n (pc := 257) cx rfl ga0 dL_holds_257 ?_
      refine v_iload (pc := 258) cx ga4 dL_holds_258 ?_
      refine v_iconst (pc := 260) cx dL_holds_260 ?_
      refine v_callVI (pc := 261) cx hR (c_storm _ _ _ _ h hk (by omega) (by omega)) mlL_22 (by decide) hx0 rfl rfl rfl (Nat.le_of_ble_eq_true rfl) ⟨Nat.le_refl _, Nat.le_refl _⟩ dL_holds_261 (fun r261 E261 hP => ?_)
      obtain ⟨rfl, rfl⟩ := hP
      refine v_aload_n (pc := 264) cx rfl ga0 dL_holds_264 ?_
      refine v_bipush (pc := 265) cx (by decide) dL_holds_265 ?_
      refine v_callVI (pc := 267) cx hR (c_count _ _ _ _ h hk (by omega)) mlL_15 (by decide) hx0 rfl rfl rfl (Nat.le_of_ble_eq_true rfl) ⟨Nat.le_refl _, Nat.le_refl _⟩ dL_holds_267 (fun r267 E267 hP => ?_)
      obtain ⟨rfl, rfl⟩ := hP
      refine v_imul (pc := 270) cx dL_holds_270 ?_
      refine v_icmp_ne (pc := 271) cx 278 dL_holds_271 rfl (by omega) (fun c271 => ?_) (fun c271 => ?_)
      · omega
      refine v_iconst (pc := 274) cx dL_holds_274 ?_
      refine v_goto (pc := 275) cx 279 dL_holds_275 rfl ?_
      refine v_istore_n (pc := 279) cx rfl (sa1 rfl) dL_holds_279 ?_
      refine v_iload_n (pc := 280) cx rfl ga3 dL_holds_280 ?_
      refine v_aload_n (pc := 281) cx rfl ga0 dL_holds_281 ?_
      refine v_iload (pc := 282) cx ga4 dL_holds_282 ?_
      refine v_iconst (pc := 284) cx dL_holds_284 ?_
      refine v_callVI (pc := 285) cx hR (c_storm _ _ _ _ h hk (by omega) (by omega)) mlL_22 (by decide) hx0 rfl rfl rfl (Nat.le_of_ble_eq_true rfl) ⟨Nat.le_refl _, Nat.le_refl _⟩ dL_holds_285 (fun r285 E285 hP => ?_)
      obtain ⟨rfl, rfl⟩ := hP
      refine v_iadd (pc := 288) cx dL_holds_288 ?_
      refine v_istore_n (pc := 289) cx rfl (sa3 rfl) dL_holds_289 ?_
      refine v_iinc (pc := 290) cx ga4 (sa4 rfl) dL_holds_290 ?_
      refine v_goto (pc := 293) cx 197 dL_holds_293 rfl ?_
      rw [show (bS2 Ψ k : Int) + vSto Ψ (k : Int) 1 = (bS2 Ψ (k + 1) : Int) by omega]
      exact ih (k + 1) w5 (by omega) (by omega)
  have loop1 : ∀ (d k : Nat) (w5 : Option Value), 1 ≤ k ∧ k ≤ 100 → 100 - k < d → V X E (nh, 0, 0) 128 [some (.ref (gb (fG X) + 0)), some (.int (iI 1)), some (.int (iI (vCnt Ψ 2))), some (.int (iI 0)), some (.int (iI (k : Int))), w5] [] := by
    intro d
    induction d with
    | zero => intro k w5 h1 h2; omega
    | succ d ih =>
      intro k w5 hk1 hd
      refine v_iload (pc := 128) cx ga4 dL_holds_128 ?_
      refine v_iload_n (pc := 130) cx rfl ga2 dL_holds_130 ?_
      refine v_icmp_ge (pc := 131) cx 194 dL_holds_131 rfl (by omega) (fun c131 => ?_) (fun c131 => ?_)
      · refine v_iconst (pc := 194) cx dL_holds_194 ?_
        refine v_istore (pc := 195) cx (sa4 rfl) dL_holds_195 ?_
        have e0 : bS2 Ψ 0 = 0 := sF_0
        have l2 := loop2 (nS Ψ + 1) 0 w5 (Nat.zero_le _) (by omega)
        rw [e0] at l2
        exact l2
      refine v_iload_n (pc := 134) cx rfl ga1 dL_holds_134 ?_
      refine v_if_eq (pc := 135) cx 194 dL_holds_135 rfl (by omega) (fun c135 => ?_) (fun c135 => ?_)
      · omega
      have hkn : k < Ψ.1.2.2.2.length := by omega
      obtain ⟨m1, m2, m3⟩ := mk_in hk hp hkn
      have e1 : ((k - 1 : Nat) : Int) = (k : Int) - 1 := by omega
      have m4 := m3 (k - 1) (by omega)
      have m5 := (mk_in hk hp (show k - 1 < Ψ.1.2.2.2.length by omega)).1
      rw [e1] at m4 m5
      refine v_aload_n (pc := 138) cx rfl ga0 dL_holds_138 ?_
      refine v_iload (pc := 139) cx ga4 dL_holds_139 ?_
      refine v_iconst (pc := 141) cx dL_holds_141 ?_
      refine v_callVI (pc := 142) cx hR (c_mark _ _ _ _ h hk (by omega) (by omega)) mlL_18 (by decide) hx0 rfl rfl rfl (Nat.le_of_ble_eq_true rfl) ⟨Nat.le_refl _, Nat.le_refl _⟩ dL_holds_142 (fun r142 E142 hP => ?_)
      obtain ⟨rfl, rfl⟩ := hP
      refine v_aload_n (pc := 145) cx rfl ga0 dL_holds_145 ?_
      refine v_iload (pc := 146) cx ga4 dL_holds_146 ?_
      refine v_iconst (pc := 148) cx dL_holds_148 ?_
      refine v_isub (pc := 149) cx dL_holds_149 ?_
      refine v_iconst (pc := 150) cx dL_holds_150 ?_
      refine v_callVI (pc := 151) cx hR (c_mark _ _ _ _ h hk (by omega) (by omega)) mlL_18 (by decide) hx0 rfl rfl rfl (Nat.le_of_ble_eq_true rfl) ⟨Nat.le_refl _, Nat.le_refl _⟩ dL_holds_151 (fun r151 E151 hP => ?_)
      obtain ⟨rfl, rfl⟩ := hP
      refine v_icmp_le (pc := 154) cx 186 dL_holds_154 rfl (by omega) (fun c154 => ?_) (fun c154 => ?_)
      · omega
      refine v_aload_n (pc := 157) cx rfl ga0 dL_holds_157 ?_
      refine v_iload (pc := 158) cx ga4 dL_holds_158 ?_
      refine v_iconst (pc := 160) cx dL_holds_160 ?_
      refine v_callVI (pc := 161) cx hR (c_mark _ _ _ _ h hk (by omega) (by omega)) mlL_18 (by decide) hx0 rfl rfl rfl (Nat.le_of_ble_eq_true rfl) ⟨Nat.le_refl _, Nat.le_refl _⟩ dL_holds_161 (fun r161 E161 hP => ?_)
      obtain ⟨rfl, rfl⟩ := hP
      refine v_aload_n (pc := 164) cx rfl ga0 dL_holds_164 ?_
      refine v_iconst (pc := 165) cx dL_holds_165 ?_
      refine v_callVI (pc := 166) cx hR (c_count _ _ _ _ h hk (by omega)) mlL_15 (by decide) hx0 rfl rfl rfl (Nat.le_of_ble_eq_true rfl) ⟨Nat.le_refl _, Nat.le_refl _⟩ dL_holds_166 (fun r166 E166 hP => ?_)
      obtain ⟨rfl, rfl⟩ := hP
      refine v_icmp_ge (pc := 169) cx 186 dL_holds_169 rfl (by omega) (fun c169 => ?_) (fun c169 => ?_)
      · omega
      refine v_aload_n (pc := 172) cx rfl ga0 dL_holds_172 ?_
      refine v_iload (pc := 173) cx ga4 dL_holds_173 ?_
      refine v_iconst (pc := 175) cx dL_holds_175 ?_
      refine v_callVI (pc := 176) cx hR (c_mark _ _ _ _ h hk (by omega) (by omega)) mlL_18 (by decide) hx0 rfl rfl rfl (Nat.le_of_ble_eq_true rfl) ⟨Nat.le_refl _, Nat.le_refl _⟩ dL_holds_176 (fun r176 E176 hP => ?_)
      obtain ⟨rfl, rfl⟩ := hP
      refine v_if_lt (pc := 179) cx 186 dL_holds_179 rfl (by omega) (fun c179 => ?_) (fun c179 => ?_)
      · omega
      refine v_iconst (pc := 182) cx dL_holds_182 ?_
      refine v_goto (pc := 183) cx 187 dL_holds_183 rfl ?_
      refine v_istore_n (pc := 187) cx rfl (sa1 rfl) dL_holds_187 ?_
      refine v_iinc (pc := 188) cx ga4 (sa4 rfl) dL_holds_188 ?_
      refine v_goto (pc := 191) cx 128 dL_holds_191 rfl ?_
      exact ih (k + 1) w5 (by omega) (by omega)
  refine v_aload_n (pc := 0) cx rfl ga0 dL_holds_0 ?_
  refine v_iconst (pc := 1) cx dL_holds_1 ?_
  refine v_callVI (pc := 2) cx hR (c_account _ _ _ _ h hk (by omega)) mlL_9 (by decide) hx0 rfl rfl rfl (Nat.le_of_ble_eq_true rfl) ⟨Nat.le_refl _, Nat.le_refl _⟩ dL_holds_2 (fun r2 E2 hP => ?_)
  obtain ⟨rfl, rfl⟩ := hP
  refine v_aload_n (pc := 5) cx rfl ga0 dL_holds_5 ?_
  refine v_iconst (pc := 6) cx dL_holds_6 ?_
  refine v_callVI (pc := 7) cx hR (c_account _ _ _ _ h hk (by omega)) mlL_9 (by decide) hx0 rfl rfl rfl (Nat.le_of_ble_eq_true rfl) ⟨Nat.le_refl _, Nat.le_refl _⟩ dL_holds_7 (fun r7 E7 hP => ?_)
  obtain ⟨rfl, rfl⟩ := hP
  refine v_aload_n (pc := 10) cx rfl ga0 dL_holds_10 ?_
  refine v_iconst (pc := 11) cx dL_holds_11 ?_
  refine v_callVI (pc := 12) cx hR (c_account _ _ _ _ h hk (by omega)) mlL_9 (by decide) hx0 rfl rfl rfl (Nat.le_of_ble_eq_true rfl) ⟨Nat.le_refl _, Nat.le_refl _⟩ dL_holds_12 (fun r12 E12 hP => ?_)
  obtain ⟨rfl, rfl⟩ := hP
  refine v_iadd (pc := 15) cx dL_holds_15 ?_
  refine v_aload_n (pc := 16) cx rfl ga0 dL_holds_16 ?_
  refine v_iconst (pc := 17) cx dL_holds_17 ?_
  refine v_callVI (pc := 18) cx hR (c_account _ _ _ _ h hk (by omega)) mlL_9 (by decide) hx0 rfl rfl rfl (Nat.le_of_ble_eq_true rfl) ⟨Nat.le_refl _, Nat.le_refl _⟩ dL_holds_18 (fun r18 E18 hP => ?_)
  obtain ⟨rfl, rfl⟩ := hP
  refine v_iadd (pc := 21) cx dL_holds_21 ?_
  refine v_aload_n (pc := 22) cx rfl ga0 dL_holds_22 ?_
  refine v_iconst (pc := 23) cx dL_holds_23 ?_
  refine v_callVI (pc := 24) cx hR (c_account _ _ _ _ h hk (by omega)) mlL_9 (by decide) hx0 rfl rfl rfl (Nat.le_of_ble_eq_true rfl) ⟨Nat.le_refl _, Nat.le_refl _⟩ dL_holds_24 (fun r24 E24 hP => ?_)
  obtain ⟨rfl, rfl⟩ := hP
  refine v_iadd (pc := 27) cx dL_holds_27 ?_
  refine v_aload_n (pc := 28) cx rfl ga0 dL_holds_28 ?_
  refine v_iconst (pc := 29) cx dL_holds_29 ?_
  refine v_callVI (pc := 30) cx hR (c_count _ _ _ _ h hk (by omega)) mlL_15 (by decide) hx0 rfl rfl rfl (Nat.le_of_ble_eq_true rfl) ⟨Nat.le_refl _, Nat.le_refl _⟩ dL_holds_30 (fun r30 E30 hP => ?_)
  obtain ⟨rfl, rfl⟩ := hP
  refine v_iadd (pc := 33) cx dL_holds_33 ?_
  refine v_aload_n (pc := 34) cx rfl ga0 dL_holds_34 ?_
  refine v_iconst (pc := 35) cx dL_holds_35 ?_
  refine v_callVI (pc := 36) cx hR (c_count _ _ _ _ h hk (by omega)) mlL_15 (by decide) hx0 rfl rfl rfl (Nat.le_of_ble_eq_true rfl) ⟨Nat.le_refl _, Nat.le_refl _⟩ dL_holds_36 (fun r36 E36 hP => ?_)
  obtain ⟨rfl, rfl⟩ := hP
  refine v_iadd (pc := 39) cx dL_holds_39 ?_
  refine v_icmp_ne (pc := 40) cx 47 dL_holds_40 rfl (by omega) (fun c40 => ?_) (fun c40 => ?_)
  · omega
  refine v_iconst (pc := 43) cx dL_holds_43 ?_
  refine v_goto (pc := 44) cx 48 dL_holds_44 rfl ?_
  refine v_istore_n (pc := 48) cx rfl (sa1 rfl) dL_holds_48 ?_
  refine v_iload_n (pc := 49) cx rfl ga1 dL_holds_49 ?_
  refine v_if_eq (pc := 50) cx 115 dL_holds_50 rfl (by omega) (fun c50 => ?_) (fun c50 => ?_)
  · omega
  refine v_aload_n (pc := 53) cx rfl ga0 dL_holds_53 ?_
  refine v_bipush (pc := 54) cx (by decide) dL_holds_54 ?_
  refine v_callVI (pc := 56) cx hR (c_count _ _ _ _ h hk (by omega)) mlL_15 (by decide) hx0 rfl rfl rfl (Nat.le_of_ble_eq_true rfl) ⟨Nat.le_refl _, Nat.le_refl _⟩ dL_holds_56 (fun r56 E56 hP => ?_)
  obtain ⟨rfl, rfl⟩ := hP
  refine v_if_lt (pc := 59) cx 115 dL_holds_59 rfl (by omega) (fun c59 => ?_) (fun c59 => ?_)
  · omega
  refine v_aload_n (pc := 62) cx rfl ga0 dL_holds_62 ?_
  refine v_bipush (pc := 63) cx (by decide) dL_holds_63 ?_
  refine v_callVI (pc := 65) cx hR (c_count _ _ _ _ h hk (by omega)) mlL_15 (by decide) hx0 rfl rfl rfl (Nat.le_of_ble_eq_true rfl) ⟨Nat.le_refl _, Nat.le_refl _⟩ dL_holds_65 (fun r65 E65 hP => ?_)
  obtain ⟨rfl, rfl⟩ := hP
  refine v_bipush (pc := 68) cx (by decide) dL_holds_68 ?_
  refine v_icmp_gt (pc := 70) cx 115 dL_holds_70 rfl (by omega) (fun c70 => ?_) (fun c70 => ?_)
  · omega
  refine v_aload_n (pc := 73) cx rfl ga0 dL_holds_73 ?_
  refine v_bipush (pc := 74) cx (by decide) dL_holds_74 ?_
  refine v_callVI (pc := 76) cx hR (c_count _ _ _ _ h hk (by omega)) mlL_15 (by decide) hx0 rfl rfl rfl (Nat.le_of_ble_eq_true rfl) ⟨Nat.le_refl _, Nat.le_refl _⟩ dL_holds_76 (fun r76 E76 hP => ?_)
  obtain ⟨rfl, rfl⟩ := hP
  refine v_if_lt (pc := 79) cx 115 dL_holds_79 rfl (by omega) (fun c79 => ?_) (fun c79 => ?_)
  · omega
  refine v_aload_n (pc := 82) cx rfl ga0 dL_holds_82 ?_
  refine v_bipush (pc := 83) cx (by decide) dL_holds_83 ?_
  refine v_callVI (pc := 85) cx hR (c_count _ _ _ _ h hk (by omega)) mlL_15 (by decide) hx0 rfl rfl rfl (Nat.le_of_ble_eq_true rfl) ⟨Nat.le_refl _, Nat.le_refl _⟩ dL_holds_85 (fun r85 E85 hP => ?_)
  obtain ⟨rfl, rfl⟩ := hP
  refine v_aload_n (pc := 88) cx rfl ga0 dL_holds_88 ?_
  refine v_bipush (pc := 89) cx (by decide) dL_holds_89 ?_
  refine v_callVI (pc := 91) cx hR (c_count _ _ _ _ h hk (by omega)) mlL_15 (by decide) hx0 rfl rfl rfl (Nat.le_of_ble_eq_true rfl) ⟨Nat.le_refl _, Nat.le_refl _⟩ dL_holds_91 (fun r91 E91 hP => ?_)
  obtain ⟨rfl, rfl⟩ := hP
  refine v_icmp_ge (pc := 94) cx 115 dL_holds_94 rfl (by omega) (fun c94 => ?_) (fun c94 => ?_)
  · omega
  refine v_aload_n (pc := 97) cx rfl ga0 dL_holds_97 ?_
  refine v_bipush (pc := 98) cx (by decide) dL_holds_98 ?_
  refine v_callVI (pc := 100) cx hR (c_count _ _ _ _ h hk (by omega)) mlL_15 (by decide) hx0 rfl rfl rfl (Nat.le_of_ble_eq_true rfl) ⟨Nat.le_refl _, Nat.le_refl _⟩ dL_holds_100 (fun r100 E100 hP => ?_)
  obtain ⟨rfl, rfl⟩ := hP
  refine v_aload_n (pc := 103) cx rfl ga0 dL_holds_103 ?_
  refine v_iconst (pc := 104) cx dL_holds_104 ?_
  refine v_callVI (pc := 105) cx hR (c_count _ _ _ _ h hk (by omega)) mlL_15 (by decide) hx0 rfl rfl rfl (Nat.le_of_ble_eq_true rfl) ⟨Nat.le_refl _, Nat.le_refl _⟩ dL_holds_105 (fun r105 E105 hP => ?_)
  obtain ⟨rfl, rfl⟩ := hP
  refine v_icmp_gt (pc := 108) cx 115 dL_holds_108 rfl (by omega) (fun c108 => ?_) (fun c108 => ?_)
  · omega
  refine v_iconst (pc := 111) cx dL_holds_111 ?_
  refine v_goto (pc := 112) cx 116 dL_holds_112 rfl ?_
  refine v_istore_n (pc := 116) cx rfl (sa1 rfl) dL_holds_116 ?_
  refine v_aload_n (pc := 117) cx rfl ga0 dL_holds_117 ?_
  refine v_iconst (pc := 118) cx dL_holds_118 ?_
  refine v_callVI (pc := 119) cx hR (c_count _ _ _ _ h hk (by omega)) mlL_15 (by decide) hx0 rfl rfl rfl (Nat.le_of_ble_eq_true rfl) ⟨Nat.le_refl _, Nat.le_refl _⟩ dL_holds_119 (fun r119 E119 hP => ?_)
  obtain ⟨rfl, rfl⟩ := hP
  refine v_istore_n (pc := 122) cx rfl (sa2 rfl) dL_holds_122 ?_
  refine v_iconst (pc := 123) cx dL_holds_123 ?_
  refine v_istore_n (pc := 124) cx rfl (sa3 rfl) dL_holds_124 ?_
  refine v_iconst (pc := 125) cx dL_holds_125 ?_
  refine v_istore (pc := 126) cx (sa4 rfl) dL_holds_126 ?_
  exact loop1 100 1 none ⟨Nat.le_refl _, by omega⟩ (by omega)
