/-! the law's loop -/
section
variable {X : Fx} {b L : Nat} {xs : Nat → Int32}
set_option maxRecDepth 100000 in
set_option maxHeartbeats 4000000 in
theorem law_parts (cx : Cx X cL_law RL) (hR : RM X 8 144 4221) {nh c q k : Nat} (hnh : 124 ≤ nh) (hzc1 : c + 1 ≤ 144) (hzq1 : q + 12 ≤ 4221) {y : Int} (hy : 0 ≤ y ∧ y ≤ 2147483647) {Φ : Fs} {E : Wd} (hx : isX (fG X) E Φ) (hk : okX Φ) (hp : okP Φ.1) (hk20 : k ≤ 19) (hs : Φ.1.1 0 ≤ 91 * k) (told : Int) (w6 w7 w8 w9 w10 w11 : Option Value)
    (nxt : ∀ (Ψ' : Fs) (E' : Wd) (w4 w5 w6 w7 w8 w9 w10 w11 : Option Value), isX (fG X) E' Ψ' → okX Ψ' → okP Ψ'.1 → Ψ'.1.1 0 ≤ 91 * (k + 1) → V X E' (nh + 1, c + 1, q + 12) 415 [some (.ref b), some (.ref (gb (fG X) + 0)), some (.int (iI 1)), some (.int (iI (k : Int))), w4, w5, w6, w7, w8, w9, w10, w11] []) :
    V X E (nh, c, q) 236 [some (.ref b), some (.ref (gb (fG X) + 0)), some (.int (iI 1)), some (.int (iI (k : Int))), some (.int (iI y)), some (.int (iI told)), w6, w7, w8, w9, w10, w11] [] := by
  have hx0 := hx.1
  refine v_iconst (pc := 236) cx dL_law_236 ?_
  refine v_iload (pc := 237) cx ga4 dL_law_237 ?_
  refine v_iconst (pc := 239) cx dL_law_239 ?_
  refine v_ishrI (pc := 240) cx 3 8 (by omega) (by decide) (by decide) dL_law_240 ?_
  refine v_bipush (pc := 241) cx (by decide) dL_law_241 ?_
  refine v_iremI (pc := 243) cx (by omega) dL_law_243 ?_
  refine v_iadd (pc := 244) cx dL_law_244 ?_
  refine v_istore (pc := 245) cx (sa6 rfl) dL_law_245 ?_
  obtain ⟨T, hT⟩ : ∃ T : Nat, (T : Int) = 2 + y / 8 % 90 := ⟨(2 + y / 8 % 90).toNat, by omega⟩
  rw [← hT]
  refine v_iload (pc := 247) cx ga4 dL_law_247 ?_
  refine v_bipush (pc := 249) cx (by decide) dL_law_249 ?_
  refine v_ishrI (pc := 251) cx 9 512 (by omega) (by decide) (by decide) dL_law_251 ?_
  refine v_iload (pc := 252) cx ga6 dL_law_252 ?_
  refine v_iconst (pc := 254) cx dL_law_254 ?_
  refine v_iadd (pc := 255) cx dL_law_255 ?_
  refine v_iremI (pc := 256) cx (by omega) dL_law_256 ?_
  refine v_istore (pc := 257) cx (sa7 rfl) dL_law_257 ?_
  obtain ⟨p, hpe, hpT⟩ : ∃ p : Nat, (p : Int) = y / 512 % ((T : Int) + 1) ∧ p ≤ T := by
    have h1 := Int.emod_nonneg (y / 512) (show (T : Int) + 1 ≠ 0 by omega)
    have h2 := Int.emod_lt_of_pos (y / 512) (show 0 < (T : Int) + 1 by omega)
    exact ⟨(y / 512 % ((T : Int) + 1)).toNat, by omega, by omega⟩
  rw [← hpe]
  have h0 := hk.1.1.1
  have ht : Φ.1.1 0 + (T : Int) ≤ 5000 := by omega
  refine v_iload_n (pc := 259) cx rfl ga2 dL_law_259 ?_
  refine v_if_eq (pc := 260) cx 285 dL_law_260 rfl (by omega) (fun c260 => ?_) (fun c260 => ?_)
  · omega
  refine v_aload_n (pc := 263) cx rfl ga1 dL_law_263 ?_
  refine v_iload (pc := 264) cx ga6 dL_law_264 ?_
  refine v_iload (pc := 266) cx ga7 dL_law_266 ?_
  refine v_callSIm (pc := 268) cx hR (c_parted _ _ _ _ hx hk hp ⟨by omega, by omega, hpT⟩ ht hnh) mlL_62 (by decide) rfl (Nat.le_of_ble_eq_true rfl) ⟨hzc1, hzq1⟩ dL_law_268 (fun r268 E268 hP => ?_)
  show V X _ (nh + 1, c + 1, q + 12) _ _ _
  obtain ⟨rfl, hs', hx1, k1⟩ := hP
  obtain ⟨Θ, eΘ⟩ : ∃ Θ : Fs, Θ = (ticks Φ.1 T, hs', Φ.2.2) := ⟨_, rfl⟩
  rw [← eΘ] at hx1 k1
  have p1 : okP Θ.1 := by rw [eΘ]; exact okP_ticks hk.1 hp T ht
  have t1 : Θ.1.1 0 = Φ.1.1 0 + T := by rw [eΘ]; exact ticks_0 T
  have hx0 := hx1.1
  refine v_if_eq (pc := 271) cx 285 dL_law_271 rfl (by omega) (fun c271 => ?_) (fun c271 => ?_)
  · omega
  refine v_aload_n (pc := 274) cx rfl ga1 dL_law_274 ?_
  refine v_callSI (pc := 275) cx hR (c_holds _ _ _ _ hx1 k1 p1) mlL_35 (by decide) rfl (Nat.le_of_ble_eq_true rfl) ⟨hzc1, hzq1⟩ dL_law_275 (fun r275 E275 hP => ?_)
  obtain ⟨rfl, rfl⟩ := hP
  refine v_if_eq (pc := 278) cx 285 dL_law_278 rfl (by omega) (fun c278 => ?_) (fun c278 => ?_)
  · omega
  refine v_iconst (pc := 281) cx dL_law_281 ?_
  refine v_goto (pc := 282) cx 286 dL_law_282 rfl ?_
  refine v_istore_n (pc := 286) cx rfl (sa2 rfl) dL_law_286 ?_
  refine v_iload_n (pc := 287) cx rfl ga2 dL_law_287 ?_
  refine v_if_eq (pc := 288) cx 415 dL_law_288 rfl (by omega) (fun c288 => ?_) (fun c288 => ?_)
  · omega
  refine v_iload (pc := 291) cx ga4 dL_law_291 ?_
  refine v_iconst (pc := 293) cx dL_law_293 ?_
  refine v_iremI (pc := 294) cx (by omega) dL_law_294 ?_
  refine v_if_ne (pc := 295) cx 415 dL_law_295 rfl (by omega) (fun c295 => ?_) (fun c295 => ?_)
  · exact nxt Θ _ _ _ _ _ _ _ _ _ hx1 k1 p1 (by omega)
  obtain ⟨nC0, nC1, nC2, nC3, nC4, nC5, nC6, nC8, nC11, nC13, nC20, nC25, nC26⟩ := vC (Ψ := Θ)
  obtain ⟨a0, a1, a2, a3, a4⟩ := vA (Ψ := Θ)
  have t40 : Θ.1.1 0 + 40 ≤ 5000 := by omega
  obtain ⟨i2, i3, ib, ic1, ic2⟩ := cap_40 k1 p1 t40
  obtain ⟨Ω, eΩ, kΩ, pΩ, vΩ, tΩ, sΩ, lΩ, uk, us⟩ := run_all (Ψ := Θ) (k := 40) 40 k1 p1 rfl (by omega) t40
  obtain ⟨b0, b1, b2, b3, b4⟩ := vA (Ψ := Ω)
  rw [sΩ] at b2 b3
  obtain ⟨y0, y1, y2, y3, y4, y5, y6, y7, y8, y9, y10, y11⟩ := id k1.1.1
  obtain ⟨x0, x1, x2, x3, x4, x5, x6, x7, x8, x9, x10, x11⟩ := id kΩ.1.1
  rw [sΩ] at x6 x7 x8 x9 x10 x11 x1 x2 x0
  have hcap := k1.1.2.1.1
  refine v_aload_n (pc := 298) cx rfl ga1 dL_law_298 ?_
  refine v_iconst (pc := 299) cx dL_law_299 ?_
  refine v_callVI (pc := 300) cx hR (c_count _ _ _ _ hx1 k1 (by omega)) mlL_15 (by decide) hx0 rfl rfl rfl (Nat.le_of_ble_eq_true rfl) ⟨hzc1, hzq1⟩ dL_law_300 (fun r300 E300 hP => ?_)
  obtain ⟨rfl, rfl⟩ := hP
  refine v_bipush (pc := 303) cx (by decide) dL_law_303 ?_
  refine v_iadd (pc := 305) cx dL_law_305 ?_
  refine v_sipush (pc := 306) cx (by decide) dL_law_306 ?_
  refine v_icmp_gt (pc := 309) cx 415 dL_law_309 rfl (by omega) (fun c309 => ?_) (fun c309 => ?_)
  · omega
  refine v_aload_n (pc := 312) cx rfl ga1 dL_law_312 ?_
  refine v_iconst (pc := 313) cx dL_law_313 ?_
  refine v_callVI (pc := 314) cx hR (c_account _ _ _ _ hx1 k1 (by omega)) mlL_9 (by decide) hx0 rfl rfl rfl (Nat.le_of_ble_eq_true rfl) ⟨hzc1, hzq1⟩ dL_law_314 (fun r314 E314 hP => ?_)
  obtain ⟨rfl, rfl⟩ := hP
  refine v_istore (pc := 317) cx (sa8 rfl) dL_law_317 ?_
  refine v_aload_n (pc := 319) cx rfl ga1 dL_law_319 ?_
  refine v_iconst (pc := 320) cx dL_law_320 ?_
  refine v_callVI (pc := 321) cx hR (c_account _ _ _ _ hx1 k1 (by omega)) mlL_9 (by decide) hx0 rfl rfl rfl (Nat.le_of_ble_eq_true rfl) ⟨hzc1, hzq1⟩ dL_law_321 (fun r321 E321 hP => ?_)
  obtain ⟨rfl, rfl⟩ := hP
  refine v_istore (pc := 324) cx (sa9 rfl) dL_law_324 ?_
  refine v_aload_n (pc := 326) cx rfl ga1 dL_law_326 ?_
  refine v_bipush (pc := 327) cx (by decide) dL_law_327 ?_
  refine v_iconst (pc := 329) cx dL_law_329 ?_
  refine v_callVI (pc := 330) cx hR (c_ifRun _ _ _ _ hx1 k1 (by omega) (by omega)) mlL_66 (by decide) hx0 rfl rfl rfl (Nat.le_of_ble_eq_true rfl) ⟨hzc1, hzq1⟩ dL_law_330 (fun r330 E330 hP => ?_)
  obtain ⟨rfl, hx2, -⟩ := hP
  have hx0 := hx2.1
  refine v_aload_n (pc := 333) cx rfl ga1 dL_law_333 ?_
  refine v_bipush (pc := 334) cx (by decide) dL_law_334 ?_
  refine v_iconst (pc := 336) cx dL_law_336 ?_
  refine v_callVI (pc := 337) cx hR (c_ifRun _ _ _ _ hx2 k1 (by omega) (by omega)) mlL_66 (by decide) hx0 rfl rfl rfl (Nat.le_of_ble_eq_true rfl) ⟨hzc1, hzq1⟩ dL_law_337 (fun r337 E337 hP => ?_)
  obtain ⟨rfl, hx3, -⟩ := hP
  have hx0 := hx3.1
  refine v_iadd (pc := 340) cx dL_law_340 ?_
  refine v_istore (pc := 341) cx (sa10 rfl) dL_law_341 ?_
  refine v_aload_n (pc := 343) cx rfl ga1 dL_law_343 ?_
  refine v_bipush (pc := 344) cx (by decide) dL_law_344 ?_
  refine v_iload (pc := 346) cx ga10 dL_law_346 ?_
  refine v_callVI (pc := 348) cx hR (c_capacityFor _ _ _ _ hx3 k1 (by omega) (by omega)) mlL_69 (by decide) hx0 rfl rfl rfl (Nat.le_of_ble_eq_true rfl) ⟨hzc1, hzq1⟩ dL_law_348 (fun r348 E348 hP => ?_)
  obtain ⟨rfl, hx4, -⟩ := hP
  have hx0 := hx4.1
  refine v_istore (pc := 351) cx (sa11 rfl) dL_law_351 ?_
  refine v_iload (pc := 353) cx ga11 dL_law_353 ?_
  refine v_bipush (pc := 355) cx (by decide) dL_law_355 ?_
  refine v_icmp_lt (pc := 357) cx 413 dL_law_357 rfl (by omega) (fun c357 => ?_) (fun c357 => ?_)
  · omega
  refine v_iload (pc := 360) cx ga11 dL_law_360 ?_
  refine v_aload_n (pc := 362) cx rfl ga1 dL_law_362 ?_
  refine v_bipush (pc := 363) cx (by decide) dL_law_363 ?_
  refine v_callVI (pc := 365) cx hR (c_count _ _ _ _ hx4 k1 (by omega)) mlL_15 (by decide) hx0 rfl rfl rfl (Nat.le_of_ble_eq_true rfl) ⟨hzc1, hzq1⟩ dL_law_365 (fun r365 E365 hP => ?_)
  obtain ⟨rfl, rfl⟩ := hP
  refine v_icmp_gt (pc := 368) cx 413 dL_law_368 rfl (by omega) (fun c368 => ?_) (fun c368 => ?_)
  · omega
  refine v_aload_n (pc := 371) cx rfl ga1 dL_law_371 ?_
  refine v_bipush (pc := 372) cx (by decide) dL_law_372 ?_
  refine v_callVI (pc := 374) cx hR (c_run _ _ _ _ hx4 k1 (by omega)) mlL_32 (by decide) hx0 rfl rfl rfl (Nat.le_of_ble_eq_true rfl) ⟨hzc1, hzq1⟩ dL_law_374 (fun r374 E374 hP => ?_)
  obtain ⟨hv, hx5, -⟩ := hP
  have hx5 : isX (fG X) E374 Ω := by rw [← eΩ]; exact hx5
  have hx0 := hx5.1
  subst hv
  refine v_if_lt (pc := 377) cx 413 dL_law_377 rfl (by omega) (fun c377 => ?_) (fun c377 => ?_)
  · omega
  refine v_aload_n (pc := 380) cx rfl ga1 dL_law_380 ?_
  refine v_iconst (pc := 381) cx dL_law_381 ?_
  refine v_callVI (pc := 382) cx hR (c_account _ _ _ _ hx5 kΩ (by omega)) mlL_9 (by decide) hx0 rfl rfl rfl (Nat.le_of_ble_eq_true rfl) ⟨hzc1, hzq1⟩ dL_law_382 (fun r382 E382 hP => ?_)
  obtain ⟨rfl, rfl⟩ := hP
  refine v_aload_n (pc := 385) cx rfl ga1 dL_law_385 ?_
  refine v_iconst (pc := 386) cx dL_law_386 ?_
  refine v_callVI (pc := 387) cx hR (c_account _ _ _ _ hx5 kΩ (by omega)) mlL_9 (by decide) hx0 rfl rfl rfl (Nat.le_of_ble_eq_true rfl) ⟨hzc1, hzq1⟩ dL_law_387 (fun r387 E387 hP => ?_)
  obtain ⟨rfl, rfl⟩ := hP
  refine v_iadd (pc := 390) cx dL_law_390 ?_
  refine v_iload (pc := 391) cx ga8 dL_law_391 ?_
  refine v_iload (pc := 393) cx ga9 dL_law_393 ?_
  refine v_iadd (pc := 395) cx dL_law_395 ?_
  refine v_iload (pc := 396) cx ga10 dL_law_396 ?_
  refine v_iadd (pc := 398) cx dL_law_398 ?_
  refine v_icmp_ne (pc := 399) cx 413 dL_law_399 rfl (by omega) (fun c399 => ?_) (fun c399 => ?_)
  · omega
  refine v_aload_n (pc := 402) cx rfl ga1 dL_law_402 ?_
  refine v_callVI (pc := 403) cx hR (c_undo _ _ _ _ hx5 kΩ) mlL_41 (by decide) hx0 rfl rfl rfl (Nat.le_of_ble_eq_true rfl) ⟨hzc1, hzq1⟩ dL_law_403 (fun r403 E403 hP => ?_)
  obtain ⟨hv, hx6, -⟩ := hP
  rw [vUnd_pos lΩ] at hv
  have hl5 := kΩ.2.1.1
  subst hv
  refine v_if_lt (pc := 406) cx 413 dL_law_406 rfl (by omega) (fun c406 => ?_) (fun c406 => ?_)
  · omega
  refine v_iconst (pc := 409) cx dL_law_409 ?_
  refine v_goto (pc := 410) cx 414 dL_law_410 rfl ?_
  refine v_istore_n (pc := 414) cx rfl (sa2 rfl) dL_law_414 ?_
  exact nxt (sUnd Ω) _ _ _ _ _ _ _ _ _ hx6 uk (by rw [us]; exact p1) (by rw [us]; omega)
set_option maxRecDepth 100000 in
set_option maxHeartbeats 4000000 in
theorem law_loop (cx : Cx X cL_law RL) (hR : RM X 8 144 4221) (hX : va_X b L xs (fS X) (fS X).heap) (hb : b < (fS X).heap.size ∧ b < gb (fG X)) (hL : L ≤ 260) (fin : ∀ (nh c q : Nat) (E : Wd) (ls : List (Option Value)), c ≤ 144 → q ≤ 4221 → V X E (nh, c, q) 640 ls [.int (iI 1)]) : ∀ (d k nh c q : Nat) (Ψ : Fs) (E : Wd) (w4 w5 w6 w7 w8 w9 w10 w11 : Option Value), k ≤ 20 → 20 - k < d → 124 ≤ nh → c + (20 - k) ≤ 144 → q + 12 * (20 - k) ≤ 4221 → isX (fG X) E Ψ → okX Ψ → okP Ψ.1 → Ψ.1.1 0 ≤ 91 * k → V X E (nh, c, q) 95 [some (.ref b), some (.ref (gb (fG X) + 0)), some (.int (iI 1)), some (.int (iI (k : Int))), w4, w5, w6, w7, w8, w9, w10, w11] [] := by
  intro d
  induction d with
  | zero => intro k nh c q Ψ E w4 w5 w6 w7 w8 w9 w10 w11 h1 h2; omega
  | succ d ih =>
    intro k nh c q Ψ E w4 w5 w6 w7 w8 w9 w10 w11 hk20 hd hnh hc hq hx hk hp hs
    have hx0 := hx.1
    have hzc : c ≤ 144 := by omega
    have hzq : q ≤ 4221 := by omega
    have h0 := hk.1.1.1
    have nC0 := (vC (Ψ := Ψ)).1
    refine v_iload_n (pc := 95) cx rfl ga3 dL_law_95 ?_
    refine v_bipush (pc := 96) cx (by decide) dL_law_96 ?_
    refine v_icmp_ge (pc := 98) cx 421 dL_law_98 rfl (by omega) (fun c98 => ?_) (fun c98 => ?_)
    · exact law_tail cx hR hzc hzq (fun E ls => fin nh c q E ls hzc hzq) hx hk hp (by omega) _ w4 w5 w6 w7 w8 w9 w10 w11
    refine v_iload_n (pc := 101) cx rfl ga2 dL_law_101 ?_
    refine v_if_eq (pc := 102) cx 421 dL_law_102 rfl (by omega) (fun c102 => ?_) (fun c102 => ?_)
    · omega
    refine v_aload_n (pc := 105) cx rfl ga0 dL_law_105 ?_
    refine v_iconst (pc := 106) cx dL_law_106 ?_
    refine v_iload_n (pc := 107) cx rfl ga3 dL_law_107 ?_
    refine v_iadd (pc := 108) cx dL_law_108 ?_
    rw [show (4 : Int) + (k : Int) = ((4 + k : Nat) : Int) by omega]
    refine v_callX (pc := 109) cx hR hX hb (c_cell _ _ _ _ hb.2 hL (by omega)) mlL_45 (by decide) rfl (Nat.le_of_ble_eq_true rfl) ⟨hzc, hzq⟩ dL_law_109 (fun y E109 hP => ?_)
    obtain ⟨hy, rfl⟩ := hP
    refine v_istore (pc := 112) cx (sa4 rfl) dL_law_112 ?_
    refine v_aload_n (pc := 114) cx rfl ga1 dL_law_114 ?_
    refine v_aload_n (pc := 115) cx rfl ga1 dL_law_115 ?_
    refine v_iconst (pc := 116) cx dL_law_116 ?_
    refine v_callVI (pc := 117) cx hR (c_count _ _ _ _ hx hk (by omega)) mlL_15 (by decide) hx0 rfl rfl rfl (Nat.le_of_ble_eq_true rfl) ⟨hzc, hzq⟩ dL_law_117 (fun r117 E117 hP => ?_)
    obtain ⟨rfl, rfl⟩ := hP
    obtain ⟨Φ, eΦ, kΦ, pΦ, tΦ, aΦ⟩ := add_all (Ψ := Ψ) (b := vCnt Ψ 0 + y % 60) (l := 1 + y / 64 % 80) (r := 1 + y / 4096 % 120) hk hp (by omega) (by omega) (by omega)
    refine v_iload (pc := 120) cx ga4 dL_law_120 ?_
    refine v_bipush (pc := 122) cx (by decide) dL_law_122 ?_
    refine v_iremI (pc := 124) cx (by omega) dL_law_124 ?_
    refine v_iadd (pc := 125) cx dL_law_125 ?_
    refine v_iconst (pc := 126) cx dL_law_126 ?_
    refine v_iload (pc := 127) cx ga4 dL_law_127 ?_
    refine v_bipush (pc := 129) cx (by decide) dL_law_129 ?_
    refine v_ishrI (pc := 131) cx 6 64 (by omega) (by decide) (by decide) dL_law_131 ?_
    refine v_bipush (pc := 132) cx (by decide) dL_law_132 ?_
    refine v_iremI (pc := 134) cx (by omega) dL_law_134 ?_
    refine v_iadd (pc := 135) cx dL_law_135 ?_
    refine v_iconst (pc := 136) cx dL_law_136 ?_
    refine v_iload (pc := 137) cx ga4 dL_law_137 ?_
    refine v_bipush (pc := 139) cx (by decide) dL_law_139 ?_
    refine v_ishrI (pc := 141) cx 12 4096 (by omega) (by decide) (by decide) dL_law_141 ?_
    refine v_bipush (pc := 142) cx (by decide) dL_law_142 ?_
    refine v_iremI (pc := 144) cx (by omega) dL_law_144 ?_
    refine v_iadd (pc := 145) cx dL_law_145 ?_
    refine v_callVI (pc := 146) cx hR (c_addShower _ _ _ _ hx hk (by omega) (by omega) (by omega)) mlL_52 (by decide) hx0 rfl rfl rfl (Nat.le_of_ble_eq_true rfl) ⟨hzc, hzq⟩ dL_law_146 (fun r146 E146 hP => ?_)
    obtain ⟨hv, hx1, -⟩ := hP
    have hx1 : isX (fG X) E146 Φ := by rw [← eΦ]; exact hx1
    have hx0 := hx1.1
    rw [← hv] at aΦ
    have lastp : ∀ (Φ : Fs) (E : Wd), isX (fG X) E Φ → okX Φ → okP Φ.1 → Φ.1.1 0 = Ψ.1.1 0 → V X E (nh, c, q) 236 [some (.ref b), some (.ref (gb (fG X) + 0)), some (.int (iI 1)), some (.int (iI (k : Int))), some (.int (iI y)), some (.int (iI r146)), w6, w7, w8, w9, w10, w11] [] := by
      intro Φ E hx hk hp ht
      refine law_parts cx hR hnh (by omega) (by omega) hy hx hk hp (by omega) (by omega) r146 w6 w7 w8 w9 w10 w11 (fun Ψ' E' w4 w5 w6 w7 w8 w9 w10 w11 hx' hk' hp' hs' => ?_)
      refine v_iinc (pc := 415) cx ga3 (sa3 rfl) dL_law_415 ?_
      refine v_goto (pc := 418) cx 95 dL_law_418 rfl ?_
      exact ih (k + 1) (nh + 1) (c + 1) (q + 12) Ψ' E' w4 w5 w6 w7 w8 w9 w10 w11 (by omega) (by omega) (by omega) (by omega) (by omega) hx' hk' hp' (by omega)
    have rest : V X E146 (nh, c, q) 198 [some (.ref b), some (.ref (gb (fG X) + 0)), some (.int (iI 1)), some (.int (iI (k : Int))), some (.int (iI y)), some (.int (iI r146)), w6, w7, w8, w9, w10, w11] [.int (iI 1)] := by
      obtain ⟨Θ, eΘ, kΘ, pΘ, tΘ, fΘ⟩ := win_all kΦ pΦ
      have hse := kΦ.1.1.2.2.2.2.1
      have hse2 := kΘ.1.1.2.2.2.2.1
      have n26 := (vC (Ψ := Θ)).2.2.2.2.2.2.2.2.2.2.2.2
      refine v_istore_n (pc := 198) cx rfl (sa2 rfl) dL_law_198 ?_
      refine v_iload (pc := 199) cx ga4 dL_law_199 ?_
      refine v_iconst (pc := 201) cx dL_law_201 ?_
      refine v_iremI (pc := 202) cx (by omega) dL_law_202 ?_
      refine v_if_ne (pc := 203) cx 236 dL_law_203 rfl (by omega) (fun c203 => ?_) (fun c203 => ?_)
      · exact lastp Φ E146 hx1 kΦ pΦ tΦ
      refine v_iload_n (pc := 206) cx rfl ga2 dL_law_206 ?_
      refine v_if_eq (pc := 207) cx 234 dL_law_207 rfl (by omega) (fun c207 => ?_) (fun c207 => ?_)
      · omega
      refine v_aload_n (pc := 210) cx rfl ga1 dL_law_210 ?_
      refine v_callVI (pc := 211) cx hR (c_wind _ _ _ _ hx1 kΦ) mlL_56 (by decide) hx0 rfl rfl rfl (Nat.le_of_ble_eq_true rfl) ⟨hzc, hzq⟩ dL_law_211 (fun r211 E211 hP => ?_)
      obtain ⟨hw, hx2, -⟩ := hP
      have hx2 : isX (fG X) E211 Θ := by rw [← eΘ]; exact hx2
      have hx0 := hx2.1
      have hw : r211 = Φ.1.1 4 := hw
      subst hw
      refine v_if_lt (pc := 214) cx 234 dL_law_214 rfl (by omega) (fun c214 => ?_) (fun c214 => ?_)
      · omega
      refine v_aload_n (pc := 217) cx rfl ga1 dL_law_217 ?_
      refine v_callVI (pc := 218) cx hR (c_untilStop _ _ _ _ hx2 kΘ) mlL_59 (by decide) hx0 rfl rfl rfl (Nat.le_of_ble_eq_true rfl) ⟨hzc, hzq⟩ dL_law_218 (fun r218 E218 hP => ?_)
      obtain ⟨rfl, rfl⟩ := hP
      refine v_aload_n (pc := 221) cx rfl ga1 dL_law_221 ?_
      refine v_bipush (pc := 222) cx (by decide) dL_law_222 ?_
      refine v_callVI (pc := 224) cx hR (c_count _ _ _ _ hx2 kΘ (by omega)) mlL_15 (by decide) hx0 rfl rfl rfl (Nat.le_of_ble_eq_true rfl) ⟨hzc, hzq⟩ dL_law_224 (fun r224 E224 hP => ?_)
      obtain ⟨rfl, rfl⟩ := hP
      refine v_icmp_ne (pc := 227) cx 234 dL_law_227 rfl (by omega) (fun c227 => ?_) (fun c227 => ?_)
      · omega
      refine v_iconst (pc := 230) cx dL_law_230 ?_
      refine v_goto (pc := 231) cx 235 dL_law_231 rfl ?_
      refine v_istore_n (pc := 235) cx rfl (sa2 rfl) dL_law_235 ?_
      exact lastp Θ _ hx2 kΘ pΘ (tΘ.trans tΦ)
    refine v_istore (pc := 149) cx (sa5 rfl) dL_law_149 ?_
    refine v_iload (pc := 151) cx ga5 dL_law_151 ?_
    refine v_bipush (pc := 153) cx (by decide) dL_law_153 ?_
    refine v_icmp_ne (pc := 155) cx 168 dL_law_155 rfl (by omega) (fun c155 => ?_) (fun c155 => ?_)
    · rcases aΦ with aΦ | aΦ
      · omega
      refine v_iload (pc := 168) cx ga5 dL_law_168 ?_
      refine v_if_lt (pc := 170) cx 197 dL_law_170 rfl (by omega) (fun c170 => ?_) (fun c170 => ?_)
      · omega
      refine v_aload_n (pc := 173) cx rfl ga1 dL_law_173 ?_
      refine v_iload (pc := 174) cx ga5 dL_law_174 ?_
      refine v_iconst (pc := 176) cx dL_law_176 ?_
      refine v_callVI (pc := 177) cx hR (c_shower _ _ _ _ hx1 kΦ (by omega) (by omega)) mlL_25 (by decide) hx0 rfl rfl rfl (Nat.le_of_ble_eq_true rfl) ⟨hzc, hzq⟩ dL_law_177 (fun r177 E177 hP => ?_)
      obtain ⟨rfl, rfl⟩ := hP
      refine v_iconst (pc := 180) cx dL_law_180 ?_
      refine v_iload (pc := 181) cx ga4 dL_law_181 ?_
      refine v_bipush (pc := 183) cx (by decide) dL_law_183 ?_
      refine v_ishrI (pc := 185) cx 12 4096 (by omega) (by decide) (by decide) dL_law_185 ?_
      refine v_bipush (pc := 186) cx (by decide) dL_law_186 ?_
      refine v_iremI (pc := 188) cx (by omega) dL_law_188 ?_
      refine v_iadd (pc := 189) cx dL_law_189 ?_
      refine v_icmp_ne (pc := 190) cx 197 dL_law_190 rfl (by omega) (fun c190 => ?_) (fun c190 => ?_)
      · omega
      refine v_iconst (pc := 193) cx dL_law_193 ?_
      refine v_goto (pc := 194) cx 198 dL_law_194 rfl ?_
      exact rest
    · rcases aΦ with aΦ | aΦ
      · refine v_aload_n (pc := 158) cx rfl ga1 dL_law_158 ?_
        refine v_iconst (pc := 159) cx dL_law_159 ?_
        refine v_callVI (pc := 160) cx hR (c_count _ _ _ _ hx1 kΦ (by omega)) mlL_15 (by decide) hx0 rfl rfl rfl (Nat.le_of_ble_eq_true rfl) ⟨hzc, hzq⟩ dL_law_160 (fun r160 E160 hP => ?_)
        obtain ⟨rfl, rfl⟩ := hP
        refine v_bipush (pc := 163) cx (by decide) dL_law_163 ?_
        refine v_icmp_eq (pc := 165) cx 193 dL_law_165 rfl (by omega) (fun c165 => ?_) (fun c165 => ?_)
        · refine v_iconst (pc := 193) cx dL_law_193 ?_
          refine v_goto (pc := 194) cx 198 dL_law_194 rfl ?_
          exact rest
        · omega
      · omega
set_option maxRecDepth 100000 in
set_option maxHeartbeats 4000000 in
theorem law_start (cx : Cx X cL_law RL) (hR : RM X 8 144 4221) (hX : va_X b L xs (fS X) (fS X).heap) (hb : b < (fS X).heap.size ∧ b < gb (fG X)) (hL : L ≤ 260) (fin : ∀ (nh c q : Nat) (E : Wd) (ls : List (Option Value)), c ≤ 144 → q ≤ 4221 → V X E (nh, c, q) 640 ls [.int (iI 1)]) : V X (fun _ => none) (0, 0, 0) 0 [some (.ref b), none, none, none, none, none, none, none, none, none, none, none] [] := by
  have hzc : 124 ≤ 144 := by omega
  have hzq : 3981 ≤ 4221 := by omega
  refine v_new (pc := 0) cx hR nwL_10 ⟨Nat.le_of_ble_eq_true rfl, Nat.le_of_ble_eq_true rfl⟩ dL_law_0 (fun E0 hE0 hF0 => ?_)
  replace hE0 : E0 (0) = _ := hE0
  replace hF0 : ∀ j, j ≠ 0 → E0 j = _ := hF0
  refine v_dup (pc := 3) cx rfl dL_law_3 ?_
  refine v_callK (pc := 4) cx hR (k_X _ _ _ _ rfl hE0) mlL_44 (by decide) rfl (Nat.le_of_ble_eq_true rfl) ⟨Nat.le_of_ble_eq_true rfl, Nat.le_of_ble_eq_true rfl⟩ dL_law_4 (fun E4 hP => ?_)
  show V X _ (124, 124, 3981) _ _ _
  obtain ⟨hx, -⟩ := hP
  have hk := okX_σ0
  have hp : okP ((σ0, [], []) : Fs).1 := okP_σ0
  have hx0 := hx.1
  refine v_astore_n (pc := 7) cx rfl (sa1 rfl) dL_law_7 ?_
  refine v_aload_n (pc := 8) cx rfl ga1 dL_law_8 ?_
  refine v_callSI (pc := 9) cx hR (c_holds _ _ _ _ hx hk hp) mlL_35 (by decide) rfl (Nat.le_of_ble_eq_true rfl) ⟨hzc, hzq⟩ dL_law_9 (fun r9 E9 hP => ?_)
  obtain ⟨rfl, rfl⟩ := hP
  refine v_if_eq (pc := 12) cx 91 dL_law_12 rfl (by omega) (fun c12 => ?_) (fun c12 => ?_)
  · omega
  refine v_aload_n (pc := 15) cx rfl ga1 dL_law_15 ?_
  refine v_iconst (pc := 16) cx dL_law_16 ?_
  refine v_bipush (pc := 17) cx (by decide) dL_law_17 ?_
  refine v_aload_n (pc := 19) cx rfl ga0 dL_law_19 ?_
  refine v_iconst (pc := 20) cx dL_law_20 ?_
  refine v_callX (pc := 21) cx hR hX hb (c_cell _ _ _ _ (k := 0) hb.2 hL (by omega)) mlL_45 (by decide) rfl (Nat.le_of_ble_eq_true rfl) ⟨hzc, hzq⟩ dL_law_21 (fun y1 E21 hP => ?_)
  obtain ⟨hy1, rfl⟩ := hP
  refine v_sipush (pc := 24) cx (by decide) dL_law_24 ?_
  refine v_iremI (pc := 27) cx (by omega) dL_law_27 ?_
  refine v_iadd (pc := 28) cx dL_law_28 ?_
  obtain ⟨Φ1, e1, k1, p1, v1, x1, s1, m1, l1⟩ := set_all (Ψ := (σ0, [], [])) (w := 0) (x := 20 + y1 % 150) (i := 11) (lo := 20) (hi := 500) hk hp (by omega) (by omega) rfl rfl rfl (by omega)
  refine v_callVI (pc := 29) cx hR (c_set _ _ _ _ hx hk (by omega) (by omega)) mlL_49 (by decide) hx0 rfl rfl rfl (Nat.le_of_ble_eq_true rfl) ⟨hzc, hzq⟩ dL_law_29 (fun r29 E29 hP => ?_)
  obtain ⟨hv, hx1, -⟩ := hP
  have hv : r29 = 100 := hv.trans v1
  have hx1 : isX (fG X) E29 Φ1 := by rw [← e1]; exact hx1
  have hx0 := hx1.1
  subst hv
  refine v_bipush (pc := 32) cx (by decide) dL_law_32 ?_
  refine v_icmp_ne (pc := 34) cx 91 dL_law_34 rfl (by omega) (fun c34 => ?_) (fun c34 => ?_)
  · omega
  refine v_aload_n (pc := 37) cx rfl ga1 dL_law_37 ?_
  refine v_iconst (pc := 38) cx dL_law_38 ?_
  refine v_aload_n (pc := 39) cx rfl ga0 dL_law_39 ?_
  refine v_iconst (pc := 40) cx dL_law_40 ?_
  refine v_callX (pc := 41) cx hR hX hb (c_cell _ _ _ _ (k := 1) hb.2 hL (by omega)) mlL_45 (by decide) rfl (Nat.le_of_ble_eq_true rfl) ⟨hzc, hzq⟩ dL_law_41 (fun y2 E41 hP => ?_)
  obtain ⟨hy2, rfl⟩ := hP
  refine v_bipush (pc := 44) cx (by decide) dL_law_44 ?_
  refine v_iremI (pc := 46) cx (by omega) dL_law_46 ?_
  obtain ⟨Φ2, e2, k2, p2, v2, x2, s2, m2, l2⟩ := set_all (Ψ := Φ1) (w := 1) (x := y2 % 10) (i := 12) (lo := 0) (hi := 20) k1 p1 (by omega) (by omega) rfl rfl rfl (by omega)
  refine v_callVI (pc := 47) cx hR (c_set _ _ _ _ hx1 k1 (by omega) (by omega)) mlL_49 (by decide) hx0 rfl rfl rfl (Nat.le_of_ble_eq_true rfl) ⟨hzc, hzq⟩ dL_law_47 (fun r47 E47 hP => ?_)
  obtain ⟨hv, hx2, -⟩ := hP
  have hv : r47 = 2 := (hv.trans v2).trans (s1 12 (by decide))
  have hx2 : isX (fG X) E47 Φ2 := by rw [← e2]; exact hx2
  have hx0 := hx2.1
  subst hv
  refine v_iconst (pc := 50) cx dL_law_50 ?_
  refine v_icmp_ne (pc := 51) cx 91 dL_law_51 rfl (by omega) (fun c51 => ?_) (fun c51 => ?_)
  · omega
  refine v_aload_n (pc := 54) cx rfl ga1 dL_law_54 ?_
  refine v_iconst (pc := 55) cx dL_law_55 ?_
  refine v_aload_n (pc := 56) cx rfl ga0 dL_law_56 ?_
  refine v_iconst (pc := 57) cx dL_law_57 ?_
  refine v_callX (pc := 58) cx hR hX hb (c_cell _ _ _ _ (k := 2) hb.2 hL (by omega)) mlL_45 (by decide) rfl (Nat.le_of_ble_eq_true rfl) ⟨hzc, hzq⟩ dL_law_58 (fun y3 E58 hP => ?_)
  obtain ⟨hy3, rfl⟩ := hP
  refine v_iconst (pc := 61) cx dL_law_61 ?_
  refine v_iremI (pc := 62) cx (by omega) dL_law_62 ?_
  obtain ⟨Φ3, e3, k3, p3, v3, x3, s3, m3, l3⟩ := set_all (Ψ := Φ2) (w := 4) (x := y3 % 5) (i := 15) (lo := 0) (hi := 50) k2 p2 (by omega) (by omega) rfl rfl rfl (by omega)
  refine v_callVI (pc := 63) cx hR (c_set _ _ _ _ hx2 k2 (by omega) (by omega)) mlL_49 (by decide) hx0 rfl rfl rfl (Nat.le_of_ble_eq_true rfl) ⟨hzc, hzq⟩ dL_law_63 (fun r63 E63 hP => ?_)
  obtain ⟨hv, hx3, -⟩ := hP
  have hv : r63 = 0 := (hv.trans v3).trans ((s2 15 (by decide)).trans (s1 15 (by decide)))
  have hx3 : isX (fG X) E63 Φ3 := by rw [← e3]; exact hx3
  have hx0 := hx3.1
  subst hv
  refine v_if_ne (pc := 66) cx 91 dL_law_66 rfl (by omega) (fun c66 => ?_) (fun c66 => ?_)
  · omega
  refine v_aload_n (pc := 69) cx rfl ga1 dL_law_69 ?_
  refine v_iconst (pc := 70) cx dL_law_70 ?_
  refine v_aload_n (pc := 71) cx rfl ga0 dL_law_71 ?_
  refine v_iconst (pc := 72) cx dL_law_72 ?_
  refine v_callX (pc := 73) cx hR hX hb (c_cell _ _ _ _ (k := 3) hb.2 hL (by omega)) mlL_45 (by decide) rfl (Nat.le_of_ble_eq_true rfl) ⟨hzc, hzq⟩ dL_law_73 (fun y4 E73 hP => ?_)
  obtain ⟨hy4, rfl⟩ := hP
  refine v_bipush (pc := 76) cx (by decide) dL_law_76 ?_
  refine v_iremI (pc := 78) cx (by omega) dL_law_78 ?_
  obtain ⟨Φ4, e4, k4, p4, v4, x4, s4, m4, l4⟩ := set_all (Ψ := Φ3) (w := 2) (x := y4 % 60) (i := 13) (lo := 0) (hi := 200) k3 p3 (by omega) (by omega) rfl rfl rfl (by omega)
  refine v_callVI (pc := 79) cx hR (c_set _ _ _ _ hx3 k3 (by omega) (by omega)) mlL_49 (by decide) hx0 rfl rfl rfl (Nat.le_of_ble_eq_true rfl) ⟨hzc, hzq⟩ dL_law_79 (fun r79 E79 hP => ?_)
  obtain ⟨hv, hx4, -⟩ := hP
  have hv : r79 = 10 := (hv.trans v4).trans ((s3 13 (by decide)).trans ((s2 13 (by decide)).trans (s1 13 (by decide))))
  have hx4 : isX (fG X) E79 Φ4 := by rw [← e4]; exact hx4
  have ht : Φ4.1.1 0 = 0 := (s4 0 (by decide)).trans ((s3 0 (by decide)).trans ((s2 0 (by decide)).trans (s1 0 (by decide))))
  subst hv
  refine v_bipush (pc := 82) cx (by decide) dL_law_82 ?_
  refine v_icmp_ne (pc := 84) cx 91 dL_law_84 rfl (by omega) (fun c84 => ?_) (fun c84 => ?_)
  · omega
  refine v_iconst (pc := 87) cx dL_law_87 ?_
  refine v_goto (pc := 88) cx 92 dL_law_88 rfl ?_
  refine v_istore_n (pc := 92) cx rfl (sa2 rfl) dL_law_92 ?_
  refine v_iconst (pc := 93) cx dL_law_93 ?_
  refine v_istore_n (pc := 94) cx rfl (sa3 rfl) dL_law_94 ?_
  exact law_loop cx hR hX hb hL fin 21 0 124 124 3981 Φ4 E79 none none none none none none none none (by omega) (by omega) (by omega) (by omega) (by omega) hx4 k4 p4 (by rw [ht]; omega)
end
