/-! the law: changes with what they leave -/
theorem set_all {Ψ : Fs} {w x lo hi : Int} {i : Nat} (hk : okX Ψ) (hp : okP Ψ.1) (hw : 0 ≤ w ∧ w ≤ 7) (hw5 : w ≠ 5) (hpl : 11 + w.toNat = i) (hlo : tbV 0 w.toNat = lo) (hhi : tbV 1 w.toNat = hi) (h : lo ≤ x ∧ x ≤ hi) : ∃ Φ : Fs, sSet Ψ w x = Φ ∧ okX Φ ∧ okP Φ.1 ∧ vSet Ψ w x = Ψ.1.1 i ∧ Φ.1.1 i = x ∧ (∀ j, j ≠ i → Φ.1.1 j = Ψ.1.1 j) ∧ Φ.1.2 = Ψ.1.2 ∧ 0 < Φ.2.1.length := by
  obtain ⟨e1, e2, e3⟩ := sSet_in (Ψ := Ψ) (w := w) (x := x) (by omega)
  subst hpl
  exact ⟨_, rfl, kX_set hk, okP_set hw.1 hw5 hp, e1, e2, fun j hj => sSet_get hj, sSet_2, e3⟩
theorem add_all {Ψ : Fs} {b l r : Int} (hk : okX Ψ) (hp : okP Ψ.1) (hb : Ψ.1.1 0 ≤ b ∧ b ≤ 5000) (hl : 1 ≤ l ∧ l ≤ 500) (hr : 1 ≤ r ∧ r ≤ 200) : ∃ Φ : Fs, sAdd Ψ b l r = Φ ∧ okX Φ ∧ okP Φ.1 ∧ Φ.1.1 0 = Ψ.1.1 0 ∧ ((vAdd Ψ b l r = -3 ∧ vCnt Φ 1 = 12) ∨ (0 ≤ vAdd Ψ b l r ∧ vAdd Ψ b l r ≤ 12 ∧ vSho Φ (vAdd Ψ b l r) 2 = r)) := by
  obtain ⟨e1, e2⟩ := add_out hk hb hl hr
  exact ⟨_, rfl, kX_add hk, okP_add hp, by rw [e1], e2⟩
theorem win_all {Ψ : Fs} (hk : okX Ψ) (hp : okP Ψ.1) : ∃ Φ : Fs, sWin Ψ = Φ ∧ okX Φ ∧ okP Φ.1 ∧ Φ.1.1 0 = Ψ.1.1 0 ∧ Φ.1.1 4 = Φ.1.1 17 :=
  ⟨_, rfl, kX_win hk, okP_win hp, upI_n (g := Ψ.1.1) (j := 4) (x := Ψ.1.1 17) (q := 0) (by decide), (upI_s (g := Ψ.1.1) (j := 4) (x := Ψ.1.1 17)).trans (upI_n (g := Ψ.1.1) (j := 4) (x := Ψ.1.1 17) (q := 17) (by decide)).symm⟩
theorem run_all {Ψ : Fs} {k : Int} (n : Nat) (hk : okX Ψ) (hp : okP Ψ.1) (hn : k = (n : Int)) (h1 : 1 ≤ n ∧ n ≤ 1000) (h2 : Ψ.1.1 0 + n ≤ 5000) : ∃ Φ : Fs, sRun Ψ k = Φ ∧ okX Φ ∧ okP Φ.1 ∧ (0 ≤ vRun Ψ k ∧ vRun Ψ k ≤ 1000) ∧ Φ.1.1 0 = Ψ.1.1 0 + n ∧ Φ.1 = ticks Ψ.1 n ∧ 0 < Φ.2.1.length ∧ okX (sUnd Φ) ∧ (sUnd Φ).1 = Ψ.1 := by
  subst hn
  obtain ⟨e1, e2⟩ := run_in h1 h2
  have ht := tips_le (σ := Ψ.1) n
  have hk2 := okX_run hk h1 h2
  refine ⟨_, e2, hk2, okP_ticks hk.1 hp n h2, by rw [e1]; omega, ticks_0 n, rfl, keepH_pos, ?_, ?_⟩
  · rw [und_keep]
    exact okX_und hk2
  · rw [und_keep]
section
variable {X : Fx} {b L : Nat} {xs : Nat → Int32}
/-! the law's last rows -/
set_option maxRecDepth 100000 in
set_option maxHeartbeats 4000000 in
theorem law_end (cx : Cx X cL_law RL) (hR : RM X 8 144 4221) {nh c q : Nat} (hzc : c ≤ 144) (hzq : q ≤ 4221) (fin : ∀ (E : Wd) (ls : List (Option Value)), V X E (nh, c, q) 640 ls [.int (iI 1)]) {Ψ : Fs} {E : Wd} (hx : isX (fG X) E Ψ) (hk : okX Ψ) (hh : 0 < Ψ.2.1.length) (g : Int) (w4 w5 w6 w7 w8 w9 w10 w11 : Option Value) : V X E (nh, c, q) 601 [some (.ref b), some (.ref (gb (fG X) + 0)), some (.int (iI 1)), some (.int (iI g)), w4, w5, w6, w7, w8, w9, w10, w11] [] := by
  have hx0 := hx.1
  obtain ⟨nC0, nC1, nC2, nC3, nC4, nC5, nC6, nC8, nC11, nC13, nC20, nC25, nC26⟩ := vC (Ψ := Ψ)
  have hlen := hk.2.1.1
  refine v_iconst (pc := 601) cx dL_law_601 ?_
  refine v_goto (pc := 602) cx 606 dL_law_602 rfl ?_
  refine v_istore_n (pc := 606) cx rfl (sa2 rfl) dL_law_606 ?_
  refine v_aload_n (pc := 607) cx rfl ga1 dL_law_607 ?_
  refine v_bipush (pc := 608) cx (by decide) dL_law_608 ?_
  refine v_callVI (pc := 610) cx hR (c_count _ _ _ _ hx hk (by omega)) mlL_15 (by decide) hx0 rfl rfl rfl (Nat.le_of_ble_eq_true rfl) ⟨hzc, hzq⟩ dL_law_610 (fun r610 E610 hP => ?_)
  obtain ⟨rfl, rfl⟩ := hP
  refine v_istore (pc := 613) cx (sa4 rfl) dL_law_613 ?_
  refine v_iload_n (pc := 615) cx rfl ga2 dL_law_615 ?_
  refine v_if_eq (pc := 616) cx 639 dL_law_616 rfl (by omega) (fun c616 => ?_) (fun c616 => ?_)
  · omega
  refine v_iload (pc := 619) cx ga4 dL_law_619 ?_
  refine v_if_le (pc := 621) cx 639 dL_law_621 rfl (by omega) (fun c621 => ?_) (fun c621 => ?_)
  · omega
  refine v_aload_n (pc := 624) cx rfl ga1 dL_law_624 ?_
  refine v_callVI (pc := 625) cx hR (c_undo _ _ _ _ hx hk) mlL_41 (by decide) hx0 rfl rfl rfl (Nat.le_of_ble_eq_true rfl) ⟨hzc, hzq⟩ dL_law_625 (fun r625 E625 hP => ?_)
  obtain ⟨hv, hx1, hF⟩ := hP
  rw [vUnd_pos hh] at hv
  subst hv
  refine v_iload (pc := 628) cx ga4 dL_law_628 ?_
  refine v_iconst (pc := 630) cx dL_law_630 ?_
  refine v_isub (pc := 631) cx dL_law_631 ?_
  refine v_icmp_ne (pc := 632) cx 639 dL_law_632 rfl (by omega) (fun c632 => ?_) (fun c632 => ?_)
  · omega
  refine v_iconst (pc := 635) cx dL_law_635 ?_
  refine v_goto (pc := 636) cx 640 dL_law_636 rfl ?_
  exact fin _ _
set_option maxRecDepth 100000 in
set_option maxHeartbeats 4000000 in
theorem law_gap (cx : Cx X cL_law RL) (hR : RM X 8 144 4221) {nh c q : Nat} (hzc : c ≤ 144) (hzq : q ≤ 4221) (fin : ∀ (E : Wd) (ls : List (Option Value)), V X E (nh, c, q) 640 ls [.int (iI 1)]) {Ψ : Fs} {E : Wd} (hx : isX (fG X) E Ψ) (hk : okX Ψ) (hp : okP Ψ.1) (hh : 0 < Ψ.2.1.length) (w3 : Int) (w4 w5 w6 w7 w8 w9 w10 w11 : Option Value) : V X E (nh, c, q) 534 [some (.ref b), some (.ref (gb (fG X) + 0)), some (.int (iI 1)), some (.int (iI w3)), w4, w5, w6, w7, w8, w9, w10, w11] [] := by
  have hx0 := hx.1
  have hg := gap_in (Ψ := Ψ)
  have hse := hk.1.2.1.2.2.2.2.2.2.2
  refine v_iconst (pc := 534) cx dL_law_534 ?_
  refine v_goto (pc := 535) cx 539 dL_law_535 rfl ?_
  refine v_istore_n (pc := 539) cx rfl (sa2 rfl) dL_law_539 ?_
  refine v_aload_n (pc := 540) cx rfl ga1 dL_law_540 ?_
  refine v_callVI (pc := 541) cx hR (c_gapForOne _ _ _ _ hx hk) mlL_72 (by decide) hx0 rfl rfl rfl (Nat.le_of_ble_eq_true rfl) ⟨hzc, hzq⟩ dL_law_541 (fun r541 E541 hP => ?_)
  obtain ⟨rfl, rfl⟩ := hP
  refine v_istore_n (pc := 544) cx rfl (sa3 rfl) dL_law_544 ?_
  refine v_iload_n (pc := 545) cx rfl ga2 dL_law_545 ?_
  refine v_if_eq (pc := 546) cx 605 dL_law_546 rfl (by omega) (fun c546 => ?_) (fun c546 => ?_)
  · omega
  refine v_iload_n (pc := 549) cx rfl ga3 dL_law_549 ?_
  refine v_bipush (pc := 550) cx (by decide) dL_law_550 ?_
  refine v_icmp_eq (pc := 552) cx 601 dL_law_552 rfl (by omega) (fun c552 => ?_) (fun c552 => ?_)
  · exact law_end cx hR hzc hzq fin hx hk hh _ w4 w5 w6 w7 w8 w9 w10 w11
  rcases hg with hg | hg
  · omega
  obtain ⟨g1, g2, g3, g4⟩ := hg
  obtain ⟨Φ, eΦ, kΦ, pΦ, vΦ, xΦ, sΦ, mΦ, lΦ⟩ := set_all (w := 7) (x := vGap Ψ) (i := 18) (lo := 1) (hi := 1000) hk hp (by omega) (by omega) rfl rfl rfl ⟨g1, g2⟩
  refine v_aload_n (pc := 555) cx rfl ga1 dL_law_555 ?_
  refine v_bipush (pc := 556) cx (by decide) dL_law_556 ?_
  refine v_iload_n (pc := 558) cx rfl ga3 dL_law_558 ?_
  refine v_callVI (pc := 559) cx hR (c_set _ _ _ _ hx hk (by omega) (by omega)) mlL_49 (by decide) hx0 rfl rfl rfl (Nat.le_of_ble_eq_true rfl) ⟨hzc, hzq⟩ dL_law_559 (fun r559 E559 hP => ?_)
  obtain ⟨hv, hx1, hF⟩ := hP
  have hv := hv.trans vΦ
  have hx1 : isX (fG X) E559 Φ := by rw [← eΦ]; exact hx1
  have hx10 := hx1.1
  have n3 : vCnt Φ 3 = 1 := by
    show (cnt (k1 Φ.1.2.2.2) (Φ.1.1 18) Φ.1.2.2.2.length : Int) = 1
    rw [mΦ, xΦ, g3]
    rfl
  subst hv
  refine v_if_le (pc := 562) cx 605 dL_law_562 rfl (by omega) (fun c562 => ?_) (fun c562 => ?_)
  · omega
  have hx0 := hx10
  refine v_aload_n (pc := 565) cx rfl ga1 dL_law_565 ?_
  refine v_iconst (pc := 566) cx dL_law_566 ?_
  refine v_callVI (pc := 567) cx hR (c_count _ _ _ _ hx1 kΦ (by omega)) mlL_15 (by decide) hx0 rfl rfl rfl (Nat.le_of_ble_eq_true rfl) ⟨hzc, hzq⟩ dL_law_567 (fun r567 E567 hP => ?_)
  obtain ⟨rfl, rfl⟩ := hP
  refine v_iconst (pc := 570) cx dL_law_570 ?_
  refine v_icmp_ne (pc := 571) cx 605 dL_law_571 rfl (by omega) (fun c571 => ?_) (fun c571 => ?_)
  · omega
  refine v_iload_n (pc := 574) cx rfl ga3 dL_law_574 ?_
  refine v_iconst (pc := 575) cx dL_law_575 ?_
  refine v_icmp_eq (pc := 576) cx 601 dL_law_576 rfl (by omega) (fun c576 => ?_) (fun c576 => ?_)
  · exact law_end cx hR hzc hzq fin hx1 kΦ lΦ _ w4 w5 w6 w7 w8 w9 w10 w11
  rcases g4 with g4 | g4
  · omega
  obtain ⟨Θ, eΘ, kΘ, pΘ, vΘ, xΘ, sΘ, mΘ, lΘ⟩ := set_all (Ψ := Φ) (w := 7) (x := vGap Ψ - 1) (i := 18) (lo := 1) (hi := 1000) kΦ pΦ (by omega) (by omega) rfl rfl rfl (by omega)
  refine v_aload_n (pc := 579) cx rfl ga1 dL_law_579 ?_
  refine v_bipush (pc := 580) cx (by decide) dL_law_580 ?_
  refine v_iload_n (pc := 582) cx rfl ga3 dL_law_582 ?_
  refine v_iconst (pc := 583) cx dL_law_583 ?_
  refine v_isub (pc := 584) cx dL_law_584 ?_
  refine v_callVI (pc := 585) cx hR (c_set _ _ _ _ hx1 kΦ (by omega) (by omega)) mlL_49 (by decide) hx0 rfl rfl rfl (Nat.le_of_ble_eq_true rfl) ⟨hzc, hzq⟩ dL_law_585 (fun r585 E585 hP => ?_)
  obtain ⟨hv, hx2, hF2⟩ := hP
  have hv := hv.trans vΘ
  have hx2 : isX (fG X) E585 Θ := by rw [← eΘ]; exact hx2
  have hx0 := hx2.1
  have n3 : (2 : Int) ≤ vCnt Θ 3 ∧ vCnt Θ 3 ≤ 60 := by
    have e : vCnt Θ 3 = (cnt (k1 Ψ.1.2.2.2) (vGap Ψ - 1) Ψ.1.2.2.2.length : Int) := by
      show (cnt (k1 Θ.1.2.2.2) (Θ.1.1 18) Θ.1.2.2.2.length : Int) = _
      rw [mΘ, mΦ, xΘ]
    have h1 := cnt_le (k1 Ψ.1.2.2.2) (vGap Ψ - 1) Ψ.1.2.2.2.length
    have h2 := hk.1.2.2.2.2.1
    omega
  subst hv
  refine v_iload_n (pc := 588) cx rfl ga3 dL_law_588 ?_
  refine v_icmp_ne (pc := 589) cx 605 dL_law_589 rfl (by omega) (fun c589 => ?_) (fun c589 => ?_)
  · omega
  refine v_aload_n (pc := 592) cx rfl ga1 dL_law_592 ?_
  refine v_iconst (pc := 593) cx dL_law_593 ?_
  refine v_callVI (pc := 594) cx hR (c_count _ _ _ _ hx2 kΘ (by omega)) mlL_15 (by decide) hx0 rfl rfl rfl (Nat.le_of_ble_eq_true rfl) ⟨hzc, hzq⟩ dL_law_594 (fun r594 E594 hP => ?_)
  obtain ⟨rfl, rfl⟩ := hP
  refine v_iconst (pc := 597) cx dL_law_597 ?_
  refine v_icmp_le (pc := 598) cx 605 dL_law_598 rfl (by omega) (fun c598 => ?_) (fun c598 => ?_)
  · omega
  exact law_end cx hR hzc hzq fin hx2 kΘ lΘ _ w4 w5 w6 w7 w8 w9 w10 w11
set_option maxRecDepth 100000 in
set_option maxHeartbeats 4000000 in
theorem law_runs (cx : Cx X cL_law RL) (hR : RM X 8 144 4221) {nh c q : Nat} (hzc : c ≤ 144) (hzq : q ≤ 4221) (fin : ∀ (E : Wd) (ls : List (Option Value)), V X E (nh, c, q) 640 ls [.int (iI 1)]) (w4 w5 w6 w7 w8 w9 w10 w11 : Option Value) : ∀ (d j : Nat) (Ψ : Fs) (E : Wd), j ≤ 3 → 3 - j < d → isX (fG X) E Ψ → okX Ψ → okP Ψ.1 → 0 < Ψ.2.1.length → Ψ.1.1 0 ≤ 1820 + 700 * j → V X E (nh, c, q) 453 [some (.ref b), some (.ref (gb (fG X) + 0)), some (.int (iI 1)), some (.int (iI (j : Int))), w4, w5, w6, w7, w8, w9, w10, w11] [] := by
  intro d
  induction d with
  | zero => intro j Ψ E h1 h2; omega
  | succ d ih =>
    intro j Ψ E hj hd hx hk hp hh hs
    have hx0 := hx.1
    obtain ⟨nC0, nC1, nC2, nC3, nC4, nC5, nC6, nC8, nC11, nC13, nC20, nC25, nC26⟩ := vC (Ψ := Ψ)
    have hsc := hk.1.1.1
    have hls := hk.1.2.2.1.1
    have hrn := tkRain_bd hk.1
    refine v_iload_n (pc := 453) cx rfl ga3 dL_law_453 ?_
    refine v_iconst (pc := 454) cx dL_law_454 ?_
    refine v_icmp_ge (pc := 455) cx 495 dL_law_455 rfl (by omega) (fun c455 => ?_) (fun c455 => ?_)
    · refine v_iload_n (pc := 495) cx rfl ga2 dL_law_495 ?_
      refine v_if_eq (pc := 496) cx 538 dL_law_496 rfl (by omega) (fun c496 => ?_) (fun c496 => ?_)
      · omega
      refine v_aload_n (pc := 499) cx rfl ga1 dL_law_499 ?_
      refine v_callSI (pc := 500) cx hR (c_holds _ _ _ _ hx hk hp) mlL_35 (by decide) rfl (Nat.le_of_ble_eq_true rfl) ⟨hzc, hzq⟩ dL_law_500 (fun r500 E500 hP => ?_)
      obtain ⟨rfl, rfl⟩ := hP
      refine v_if_eq (pc := 503) cx 538 dL_law_503 rfl (by omega) (fun c503 => ?_) (fun c503 => ?_)
      · omega
      refine v_aload_n (pc := 506) cx rfl ga1 dL_law_506 ?_
      refine v_iconst (pc := 507) cx dL_law_507 ?_
      refine v_callVI (pc := 508) cx hR (c_count _ _ _ _ hx hk (by omega)) mlL_15 (by decide) hx0 rfl rfl rfl (Nat.le_of_ble_eq_true rfl) ⟨hzc, hzq⟩ dL_law_508 (fun r508 E508 hP => ?_)
      obtain ⟨rfl, rfl⟩ := hP
      refine v_sipush (pc := 511) cx (by decide) dL_law_511 ?_
      refine v_icmp_lt (pc := 514) cx 534 dL_law_514 rfl (by omega) (fun c514 => ?_) (fun c514 => ?_)
      · exact law_gap cx hR hzc hzq fin hx hk hp hh _ w4 w5 w6 w7 w8 w9 w10 w11
      refine v_aload_n (pc := 517) cx rfl ga1 dL_law_517 ?_
      refine v_iconst (pc := 518) cx dL_law_518 ?_
      refine v_callVI (pc := 519) cx hR (c_count _ _ _ _ hx hk (by omega)) mlL_15 (by decide) hx0 rfl rfl rfl (Nat.le_of_ble_eq_true rfl) ⟨hzc, hzq⟩ dL_law_519 (fun r519 E519 hP => ?_)
      obtain ⟨rfl, rfl⟩ := hP
      refine v_if_gt (pc := 522) cx 534 dL_law_522 rfl (by omega) (fun c522 => ?_) (fun c522 => ?_)
      · exact law_gap cx hR hzc hzq fin hx hk hp hh _ w4 w5 w6 w7 w8 w9 w10 w11
      have h13 : vCnt Ψ 13 = 0 := by
        have e : Ψ.1.2.1 = [] := List.length_eq_zero_iff.mp (by omega)
        show rainL Ψ.1.2.1 (Ψ.1.1 0) = 0
        rw [e]
        rfl
      refine v_aload_n (pc := 525) cx rfl ga1 dL_law_525 ?_
      refine v_bipush (pc := 526) cx (by decide) dL_law_526 ?_
      refine v_callVI (pc := 528) cx hR (c_count _ _ _ _ hx hk (by omega)) mlL_15 (by decide) hx0 rfl rfl rfl (Nat.le_of_ble_eq_true rfl) ⟨hzc, hzq⟩ dL_law_528 (fun r528 E528 hP => ?_)
      obtain ⟨rfl, rfl⟩ := hP
      refine v_if_ne (pc := 531) cx 538 dL_law_531 rfl (by omega) (fun c531 => ?_) (fun c531 => ?_)
      · omega
      exact law_gap cx hR hzc hzq fin hx hk hp hh _ w4 w5 w6 w7 w8 w9 w10 w11
    refine v_iload_n (pc := 458) cx rfl ga2 dL_law_458 ?_
    refine v_if_eq (pc := 459) cx 495 dL_law_459 rfl (by omega) (fun c459 => ?_) (fun c459 => ?_)
    · omega
    obtain ⟨Φ, eΦ, kΦ, pΦ, vΦ, tΦ, sΦ, lΦ, -, -⟩ := run_all (k := 700) 700 hk hp rfl (by omega) (by omega)
    refine v_aload_n (pc := 462) cx rfl ga1 dL_law_462 ?_
    refine v_sipush (pc := 463) cx (by decide) dL_law_463 ?_
    refine v_callVI (pc := 466) cx hR (c_run _ _ _ _ hx hk (by omega)) mlL_32 (by decide) hx0 rfl rfl rfl (Nat.le_of_ble_eq_true rfl) ⟨hzc, hzq⟩ dL_law_466 (fun r466 E466 hP => ?_)
    obtain ⟨hv, hx1, hF⟩ := hP
    have hx1 : isX (fG X) E466 Φ := by rw [← eΦ]; exact hx1
    subst hv
    refine v_if_ge (pc := 469) cx 483 dL_law_469 rfl (by omega) (fun c469 => ?_) (fun c469 => ?_)
    · refine v_iconst (pc := 483) cx dL_law_483 ?_
      refine v_goto (pc := 484) cx 488 dL_law_484 rfl ?_
      refine v_istore_n (pc := 488) cx rfl (sa2 rfl) dL_law_488 ?_
      refine v_iinc (pc := 489) cx ga3 (sa3 rfl) dL_law_489 ?_
      refine v_goto (pc := 492) cx 453 dL_law_492 rfl ?_
      exact ih (j + 1) Φ E466 (by omega) (by omega) hx1 kΦ pΦ lΦ (by omega)
    · omega
set_option maxRecDepth 100000 in
set_option maxHeartbeats 4000000 in
theorem law_tail (cx : Cx X cL_law RL) (hR : RM X 8 144 4221) {nh c q : Nat} (hzc : c ≤ 144) (hzq : q ≤ 4221) (fin : ∀ (E : Wd) (ls : List (Option Value)), V X E (nh, c, q) 640 ls [.int (iI 1)]) {Ψ : Fs} {E : Wd} (hx : isX (fG X) E Ψ) (hk : okX Ψ) (hp : okP Ψ.1) (hs : Ψ.1.1 0 ≤ 1820) (w3 : Int) (w4 w5 w6 w7 w8 w9 w10 w11 : Option Value) : V X E (nh, c, q) 421 [some (.ref b), some (.ref (gb (fG X) + 0)), some (.int (iI 1)), some (.int (iI w3)), w4, w5, w6, w7, w8, w9, w10, w11] [] := by
  have hx0 := hx.1
  have hse := hk.1.2.1
  obtain ⟨z1, z2, z3, z4, z5, z6, z7, z8⟩ := hse
  refine v_iload_n (pc := 421) cx rfl ga2 dL_law_421 ?_
  refine v_if_eq (pc := 422) cx 449 dL_law_422 rfl (by omega) (fun c422 => ?_) (fun c422 => ?_)
  · omega
  obtain ⟨Φ, eΦ, kΦ, pΦ, vΦ, xΦ, sΦ, mΦ, lΦ⟩ := set_all (w := 3) (x := 50) (i := 14) (lo := 0) (hi := 50) hk hp (by omega) (by omega) rfl rfl rfl (by omega)
  refine v_aload_n (pc := 425) cx rfl ga1 dL_law_425 ?_
  refine v_iconst (pc := 426) cx dL_law_426 ?_
  refine v_bipush (pc := 427) cx (by decide) dL_law_427 ?_
  refine v_callVI (pc := 429) cx hR (c_set _ _ _ _ hx hk (by omega) (by omega)) mlL_49 (by decide) hx0 rfl rfl rfl (Nat.le_of_ble_eq_true rfl) ⟨hzc, hzq⟩ dL_law_429 (fun r429 E429 hP => ?_)
  obtain ⟨hv, hx1, hF⟩ := hP
  have hv := hv.trans vΦ
  have hx1 : isX (fG X) E429 Φ := by rw [← eΦ]; exact hx1
  have hx0 := hx1.1
  subst hv
  refine v_if_lt (pc := 432) cx 449 dL_law_432 rfl (by omega) (fun c432 => ?_) (fun c432 => ?_)
  · omega
  obtain ⟨Θ, eΘ, kΘ, pΘ, vΘ, xΘ, sΘ, mΘ, lΘ⟩ := set_all (Ψ := Φ) (w := 4) (x := 50) (i := 15) (lo := 0) (hi := 50) kΦ pΦ (by omega) (by omega) rfl rfl rfl (by omega)
  have h15 := sΦ 15 (by decide)
  have h0 := sΦ 0 (by decide)
  have h00 := sΘ 0 (by decide)
  refine v_aload_n (pc := 435) cx rfl ga1 dL_law_435 ?_
  refine v_iconst (pc := 436) cx dL_law_436 ?_
  refine v_bipush (pc := 437) cx (by decide) dL_law_437 ?_
  refine v_callVI (pc := 439) cx hR (c_set _ _ _ _ hx1 kΦ (by omega) (by omega)) mlL_49 (by decide) hx0 rfl rfl rfl (Nat.le_of_ble_eq_true rfl) ⟨hzc, hzq⟩ dL_law_439 (fun r439 E439 hP => ?_)
  obtain ⟨hv, hx2, hF2⟩ := hP
  have hv := hv.trans vΘ
  have hx2 : isX (fG X) E439 Θ := by rw [← eΘ]; exact hx2
  subst hv
  refine v_if_lt (pc := 442) cx 449 dL_law_442 rfl (by omega) (fun c442 => ?_) (fun c442 => ?_)
  · omega
  refine v_iconst (pc := 445) cx dL_law_445 ?_
  refine v_goto (pc := 446) cx 450 dL_law_446 rfl ?_
  refine v_istore_n (pc := 450) cx rfl (sa2 rfl) dL_law_450 ?_
  refine v_iconst (pc := 451) cx dL_law_451 ?_
  refine v_istore_n (pc := 452) cx rfl (sa3 rfl) dL_law_452 ?_
  exact law_runs cx hR hzc hzq fin w4 w5 w6 w7 w8 w9 w10 w11 4 0 Θ E439 (by omega) (by omega) hx2 kΘ pΘ lΘ (by omega)
end
