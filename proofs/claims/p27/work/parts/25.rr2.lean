theorem tb_bd : ∀ j, j < 8 → (0 ≤ tbV 0 j ∧ tbV 0 j ≤ 1000) ∧ (0 ≤ tbV 1 j ∧ tbV 1 j ≤ 2000) := by decide
def vSet (Ψ : Fs) (w x : Int) : Int := if ¬ (0 ≤ w ∧ w ≤ 7) ∨ ¬ (tbV 0 w.toNat ≤ x ∧ x ≤ tbV 1 w.toNat) then -1 else Ψ.1.1 (11 + w.toNat)
def sSet (Ψ : Fs) (w x : Int) : Fs := if ¬ (0 ≤ w ∧ w ≤ 7) ∨ ¬ (tbV 0 w.toNat ≤ x ∧ x ≤ tbV 1 w.toNat) then Ψ else ((upI Ψ.1.1 (11 + w.toNat) x, Ψ.1.2), keepH Ψ.2.1 Ψ.1, Ψ.2.2)
theorem hSt_se {s s' : Nat → Int} {sh mk : List (Int × Int × Int)} {ge : List (Int × Int)} {st st' : Nat → Int} {n : Nat} {b l r : Nat → Int} {fc fd : Int} {B : BT} {cr cc : Int} {ng : Nat} {gf gs : Nat → Int} {nm : Nat} {t p v : Nat → Int} {tick fell : Int} (h : hSt (s, sh, ge, mk) st n b l r fc fd B cr cc ng gf gs nm t p v tick fell) (hst : ∀ j, j < 8 → st' j = s' (11 + j)) (hi : ∀ i, i < 11 → s' i = s i) : hSt (s', sh, ge, mk) st' n b l r fc fd B cr cc ng gf gs nm t p v tick fell := by
  obtain ⟨q1, q2, q3, q4, ⟨q51, q52, q53, q54, q55, q56⟩, q6, q7, q8, q9, q10, q11⟩ := h
  exact ⟨hst, q2, q3, q4.trans (hi 1 (by decide)).symm, ⟨q51.trans (hi 2 (by decide)).symm, q52.trans (hi 3 (by decide)).symm, q53.trans (hi 7 (by decide)).symm, q54.trans (hi 8 (by decide)).symm, q55.trans (hi 9 (by decide)).symm, q56.trans (hi 10 (by decide)).symm⟩, q6.trans (hi 4 (by decide)).symm, q7.trans (hi 5 (by decide)).symm, q8, q9, q10.trans (hi 0 (by decide)).symm, q11.trans (hi 6 (by decide)).symm⟩
set_option maxRecDepth 100000 in
set_option maxHeartbeats 4000000 in
theorem c_set (lc : Launch) (G : Gc) (E : Wd) (nh : Nat) {Ψ : Fs} {w x : Int} (h : isX G E Ψ) (hk : okX Ψ) (hw : -2147483648 ≤ w ∧ w < 2147483648) (hx : -2147483648 ≤ x ∧ x < 2147483648) : CI lc G 5 yX11_set cX11_set 4 .int [.ref (gb G + 0), .int (iI w), .int (iI x)] E nh 0 0 (fun r E' => r = vSet Ψ w x ∧ isX G E' (sSet Ψ w x) ∧ Out E E' 0 124) := by
  refine CI.mk (by decide +kernel) rfl (Nat.le_of_ble_eq_true rfl) ?_
  intro X hG hL cx hR hI
  subst hG; subst hL
  show V X E (nh, 0, 0) 0 [some (.ref (gb (fG X) + 0)), some (.int (iI w)), some (.int (iI x)), none] []
  obtain ⟨⟨s, sh, ge, mk⟩, hs, tx⟩ := Ψ
  have hX := h
  obtain ⟨hxr, hS, hH⟩ := h.split
  simp only at hS hH hxr
  have hx0 := hxr.1
  have hH0 := hH.obj
  have bad : (¬ (0 ≤ w ∧ w ≤ 7) ∨ ¬ (tbV 0 w.toNat ≤ x ∧ x ≤ tbV 1 w.toNat)) → V X E (nh, 0, 0) 27 [some (.ref (gb (fG X) + 0)), some (.int (iI w)), some (.int (iI x)), none] [] := by
    intro hb
    refine v_iconst (pc := 27) cx dX11_set_27 ?_
    refine v_ireturn (pc := 28) cx hI rfl ?_ dX11_set_28
    unfold vSet sSet
    rw [if_pos hb, if_pos hb]
    exact ⟨rfl, hX, fun _ _ => rfl⟩
  refine v_iload_n (pc := 0) cx rfl ga1 dX11_set_0 ?_
  refine v_iconst (pc := 1) cx dX11_set_1 ?_
  refine v_bipush (pc := 2) cx (by decide) dX11_set_2 ?_
  refine v_callSI (pc := 4) cx hR (c_isWithin _ _ _ _ (by omega)) mlX11_51 (by decide) rfl (Nat.le_of_ble_eq_true rfl) ⟨Nat.le_refl _, Nat.le_refl _⟩ dX11_set_4 (fun r1 E1 hP => ?_)
  obtain ⟨w1, rfl⟩ := hP
  refine v_if_eq (pc := 7) cx 27 dX11_set_7 rfl (by omega) (fun c7 => ?_) (fun c7 => ?_)
  · exact bad (Or.inl (by omega))
  · obtain ⟨wn, rfl⟩ := Int.eq_ofNat_of_zero_le (show 0 ≤ w by omega)
    have hbd := tb_bd wn (by omega)
    rw [Int.toNat_natCast] at bad
    refine v_iload_n (pc := 10) cx rfl ga2 dX11_set_10 ?_
    refine v_getstatic (pc := 11) cx 0 (by decide) gsX11_105 dX11_set_11 ?_
    refine v_iload_n (pc := 14) cx rfl ga1 dX11_set_14 ?_
    refine v_tload (pc := 15) cx (wn) (by decide) (by omega) dX11_set_15 ?_
    refine v_getstatic (pc := 16) cx 1 (by decide) gsX11_108 dX11_set_16 ?_
    refine v_iload_n (pc := 19) cx rfl ga1 dX11_set_19 ?_
    refine v_tload (pc := 20) cx (wn) (by decide) (by omega) dX11_set_20 ?_
    refine v_callSI (pc := 21) cx hR (c_isWithin _ _ _ _ (by omega)) mlX11_51 (by decide) rfl (Nat.le_of_ble_eq_true rfl) ⟨Nat.le_refl _, Nat.le_refl _⟩ dX11_set_21 (fun r2 E2 hP => ?_)
    obtain ⟨w2, rfl⟩ := hP
    refine v_if_ne (pc := 24) cx 29 dX11_set_24 rfl (by omega) (fun c24 => ?_) (fun c24 => ?_)
    · have hg : ¬ (¬ (0 ≤ (wn : Int) ∧ (wn : Int) ≤ 7) ∨ ¬ (tbV 0 wn ≤ x ∧ x ≤ tbV 1 wn)) := by omega
      refine v_aload_n (pc := 29) cx rfl ga0 dX11_set_29 ?_
      refine v_getfield (pc := 30) cx flX11_22 (by assumption) gf2 dX11_set_30 ?_
      refine v_aload_n (pc := 33) cx rfl ga0 dX11_set_33 ?_
      refine v_getfield (pc := 34) cx flX11_10 (by assumption) gf0 dX11_set_34 ?_
      refine v_callVV (pc := 37) cx hR (c_Hi_keep _ _ _ _ hH hS (by omega)) mlX11_64 (by decide) hH0 rfl rfl rfl (Nat.le_of_ble_eq_true rfl) ⟨Nat.le_refl _, Nat.le_refl _⟩ dX11_set_37 (fun E4 hP => ?_)
      obtain ⟨hH4, hF⟩ := hP
      have hxr4 := hxr.out hF (by omega)
      have hS4 := hS.out hF (by omega)
      have hx4 := hxr4.1
      obtain ⟨st, n, b, l, r, fc, fd, B, cr, cn, ng, gf, gs, nm, t, p, v, tk, fell, ⟨s0, s1, s2, s3, s4, s5, s6, s7⟩, hq⟩ := id hS4
      refine v_aload_n (pc := 40) cx rfl ga0 dX11_set_40 ?_
      refine v_getfield (pc := 41) cx flX11_10 (by assumption) gf0 dX11_set_41 ?_
      refine v_getfield (pc := 44) cx flX11_111 (by assumption) gf0 dX11_set_44 ?_
      refine v_iload_n (pc := 47) cx rfl ga1 dX11_set_47 ?_
      refine v_iaload (pc := 48) cx (wn) (by assumption) (by omega) dX11_set_48 ?_
      refine v_istore_n (pc := 49) cx rfl (sa3 rfl) dX11_set_49 ?_
      refine v_aload_n (pc := 50) cx rfl ga0 dX11_set_50 ?_
      refine v_getfield (pc := 51) cx flX11_10 (by assumption) gf0 dX11_set_51 ?_
      refine v_getfield (pc := 54) cx flX11_111 (by assumption) gf0 dX11_set_54 ?_
      refine v_iload_n (pc := 57) cx rfl ga1 dX11_set_57 ?_
      refine v_iload_n (pc := 58) cx rfl ga2 dX11_set_58 ?_
      refine v_iastore (pc := 59) cx (wn) s1 (by omega) dX11_set_59 (fun E59 hE59 hF59 => ?_)
      replace s0 := (hF59 _ (by omega)).trans s0
      replace s1 := hE59
      replace s3 := (hF59 _ (by omega)).trans s3
      replace s4 := (hF59 _ (by omega)).trans s4
      replace s5 := (hF59 _ (by omega)).trans s5
      refine v_iload_n (pc := 60) cx rfl ga3 dX11_set_60 ?_
      refine v_ireturn (pc := 61) cx hI rfl ?_ dX11_set_61
      have hF59' : Out E4 E59 (1 + 1) (1 + 2) := fun j hj => hF59 j (by omega)
      unfold vSet sSet
      simp only [Int.toNat_natCast]
      rw [if_neg hg, if_neg hg]
      refine ⟨hq.1 wn (by omega), isX.join (hxr4.out hF59' (by omega)) ⟨_, n, b, l, r, fc, fd, B, cr, cn, ng, gf, gs, nm, t, p, v, tk, fell, ⟨s0, s1, s2.out hF59' (by omega), s3, s4, s5, s6.out hF59' (by omega), s7.out hF59' (by omega)⟩, hSt_se hq (fun j hj => ?_) (fun i hi => upI_n (by omega))⟩ (hH4.out hF59' (by omega)), fun j hj => (hF59' j (by omega)).trans (hF j (by omega))⟩
      by_cases e : j = wn
      · rw [e, upI_s, upI_s]
      · rw [upI_n e, upI_n (by omega)]
        exact hq.1 j hj
    · exact bad (Or.inr (by omega))
def vWin (Ψ : Fs) : Int := Ψ.1.1 4
def sWin (Ψ : Fs) : Fs := ((upI Ψ.1.1 4 (Ψ.1.1 17), Ψ.1.2), keepH Ψ.2.1 Ψ.1, Ψ.2.2)
set_option maxRecDepth 100000 in
set_option maxHeartbeats 4000000 in
theorem c_wind (lc : Launch) (G : Gc) (E : Wd) (nh : Nat) {Ψ : Fs} (h : isX G E Ψ) (hk : okX Ψ) : CI lc G 5 yX11_wind cX11_wind 2 .int [.ref (gb G + 0)] E nh 0 0 (fun r E' => r = vWin Ψ ∧ isX G E' (sWin Ψ) ∧ Out E E' 0 124) := by
  refine CI.mk (by decide +kernel) rfl (Nat.le_of_ble_eq_true rfl) ?_
  intro X hG hL cx hR hI
  subst hG; subst hL
  show V X E (nh, 0, 0) 0 [some (.ref (gb (fG X) + 0)), none] []
  obtain ⟨⟨s, sh, ge, mk⟩, hs, tx⟩ := Ψ
  obtain ⟨hxr, hS, hH⟩ := h.split
  simp only at hS hH hxr
  have hx0 := hxr.1
  have hH0 := hH.obj
  refine v_aload_n (pc := 0) cx rfl ga0 dX11_wind_0 ?_
  refine v_getfield (pc := 1) cx flX11_22 (by assumption) gf2 dX11_wind_1 ?_
  refine v_aload_n (pc := 4) cx rfl ga0 dX11_wind_4 ?_
  refine v_getfield (pc := 5) cx flX11_10 (by assumption) gf0 dX11_wind_5 ?_
  refine v_callVV (pc := 8) cx hR (c_Hi_keep _ _ _ _ hH hS (by omega)) mlX11_64 (by decide) hH0 rfl rfl rfl (Nat.le_of_ble_eq_true rfl) ⟨Nat.le_refl _, Nat.le_refl _⟩ dX11_wind_8 (fun E4 hP => ?_)
  obtain ⟨hH4, hF⟩ := hP
  have hxr4 := hxr.out hF (by omega)
  have hS4 := hS.out hF (by omega)
  have hx4 := hxr4.1
  obtain ⟨st, n, b, l, r, fc, fd, B, cr, cn, ng, gf, gs, nm, t, p, v, tk, fell, ⟨s0, s1, s2, s3, s4, s5, s6, s7⟩, q1, q2, q3, q4, q5, q6, q7, ⟨q8, q8n⟩, ⟨q9, q9n⟩, q10, q11⟩ := id hS4
  simp only at q1 q2 q4 q5 q6 q7 q8 q9 q10 q11
  have e6 : st 6 = s 17 := q1 6 (by omega)
  refine v_aload_n (pc := 11) cx rfl ga0 dX11_wind_11 ?_
  refine v_getfield (pc := 12) cx flX11_10 (by assumption) gf0 dX11_wind_12 ?_
  refine v_getfield (pc := 15) cx flX11_114 (by assumption) gf4 dX11_wind_15 ?_
  refine v_getfield (pc := 18) cx flX11_118 (by assumption) gf0 dX11_wind_18 ?_
  refine v_istore_n (pc := 21) cx rfl (sa1 rfl) dX11_wind_21 ?_
  refine v_aload_n (pc := 22) cx rfl ga0 dX11_wind_22 ?_
  refine v_getfield (pc := 23) cx flX11_10 (by assumption) gf0 dX11_wind_23 ?_
  refine v_getfield (pc := 26) cx flX11_114 (by assumption) gf4 dX11_wind_26 ?_
  refine v_aload_n (pc := 29) cx rfl ga0 dX11_wind_29 ?_
  refine v_getfield (pc := 30) cx flX11_10 (by assumption) gf0 dX11_wind_30 ?_
  refine v_getfield (pc := 33) cx flX11_111 (by assumption) gf0 dX11_wind_33 ?_
  refine v_bipush (pc := 36) cx (by decide) dX11_wind_36 ?_
  refine v_iaload (pc := 38) cx (6) (by assumption) (by omega) dX11_wind_38 ?_
  refine v_putfield (pc := 39) cx fpX11_118 s5 ⟨rfl, rfl⟩ pf0 dX11_wind_39 (fun E39 hE39 hF39 => ?_)
  replace s0 := (hF39 _ (by omega)).trans s0
  replace s1 := (hF39 _ (by omega)).trans s1
  replace s3 := (hF39 _ (by omega)).trans s3
  replace s4 := (hF39 _ (by omega)).trans s4
  replace s5 := hE39
  refine v_iload_n (pc := 42) cx rfl ga1 dX11_wind_42 ?_
  refine v_ireturn (pc := 43) cx hI rfl ?_ dX11_wind_43
  have hF39' : Out E4 E39 (1 + 8) (1 + 9) := fun j hj => hF39 j (by omega)
  refine ⟨q6, isX.join (hxr4.out hF39' (by omega)) ⟨st, n, b, l, r, fc, fd, B, _, cn, ng, gf, gs, nm, t, p, v, tk, fell, ⟨s0, s1, s2.out hF39' (by omega), s3, s4, s5, s6.out hF39' (by omega), s7.out hF39' (by omega)⟩, fun j hj => ?_, q2, q3, q4, q5, e6, q7, ⟨q8, q8n⟩, ⟨q9, q9n⟩, q10, q11⟩ (hH4.out hF39' (by omega)), fun j hj => (hF39' j (by omega)).trans (hF j (by omega))⟩
  show st j = upI s 4 (s 17) (11 + j)
  rw [upI_n (by omega)]
  exact q1 j hj
def vGad (Ψ : Fs) (x y : Int) : Int := if ¬ (8 ≤ x ∧ x ≤ 120) ∨ ¬ (8 ≤ y ∧ y ≤ 120) then -1 else if 3 ≤ Ψ.1.2.2.1.length then -3 else (Ψ.1.2.2.1.length : Int) + 1
def sGad (Ψ : Fs) (x y : Int) : Fs := if ¬ (8 ≤ x ∧ x ≤ 120) ∨ ¬ (8 ≤ y ∧ y ≤ 120) then Ψ else if 3 ≤ Ψ.1.2.2.1.length then Ψ else ((Ψ.1.1, Ψ.1.2.1, Ψ.1.2.2.1 ++ [(x, y)], Ψ.1.2.2.2), keepH Ψ.2.1 Ψ.1, Ψ.2.2)
theorem lst2_push {f s : Nat → Int} {k : Nat} {x y : Int} : lst2 (upI f k x) (upI s k y) (k + 1) = lst2 f s k ++ [(x, y)] := by
  have e : lst2 (upI f k x) (upI s k y) (k + 1) = lst2 (upI f k x) (upI s k y) k ++ [(upI f k x k, upI s k y k)] := by simp [lst2, List.range_succ]
  rw [e, upI_s, upI_s]
  congr 1
  exact lst2_ext (fun j hj => ⟨upI_n (by omega), upI_n (by omega)⟩)
def vGre (Ψ : Fs) (k : Int) : Int := if ¬ (0 ≤ k ∧ k < Ψ.1.2.2.1.length) then -1 else (Ψ.1.2.2.1.length : Int) - 1
def sGre (Ψ : Fs) (k : Int) : Fs := if ¬ (0 ≤ k ∧ k < Ψ.1.2.2.1.length) then Ψ else ((Ψ.1.1, Ψ.1.2.1, delG Ψ.1.2.2.1 k.toNat, Ψ.1.2.2.2), keepH Ψ.2.1 Ψ.1, Ψ.2.2)
def vGea (Ψ : Fs) (k w : Int) : Int := if ¬ (0 ≤ k ∧ k < Ψ.1.2.2.1.length) ∨ ¬ (0 ≤ w ∧ w ≤ 1) then -1 else if w = 0 then g1 Ψ.1.2.2.1 k.toNat else g2 Ψ.1.2.2.1 k.toNat
theorem cnt_ext {t t' : Nat → Int} {gap : Int} : ∀ m, (∀ j, j < m → t j = t' j) → cnt t gap m = cnt t' gap m := by
  intro m
  induction m with
  | zero => intro _; rfl
  | succ m ih =>
    intro h
    simp only [cnt]
    rw [ih (fun j hj => h j (by omega)), h m (by omega)]
    by_cases e : m = 0
    · subst e; simp
    · rw [h (m - 1) (by omega)]
def vCnt (Ψ : Fs) (w : Int) : Int :=
  if 20 ≤ w ∧ w ≤ 27 then Ψ.1.1 (11 + (w - 20).toNat) else if w = 0 then Ψ.1.1 0 else if w = 1 then (Ψ.1.2.1.length : Int) else if w = 2 then (Ψ.1.2.2.2.length : Int) else if w = 3 then (cnt (k1 Ψ.1.2.2.2) (Ψ.1.1 18) Ψ.1.2.2.2.length : Int)
  else if w = 4 then Ψ.1.1 1 else if w = 5 then Ψ.1.1 2 else if w = 6 then Ψ.1.1 3 else if w = 7 then Ψ.1.1 4 else if w = 8 then Ψ.1.1 5 else if w = 9 then plG Ψ.1.2.2.1 (Ψ.1.1 5) (Ψ.1.1 16) else if w = 10 then (Ψ.1.2.2.1.length : Int) else if w = 11 then (Ψ.2.1.length : Int) else if w = 12 then (Ψ.2.2.length : Int) else if w = 13 then tkRain Ψ.1 else -1
set_option maxRecDepth 100000 in
set_option maxHeartbeats 4000000 in
theorem c_count (lc : Launch) (G : Gc) (E : Wd) (nh : Nat) {Ψ : Fs} {w : Int} (h : isX G E Ψ) (hk : okX Ψ) (hw : -2147483648 ≤ w ∧ w < 2147483648) : CI lc G 5 yX11_count cX11_count 2 .int [.ref (gb G + 0), .int (iI w)] E nh 0 0 (fun r E' => r = vCnt Ψ w ∧ E' = E) := by
  refine CI.mk (by decide +kernel) rfl (Nat.le_of_ble_eq_true rfl) ?_
  intro X hG hL cx hR hI
  subst hG; subst hL
  show V X E (nh, 0, 0) 0 [some (.ref (gb (fG X) + 0)), some (.int (iI w))] []
  obtain ⟨⟨s, sh, ge, mk⟩, hs, tx⟩ := Ψ
  obtain ⟨hxr, hS, hH⟩ := h.split
  obtain ⟨⟨hsc, hse, hsh, hge, hmk⟩, -, -⟩ := hk
  simp only at hsc hse hsh hge hmk hS hH hxr
  obtain ⟨hx0, -, -, ⟨ch, ⟨ht0, -⟩, -⟩, -⟩ := id hxr
  have hH0 := hH.obj
  obtain ⟨st, n, b, l, r, fc, fd, B, cr, cn, ng, gf, gs, nm, t, p, v, tk, fell, ⟨s0, s1, s2, s3, s4, s5, s6, s7⟩, q1, q2, q3, q4, q5, q6, q7, ⟨q8, q8n⟩, ⟨q9, q9n⟩, q10, q11⟩ := id hS
  simp only at q1 q2 q4 q5 q6 q7 q8 q9 q10 q11
  subst q2; subst q8; subst q9; subst q10
  obtain ⟨q51, q52, q53, q54, q55, q56⟩ := q5
  obtain ⟨s20, s21, s22, s23⟩ := id s2
  obtain ⟨s60, s61, s62⟩ := id s6
  obtain ⟨s70, s71, s72, s73⟩ := id s7
  have a5 : st 5 = s 16 := q1 5 (by omega)
  have a7 : st 7 = s 18 := q1 7 (by omega)
  obtain ⟨z1, z2, z3, z4, z5, z6, z7, z8⟩ := hse
  have hse0 := hsc.1
  refine v_iload_n (pc := 0) cx rfl ga1 dX11_count_0 ?_
  refine v_bipush (pc := 1) cx (by decide) dX11_count_1 ?_
  refine v_bipush (pc := 3) cx (by decide) dX11_count_3 ?_
  refine v_callSI (pc := 5) cx hR (c_isWithin _ _ _ _ (by omega)) mlX11_51 (by decide) rfl (Nat.le_of_ble_eq_true rfl) ⟨Nat.le_refl _, Nat.le_refl _⟩ dX11_count_5 (fun r1 E1 hP => ?_)
  obtain ⟨w1, rfl⟩ := hP
  refine v_if_eq (pc := 8) cx 24 dX11_count_8 rfl (by omega) (fun c8 => ?_) (fun c8 => ?_)
  · rcases (show w = 0 ∨ w = 1 ∨ w = 2 ∨ w = 3 ∨ w = 4 ∨ w = 5 ∨ w = 6 ∨ w = 7 ∨ w = 8 ∨ w = 9 ∨ w = 10 ∨ w = 11 ∨ w = 12 ∨ w = 13 ∨ ((w < 0 ∨ 13 < w) ∧ (w < 20 ∨ 27 < w)) by omega) with rfl | rfl | rfl | rfl | rfl | rfl | rfl | rfl | rfl | rfl | rfl | rfl | rfl | rfl | hw2
    · refine v_iload_n (pc := 24) cx rfl ga1 dX11_count_24 ?_
      refine v_tableIn (pc := 25) cx 96 dX11_count_25 (by omega) rfl rfl ?_
      refine v_aload_n (pc := 96) cx rfl ga0 dX11_count_96 ?_
      refine v_getfield (pc := 97) cx flX11_10 (by assumption) gf0 dX11_count_97 ?_
      refine v_getfield (pc := 100) cx flX11_47 (by assumption) gf7 dX11_count_100 ?_
      refine v_ireturn (pc := 103) cx hI rfl ?_ dX11_count_103
      exact ⟨rfl, rfl⟩
    · refine v_iload_n (pc := 24) cx rfl ga1 dX11_count_24 ?_
      refine v_tableIn (pc := 25) cx 104 dX11_count_25 (by omega) rfl rfl ?_
      refine v_aload_n (pc := 104) cx rfl ga0 dX11_count_104 ?_
      refine v_getfield (pc := 105) cx flX11_10 (by assumption) gf0 dX11_count_105 ?_
      refine v_getfield (pc := 108) cx flX11_55 (by assumption) gf1 dX11_count_108 ?_
      refine v_getfield (pc := 111) cx flX11_59 (by assumption) gf3 dX11_count_111 ?_
      refine v_ireturn (pc := 114) cx hI rfl ?_ dX11_count_114
      refine ⟨?_, rfl⟩
      show _ = ((lst b l r n).length : Int)
      rw [lst_len]
    · refine v_iload_n (pc := 24) cx rfl ga1 dX11_count_24 ?_
      refine v_tableIn (pc := 25) cx 115 dX11_count_25 (by omega) rfl rfl ?_
      refine v_aload_n (pc := 115) cx rfl ga0 dX11_count_115 ?_
      refine v_getfield (pc := 116) cx flX11_10 (by assumption) gf0 dX11_count_116 ?_
      refine v_getfield (pc := 119) cx flX11_142 (by assumption) gf6 dX11_count_119 ?_
      refine v_getfield (pc := 122) cx flX11_146 (by assumption) gf3 dX11_count_122 ?_
      refine v_ireturn (pc := 125) cx hI rfl ?_ dX11_count_125
      refine ⟨?_, rfl⟩
      show _ = ((lst t p v nm).length : Int)
      rw [lst_len]
    · refine v_iload_n (pc := 24) cx rfl ga1 dX11_count_24 ?_
      refine v_tableIn (pc := 25) cx 126 dX11_count_25 (by omega) rfl rfl ?_
      refine v_aload_n (pc := 126) cx rfl ga0 dX11_count_126 ?_
      refine v_getfield (pc := 127) cx flX11_10 (by assumption) gf0 dX11_count_127 ?_
      refine v_getfield (pc := 130) cx flX11_142 (by assumption) gf6 dX11_count_130 ?_
      refine v_aload_n (pc := 133) cx rfl ga0 dX11_count_133 ?_
      refine v_getfield (pc := 134) cx flX11_10 (by assumption) gf0 dX11_count_134 ?_
      refine v_getfield (pc := 137) cx flX11_111 (by assumption) gf0 dX11_count_137 ?_
      refine v_bipush (pc := 140) cx (by decide) dX11_count_140 ?_
      refine v_iaload (pc := 142) cx (7) (by assumption) (by omega) dX11_count_142 ?_
      rw [a7]
      refine v_callVI (pc := 143) cx hR (c_Mk_countStorms _ _ _ _ s7 (by omega) (okT_of hmk (by omega)) (by omega)) mlX11_149 (by decide) (by assumption) rfl rfl rfl (Nat.le_of_ble_eq_true rfl) ⟨Nat.le_refl _, Nat.le_refl _⟩ dX11_count_143 (fun v5 E5 hP => ?_)
      obtain ⟨rfl, rfl⟩ := hP
      refine v_ireturn (pc := 146) cx hI rfl ?_ dX11_count_146
      refine ⟨?_, rfl⟩
      show _ = (cnt (k1 (lst t p v nm)) (s 18) (lst t p v nm).length : Int)
      rw [lst_len, cnt_ext nm (fun j hj => (k_lst hj).1)]
    · refine v_iload_n (pc := 24) cx rfl ga1 dX11_count_24 ?_
      refine v_tableIn (pc := 25) cx 147 dX11_count_25 (by omega) rfl rfl ?_
      refine v_aload_n (pc := 147) cx rfl ga0 dX11_count_147 ?_
      refine v_getfield (pc := 148) cx flX11_10 (by assumption) gf0 dX11_count_148 ?_
      refine v_getfield (pc := 151) cx flX11_152 (by assumption) gf2 dX11_count_151 ?_
      refine v_getfield (pc := 154) cx flX11_156 (by assumption) gf0 dX11_count_154 ?_
      refine v_ireturn (pc := 157) cx hI rfl ?_ dX11_count_157
      exact ⟨q4, rfl⟩
    · refine v_iload_n (pc := 24) cx rfl ga1 dX11_count_24 ?_
      refine v_tableIn (pc := 25) cx 158 dX11_count_25 (by omega) rfl rfl ?_
      refine v_aload_n (pc := 158) cx rfl ga0 dX11_count_158 ?_
      refine v_getfield (pc := 159) cx flX11_10 (by assumption) gf0 dX11_count_159 ?_
      refine v_getfield (pc := 162) cx flX11_161 (by assumption) gf3 dX11_count_162 ?_
      refine v_getfield (pc := 165) cx flX11_165 (by assumption) gf0 dX11_count_165 ?_
      refine v_ireturn (pc := 168) cx hI rfl ?_ dX11_count_168
      exact ⟨q51, rfl⟩
    · refine v_iload_n (pc := 24) cx rfl ga1 dX11_count_24 ?_
      refine v_tableIn (pc := 25) cx 169 dX11_count_25 (by omega) rfl rfl ?_
      refine v_aload_n (pc := 169) cx rfl ga0 dX11_count_169 ?_
      refine v_getfield (pc := 170) cx flX11_10 (by assumption) gf0 dX11_count_170 ?_
      refine v_getfield (pc := 173) cx flX11_161 (by assumption) gf3 dX11_count_173 ?_
      refine v_getfield (pc := 176) cx flX11_168 (by assumption) gf1 dX11_count_176 ?_
      refine v_ireturn (pc := 179) cx hI rfl ?_ dX11_count_179
      exact ⟨q52, rfl⟩
    · refine v_iload_n (pc := 24) cx rfl ga1 dX11_count_24 ?_
      refine v_tableIn (pc := 25) cx 180 dX11_count_25 (by omega) rfl rfl ?_
      refine v_aload_n (pc := 180) cx rfl ga0 dX11_count_180 ?_
      refine v_getfield (pc := 181) cx flX11_10 (by assumption) gf0 dX11_count_181 ?_
      refine v_getfield (pc := 184) cx flX11_114 (by assumption) gf4 dX11_count_184 ?_
      refine v_getfield (pc := 187) cx flX11_118 (by assumption) gf0 dX11_count_187 ?_
      refine v_ireturn (pc := 190) cx hI rfl ?_ dX11_count_190
      exact ⟨q6, rfl⟩
    · refine v_iload_n (pc := 24) cx rfl ga1 dX11_count_24 ?_
      refine v_tableIn (pc := 25) cx 191 dX11_count_25 (by omega) rfl rfl ?_
      refine v_aload_n (pc := 191) cx rfl ga0 dX11_count_191 ?_
      refine v_getfield (pc := 192) cx flX11_10 (by assumption) gf0 dX11_count_192 ?_
      refine v_getfield (pc := 195) cx flX11_114 (by assumption) gf4 dX11_count_195 ?_
      refine v_getfield (pc := 198) cx flX11_171 (by assumption) gf1 dX11_count_198 ?_
      refine v_ireturn (pc := 201) cx hI rfl ?_ dX11_count_201
      exact ⟨q7, rfl⟩
    · refine v_iload_n (pc := 24) cx rfl ga1 dX11_count_24 ?_
      refine v_tableIn (pc := 25) cx 202 dX11_count_25 (by omega) rfl rfl ?_
      refine v_aload_n (pc := 202) cx rfl ga0 dX11_count_202 ?_
      refine v_getfield (pc := 203) cx flX11_10 (by assumption) gf0 dX11_count_203 ?_
      refine v_callVI (pc := 206) cx hR (c_St_drumPlace _ _ _ _ ⟨s0, s1, s2, s3, s4, s5, s6, s7⟩ q8n (fun j hj => (okGe_at hge j hj).2) (by omega)) mlX11_174 (by decide) (by assumption) rfl rfl rfl (Nat.le_of_ble_eq_true rfl) ⟨Nat.le_refl _, Nat.le_refl _⟩ dX11_count_206 (fun v5 E5 hP => ?_)
      obtain ⟨rfl, rfl⟩ := hP
      refine v_ireturn (pc := 209) cx hI rfl ?_ dX11_count_209
      refine ⟨?_, rfl⟩
      show _ = plG (lst2 gf gs ng) (s 5) (s 16)
      rw [plG_lst, a5, q7]
    · refine v_iload_n (pc := 24) cx rfl ga1 dX11_count_24 ?_
      refine v_tableIn (pc := 25) cx 210 dX11_count_25 (by omega) rfl rfl ?_
      refine v_aload_n (pc := 210) cx rfl ga0 dX11_count_210 ?_
      refine v_getfield (pc := 211) cx flX11_10 (by assumption) gf0 dX11_count_211 ?_
      refine v_getfield (pc := 214) cx flX11_123 (by assumption) gf5 dX11_count_214 ?_
      refine v_getfield (pc := 217) cx flX11_127 (by assumption) gf2 dX11_count_217 ?_
      refine v_ireturn (pc := 220) cx hI rfl ?_ dX11_count_220
      refine ⟨?_, rfl⟩
      show _ = ((lst2 gf gs ng).length : Int)
      rw [lst2_len]
    · refine v_iload_n (pc := 24) cx rfl ga1 dX11_count_24 ?_
      refine v_tableIn (pc := 25) cx 221 dX11_count_25 (by omega) rfl rfl ?_
      refine v_aload_n (pc := 221) cx rfl ga0 dX11_count_221 ?_
      refine v_getfield (pc := 222) cx flX11_22 (by assumption) gf2 dX11_count_222 ?_
      refine v_getfield (pc := 225) cx flX11_101 (by assumption) gf1 dX11_count_225 ?_
      refine v_ireturn (pc := 228) cx hI rfl ?_ dX11_count_228
      exact ⟨rfl, rfl⟩
    · refine v_iload_n (pc := 24) cx rfl ga1 dX11_count_24 ?_
      refine v_tableIn (pc := 25) cx 229 dX11_count_25 (by omega) rfl rfl ?_
      refine v_aload_n (pc := 229) cx rfl ga0 dX11_count_229 ?_
      refine v_getfield (pc := 230) cx flX11_36 (by assumption) gf4 dX11_count_230 ?_
      refine v_getfield (pc := 233) cx flX11_178 (by assumption) gf1 dX11_count_233 ?_
      refine v_ireturn (pc := 236) cx hI rfl ?_ dX11_count_236
      exact ⟨rfl, rfl⟩
    · refine v_iload_n (pc := 24) cx rfl ga1 dX11_count_24 ?_
      refine v_tableIn (pc := 25) cx 237 dX11_count_25 (by omega) rfl rfl ?_
      refine v_aload_n (pc := 237) cx rfl ga0 dX11_count_237 ?_
      refine v_getfield (pc := 238) cx flX11_10 (by assumption) gf0 dX11_count_238 ?_
      refine v_getfield (pc := 241) cx flX11_55 (by assumption) gf1 dX11_count_241 ?_
      refine v_aload_n (pc := 244) cx rfl ga0 dX11_count_244 ?_
      refine v_getfield (pc := 245) cx flX11_10 (by assumption) gf0 dX11_count_245 ?_
      refine v_getfield (pc := 248) cx flX11_47 (by assumption) gf7 dX11_count_248 ?_
      refine v_callVI (pc := 251) cx hR (c_Sh_rainIn _ _ _ _ s2 q3 (by omega) (okSh_at hsh)) mlX11_181 (by decide) (by assumption) rfl rfl rfl (Nat.le_of_ble_eq_true rfl) ⟨Nat.le_refl _, Nat.le_refl _⟩ dX11_count_251 (fun v5 E5 hP => ?_)
      obtain ⟨rfl, rfl⟩ := hP
      refine v_ireturn (pc := 254) cx hI rfl ?_ dX11_count_254
      refine ⟨?_, rfl⟩
      show _ = rainL (lst b l r n) (s 0)
      rw [rainTo_L]
    · refine v_iload_n (pc := 24) cx rfl ga1 dX11_count_24 ?_
      refine v_tableOut (pc := 25) cx 255 dX11_count_25 (by omega) rfl ?_
      refine v_iconst (pc := 255) cx dX11_count_255 ?_
      refine v_ireturn (pc := 256) cx hI rfl ?_ dX11_count_256
      refine ⟨?_, rfl⟩
      unfold vCnt
      rw [if_neg (by omega), if_neg (by omega), if_neg (by omega), if_neg (by omega), if_neg (by omega), if_neg (by omega), if_neg (by omega), if_neg (by omega), if_neg (by omega), if_neg (by omega), if_neg (by omega), if_neg (by omega), if_neg (by omega), if_neg (by omega), if_neg (by omega)]
  · obtain ⟨kn, hkn⟩ := Int.eq_ofNat_of_zero_le (show 0 ≤ w - 20 by omega)
    refine v_aload_n (pc := 11) cx rfl ga0 dX11_count_11 ?_
    refine v_getfield (pc := 12) cx flX11_10 (by assumption) gf0 dX11_count_12 ?_
    refine v_getfield (pc := 15) cx flX11_111 (by assumption) gf0 dX11_count_15 ?_
    refine v_iload_n (pc := 18) cx rfl ga1 dX11_count_18 ?_
    refine v_bipush (pc := 19) cx (by decide) dX11_count_19 ?_
    refine v_isub (pc := 21) cx dX11_count_21 ?_
    refine v_iaload (pc := 22) cx (kn) (by assumption) (by omega) dX11_count_22 ?_
    refine v_ireturn (pc := 23) cx hI rfl ?_ dX11_count_23
    refine ⟨?_, rfl⟩
    unfold vCnt
    rw [if_pos (by omega), hkn, Int.toNat_natCast]
    exact q1 kn (by omega)
def vAcc (Ψ : Fs) (w : Int) : Int := if 0 ≤ w ∧ w ≤ 4 then Ψ.1.1 (6 + w.toNat) else -1
set_option maxRecDepth 100000 in
set_option maxHeartbeats 4000000 in
theorem c_account (lc : Launch) (G : Gc) (E : Wd) (nh : Nat) {Ψ : Fs} {w : Int} (h : isX G E Ψ) (hk : okX Ψ) (hw : -2147483648 ≤ w ∧ w < 2147483648) : CI lc G 5 yX11_account cX11_account 2 .int [.ref (gb G + 0), .int (iI w)] E nh 0 0 (fun r E' => r = vAcc Ψ w ∧ E' = E) := by
  refine CI.mk (by decide +kernel) rfl (Nat.le_of_ble_eq_true rfl) ?_
  intro X hG hL cx hR hI
  subst hG; subst hL
  show V X E (nh, 0, 0) 0 [some (.ref (gb (fG X) + 0)), some (.int (iI w))] []
  obtain ⟨hxr, hS, hH⟩ := h.split
  have hx0 := hxr.1
  obtain ⟨fs, hfs⟩ := hS.obj
  refine v_iload_n (pc := 0) cx rfl ga1 dX11_account_0 ?_
  refine v_iconst (pc := 1) cx dX11_account_1 ?_
  refine v_iconst (pc := 2) cx dX11_account_2 ?_
  refine v_callSI (pc := 3) cx hR (c_isWithin _ _ _ _ (by omega)) mlX11_51 (by decide) rfl (Nat.le_of_ble_eq_true rfl) ⟨Nat.le_refl _, Nat.le_refl _⟩ dX11_account_3 (fun r1 E1 hP => ?_)
  obtain ⟨w1, rfl⟩ := hP
  refine v_if_eq (pc := 6) cx 20 dX11_account_6 rfl (by omega) (fun c6 => ?_) (fun c6 => ?_)
  · refine v_iconst (pc := 20) cx dX11_account_20 ?_
    refine v_ireturn (pc := 21) cx hI rfl ?_ dX11_account_21
    refine ⟨?_, rfl⟩
    unfold vAcc
    rw [if_neg (by omega)]
  · refine v_aload_n (pc := 9) cx rfl ga0 dX11_account_9 ?_
    refine v_getfield (pc := 10) cx flX11_10 (by assumption) gf0 dX11_account_10 ?_
    refine v_iload_n (pc := 13) cx rfl ga1 dX11_account_13 ?_
    refine v_callVI (pc := 14) cx hR (c_St_accountOf _ _ _ _ hS (by omega)) mlX11_184 (by decide) (by assumption) rfl rfl rfl (Nat.le_of_ble_eq_true rfl) ⟨Nat.le_refl _, Nat.le_refl _⟩ dX11_account_14 (fun r2 E2 hP => ?_)
    obtain ⟨rfl, rfl⟩ := hP
    refine v_goto (pc := 17) cx 21 dX11_account_17 rfl ?_
    refine v_ireturn (pc := 21) cx hI rfl ?_ dX11_account_21
    refine ⟨?_, rfl⟩
    unfold vAcc
    rw [if_pos (by omega)]
def vMar (Ψ : Fs) (k w : Int) : Int := if ¬ (0 ≤ k ∧ k < Ψ.1.2.2.2.length) ∨ ¬ (0 ≤ w ∧ w ≤ 2) then -1 else if w = 0 then k1 Ψ.1.2.2.2 k.toNat else if w = 1 then k2 Ψ.1.2.2.2 k.toNat else k3 Ψ.1.2.2.2 k.toNat
set_option maxRecDepth 100000 in
set_option maxHeartbeats 4000000 in
theorem c_mark (lc : Launch) (G : Gc) (E : Wd) (nh : Nat) {Ψ : Fs} {k w : Int} (h : isX G E Ψ) (hk : okX Ψ) (hb0 : -2147483648 ≤ k ∧ k < 2147483648) (hw : -2147483648 ≤ w ∧ w < 2147483648) : CI lc G 5 yX11_mark cX11_mark 3 .int [.ref (gb G + 0), .int (iI k), .int (iI w)] E nh 0 0 (fun r E' => r = vMar Ψ k w ∧ E' = E) := by
  refine CI.mk (by decide +kernel) rfl (Nat.le_of_ble_eq_true rfl) ?_
  intro X hG hL cx hR hI
  subst hG; subst hL
  show V X E (nh, 0, 0) 0 [some (.ref (gb (fG X) + 0)), some (.int (iI k)), some (.int (iI w))] []
  obtain ⟨⟨s, sh, ge, mk⟩, hs, tx⟩ := Ψ
  obtain ⟨hxr, hS, hH⟩ := h.split
  simp only at hS hH hxr
  obtain ⟨st, n, b, l, r, fc, fd, B, cr, cn, ng, gf, gs, nm, t, p, v, tk, fell, ⟨s0, s1, s2, s3, s4, s5, s6, s7⟩, q1, q2, q3, q4, q5, q6, q7, ⟨q8, q8n⟩, ⟨q9, q9n⟩, q10, q11⟩ := id hS
  simp only at q9
  subst q9
  have hx0 := hxr.1
  obtain ⟨s70, s71, s72, s73⟩ := id s7
  refine v_aload_n (pc := 0) cx rfl ga0 dX11_mark_0 ?_
  refine v_getfield (pc := 1) cx flX11_10 (by assumption) gf0 dX11_mark_1 ?_
  refine v_getfield (pc := 4) cx flX11_142 (by assumption) gf6 dX11_mark_4 ?_
  refine v_iload_n (pc := 7) cx rfl ga1 dX11_mark_7 ?_
  refine v_callVI (pc := 8) cx hR (c_Mk_has _ _ _ _ s7 (by omega) hb0) mlX11_187 (by decide) (by assumption) rfl rfl rfl (Nat.le_of_ble_eq_true rfl) ⟨Nat.le_refl _, Nat.le_refl _⟩ dX11_mark_8 (fun r1 E1 hP => ?_)
  obtain ⟨w1, rfl⟩ := hP
  refine v_if_ne (pc := 11) cx 16 dX11_mark_11 rfl (by omega) (fun c11 => ?_) (fun c11 => ?_)
  · obtain ⟨kn, rfl⟩ := Int.eq_ofNat_of_zero_le (show 0 ≤ k by omega)
    have e := k_lst (b := t) (l := p) (r := v) (show kn < nm by omega)
    refine v_iload_n (pc := 16) cx rfl ga2 dX11_mark_16 ?_
    rcases (show w = 0 ∨ w = 1 ∨ w = 2 ∨ (w < 0 ∨ 2 < w) by omega) with rfl | rfl | rfl | hw2
    · refine v_tableIn (pc := 17) cx 44 dX11_mark_17 (by omega) rfl rfl ?_
      refine v_aload_n (pc := 44) cx rfl ga0 dX11_mark_44 ?_
      refine v_getfield (pc := 45) cx flX11_10 (by assumption) gf0 dX11_mark_45 ?_
      refine v_getfield (pc := 48) cx flX11_142 (by assumption) gf6 dX11_mark_48 ?_
      refine v_getfield (pc := 51) cx flX11_188 (by assumption) gf0 dX11_mark_51 ?_
      refine v_iload_n (pc := 54) cx rfl ga1 dX11_mark_54 ?_
      refine v_iaload (pc := 55) cx (kn) (by assumption) (by omega) dX11_mark_55 ?_
      refine v_ireturn (pc := 56) cx hI rfl ?_ dX11_mark_56
      refine ⟨?_, rfl⟩
      unfold vMar
      simp only [lst_len, Int.toNat_natCast, e.1, e.2.1, e.2.2]
      rw [if_neg (by omega)]
      rfl
    · refine v_tableIn (pc := 17) cx 57 dX11_mark_17 (by omega) rfl rfl ?_
      refine v_aload_n (pc := 57) cx rfl ga0 dX11_mark_57 ?_
      refine v_getfield (pc := 58) cx flX11_10 (by assumption) gf0 dX11_mark_58 ?_
      refine v_getfield (pc := 61) cx flX11_142 (by assumption) gf6 dX11_mark_61 ?_
      refine v_getfield (pc := 64) cx flX11_191 (by assumption) gf1 dX11_mark_64 ?_
      refine v_iload_n (pc := 67) cx rfl ga1 dX11_mark_67 ?_
      refine v_iaload (pc := 68) cx (kn) (by assumption) (by omega) dX11_mark_68 ?_
      refine v_ireturn (pc := 69) cx hI rfl ?_ dX11_mark_69
      refine ⟨?_, rfl⟩
      unfold vMar
      simp only [lst_len, Int.toNat_natCast, e.1, e.2.1, e.2.2]
      rw [if_neg (by omega)]
      rfl
    · refine v_tableIn (pc := 17) cx 70 dX11_mark_17 (by omega) rfl rfl ?_
      refine v_aload_n (pc := 70) cx rfl ga0 dX11_mark_70 ?_
      refine v_getfield (pc := 71) cx flX11_10 (by assumption) gf0 dX11_mark_71 ?_
      refine v_getfield (pc := 74) cx flX11_142 (by assumption) gf6 dX11_mark_74 ?_
      refine v_getfield (pc := 77) cx flX11_194 (by assumption) gf2 dX11_mark_77 ?_
      refine v_iload_n (pc := 80) cx rfl ga1 dX11_mark_80 ?_
      refine v_iaload (pc := 81) cx (kn) (by assumption) (by omega) dX11_mark_81 ?_
      refine v_ireturn (pc := 82) cx hI rfl ?_ dX11_mark_82
      refine ⟨?_, rfl⟩
      unfold vMar
      simp only [lst_len, Int.toNat_natCast, e.1, e.2.1, e.2.2]
      rw [if_neg (by omega)]
      rfl
    · refine v_tableOut (pc := 17) cx 83 dX11_mark_17 (by omega) rfl ?_
      refine v_iconst (pc := 83) cx dX11_mark_83 ?_
      refine v_ireturn (pc := 84) cx hI rfl ?_ dX11_mark_84
      refine ⟨?_, rfl⟩
      unfold vMar
      simp only [lst_len]
      rw [if_pos (by omega)]
  · refine v_iconst (pc := 14) cx dX11_mark_14 ?_
    refine v_ireturn (pc := 15) cx hI rfl ?_ dX11_mark_15
    refine ⟨?_, rfl⟩
    unfold vMar
    simp only [lst_len]
    rw [if_pos (by omega)]
