/-! the class's State: raw cells, and the abstract state that they hold -/
def rSt (G : Gc) (E : Wd) (o : Nat) (st : Nat → Int) (n : Nat) (b l r : Nat → Int) (fc fd : Int) (B : BT) (cr cc : Int) (ng : Nat) (gf gs : Nat → Int) (nm : Nat) (t p v : Nat → Int) (tick fell : Int) : Prop :=
  E o = some (.inr (9, [.ref (gb G + (o + 1)), .ref (gb G + (o + 2)), .ref (gb G + (o + 6)), .ref (gb G + (o + 7)), .ref (gb G + (o + 8)), .ref (gb G + (o + 9)), .ref (gb G + (o + 12)), .int (iI tick), .int (iI fell)])) ∧ E (o + 1) = some (AI G 8 st) ∧ rSh G E (o + 2) n b l r ∧ E (o + 6) = some (oFi fc fd) ∧ E (o + 7) = some (oBk B) ∧ E (o + 8) = some (oCl cr cc) ∧ rGe G E (o + 9) ng gf gs ∧ rMk G E (o + 12) nm t p v
theorem rSt.out {G : Gc} {E E' : Wd} {o : Nat} {st : Nat → Int} {n : Nat} {b l r : Nat → Int} {fc fd : Int} {B : BT} {cr cc : Int} {ng : Nat} {gf gs : Nat → Int} {nm : Nat} {t p v : Nat → Int} {tick fell : Int} {x y : Nat} (h : rSt G E o st n b l r fc fd B cr cc ng gf gs nm t p v tick fell) (hE : Out E E' x y) (hxy : o + 16 ≤ x ∨ y ≤ o) : rSt G E' o st n b l r fc fd B cr cc ng gf gs nm t p v tick fell := by
  obtain ⟨h0, h1, h2, h3, h4, h5, h6, h7⟩ := h
  exact ⟨(hE _ (by omega)).trans h0, (hE _ (by omega)).trans h1, h2.out hE (by omega), (hE _ (by omega)).trans h3, (hE _ (by omega)).trans h4, (hE _ (by omega)).trans h5, h6.out hE (by omega), h7.out hE (by omega)⟩
/-- what the raw cells hold -/
def hSt (σ : Sg) (st : Nat → Int) (n : Nat) (b l r : Nat → Int) (fc fd : Int) (B : BT) (cr cc : Int) (ng : Nat) (gf gs : Nat → Int) (nm : Nat) (t p v : Nat → Int) (tick fell : Int) : Prop :=
  (∀ j, j < 8 → st j = σ.1 (11 + j)) ∧ lst b l r n = σ.2.1 ∧ n ≤ 12 ∧ fc = σ.1 1 ∧ (B.1 = σ.1 2 ∧ B.2.1 = σ.1 3 ∧ B.2.2.1 = σ.1 7 ∧ B.2.2.2.1 = σ.1 8 ∧ B.2.2.2.2.1 = σ.1 9 ∧ fd + B.2.2.2.2.2 = σ.1 10) ∧ cr = σ.1 4 ∧ cc = σ.1 5 ∧ (lst2 gf gs ng = σ.2.2.1 ∧ ng ≤ 3) ∧ (lst t p v nm = σ.2.2.2 ∧ nm ≤ 60) ∧ tick = σ.1 0 ∧ fell = σ.1 6
def isS (G : Gc) (E : Wd) (o : Nat) (σ : Sg) : Prop :=
  ∃ (st : Nat → Int) (n : Nat) (b l r : Nat → Int) (fc fd : Int) (B : BT) (cr cc : Int) (ng : Nat) (gf gs : Nat → Int) (nm : Nat) (t p v : Nat → Int) (tick fell : Int), rSt G E o st n b l r fc fd B cr cc ng gf gs nm t p v tick fell ∧ hSt σ st n b l r fc fd B cr cc ng gf gs nm t p v tick fell
theorem isS.out {G : Gc} {E E' : Wd} {o : Nat} {σ : Sg} {x y : Nat} (h : isS G E o σ) (hE : Out E E' x y) (hxy : o + 16 ≤ x ∨ y ≤ o) : isS G E' o σ := by
  obtain ⟨st, n, b, l, r, fc, fd, B, cr, cc, ng, gf, gs, nm, t, p, v, tick, fell, h1, h2⟩ := h
  exact ⟨st, n, b, l, r, fc, fd, B, cr, cc, ng, gf, gs, nm, t, p, v, tick, fell, h1.out hE hxy, h2⟩
set_option maxRecDepth 100000 in
set_option maxHeartbeats 4000000 in
theorem c_St_drumPlace (lc : Launch) (G : Gc) (E : Wd) (nh : Nat) {o : Nat} {st : Nat → Int} {n : Nat} {b l r : Nat → Int} {fc fd : Int} {B : BT} {cr cc : Int} {ng : Nat} {gf gs : Nat → Int} {nm : Nat} {t p v : Nat → Int} {tick fell : Int} (h : rSt G E o st n b l r fc fd B cr cc ng gf gs nm t p v tick fell) (hm : ng ≤ 3) (hs0 : ∀ j, j < ng → 8 ≤ gs j ∧ gs j ≤ 120) (ht : 10 ≤ st 5 ∧ st 5 ≤ 1000) : CI lc G 1 yX9_drumPlace cX9_drumPlace 1 .int [.ref (gb G + o)] E nh 0 0 (fun v E' => v = plc cc gf gs ng (st 5) ∧ E' = E) := by
  refine CI.mk (by decide +kernel) rfl (Nat.le_of_ble_eq_true rfl) ?_
  intro X hG hL cx hR hI
  subst hG; subst hL
  show V X E (nh, 0, 0) 0 [some (.ref (gb (fG X) + o))] []
  obtain ⟨h0, h1, h2, h3, h4, h5, h6, h7⟩ := h
  refine v_aload_n (pc := 0) cx rfl ga0 dX9_drumPlace_0 ?_
  refine v_getfield (pc := 1) cx flX9_46 (by assumption) gf5 dX9_drumPlace_1 ?_
  refine v_aload_n (pc := 4) cx rfl ga0 dX9_drumPlace_4 ?_
  refine v_getfield (pc := 5) cx flX9_39 (by assumption) gf4 dX9_drumPlace_5 ?_
  refine v_getfield (pc := 8) cx flX9_118 (by assumption) gf1 dX9_drumPlace_8 ?_
  refine v_aload_n (pc := 11) cx rfl ga0 dX9_drumPlace_11 ?_
  refine v_getfield (pc := 12) cx flX9_9 (by assumption) gf0 dX9_drumPlace_12 ?_
  refine v_iconst (pc := 15) cx dX9_drumPlace_15 ?_
  refine v_iaload (pc := 16) cx (5) (by assumption) (by omega) dX9_drumPlace_16 ?_
  refine v_callVI (pc := 17) cx hR (c_Ge_placeOf _ _ _ _ h6 hm hs0 ht) mlX9_121 (by decide) h6.1 rfl rfl rfl (Nat.le_of_ble_eq_true rfl) ⟨Nat.le_refl _, Nat.le_refl _⟩ dX9_drumPlace_17 (fun v2 E2 hP => ?_)
  obtain ⟨rfl, rfl⟩ := hP
  refine v_ireturn (pc := 20) cx hI rfl ?_ dX9_drumPlace_20
  exact ⟨rfl, rfl⟩
theorem bS_dr {rain d cap tt dg : Int} {c tl ti ov lo dr : Int} : bS rain d cap tt dg (c, tl, ti, ov, lo, dr) = ((bS rain d cap tt dg (c, tl, ti, ov, lo, 0)).1, (bS rain d cap tt dg (c, tl, ti, ov, lo, 0)).2.1, (bS rain d cap tt dg (c, tl, ti, ov, lo, 0)).2.2.1, (bS rain d cap tt dg (c, tl, ti, ov, lo, 0)).2.2.2.1, (bS rain d cap tt dg (c, tl, ti, ov, lo, 0)).2.2.2.2.1, dr + (bS rain d cap tt dg (c, tl, ti, ov, lo, 0)).2.2.2.2.2) := by
  unfold bS
  simp only
  split
  · simp
  · split <;> simp
theorem bR_dr {rain d cap dg : Int} {c tl ti ov lo dr : Int} : bR rain d cap dg (c, tl, ti, ov, lo, dr) = bR rain d cap dg (c, tl, ti, ov, lo, 0) := rfl
set_option maxRecDepth 100000 in
set_option maxHeartbeats 4000000 in
theorem c_St_passTick (lc : Launch) (G : Gc) (E : Wd) (nh : Nat) {o : Nat} {σ : Sg} (h : isS G E o σ) (hk : ok σ) (ht : σ.1 0 < 5000) : CI lc G 3 yX9_passTick cX9_passTick 4 .boolean [.ref (gb G + o)] E nh 0 0 (fun v E' => ((v = 1 ∧ tkTip σ ≠ -1) ∨ (v = 0 ∧ tkTip σ = -1)) ∧ isS G E' o (tick σ) ∧ Out E E' o (o + 16)) := by
  refine CI.mk (by decide +kernel) rfl (Nat.le_of_ble_eq_true rfl) ?_
  intro X hG hL cx hR hI
  subst hG; subst hL
  show V X E (nh, 0, 0) 0 [some (.ref (gb (fG X) + o)), none, none, none] []
  obtain ⟨st, n, b, l, r, fc, fd, B, cr, cn, ng, gf, gs, nm, t, p, v, tk, fell, ⟨h0, h1, h2, h3, h4, h5, h6, h7⟩, q1, q2, q3, q4, q5, q6, q7, q8, q9, q10, q11⟩ := h
  obtain ⟨c, tl, ti, ov, lo, bd⟩ := B
  obtain ⟨s, sh, ge, mk⟩ := σ
  simp only at q1 q2 q4 q5 q6 q7 q8 q9 q10 q11 ht
  obtain ⟨q51, q52, q53, q54, q55, q56⟩ := q5
  obtain ⟨q8, q8n⟩ := q8
  obtain ⟨q9, q9n⟩ := q9
  subst q2; subst q8; subst q9; subst q4; subst q51; subst q52; subst q53; subst q54; subst q55; subst q6; subst q7; subst q10; subst q11
  have hrb := tkRain_bd hk
  obtain ⟨⟨k0, k1, k2, k3, k4, k5, k6⟩, ⟨e1, e2, e3, e4, e5, e6, e7, e8⟩, k8, k9, k10⟩ := hk
  simp only at k0 k1 k2 k3 k4 k5 k6 e1 e2 e3 e4 e5 e6 e7 e8 k8 k9 k10 hrb
  have a0 : st 0 = s 11 := q1 0 (by omega)
  have a1 : st 1 = s 12 := q1 1 (by omega)
  have a2 : st 2 = s 13 := q1 2 (by omega)
  have a3 : st 3 = s 14 := q1 3 (by omega)
  have a4 : st 4 = s 15 := q1 4 (by omega)
  have a5 : st 5 = s 16 := q1 5 (by omega)
  have hFr : Out E E o (o + 16) := fun j hj => rfl
  have hra : rainTo b l r (s 0) n = tkRain (s, lst b l r n, lst2 gf gs ng, lst t p v nm) := rainTo_L n
  generalize hrain : tkRain (s, lst b l r n, lst2 gf gs ng, lst t p v nm) = rain at hra hrb
  have f1 := fT_bd (cap := s 13) (c := s 1) hrb.1
  refine v_aload_n (pc := 0) cx rfl ga0 dX9_passTick_0 ?_
  refine v_getfield (pc := 1) cx flX9_18 (by assumption) gf1 dX9_passTick_1 ?_
  refine v_aload_n (pc := 4) cx rfl ga0 dX9_passTick_4 ?_
  refine v_getfield (pc := 5) cx flX9_83 (by assumption) gf7 dX9_passTick_5 ?_
  refine v_callVI (pc := 8) cx hR (c_Sh_rainIn _ _ _ _ h2 q3 (by omega) (okSh_at k8)) mlX9_94 (by decide) h2.1 rfl rfl rfl (Nat.le_of_ble_eq_true rfl) ⟨Nat.le_refl _, Nat.le_refl _⟩ dX9_passTick_8 (fun v1 E2 hP => ?_)
  obtain ⟨rfl, rfl⟩ := hP
  rw [hra]
  refine v_istore_n (pc := 11) cx rfl (sa1 rfl) dX9_passTick_11 ?_
  refine v_aload_n (pc := 12) cx rfl ga0 dX9_passTick_12 ?_
  refine v_dup (pc := 13) cx rfl dX9_passTick_13 ?_
  refine v_getfield (pc := 14) cx flX9_87 (by assumption) gf8 dX9_passTick_14 ?_
  refine v_iload_n (pc := 17) cx rfl ga1 dX9_passTick_17 ?_
  refine v_iadd (pc := 18) cx dX9_passTick_18 ?_
  refine v_putfield (pc := 19) cx fpX9_87 h0 ⟨rfl, rfl⟩ pf8 dX9_passTick_19 (fun E19 hE19 hF19 => ?_)
  have hF19' : Out _ E19 o (o + 1) := fun j hj => hF19 j (by omega)
  replace h0 := hE19
  replace h2 := h2.out (hF19') (by omega)
  replace h6 := h6.out (hF19') (by omega)
  replace h7 := h7.out (hF19') (by omega)
  replace h1 := ((hF19') _ (by omega)).trans h1
  replace h3 := ((hF19') _ (by omega)).trans h3
  replace h4 := ((hF19') _ (by omega)).trans h4
  replace h5 := ((hF19') _ (by omega)).trans h5
  replace hFr : Out _ _ _ _ := fun j hj => ((hF19') j (by omega)).trans (hFr j hj)
  refine v_aload_n (pc := 22) cx rfl ga0 dX9_passTick_22 ?_
  refine v_getfield (pc := 23) cx flX9_25 (by assumption) gf2 dX9_passTick_23 ?_
  refine v_iload_n (pc := 26) cx rfl ga1 dX9_passTick_26 ?_
  refine v_aload_n (pc := 27) cx rfl ga0 dX9_passTick_27 ?_
  refine v_getfield (pc := 28) cx flX9_9 (by assumption) gf0 dX9_passTick_28 ?_
  refine v_iconst (pc := 31) cx dX9_passTick_31 ?_
  refine v_iaload (pc := 32) cx (2) (by assumption) (by omega) dX9_passTick_32 ?_
  refine v_aload_n (pc := 33) cx rfl ga0 dX9_passTick_33 ?_
  refine v_getfield (pc := 34) cx flX9_9 (by assumption) gf0 dX9_passTick_34 ?_
  refine v_iconst (pc := 37) cx dX9_passTick_37 ?_
  refine v_iaload (pc := 38) cx (3) (by assumption) (by omega) dX9_passTick_38 ?_
  rw [a2, a3]
  refine v_callVI (pc := 39) cx hR (c_Fi_passTick _ _ _ _ h3 (by omega)) mlX9_98 (by decide) (by assumption) rfl rfl rfl (Nat.le_of_ble_eq_true rfl) ⟨Nat.le_refl _, Nat.le_refl _⟩ dX9_passTick_39 (fun v1 E3 hP => ?_)
  obtain ⟨rfl, hP1, hF⟩ := hP
  replace h3 := hP1
  replace h2 := h2.out (hF) (by omega)
  replace h6 := h6.out (hF) (by omega)
  replace h7 := h7.out (hF) (by omega)
  replace h0 := ((hF) _ (by omega)).trans h0
  replace h1 := ((hF) _ (by omega)).trans h1
  replace h4 := ((hF) _ (by omega)).trans h4
  replace h5 := ((hF) _ (by omega)).trans h5
  replace hFr : Out _ _ _ _ := fun j hj => ((hF) j (by omega)).trans (hFr j hj)
  generalize hleft : rain - fTaken rain (s 13) (s 1) = left
  have fin : ∀ (E' : Wd) (nm' : Nat) (t' p' v' : Nat → Int) (B' : BT) (tip : Int), -1 ≤ tip → tip ≤ 100000000 → tip = tkR s rain → B' = (bS left (if rain = 0 then 1 else 0) (s 11) (s 12) (s 15) (s 2, s 3, s 7, s 8, s 9, bd)) → lst t' p' v' nm' = (if tip = -1 then lst t p v nm else addMk (lst t p v nm) (s 0, plG (lst2 gf gs ng) (s 5) (s 16), tip)) → nm' ≤ 60 →
      E' o = E3 o → E' (o + 1) = E3 (o + 1) → rSh (fG X) E' (o + 2) n b l r → E' (o + 6) = E3 (o + 6) → E' (o + 7) = some (oBk B') → E' (o + 8) = E3 (o + 8) → rGe (fG X) E' (o + 9) ng gf gs → rMk (fG X) E' (o + 12) nm' t' p' v' → Out E2 E' o (o + 16) →
      V X E' (nh, 0, 0) 100 [some (.ref (gb (fG X) + o)), some (.int (iI rain)), some (.int (iI left)), some (.int (iI tip))] [] := by
    intro E' nm' t' p' v' B' tip ht1 ht2 htip hB hls hnm g0 g1 h2 g3 h4 g5 h6 h7 hFr
    replace h0 := g0.trans h0
    replace h1 := g1.trans h1
    replace h3 := g3.trans h3
    replace h5 := g5.trans h5
    refine v_aload_n (pc := 100) cx rfl ga0 dX9_passTick_100 ?_
    refine v_getfield (pc := 101) cx flX9_39 (by assumption) gf4 dX9_passTick_101 ?_
    refine v_callVV (pc := 104) cx hR (c_Cl_passTick _ _ _ _ h5 k4) mlX9_112 (by decide) (by assumption) rfl rfl rfl (Nat.le_of_ble_eq_true rfl) ⟨Nat.le_refl _, Nat.le_refl _⟩ dX9_passTick_104 (fun E4 hP => ?_)
    obtain ⟨hP1, hF⟩ := hP
    replace h5 := hP1
    replace h2 := h2.out (hF) (by omega)
    replace h6 := h6.out (hF) (by omega)
    replace h7 := h7.out (hF) (by omega)
    replace h0 := ((hF) _ (by omega)).trans h0
    replace h1 := ((hF) _ (by omega)).trans h1
    replace h3 := ((hF) _ (by omega)).trans h3
    replace h4 := ((hF) _ (by omega)).trans h4
    replace hFr : Out _ _ _ _ := fun j hj => ((hF) j (by omega)).trans (hFr j hj)
    refine v_aload_n (pc := 107) cx rfl ga0 dX9_passTick_107 ?_
    refine v_dup (pc := 108) cx rfl dX9_passTick_108 ?_
    refine v_getfield (pc := 109) cx flX9_83 (by assumption) gf7 dX9_passTick_109 ?_
    refine v_iconst (pc := 112) cx dX9_passTick_112 ?_
    refine v_iadd (pc := 113) cx dX9_passTick_113 ?_
    refine v_putfield (pc := 114) cx fpX9_83 h0 ⟨rfl, rfl⟩ pf7 dX9_passTick_114 (fun E114 hE114 hF114 => ?_)
    have hF114' : Out _ E114 o (o + 1) := fun j hj => hF114 j (by omega)
    replace h0 := hE114
    replace h2 := h2.out (hF114') (by omega)
    replace h6 := h6.out (hF114') (by omega)
    replace h7 := h7.out (hF114') (by omega)
    replace h1 := ((hF114') _ (by omega)).trans h1
    replace h3 := ((hF114') _ (by omega)).trans h3
    replace h4 := ((hF114') _ (by omega)).trans h4
    replace h5 := ((hF114') _ (by omega)).trans h5
    replace hFr : Out _ _ _ _ := fun j hj => ((hF114') j (by omega)).trans (hFr j hj)
    refine v_aload_n (pc := 117) cx rfl ga0 dX9_passTick_117 ?_
    refine v_getfield (pc := 118) cx flX9_18 (by assumption) gf1 dX9_passTick_118 ?_
    refine v_aload_n (pc := 121) cx rfl ga0 dX9_passTick_121 ?_
    refine v_getfield (pc := 122) cx flX9_83 (by assumption) gf7 dX9_passTick_122 ?_
    refine v_callVV (pc := 125) cx hR (c_Sh_removeEnded _ _ _ _ h2 q3 (by omega) (fun j hj => ⟨(okSh_at k8 j hj).1, (okSh_at k8 j hj).2.1⟩)) mlX9_114 (by decide) h2.1 rfl rfl rfl (Nat.le_of_ble_eq_true rfl) ⟨Nat.le_refl _, Nat.le_refl _⟩ dX9_passTick_125 (fun E5 hP => ?_)
    obtain ⟨⟨n', b', l', r', h2, hlf, hn'⟩, hF⟩ := hP
    replace h6 := h6.out (hF) (by omega)
    replace h7 := h7.out (hF) (by omega)
    replace h0 := ((hF) _ (by omega)).trans h0
    replace h1 := ((hF) _ (by omega)).trans h1
    replace h3 := ((hF) _ (by omega)).trans h3
    replace h4 := ((hF) _ (by omega)).trans h4
    replace h5 := ((hF) _ (by omega)).trans h5
    replace hFr : Out _ _ _ _ := fun j hj => ((hF) j (by omega)).trans (hFr j hj)
    have hres : isS (fG X) E5 o (tick (s, lst b l r n, lst2 gf gs ng, lst t p v nm)) := by
      refine ⟨st, n', b', l', r', _, _, B', _, _, ng, gf, gs, nm', t', p', v', _, _, ⟨h0, h1, h2, h3, h4, h5, h6, h7⟩, fun j hj => ?_, ?_, by omega, ?_, ?_, ?_, ?_, ⟨rfl, q8n⟩, ⟨?_, hnm⟩, ?_, ?_⟩
      · rw [q1 j hj]
        show s (11 + j) = tkS s _ (11 + j)
        rw [show 11 + j = j + 11 by omega]
        rfl
      · rw [hlf]; rfl
      · show _ = s 1 + fTaken (tkRain _) (s 13) (s 1) - fGone (tkRain _) (s 13) (s 1) (s 14)
        rw [hrain]
      · show B'.1 = (tkB s (tkRain _)).1 ∧ B'.2.1 = (tkB s (tkRain _)).2.1 ∧ B'.2.2.1 = (tkB s (tkRain _)).2.2.1 ∧ B'.2.2.2.1 = (tkB s (tkRain _)).2.2.2.1 ∧ B'.2.2.2.2.1 = (tkB s (tkRain _)).2.2.2.2.1 ∧ _ + B'.2.2.2.2.2 = s 10 + fGone (tkRain _) (s 13) (s 1) (s 14) + (tkB s (tkRain _)).2.2.2.2.2
        rw [hrain, hB, bS_dr]
        unfold tkB
        rw [hleft]
        refine ⟨rfl, rfl, rfl, rfl, rfl, ?_⟩
        simp only
        omega
      · rfl
      · rfl
      · rw [hls]
        show _ = (if tkR s (tkRain _) = -1 then _ else addMk _ (s 0, _, tkR s (tkRain _)))
        rw [hrain, htip]
      · rfl
      · show _ = s 6 + tkRain _
        rw [hrain]
    have htip2 : tkTip (s, lst b l r n, lst2 gf gs ng, lst t p v nm) = tip := by
      show tkR s (tkRain _) = tip
      rw [hrain, htip]
    refine v_iload_n (pc := 128) cx rfl ga3 dX9_passTick_128 ?_
    refine v_iconst (pc := 129) cx dX9_passTick_129 ?_
    refine v_icmp_eq (pc := 130) cx 137 dX9_passTick_130 rfl (by omega) (fun c130 => ?_) (fun c130 => ?_)
    · refine v_iconst (pc := 137) cx dX9_passTick_137 ?_
      refine v_ireturn (pc := 138) cx hI rfl ?_ dX9_passTick_138
      exact ⟨Or.inr ⟨rfl, htip2.trans c130⟩, hres, hFr⟩
    · refine v_iconst (pc := 133) cx dX9_passTick_133 ?_
      refine v_goto (pc := 134) cx 138 dX9_passTick_134 rfl ?_
      refine v_ireturn (pc := 138) cx hI rfl ?_ dX9_passTick_138
      exact ⟨Or.inl ⟨rfl, fun q => c130 (htip2.symm.trans q)⟩, hres, hFr⟩
  have mid : ∀ d : Int, d = (if rain = 0 then 1 else 0) → V X E3 (nh, 0, 0) 57 [some (.ref (gb (fG X) + o)), some (.int (iI rain)), some (.int (iI left)), none] [.int (iI d), .int (iI left), .ref (gb (fG X) + (o + 7))] := by
    intro d hd
    have hd2 : d = 0 ∨ d = 1 := by rw [hd]; split <;> omega
    refine v_aload_n (pc := 57) cx rfl ga0 dX9_passTick_57 ?_
    refine v_getfield (pc := 58) cx flX9_9 (by assumption) gf0 dX9_passTick_58 ?_
    refine v_iconst (pc := 61) cx dX9_passTick_61 ?_
    refine v_iaload (pc := 62) cx (0) (by assumption) (by omega) dX9_passTick_62 ?_
    refine v_aload_n (pc := 63) cx rfl ga0 dX9_passTick_63 ?_
    refine v_getfield (pc := 64) cx flX9_9 (by assumption) gf0 dX9_passTick_64 ?_
    refine v_iconst (pc := 67) cx dX9_passTick_67 ?_
    refine v_iaload (pc := 68) cx (1) (by assumption) (by omega) dX9_passTick_68 ?_
    refine v_aload_n (pc := 69) cx rfl ga0 dX9_passTick_69 ?_
    refine v_getfield (pc := 70) cx flX9_9 (by assumption) gf0 dX9_passTick_70 ?_
    refine v_iconst (pc := 73) cx dX9_passTick_73 ?_
    refine v_iaload (pc := 74) cx (4) (by assumption) (by omega) dX9_passTick_74 ?_
    rw [a0, a1, a4]
    refine v_callVI (pc := 75) cx hR (c_Bk_passTick _ _ _ _ h4 (by simp only; omega)) mlX9_101 (by decide) (by assumption) rfl rfl rfl (Nat.le_of_ble_eq_true rfl) ⟨Nat.le_refl _, Nat.le_refl _⟩ dX9_passTick_75 (fun v1 E4 hP => ?_)
    obtain ⟨rfl, hP1, hF⟩ := hP
    have hkeep : Out E3 E4 (o + 7) (o + 8) := hF
    replace h4 := hP1
    have htr : bR left d (s 11) (s 15) (s 2, s 3, s 7, s 8, s 9, bd) = tkR s rain := by rw [bR_dr, hd]; unfold tkR; rw [hleft]
    have hbd : -1 ≤ tkR s rain ∧ tkR s rain ≤ 100000000 := by
      rw [← htr]
      unfold bR
      simp only
      split
      · omega
      · have : 0 ≤ bGone (s 2) left d (s 15) := by unfold bGone; split <;> omega
        split <;> omega
    rw [htr]
    refine v_istore_n (pc := 78) cx rfl (sa3 rfl) dX9_passTick_78 ?_
    refine v_iload_n (pc := 79) cx rfl ga3 dX9_passTick_79 ?_
    refine v_iconst (pc := 80) cx dX9_passTick_80 ?_
    refine v_icmp_eq (pc := 81) cx 100 dX9_passTick_81 rfl (by omega) (fun c81 => ?_) (fun c81 => ?_)
    · refine fin E4 nm t p v _ (tkR s rain) hbd.1 hbd.2 rfl (by rw [hd]) ?_ q9n (hkeep _ (by omega)) (hkeep _ (by omega)) (h2.out hF (by omega)) (hkeep _ (by omega)) h4 (hkeep _ (by omega)) (h6.out hF (by omega)) (h7.out hF (by omega)) (fun j hj => (hF j (by omega)).trans (hFr j hj))
      rw [if_pos c81]
    · have h0k := (hkeep o (by omega)).trans h0
      refine v_aload_n (pc := 84) cx rfl ga0 dX9_passTick_84 ?_
      refine v_getfield (pc := 85) cx flX9_53 (by assumption) gf6 dX9_passTick_85 ?_
      refine v_aload_n (pc := 88) cx rfl ga0 dX9_passTick_88 ?_
      refine v_getfield (pc := 89) cx flX9_83 (by assumption) gf7 dX9_passTick_89 ?_
      refine v_aload_n (pc := 92) cx rfl ga0 dX9_passTick_92 ?_
      refine v_callVI (pc := 93) cx hR (c_St_drumPlace _ _ _ _ ⟨h0k, (hkeep _ (by omega)).trans h1, h2.out hF (by omega), (hkeep _ (by omega)).trans h3, h4, (hkeep _ (by omega)).trans h5, h6.out hF (by omega), h7.out hF (by omega)⟩ q8n (fun j hj => (okGe_at k9 j hj).2) (by omega)) mlX9_104 (by decide) (by assumption) rfl rfl rfl (Nat.le_of_ble_eq_true rfl) ⟨Nat.le_refl _, Nat.le_refl _⟩ dX9_passTick_93 (fun v5 E6 hP => ?_)
      obtain ⟨rfl, rfl⟩ := hP
      rw [a5]
      refine v_iload_n (pc := 96) cx rfl ga3 dX9_passTick_96 ?_
      refine v_callVV (pc := 97) cx hR (c_Mk_append _ _ _ _ (h7.out hF (by omega)) q9n) mlX9_108 (by decide) (h7.out hF (by omega)).1 rfl rfl rfl (Nat.le_of_ble_eq_true rfl) ⟨Nat.le_refl _, Nat.le_refl _⟩ dX9_passTick_97 (fun E7 hP => ?_)
      obtain ⟨⟨m', t', p', v', g7, hls, hm'⟩, hF2⟩ := hP
      refine fin E7 m' t' p' v' _ (tkR s rain) hbd.1 hbd.2 rfl (by rw [hd]) ?_ hm' ((hF2 _ (by omega)).trans (hkeep _ (by omega))) ((hF2 _ (by omega)).trans (hkeep _ (by omega))) ((h2.out hF (by omega)).out hF2 (by omega)) ((hF2 _ (by omega)).trans (hkeep _ (by omega))) ((hF2 _ (by omega)).trans h4) ((hF2 _ (by omega)).trans (hkeep _ (by omega))) ((h6.out hF (by omega)).out hF2 (by omega)) g7 (fun j hj => (hF2 j (by omega)).trans ((hF j (by omega)).trans (hFr j hj)))
      rw [if_neg c81, hls, plG_lst]
  refine v_istore_n (pc := 42) cx rfl (sa2 rfl) dX9_passTick_42 ?_
  refine v_aload_n (pc := 43) cx rfl ga0 dX9_passTick_43 ?_
  refine v_getfield (pc := 44) cx flX9_32 (by assumption) gf3 dX9_passTick_44 ?_
  refine v_iload_n (pc := 47) cx rfl ga2 dX9_passTick_47 ?_
  refine v_iload_n (pc := 48) cx rfl ga1 dX9_passTick_48 ?_
  refine v_if_ne (pc := 49) cx 56 dX9_passTick_49 rfl (by omega) (fun c49 => ?_) (fun c49 => ?_)
  · refine v_iconst (pc := 56) cx dX9_passTick_56 ?_
    exact mid 0 (by rw [if_neg c49])
  · refine v_iconst (pc := 52) cx dX9_passTick_52 ?_
    refine v_goto (pc := 53) cx 57 dX9_passTick_53 rfl ?_
    exact mid 1 (by rw [if_pos c49])
set_option maxRecDepth 100000 in
set_option maxHeartbeats 4000000 in
theorem c_St_passTicks (lc : Launch) (G : Gc) (E : Wd) (nh : Nat) {o k : Nat} {σ : Sg} (h : isS G E o σ) (hk : ok σ) (ht : σ.1 0 + k ≤ 5000) (hk1 : k ≤ 1000) : CI lc G 4 yX9_passTicks cX9_passTicks 4 .int [.ref (gb G + o), .int (iI (k : Int))] E nh 0 0 (fun v E' => v = (tips σ k : Int) ∧ isS G E' o (ticks σ k) ∧ Out E E' o (o + 16)) := by
  refine CI.mk (by decide +kernel) rfl (Nat.le_of_ble_eq_true rfl) ?_
  intro X hG hL cx hR hI
  subst hG; subst hL
  show V X E (nh, 0, 0) 0 [some (.ref (gb (fG X) + o)), some (.int (iI (k : Int))), none, none] []
  have loop : ∀ (d i : Nat) (E' : Wd), i ≤ k → k - i < d → isS (fG X) E' o (ticks σ i) → Out E E' o (o + 16) → V X E' (nh, 0, 0) 4 [some (.ref (gb (fG X) + o)), some (.int (iI (k : Int))), some (.int (iI (tips σ i : Int))), some (.int (iI (i : Int)))] [] := by
    intro d
    induction d with
    | zero => intro i E' hi hd; omega
    | succ d ih =>
      intro i E' hi hd h hFr
      refine v_iload_n (pc := 4) cx rfl ga3 dX9_passTicks_4 ?_
      refine v_iload_n (pc := 5) cx rfl ga1 dX9_passTicks_5 ?_
      refine v_icmp_ge (pc := 6) cx 25 dX9_passTicks_6 rfl (by omega) (fun c6 => ?_) (fun c6 => ?_)
      · refine v_iload_n (pc := 25) cx rfl ga2 dX9_passTicks_25 ?_
        refine v_ireturn (pc := 26) cx hI rfl ?_ dX9_passTicks_26
        have e : i = k := by omega
        subst e
        exact ⟨rfl, h, hFr⟩
      · have h00 := h
        obtain ⟨_, _, _, _, _, _, _, _, _, _, _, _, _, _, _, _, _, _, _, ⟨h0, -⟩, -⟩ := h00
        refine v_aload_n (pc := 9) cx rfl ga0 dX9_passTicks_9 ?_
        refine v_callVI (pc := 10) cx hR (c_St_passTick _ _ _ _ h (ok_ticks hk i (by omega)) (by rw [ticks_0]; omega)) mlX9_90 (by decide) (by assumption) rfl rfl rfl (Nat.le_of_ble_eq_true rfl) ⟨Nat.le_refl _, Nat.le_refl _⟩ dX9_passTicks_10 (fun v1 E2 hP => ?_)
        obtain ⟨hv, h2, hF⟩ := hP
        refine v_if_eq (pc := 13) cx 19 dX9_passTicks_13 rfl (by omega) (fun c13 => ?_) (fun c13 => ?_)
        · refine v_iinc (pc := 19) cx ga3 (sa3 rfl) dX9_passTicks_19 ?_
          refine v_goto (pc := 22) cx 4 dX9_passTicks_22 rfl ?_
          have e : tips σ (i + 1) = tips σ i := by simp only [tips]; rw [if_pos (by omega), Nat.add_zero]
          rw [← e]
          exact ih (i + 1) E2 (by omega) (by omega) h2 (fun j hj => (hF j hj).trans (hFr j hj))
        · refine v_iinc (pc := 16) cx ga2 (sa2 rfl) dX9_passTicks_16 ?_
          refine v_iinc (pc := 19) cx ga3 (sa3 rfl) dX9_passTicks_19 ?_
          refine v_goto (pc := 22) cx 4 dX9_passTicks_22 rfl ?_
          have e : tips σ (i + 1) = tips σ i + 1 := by simp only [tips]; rw [if_neg (by omega)]
          rw [show ((tips σ i : Int) + 1) = ((tips σ i + 1 : Nat) : Int) from rfl, ← e]
          exact ih (i + 1) E2 (by omega) (by omega) h2 (fun j hj => (hF j hj).trans (hFr j hj))
  refine v_iconst (pc := 0) cx dX9_passTicks_0 ?_
  refine v_istore_n (pc := 1) cx rfl (sa2 rfl) dX9_passTicks_1 ?_
  refine v_iconst (pc := 2) cx dX9_passTicks_2 ?_
  refine v_istore_n (pc := 3) cx rfl (sa3 rfl) dX9_passTicks_3 ?_
  exact loop (k + 1) 0 E (by omega) (by omega) h (fun _ _ => rfl)
