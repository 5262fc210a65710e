/-! what is kept where two worlds agree -/
def Agr (E E' : Wd) (a b : Nat) : Prop := ∀ j : Nat, a ≤ j → j < b → E' j = E j
theorem Agr.sub {E E' : Wd} {a b c d : Nat} (h : Agr E E' a b) (h1 : a ≤ c) (h2 : d ≤ b) : Agr E E' c d := fun j hj1 hj2 => h j (by omega) (by omega)
theorem rSh.agr {G : Gc} {E E' : Wd} {o : Nat} {n : Int} {b l r : Nat → Int} (h : rSh G E o n b l r) (hE : Agr E E' o (o + 4)) : rSh G E' o n b l r :=
  ⟨(hE _ (by omega) (by omega)).trans h.1, (hE _ (by omega) (by omega)).trans h.2.1, (hE _ (by omega) (by omega)).trans h.2.2.1, (hE _ (by omega) (by omega)).trans h.2.2.2⟩
theorem rMk.agr {G : Gc} {E E' : Wd} {o : Nat} {n : Int} {b l r : Nat → Int} (h : rMk G E o n b l r) (hE : Agr E E' o (o + 4)) : rMk G E' o n b l r :=
  ⟨(hE _ (by omega) (by omega)).trans h.1, (hE _ (by omega) (by omega)).trans h.2.1, (hE _ (by omega) (by omega)).trans h.2.2.1, (hE _ (by omega) (by omega)).trans h.2.2.2⟩
theorem rGe.agr {G : Gc} {E E' : Wd} {o : Nat} {n : Int} {f s : Nat → Int} (h : rGe G E o n f s) (hE : Agr E E' o (o + 3)) : rGe G E' o n f s :=
  ⟨(hE _ (by omega) (by omega)).trans h.1, (hE _ (by omega) (by omega)).trans h.2.1, (hE _ (by omega) (by omega)).trans h.2.2⟩
theorem rSt.agr {G : Gc} {E E' : Wd} {o : Nat} {st : Nat → Int} {n : Nat} {b l r : Nat → Int} {fc fd : Int} {B : BT} {cr cc : Int} {ng : Nat} {gf gs : Nat → Int} {nm : Nat} {t p v : Nat → Int} {tick fell : Int} (h : rSt G E o st n b l r fc fd B cr cc ng gf gs nm t p v tick fell) (hE : Agr E E' o (o + 16)) : rSt G E' o st n b l r fc fd B cr cc ng gf gs nm t p v tick fell := by
  obtain ⟨h0, h1, h2, h3, h4, h5, h6, h7⟩ := h
  exact ⟨(hE _ (by omega) (by omega)).trans h0, (hE _ (by omega) (by omega)).trans h1, h2.agr (hE.sub (by omega) (by omega)), (hE _ (by omega) (by omega)).trans h3, (hE _ (by omega) (by omega)).trans h4, (hE _ (by omega) (by omega)).trans h5, h6.agr (hE.sub (by omega) (by omega)), h7.agr (hE.sub (by omega) (by omega))⟩
theorem isS.agr {G : Gc} {E E' : Wd} {o : Nat} {σ : Sg} (h : isS G E o σ) (hE : Agr E E' o (o + 16)) : isS G E' o σ := by
  obtain ⟨st, n, b, l, r, fc, fd, B, cr, cc, ng, gf, gs, nm, t, p, v, tick, fell, h1, h2⟩ := h
  exact ⟨st, n, b, l, r, fc, fd, B, cr, cc, ng, gf, gs, nm, t, p, v, tick, fell, h1.agr hE, h2⟩
theorem isH.agr {G : Gc} {E E' : Wd} {o : Nat} {hs : List Sg} (h : isH G E o hs) (hE : Agr E E' o (o + 82)) : isH G E' o hs := by
  obtain ⟨a, h0, h1, h2, h3, h4, h5, h6, h7⟩ := h
  refine ⟨a, (hE _ (by omega) (by omega)).trans h0, (hE _ (by omega) (by omega)).trans h1, h2, h3, h4, h5, fun j hj => ?_, fun j hj => ?_⟩
  · obtain ⟨k, hk, e⟩ := h4 j hj
    obtain ⟨σ, hσ⟩ := h6 j hj
    exact ⟨σ, hσ.agr (hE.sub (by omega) (by omega))⟩
  · obtain ⟨k, hk, e⟩ := h4 j (by omega)
    obtain ⟨σ, e1, hσ⟩ := h7 j hj
    exact ⟨σ, e1, hσ.agr (hE.sub (by omega) (by omega))⟩
theorem isTx.agr {G : Gc} {E E' : Wd} {o : Nat} {tx : List Int} (h : isTx G E o tx) (hE : Agr E E' o (o + 2)) : isTx G E' o tx := by
  obtain ⟨ch, ⟨h1, h2⟩, h3⟩ := h
  exact ⟨ch, ⟨(hE _ (by omega) (by omega)).trans h1, (hE _ (by omega) (by omega)).trans h2⟩, h3⟩
theorem rRd.agr {G : Gc} {E E' : Wd} {o : Nat} {sz pos rea nxt : Int} {b l r : Nat → Int} (h : rRd G E o sz pos rea nxt b l r) (hE : Agr E E' o (o + 4)) : rRd G E' o sz pos rea nxt b l r :=
  ⟨(hE _ (by omega) (by omega)).trans h.1, (hE _ (by omega) (by omega)).trans h.2.1, (hE _ (by omega) (by omega)).trans h.2.2.1, (hE _ (by omega) (by omega)).trans h.2.2.2⟩
/-- what a trial leaves as it was -/
def OutT (E E' : Wd) : Prop := ∀ j : Nat, (j < 17 ∨ 33 ≤ j) → (j < 115 ∨ 118 ≤ j) → E' j = E j
theorem isX.trial {G : Gc} {E E' : Wd} {Ψ : Fs} (h : isX G E Ψ) (hE : OutT E E') (h1 : ∃ τ, isS G E' 17 τ) (h2 : ∃ k lf dy, rOl G E' 115 k lf dy) : isX G E' Ψ := by
  obtain ⟨x0, x1, -, x2, -, x3, ⟨b1, b2, b3, b4, b5, b6, b7, x4⟩⟩ := h
  exact ⟨(hE _ (by omega) (by omega)).trans x0, x1.agr (fun j g1 g2 => hE j (by omega) (by omega)), h1, x2.agr (fun j g1 g2 => hE j (by omega) (by omega)), h2, x3.agr (fun j g1 g2 => hE j (by omega) (by omega)), ⟨b1, b2, b3, b4, b5, b6, b7, x4.agr (fun j g1 g2 => hE j (by omega) (by omega))⟩⟩
def vIfr (Ψ : Fs) (k w : Int) : Int :=
  if ¬ (0 ≤ w ∧ w ≤ 7) then -1 else if eTk Ψ k = 0 then (if w = 0 then (tips Ψ.1 k.toNat : Int) else if w ≤ 4 then (ticks Ψ.1 k.toNat).1 (6 + w.toNat) - Ψ.1.1 (6 + w.toNat) else if w = 5 then (ticks Ψ.1 k.toNat).1 1 else if w = 6 then (ticks Ψ.1 k.toNat).1 2 else plG (ticks Ψ.1 k.toNat).2.2.1 ((ticks Ψ.1 k.toNat).1 5) ((ticks Ψ.1 k.toNat).1 16)) else eTk Ψ k
set_option maxRecDepth 100000 in
set_option maxHeartbeats 4000000 in
theorem c_ifRun (lc : Launch) (G : Gc) (E : Wd) (nh : Nat) {Ψ : Fs} {k w : Int} (h : isX G E Ψ) (hk : okX Ψ) (hk0 : -2147483648 ≤ k ∧ k < 2147483648) (hw : -2147483648 ≤ w ∧ w < 2147483648) : CI lc G 5 yX11_ifRun cX11_ifRun 5 .int [.ref (gb G + 0), .int (iI k), .int (iI w)] E nh 0 0 (fun r E' => r = vIfr Ψ k w ∧ isX G E' Ψ ∧ Out E E' 0 124) := by
  refine CI.mk (by decide +kernel) rfl (Nat.le_of_ble_eq_true rfl) ?_
  intro X hG hL cx hR hI
  subst hG; subst hL
  show V X E (nh, 0, 0) 0 [some (.ref (gb (fG X) + 0)), some (.int (iI k)), some (.int (iI w)), none, none] []
  have hX := h
  obtain ⟨x0, x1, ⟨τ, x17⟩, x33, x115, x118, x120⟩ := id h
  have hed := eTk_bd (Ψ := Ψ) (k := k)
  obtain ⟨fs17, hfs17⟩ := x17.obj
  refine v_iload_n (pc := 0) cx rfl ga2 dX11_ifRun_0 ?_
  refine v_iconst (pc := 1) cx dX11_ifRun_1 ?_
  refine v_bipush (pc := 2) cx (by decide) dX11_ifRun_2 ?_
  refine v_callSI (pc := 4) cx hR (c_isWithin _ _ _ _ (by omega)) mlX11_51 (by decide) rfl (Nat.le_of_ble_eq_true rfl) ⟨Nat.le_refl _, Nat.le_refl _⟩ dX11_ifRun_4 (fun r1 E1 hP => ?_)
  obtain ⟨w1, rfl⟩ := hP
  refine v_if_ne (pc := 7) cx 12 dX11_ifRun_7 rfl (by omega) (fun c7 => ?_) (fun c7 => ?_)
  · refine v_aload_n (pc := 12) cx rfl ga0 dX11_ifRun_12 ?_
    refine v_iload_n (pc := 13) cx rfl ga1 dX11_ifRun_13 ?_
    refine v_callVI (pc := 14) cx hR (c_errorOfTicks _ _ _ _ h hk hk0) mlX11_94 (by decide) (by assumption) rfl rfl rfl (Nat.le_of_ble_eq_true rfl) ⟨Nat.le_refl _, Nat.le_refl _⟩ dX11_ifRun_14 (fun r2 E2 hP => ?_)
    obtain ⟨rfl, rfl⟩ := hP
    refine v_istore_n (pc := 17) cx rfl (sa3 rfl) dX11_ifRun_17 ?_
    refine v_iload_n (pc := 18) cx rfl ga3 dX11_ifRun_18 ?_
    refine v_if_eq (pc := 19) cx 24 dX11_ifRun_19 rfl (by omega) (fun c19 => ?_) (fun c19 => ?_)
    · obtain ⟨e1, e2, e3⟩ := eTk_0 (by assumption)
      have he0 : eTk Ψ k = 0 := by assumption
      obtain ⟨kn, rfl⟩ := Int.eq_ofNat_of_zero_le (show 0 ≤ k by omega)
      refine v_aload_n (pc := 24) cx rfl ga0 dX11_ifRun_24 ?_
      refine v_getfield (pc := 25) cx flX11_16 (by assumption) gf1 dX11_ifRun_25 ?_
      refine v_aload_n (pc := 28) cx rfl ga0 dX11_ifRun_28 ?_
      refine v_getfield (pc := 29) cx flX11_10 (by assumption) gf0 dX11_ifRun_29 ?_
      refine v_callVV (pc := 32) cx hR (c_St_copyFrom _ _ _ _ x17 x1 (by omega)) mlX11_223 (by decide) (by assumption) rfl rfl rfl (Nat.le_of_ble_eq_true rfl) ⟨Nat.le_refl _, Nat.le_refl _⟩ dX11_ifRun_32 (fun E3 hP => ?_)
      obtain ⟨y17, hF⟩ := hP
      replace x0 := (hF _ (by omega)).trans x0
      obtain ⟨fs17, hfs17⟩ := y17.obj
      refine v_aload_n (pc := 35) cx rfl ga0 dX11_ifRun_35 ?_
      refine v_getfield (pc := 36) cx flX11_16 (by assumption) gf1 dX11_ifRun_36 ?_
      refine v_iload_n (pc := 39) cx rfl ga1 dX11_ifRun_39 ?_
      refine v_callVI (pc := 40) cx hR (c_St_passTicks _ _ _ _ y17 hk.1 (by omega) (by omega)) mlX11_98 (by decide) (by assumption) rfl rfl rfl (Nat.le_of_ble_eq_true rfl) ⟨Nat.le_refl _, Nat.le_refl _⟩ dX11_ifRun_40 (fun r4 E4 hP => ?_)
      obtain ⟨rfl, z17, hF2⟩ := hP
      replace x0 := (hF2 _ (by omega)).trans x0
      have hO : Out E2 E4 17 33 := fun j hj => (hF2 j (by omega)).trans (hF j (by omega))
      have hX4 : isX (fG X) E4 Ψ := hX.trial (fun j g1 g2 => hO j (by omega)) ⟨_, z17⟩ (by obtain ⟨a1, a2, a3, a4⟩ := x115; exact ⟨a1, a2, a3, a4.out hO (by omega)⟩)
      have hO2 : Out E2 E4 0 124 := fun j hj => hO j (by omega)
      have hok := ok_ticks hk.1 kn (by omega)
      obtain ⟨fs17, hfs17⟩ := z17.obj
      have s1' := x1.out hO (by omega)
      obtain ⟨fs1, hfs1⟩ := s1'.obj
      have fin : 1 ≤ w → w ≤ 4 → V X E4 (nh, 0, 0) 125 [some (.ref (gb (fG X) + 0)), some (.int (iI (kn : Int))), some (.int (iI w)), some (.int (iI (eTk Ψ kn))), some (.int (iI (tips Ψ.1 kn : Int)))] [] := by
        intro g1 g2
        refine v_aload_n (pc := 125) cx rfl ga0 dX11_ifRun_125 ?_
        refine v_getfield (pc := 126) cx flX11_16 (by assumption) gf1 dX11_ifRun_126 ?_
        refine v_iload_n (pc := 129) cx rfl ga2 dX11_ifRun_129 ?_
        refine v_callVI (pc := 130) cx hR (c_St_accountOf _ _ _ _ z17 (by omega)) mlX11_184 (by decide) (by assumption) rfl rfl rfl (Nat.le_of_ble_eq_true rfl) ⟨Nat.le_refl _, Nat.le_refl _⟩ dX11_ifRun_130 (fun r5 E5 hP => ?_)
        obtain ⟨rfl, rfl⟩ := hP
        refine v_aload_n (pc := 133) cx rfl ga0 dX11_ifRun_133 ?_
        refine v_getfield (pc := 134) cx flX11_10 (by assumption) gf0 dX11_ifRun_134 ?_
        refine v_iload_n (pc := 137) cx rfl ga2 dX11_ifRun_137 ?_
        refine v_callVI (pc := 138) cx hR (c_St_accountOf _ _ _ _ s1' (by omega)) mlX11_184 (by decide) (by assumption) rfl rfl rfl (Nat.le_of_ble_eq_true rfl) ⟨Nat.le_refl _, Nat.le_refl _⟩ dX11_ifRun_138 (fun r6 E6 hP => ?_)
        obtain ⟨rfl, rfl⟩ := hP
        refine v_isub (pc := 141) cx dX11_ifRun_141 ?_
        refine v_ireturn (pc := 142) cx hI rfl ?_ dX11_ifRun_142
        refine ⟨?_, hX4, hO2⟩
        unfold vIfr
        rw [if_neg (by omega), if_pos he0, if_neg (by omega), if_pos g2, Int.toNat_natCast]
      refine v_istore (pc := 43) cx (sa4 rfl) dX11_ifRun_43 ?_
      refine v_iload_n (pc := 45) cx rfl ga2 dX11_ifRun_45 ?_
      rcases (show w = 0 ∨ w = 1 ∨ w = 2 ∨ w = 3 ∨ w = 4 ∨ w = 5 ∨ w = 6 ∨ w = 7 by omega) with rfl | rfl | rfl | rfl | rfl | rfl | rfl | rfl
      · refine v_tableIn (pc := 46) cx 92 dX11_ifRun_46 (by omega) rfl rfl ?_
        refine v_iload (pc := 92) cx ga4 dX11_ifRun_92 ?_
        refine v_ireturn (pc := 94) cx hI rfl ?_ dX11_ifRun_94
        refine ⟨?_, hX4, hO2⟩
        unfold vIfr
        rw [if_neg (by omega), if_pos he0, if_pos rfl, Int.toNat_natCast]
      · refine v_tableIn (pc := 46) cx 125 dX11_ifRun_46 (by omega) rfl rfl ?_
        exact fin (by omega) (by omega)
      · refine v_tableIn (pc := 46) cx 125 dX11_ifRun_46 (by omega) rfl rfl ?_
        exact fin (by omega) (by omega)
      · refine v_tableIn (pc := 46) cx 125 dX11_ifRun_46 (by omega) rfl rfl ?_
        exact fin (by omega) (by omega)
      · refine v_tableIn (pc := 46) cx 125 dX11_ifRun_46 (by omega) rfl rfl ?_
        exact fin (by omega) (by omega)
      · obtain ⟨st, n, b, l, r, fc, fd, B, cr, cn, ng, gf, gs, nm, t, p, v, tk, fell, ⟨s0, s1, s2, s3, s4, s5, s6, s7⟩, q1, q2, q3, q4, q5, q6, q7, ⟨q8, q8n⟩, ⟨q9, q9n⟩, q10, q11⟩ := id z17
        refine v_tableIn (pc := 46) cx 95 dX11_ifRun_46 (by omega) rfl rfl ?_
        refine v_aload_n (pc := 95) cx rfl ga0 dX11_ifRun_95 ?_
        refine v_getfield (pc := 96) cx flX11_16 (by assumption) gf1 dX11_ifRun_96 ?_
        refine v_getfield (pc := 99) cx flX11_152 (by assumption) gf2 dX11_ifRun_99 ?_
        refine v_getfield (pc := 102) cx flX11_156 (by assumption) gf0 dX11_ifRun_102 ?_
        refine v_ireturn (pc := 105) cx hI rfl ?_ dX11_ifRun_105
        refine ⟨?_, hX4, hO2⟩
        unfold vIfr
        rw [if_neg (by omega), if_pos he0, if_neg (by omega), if_neg (by omega), if_pos rfl, Int.toNat_natCast]
        exact q4
      · obtain ⟨st, n, b, l, r, fc, fd, B, cr, cn, ng, gf, gs, nm, t, p, v, tk, fell, ⟨s0, s1, s2, s3, s4, s5, s6, s7⟩, q1, q2, q3, q4, q5, q6, q7, ⟨q8, q8n⟩, ⟨q9, q9n⟩, q10, q11⟩ := id z17
        refine v_tableIn (pc := 46) cx 106 dX11_ifRun_46 (by omega) rfl rfl ?_
        refine v_aload_n (pc := 106) cx rfl ga0 dX11_ifRun_106 ?_
        refine v_getfield (pc := 107) cx flX11_16 (by assumption) gf1 dX11_ifRun_107 ?_
        refine v_getfield (pc := 110) cx flX11_161 (by assumption) gf3 dX11_ifRun_110 ?_
        refine v_getfield (pc := 113) cx flX11_165 (by assumption) gf0 dX11_ifRun_113 ?_
        refine v_ireturn (pc := 116) cx hI rfl ?_ dX11_ifRun_116
        refine ⟨?_, hX4, hO2⟩
        unfold vIfr
        rw [if_neg (by omega), if_pos he0, if_neg (by omega), if_neg (by omega), if_neg (by omega), if_pos rfl, Int.toNat_natCast]
        exact q5.1
      · obtain ⟨st, n, b, l, r, fc, fd, B, cr, cn, ng, gf, gs, nm, t, p, v, tk, fell, ⟨s0, s1, s2, s3, s4, s5, s6, s7⟩, q1, q2, q3, q4, q5, q6, q7, ⟨q8, q8n⟩, ⟨q9, q9n⟩, q10, q11⟩ := id z17
        have a5 : st 5 = (ticks Ψ.1 kn).1 16 := q1 5 (by omega)
        have hge := hok.2.2.2.1
        rw [← q8] at hge
        have hse6 := hok.2.1.2.2.2.2.2.1
        refine v_tableIn (pc := 46) cx 117 dX11_ifRun_46 (by omega) rfl rfl ?_
        refine v_aload_n (pc := 117) cx rfl ga0 dX11_ifRun_117 ?_
        refine v_getfield (pc := 118) cx flX11_16 (by assumption) gf1 dX11_ifRun_118 ?_
        refine v_callVI (pc := 121) cx hR (c_St_drumPlace _ _ _ _ ⟨s0, s1, s2, s3, s4, s5, s6, s7⟩ q8n (fun j hj => (okGe_at hge j hj).2) (by omega)) mlX11_174 (by decide) (by assumption) rfl rfl rfl (Nat.le_of_ble_eq_true rfl) ⟨Nat.le_refl _, Nat.le_refl _⟩ dX11_ifRun_121 (fun v5 E5 hP => ?_)
        obtain ⟨rfl, rfl⟩ := hP
        refine v_ireturn (pc := 124) cx hI rfl ?_ dX11_ifRun_124
        refine ⟨?_, hX4, hO2⟩
        unfold vIfr
        rw [if_neg (by omega), if_pos he0, if_neg (by omega), if_neg (by omega), if_neg (by omega), if_neg (by omega), Int.toNat_natCast, ← q8, plG_lst, a5, q7]
    · refine v_iload_n (pc := 22) cx rfl ga3 dX11_ifRun_22 ?_
      refine v_ireturn (pc := 23) cx hI rfl ?_ dX11_ifRun_23
      refine ⟨?_, hX, fun _ _ => rfl⟩
      unfold vIfr
      rw [if_neg (by omega), if_neg (by assumption)]
  · refine v_iconst (pc := 10) cx dX11_ifRun_10 ?_
    refine v_ireturn (pc := 11) cx hI rfl ?_ dX11_ifRun_11
    refine ⟨?_, hX, fun _ _ => rfl⟩
    unfold vIfr
    rw [if_pos (by omega)]
/-! the bucket alone, and the whole -/
theorem rainL_filter {L : List (Int × Int × Int)} {t0 t : Int} (h : t0 ≤ t) : rainL (L.filter (fun x => decide (t0 < x.1 + x.2.1))) t = rainL L t := by
  induction L with
  | nil => rfl
  | cons a L ih =>
    have e : rainL (a :: L) t = (if a.1 ≤ t ∧ t < a.1 + a.2.1 then a.2.2 else 0) + rainL L t := by simp [rainL]
    by_cases hc : t0 < a.1 + a.2.1
    · rw [List.filter_cons_of_pos (by simpa using hc)]
      have e2 : rainL (a :: L.filter (fun x => decide (t0 < x.1 + x.2.1))) t = (if a.1 ≤ t ∧ t < a.1 + a.2.1 then a.2.2 else 0) + rainL (L.filter (fun x => decide (t0 < x.1 + x.2.1))) t := by simp [rainL]
      rw [e2, e, ih]
    · rw [List.filter_cons_of_neg (by simpa using hc), e, ih, if_neg (by omega)]
      omega
def capσ (σ : Sg) (c : Int) : Sg := (upI σ.1 11 c, σ.2)
def rnF (σ : Sg) (i : Nat) : Int := rainL σ.2.1 (σ.1 0 + i)
theorem cap_sim (σ : Sg) (c bd : Int) : ∀ i : Nat,
    (ticks (capσ σ c) i).1 0 = σ.1 0 + i ∧ (ticks (capσ σ c) i).1 11 = c ∧ (∀ j, 12 ≤ j → (ticks (capσ σ c) i).1 j = σ.1 j) ∧ (∀ t, σ.1 0 + i ≤ t → rainL (ticks (capσ σ c) i).2.1 t = rainL σ.2.1 t) ∧
    (ticks (capσ σ c) i).1 1 = laF (rnF σ) (σ.1 13) (σ.1 14) (σ.1 1) i ∧
    ((ticks (capσ σ c) i).1 2 = (bN (laL (rnF σ) (σ.1 13) (σ.1 14) (σ.1 1)) (fun i => if rnF σ i = 0 then 1 else 0) c (σ.1 12) (σ.1 15) (σ.1 2, σ.1 3, σ.1 7, σ.1 8, σ.1 9, bd) i).1 ∧
     (ticks (capσ σ c) i).1 3 = (bN (laL (rnF σ) (σ.1 13) (σ.1 14) (σ.1 1)) (fun i => if rnF σ i = 0 then 1 else 0) c (σ.1 12) (σ.1 15) (σ.1 2, σ.1 3, σ.1 7, σ.1 8, σ.1 9, bd) i).2.1 ∧
     (ticks (capσ σ c) i).1 7 = (bN (laL (rnF σ) (σ.1 13) (σ.1 14) (σ.1 1)) (fun i => if rnF σ i = 0 then 1 else 0) c (σ.1 12) (σ.1 15) (σ.1 2, σ.1 3, σ.1 7, σ.1 8, σ.1 9, bd) i).2.2.1 ∧
     (ticks (capσ σ c) i).1 8 = (bN (laL (rnF σ) (σ.1 13) (σ.1 14) (σ.1 1)) (fun i => if rnF σ i = 0 then 1 else 0) c (σ.1 12) (σ.1 15) (σ.1 2, σ.1 3, σ.1 7, σ.1 8, σ.1 9, bd) i).2.2.2.1 ∧
     (ticks (capσ σ c) i).1 9 = (bN (laL (rnF σ) (σ.1 13) (σ.1 14) (σ.1 1)) (fun i => if rnF σ i = 0 then 1 else 0) c (σ.1 12) (σ.1 15) (σ.1 2, σ.1 3, σ.1 7, σ.1 8, σ.1 9, bd) i).2.2.2.2.1) := by
  intro i
  induction i with
  | zero => exact ⟨by simp [ticks, capσ, upI], rfl, fun j hj => upI_n (by omega), fun t ht => rfl, rfl, rfl, rfl, rfl, rfl, rfl⟩
  | succ i ih =>
    obtain ⟨i0, i11, ise, ish, i1, i2, i3, i7, i8, i9⟩ := ih
    have hrain : tkRain (ticks (capσ σ c) i) = rnF σ i := by
      unfold tkRain rnF
      rw [i0, ish _ (Int.le_refl _)]
    have e13 := ise 13 (by omega)
    have e14 := ise 14 (by omega)
    have e12 := ise 12 (by omega)
    have e15 := ise 15 (by omega)
    have hft : rnF σ i - fTaken (rnF σ i) ((ticks (capσ σ c) i).1 13) ((ticks (capσ σ c) i).1 1) = laL (rnF σ) (σ.1 13) (σ.1 14) (σ.1 1) i := by
      rw [e13, i1]
      rfl
    have hB : tkB (ticks (capσ σ c) i).1 (rnF σ i) = bS (laL (rnF σ) (σ.1 13) (σ.1 14) (σ.1 1) i) (if rnF σ i = 0 then 1 else 0) c (σ.1 12) (σ.1 15) ((ticks (capσ σ c) i).1 2, (ticks (capσ σ c) i).1 3, (ticks (capσ σ c) i).1 7, (ticks (capσ σ c) i).1 8, (ticks (capσ σ c) i).1 9, 0) := by
      unfold tkB
      rw [hft, i11, e12, e15]
    simp only [bN]
    generalize hbn : bN (laL (rnF σ) (σ.1 13) (σ.1 14) (σ.1 1)) (fun i => if rnF σ i = 0 then 1 else 0) c (σ.1 12) (σ.1 15) (σ.1 2, σ.1 3, σ.1 7, σ.1 8, σ.1 9, bd) i = b at *
    obtain ⟨b1, b2, b3, b4, b5, b6⟩ := b
    simp only at i2 i3 i7 i8 i9
    rw [i2, i3, i7, i8, i9] at hB
    have hD := bS_dr (rain := laL (rnF σ) (σ.1 13) (σ.1 14) (σ.1 1) i) (d := if rnF σ i = 0 then 1 else 0) (cap := c) (tt := σ.1 12) (dg := σ.1 15) (c := b1) (tl := b2) (ti := b3) (ov := b4) (lo := b5) (dr := b6)
    rw [hD, ← hB]
    refine ⟨?_, ?_, fun j hj => ?_, fun t ht => ?_, ?_, ?_, ?_, ?_, ?_, ?_⟩
    · show (ticks (capσ σ c) i).1 0 + 1 = _
      rw [i0]; omega
    · exact i11
    · obtain ⟨q, rfl⟩ : ∃ q, j = q + 11 := ⟨j - 11, by omega⟩
      exact ise (q + 11) hj
    · show rainL ((ticks (capσ σ c) i).2.1.filter (fun x => decide ((ticks (capσ σ c) i).1 0 + 1 < x.1 + x.2.1))) t = _
      rw [rainL_filter (by rw [i0]; omega)]
      exact ish t (by omega)
    · show (ticks (capσ σ c) i).1 1 + fTaken (tkRain (ticks (capσ σ c) i)) ((ticks (capσ σ c) i).1 13) ((ticks (capσ σ c) i).1 1) - fGone (tkRain (ticks (capσ σ c) i)) ((ticks (capσ σ c) i).1 13) ((ticks (capσ σ c) i).1 1) ((ticks (capσ σ c) i).1 14) = _
      rw [hrain, e13, e14, i1]
      rfl
    · show (tkB (ticks (capσ σ c) i).1 (tkRain (ticks (capσ σ c) i))).1 = _
      rw [hrain]
    · show (tkB (ticks (capσ σ c) i).1 (tkRain (ticks (capσ σ c) i))).2.1 = _
      rw [hrain]
    · show (tkB (ticks (capσ σ c) i).1 (tkRain (ticks (capσ σ c) i))).2.2.1 = _
      rw [hrain]
    · show (tkB (ticks (capσ σ c) i).1 (tkRain (ticks (capσ σ c) i))).2.2.2.1 = _
      rw [hrain]
    · show (tkB (ticks (capσ σ c) i).1 (tkRain (ticks (capσ σ c) i))).2.2.2.2.1 = _
      rw [hrain]
theorem bN_ext {lf dy lf' dy' : Nat → Int} {cap tt dg : Int} {B : BT} : ∀ k, (∀ i, i < k → lf i = lf' i ∧ dy i = dy' i) → bN lf dy cap tt dg B k = bN lf' dy' cap tt dg B k := by
  intro k
  induction k with
  | zero => intro _; rfl
  | succ k ih =>
    intro h
    simp only [bN]
    rw [ih (fun i hi => h i (by omega)), (h k (by omega)).1, (h k (by omega)).2]
def gnV (σ : Sg) (k : Nat) (c : Int) : Int := (ticks (capσ σ c) k).1 9 - σ.1 9 + (ticks (capσ σ c) k).1 8 - σ.1 8
def srch (σ : Sg) (k : Nat) (most : Int) : Nat → Int → Int
  | 0, _ => -4
  | n + 1, c => if gnV σ k c ≤ most then c else srch σ k most n (c + 1)
def vCap (Ψ : Fs) (k most : Int) : Int := if ¬ (0 ≤ most ∧ most ≤ 100000) then -1 else if eTk Ψ k = 0 then srch Ψ.1 k.toNat most 481 20 else eTk Ψ k
set_option maxRecDepth 100000 in
set_option maxHeartbeats 4000000 in
theorem c_capacityFor (lc : Launch) (G : Gc) (E : Wd) (nh : Nat) {Ψ : Fs} {k mo : Int} (h : isX G E Ψ) (hk : okX Ψ) (hk0 : -2147483648 ≤ k ∧ k < 2147483648) (hmo : -2147483648 ≤ mo ∧ mo < 2147483648) : CI lc G 5 yX11_capacityFor cX11_capacityFor 5 .int [.ref (gb G + 0), .int (iI k), .int (iI mo)] E nh 0 0 (fun r E' => r = vCap Ψ k mo ∧ isX G E' Ψ ∧ Out E E' 0 124) := by
  refine CI.mk (by decide +kernel) rfl (Nat.le_of_ble_eq_true rfl) ?_
  intro X hG hL cx hR hI
  subst hG; subst hL
  show V X E (nh, 0, 0) 0 [some (.ref (gb (fG X) + 0)), some (.int (iI k)), some (.int (iI mo)), none, none] []
  have hX := h
  obtain ⟨x0, x1, ⟨τ, x17⟩, x33, ⟨ko, lo0, do0, x115⟩, x118, x120⟩ := id h
  have hed := eTk_bd (Ψ := Ψ) (k := k)
  obtain ⟨fs17, hfs17⟩ := x17.obj
  refine v_iload_n (pc := 0) cx rfl ga2 dX11_capacityFor_0 ?_
  refine v_iconst (pc := 1) cx dX11_capacityFor_1 ?_
  refine v_ldc (pc := 2) cx kcX11_226 dX11_capacityFor_2 ?_
  refine v_callSI (pc := 4) cx hR (c_isWithin _ _ _ _ (by omega)) mlX11_51 (by decide) rfl (Nat.le_of_ble_eq_true rfl) ⟨Nat.le_refl _, Nat.le_refl _⟩ dX11_capacityFor_4 (fun r1 E1 hP => ?_)
  obtain ⟨w1, rfl⟩ := hP
  refine v_if_ne (pc := 7) cx 12 dX11_capacityFor_7 rfl (by omega) (fun c7 => ?_) (fun c7 => ?_)
  · refine v_aload_n (pc := 12) cx rfl ga0 dX11_capacityFor_12 ?_
    refine v_iload_n (pc := 13) cx rfl ga1 dX11_capacityFor_13 ?_
    refine v_callVI (pc := 14) cx hR (c_errorOfTicks _ _ _ _ h hk hk0) mlX11_94 (by decide) (by assumption) rfl rfl rfl (Nat.le_of_ble_eq_true rfl) ⟨Nat.le_refl _, Nat.le_refl _⟩ dX11_capacityFor_14 (fun r2 E2 hP => ?_)
    obtain ⟨rfl, rfl⟩ := hP
    refine v_istore_n (pc := 17) cx rfl (sa3 rfl) dX11_capacityFor_17 ?_
    refine v_iload_n (pc := 18) cx rfl ga3 dX11_capacityFor_18 ?_
    refine v_if_eq (pc := 19) cx 24 dX11_capacityFor_19 rfl (by omega) (fun c19 => ?_) (fun c19 => ?_)
    · obtain ⟨e1, e2, e3⟩ := eTk_0 (by assumption)
      have he0 : eTk Ψ k = 0 := by assumption
      obtain ⟨kn, rfl⟩ := Int.eq_ofNat_of_zero_le (show 0 ≤ k by omega)
      refine v_aload_n (pc := 24) cx rfl ga0 dX11_capacityFor_24 ?_
      refine v_getfield (pc := 25) cx flX11_16 (by assumption) gf1 dX11_capacityFor_25 ?_
      refine v_aload_n (pc := 28) cx rfl ga0 dX11_capacityFor_28 ?_
      refine v_getfield (pc := 29) cx flX11_10 (by assumption) gf0 dX11_capacityFor_29 ?_
      refine v_callVV (pc := 32) cx hR (c_St_copyFrom _ _ _ _ x17 x1 (by omega)) mlX11_223 (by decide) (by assumption) rfl rfl rfl (Nat.le_of_ble_eq_true rfl) ⟨Nat.le_refl _, Nat.le_refl _⟩ dX11_capacityFor_32 (fun E3 hP => ?_)
      obtain ⟨y17, hF⟩ := hP
      replace x0 := (hF _ (by omega)).trans x0
      have x115' := x115.out hF (by omega)
      have x1' := x1.out hF (by omega)
      obtain ⟨⟨hsc, hse, hsh, hge, hmk⟩, -, -⟩ := id hk
      obtain ⟨st, n, b, l, r, fc, fd, B, cr, cn, ng, gf, gs, nm, t, p, v, tk, fell, ⟨s0, s1, s2, s3, s4, s5, s6, s7⟩, q1, q2, q3, q4, q5, q6, q7, ⟨q8, q8n⟩, ⟨q9, q9n⟩, q10, q11⟩ := id y17
      obtain ⟨q51, q52, q53, q54, q55, q56⟩ := q5
      have a1 : st 1 = Ψ.1.1 12 := q1 1 (by omega)
      have a2 : st 2 = Ψ.1.1 13 := q1 2 (by omega)
      have a3 : st 3 = Ψ.1.1 14 := q1 3 (by omega)
      have a4 : st 4 = Ψ.1.1 15 := q1 4 (by omega)
      have hx115 := x115'.1
      refine v_aload_n (pc := 35) cx rfl ga0 dX11_capacityFor_35 ?_
      refine v_getfield (pc := 36) cx flX11_29 (by assumption) gf3 dX11_capacityFor_36 ?_
      refine v_aload_n (pc := 39) cx rfl ga0 dX11_capacityFor_39 ?_
      refine v_getfield (pc := 40) cx flX11_16 (by assumption) gf1 dX11_capacityFor_40 ?_
      refine v_iload_n (pc := 43) cx rfl ga1 dX11_capacityFor_43 ?_
      refine v_callVV (pc := 44) cx hR (c_Ol_lookAhead _ _ _ _ x115' ⟨s0, s1, s2, s3, s4, s5, s6, s7⟩ (by omega) (by omega) q3 (by rw [q2]; exact hsh) ⟨by rw [q10]; exact hsc.1, by rw [q4]; exact hsc.2.1, by rw [a2]; exact hse.2.2.1, by rw [a3]; exact hse.2.2.2.1⟩) mlX11_227 (by decide) (by assumption) rfl rfl rfl (Nat.le_of_ble_eq_true rfl) ⟨Nat.le_refl _, Nat.le_refl _⟩ dX11_capacityFor_44 (fun E4 hP => ?_)
      obtain ⟨⟨lf, dy, fc', fd', o115, t17, hlf⟩, hF2⟩ := hP
      have hOT : OutT E2 E4 := fun j g1 g2 => (hF2 j (by omega) (by omega)).trans (hF j (by omega))
      have hlf2 : ∀ i, i < kn → lf i = laL (rnF Ψ.1) (Ψ.1.1 13) (Ψ.1.1 14) (Ψ.1.1 1) i ∧ dy i = (if rnF Ψ.1 i = 0 then 1 else 0) := by
        intro i hi
        have := hlf i hi
        rw [q2, q10, a2, a3, q4] at this
        exact this
      have hrn := fun i : Nat => rainL_bd hsh.2 (Ψ.1.1 0 + (i : Int))
      have hbdF := laF_bd (rn := rnF Ψ.1) (cap := Ψ.1.1 13) (dg := Ψ.1.1 14) (c0 := Ψ.1.1 1) hsc.2.1 hse.2.2.1 hse.2.2.2.1.1 (fun i => (hrn i).1)
      have hlfb : ∀ i, i < kn → (0 ≤ lf i ∧ lf i ≤ 2400) ∧ (dy i = 0 ∨ dy i = 1) := by
        intro i hi
        obtain ⟨g1, g2⟩ := hlf2 i hi
        have g3 := hrn i
        have g4 := fT_bd (cap := Ψ.1.1 13) (c := laF (rnF Ψ.1) (Ψ.1.1 13) (Ψ.1.1 14) (Ψ.1.1 1) i) (show 0 ≤ rnF Ψ.1 i from g3.1)
        have g5 : rnF Ψ.1 i ≤ 200 * (Ψ.1.2.1.length : Int) := g3.2
        have g6 := hsh.1
        rw [g1, g2]
        unfold laL
        refine ⟨by omega, ?_⟩
        split
        · exact Or.inr rfl
        · exact Or.inl rfl
      have loop : ∀ (d c : Nat) (E' : Wd) (B' : BT), 20 ≤ c → c ≤ 501 → 501 - c < d → rOl (fG X) E' 115 (kn : Int) lf dy → rSt (fG X) E' 17 st n b l r fc' fd' B' cr cn ng gf gs nm t p v tk fell → OutT E2 E' → srch Ψ.1 kn mo 481 20 = srch Ψ.1 kn mo (501 - c) (c : Int) → V X E' (nh, 0, 0) 54 [some (.ref (gb (fG X) + 0)), some (.int (iI (kn : Int))), some (.int (iI mo)), some (.int (iI (eTk Ψ kn))), some (.int (iI (c : Int)))] [] := by
        intro d
        induction d with
        | zero => intro c E' B' h1 h2 h3; omega
        | succ d ih =>
          intro c E' B' hc1 hc2 hd o115 t17 hOT hsr
          obtain ⟨t0, t1, t2, t3, t4, t5, t6, t7⟩ := id t17
          have hres : isX (fG X) E' Ψ := hX.trial hOT ⟨(fun i => if i = 1 then fc' else if i = 2 then B'.1 else if i = 3 then B'.2.1 else if i = 4 then cr else if i = 5 then cn else if i = 6 then fell else if i = 7 then B'.2.2.1 else if i = 8 then B'.2.2.2.1 else if i = 9 then B'.2.2.2.2.1 else if i = 10 then fd' + B'.2.2.2.2.2 else if i = 0 then tk else st (i - 11), lst b l r n, lst2 gf gs ng, lst t p v nm), st, n, b, l, r, fc', fd', B', cr, cn, ng, gf, gs, nm, t, p, v, tk, fell, t17, fun j hj => by simp only; rw [if_neg (by omega), if_neg (by omega), if_neg (by omega), if_neg (by omega), if_neg (by omega), if_neg (by omega), if_neg (by omega), if_neg (by omega), if_neg (by omega), if_neg (by omega), if_neg (by omega)]; congr 1; omega, rfl, q3, rfl, ⟨rfl, rfl, rfl, rfl, rfl, rfl⟩, rfl, rfl, ⟨rfl, q8n⟩, ⟨rfl, q9n⟩, rfl, rfl⟩ ⟨_, _, _, o115⟩
          have hOU : Out E2 E' 0 124 := fun j hj => hOT j (by omega) (by omega)
          have y0 := (hOT 0 (by omega) (by omega)).trans hX.1
          have y1 : isS (fG X) E' 1 Ψ.1 := x1.agr (fun j g1 g2 => hOT j (by omega) (by omega))
          obtain ⟨st', n', b', l', r', fc2, fd2, Bn, cr', cn', ng', gf', gs', nm', t', p', v', tk', fell', ⟨u0, u1, u2, u3, u4, u5, u6, u7⟩, p1, p2, p3, p4, ⟨p51, p52, p53, p54, p55, p56⟩, -⟩ := id y1
          have o0 := o115.1
          refine v_iload (pc := 54) cx ga4 dX11_capacityFor_54 ?_
          refine v_getstatic (pc := 56) cx 1 (by decide) gsX11_108 dX11_capacityFor_56 ?_
          refine v_iconst (pc := 59) cx dX11_capacityFor_59 ?_
          refine v_tload (pc := 60) cx (0) (by decide) (by omega) dX11_capacityFor_60 ?_
          rw [show tbV 1 0 = 500 from rfl]
          refine v_icmp_gt (pc := 61) cx 107 dX11_capacityFor_61 rfl (by omega) (fun c61 => ?_) (fun c61 => ?_)
          · refine v_bipush (pc := 107) cx (by decide) dX11_capacityFor_107 ?_
            refine v_ireturn (pc := 109) cx hI rfl ?_ dX11_capacityFor_109
            refine ⟨?_, hres, hOU⟩
            unfold vCap
            rw [if_neg (by omega), if_pos he0, Int.toNat_natCast, hsr, show 501 - c = 0 by omega]
            rfl
          · refine v_aload_n (pc := 64) cx rfl ga0 dX11_capacityFor_64 ?_
            refine v_getfield (pc := 65) cx flX11_16 (by assumption) gf1 dX11_capacityFor_65 ?_
            refine v_getfield (pc := 68) cx flX11_161 (by assumption) gf3 dX11_capacityFor_68 ?_
            refine v_aload_n (pc := 71) cx rfl ga0 dX11_capacityFor_71 ?_
            refine v_getfield (pc := 72) cx flX11_10 (by assumption) gf0 dX11_capacityFor_72 ?_
            refine v_getfield (pc := 75) cx flX11_161 (by assumption) gf3 dX11_capacityFor_75 ?_
            refine v_callVV (pc := 78) cx hR (c_Bk_copyFrom _ _ _ _ t4 u4 (by omega)) mlX11_231 (by decide) (by assumption) rfl rfl rfl (Nat.le_of_ble_eq_true rfl) ⟨Nat.le_refl _, Nat.le_refl _⟩ dX11_capacityFor_78 (fun E5 hP => ?_)
            obtain ⟨g4, hF5⟩ := hP
            have y05 := (hF5 _ (by omega)).trans y0
            have o5 := o115.out hF5 (by omega)
            have o05 := o5.1
            have t5' : rSt (fG X) E5 17 st n b l r fc' fd' Bn cr cn ng gf gs nm t p v tk fell := ⟨(hF5 _ (by omega)).trans t0, (hF5 _ (by omega)).trans t1, t2.out hF5 (by omega), (hF5 _ (by omega)).trans t3, g4, (hF5 _ (by omega)).trans t5, t6.out hF5 (by omega), t7.out hF5 (by omega)⟩
            refine v_aload_n (pc := 81) cx rfl ga0 dX11_capacityFor_81 ?_
            refine v_getfield (pc := 82) cx flX11_29 (by assumption) gf3 dX11_capacityFor_82 ?_
            refine v_iload_n (pc := 85) cx rfl ga2 dX11_capacityFor_85 ?_
            refine v_iload (pc := 86) cx ga4 dX11_capacityFor_86 ?_
            refine v_aload_n (pc := 88) cx rfl ga0 dX11_capacityFor_88 ?_
            refine v_getfield (pc := 89) cx flX11_16 (by assumption) gf1 dX11_capacityFor_89 ?_
            refine v_callVI (pc := 92) cx hR (c_Ol_losesAtMost _ _ _ _ o5 t5' (by omega) (by omega) hlfb (by omega) (by omega) ⟨by rw [a1]; exact hse.2.1, by rw [a4]; exact hse.2.2.2.2.1, by rw [p51, p52]; exact ⟨hsc.2.2.1, hsc.2.2.2.1⟩, by rw [p51, p54, p55]; have := hsc; unfold okSc at this; omega⟩) mlX11_234 (by decide) (by assumption) rfl rfl rfl (Nat.le_of_ble_eq_true rfl) ⟨Nat.le_refl _, Nat.le_refl _⟩ dX11_capacityFor_92 (fun r6 E6 hP => ?_)
            obtain ⟨hv, ⟨B6, g6⟩, hF6⟩ := hP
            have hsim := cap_sim Ψ.1 (c : Int) Bn.2.2.2.2.2 kn
            have hBn : Bn = (Ψ.1.1 2, Ψ.1.1 3, Ψ.1.1 7, Ψ.1.1 8, Ψ.1.1 9, Bn.2.2.2.2.2) := by rw [← p51, ← p52, ← p53, ← p54, ← p55]
            have hbe : bN lf dy (c : Int) (st 1) (st 4) Bn kn = bN (laL (rnF Ψ.1) (Ψ.1.1 13) (Ψ.1.1 14) (Ψ.1.1 1)) (fun i => if rnF Ψ.1 i = 0 then 1 else 0) (c : Int) (Ψ.1.1 12) (Ψ.1.1 15) (Ψ.1.1 2, Ψ.1.1 3, Ψ.1.1 7, Ψ.1.1 8, Ψ.1.1 9, Bn.2.2.2.2.2) kn := by
              rw [← hBn, a1, a4]
              exact bN_ext kn hlf2
            rw [hbe, ← hsim.2.2.2.2.2.2.2.2.1, ← hsim.2.2.2.2.2.2.2.2.2, p54, p55] at hv
            have hst : srch Ψ.1 kn mo (501 - c) (c : Int) = if gnV Ψ.1 kn (c : Int) ≤ mo then (c : Int) else srch Ψ.1 kn mo (501 - (c + 1)) ((c + 1 : Nat) : Int) := by
              rw [show 501 - c = (501 - (c + 1)) + 1 by omega]
              rfl
            have hOT6 : OutT E2 E6 := fun j g1 g2 => (hF6 j (by omega)).trans ((hF5 j (by omega)).trans (hOT j g1 g2))
            have t6' : rSt (fG X) E6 17 st n b l r fc' fd' B6 cr cn ng gf gs nm t p v tk fell := by
              obtain ⟨v0, v1, v2, v3, v4, v5, v6, v7⟩ := t5'
              exact ⟨(hF6 _ (by omega)).trans v0, (hF6 _ (by omega)).trans v1, v2.out hF6 (by omega), (hF6 _ (by omega)).trans v3, g6, (hF6 _ (by omega)).trans v5, v6.out hF6 (by omega), v7.out hF6 (by omega)⟩
            have o6 := o5.out hF6 (by omega)
            have hgn : gnV Ψ.1 kn (c : Int) = (ticks (capσ Ψ.1 (c : Int)) kn).1 9 - Ψ.1.1 9 + (ticks (capσ Ψ.1 (c : Int)) kn).1 8 - Ψ.1.1 8 := rfl
            refine v_if_eq (pc := 95) cx 101 dX11_capacityFor_95 rfl (by omega) (fun c95 => ?_) (fun c95 => ?_)
            · refine v_iinc (pc := 101) cx ga4 (sa4 rfl) dX11_capacityFor_101 ?_
              refine v_goto (pc := 104) cx 54 dX11_capacityFor_104 rfl ?_
              rw [hst, if_neg (by omega)] at hsr
              exact ih (c + 1) E6 B6 (by omega) (by omega) (by omega) o6 t6' hOT6 hsr
            · refine v_iload (pc := 98) cx ga4 dX11_capacityFor_98 ?_
              refine v_ireturn (pc := 100) cx hI rfl ?_ dX11_capacityFor_100
              rw [hst, if_pos (by omega)] at hsr
              have hres6 : isX (fG X) E6 Ψ := hX.trial hOT6 ⟨(fun i => if i = 1 then fc' else if i = 2 then B6.1 else if i = 3 then B6.2.1 else if i = 4 then cr else if i = 5 then cn else if i = 6 then fell else if i = 7 then B6.2.2.1 else if i = 8 then B6.2.2.2.1 else if i = 9 then B6.2.2.2.2.1 else if i = 10 then fd' + B6.2.2.2.2.2 else if i = 0 then tk else st (i - 11), lst b l r n, lst2 gf gs ng, lst t p v nm), st, n, b, l, r, fc', fd', B6, cr, cn, ng, gf, gs, nm, t, p, v, tk, fell, t6', fun j hj => by simp only; rw [if_neg (by omega), if_neg (by omega), if_neg (by omega), if_neg (by omega), if_neg (by omega), if_neg (by omega), if_neg (by omega), if_neg (by omega), if_neg (by omega), if_neg (by omega), if_neg (by omega)]; congr 1; omega, rfl, q3, rfl, ⟨rfl, rfl, rfl, rfl, rfl, rfl⟩, rfl, rfl, ⟨rfl, q8n⟩, ⟨rfl, q9n⟩, rfl, rfl⟩ ⟨_, _, _, o6⟩
              refine ⟨?_, hres6, fun j hj => hOT6 j (by omega) (by omega)⟩
              unfold vCap
              rw [if_neg (by omega), if_pos he0, Int.toNat_natCast, hsr]
      refine v_getstatic (pc := 47) cx 0 (by decide) gsX11_105 dX11_capacityFor_47 ?_
      refine v_iconst (pc := 50) cx dX11_capacityFor_50 ?_
      refine v_tload (pc := 51) cx (0) (by decide) (by omega) dX11_capacityFor_51 ?_
      refine v_istore (pc := 52) cx (sa4 rfl) dX11_capacityFor_52 ?_
      rw [show tbV 0 0 = ((20 : Nat) : Int) from rfl]
      exact loop 502 20 E4 B (by omega) (by omega) (by omega) o115 t17 hOT rfl
    · refine v_iload_n (pc := 22) cx rfl ga3 dX11_capacityFor_22 ?_
      refine v_ireturn (pc := 23) cx hI rfl ?_ dX11_capacityFor_23
      refine ⟨?_, hX, fun _ _ => rfl⟩
      unfold vCap
      rw [if_neg (by omega), if_neg (by assumption)]
  · refine v_iconst (pc := 10) cx dX11_capacityFor_10 ?_
    refine v_ireturn (pc := 11) cx hI rfl ?_ dX11_capacityFor_11
    refine ⟨?_, hX, fun _ _ => rfl⟩
    unfold vCap
    rw [if_pos (by omega)]
set_option maxRecDepth 100000 in
set_option maxHeartbeats 4000000 in
theorem c_untilStop (lc : Launch) (G : Gc) (E : Wd) (nh : Nat) {Ψ : Fs} (h : isX G E Ψ) (hk : okX Ψ) : CI lc G 5 yX11_untilStop cX11_untilStop 1 .int [.ref (gb G + 0)] E nh 0 0 (fun r E' => r = Ψ.1.1 4 ∧ E' = E) := by
  refine CI.mk (by decide +kernel) rfl (Nat.le_of_ble_eq_true rfl) ?_
  intro X hG hL cx hR hI
  subst hG; subst hL
  show V X E (nh, 0, 0) 0 [some (.ref (gb (fG X) + 0))] []
  obtain ⟨hxr, hS, hH⟩ := h.split
  have hx0 := hxr.1
  obtain ⟨st, n, b, l, r, fc, fd, B, cr, cn, ng, gf, gs, nm, t, p, v, tk, fell, ⟨s0, s1, s2, s3, s4, s5, s6, s7⟩, q1, q2, q3, q4, q5, q6, q7, ⟨q8, q8n⟩, ⟨q9, q9n⟩, q10, q11⟩ := id hS
  refine v_aload_n (pc := 0) cx rfl ga0 dX11_untilStop_0 ?_
  refine v_getfield (pc := 1) cx flX11_10 (by assumption) gf0 dX11_untilStop_1 ?_
  refine v_getfield (pc := 4) cx flX11_114 (by assumption) gf4 dX11_untilStop_4 ?_
  refine v_getfield (pc := 7) cx flX11_118 (by assumption) gf0 dX11_untilStop_7 ?_
  refine v_ireturn (pc := 10) cx hI rfl ?_ dX11_untilStop_10
  exact ⟨q6, rfl⟩
def gsr (te k : Int) : Nat → Int → Int
  | 0, _ => -4
  | n + 1, a => if te * (k * a / te) = k * a ∧ 8 ≤ k * a / te ∧ k * a / te ≤ 120 then 1000 * a + k * a / te else gsr te k n (a + 1)
def vGfo (Ψ : Fs) (k : Int) : Int := if ¬ (1 ≤ k ∧ k ≤ 100000) then -1 else gsr (Ψ.1.1 16) k 113 8