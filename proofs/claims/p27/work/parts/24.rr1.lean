/-! the class's public methods: first the ones about rain and the recorder -/
def vAdd (Ψ : Fs) (b l r : Int) : Int := if ¬ (Ψ.1.1 0 ≤ b ∧ b ≤ 5000) ∨ ¬ (1 ≤ l ∧ l ≤ 500) ∨ ¬ (1 ≤ r ∧ r ≤ 200) then -1 else if 12 ≤ Ψ.1.2.1.length then -3 else (insI Ψ.1.2.1 b : Int)
def sAdd (Ψ : Fs) (b l r : Int) : Fs := if ¬ (Ψ.1.1 0 ≤ b ∧ b ≤ 5000) ∨ ¬ (1 ≤ l ∧ l ≤ 500) ∨ ¬ (1 ≤ r ∧ r ≤ 200) then Ψ else if 12 ≤ Ψ.1.2.1.length then Ψ else ((Ψ.1.1, insL Ψ.1.2.1 (b, l, r), Ψ.1.2.2.1, Ψ.1.2.2.2), keepH Ψ.2.1 Ψ.1, Ψ.2.2)
set_option maxRecDepth 100000 in
set_option maxHeartbeats 4000000 in
theorem c_addShower (lc : Launch) (G : Gc) (E : Wd) (nh : Nat) {Ψ : Fs} {b0 l0 r0 : Int} (h : isX G E Ψ) (hk : okX Ψ) (hb0 : -2147483648 ≤ b0 ∧ b0 < 2147483648) (hl0 : -2147483648 ≤ l0 ∧ l0 < 2147483648) (hr0 : -2147483648 ≤ r0 ∧ r0 < 2147483648) : CI lc G 5 yX11_addShower cX11_addShower 4 .int [.ref (gb G + 0), .int (iI b0), .int (iI l0), .int (iI r0)] E nh 0 0 (fun w E' => w = vAdd Ψ b0 l0 r0 ∧ isX G E' (sAdd Ψ b0 l0 r0) ∧ Out E E' 0 124) := by
  refine CI.mk (by decide +kernel) rfl (Nat.le_of_ble_eq_true rfl) ?_
  intro X hG hL cx hR hI
  subst hG; subst hL
  show V X E (nh, 0, 0) 0 [some (.ref (gb (fG X) + 0)), some (.int (iI b0)), some (.int (iI l0)), some (.int (iI r0))] []
  obtain ⟨⟨s, sh, ge, mk⟩, hs, tx⟩ := Ψ
  have hX := h
  obtain ⟨hxr, hS, hH⟩ := h.split
  obtain ⟨⟨hsc, hse, hsh, hge, hmk⟩, -, -⟩ := hk
  simp only at hsc hse hsh hge hmk hS hH hxr
  obtain ⟨st, n, b, l, r, fc, fd, B, cr, cn, ng, gf, gs, nm, t, p, v, tk, fell, ⟨s0, s1, s2, s3, s4, s5, s6, s7⟩, q1, q2, q3, q4, q5, q6, q7, ⟨q8, q8n⟩, ⟨q9, q9n⟩, q10, q11⟩ := id hS
  simp only at q1 q2 q4 q5 q6 q7 q8 q9 q10 q11
  subst q2; subst q10
  have hx0 := hxr.1
  have ht0 := hsc.1
  have hH0 := hH.obj
  have bad : (¬ (s 0 ≤ b0 ∧ b0 ≤ 5000) ∨ ¬ (1 ≤ l0 ∧ l0 ≤ 500) ∨ ¬ (1 ≤ r0 ∧ r0 ≤ 200)) → V X E (nh, 0, 0) 39 [some (.ref (gb (fG X) + 0)), some (.int (iI b0)), some (.int (iI l0)), some (.int (iI r0))] [] := by
    intro hb
    refine v_iconst (pc := 39) cx dX11_addShower_39 ?_
    refine v_ireturn (pc := 40) cx hI rfl ?_ dX11_addShower_40
    unfold vAdd sAdd
    rw [if_pos hb, if_pos hb]
    exact ⟨rfl, hX, fun _ _ => rfl⟩
  refine v_iload_n (pc := 0) cx rfl ga1 dX11_addShower_0 ?_
  refine v_aload_n (pc := 1) cx rfl ga0 dX11_addShower_1 ?_
  refine v_getfield (pc := 2) cx flX11_10 (by assumption) gf0 dX11_addShower_2 ?_
  refine v_getfield (pc := 5) cx flX11_47 (by assumption) gf7 dX11_addShower_5 ?_
  refine v_sipush (pc := 8) cx (by decide) dX11_addShower_8 ?_
  refine v_callSI (pc := 11) cx hR (c_isWithin _ _ _ _ (by omega)) mlX11_51 (by decide) rfl (Nat.le_of_ble_eq_true rfl) ⟨Nat.le_refl _, Nat.le_refl _⟩ dX11_addShower_11 (fun r1 E1 hP => ?_)
  obtain ⟨w1, rfl⟩ := hP
  refine v_if_eq (pc := 14) cx 39 dX11_addShower_14 rfl (by omega) (fun c14 => ?_) (fun c14 => ?_)
  · exact bad (Or.inl (by omega))
  · refine v_iload_n (pc := 17) cx rfl ga2 dX11_addShower_17 ?_
    refine v_iconst (pc := 18) cx dX11_addShower_18 ?_
    refine v_sipush (pc := 19) cx (by decide) dX11_addShower_19 ?_
    refine v_callSI (pc := 22) cx hR (c_isWithin _ _ _ _ (by omega)) mlX11_51 (by decide) rfl (Nat.le_of_ble_eq_true rfl) ⟨Nat.le_refl _, Nat.le_refl _⟩ dX11_addShower_22 (fun r2 E2 hP => ?_)
    obtain ⟨w2, rfl⟩ := hP
    refine v_if_eq (pc := 25) cx 39 dX11_addShower_25 rfl (by omega) (fun c25 => ?_) (fun c25 => ?_)
    · exact bad (Or.inr (Or.inl (by omega)))
    · refine v_iload_n (pc := 28) cx rfl ga3 dX11_addShower_28 ?_
      refine v_iconst (pc := 29) cx dX11_addShower_29 ?_
      refine v_sipush (pc := 30) cx (by decide) dX11_addShower_30 ?_
      refine v_callSI (pc := 33) cx hR (c_isWithin _ _ _ _ (by omega)) mlX11_51 (by decide) rfl (Nat.le_of_ble_eq_true rfl) ⟨Nat.le_refl _, Nat.le_refl _⟩ dX11_addShower_33 (fun r3 E3 hP => ?_)
      obtain ⟨w3, rfl⟩ := hP
      refine v_if_ne (pc := 36) cx 41 dX11_addShower_36 rfl (by omega) (fun c36 => ?_) (fun c36 => ?_)
      · have hg : ¬ (¬ (s 0 ≤ b0 ∧ b0 ≤ 5000) ∨ ¬ (1 ≤ l0 ∧ l0 ≤ 500) ∨ ¬ (1 ≤ r0 ∧ r0 ≤ 200)) := by omega
        have s20 := s2.1
        refine v_aload_n (pc := 41) cx rfl ga0 dX11_addShower_41 ?_
        refine v_getfield (pc := 42) cx flX11_10 (by assumption) gf0 dX11_addShower_42 ?_
        refine v_getfield (pc := 45) cx flX11_55 (by assumption) gf1 dX11_addShower_45 ?_
        refine v_getfield (pc := 48) cx flX11_59 (by assumption) gf3 dX11_addShower_48 ?_
        refine v_bipush (pc := 51) cx (by decide) dX11_addShower_51 ?_
        refine v_icmp_lt (pc := 53) cx 59 dX11_addShower_53 rfl (by omega) (fun c53 => ?_) (fun c53 => ?_)
        · refine v_aload_n (pc := 59) cx rfl ga0 dX11_addShower_59 ?_
          refine v_getfield (pc := 60) cx flX11_22 (by assumption) gf2 dX11_addShower_60 ?_
          refine v_aload_n (pc := 63) cx rfl ga0 dX11_addShower_63 ?_
          refine v_getfield (pc := 64) cx flX11_10 (by assumption) gf0 dX11_addShower_64 ?_
          refine v_callVV (pc := 67) cx hR (c_Hi_keep _ _ _ _ hH hS (by omega)) mlX11_64 (by decide) (by assumption) rfl rfl rfl (Nat.le_of_ble_eq_true rfl) ⟨Nat.le_refl _, Nat.le_refl _⟩ dX11_addShower_67 (fun E4 hP => ?_)
          obtain ⟨hH4, hF⟩ := hP
          have hxr4 := hxr.out hF (by omega)
          replace s2 := s2.out (hF) (by omega)
          replace s6 := s6.out (hF) (by omega)
          replace s7 := s7.out (hF) (by omega)
          replace s0 := ((hF) _ (by omega)).trans s0
          replace s1 := ((hF) _ (by omega)).trans s1
          replace s3 := ((hF) _ (by omega)).trans s3
          replace s4 := ((hF) _ (by omega)).trans s4
          replace s5 := ((hF) _ (by omega)).trans s5
          have hx4 := hxr4.1
          have s20 := s2.1
          refine v_aload_n (pc := 70) cx rfl ga0 dX11_addShower_70 ?_
          refine v_getfield (pc := 71) cx flX11_10 (by assumption) gf0 dX11_addShower_71 ?_
          refine v_getfield (pc := 74) cx flX11_55 (by assumption) gf1 dX11_addShower_74 ?_
          refine v_iload_n (pc := 77) cx rfl ga1 dX11_addShower_77 ?_
          refine v_iload_n (pc := 78) cx rfl ga2 dX11_addShower_78 ?_
          refine v_iload_n (pc := 79) cx rfl ga3 dX11_addShower_79 ?_
          refine v_callVI (pc := 80) cx hR (c_Sh_insert _ _ _ _ s2 (by omega) hb0 (fun j hj => by have := okSh_at hsh j hj; omega)) mlX11_68 (by decide) (by assumption) rfl rfl rfl (Nat.le_of_ble_eq_true rfl) ⟨Nat.le_refl _, Nat.le_refl _⟩ dX11_addShower_80 (fun v5 E5 hP => ?_)
          obtain ⟨rfl, s2', hF5⟩ := hP
          have hxr5 := hxr4.out hF5 (by omega)
          refine v_ireturn (pc := 83) cx hI rfl ?_ dX11_addShower_83
          unfold vAdd sAdd
          rw [if_neg hg, if_neg hg]
          simp only [lst_len]
          rw [if_neg (by omega), if_neg (by omega), insI_lst, insL_lst]
          have hip := insP_le b b0 n
          refine ⟨rfl, isX.join hxr5 ⟨st, n + 1, _, _, _, fc, fd, B, cr, cn, ng, gf, gs, nm, t, p, v, s 0, fell, ⟨(hF5 _ (by omega)).trans s0, (hF5 _ (by omega)).trans s1, s2', (hF5 _ (by omega)).trans s3, (hF5 _ (by omega)).trans s4, (hF5 _ (by omega)).trans s5, s6.out hF5 (by omega), s7.out hF5 (by omega)⟩, q1, rfl, by omega, q4, q5, q6, q7, ⟨q8, q8n⟩, ⟨q9, q9n⟩, rfl, q11⟩ (hH4.out hF5 (by omega)), fun j hj => (hF5 j (by omega)).trans (hF j (by omega))⟩
        · refine v_bipush (pc := 56) cx (by decide) dX11_addShower_56 ?_
          refine v_ireturn (pc := 58) cx hI rfl ?_ dX11_addShower_58
          unfold vAdd sAdd
          rw [if_neg hg, if_neg hg]
          simp only [lst_len]
          rw [if_pos (by omega), if_pos (by omega)]
          exact ⟨rfl, hX, fun _ _ => rfl⟩
      · exact bad (Or.inr (Or.inr (by omega)))
def vCan (Ψ : Fs) (k : Int) : Int := if ¬ (0 ≤ k ∧ k < Ψ.1.2.1.length) then -1 else if k1 Ψ.1.2.1 k.toNat < Ψ.1.1 0 then -2 else (Ψ.1.2.1.length : Int) - 1
def sCan (Ψ : Fs) (k : Int) : Fs := if ¬ (0 ≤ k ∧ k < Ψ.1.2.1.length) then Ψ else if k1 Ψ.1.2.1 k.toNat < Ψ.1.1 0 then Ψ else ((Ψ.1.1, delL Ψ.1.2.1 k.toNat, Ψ.1.2.2.1, Ψ.1.2.2.2), keepH Ψ.2.1 Ψ.1, Ψ.2.2)
def vSho (Ψ : Fs) (k w : Int) : Int := if ¬ (0 ≤ k ∧ k < Ψ.1.2.1.length) ∨ ¬ (0 ≤ w ∧ w ≤ 3) then -1 else if w = 0 then k1 Ψ.1.2.1 k.toNat else if w = 1 then k2 Ψ.1.2.1 k.toNat else if w = 2 then k3 Ψ.1.2.1 k.toNat else k1 Ψ.1.2.1 k.toNat + k2 Ψ.1.2.1 k.toNat - max (k1 Ψ.1.2.1 k.toNat) (Ψ.1.1 0)
set_option maxRecDepth 100000 in
set_option maxHeartbeats 4000000 in
theorem c_shower (lc : Launch) (G : Gc) (E : Wd) (nh : Nat) {Ψ : Fs} {k w : Int} (h : isX G E Ψ) (hk : okX Ψ) (hb0 : -2147483648 ≤ k ∧ k < 2147483648) (hw : -2147483648 ≤ w ∧ w < 2147483648) : CI lc G 5 yX11_shower cX11_shower 3 .int [.ref (gb G + 0), .int (iI k), .int (iI w)] E nh 0 0 (fun r E' => r = vSho Ψ k w ∧ E' = E) := by
  refine CI.mk (by decide +kernel) rfl (Nat.le_of_ble_eq_true rfl) ?_
  intro X hG hL cx hR hI
  subst hG; subst hL
  show V X E (nh, 0, 0) 0 [some (.ref (gb (fG X) + 0)), some (.int (iI k)), some (.int (iI w))] []
  obtain ⟨⟨s, sh, ge, mk⟩, hs, tx⟩ := Ψ
  obtain ⟨hxr, hS, hH⟩ := h.split
  obtain ⟨⟨hsc, hse, hsh, hge, hmk⟩, -, -⟩ := hk
  simp only at hsc hse hsh hge hmk hS hH hxr
  obtain ⟨st, n, b, l, r, fc, fd, B, cr, cn, ng, gf, gs, nm, t, p, v, tk, fell, ⟨s0, s1, s2, s3, s4, s5, s6, s7⟩, q1, q2, q3, q4, q5, q6, q7, ⟨q8, q8n⟩, ⟨q9, q9n⟩, q10, q11⟩ := id hS
  simp only at q1 q2 q4 q5 q6 q7 q8 q9 q10 q11
  subst q2; subst q10
  have hx0 := hxr.1
  have ht0 := hsc.1
  obtain ⟨s20, s21, s22, s23⟩ := id s2
  refine v_aload_n (pc := 0) cx rfl ga0 dX11_shower_0 ?_
  refine v_getfield (pc := 1) cx flX11_10 (by assumption) gf0 dX11_shower_1 ?_
  refine v_getfield (pc := 4) cx flX11_55 (by assumption) gf1 dX11_shower_4 ?_
  refine v_iload_n (pc := 7) cx rfl ga1 dX11_shower_7 ?_
  refine v_callVI (pc := 8) cx hR (c_Sh_has _ _ _ _ s2 (by omega) hb0) mlX11_72 (by decide) (by assumption) rfl rfl rfl (Nat.le_of_ble_eq_true rfl) ⟨Nat.le_refl _, Nat.le_refl _⟩ dX11_shower_8 (fun r1 E1 hP => ?_)
  obtain ⟨w1, rfl⟩ := hP
  refine v_if_ne (pc := 11) cx 16 dX11_shower_11 rfl (by omega) (fun c11 => ?_) (fun c11 => ?_)
  · obtain ⟨kn, rfl⟩ := Int.eq_ofNat_of_zero_le (show 0 ≤ k by omega)
    have hbk := okSh_at hsh kn (by omega)
    have e := k_lst (b := b) (l := l) (r := r) (show kn < n by omega)
    refine v_iload_n (pc := 16) cx rfl ga2 dX11_shower_16 ?_
    rcases (show w = 0 ∨ w = 1 ∨ w = 2 ∨ w = 3 ∨ (w < 0 ∨ 3 < w) by omega) with rfl | rfl | rfl | rfl | hw2
    · refine v_tableIn (pc := 17) cx 48 dX11_shower_17 (by omega) rfl rfl ?_
      refine v_aload_n (pc := 48) cx rfl ga0 dX11_shower_48 ?_
      refine v_getfield (pc := 49) cx flX11_10 (by assumption) gf0 dX11_shower_49 ?_
      refine v_getfield (pc := 52) cx flX11_55 (by assumption) gf1 dX11_shower_52 ?_
      refine v_getfield (pc := 55) cx flX11_76 (by assumption) gf0 dX11_shower_55 ?_
      refine v_iload_n (pc := 58) cx rfl ga1 dX11_shower_58 ?_
      refine v_iaload (pc := 59) cx (kn) (by assumption) (by omega) dX11_shower_59 ?_
      refine v_ireturn (pc := 60) cx hI rfl ?_ dX11_shower_60
      refine ⟨?_, rfl⟩
      unfold vSho
      simp only [lst_len, Int.toNat_natCast, e.1, e.2.1, e.2.2]
      rw [if_neg (by omega)]
      rfl
    · refine v_tableIn (pc := 17) cx 61 dX11_shower_17 (by omega) rfl rfl ?_
      refine v_aload_n (pc := 61) cx rfl ga0 dX11_shower_61 ?_
      refine v_getfield (pc := 62) cx flX11_10 (by assumption) gf0 dX11_shower_62 ?_
      refine v_getfield (pc := 65) cx flX11_55 (by assumption) gf1 dX11_shower_65 ?_
      refine v_getfield (pc := 68) cx flX11_84 (by assumption) gf1 dX11_shower_68 ?_
      refine v_iload_n (pc := 71) cx rfl ga1 dX11_shower_71 ?_
      refine v_iaload (pc := 72) cx (kn) (by assumption) (by omega) dX11_shower_72 ?_
      refine v_ireturn (pc := 73) cx hI rfl ?_ dX11_shower_73
      refine ⟨?_, rfl⟩
      unfold vSho
      simp only [lst_len, Int.toNat_natCast, e.1, e.2.1, e.2.2]
      rw [if_neg (by omega)]
      rfl
    · refine v_tableIn (pc := 17) cx 74 dX11_shower_17 (by omega) rfl rfl ?_
      refine v_aload_n (pc := 74) cx rfl ga0 dX11_shower_74 ?_
      refine v_getfield (pc := 75) cx flX11_10 (by assumption) gf0 dX11_shower_75 ?_
      refine v_getfield (pc := 78) cx flX11_55 (by assumption) gf1 dX11_shower_78 ?_
      refine v_getfield (pc := 81) cx flX11_87 (by assumption) gf2 dX11_shower_81 ?_
      refine v_iload_n (pc := 84) cx rfl ga1 dX11_shower_84 ?_
      refine v_iaload (pc := 85) cx (kn) (by assumption) (by omega) dX11_shower_85 ?_
      refine v_ireturn (pc := 86) cx hI rfl ?_ dX11_shower_86
      refine ⟨?_, rfl⟩
      unfold vSho
      simp only [lst_len, Int.toNat_natCast, e.1, e.2.1, e.2.2]
      rw [if_neg (by omega)]
      rfl
    · refine v_tableIn (pc := 17) cx 87 dX11_shower_17 (by omega) rfl rfl ?_
      refine v_aload_n (pc := 87) cx rfl ga0 dX11_shower_87 ?_
      refine v_getfield (pc := 88) cx flX11_10 (by assumption) gf0 dX11_shower_88 ?_
      refine v_getfield (pc := 91) cx flX11_55 (by assumption) gf1 dX11_shower_91 ?_
      refine v_iload_n (pc := 94) cx rfl ga1 dX11_shower_94 ?_
      refine v_aload_n (pc := 95) cx rfl ga0 dX11_shower_95 ?_
      refine v_getfield (pc := 96) cx flX11_10 (by assumption) gf0 dX11_shower_96 ?_
      refine v_getfield (pc := 99) cx flX11_47 (by assumption) gf7 dX11_shower_99 ?_
      refine v_callVI (pc := 102) cx hR (c_Sh_ticksToCome _ _ _ _ s2 (by omega) (by omega) (by omega) (fun j hj => ⟨(okSh_at hsh j hj).1, (okSh_at hsh j hj).2.1⟩)) mlX11_90 (by decide) (by assumption) rfl rfl rfl (Nat.le_of_ble_eq_true rfl) ⟨Nat.le_refl _, Nat.le_refl _⟩ dX11_shower_102 (fun v5 E5 hP => ?_)
      obtain ⟨rfl, rfl⟩ := hP
      refine v_ireturn (pc := 105) cx hI rfl ?_ dX11_shower_105
      refine ⟨?_, rfl⟩
      unfold vSho
      simp only [lst_len, Int.toNat_natCast, e.1, e.2.1, e.2.2]
      rw [if_neg (by omega)]
      rfl
    · refine v_tableOut (pc := 17) cx 106 dX11_shower_17 (by omega) rfl ?_
      refine v_iconst (pc := 106) cx dX11_shower_106 ?_
      refine v_ireturn (pc := 107) cx hI rfl ?_ dX11_shower_107
      refine ⟨?_, rfl⟩
      unfold vSho
      simp only [lst_len]
      rw [if_pos (by omega)]
  · refine v_iconst (pc := 14) cx dX11_shower_14 ?_
    refine v_ireturn (pc := 15) cx hI rfl ?_ dX11_shower_15
    refine ⟨?_, rfl⟩
    unfold vSho
    simp only [lst_len]
    rw [if_pos (by omega)]
def eTk (Ψ : Fs) (k : Int) : Int := if ¬ (1 ≤ k ∧ k ≤ 1000) then -1 else if 5000 < Ψ.1.1 0 + k then -3 else 0
set_option maxRecDepth 100000 in
set_option maxHeartbeats 4000000 in
theorem c_errorOfTicks (lc : Launch) (G : Gc) (E : Wd) (nh : Nat) {Ψ : Fs} {k : Int} (h : isX G E Ψ) (hk : okX Ψ) (hb0 : -2147483648 ≤ k ∧ k < 2147483648) : CI lc G 1 yX11_errorOfTicks cX11_errorOfTicks 2 .int [.ref (gb G + 0), .int (iI k)] E nh 0 0 (fun r E' => r = eTk Ψ k ∧ E' = E) := by
  refine CI.mk (by decide +kernel) rfl (Nat.le_of_ble_eq_true rfl) ?_
  intro X hG hL cx hR hI
  subst hG; subst hL
  show V X E (nh, 0, 0) 0 [some (.ref (gb (fG X) + 0)), some (.int (iI k))] []
  obtain ⟨⟨s, sh, ge, mk⟩, hs, tx⟩ := Ψ
  obtain ⟨hxr, hS, hH⟩ := h.split
  obtain ⟨⟨hsc, hse, hsh, hge, hmk⟩, -, -⟩ := hk
  simp only at hsc hse hsh hge hmk hS hH hxr
  obtain ⟨st, n, b, l, r, fc, fd, B, cr, cn, ng, gf, gs, nm, t, p, v, tk, fell, ⟨s0, s1, s2, s3, s4, s5, s6, s7⟩, q1, q2, q3, q4, q5, q6, q7, ⟨q8, q8n⟩, ⟨q9, q9n⟩, q10, q11⟩ := id hS
  simp only at q10
  subst q10
  have hx0 := hxr.1
  have ht0 := hsc.1
  refine v_iload_n (pc := 0) cx rfl ga1 dX11_errorOfTicks_0 ?_
  refine v_iconst (pc := 1) cx dX11_errorOfTicks_1 ?_
  refine v_sipush (pc := 2) cx (by decide) dX11_errorOfTicks_2 ?_
  refine v_callSI (pc := 5) cx hR (c_isWithin _ _ _ _ (by omega)) mlX11_51 (by decide) rfl (Nat.le_of_ble_eq_true rfl) ⟨Nat.le_refl _, Nat.le_refl _⟩ dX11_errorOfTicks_5 (fun r1 E1 hP => ?_)
  obtain ⟨w1, rfl⟩ := hP
  refine v_if_ne (pc := 8) cx 13 dX11_errorOfTicks_8 rfl (by omega) (fun c8 => ?_) (fun c8 => ?_)
  · refine v_aload_n (pc := 13) cx rfl ga0 dX11_errorOfTicks_13 ?_
    refine v_getfield (pc := 14) cx flX11_10 (by assumption) gf0 dX11_errorOfTicks_14 ?_
    refine v_getfield (pc := 17) cx flX11_47 (by assumption) gf7 dX11_errorOfTicks_17 ?_
    refine v_iload_n (pc := 20) cx rfl ga1 dX11_errorOfTicks_20 ?_
    refine v_iadd (pc := 21) cx dX11_errorOfTicks_21 ?_
    refine v_sipush (pc := 22) cx (by decide) dX11_errorOfTicks_22 ?_
    refine v_icmp_le (pc := 25) cx 33 dX11_errorOfTicks_25 rfl (by omega) (fun c25 => ?_) (fun c25 => ?_)
    · refine v_iconst (pc := 33) cx dX11_errorOfTicks_33 ?_
      refine v_ireturn (pc := 34) cx hI rfl ?_ dX11_errorOfTicks_34
      refine ⟨?_, rfl⟩
      unfold eTk
      simp only
      rw [if_neg (by omega), if_neg (by omega)]
    · refine v_bipush (pc := 28) cx (by decide) dX11_errorOfTicks_28 ?_
      refine v_goto (pc := 30) cx 34 dX11_errorOfTicks_30 rfl ?_
      refine v_ireturn (pc := 34) cx hI rfl ?_ dX11_errorOfTicks_34
      refine ⟨?_, rfl⟩
      unfold eTk
      simp only
      rw [if_neg (by omega), if_pos (by omega)]
  · refine v_iconst (pc := 11) cx dX11_errorOfTicks_11 ?_
    refine v_ireturn (pc := 12) cx hI rfl ?_ dX11_errorOfTicks_12
    refine ⟨?_, rfl⟩
    unfold eTk
    rw [if_pos (by omega)]
theorem eTk_0 {Ψ : Fs} {k : Int} (h : eTk Ψ k = 0) : 1 ≤ k ∧ k ≤ 1000 ∧ Ψ.1.1 0 + k ≤ 5000 := by
  unfold eTk at h
  split at h
  · omega
  · split at h <;> omega
theorem eTk_bd {Ψ : Fs} {k : Int} : -3 ≤ eTk Ψ k ∧ eTk Ψ k ≤ 0 := by
  unfold eTk
  split
  · omega
  · split <;> omega
def vRun (Ψ : Fs) (k : Int) : Int := if eTk Ψ k = 0 then (tips Ψ.1 k.toNat : Int) else eTk Ψ k
def sRun (Ψ : Fs) (k : Int) : Fs := if eTk Ψ k = 0 then (ticks Ψ.1 k.toNat, keepH Ψ.2.1 Ψ.1, Ψ.2.2) else Ψ
set_option maxRecDepth 100000 in
set_option maxHeartbeats 4000000 in
theorem c_run (lc : Launch) (G : Gc) (E : Wd) (nh : Nat) {Ψ : Fs} {k : Int} (h : isX G E Ψ) (hk : okX Ψ) (hb0 : -2147483648 ≤ k ∧ k < 2147483648) : CI lc G 5 yX11_run cX11_run 3 .int [.ref (gb G + 0), .int (iI k)] E nh 0 0 (fun w E' => w = vRun Ψ k ∧ isX G E' (sRun Ψ k) ∧ Out E E' 0 124) := by
  refine CI.mk (by decide +kernel) rfl (Nat.le_of_ble_eq_true rfl) ?_
  intro X hG hL cx hR hI
  subst hG; subst hL
  show V X E (nh, 0, 0) 0 [some (.ref (gb (fG X) + 0)), some (.int (iI k)), none] []
  have hX := h
  obtain ⟨hxr, hS, hH⟩ := h.split
  have hx0 := hxr.1
  have hH0 := hH.obj
  obtain ⟨fs, hfs⟩ := hS.obj
  have hed := eTk_bd (Ψ := Ψ) (k := k)
  refine v_aload_n (pc := 0) cx rfl ga0 dX11_run_0 ?_
  refine v_iload_n (pc := 1) cx rfl ga1 dX11_run_1 ?_
  refine v_callVI (pc := 2) cx hR (c_errorOfTicks _ _ _ _ h hk hb0) mlX11_94 (by decide) (by assumption) rfl rfl rfl (Nat.le_of_ble_eq_true rfl) ⟨Nat.le_refl _, Nat.le_refl _⟩ dX11_run_2 (fun r1 E1 hP => ?_)
  obtain ⟨rfl, rfl⟩ := hP
  refine v_istore_n (pc := 5) cx rfl (sa2 rfl) dX11_run_5 ?_
  refine v_iload_n (pc := 6) cx rfl ga2 dX11_run_6 ?_
  refine v_if_eq (pc := 7) cx 12 dX11_run_7 rfl (by omega) (fun c7 => ?_) (fun c7 => ?_)
  · obtain ⟨e1, e2, e3⟩ := eTk_0 (by assumption)
    obtain ⟨kn, rfl⟩ := Int.eq_ofNat_of_zero_le (show 0 ≤ k by omega)
    refine v_aload_n (pc := 12) cx rfl ga0 dX11_run_12 ?_
    refine v_getfield (pc := 13) cx flX11_22 (by assumption) gf2 dX11_run_13 ?_
    refine v_aload_n (pc := 16) cx rfl ga0 dX11_run_16 ?_
    refine v_getfield (pc := 17) cx flX11_10 (by assumption) gf0 dX11_run_17 ?_
    refine v_callVV (pc := 20) cx hR (c_Hi_keep _ _ _ _ hH hS (by omega)) mlX11_64 (by decide) (by assumption) rfl rfl rfl (Nat.le_of_ble_eq_true rfl) ⟨Nat.le_refl _, Nat.le_refl _⟩ dX11_run_20 (fun E4 hP => ?_)
    obtain ⟨hH4, hF⟩ := hP
    have hxr4 := hxr.out hF (by omega)
    have hS4 := hS.out hF (by omega)
    have hx4 := hxr4.1
    obtain ⟨fs4, hfs4⟩ := hS4.obj
    refine v_aload_n (pc := 23) cx rfl ga0 dX11_run_23 ?_
    refine v_getfield (pc := 24) cx flX11_10 (by assumption) gf0 dX11_run_24 ?_
    refine v_iload_n (pc := 27) cx rfl ga1 dX11_run_27 ?_
    refine v_callVI (pc := 28) cx hR (c_St_passTicks _ _ _ _ hS4 hk.1 (by omega) (by omega)) mlX11_98 (by decide) (by assumption) rfl rfl rfl (Nat.le_of_ble_eq_true rfl) ⟨Nat.le_refl _, Nat.le_refl _⟩ dX11_run_28 (fun v5 E5 hP => ?_)
    obtain ⟨rfl, hS5, hF5⟩ := hP
    refine v_ireturn (pc := 31) cx hI rfl ?_ dX11_run_31
    unfold vRun sRun
    rw [if_pos (by assumption), if_pos (by assumption), Int.toNat_natCast]
    exact ⟨rfl, isX.join (hxr4.out hF5 (by omega)) hS5 (hH4.out hF5 (by omega)), fun j hj => (hF5 j (by omega)).trans (hF j (by omega))⟩
  · refine v_iload_n (pc := 10) cx rfl ga2 dX11_run_10 ?_
    refine v_ireturn (pc := 11) cx hI rfl ?_ dX11_run_11
    unfold vRun sRun
    rw [if_neg (by assumption), if_neg (by assumption)]
    exact ⟨rfl, hX, fun _ _ => rfl⟩
def vUnd (Ψ : Fs) : Int := if Ψ.2.1.length = 0 then -2 else (Ψ.2.1.length : Int) - 1
def sUnd (Ψ : Fs) : Fs := match Ψ.2.1.getLast? with
  | none => Ψ
  | some τ => (τ, Ψ.2.1.dropLast, Ψ.2.2)
set_option maxRecDepth 100000 in
set_option maxHeartbeats 4000000 in
theorem c_undo (lc : Launch) (G : Gc) (E : Wd) (nh : Nat) {Ψ : Fs} (h : isX G E Ψ) (hk : okX Ψ) : CI lc G 5 yX11_undo cX11_undo 1 .int [.ref (gb G + 0)] E nh 0 0 (fun w E' => w = vUnd Ψ ∧ isX G E' (sUnd Ψ) ∧ Out E E' 0 124) := by
  refine CI.mk (by decide +kernel) rfl (Nat.le_of_ble_eq_true rfl) ?_
  intro X hG hL cx hR hI
  subst hG; subst hL
  show V X E (nh, 0, 0) 0 [some (.ref (gb (fG X) + 0))] []
  obtain ⟨σ, hs, tx⟩ := Ψ
  have hX := h
  obtain ⟨hxr, hS, hH⟩ := h.split
  simp only at hS hH hxr
  have hx0 := hxr.1
  have hH0 := hH.obj
  obtain ⟨fs, hfs⟩ := hS.obj
  have hl5 := hk.2.1.1
  simp only at hl5
  refine v_aload_n (pc := 0) cx rfl ga0 dX11_undo_0 ?_
  refine v_getfield (pc := 1) cx flX11_22 (by assumption) gf2 dX11_undo_1 ?_
  refine v_getfield (pc := 4) cx flX11_101 (by assumption) gf1 dX11_undo_4 ?_
  refine v_if_ne (pc := 7) cx 13 dX11_undo_7 rfl (by omega) (fun c7 => ?_) (fun c7 => ?_)
  · have hne : hs ≠ [] := fun q => by subst q; simp at c7
    have hcat : hs = hs.dropLast ++ [hs.getLast hne] := (List.dropLast_concat_getLast hne).symm
    have hlen : hs.dropLast.length = hs.length - 1 := List.length_dropLast
    refine v_aload_n (pc := 13) cx rfl ga0 dX11_undo_13 ?_
    refine v_getfield (pc := 14) cx flX11_22 (by assumption) gf2 dX11_undo_14 ?_
    refine v_aload_n (pc := 17) cx rfl ga0 dX11_undo_17 ?_
    refine v_getfield (pc := 18) cx flX11_10 (by assumption) gf0 dX11_undo_18 ?_
    refine v_callVV (pc := 21) cx hR (c_Hi_restore _ _ _ _ (by rw [← hcat]; exact hH) hS (by omega)) mlX11_102 (by decide) (by assumption) rfl rfl rfl (Nat.le_of_ble_eq_true rfl) ⟨Nat.le_refl _, Nat.le_refl _⟩ dX11_undo_21 (fun E4 hP => ?_)
    obtain ⟨hH4, hS4, hF⟩ := hP
    obtain ⟨x0, ⟨τ, x1⟩, ⟨a1, a2, a3, x2⟩, x3, ⟨b1, b2, b3, b4, b5, b6, b7, x4⟩⟩ := hxr
    have y0 : E4 0 = _ := (hF 0 (by omega) (by omega)).trans x0
    have hH40 := hH4.obj
    refine v_aload_n (pc := 24) cx rfl ga0 dX11_undo_24 ?_
    refine v_getfield (pc := 25) cx flX11_22 (by assumption) gf2 dX11_undo_25 ?_
    refine v_getfield (pc := 28) cx flX11_101 (by assumption) gf1 dX11_undo_28 ?_
    refine v_ireturn (pc := 31) cx hI rfl ?_ dX11_undo_31
    have hO : Out E E4 1 34 := fun j hj => hF j (by omega) (by omega)
    have hO1 : isS (fG X) E4 17 τ := by
      obtain ⟨st, n, b, l, r, fc, fd, B, cr, cn, ng, gf, gs, nm, t, p, v, tk, fell, ⟨s0, s1, s2, s3, s4, s5, s6, s7⟩, hq⟩ := x1
      exact ⟨st, n, b, l, r, fc, fd, B, cr, cn, ng, gf, gs, nm, t, p, v, tk, fell, ⟨(hF _ (by omega) (by omega)).trans s0, (hF _ (by omega) (by omega)).trans s1, ⟨(hF _ (by omega) (by omega)).trans s2.1, (hF _ (by omega) (by omega)).trans s2.2.1, (hF _ (by omega) (by omega)).trans s2.2.2.1, (hF _ (by omega) (by omega)).trans s2.2.2.2⟩, (hF _ (by omega) (by omega)).trans s3, (hF _ (by omega) (by omega)).trans s4, (hF _ (by omega) (by omega)).trans s5, ⟨(hF _ (by omega) (by omega)).trans s6.1, (hF _ (by omega) (by omega)).trans s6.2.1, (hF _ (by omega) (by omega)).trans s6.2.2⟩, ⟨(hF _ (by omega) (by omega)).trans s7.1, (hF _ (by omega) (by omega)).trans s7.2.1, (hF _ (by omega) (by omega)).trans s7.2.2.1, (hF _ (by omega) (by omega)).trans s7.2.2.2⟩⟩, hq⟩
    refine ⟨?_, ?_, fun j hj => hO j (by omega)⟩
    · unfold vUnd
      simp only
      rw [if_neg (fun q => hne (List.length_eq_zero_iff.mp q)), hlen]
      have : 1 ≤ hs.length := by omega
      omega
    · unfold sUnd
      simp only
      rw [List.getLast?_eq_some_getLast hne]
      simp only
      exact ⟨y0, hS4, ⟨τ, hO1⟩, hH4, ⟨a1, a2, a3, x2.out hO (by omega)⟩, x3.out hO (by omega), ⟨b1, b2, b3, b4, b5, b6, b7, x4.out hO (by omega)⟩⟩
  · refine v_bipush (pc := 10) cx (by decide) dX11_undo_10 ?_
    refine v_ireturn (pc := 12) cx hI rfl ?_ dX11_undo_12
    have e : hs = [] := List.length_eq_zero_iff.mp (by omega)
    subst e
    exact ⟨rfl, hX, fun _ _ => rfl⟩
