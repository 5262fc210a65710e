theorem lst2_succ {f s : Nat → Int} {m : Nat} : lst2 f s (m + 1) = lst2 f s m ++ [(f m, s m)] := by
  simp [lst2, List.range_succ]
set_option maxRecDepth 100000 in
set_option maxHeartbeats 4000000 in
theorem m_isSetting (lc : Launch) (G : Gc) (E : Wd) (nh : Nat) {w x : Int} (hw : -2147483648 ≤ w ∧ w < 2147483648) (hx : -2147483648 ≤ x ∧ x < 2147483648) : CI lc G 1 yX12_isSetting cX12_isSetting 2 .boolean [.int (iI w), .int (iI x)] E nh 0 0 (fun v E' => ((v = 1 ∧ (0 ≤ w ∧ w ≤ 7) ∧ (tbV 0 w.toNat ≤ x ∧ x ≤ tbV 1 w.toNat)) ∨ (v = 0 ∧ (¬ (0 ≤ w ∧ w ≤ 7) ∨ ¬ (tbV 0 w.toNat ≤ x ∧ x ≤ tbV 1 w.toNat)))) ∧ E' = E) := by
  refine CI.mk (by decide +kernel) rfl (Nat.le_of_ble_eq_true rfl) ?_
  intro X hG hL cx hR hI
  subst hG; subst hL
  show V X E (nh, 0, 0) 0 [some (.int (iI w)), some (.int (iI x))] []
  have hnt : ∀ v1 : Int, (v1 = 0 ∨ v1 = 1) → narrow .boolean (.int (iI v1)) = .int (iI v1) := by intro v1 hv; rcases hv with rfl | rfl <;> rfl
  have t0 : tbV 0 0 = 20 ∧ tbV 1 0 = 500 := by decide
  have t1 : tbV 0 1 = 0 ∧ tbV 1 1 = 20 := by decide
  have t2 : tbV 0 2 = 0 ∧ tbV 1 2 = 200 := by decide
  have t3 : tbV 0 3 = 0 ∧ tbV 1 3 = 50 := by decide
  have t4 : tbV 0 4 = 0 ∧ tbV 1 4 = 50 := by decide
  have t5 : tbV 0 5 = 10 ∧ tbV 1 5 = 1000 := by decide
  have t6 : tbV 0 6 = 1 ∧ tbV 1 6 = 2000 := by decide
  have t7 : tbV 0 7 = 1 ∧ tbV 1 7 = 1000 := by decide
  refine v_iload_n (pc := 0) cx rfl ga0 dX12_isSetting_0 ?_
  rcases (show w = 0 ∨ w = 1 ∨ w = 2 ∨ w = 3 ∨ w = 4 ∨ w = 5 ∨ w = 6 ∨ w = 7 ∨ (w < 0 ∨ 7 < w) by omega) with rfl | rfl | rfl | rfl | rfl | rfl | rfl | rfl | hw2
  · refine v_tableIn (pc := 1) cx 48 dX12_isSetting_1 (by omega) rfl rfl ?_
    refine v_iload_n (pc := 48) cx rfl ga1 dX12_isSetting_48 ?_
    refine v_bipush (pc := 49) cx (by decide) dX12_isSetting_49 ?_
    refine v_sipush (pc := 51) cx (by decide) dX12_isSetting_51 ?_
    refine v_callSI (pc := 54) cx hR (m_in _ _ _ _ (by omega)) mlX12_33 (by decide) rfl (Nat.le_of_ble_eq_true rfl) ⟨Nat.le_refl _, Nat.le_refl _⟩ dX12_isSetting_54 (fun v1 E1 hP => ?_)
    obtain ⟨hv, rfl⟩ := hP
    refine v_ireturn (pc := 57) cx hI (hnt v1 (by omega)) ⟨?_, rfl⟩ dX12_isSetting_57
    have e : (0 : Int).toNat = 0 := rfl
    rw [e]
    omega
  · refine v_tableIn (pc := 1) cx 58 dX12_isSetting_1 (by omega) rfl rfl ?_
    refine v_iload_n (pc := 58) cx rfl ga1 dX12_isSetting_58 ?_
    refine v_iconst (pc := 59) cx dX12_isSetting_59 ?_
    refine v_bipush (pc := 60) cx (by decide) dX12_isSetting_60 ?_
    refine v_callSI (pc := 62) cx hR (m_in _ _ _ _ (by omega)) mlX12_33 (by decide) rfl (Nat.le_of_ble_eq_true rfl) ⟨Nat.le_refl _, Nat.le_refl _⟩ dX12_isSetting_62 (fun v1 E1 hP => ?_)
    obtain ⟨hv, rfl⟩ := hP
    refine v_ireturn (pc := 65) cx hI (hnt v1 (by omega)) ⟨?_, rfl⟩ dX12_isSetting_65
    have e : (1 : Int).toNat = 1 := rfl
    rw [e]
    omega
  · refine v_tableIn (pc := 1) cx 66 dX12_isSetting_1 (by omega) rfl rfl ?_
    refine v_iload_n (pc := 66) cx rfl ga1 dX12_isSetting_66 ?_
    refine v_iconst (pc := 67) cx dX12_isSetting_67 ?_
    refine v_sipush (pc := 68) cx (by decide) dX12_isSetting_68 ?_
    refine v_callSI (pc := 71) cx hR (m_in _ _ _ _ (by omega)) mlX12_33 (by decide) rfl (Nat.le_of_ble_eq_true rfl) ⟨Nat.le_refl _, Nat.le_refl _⟩ dX12_isSetting_71 (fun v1 E1 hP => ?_)
    obtain ⟨hv, rfl⟩ := hP
    refine v_ireturn (pc := 74) cx hI (hnt v1 (by omega)) ⟨?_, rfl⟩ dX12_isSetting_74
    have e : (2 : Int).toNat = 2 := rfl
    rw [e]
    omega
  · refine v_tableIn (pc := 1) cx 75 dX12_isSetting_1 (by omega) rfl rfl ?_
    refine v_iload_n (pc := 75) cx rfl ga1 dX12_isSetting_75 ?_
    refine v_iconst (pc := 76) cx dX12_isSetting_76 ?_
    refine v_bipush (pc := 77) cx (by decide) dX12_isSetting_77 ?_
    refine v_callSI (pc := 79) cx hR (m_in _ _ _ _ (by omega)) mlX12_33 (by decide) rfl (Nat.le_of_ble_eq_true rfl) ⟨Nat.le_refl _, Nat.le_refl _⟩ dX12_isSetting_79 (fun v1 E1 hP => ?_)
    obtain ⟨hv, rfl⟩ := hP
    refine v_ireturn (pc := 82) cx hI (hnt v1 (by omega)) ⟨?_, rfl⟩ dX12_isSetting_82
    have e : (3 : Int).toNat = 3 := rfl
    rw [e]
    omega
  · refine v_tableIn (pc := 1) cx 75 dX12_isSetting_1 (by omega) rfl rfl ?_
    refine v_iload_n (pc := 75) cx rfl ga1 dX12_isSetting_75 ?_
    refine v_iconst (pc := 76) cx dX12_isSetting_76 ?_
    refine v_bipush (pc := 77) cx (by decide) dX12_isSetting_77 ?_
    refine v_callSI (pc := 79) cx hR (m_in _ _ _ _ (by omega)) mlX12_33 (by decide) rfl (Nat.le_of_ble_eq_true rfl) ⟨Nat.le_refl _, Nat.le_refl _⟩ dX12_isSetting_79 (fun v1 E1 hP => ?_)
    obtain ⟨hv, rfl⟩ := hP
    refine v_ireturn (pc := 82) cx hI (hnt v1 (by omega)) ⟨?_, rfl⟩ dX12_isSetting_82
    have e : (4 : Int).toNat = 4 := rfl
    rw [e]
    omega
  · refine v_tableIn (pc := 1) cx 83 dX12_isSetting_1 (by omega) rfl rfl ?_
    refine v_iload_n (pc := 83) cx rfl ga1 dX12_isSetting_83 ?_
    refine v_bipush (pc := 84) cx (by decide) dX12_isSetting_84 ?_
    refine v_sipush (pc := 86) cx (by decide) dX12_isSetting_86 ?_
    refine v_callSI (pc := 89) cx hR (m_in _ _ _ _ (by omega)) mlX12_33 (by decide) rfl (Nat.le_of_ble_eq_true rfl) ⟨Nat.le_refl _, Nat.le_refl _⟩ dX12_isSetting_89 (fun v1 E1 hP => ?_)
    obtain ⟨hv, rfl⟩ := hP
    refine v_ireturn (pc := 92) cx hI (hnt v1 (by omega)) ⟨?_, rfl⟩ dX12_isSetting_92
    have e : (5 : Int).toNat = 5 := rfl
    rw [e]
    omega
  · refine v_tableIn (pc := 1) cx 93 dX12_isSetting_1 (by omega) rfl rfl ?_
    refine v_iload_n (pc := 93) cx rfl ga1 dX12_isSetting_93 ?_
    refine v_iconst (pc := 94) cx dX12_isSetting_94 ?_
    refine v_sipush (pc := 95) cx (by decide) dX12_isSetting_95 ?_
    refine v_callSI (pc := 98) cx hR (m_in _ _ _ _ (by omega)) mlX12_33 (by decide) rfl (Nat.le_of_ble_eq_true rfl) ⟨Nat.le_refl _, Nat.le_refl _⟩ dX12_isSetting_98 (fun v1 E1 hP => ?_)
    obtain ⟨hv, rfl⟩ := hP
    refine v_ireturn (pc := 101) cx hI (hnt v1 (by omega)) ⟨?_, rfl⟩ dX12_isSetting_101
    have e : (6 : Int).toNat = 6 := rfl
    rw [e]
    omega
  · refine v_tableIn (pc := 1) cx 102 dX12_isSetting_1 (by omega) rfl rfl ?_
    refine v_iload_n (pc := 102) cx rfl ga1 dX12_isSetting_102 ?_
    refine v_iconst (pc := 103) cx dX12_isSetting_103 ?_
    refine v_sipush (pc := 104) cx (by decide) dX12_isSetting_104 ?_
    refine v_callSI (pc := 107) cx hR (m_in _ _ _ _ (by omega)) mlX12_33 (by decide) rfl (Nat.le_of_ble_eq_true rfl) ⟨Nat.le_refl _, Nat.le_refl _⟩ dX12_isSetting_107 (fun v1 E1 hP => ?_)
    obtain ⟨hv, rfl⟩ := hP
    refine v_ireturn (pc := 110) cx hI (hnt v1 (by omega)) ⟨?_, rfl⟩ dX12_isSetting_110
    have e : (7 : Int).toNat = 7 := rfl
    rw [e]
    omega
  · refine v_tableOut (pc := 1) cx 111 dX12_isSetting_1 (by omega) rfl ?_
    refine v_iconst (pc := 111) cx dX12_isSetting_111 ?_
    refine v_ireturn (pc := 112) cx hI rfl ?_ dX12_isSetting_112
    exact ⟨Or.inr ⟨rfl, Or.inl (by omega)⟩, rfl⟩
set_option maxRecDepth 100000 in
set_option maxHeartbeats 4000000 in
theorem r_set (lc : Launch) (G : Gc) (E : Wd) (nh : Nat) {Ψ : Fs} {w x : Int} (h : isM G E Ψ) (hk : okX Ψ) (hw : -2147483648 ≤ w ∧ w < 2147483648) (hx : -2147483648 ≤ x ∧ x < 2147483648) : CI lc G 5 yX12_set cX12_set 4 .int [.ref (gb G + 124), .int (iI w), .int (iI x)] E nh 0 0 (fun v E' => v = vSet Ψ w x ∧ isM G E' (sSet Ψ w x) ∧ Out E E' 124 131) := by
  refine CI.mk (by decide +kernel) rfl (Nat.le_of_ble_eq_true rfl) ?_
  intro X hG hL cx hR hI
  subst hG; subst hL
  show V X E (nh, 0, 0) 0 [some (.ref (gb (fG X) + 124)), some (.int (iI w)), some (.int (iI x)), none] []
  obtain ⟨⟨s, sh, ge, mk⟩, hs, tx⟩ := Ψ
  obtain ⟨aa, re, rs, sm, d, w', a, c, rd, fi, hr, hD, hH, hC⟩ := id h
  obtain ⟨h0, hd, hw', ha, hc, hrd, hfi⟩ := id hr
  obtain ⟨q1, ⟨q2, q3⟩, ⟨q4, q5⟩, q6, q7⟩ := id hD
  obtain ⟨⟨ks, ke, k8, k9, k10⟩, ⟨kh, kh2⟩, kt⟩ := id hk
  simp only at h0 hr hD q1 q2 q3 q4 q5 q6 q7 hH hC ks ke k8 k9 k10 kh kh2 kt
  have g0 := q1 0 (by omega)
  have kt0 := ks.1
  have ksh : okSh (lst (ar d 27) (ar d 39) (ar d 51) sh.length) := by rw [q5]; exact k8
  have kge : okGe (lst2 (fun j => d (20 + 2 * j)) (fun j => d (21 + 2 * j)) ge.length) := by rw [q3]; exact k9
  have n8 := k8.1
  have n9 := k9.1
  have n10 := k10.1
  refine v_iload_n (pc := 0) cx rfl ga1 dX12_set_0 ?_
  refine v_iload_n (pc := 1) cx rfl ga2 dX12_set_1 ?_
  refine v_callSI (pc := 2) cx hR (m_isSetting _ _ _ _ hw hx) mlX12_78 (by decide) rfl (Nat.le_of_ble_eq_true rfl) ⟨Nat.le_refl _, Nat.le_refl _⟩ dX12_set_2 (fun r1 E1 hP => ?_)
  obtain ⟨w1, rfl⟩ := hP
  refine v_if_ne (pc := 5) cx 10 dX12_set_5 rfl (by omega) (fun c5 => ?_) (fun c5 => ?_)
  · obtain ⟨g1, g2⟩ : (0 ≤ w ∧ w ≤ 7) ∧ (tbV 0 w.toNat ≤ x ∧ x ≤ tbV 1 w.toNat) := by omega
    obtain ⟨wn, rfl⟩ := Int.eq_ofNat_of_zero_le (show 0 ≤ w by omega)
    have hg : ¬ (¬ (0 ≤ (wn : Int) ∧ (wn : Int) ≤ 7) ∨ ¬ (tbV 0 (wn : Int).toNat ≤ x ∧ x ≤ tbV 1 (wn : Int).toNat)) := fun q => q.elim (fun q => q g1) (fun q => q g2)
    refine v_aload_n (pc := 10) cx rfl ga0 dX12_set_10 ?_
    refine v_callVV (pc := 11) cx hR (m_records _ _ _ _ h0 hd hw' kh) mlX12_63 (by decide) (by assumption) rfl rfl rfl (Nat.le_of_ble_eq_true rfl) ⟨Nat.le_refl _, Nat.le_refl _⟩ dX12_set_11 (fun E4 hP => ?_)
    obtain ⟨w2, hr4, hH4⟩ := rec_isM hr hD hH hC hk.1 hk.2.1 hP
    have hF4 := hP.2.2
    obtain ⟨h04, hd4, hw4, -⟩ := id hr4
    have hFr : Out E4 E4 125 126 := fun _ _ => rfl
    refine v_aload_n (pc := 14) cx rfl ga0 dX12_set_14 ?_
    refine v_getfield (pc := 15) cx flX12_7 (by assumption) gf0 dX12_set_15 ?_
    refine v_bipush (pc := 18) cx (by decide) dX12_set_18 ?_
    refine v_iload_n (pc := 20) cx rfl ga1 dX12_set_20 ?_
    refine v_iadd (pc := 21) cx dX12_set_21 ?_
    refine v_iaload (pc := 22) cx (11 + wn) (by assumption) (by omega) dX12_set_22 ?_
    refine v_istore_n (pc := 23) cx rfl (sa3 rfl) dX12_set_23 ?_
    refine v_aload_n (pc := 24) cx rfl ga0 dX12_set_24 ?_
    refine v_getfield (pc := 25) cx flX12_7 (by assumption) gf0 dX12_set_25 ?_
    refine v_bipush (pc := 28) cx (by decide) dX12_set_28 ?_
    refine v_iload_n (pc := 30) cx rfl ga1 dX12_set_30 ?_
    refine v_iadd (pc := 31) cx dX12_set_31 ?_
    refine v_iload_n (pc := 32) cx rfl ga2 dX12_set_32 ?_
    refine v_iastore (pc := 33) cx (11 + wn) hd4 (by omega) dX12_set_33 (fun E33 hE33 hF33 => ?_)
    replace hFr := fun j hj => (hF33 j (by omega)).trans (hFr j hj)
    replace hd4 := hE33
    refine v_iload_n (pc := 34) cx rfl ga3 dX12_set_34 ?_
    refine v_ireturn (pc := 35) cx hI rfl ?_ dX12_set_35
    unfold vSet sSet
    simp only
    rw [if_neg hg, if_neg hg, Int.toNat_natCast]
    exact ⟨q1 _ (by omega), ⟨aa, re, rs, sm, _, w2, a, c, rd, fi, hr4.dd hFr hd4, hD.upS (by omega), hH4, hC⟩, fun j hj => (hFr j (by omega)).trans (hF4 j (by omega))⟩
  · refine v_iconst (pc := 8) cx dX12_set_8 ?_
    refine v_ireturn (pc := 9) cx hI rfl ?_ dX12_set_9
    have hb : ¬ (0 ≤ w ∧ w ≤ 7) ∨ ¬ (tbV 0 w.toNat ≤ x ∧ x ≤ tbV 1 w.toNat) := by
      rcases w1 with ⟨q, -⟩ | ⟨-, q⟩
      · omega
      · exact q
    unfold vSet sSet
    rw [if_pos hb, if_pos hb]
    exact ⟨rfl, h, fun _ _ => rfl⟩
set_option maxRecDepth 100000 in
set_option maxHeartbeats 4000000 in
theorem r_wind (lc : Launch) (G : Gc) (E : Wd) (nh : Nat) {Ψ : Fs} (h : isM G E Ψ) (hk : okX Ψ) : CI lc G 5 yX12_wind cX12_wind 2 .int [.ref (gb G + 124)] E nh 0 0 (fun v E' => v = vWin Ψ ∧ isM G E' (sWin Ψ) ∧ Out E E' 124 131) := by
  refine CI.mk (by decide +kernel) rfl (Nat.le_of_ble_eq_true rfl) ?_
  intro X hG hL cx hR hI
  subst hG; subst hL
  show V X E (nh, 0, 0) 0 [some (.ref (gb (fG X) + 124)), none] []
  obtain ⟨⟨s, sh, ge, mk⟩, hs, tx⟩ := Ψ
  obtain ⟨aa, re, rs, sm, d, w', a, c, rd, fi, hr, hD, hH, hC⟩ := id h
  obtain ⟨h0, hd, hw', ha, hc, hrd, hfi⟩ := id hr
  obtain ⟨q1, ⟨q2, q3⟩, ⟨q4, q5⟩, q6, q7⟩ := id hD
  obtain ⟨⟨ks, ke, k8, k9, k10⟩, ⟨kh, kh2⟩, kt⟩ := id hk
  simp only at h0 hr hD q1 q2 q3 q4 q5 q6 q7 hH hC ks ke k8 k9 k10 kh kh2 kt
  have g0 := q1 0 (by omega)
  have kt0 := ks.1
  have ksh : okSh (lst (ar d 27) (ar d 39) (ar d 51) sh.length) := by rw [q5]; exact k8
  have kge : okGe (lst2 (fun j => d (20 + 2 * j)) (fun j => d (21 + 2 * j)) ge.length) := by rw [q3]; exact k9
  have n8 := k8.1
  have n9 := k9.1
  have n10 := k10.1
  refine v_aload_n (pc := 0) cx rfl ga0 dX12_wind_0 ?_
  refine v_callVV (pc := 1) cx hR (m_records _ _ _ _ h0 hd hw' kh) mlX12_63 (by decide) (by assumption) rfl rfl rfl (Nat.le_of_ble_eq_true rfl) ⟨Nat.le_refl _, Nat.le_refl _⟩ dX12_wind_1 (fun E4 hP => ?_)
  obtain ⟨w2, hr4, hH4⟩ := rec_isM hr hD hH hC hk.1 hk.2.1 hP
  have hF4 := hP.2.2
  obtain ⟨h04, hd4, hw4, -⟩ := id hr4
  have hFr : Out E4 E4 125 126 := fun _ _ => rfl
  refine v_aload_n (pc := 4) cx rfl ga0 dX12_wind_4 ?_
  refine v_getfield (pc := 5) cx flX12_7 (by assumption) gf0 dX12_wind_5 ?_
  refine v_iconst (pc := 8) cx dX12_wind_8 ?_
  refine v_iaload (pc := 9) cx (4) (by assumption) (by omega) dX12_wind_9 ?_
  refine v_istore_n (pc := 10) cx rfl (sa1 rfl) dX12_wind_10 ?_
  refine v_aload_n (pc := 11) cx rfl ga0 dX12_wind_11 ?_
  refine v_getfield (pc := 12) cx flX12_7 (by assumption) gf0 dX12_wind_12 ?_
  refine v_iconst (pc := 15) cx dX12_wind_15 ?_
  refine v_aload_n (pc := 16) cx rfl ga0 dX12_wind_16 ?_
  refine v_getfield (pc := 17) cx flX12_7 (by assumption) gf0 dX12_wind_17 ?_
  refine v_bipush (pc := 20) cx (by decide) dX12_wind_20 ?_
  refine v_iaload (pc := 22) cx (17) (by assumption) (by omega) dX12_wind_22 ?_
  refine v_iastore (pc := 23) cx (4) hd4 (by omega) dX12_wind_23 (fun E23 hE23 hF23 => ?_)
  replace hFr := fun j hj => (hF23 j (by omega)).trans (hFr j hj)
  replace hd4 := hE23
  refine v_iload_n (pc := 24) cx rfl ga1 dX12_wind_24 ?_
  refine v_ireturn (pc := 25) cx hI rfl ?_ dX12_wind_25
  rw [q1 17 (by omega)] at hd4
  exact ⟨q1 4 (by omega), ⟨aa, re, rs, sm, _, w2, a, c, rd, fi, hr4.dd hFr hd4, hD.upS (by omega), hH4, hC⟩, fun j hj => (hFr j (by omega)).trans (hF4 j (by omega))⟩
set_option maxRecDepth 100000 in
set_option maxHeartbeats 4000000 in
theorem r_addGears (lc : Launch) (G : Gc) (E : Wd) (nh : Nat) {Ψ : Fs} {x y : Int} (h : isM G E Ψ) (hk : okX Ψ) (hx : -2147483648 ≤ x ∧ x < 2147483648) (hy : -2147483648 ≤ y ∧ y < 2147483648) : CI lc G 5 yX12_addGears cX12_addGears 3 .int [.ref (gb G + 124), .int (iI x), .int (iI y)] E nh 0 0 (fun v E' => v = vGad Ψ x y ∧ isM G E' (sGad Ψ x y) ∧ Out E E' 124 131) := by
  refine CI.mk (by decide +kernel) rfl (Nat.le_of_ble_eq_true rfl) ?_
  intro X hG hL cx hR hI
  subst hG; subst hL
  show V X E (nh, 0, 0) 0 [some (.ref (gb (fG X) + 124)), some (.int (iI x)), some (.int (iI y))] []
  obtain ⟨⟨s, sh, ge, mk⟩, hs, tx⟩ := Ψ
  obtain ⟨aa, re, rs, sm, d, w', a, c, rd, fi, hr, hD, hH, hC⟩ := id h
  obtain ⟨h0, hd, hw', ha, hc, hrd, hfi⟩ := id hr
  obtain ⟨q1, ⟨q2, q3⟩, ⟨q4, q5⟩, q6, q7⟩ := id hD
  obtain ⟨⟨ks, ke, k8, k9, k10⟩, ⟨kh, kh2⟩, kt⟩ := id hk
  simp only at h0 hr hD q1 q2 q3 q4 q5 q6 q7 hH hC ks ke k8 k9 k10 kh kh2 kt
  have g0 := q1 0 (by omega)
  have kt0 := ks.1
  have ksh : okSh (lst (ar d 27) (ar d 39) (ar d 51) sh.length) := by rw [q5]; exact k8
  have kge : okGe (lst2 (fun j => d (20 + 2 * j)) (fun j => d (21 + 2 * j)) ge.length) := by rw [q3]; exact k9
  have n8 := k8.1
  have n9 := k9.1
  have n10 := k10.1
  have bad : (¬ (8 ≤ x ∧ x ≤ 120) ∨ ¬ (8 ≤ y ∧ y ≤ 120)) → V X E (nh, 0, 0) 22 [some (.ref (gb (fG X) + 124)), some (.int (iI x)), some (.int (iI y))] [] := by
    intro hb
    refine v_iconst (pc := 22) cx dX12_addGears_22 ?_
    refine v_ireturn (pc := 23) cx hI rfl ?_ dX12_addGears_23
    unfold vGad sGad
    rw [if_pos hb, if_pos hb]
    exact ⟨rfl, h, fun _ _ => rfl⟩
  refine v_iload_n (pc := 0) cx rfl ga1 dX12_addGears_0 ?_
  refine v_bipush (pc := 1) cx (by decide) dX12_addGears_1 ?_
  refine v_bipush (pc := 3) cx (by decide) dX12_addGears_3 ?_
  refine v_callSI (pc := 5) cx hR (m_in _ _ _ _ (by omega)) mlX12_33 (by decide) rfl (Nat.le_of_ble_eq_true rfl) ⟨Nat.le_refl _, Nat.le_refl _⟩ dX12_addGears_5 (fun r1 E1 hP => ?_)
  obtain ⟨w1, rfl⟩ := hP
  refine v_if_eq (pc := 8) cx 22 dX12_addGears_8 rfl (by omega) (fun c8 => ?_) (fun c8 => ?_)
  · exact bad (Or.inl (by omega))
  · refine v_iload_n (pc := 11) cx rfl ga2 dX12_addGears_11 ?_
    refine v_bipush (pc := 12) cx (by decide) dX12_addGears_12 ?_
    refine v_bipush (pc := 14) cx (by decide) dX12_addGears_14 ?_
    refine v_callSI (pc := 16) cx hR (m_in _ _ _ _ (by omega)) mlX12_33 (by decide) rfl (Nat.le_of_ble_eq_true rfl) ⟨Nat.le_refl _, Nat.le_refl _⟩ dX12_addGears_16 (fun r2 E2 hP => ?_)
    obtain ⟨w2, rfl⟩ := hP
    refine v_if_ne (pc := 19) cx 24 dX12_addGears_19 rfl (by omega) (fun c19 => ?_) (fun c19 => ?_)
    · have hg : ¬ (¬ (8 ≤ x ∧ x ≤ 120) ∨ ¬ (8 ≤ y ∧ y ≤ 120)) := by omega
      refine v_aload_n (pc := 24) cx rfl ga0 dX12_addGears_24 ?_
      refine v_getfield (pc := 25) cx flX12_7 (by assumption) gf0 dX12_addGears_25 ?_
      refine v_bipush (pc := 28) cx (by decide) dX12_addGears_28 ?_
      refine v_iaload (pc := 30) cx (19) (by assumption) (by omega) dX12_addGears_30 ?_
      refine v_iconst (pc := 31) cx dX12_addGears_31 ?_
      refine v_icmp_ne (pc := 32) cx 38 dX12_addGears_32 rfl (by omega) (fun c32 => ?_) (fun c32 => ?_)
      · refine v_aload_n (pc := 38) cx rfl ga0 dX12_addGears_38 ?_
        refine v_callVV (pc := 39) cx hR (m_records _ _ _ _ h0 hd hw' kh) mlX12_63 (by decide) (by assumption) rfl rfl rfl (Nat.le_of_ble_eq_true rfl) ⟨Nat.le_refl _, Nat.le_refl _⟩ dX12_addGears_39 (fun E4 hP => ?_)
        obtain ⟨w2, hr4, hH4⟩ := rec_isM hr hD hH hC hk.1 hk.2.1 hP
        have hF4 := hP.2.2
        obtain ⟨h04, hd4, hw4, -⟩ := id hr4
        have hFr : Out E4 E4 125 126 := fun _ _ => rfl
        refine v_aload_n (pc := 42) cx rfl ga0 dX12_addGears_42 ?_
        refine v_getfield (pc := 43) cx flX12_7 (by assumption) gf0 dX12_addGears_43 ?_
        refine v_bipush (pc := 46) cx (by decide) dX12_addGears_46 ?_
        refine v_iconst (pc := 48) cx dX12_addGears_48 ?_
        refine v_aload_n (pc := 49) cx rfl ga0 dX12_addGears_49 ?_
        refine v_getfield (pc := 50) cx flX12_7 (by assumption) gf0 dX12_addGears_50 ?_
        refine v_bipush (pc := 53) cx (by decide) dX12_addGears_53 ?_
        refine v_iaload (pc := 55) cx (19) (by assumption) (by omega) dX12_addGears_55 ?_
        refine v_imul (pc := 56) cx dX12_addGears_56 ?_
        refine v_iadd (pc := 57) cx dX12_addGears_57 ?_
        refine v_iload_n (pc := 58) cx rfl ga1 dX12_addGears_58 ?_
        refine v_iastore (pc := 59) cx (20 + 2 * ge.length) hd4 (by omega) dX12_addGears_59 (fun E59 hE59 hF59 => ?_)
        replace h04 := (hF59 _ (by omega)).trans h04
        replace hFr := fun j hj => (hF59 j (by omega)).trans (hFr j hj)
        replace hd4 := hE59
        obtain ⟨dA, hd4, a1, a2⟩ := genU hd4
        have hnA : dA 19 = (ge.length : Int) := (a2 19 (by omega)).trans q2
        refine v_aload_n (pc := 60) cx rfl ga0 dX12_addGears_60 ?_
        refine v_getfield (pc := 61) cx flX12_7 (by assumption) gf0 dX12_addGears_61 ?_
        refine v_bipush (pc := 64) cx (by decide) dX12_addGears_64 ?_
        refine v_iconst (pc := 66) cx dX12_addGears_66 ?_
        refine v_aload_n (pc := 67) cx rfl ga0 dX12_addGears_67 ?_
        refine v_getfield (pc := 68) cx flX12_7 (by assumption) gf0 dX12_addGears_68 ?_
        refine v_bipush (pc := 71) cx (by decide) dX12_addGears_71 ?_
        refine v_iaload (pc := 73) cx (19) (by assumption) (by omega) dX12_addGears_73 ?_
        refine v_imul (pc := 74) cx dX12_addGears_74 ?_
        refine v_iadd (pc := 75) cx dX12_addGears_75 ?_
        refine v_iconst (pc := 76) cx dX12_addGears_76 ?_
        refine v_iadd (pc := 77) cx dX12_addGears_77 ?_
        refine v_iload_n (pc := 78) cx rfl ga2 dX12_addGears_78 ?_
        refine v_iastore (pc := 79) cx (21 + 2 * ge.length) hd4 (by omega) dX12_addGears_79 (fun E79 hE79 hF79 => ?_)
        replace h04 := (hF79 _ (by omega)).trans h04
        replace hFr := fun j hj => (hF79 j (by omega)).trans (hFr j hj)
        replace hd4 := hE79
        obtain ⟨dB, hd4, b1, b2⟩ := genU hd4
        have hnB : dB 19 = (ge.length : Int) := (b2 19 (by omega)).trans hnA
        refine v_aload_n (pc := 80) cx rfl ga0 dX12_addGears_80 ?_
        refine v_getfield (pc := 81) cx flX12_7 (by assumption) gf0 dX12_addGears_81 ?_
        refine v_bipush (pc := 84) cx (by decide) dX12_addGears_84 ?_
        refine v_dup2 (pc := 86) cx rfl rfl dX12_addGears_86 ?_
        refine v_iaload (pc := 87) cx (19) (by assumption) (by omega) dX12_addGears_87 ?_
        refine v_iconst (pc := 88) cx dX12_addGears_88 ?_
        refine v_iadd (pc := 89) cx dX12_addGears_89 ?_
        refine v_iastore (pc := 90) cx (19) hd4 (by omega) dX12_addGears_90 (fun E90 hE90 hF90 => ?_)
        replace h04 := (hF90 _ (by omega)).trans h04
        replace hFr := fun j hj => (hF90 j (by omega)).trans (hFr j hj)
        replace hd4 := hE90
        obtain ⟨dC, hd4, e1, e2⟩ := genU hd4
        rw [hnB] at e1
        refine v_aload_n (pc := 91) cx rfl ga0 dX12_addGears_91 ?_
        refine v_getfield (pc := 92) cx flX12_7 (by assumption) gf0 dX12_addGears_92 ?_
        refine v_bipush (pc := 95) cx (by decide) dX12_addGears_95 ?_
        refine v_iaload (pc := 97) cx (19) (by assumption) (by omega) dX12_addGears_97 ?_
        refine v_ireturn (pc := 98) cx hI rfl ?_ dX12_addGears_98
        unfold vGad sGad
        rw [if_neg hg, if_neg hg]
        simp only
        rw [if_neg (by omega), if_neg (by omega)]
        have z : ∀ i, i ≠ 19 → i ≠ 20 + 2 * ge.length → i ≠ 21 + 2 * ge.length → dC i = d i := fun i i1 i2 i3 => (e2 i i1).trans ((b2 i i3).trans (a2 i i2))
        refine ⟨e1, ⟨aa, re, rs, sm, dC, w2, a, c, rd, fi, hr4.dd hFr hd4, ⟨fun i hi => (z i (by omega) (by omega) (by omega)).trans (q1 i hi), ⟨?_, ?_⟩, ⟨(z _ (by omega) (by omega) (by omega)).trans q4, (lst_ext (fun j _ => ⟨z _ (by omega) (by omega) (by omega), z _ (by omega) (by omega) (by omega), z _ (by omega) (by omega) (by omega)⟩)).trans q5⟩, (z _ (by omega) (by omega) (by omega)).trans q6, (lst_ext (fun j _ => ⟨z _ (by omega) (by omega) (by omega), z _ (by omega) (by omega) (by omega), z _ (by omega) (by omega) (by omega)⟩)).trans q7⟩, hH4, hC⟩, fun j hj => (hFr j (by omega)).trans (hF4 j (by omega))⟩
        · show dC 19 = ((ge ++ [(x, y)]).length : Int)
          rw [e1, List.length_append, List.length_singleton]
          rfl
        · show lst2 _ _ (ge ++ [(x, y)]).length = ge ++ [(x, y)]
          rw [List.length_append, List.length_singleton]
          have ea : dC (20 + 2 * ge.length) = x := by rw [e2 _ (by omega), b2 _ (by omega), a1]
          have eb : dC (21 + 2 * ge.length) = y := by rw [e2 _ (by omega), b1]
          rw [lst2_succ]
          show lst2 (fun j => dC (20 + 2 * j)) (fun j => dC (21 + 2 * j)) ge.length ++ [(dC (20 + 2 * ge.length), dC (21 + 2 * ge.length))] = ge ++ [(x, y)]
          rw [ea, eb]
          congr 1
          conv => rhs; rw [← q3]
          exact lst2_ext (fun j hj => ⟨z _ (by omega) (by omega) (by omega), z _ (by omega) (by omega) (by omega)⟩)
      · refine v_bipush (pc := 35) cx (by decide) dX12_addGears_35 ?_
        refine v_ireturn (pc := 37) cx hI rfl ?_ dX12_addGears_37
        unfold vGad sGad
        rw [if_neg hg, if_neg hg]
        simp only
        rw [if_pos (by omega), if_pos (by omega)]
        exact ⟨rfl, h, fun _ _ => rfl⟩
    · exact bad (Or.inr (by omega))
set_option maxRecDepth 100000 in
set_option maxHeartbeats 4000000 in
theorem r_removeGears (lc : Launch) (G : Gc) (E : Wd) (nh : Nat) {Ψ : Fs} {k : Int} (h : isM G E Ψ) (hk : okX Ψ) (hk0 : -2147483648 ≤ k ∧ k < 2147483648) : CI lc G 5 yX12_removeGears cX12_removeGears 3 .int [.ref (gb G + 124), .int (iI k)] E nh 0 0 (fun v E' => v = vGre Ψ k ∧ isM G E' (sGre Ψ k) ∧ Out E E' 124 131) := by
  refine CI.mk (by decide +kernel) rfl (Nat.le_of_ble_eq_true rfl) ?_
  intro X hG hL cx hR hI
  subst hG; subst hL
  show V X E (nh, 0, 0) 0 [some (.ref (gb (fG X) + 124)), some (.int (iI k)), none] []
  obtain ⟨⟨s, sh, ge, mk⟩, hs, tx⟩ := Ψ
  obtain ⟨aa, re, rs, sm, d, w', a, c, rd, fi, hr, hD, hH, hC⟩ := id h
  obtain ⟨h0, hd, hw', ha, hc, hrd, hfi⟩ := id hr
  obtain ⟨q1, ⟨q2, q3⟩, ⟨q4, q5⟩, q6, q7⟩ := id hD
  obtain ⟨⟨ks, ke, k8, k9, k10⟩, ⟨kh, kh2⟩, kt⟩ := id hk
  simp only at h0 hr hD q1 q2 q3 q4 q5 q6 q7 hH hC ks ke k8 k9 k10 kh kh2 kt
  have g0 := q1 0 (by omega)
  have kt0 := ks.1
  have ksh : okSh (lst (ar d 27) (ar d 39) (ar d 51) sh.length) := by rw [q5]; exact k8
  have kge : okGe (lst2 (fun j => d (20 + 2 * j)) (fun j => d (21 + 2 * j)) ge.length) := by rw [q3]; exact k9
  have n8 := k8.1
  have n9 := k9.1
  have n10 := k10.1
  refine v_aload_n (pc := 0) cx rfl ga0 dX12_removeGears_0 ?_
  refine v_iload_n (pc := 1) cx rfl ga1 dX12_removeGears_1 ?_
  refine v_callVI (pc := 2) cx hR (m_isPair _ _ _ _ h0 hd q2 n9 hk0) mlX12_82 (by decide) (by assumption) rfl rfl rfl (Nat.le_of_ble_eq_true rfl) ⟨Nat.le_refl _, Nat.le_refl _⟩ dX12_removeGears_2 (fun r1 E1 hP => ?_)
  obtain ⟨w1, rfl⟩ := hP
  refine v_if_ne (pc := 5) cx 10 dX12_removeGears_5 rfl (by omega) (fun c5 => ?_) (fun c5 => ?_)
  · obtain ⟨kn, rfl⟩ := Int.eq_ofNat_of_zero_le (show 0 ≤ k by omega)
    have hg : ¬ ¬ (0 ≤ (kn : Int) ∧ (kn : Int) < (ge.length : Int)) := by omega
    refine v_aload_n (pc := 10) cx rfl ga0 dX12_removeGears_10 ?_
    refine v_callVV (pc := 11) cx hR (m_records _ _ _ _ h0 hd hw' kh) mlX12_63 (by decide) (by assumption) rfl rfl rfl (Nat.le_of_ble_eq_true rfl) ⟨Nat.le_refl _, Nat.le_refl _⟩ dX12_removeGears_11 (fun E4 hP => ?_)
    obtain ⟨w2, hr4, hH4⟩ := rec_isM hr hD hH hC hk.1 hk.2.1 hP
    have hF4 := hP.2.2
    obtain ⟨h04, hd4, hw4, -⟩ := id hr4
    have hFr : Out E4 E4 125 126 := fun _ _ => rfl
    have loop : ∀ (q x : Nat) (d' : Nat → Int) (E' : Wd), 2 * kn ≤ x → x ≤ 2 * (ge.length - 1) → 2 * (ge.length - 1) - x < q → E' 124 = E4 124 → E' 125 = some (AI (fG X) 244 d') → d' 19 = (ge.length : Int) - 1 → (∀ i, i < 6 → d' (20 + i) = if 2 * kn ≤ i ∧ i < x then d (20 + i + 2) else d (20 + i)) → (∀ i, (i < 19 ∨ 26 ≤ i) → d' i = d i) → Out E4 E' 125 126 → V X E' (nh, 0, 0) 29 [some (.ref (gb (fG X) + 124)), some (.int (iI (kn : Int))), some (.int (iI (x : Int)))] [] := by
      intro q
      induction q with
      | zero => intro x d' E' h1 h2 h3; omega
      | succ q ih =>
        intro x d' E' hx1 hx2 hq h0 hd hn hin hout hFr
        replace h0 := h0.trans h04
        refine v_iload_n (pc := 29) cx rfl ga2 dX12_removeGears_29 ?_
        refine v_iconst (pc := 30) cx dX12_removeGears_30 ?_
        refine v_aload_n (pc := 31) cx rfl ga0 dX12_removeGears_31 ?_
        refine v_getfield (pc := 32) cx flX12_7 (by assumption) gf0 dX12_removeGears_32 ?_
        refine v_bipush (pc := 35) cx (by decide) dX12_removeGears_35 ?_
        refine v_iaload (pc := 37) cx (19) (by assumption) (by omega) dX12_removeGears_37 ?_
        refine v_imul (pc := 38) cx dX12_removeGears_38 ?_
        refine v_icmp_ge (pc := 39) cx 68 dX12_removeGears_39 rfl (by omega) (fun c39 => ?_) (fun c39 => ?_)
        · refine v_aload_n (pc := 68) cx rfl ga0 dX12_removeGears_68 ?_
          refine v_getfield (pc := 69) cx flX12_7 (by assumption) gf0 dX12_removeGears_69 ?_
          refine v_bipush (pc := 72) cx (by decide) dX12_removeGears_72 ?_
          refine v_iaload (pc := 74) cx (19) (by assumption) (by omega) dX12_removeGears_74 ?_
          refine v_ireturn (pc := 75) cx hI rfl ?_ dX12_removeGears_75
          unfold vGre sGre
          simp only
          rw [if_neg hg, if_neg hg, Int.toNat_natCast]
          have el : (delG ge kn).length = ge.length - 1 := delG_len
          refine ⟨hn, ⟨aa, re, rs, sm, d', w2, a, c, rd, fi, hr4.dd hFr hd, ⟨fun i hi => (hout i (by omega)).trans (q1 i hi), ⟨?_, ?_⟩, ⟨(hout _ (by omega)).trans q4, (lst_ext (fun j _ => ⟨hout _ (by omega), hout _ (by omega), hout _ (by omega)⟩)).trans q5⟩, (hout _ (by omega)).trans q6, (lst_ext (fun j _ => ⟨hout _ (by omega), hout _ (by omega), hout _ (by omega)⟩)).trans q7⟩, hH4, hC⟩, fun j hj => (hFr j (by omega)).trans (hF4 j (by omega))⟩
          · show d' 19 = ((delG ge kn).length : Int)
            rw [hn, el]
            omega
          · show lst2 _ _ (delG ge kn).length = delG ge kn
            rw [el]
            conv => rhs; rw [← q3]
            rw [delG_lst]
            refine lst2_ext (fun j hj => ?_)
            have i1 := hin (2 * j) (by omega)
            have i2 := hin (2 * j + 1) (by omega)
            rw [show 20 + (2 * j + 1) = 21 + 2 * j by omega] at i2
            unfold delF
            by_cases e : kn ≤ j
            · rw [if_pos (by omega)] at i1 i2
              rw [if_pos (by omega), if_pos (by omega)]
              exact ⟨i1, i2⟩
            · rw [if_neg (by omega)] at i1 i2
              rw [if_neg (by omega), if_neg (by omega)]
              exact ⟨i1, i2⟩
        · refine v_aload_n (pc := 42) cx rfl ga0 dX12_removeGears_42 ?_
          refine v_getfield (pc := 43) cx flX12_7 (by assumption) gf0 dX12_removeGears_43 ?_
          refine v_bipush (pc := 46) cx (by decide) dX12_removeGears_46 ?_
          refine v_iload_n (pc := 48) cx rfl ga2 dX12_removeGears_48 ?_
          refine v_iadd (pc := 49) cx dX12_removeGears_49 ?_
          refine v_aload_n (pc := 50) cx rfl ga0 dX12_removeGears_50 ?_
          refine v_getfield (pc := 51) cx flX12_7 (by assumption) gf0 dX12_removeGears_51 ?_
          refine v_bipush (pc := 54) cx (by decide) dX12_removeGears_54 ?_
          refine v_iload_n (pc := 56) cx rfl ga2 dX12_removeGears_56 ?_
          refine v_iadd (pc := 57) cx dX12_removeGears_57 ?_
          refine v_iconst (pc := 58) cx dX12_removeGears_58 ?_
          refine v_iadd (pc := 59) cx dX12_removeGears_59 ?_
          refine v_iaload (pc := 60) cx (20 + x + 2) (by assumption) (by omega) dX12_removeGears_60 ?_
          refine v_iastore (pc := 61) cx (20 + x) hd (by omega) dX12_removeGears_61 (fun E61 hE61 hF61 => ?_)
          replace h0 := (hF61 _ (by omega)).trans h0
          replace hd := hE61
          replace hFr := fun j hj => (hF61 j (by omega)).trans (hFr j hj)
          refine v_iinc (pc := 62) cx ga2 (sa2 rfl) dX12_removeGears_62 ?_
          refine v_goto (pc := 65) cx 29 dX12_removeGears_65 rfl ?_
          refine ih (x + 1) _ _ (by omega) (by omega) (by omega) (h0.trans h04.symm) hd ?_ (fun i hi => ?_) (fun i hi => ?_) hFr
          · rw [upI_n (by omega)]
            exact hn
          · have i2 := hin (x + 2) (by omega)
            rw [if_neg (by omega)] at i2
            by_cases e : i = x
            · subst e
              rw [upI_s, if_pos (by omega)]
              exact i2
            · rw [upI_n (by omega), hin i hi]
              by_cases e2 : 2 * kn ≤ i ∧ i < x
              · rw [if_pos e2, if_pos (by omega)]
              · rw [if_neg e2, if_neg (by omega)]
          · rw [upI_n (by omega)]
            exact hout i hi
    refine v_aload_n (pc := 14) cx rfl ga0 dX12_removeGears_14 ?_
    refine v_getfield (pc := 15) cx flX12_7 (by assumption) gf0 dX12_removeGears_15 ?_
    refine v_bipush (pc := 18) cx (by decide) dX12_removeGears_18 ?_
    refine v_dup2 (pc := 20) cx rfl rfl dX12_removeGears_20 ?_
    refine v_iaload (pc := 21) cx (19) (by assumption) (by omega) dX12_removeGears_21 ?_
    refine v_iconst (pc := 22) cx dX12_removeGears_22 ?_
    refine v_isub (pc := 23) cx dX12_removeGears_23 ?_
    refine v_iastore (pc := 24) cx (19) hd4 (by omega) dX12_removeGears_24 (fun E24 hE24 hF24 => ?_)
    replace h04 := (hF24 _ (by omega)).trans h04
    replace hFr := fun j hj => (hF24 j (by omega)).trans (hFr j hj)
    replace hd4 := hE24
    refine v_iconst (pc := 25) cx dX12_removeGears_25 ?_
    refine v_iload_n (pc := 26) cx rfl ga1 dX12_removeGears_26 ?_
    refine v_imul (pc := 27) cx dX12_removeGears_27 ?_
    refine v_istore_n (pc := 28) cx rfl (sa2 rfl) dX12_removeGears_28 ?_
    rw [show (2 : Int) * (kn : Int) = ((2 * kn : Nat) : Int) by omega]
    refine loop (2 * ge.length + 1) (2 * kn) _ _ (Nat.le_refl _) (by omega) (by omega) (hF24 _ (by omega)) hd4 (by rw [upI_s, q2]) (fun i hi => ?_) (fun i hi => upI_n (by omega)) hFr
    rw [upI_n (by omega), if_neg (by omega)]
  · refine v_iconst (pc := 8) cx dX12_removeGears_8 ?_
    refine v_ireturn (pc := 9) cx hI rfl ?_ dX12_removeGears_9
    have hg : ¬ (0 ≤ k ∧ k < (ge.length : Int)) := by omega
    unfold vGre sGre
    simp only
    rw [if_pos hg, if_pos hg]
    exact ⟨rfl, h, fun _ _ => rfl⟩
set_option maxRecDepth 100000 in
set_option maxHeartbeats 4000000 in
theorem r_gear (lc : Launch) (G : Gc) (E : Wd) (nh : Nat) {Ψ : Fs} {k w : Int} (h : isM G E Ψ) (hk : okX Ψ) (hk0 : -2147483648 ≤ k ∧ k < 2147483648) (hw : -2147483648 ≤ w ∧ w < 2147483648) : CI lc G 5 yX12_gear cX12_gear 3 .int [.ref (gb G + 124), .int (iI k), .int (iI w)] E nh 0 0 (fun v E' => v = vGea Ψ k w ∧ E' = E) := by
  refine CI.mk (by decide +kernel) rfl (Nat.le_of_ble_eq_true rfl) ?_
  intro X hG hL cx hR hI
  subst hG; subst hL
  show V X E (nh, 0, 0) 0 [some (.ref (gb (fG X) + 124)), some (.int (iI k)), some (.int (iI w))] []
  obtain ⟨⟨s, sh, ge, mk⟩, hs, tx⟩ := Ψ
  obtain ⟨aa, re, rs, sm, d, w', a, c, rd, fi, hr, hD, hH, hC⟩ := id h
  obtain ⟨h0, hd, hw', ha, hc, hrd, hfi⟩ := id hr
  obtain ⟨q1, ⟨q2, q3⟩, ⟨q4, q5⟩, q6, q7⟩ := id hD
  obtain ⟨⟨ks, ke, k8, k9, k10⟩, ⟨kh, kh2⟩, kt⟩ := id hk
  simp only at h0 hr hD q1 q2 q3 q4 q5 q6 q7 hH hC ks ke k8 k9 k10 kh kh2 kt
  have g0 := q1 0 (by omega)
  have kt0 := ks.1
  have ksh : okSh (lst (ar d 27) (ar d 39) (ar d 51) sh.length) := by rw [q5]; exact k8
  have kge : okGe (lst2 (fun j => d (20 + 2 * j)) (fun j => d (21 + 2 * j)) ge.length) := by rw [q3]; exact k9
  have n8 := k8.1
  have n9 := k9.1
  have n10 := k10.1
  have bad : (¬ (0 ≤ k ∧ k < (ge.length : Int)) ∨ ¬ (0 ≤ w ∧ w ≤ 1)) → V X E (nh, 0, 0) 33 [some (.ref (gb (fG X) + 124)), some (.int (iI k)), some (.int (iI w))] [] := by
    intro hb
    refine v_iconst (pc := 33) cx dX12_gear_33 ?_
    refine v_ireturn (pc := 34) cx hI rfl ?_ dX12_gear_34
    unfold vGea
    rw [if_pos hb]
    exact ⟨rfl, rfl⟩
  refine v_aload_n (pc := 0) cx rfl ga0 dX12_gear_0 ?_
  refine v_iload_n (pc := 1) cx rfl ga1 dX12_gear_1 ?_
  refine v_callVI (pc := 2) cx hR (m_isPair _ _ _ _ h0 hd q2 n9 hk0) mlX12_82 (by decide) (by assumption) rfl rfl rfl (Nat.le_of_ble_eq_true rfl) ⟨Nat.le_refl _, Nat.le_refl _⟩ dX12_gear_2 (fun r1 E1 hP => ?_)
  obtain ⟨w1, rfl⟩ := hP
  refine v_if_eq (pc := 5) cx 33 dX12_gear_5 rfl (by omega) (fun c5 => ?_) (fun c5 => ?_)
  · exact bad (Or.inl (by omega))
  · refine v_iload_n (pc := 8) cx rfl ga2 dX12_gear_8 ?_
    refine v_iconst (pc := 9) cx dX12_gear_9 ?_
    refine v_iconst (pc := 10) cx dX12_gear_10 ?_
    refine v_callSI (pc := 11) cx hR (m_in _ _ _ _ (by omega)) mlX12_33 (by decide) rfl (Nat.le_of_ble_eq_true rfl) ⟨Nat.le_refl _, Nat.le_refl _⟩ dX12_gear_11 (fun r2 E2 hP => ?_)
    obtain ⟨w2, rfl⟩ := hP
    refine v_if_eq (pc := 14) cx 33 dX12_gear_14 rfl (by omega) (fun c14 => ?_) (fun c14 => ?_)
    · exact bad (Or.inr (by omega))
    · obtain ⟨kn, rfl⟩ := Int.eq_ofNat_of_zero_le (show 0 ≤ k by omega)
      have hg : ¬ (¬ (0 ≤ (kn : Int) ∧ (kn : Int) < (ge.length : Int)) ∨ ¬ (0 ≤ w ∧ w ≤ 1)) := by omega
      have e := g_of q3 (show kn < ge.length by omega)
      unfold vGea at hI
      simp only at hI
      rw [if_neg hg, Int.toNat_natCast] at hI
      rcases (show w = 0 ∨ w = 1 by omega) with rfl | rfl
      · refine v_aload_n (pc := 17) cx rfl ga0 dX12_gear_17 ?_
        refine v_getfield (pc := 18) cx flX12_7 (by assumption) gf0 dX12_gear_18 ?_
        refine v_bipush (pc := 21) cx (by decide) dX12_gear_21 ?_
        refine v_iconst (pc := 23) cx dX12_gear_23 ?_
        refine v_iload_n (pc := 24) cx rfl ga1 dX12_gear_24 ?_
        refine v_imul (pc := 25) cx dX12_gear_25 ?_
        refine v_iadd (pc := 26) cx dX12_gear_26 ?_
        refine v_iload_n (pc := 27) cx rfl ga2 dX12_gear_27 ?_
        refine v_iadd (pc := 28) cx dX12_gear_28 ?_
        refine v_iaload (pc := 29) cx (20 + 2 * kn) (by assumption) (by omega) dX12_gear_29 ?_
        refine v_goto (pc := 30) cx 34 dX12_gear_30 rfl ?_
        refine v_ireturn (pc := 34) cx hI rfl ?_ dX12_gear_34
        exact ⟨e.1, rfl⟩
      · refine v_aload_n (pc := 17) cx rfl ga0 dX12_gear_17 ?_
        refine v_getfield (pc := 18) cx flX12_7 (by assumption) gf0 dX12_gear_18 ?_
        refine v_bipush (pc := 21) cx (by decide) dX12_gear_21 ?_
        refine v_iconst (pc := 23) cx dX12_gear_23 ?_
        refine v_iload_n (pc := 24) cx rfl ga1 dX12_gear_24 ?_
        refine v_imul (pc := 25) cx dX12_gear_25 ?_
        refine v_iadd (pc := 26) cx dX12_gear_26 ?_
        refine v_iload_n (pc := 27) cx rfl ga2 dX12_gear_27 ?_
        refine v_iadd (pc := 28) cx dX12_gear_28 ?_
        refine v_iaload (pc := 29) cx (21 + 2 * kn) (by assumption) (by omega) dX12_gear_29 ?_
        refine v_goto (pc := 30) cx 34 dX12_gear_30 rfl ?_
        refine v_ireturn (pc := 34) cx hI rfl ?_ dX12_gear_34
        exact ⟨e.2, rfl⟩
set_option maxRecDepth 100000 in
set_option maxHeartbeats 4000000 in
theorem r_account (lc : Launch) (G : Gc) (E : Wd) (nh : Nat) {Ψ : Fs} {w : Int} (h : isM G E Ψ) (hk : okX Ψ) (hw : -2147483648 ≤ w ∧ w < 2147483648) : CI lc G 5 yX12_account cX12_account 2 .int [.ref (gb G + 124), .int (iI w)] E nh 0 0 (fun v E' => v = vAcc Ψ w ∧ E' = E) := by
  refine CI.mk (by decide +kernel) rfl (Nat.le_of_ble_eq_true rfl) ?_
  intro X hG hL cx hR hI
  subst hG; subst hL
  show V X E (nh, 0, 0) 0 [some (.ref (gb (fG X) + 124)), some (.int (iI w))] []
  obtain ⟨⟨s, sh, ge, mk⟩, hs, tx⟩ := Ψ
  obtain ⟨aa, re, rs, sm, d, w', a, c, rd, fi, hr, hD, hH, hC⟩ := id h
  obtain ⟨h0, hd, hw', ha, hc, hrd, hfi⟩ := id hr
  obtain ⟨q1, ⟨q2, q3⟩, ⟨q4, q5⟩, q6, q7⟩ := id hD
  obtain ⟨⟨ks, ke, k8, k9, k10⟩, ⟨kh, kh2⟩, kt⟩ := id hk
  simp only at h0 hr hD q1 q2 q3 q4 q5 q6 q7 hH hC ks ke k8 k9 k10 kh kh2 kt
  have g0 := q1 0 (by omega)
  have kt0 := ks.1
  have ksh : okSh (lst (ar d 27) (ar d 39) (ar d 51) sh.length) := by rw [q5]; exact k8
  have kge : okGe (lst2 (fun j => d (20 + 2 * j)) (fun j => d (21 + 2 * j)) ge.length) := by rw [q3]; exact k9
  have n8 := k8.1
  have n9 := k9.1
  have n10 := k10.1
  refine v_iload_n (pc := 0) cx rfl ga1 dX12_account_0 ?_
  refine v_iconst (pc := 1) cx dX12_account_1 ?_
  refine v_iconst (pc := 2) cx dX12_account_2 ?_
  refine v_callSI (pc := 3) cx hR (m_in _ _ _ _ (by omega)) mlX12_33 (by decide) rfl (Nat.le_of_ble_eq_true rfl) ⟨Nat.le_refl _, Nat.le_refl _⟩ dX12_account_3 (fun r1 E1 hP => ?_)
  obtain ⟨w1, rfl⟩ := hP
  refine v_if_eq (pc := 6) cx 21 dX12_account_6 rfl (by omega) (fun c6 => ?_) (fun c6 => ?_)
  · refine v_iconst (pc := 21) cx dX12_account_21 ?_
    refine v_ireturn (pc := 22) cx hI rfl ?_ dX12_account_22
    unfold vAcc
    rw [if_neg (by omega)]
    exact ⟨rfl, rfl⟩
  · obtain ⟨wn, rfl⟩ := Int.eq_ofNat_of_zero_le (show 0 ≤ w by omega)
    refine v_aload_n (pc := 9) cx rfl ga0 dX12_account_9 ?_
    refine v_getfield (pc := 10) cx flX12_7 (by assumption) gf0 dX12_account_10 ?_
    refine v_bipush (pc := 13) cx (by decide) dX12_account_13 ?_
    refine v_iload_n (pc := 15) cx rfl ga1 dX12_account_15 ?_
    refine v_iadd (pc := 16) cx dX12_account_16 ?_
    refine v_iaload (pc := 17) cx (6 + wn) (by assumption) (by omega) dX12_account_17 ?_
    refine v_goto (pc := 18) cx 22 dX12_account_18 rfl ?_
    refine v_ireturn (pc := 22) cx hI rfl ?_ dX12_account_22
    unfold vAcc
    rw [if_pos (by omega), Int.toNat_natCast]
    exact ⟨q1 _ (by omega), rfl⟩
set_option maxRecDepth 100000 in
set_option maxHeartbeats 4000000 in
theorem r_mark (lc : Launch) (G : Gc) (E : Wd) (nh : Nat) {Ψ : Fs} {k w : Int} (h : isM G E Ψ) (hk : okX Ψ) (hk0 : -2147483648 ≤ k ∧ k < 2147483648) (hw : -2147483648 ≤ w ∧ w < 2147483648) : CI lc G 5 yX12_mark cX12_mark 3 .int [.ref (gb G + 124), .int (iI k), .int (iI w)] E nh 0 0 (fun v E' => v = vMar Ψ k w ∧ E' = E) := by
  refine CI.mk (by decide +kernel) rfl (Nat.le_of_ble_eq_true rfl) ?_
  intro X hG hL cx hR hI
  subst hG; subst hL
  show V X E (nh, 0, 0) 0 [some (.ref (gb (fG X) + 124)), some (.int (iI k)), some (.int (iI w))] []
  obtain ⟨⟨s, sh, ge, mk⟩, hs, tx⟩ := Ψ
  obtain ⟨aa, re, rs, sm, d, w', a, c, rd, fi, hr, hD, hH, hC⟩ := id h
  obtain ⟨h0, hd, hw', ha, hc, hrd, hfi⟩ := id hr
  obtain ⟨q1, ⟨q2, q3⟩, ⟨q4, q5⟩, q6, q7⟩ := id hD
  obtain ⟨⟨ks, ke, k8, k9, k10⟩, ⟨kh, kh2⟩, kt⟩ := id hk
  simp only at h0 hr hD q1 q2 q3 q4 q5 q6 q7 hH hC ks ke k8 k9 k10 kh kh2 kt
  have g0 := q1 0 (by omega)
  have kt0 := ks.1
  have ksh : okSh (lst (ar d 27) (ar d 39) (ar d 51) sh.length) := by rw [q5]; exact k8
  have kge : okGe (lst2 (fun j => d (20 + 2 * j)) (fun j => d (21 + 2 * j)) ge.length) := by rw [q3]; exact k9
  have n8 := k8.1
  have n9 := k9.1
  have n10 := k10.1
  have bad : (¬ (0 ≤ k ∧ k < (mk.length : Int)) ∨ ¬ (0 ≤ w ∧ w ≤ 2)) → V X E (nh, 0, 0) 43 [some (.ref (gb (fG X) + 124)), some (.int (iI k)), some (.int (iI w))] [] := by
    intro hb
    refine v_iconst (pc := 43) cx dX12_mark_43 ?_
    refine v_ireturn (pc := 44) cx hI rfl ?_ dX12_mark_44
    unfold vMar
    rw [if_pos hb]
    exact ⟨rfl, rfl⟩
  refine v_iload_n (pc := 0) cx rfl ga1 dX12_mark_0 ?_
  refine v_iconst (pc := 1) cx dX12_mark_1 ?_
  refine v_aload_n (pc := 2) cx rfl ga0 dX12_mark_2 ?_
  refine v_getfield (pc := 3) cx flX12_7 (by assumption) gf0 dX12_mark_3 ?_
  refine v_bipush (pc := 6) cx (by decide) dX12_mark_6 ?_
  refine v_iaload (pc := 8) cx (63) (by assumption) (by omega) dX12_mark_8 ?_
  refine v_iconst (pc := 9) cx dX12_mark_9 ?_
  refine v_isub (pc := 10) cx dX12_mark_10 ?_
  refine v_callSI (pc := 11) cx hR (m_in _ _ _ _ (by omega)) mlX12_33 (by decide) rfl (Nat.le_of_ble_eq_true rfl) ⟨Nat.le_refl _, Nat.le_refl _⟩ dX12_mark_11 (fun r1 E1 hP => ?_)
  obtain ⟨w1, rfl⟩ := hP
  refine v_if_eq (pc := 14) cx 43 dX12_mark_14 rfl (by omega) (fun c14 => ?_) (fun c14 => ?_)
  · exact bad (Or.inl (by omega))
  · refine v_iload_n (pc := 17) cx rfl ga2 dX12_mark_17 ?_
    refine v_iconst (pc := 18) cx dX12_mark_18 ?_
    refine v_iconst (pc := 19) cx dX12_mark_19 ?_
    refine v_callSI (pc := 20) cx hR (m_in _ _ _ _ (by omega)) mlX12_33 (by decide) rfl (Nat.le_of_ble_eq_true rfl) ⟨Nat.le_refl _, Nat.le_refl _⟩ dX12_mark_20 (fun r2 E2 hP => ?_)
    obtain ⟨w2, rfl⟩ := hP
    refine v_if_eq (pc := 23) cx 43 dX12_mark_23 rfl (by omega) (fun c23 => ?_) (fun c23 => ?_)
    · exact bad (Or.inr (by omega))
    · obtain ⟨kn, rfl⟩ := Int.eq_ofNat_of_zero_le (show 0 ≤ k by omega)
      have hg : ¬ (¬ (0 ≤ (kn : Int) ∧ (kn : Int) < (mk.length : Int)) ∨ ¬ (0 ≤ w ∧ w ≤ 2)) := by omega
      have e := k_of q7 (show kn < mk.length by omega)
      unfold vMar at hI
      simp only at hI
      rw [if_neg hg, Int.toNat_natCast] at hI
      rcases (show w = 0 ∨ w = 1 ∨ w = 2 by omega) with rfl | rfl | rfl
      · refine v_aload_n (pc := 26) cx rfl ga0 dX12_mark_26 ?_
        refine v_getfield (pc := 27) cx flX12_7 (by assumption) gf0 dX12_mark_27 ?_
        refine v_bipush (pc := 30) cx (by decide) dX12_mark_30 ?_
        refine v_bipush (pc := 32) cx (by decide) dX12_mark_32 ?_
        refine v_iload_n (pc := 34) cx rfl ga2 dX12_mark_34 ?_
        refine v_imul (pc := 35) cx dX12_mark_35 ?_
        refine v_iadd (pc := 36) cx dX12_mark_36 ?_
        refine v_iload_n (pc := 37) cx rfl ga1 dX12_mark_37 ?_
        refine v_iadd (pc := 38) cx dX12_mark_38 ?_
        refine v_iaload (pc := 39) cx (64 + kn) (by assumption) (by omega) dX12_mark_39 ?_
        refine v_goto (pc := 40) cx 44 dX12_mark_40 rfl ?_
        refine v_ireturn (pc := 44) cx hI rfl ?_ dX12_mark_44
        exact ⟨e.1, rfl⟩
      · refine v_aload_n (pc := 26) cx rfl ga0 dX12_mark_26 ?_
        refine v_getfield (pc := 27) cx flX12_7 (by assumption) gf0 dX12_mark_27 ?_
        refine v_bipush (pc := 30) cx (by decide) dX12_mark_30 ?_
        refine v_bipush (pc := 32) cx (by decide) dX12_mark_32 ?_
        refine v_iload_n (pc := 34) cx rfl ga2 dX12_mark_34 ?_
        refine v_imul (pc := 35) cx dX12_mark_35 ?_
        refine v_iadd (pc := 36) cx dX12_mark_36 ?_
        refine v_iload_n (pc := 37) cx rfl ga1 dX12_mark_37 ?_
        refine v_iadd (pc := 38) cx dX12_mark_38 ?_
        refine v_iaload (pc := 39) cx (124 + kn) (by assumption) (by omega) dX12_mark_39 ?_
        refine v_goto (pc := 40) cx 44 dX12_mark_40 rfl ?_
        refine v_ireturn (pc := 44) cx hI rfl ?_ dX12_mark_44
        exact ⟨e.2.1, rfl⟩
      · refine v_aload_n (pc := 26) cx rfl ga0 dX12_mark_26 ?_
        refine v_getfield (pc := 27) cx flX12_7 (by assumption) gf0 dX12_mark_27 ?_
        refine v_bipush (pc := 30) cx (by decide) dX12_mark_30 ?_
        refine v_bipush (pc := 32) cx (by decide) dX12_mark_32 ?_
        refine v_iload_n (pc := 34) cx rfl ga2 dX12_mark_34 ?_
        refine v_imul (pc := 35) cx dX12_mark_35 ?_
        refine v_iadd (pc := 36) cx dX12_mark_36 ?_
        refine v_iload_n (pc := 37) cx rfl ga1 dX12_mark_37 ?_
        refine v_iadd (pc := 38) cx dX12_mark_38 ?_
        refine v_iaload (pc := 39) cx (184 + kn) (by assumption) (by omega) dX12_mark_39 ?_
        refine v_goto (pc := 40) cx 44 dX12_mark_40 rfl ?_
        refine v_ireturn (pc := 44) cx hI rfl ?_ dX12_mark_44
        exact ⟨e.2.2, rfl⟩
