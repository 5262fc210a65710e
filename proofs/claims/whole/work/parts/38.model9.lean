theorem rM.da {G : Gc} {E E' : Wd} {st ty aa re rs sm : Int} {d d' w a a' c rd fi : Nat → Int} (h : rM G E st ty aa re rs sm d w a c rd fi) (hd : E' 125 = some (AI G 244 d')) (ha : E' 127 = some (AI G 244 a')) (hF : ∀ j, j ≠ 125 → j ≠ 127 → E' j = E j) : rM G E' st ty aa re rs sm d' w a' c rd fi :=
  ⟨(hF _ (by omega) (by omega)).trans h.1, hd, (hF _ (by omega) (by omega)).trans h.2.2.1, ha, (hF _ (by omega) (by omega)).trans h.2.2.2.2.1, (hF _ (by omega) (by omega)).trans h.2.2.2.2.2.1, (hF _ (by omega) (by omega)).trans h.2.2.2.2.2.2⟩
theorem ok_cap {σ : Sg} {c : Int} (h : ok σ) (hc : 20 ≤ c ∧ c ≤ 500) : ok (capσ σ c) := by
  obtain ⟨h1, h2, h3⟩ := h
  refine ⟨?_, ?_, h3⟩
  · unfold okSc capσ at *
    simp only [upI_n (show (0 : Nat) ≠ 11 by decide), upI_n (show (1 : Nat) ≠ 11 by decide), upI_n (show (2 : Nat) ≠ 11 by decide), upI_n (show (3 : Nat) ≠ 11 by decide), upI_n (show (4 : Nat) ≠ 11 by decide), upI_n (show (5 : Nat) ≠ 11 by decide), upI_n (show (6 : Nat) ≠ 11 by decide), upI_n (show (7 : Nat) ≠ 11 by decide), upI_n (show (8 : Nat) ≠ 11 by decide), upI_n (show (9 : Nat) ≠ 11 by decide), upI_n (show (10 : Nat) ≠ 11 by decide)]
    exact h1
  · unfold okSe capσ at *
    simp only [upI_s, upI_n (show (12 : Nat) ≠ 11 by decide), upI_n (show (13 : Nat) ≠ 11 by decide), upI_n (show (14 : Nat) ≠ 11 by decide), upI_n (show (15 : Nat) ≠ 11 by decide), upI_n (show (16 : Nat) ≠ 11 by decide), upI_n (show (17 : Nat) ≠ 11 by decide), upI_n (show (18 : Nat) ≠ 11 by decide)]
    exact ⟨hc, h2.2⟩
set_option maxRecDepth 100000 in
set_option maxHeartbeats 4000000 in
theorem r_ifRun (lc : Launch) (G : Gc) (E : Wd) (nh : Nat) {Ψ : Fs} {k w : Int} (h : isM G E Ψ) (hk : okX Ψ) (hk0 : -2147483648 ≤ k ∧ k < 2147483648) (hw : -2147483648 ≤ w ∧ w < 2147483648) : CI lc G 5 yX12_ifRun cX12_ifRun 5 .int [.ref (gb G + 124), .int (iI k), .int (iI w)] E nh 0 0 (fun v E' => v = vIfr Ψ k w ∧ isM G E' Ψ ∧ Out E E' 124 131) := by
  refine CI.mk (by decide +kernel) rfl (Nat.le_of_ble_eq_true rfl) ?_
  intro X hG hL cx hR hI
  subst hG; subst hL
  show V X E (nh, 0, 0) 0 [some (.ref (gb (fG X) + 124)), some (.int (iI k)), some (.int (iI w)), none, none] []
  obtain ⟨⟨s, sh, ge, mk⟩, hs, tx⟩ := Ψ
  obtain ⟨aa, re, rs, sm, d, w', a, c, rd, fi, hr, hD, hH, hC⟩ := id h
  obtain ⟨h0, hd, hw', ha, hc, hrd, hfi⟩ := id hr
  obtain ⟨q1, ⟨q2, q3⟩, ⟨q4, q5⟩, q6, q7⟩ := id hD
  obtain ⟨⟨ks, ke, k8, k9, k10⟩, ⟨kh, kh2⟩, kt⟩ := id hk
  simp only at h0 hr hD q1 q2 q3 q4 q5 q6 q7 hH hC ks ke k8 k9 k10 kh kh2 kt
  have g0 := q1 0 (by omega)
  have kt0 := ks.1
  have ksh : okSh (lst (ar d 27) (ar d 39) (ar d 51) sh.length) := by rw [q5]; exact k8
  have kge : okGe (lst2 (fun j => d (20 + 2 * j)) (fun j => d (21 + 2 * j)) ge.length) := by rw [q3]; exact k9
  have n8 := k8.1
  have n9 := k9.1
  have n10 := k10.1
  have bad1 : (¬ (1 ≤ k ∧ k ≤ 1000) ∨ ¬ (0 ≤ w ∧ w ≤ 7)) → V X E (nh, 0, 0) 21 [some (.ref (gb (fG X) + 124)), some (.int (iI k)), some (.int (iI w)), none, none] [] := by
    intro hb
    refine v_iconst (pc := 21) cx dX12_ifRun_21 ?_
    refine v_ireturn (pc := 22) cx hI rfl ?_ dX12_ifRun_22
    refine ⟨?_, h, fun _ _ => rfl⟩
    unfold vIfr
    by_cases q : 0 ≤ w ∧ w ≤ 7
    · have e0 : eTk ((s, sh, ge, mk), hs, tx) k = -1 := by
        unfold eTk
        rw [if_pos (by omega)]
      rw [if_neg (by omega), if_neg (by omega), e0]
    · rw [if_pos q]
  refine v_iload_n (pc := 0) cx rfl ga1 dX12_ifRun_0 ?_
  refine v_iconst (pc := 1) cx dX12_ifRun_1 ?_
  refine v_sipush (pc := 2) cx (by decide) dX12_ifRun_2 ?_
  refine v_callSI (pc := 5) cx hR (m_in _ _ _ _ (by omega)) mlX12_33 (by decide) rfl (Nat.le_of_ble_eq_true rfl) ⟨Nat.le_refl _, Nat.le_refl _⟩ dX12_ifRun_5 (fun r1 E1 hP => ?_)
  obtain ⟨w1, rfl⟩ := hP
  refine v_if_eq (pc := 8) cx 21 dX12_ifRun_8 rfl (by omega) (fun c8 => ?_) (fun c8 => ?_)
  · exact bad1 (Or.inl (by omega))
  · refine v_iload_n (pc := 11) cx rfl ga2 dX12_ifRun_11 ?_
    refine v_iconst (pc := 12) cx dX12_ifRun_12 ?_
    refine v_bipush (pc := 13) cx (by decide) dX12_ifRun_13 ?_
    refine v_callSI (pc := 15) cx hR (m_in _ _ _ _ (by omega)) mlX12_33 (by decide) rfl (Nat.le_of_ble_eq_true rfl) ⟨Nat.le_refl _, Nat.le_refl _⟩ dX12_ifRun_15 (fun r2 E2 hP => ?_)
    obtain ⟨w2, rfl⟩ := hP
    refine v_if_ne (pc := 18) cx 23 dX12_ifRun_18 rfl (by omega) (fun c18 => ?_) (fun c18 => ?_)
    · refine v_aload_n (pc := 23) cx rfl ga0 dX12_ifRun_23 ?_
      refine v_getfield (pc := 24) cx flX12_7 (by assumption) gf0 dX12_ifRun_24 ?_
      refine v_iconst (pc := 27) cx dX12_ifRun_27 ?_
      refine v_iaload (pc := 28) cx (0) (by assumption) (by omega) dX12_ifRun_28 ?_
      refine v_iload_n (pc := 29) cx rfl ga1 dX12_ifRun_29 ?_
      refine v_iadd (pc := 30) cx dX12_ifRun_30 ?_
      refine v_sipush (pc := 31) cx (by decide) dX12_ifRun_31 ?_
      refine v_icmp_le (pc := 34) cx 40 dX12_ifRun_34 rfl (by omega) (fun c34 => ?_) (fun c34 => ?_)
      · have e0 : eTk ((s, sh, ge, mk), hs, tx) k = 0 := by
          unfold eTk
          rw [if_neg (by omega), if_neg (by simp only; omega)]
        obtain ⟨kn, rfl⟩ := Int.eq_ofNat_of_zero_le (show 0 ≤ k by omega)
        unfold vIfr at hI
        simp only at hI
        rw [if_neg (by omega), if_pos e0, Int.toNat_natCast] at hI
        refine v_aload_n (pc := 40) cx rfl ga0 dX12_ifRun_40 ?_
        refine v_callVV (pc := 41) cx hR (m_keeps _ _ _ _ h0 hd ha) mlX12_106 (by decide) (by assumption) rfl rfl rfl (Nat.le_of_ble_eq_true rfl) ⟨Nat.le_refl _, Nat.le_refl _⟩ dX12_ifRun_41 (fun E3 hP => ?_)
        obtain ⟨⟨a', ha3, hva⟩, hF3⟩ := hP
        have h03 := (hF3 124 (by omega)).trans h0
        have hd3 := (hF3 125 (by omega)).trans hd
        refine v_aload_n (pc := 44) cx rfl ga0 dX12_ifRun_44 ?_
        refine v_iload_n (pc := 45) cx rfl ga1 dX12_ifRun_45 ?_
        refine v_callVI (pc := 46) cx hR (m_goes _ _ _ _ h03 hd3 hD hk.1 (by simp only; omega) (by omega)) mlX12_74 (by decide) (by assumption) rfl rfl rfl (Nat.le_of_ble_eq_true rfl) ⟨Nat.le_refl _, Nat.le_refl _⟩ dX12_ifRun_46 (fun v4 E4 hP => ?_)
        obtain ⟨hv4, ⟨dG, hd4, hD4⟩, hF4⟩ := hP
        have h04 := (hF4 124 (by omega)).trans h03
        have ha4 := (hF4 127 (by omega)).trans ha3
        have fin : ∀ v : Int, v = (if w = 0 then (tips (s, sh, ge, mk) kn : Int) else if w ≤ 4 then (ticks (s, sh, ge, mk) kn).1 (6 + w.toNat) - s (6 + w.toNat) else if w = 5 then (ticks (s, sh, ge, mk) kn).1 1 else if w = 6 then (ticks (s, sh, ge, mk) kn).1 2 else plG (ticks (s, sh, ge, mk) kn).2.2.1 ((ticks (s, sh, ge, mk) kn).1 5) ((ticks (s, sh, ge, mk) kn).1 16)) → V X E4 (nh, 0, 0) 106 [some (.ref (gb (fG X) + 124)), some (.int (iI (kn : Int))), some (.int (iI w)), some (.int (iI v4)), none] [.int (iI v)] := by
          intro v hv
          refine v_istore (pc := 106) cx (sa4 rfl) dX12_ifRun_106 ?_
          refine v_aload_n (pc := 108) cx rfl ga0 dX12_ifRun_108 ?_
          refine v_callVV (pc := 109) cx hR (m_restores _ _ _ _ h04 hd4 ha4) mlX12_109 (by decide) (by assumption) rfl rfl rfl (Nat.le_of_ble_eq_true rfl) ⟨Nat.le_refl _, Nat.le_refl _⟩ dX12_ifRun_109 (fun E5 hP => ?_)
          obtain ⟨⟨d5, hd5, hv5⟩, hF5⟩ := hP
          refine v_iload (pc := 112) cx ga4 dX12_ifRun_112 ?_
          refine v_ireturn (pc := 114) cx hI rfl ?_ dX12_ifRun_114
          refine ⟨hv, ⟨aa, re, rs, sm, d5, w', a', c, rd, fi, hr.da hd5 ((hF5 127 (by omega)).trans ha4) (fun j h1 h2 => (hF5 j (by omega)).trans ((hF4 j (by omega)).trans (hF3 j (by omega)))), hD.ext (fun i hi => (hv5 i hi).trans (hva i hi)) hk.1, hH, hC⟩, fun j hj => (hF5 j (by omega)).trans ((hF4 j (by omega)).trans (hF3 j (by omega)))⟩
        have hok := ok_ticks hk.1 kn (by simp only; omega)
        refine v_istore_n (pc := 49) cx rfl (sa3 rfl) dX12_ifRun_49 ?_
        refine v_iload_n (pc := 50) cx rfl ga2 dX12_ifRun_50 ?_
        refine v_if_ne (pc := 51) cx 58 dX12_ifRun_51 rfl (by omega) (fun c51 => ?_) (fun c51 => ?_)
        · by_cases q5 : w < 5
          · refine v_iload_n (pc := 58) cx rfl ga2 dX12_ifRun_58 ?_
            refine v_iconst (pc := 59) cx dX12_ifRun_59 ?_
            refine v_icmp_ge (pc := 60) cx 85 dX12_ifRun_60 rfl (by omega) (fun c60 => ?_) (fun c60 => ?_)
            · omega
            · obtain ⟨wn, rfl⟩ := Int.eq_ofNat_of_zero_le (show 0 ≤ w by omega)
              refine v_aload_n (pc := 63) cx rfl ga0 dX12_ifRun_63 ?_
              refine v_getfield (pc := 64) cx flX12_7 (by assumption) gf0 dX12_ifRun_64 ?_
              refine v_bipush (pc := 67) cx (by decide) dX12_ifRun_67 ?_
              refine v_iload_n (pc := 69) cx rfl ga2 dX12_ifRun_69 ?_
              refine v_iadd (pc := 70) cx dX12_ifRun_70 ?_
              refine v_iaload (pc := 71) cx (6 + wn) (by assumption) (by omega) dX12_ifRun_71 ?_
              refine v_aload_n (pc := 72) cx rfl ga0 dX12_ifRun_72 ?_
              refine v_getfield (pc := 73) cx flX12_16 (by assumption) gf3 dX12_ifRun_73 ?_
              refine v_bipush (pc := 76) cx (by decide) dX12_ifRun_76 ?_
              refine v_iload_n (pc := 78) cx rfl ga2 dX12_ifRun_78 ?_
              refine v_iadd (pc := 79) cx dX12_ifRun_79 ?_
              refine v_iaload (pc := 80) cx (6 + wn) (by assumption) (by omega) dX12_ifRun_80 ?_
              refine v_isub (pc := 81) cx dX12_ifRun_81 ?_
              refine v_goto (pc := 82) cx 106 dX12_ifRun_82 rfl ?_
              refine fin _ ?_
              rw [if_neg (by omega), if_pos (by omega), Int.toNat_natCast, hD4.1 _ (by omega), hva _ (by omega), q1 _ (by omega)]
          · refine v_iload_n (pc := 58) cx rfl ga2 dX12_ifRun_58 ?_
            refine v_iconst (pc := 59) cx dX12_ifRun_59 ?_
            refine v_icmp_ge (pc := 60) cx 85 dX12_ifRun_60 rfl (by omega) (fun c60 => ?_) (fun c60 => ?_)
            · rcases (show w = 5 ∨ w = 6 ∨ w = 7 by omega) with rfl | rfl | rfl
              · refine v_iload_n (pc := 85) cx rfl ga2 dX12_ifRun_85 ?_
                refine v_bipush (pc := 86) cx (by decide) dX12_ifRun_86 ?_
                refine v_icmp_ge (pc := 88) cx 102 dX12_ifRun_88 rfl (by omega) (fun c88 => ?_) (fun c88 => ?_)
                · omega
                · refine v_aload_n (pc := 91) cx rfl ga0 dX12_ifRun_91 ?_
                  refine v_getfield (pc := 92) cx flX12_7 (by assumption) gf0 dX12_ifRun_92 ?_
                  refine v_iload_n (pc := 95) cx rfl ga2 dX12_ifRun_95 ?_
                  refine v_iconst (pc := 96) cx dX12_ifRun_96 ?_
                  refine v_isub (pc := 97) cx dX12_ifRun_97 ?_
                  refine v_iaload (pc := 98) cx (1) (by assumption) (by omega) dX12_ifRun_98 ?_
                  refine v_goto (pc := 99) cx 106 dX12_ifRun_99 rfl ?_
                  refine fin _ ?_
                  rw [if_neg (by decide), if_neg (by decide), if_pos rfl, hD4.1 _ (by omega)]
              · refine v_iload_n (pc := 85) cx rfl ga2 dX12_ifRun_85 ?_
                refine v_bipush (pc := 86) cx (by decide) dX12_ifRun_86 ?_
                refine v_icmp_ge (pc := 88) cx 102 dX12_ifRun_88 rfl (by omega) (fun c88 => ?_) (fun c88 => ?_)
                · omega
                · refine v_aload_n (pc := 91) cx rfl ga0 dX12_ifRun_91 ?_
                  refine v_getfield (pc := 92) cx flX12_7 (by assumption) gf0 dX12_ifRun_92 ?_
                  refine v_iload_n (pc := 95) cx rfl ga2 dX12_ifRun_95 ?_
                  refine v_iconst (pc := 96) cx dX12_ifRun_96 ?_
                  refine v_isub (pc := 97) cx dX12_ifRun_97 ?_
                  refine v_iaload (pc := 98) cx (2) (by assumption) (by omega) dX12_ifRun_98 ?_
                  refine v_goto (pc := 99) cx 106 dX12_ifRun_99 rfl ?_
                  refine fin _ ?_
                  rw [if_neg (by decide), if_neg (by decide), if_neg (by decide), if_pos rfl, hD4.1 _ (by omega)]
              · refine v_iload_n (pc := 85) cx rfl ga2 dX12_ifRun_85 ?_
                refine v_bipush (pc := 86) cx (by decide) dX12_ifRun_86 ?_
                refine v_icmp_ge (pc := 88) cx 102 dX12_ifRun_88 rfl (by omega) (fun c88 => ?_) (fun c88 => ?_)
                · obtain ⟨p1, ⟨p2, p3⟩, p4⟩ := hD4
                  have kge4 : okGe (lst2 (fun j => dG (20 + 2 * j)) (fun j => dG (21 + 2 * j)) (ticks (s, sh, ge, mk) kn).2.2.1.length) := by rw [p3]; exact hok.2.2.2.1
                  have g16 := hok.2.1.2.2.2.2.2.1
                  refine v_aload_n (pc := 102) cx rfl ga0 dX12_ifRun_102 ?_
                  refine v_callVI (pc := 103) cx hR (m_place _ _ _ _ h04 hd4 p2 hok.2.2.2.1.1 (by rw [p1 16 (by omega)]; exact g16) (fun j hj => (okGe_at kge4 j hj).2)) mlX12_37 (by decide) (by assumption) rfl rfl rfl (Nat.le_of_ble_eq_true rfl) ⟨Nat.le_refl _, Nat.le_refl _⟩ dX12_ifRun_103 (fun v5 E5 hP => ?_)
                  obtain ⟨hv5, rfl⟩ := hP
                  refine fin _ ?_
                  rw [if_neg (by decide), if_neg (by decide), if_neg (by decide), if_neg (by decide), hv5, ← plG_lst, p3, p1 5 (by omega), p1 16 (by omega)]
                · omega
            · omega
        · refine v_iload_n (pc := 54) cx rfl ga3 dX12_ifRun_54 ?_
          refine v_goto (pc := 55) cx 106 dX12_ifRun_55 rfl ?_
          exact fin v4 (by rw [if_pos (by omega)]; exact hv4)
      · refine v_bipush (pc := 37) cx (by decide) dX12_ifRun_37 ?_
        refine v_ireturn (pc := 39) cx hI rfl ?_ dX12_ifRun_39
        refine ⟨?_, h, fun _ _ => rfl⟩
        have e0 : eTk ((s, sh, ge, mk), hs, tx) k = -3 := by
          unfold eTk
          rw [if_neg (by omega), if_pos (by simp only; omega)]
        unfold vIfr
        rw [if_neg (by omega), if_neg (by omega), e0]
    · exact bad1 (Or.inr (by omega))
set_option maxRecDepth 100000 in
set_option maxHeartbeats 4000000 in
theorem r_capacityFor (lc : Launch) (G : Gc) (E : Wd) (nh : Nat) {Ψ : Fs} {k mo : Int} (h : isM G E Ψ) (hk : okX Ψ) (hk0 : -2147483648 ≤ k ∧ k < 2147483648) (hmo : -2147483648 ≤ mo ∧ mo < 2147483648) : CI lc G 5 yX12_capacityFor cX12_capacityFor 6 .int [.ref (gb G + 124), .int (iI k), .int (iI mo)] E nh 0 0 (fun v E' => v = vCap Ψ k mo ∧ isM G E' Ψ ∧ Out E E' 124 131) := by
  refine CI.mk (by decide +kernel) rfl (Nat.le_of_ble_eq_true rfl) ?_
  intro X hG hL cx hR hI
  subst hG; subst hL
  show V X E (nh, 0, 0) 0 [some (.ref (gb (fG X) + 124)), some (.int (iI k)), some (.int (iI mo)), none, none, none] []
  obtain ⟨⟨s, sh, ge, mk⟩, hs, tx⟩ := Ψ
  obtain ⟨aa, re, rs, sm, d, w', a, c, rd, fi, hr, hD, hH, hC⟩ := id h
  obtain ⟨h0, hd, hw', ha, hc, hrd, hfi⟩ := id hr
  obtain ⟨q1, ⟨q2, q3⟩, ⟨q4, q5⟩, q6, q7⟩ := id hD
  obtain ⟨⟨ks, ke, k8, k9, k10⟩, ⟨kh, kh2⟩, kt⟩ := id hk
  simp only at h0 hr hD q1 q2 q3 q4 q5 q6 q7 hH hC ks ke k8 k9 k10 kh kh2 kt
  have g0 := q1 0 (by omega)
  have kt0 := ks.1
  have ksh : okSh (lst (ar d 27) (ar d 39) (ar d 51) sh.length) := by rw [q5]; exact k8
  have kge : okGe (lst2 (fun j => d (20 + 2 * j)) (fun j => d (21 + 2 * j)) ge.length) := by rw [q3]; exact k9
  have n8 := k8.1
  have n9 := k9.1
  have n10 := k10.1
  have bad1 : (¬ (1 ≤ k ∧ k ≤ 1000) ∨ ¬ (0 ≤ mo ∧ mo ≤ 100000)) → V X E (nh, 0, 0) 21 [some (.ref (gb (fG X) + 124)), some (.int (iI k)), some (.int (iI mo)), none, none, none] [] := by
    intro hb
    refine v_iconst (pc := 21) cx dX12_capacityFor_21 ?_
    refine v_ireturn (pc := 22) cx hI rfl ?_ dX12_capacityFor_22
    refine ⟨?_, h, fun _ _ => rfl⟩
    unfold vCap
    by_cases q : 0 ≤ mo ∧ mo ≤ 100000
    · have e0 : eTk ((s, sh, ge, mk), hs, tx) k = -1 := by
        unfold eTk
        rw [if_pos (by omega)]
      rw [if_neg (by omega), if_neg (by omega), e0]
    · rw [if_pos q]
  refine v_iload_n (pc := 0) cx rfl ga1 dX12_capacityFor_0 ?_
  refine v_iconst (pc := 1) cx dX12_capacityFor_1 ?_
  refine v_sipush (pc := 2) cx (by decide) dX12_capacityFor_2 ?_
  refine v_callSI (pc := 5) cx hR (m_in _ _ _ _ (by omega)) mlX12_33 (by decide) rfl (Nat.le_of_ble_eq_true rfl) ⟨Nat.le_refl _, Nat.le_refl _⟩ dX12_capacityFor_5 (fun r1 E1 hP => ?_)
  obtain ⟨w1, rfl⟩ := hP
  refine v_if_eq (pc := 8) cx 21 dX12_capacityFor_8 rfl (by omega) (fun c8 => ?_) (fun c8 => ?_)
  · exact bad1 (Or.inl (by omega))
  · refine v_iload_n (pc := 11) cx rfl ga2 dX12_capacityFor_11 ?_
    refine v_iconst (pc := 12) cx dX12_capacityFor_12 ?_
    refine v_ldc (pc := 13) cx kcX12_112 dX12_capacityFor_13 ?_
    refine v_callSI (pc := 15) cx hR (m_in _ _ _ _ (by omega)) mlX12_33 (by decide) rfl (Nat.le_of_ble_eq_true rfl) ⟨Nat.le_refl _, Nat.le_refl _⟩ dX12_capacityFor_15 (fun r2 E2 hP => ?_)
    obtain ⟨w2, rfl⟩ := hP
    refine v_if_ne (pc := 18) cx 23 dX12_capacityFor_18 rfl (by omega) (fun c18 => ?_) (fun c18 => ?_)
    · refine v_aload_n (pc := 23) cx rfl ga0 dX12_capacityFor_23 ?_
      refine v_getfield (pc := 24) cx flX12_7 (by assumption) gf0 dX12_capacityFor_24 ?_
      refine v_iconst (pc := 27) cx dX12_capacityFor_27 ?_
      refine v_iaload (pc := 28) cx (0) (by assumption) (by omega) dX12_capacityFor_28 ?_
      refine v_iload_n (pc := 29) cx rfl ga1 dX12_capacityFor_29 ?_
      refine v_iadd (pc := 30) cx dX12_capacityFor_30 ?_
      refine v_sipush (pc := 31) cx (by decide) dX12_capacityFor_31 ?_
      refine v_icmp_le (pc := 34) cx 40 dX12_capacityFor_34 rfl (by omega) (fun c34 => ?_) (fun c34 => ?_)
      · have e0 : eTk ((s, sh, ge, mk), hs, tx) k = 0 := by
          unfold eTk
          rw [if_neg (by omega), if_neg (by simp only; omega)]
        obtain ⟨kn, rfl⟩ := Int.eq_ofNat_of_zero_le (show 0 ≤ k by omega)
        unfold vCap at hI
        simp only at hI
        rw [if_neg (by omega), if_pos e0, Int.toNat_natCast] at hI
        refine v_aload_n (pc := 40) cx rfl ga0 dX12_capacityFor_40 ?_
        refine v_callVV (pc := 41) cx hR (m_keeps _ _ _ _ h0 hd ha) mlX12_106 (by decide) (by assumption) rfl rfl rfl (Nat.le_of_ble_eq_true rfl) ⟨Nat.le_refl _, Nat.le_refl _⟩ dX12_capacityFor_41 (fun E3 hP => ?_)
        obtain ⟨⟨a', ha3, hva⟩, hF3⟩ := hP
        have loop : ∀ (q c0 : Nat) (fo : Int) (d' : Nat → Int) (E' : Wd) (l5 : Option Value), 20 ≤ c0 → c0 ≤ 501 → 501 - c0 < q → ((fo = -4 ∧ srch (s, sh, ge, mk) kn mo 481 20 = srch (s, sh, ge, mk) kn mo (501 - c0) (c0 : Int)) ∨ (20 ≤ fo ∧ fo ≤ 500 ∧ srch (s, sh, ge, mk) kn mo 481 20 = fo)) → E' 125 = some (AI (fG X) 244 d') → E' 127 = some (AI (fG X) 244 a') → isD d' (s, sh, ge, mk) → (∀ j, j ≠ 125 → j ≠ 127 → E' j = E2 j) → V X E' (nh, 0, 0) 51 [some (.ref (gb (fG X) + 124)), some (.int (iI (kn : Int))), some (.int (iI mo)), some (.int (iI fo)), some (.int (iI (c0 : Int))), l5] [] := by
          intro q
          induction q with
          | zero => intro c0 fo d' E' l5 h1 h2 h3; omega
          | succ q ih =>
            intro c0 fo d' E' l5 hc1 hc2 hq hfo hd ha hD hF
            have h0 := (hF 124 (by omega) (by omega)).trans h0
            have fin : srch (s, sh, ge, mk) kn mo 481 20 = fo → V X E' (nh, 0, 0) 136 [some (.ref (gb (fG X) + 124)), some (.int (iI (kn : Int))), some (.int (iI mo)), some (.int (iI fo)), some (.int (iI (c0 : Int))), l5] [] := by
              intro hfin
              refine v_iload_n (pc := 136) cx rfl ga3 dX12_capacityFor_136 ?_
              refine v_ireturn (pc := 137) cx hI rfl ?_ dX12_capacityFor_137
              exact ⟨hfin.symm, ⟨aa, re, rs, sm, d', w', a', c, rd, fi, hr.da hd ha hF, hD, hH, hC⟩, fun j hj => hF j (by omega) (by omega)⟩
            refine v_iload (pc := 51) cx ga4 dX12_capacityFor_51 ?_
            refine v_sipush (pc := 53) cx (by decide) dX12_capacityFor_53 ?_
            refine v_icmp_gt (pc := 56) cx 136 dX12_capacityFor_56 rfl (by omega) (fun c56 => ?_) (fun c56 => ?_)
            · refine fin ?_
              rcases hfo with ⟨h1, h2⟩ | ⟨h1, h2, h3⟩
              · rw [h2, show 501 - c0 = 0 by omega, h1]
                rfl
              · exact h3
            · refine v_iload_n (pc := 59) cx rfl ga3 dX12_capacityFor_59 ?_
              refine v_bipush (pc := 60) cx (by decide) dX12_capacityFor_60 ?_
              refine v_icmp_ne (pc := 62) cx 136 dX12_capacityFor_62 rfl (by omega) (fun c62 => ?_) (fun c62 => ?_)
              · refine fin ?_
                rcases hfo with ⟨h1, h2⟩ | ⟨h1, h2, h3⟩
                · omega
                · exact h3
              · obtain ⟨hfo1, hfo2⟩ : fo = -4 ∧ srch (s, sh, ge, mk) kn mo 481 20 = srch (s, sh, ge, mk) kn mo (501 - c0) (c0 : Int) := by
                  rcases hfo with hfo | ⟨h1, h2, h3⟩
                  · exact hfo
                  · omega
                have hst : srch (s, sh, ge, mk) kn mo (501 - c0) (c0 : Int) = if gnV (s, sh, ge, mk) kn (c0 : Int) ≤ mo then (c0 : Int) else srch (s, sh, ge, mk) kn mo (501 - (c0 + 1)) ((c0 + 1 : Nat) : Int) := by
                  rw [show 501 - c0 = (501 - (c0 + 1)) + 1 by omega]
                  rfl
                have hokc := ok_cap (σ := (s, sh, ge, mk)) (c := (c0 : Int)) hk.1 (by omega)
                have hFr : Out E' E' 125 126 := fun _ _ => rfl
                refine v_aload_n (pc := 65) cx rfl ga0 dX12_capacityFor_65 ?_
                refine v_getfield (pc := 66) cx flX12_7 (by assumption) gf0 dX12_capacityFor_66 ?_
                refine v_bipush (pc := 69) cx (by decide) dX12_capacityFor_69 ?_
                refine v_iload (pc := 71) cx ga4 dX12_capacityFor_71 ?_
                refine v_iastore (pc := 73) cx (11) hd (by omega) dX12_capacityFor_73 (fun E73 hE73 hF73 => ?_)
                replace h0 := (hF73 _ (by omega)).trans h0
                replace ha := (hF73 _ (by omega)).trans ha
                replace hFr := fun j hj => (hF73 j (by omega)).trans (hFr j hj)
                replace hd := hE73
                have hD2 : isD _ (capσ (s, sh, ge, mk) (c0 : Int)) := hD.upS (k := 11) (x := (c0 : Int)) (by omega)
                refine v_aload_n (pc := 74) cx rfl ga0 dX12_capacityFor_74 ?_
                refine v_iload_n (pc := 75) cx rfl ga1 dX12_capacityFor_75 ?_
                refine v_callVI (pc := 76) cx hR (m_goes _ _ _ _ h0 hd hD2 hokc (by show upI s 11 (c0 : Int) 0 + _ ≤ _; rw [upI_n (by decide)]; omega) (by omega)) mlX12_74 (by decide) (by assumption) rfl rfl rfl (Nat.le_of_ble_eq_true rfl) ⟨Nat.le_refl _, Nat.le_refl _⟩ dX12_capacityFor_76 (fun v4 E4 hP => ?_)
                obtain ⟨-, ⟨dG, hd4, hD4⟩, hF4⟩ := hP
                have h04 := (hF4 124 (by omega)).trans h0
                have ha4 := (hF4 127 (by omega)).trans ha
                have hok := ok_ticks hokc kn (by show upI s 11 (c0 : Int) 0 + _ ≤ _; rw [upI_n (by decide)]; omega)
                have hsc4 := hok.1
                unfold okSc at hsc4
                have u9 := hD4.1 9 (by omega)
                have u8 := hD4.1 8 (by omega)
                have b9 := (hva 9 (by omega)).trans (q1 9 (by omega))
                have b8 := (hva 8 (by omega)).trans (q1 8 (by omega))
                have hks := ks
                unfold okSc at hks
                have hgn : gnV (s, sh, ge, mk) kn (c0 : Int) = (ticks (capσ (s, sh, ge, mk) (c0 : Int)) kn).1 9 - s 9 + (ticks (capσ (s, sh, ge, mk) (c0 : Int)) kn).1 8 - s 8 := rfl
                refine v_pop (pc := 79) cx rfl dX12_capacityFor_79 ?_
                refine v_aload_n (pc := 80) cx rfl ga0 dX12_capacityFor_80 ?_
                refine v_getfield (pc := 81) cx flX12_7 (by assumption) gf0 dX12_capacityFor_81 ?_
                refine v_bipush (pc := 84) cx (by decide) dX12_capacityFor_84 ?_
                refine v_iaload (pc := 86) cx (9) (by assumption) (by omega) dX12_capacityFor_86 ?_
                refine v_aload_n (pc := 87) cx rfl ga0 dX12_capacityFor_87 ?_
                refine v_getfield (pc := 88) cx flX12_16 (by assumption) gf3 dX12_capacityFor_88 ?_
                refine v_bipush (pc := 91) cx (by decide) dX12_capacityFor_91 ?_
                refine v_iaload (pc := 93) cx (9) (by assumption) (by omega) dX12_capacityFor_93 ?_
                refine v_isub (pc := 94) cx dX12_capacityFor_94 ?_
                refine v_aload_n (pc := 95) cx rfl ga0 dX12_capacityFor_95 ?_
                refine v_getfield (pc := 96) cx flX12_7 (by assumption) gf0 dX12_capacityFor_96 ?_
                refine v_bipush (pc := 99) cx (by decide) dX12_capacityFor_99 ?_
                refine v_iaload (pc := 101) cx (8) (by assumption) (by omega) dX12_capacityFor_101 ?_
                refine v_iadd (pc := 102) cx dX12_capacityFor_102 ?_
                refine v_aload_n (pc := 103) cx rfl ga0 dX12_capacityFor_103 ?_
                refine v_getfield (pc := 104) cx flX12_16 (by assumption) gf3 dX12_capacityFor_104 ?_
                refine v_bipush (pc := 107) cx (by decide) dX12_capacityFor_107 ?_
                refine v_iaload (pc := 109) cx (8) (by assumption) (by omega) dX12_capacityFor_109 ?_
                refine v_isub (pc := 110) cx dX12_capacityFor_110 ?_
                refine v_istore (pc := 111) cx (sa5 rfl) dX12_capacityFor_111 ?_
                refine v_iload (pc := 113) cx ga5 dX12_capacityFor_113 ?_
                refine v_iload_n (pc := 115) cx rfl ga2 dX12_capacityFor_115 ?_
                refine v_icmp_gt (pc := 116) cx 124 dX12_capacityFor_116 rfl (by omega) (fun c116 => ?_) (fun c116 => ?_)
                · refine v_iload_n (pc := 124) cx rfl ga3 dX12_capacityFor_124 ?_
                  refine v_istore_n (pc := 125) cx rfl (sa3 rfl) dX12_capacityFor_125 ?_
                  refine v_aload_n (pc := 126) cx rfl ga0 dX12_capacityFor_126 ?_
                  refine v_callVV (pc := 127) cx hR (m_restores _ _ _ _ h04 hd4 ha4) mlX12_109 (by decide) (by assumption) rfl rfl rfl (Nat.le_of_ble_eq_true rfl) ⟨Nat.le_refl _, Nat.le_refl _⟩ dX12_capacityFor_127 (fun E5 hP => ?_)
                  obtain ⟨⟨d5, hd5, hv5⟩, hF5⟩ := hP
                  refine v_iinc (pc := 130) cx ga4 (sa4 rfl) dX12_capacityFor_130 ?_
                  refine v_goto (pc := 133) cx 51 dX12_capacityFor_133 rfl ?_
                  rw [hst, if_neg (by omega)] at hfo2
                  exact ih (c0 + 1) fo d5 E5 _ (by omega) (by omega) (by omega) (Or.inl ⟨hfo1, hfo2⟩) hd5 ((hF5 127 (by omega)).trans ha4) ((show isD d (s, sh, ge, mk) by assumption).ext (fun i hi => (hv5 i hi).trans (hva i hi)) hk.1) (fun j h1 h2 => (hF5 j (by omega)).trans ((hF4 j (by omega)).trans ((hFr j (by omega)).trans (hF j h1 h2))))
                · refine v_iload (pc := 119) cx ga4 dX12_capacityFor_119 ?_
                  refine v_goto (pc := 121) cx 125 dX12_capacityFor_121 rfl ?_
                  refine v_istore_n (pc := 125) cx rfl (sa3 rfl) dX12_capacityFor_125 ?_
                  refine v_aload_n (pc := 126) cx rfl ga0 dX12_capacityFor_126 ?_
                  refine v_callVV (pc := 127) cx hR (m_restores _ _ _ _ h04 hd4 ha4) mlX12_109 (by decide) (by assumption) rfl rfl rfl (Nat.le_of_ble_eq_true rfl) ⟨Nat.le_refl _, Nat.le_refl _⟩ dX12_capacityFor_127 (fun E5 hP => ?_)
                  obtain ⟨⟨d5, hd5, hv5⟩, hF5⟩ := hP
                  refine v_iinc (pc := 130) cx ga4 (sa4 rfl) dX12_capacityFor_130 ?_
                  refine v_goto (pc := 133) cx 51 dX12_capacityFor_133 rfl ?_
                  rw [hst, if_pos (by omega)] at hfo2
                  exact ih (c0 + 1) _ d5 E5 _ (by omega) (by omega) (by omega) (Or.inr ⟨by omega, by omega, hfo2⟩) hd5 ((hF5 127 (by omega)).trans ha4) ((show isD d (s, sh, ge, mk) by assumption).ext (fun i hi => (hv5 i hi).trans (hva i hi)) hk.1) (fun j h1 h2 => (hF5 j (by omega)).trans ((hF4 j (by omega)).trans ((hFr j (by omega)).trans (hF j h1 h2))))
        refine v_bipush (pc := 44) cx (by decide) dX12_capacityFor_44 ?_
        refine v_istore_n (pc := 46) cx rfl (sa3 rfl) dX12_capacityFor_46 ?_
        refine v_bipush (pc := 47) cx (by decide) dX12_capacityFor_47 ?_
        refine v_istore (pc := 49) cx (sa4 rfl) dX12_capacityFor_49 ?_
        exact loop 502 20 (-4) d E3 none (by omega) (by omega) (by omega) (Or.inl ⟨rfl, rfl⟩) ((hF3 125 (by omega)).trans hd) ha3 hD (fun j h1 h2 => hF3 j (by omega))
      · refine v_bipush (pc := 37) cx (by decide) dX12_capacityFor_37 ?_
        refine v_ireturn (pc := 39) cx hI rfl ?_ dX12_capacityFor_39
        refine ⟨?_, h, fun _ _ => rfl⟩
        have e0 : eTk ((s, sh, ge, mk), hs, tx) k = -3 := by
          unfold eTk
          rw [if_neg (by omega), if_pos (by simp only; omega)]
        unfold vCap
        rw [if_neg (by omega), if_neg (by omega), e0]
    · exact bad1 (Or.inr (by omega))
set_option maxRecDepth 100000 in
set_option maxHeartbeats 4000000 in
theorem r_untilStop (lc : Launch) (G : Gc) (E : Wd) (nh : Nat) {Ψ : Fs} (h : isM G E Ψ) (hk : okX Ψ) : CI lc G 5 yX12_untilStop cX12_untilStop 1 .int [.ref (gb G + 124)] E nh 0 0 (fun v E' => v = Ψ.1.1 4 ∧ E' = E) := by
  refine CI.mk (by decide +kernel) rfl (Nat.le_of_ble_eq_true rfl) ?_
  intro X hG hL cx hR hI
  subst hG; subst hL
  show V X E (nh, 0, 0) 0 [some (.ref (gb (fG X) + 124))] []
  obtain ⟨⟨s, sh, ge, mk⟩, hs, tx⟩ := Ψ
  obtain ⟨aa, re, rs, sm, d, w', a, c, rd, fi, hr, hD, hH, hC⟩ := id h
  obtain ⟨h0, hd, hw', ha, hc, hrd, hfi⟩ := id hr
  obtain ⟨q1, ⟨q2, q3⟩, ⟨q4, q5⟩, q6, q7⟩ := id hD
  obtain ⟨⟨ks, ke, k8, k9, k10⟩, ⟨kh, kh2⟩, kt⟩ := id hk
  simp only at h0 hr hD q1 q2 q3 q4 q5 q6 q7 hH hC ks ke k8 k9 k10 kh kh2 kt
  have g0 := q1 0 (by omega)
  have kt0 := ks.1
  have ksh : okSh (lst (ar d 27) (ar d 39) (ar d 51) sh.length) := by rw [q5]; exact k8
  have kge : okGe (lst2 (fun j => d (20 + 2 * j)) (fun j => d (21 + 2 * j)) ge.length) := by rw [q3]; exact k9
  have n8 := k8.1
  have n9 := k9.1
  have n10 := k10.1
  refine v_aload_n (pc := 0) cx rfl ga0 dX12_untilStop_0 ?_
  refine v_getfield (pc := 1) cx flX12_7 (by assumption) gf0 dX12_untilStop_1 ?_
  refine v_iconst (pc := 4) cx dX12_untilStop_4 ?_
  refine v_iaload (pc := 5) cx (4) (by assumption) (by omega) dX12_untilStop_5 ?_
  refine v_ireturn (pc := 6) cx hI rfl ?_ dX12_untilStop_6
  exact ⟨q1 4 (by omega), rfl⟩
set_option maxRecDepth 100000 in
set_option maxHeartbeats 4000000 in
theorem r_gearsFor (lc : Launch) (G : Gc) (E : Wd) (nh : Nat) {Ψ : Fs} {k : Int} (h : isM G E Ψ) (hk : okX Ψ) (hk0 : -2147483648 ≤ k ∧ k < 2147483648) : CI lc G 5 yX12_gearsFor cX12_gearsFor 4 .int [.ref (gb G + 124), .int (iI k)] E nh 0 0 (fun v E' => v = vGfo Ψ k ∧ E' = E) := by
  refine CI.mk (by decide +kernel) rfl (Nat.le_of_ble_eq_true rfl) ?_
  intro X hG hL cx hR hI
  subst hG; subst hL
  show V X E (nh, 0, 0) 0 [some (.ref (gb (fG X) + 124)), some (.int (iI k)), none, none] []
  obtain ⟨⟨s, sh, ge, mk⟩, hs, tx⟩ := Ψ
  obtain ⟨aa, re, rs, sm, d, w', a, c, rd, fi, hr, hD, hH, hC⟩ := id h
  obtain ⟨h0, hd, hw', ha, hc, hrd, hfi⟩ := id hr
  obtain ⟨q1, ⟨q2, q3⟩, ⟨q4, q5⟩, q6, q7⟩ := id hD
  obtain ⟨⟨ks, ke, k8, k9, k10⟩, ⟨kh, kh2⟩, kt⟩ := id hk
  simp only at h0 hr hD q1 q2 q3 q4 q5 q6 q7 hH hC ks ke k8 k9 k10 kh kh2 kt
  have g0 := q1 0 (by omega)
  have kt0 := ks.1
  have ksh : okSh (lst (ar d 27) (ar d 39) (ar d 51) sh.length) := by rw [q5]; exact k8
  have kge : okGe (lst2 (fun j => d (20 + 2 * j)) (fun j => d (21 + 2 * j)) ge.length) := by rw [q3]; exact k9
  have n8 := k8.1
  have n9 := k9.1
  have n10 := k10.1
  have g16 := q1 16 (by omega)
  have hte := ke.2.2.2.2.2.1
  refine v_iload_n (pc := 0) cx rfl ga1 dX12_gearsFor_0 ?_
  refine v_iconst (pc := 1) cx dX12_gearsFor_1 ?_
  refine v_ldc (pc := 2) cx kcX12_112 dX12_gearsFor_2 ?_
  refine v_callSI (pc := 4) cx hR (m_in _ _ _ _ (by omega)) mlX12_33 (by decide) rfl (Nat.le_of_ble_eq_true rfl) ⟨Nat.le_refl _, Nat.le_refl _⟩ dX12_gearsFor_4 (fun r1 E1 hP => ?_)
  obtain ⟨w1, rfl⟩ := hP
  refine v_if_ne (pc := 7) cx 12 dX12_gearsFor_7 rfl (by omega) (fun c7 => ?_) (fun c7 => ?_)
  · unfold vGfo at hI
    simp only at hI
    rw [if_neg (by omega), ← g16] at hI
    rw [← g16] at hte
    have loop : ∀ (q x : Nat) (l3 : Option Value), 8 ≤ x → x ≤ 121 → 121 - x < q → gsr (d 16) k 113 8 = gsr (d 16) k (121 - x) (x : Int) → V X E1 (nh, 0, 0) 15 [some (.ref (gb (fG X) + 124)), some (.int (iI k)), some (.int (iI (x : Int))), l3] [] := by
      intro q
      induction q with
      | zero => intro x l3 h1 h2 h3; omega
      | succ q ih =>
        intro x l3 hx1 hx2 hq hg
        refine v_iload_n (pc := 15) cx rfl ga2 dX12_gearsFor_15 ?_
        refine v_bipush (pc := 16) cx (by decide) dX12_gearsFor_16 ?_
        refine v_icmp_gt (pc := 18) cx 65 dX12_gearsFor_18 rfl (by omega) (fun c18 => ?_) (fun c18 => ?_)
        · refine v_bipush (pc := 65) cx (by decide) dX12_gearsFor_65 ?_
          refine v_ireturn (pc := 67) cx hI rfl ?_ dX12_gearsFor_67
          rw [hg, show 121 - x = 0 by omega]
          exact ⟨rfl, rfl⟩
        · have hst : gsr (d 16) k (121 - x) (x : Int) = if d 16 * (k * x / d 16) = k * x ∧ 8 ≤ k * x / d 16 ∧ k * x / d 16 ≤ 120 then 1000 * x + k * x / d 16 else gsr (d 16) k (121 - (x + 1)) ((x + 1 : Nat) : Int) := by
            rw [show 121 - x = (121 - (x + 1)) + 1 by omega]
            rfl
          have m1 : 0 ≤ k * (x : Int) ∧ k * (x : Int) ≤ 12000000 := by
            refine ⟨Int.mul_nonneg (by omega) (by omega), ?_⟩
            have h1 : k * (x : Int) ≤ k * 120 := Int.mul_le_mul_of_nonneg_left (by omega) (by omega)
            omega
          have inner : ∀ (p y : Nat), 8 ≤ y → y ≤ 121 → 121 - y < p → (∀ z : Nat, 8 ≤ z → z < y → d 16 * (z : Int) ≠ k * (x : Int)) → V X E1 (nh, 0, 0) 24 [some (.ref (gb (fG X) + 124)), some (.int (iI k)), some (.int (iI (x : Int))), some (.int (iI (y : Int)))] [] := by
            intro p
            induction p with
            | zero => intro y h1 h2 h3; omega
            | succ p ihp =>
              intro y hy1 hy2 hp hno
              refine v_iload_n (pc := 24) cx rfl ga3 dX12_gearsFor_24 ?_
              refine v_bipush (pc := 25) cx (by decide) dX12_gearsFor_25 ?_
              refine v_icmp_gt (pc := 27) cx 59 dX12_gearsFor_27 rfl (by omega) (fun c27 => ?_) (fun c27 => ?_)
              · refine v_iinc (pc := 59) cx ga2 (sa2 rfl) dX12_gearsFor_59 ?_
                refine v_goto (pc := 62) cx 15 dX12_gearsFor_62 rfl ?_
                rw [hst, if_neg ?_] at hg
                · exact ih (x + 1) _ (by omega) (by omega) (by omega) hg
                · intro ⟨z1, z2, z3⟩
                  obtain ⟨zn, hzn⟩ := Int.eq_ofNat_of_zero_le (show 0 ≤ k * (x : Int) / d 16 by omega)
                  rw [hzn] at z1 z2 z3
                  exact hno zn (by omega) (by omega) z1
              · have m2 : 0 ≤ d 16 * (y : Int) ∧ d 16 * (y : Int) ≤ 120000 := by
                  refine ⟨Int.mul_nonneg (by omega) (by omega), ?_⟩
                  have h1 : d 16 * (y : Int) ≤ d 16 * 120 := Int.mul_le_mul_of_nonneg_left (by omega) (by omega)
                  omega
                refine v_aload_n (pc := 30) cx rfl ga0 dX12_gearsFor_30 ?_
                refine v_getfield (pc := 31) cx flX12_7 (by assumption) gf0 dX12_gearsFor_31 ?_
                refine v_bipush (pc := 34) cx (by decide) dX12_gearsFor_34 ?_
                refine v_iaload (pc := 36) cx (16) (by assumption) (by omega) dX12_gearsFor_36 ?_
                refine v_iload_n (pc := 37) cx rfl ga3 dX12_gearsFor_37 ?_
                refine v_imul (pc := 38) cx dX12_gearsFor_38 ?_
                refine v_iload_n (pc := 39) cx rfl ga1 dX12_gearsFor_39 ?_
                refine v_iload_n (pc := 40) cx rfl ga2 dX12_gearsFor_40 ?_
                refine v_imul (pc := 41) cx dX12_gearsFor_41 ?_
                refine v_icmp_ne (pc := 42) cx 53 dX12_gearsFor_42 rfl (by omega) (fun c42 => ?_) (fun c42 => ?_)
                · refine v_iinc (pc := 53) cx ga3 (sa3 rfl) dX12_gearsFor_53 ?_
                  refine v_goto (pc := 56) cx 24 dX12_gearsFor_56 rfl ?_
                  refine ihp (y + 1) (by omega) (by omega) (by omega) (fun z hz1 hz2 => ?_)
                  by_cases ez : z = y
                  · subst ez; assumption
                  · exact hno z hz1 (by omega)
                · refine v_sipush (pc := 45) cx (by decide) dX12_gearsFor_45 ?_
                  refine v_iload_n (pc := 48) cx rfl ga2 dX12_gearsFor_48 ?_
                  refine v_imul (pc := 49) cx dX12_gearsFor_49 ?_
                  refine v_iload_n (pc := 50) cx rfl ga3 dX12_gearsFor_50 ?_
                  refine v_iadd (pc := 51) cx dX12_gearsFor_51 ?_
                  refine v_ireturn (pc := 52) cx hI rfl ?_ dX12_gearsFor_52
                  have ey : k * (x : Int) / d 16 = (y : Int) := by
                    rw [show k * (x : Int) = d 16 * (y : Int) by omega]
                    exact Int.mul_ediv_cancel_left _ (by omega)
                  rw [hg, hst, ey, if_pos ⟨by assumption, by omega, by omega⟩]
                  exact ⟨rfl, rfl⟩
          refine v_bipush (pc := 21) cx (by decide) dX12_gearsFor_21 ?_
          refine v_istore_n (pc := 23) cx rfl (sa3 rfl) dX12_gearsFor_23 ?_
          exact inner 114 8 (by omega) (by omega) (by omega) (fun z h1 h2 => by omega)
    refine v_bipush (pc := 12) cx (by decide) dX12_gearsFor_12 ?_
    refine v_istore_n (pc := 14) cx rfl (sa2 rfl) dX12_gearsFor_14 ?_
    exact loop 114 8 none (by omega) (by omega) (by omega) rfl
  · refine v_iconst (pc := 10) cx dX12_gearsFor_10 ?_
    refine v_ireturn (pc := 11) cx hI rfl ?_ dX12_gearsFor_11
    refine ⟨?_, rfl⟩
    unfold vGfo
    rw [if_pos (by omega)]
set_option maxRecDepth 100000 in
set_option maxHeartbeats 4000000 in
theorem r_type (lc : Launch) (G : Gc) (E : Wd) (nh : Nat) {Ψ : Fs} {k : Int} (h : isM G E Ψ) (hk : okX Ψ) (hk0 : -2147483648 ≤ k ∧ k < 2147483648) : CI lc G 5 yX12_type cX12_type 2 .int [.ref (gb G + 124), .int (iI k)] E nh 0 0 (fun v E' => v = vTyp Ψ k ∧ isM G E' (sTyp Ψ k) ∧ Out E E' 124 131) := by
  refine CI.mk (by decide +kernel) rfl (Nat.le_of_ble_eq_true rfl) ?_
  intro X hG hL cx hR hI
  subst hG; subst hL
  show V X E (nh, 0, 0) 0 [some (.ref (gb (fG X) + 124)), some (.int (iI k))] []
  obtain ⟨⟨s, sh, ge, mk⟩, hs, tx⟩ := Ψ
  obtain ⟨aa, re, rs, sm, d, w', a, c, rd, fi, hr, hD, hH, hC⟩ := id h
  obtain ⟨h0, hd, hw', ha, hc, hrd, hfi⟩ := id hr
  obtain ⟨q1, ⟨q2, q3⟩, ⟨q4, q5⟩, q6, q7⟩ := id hD
  obtain ⟨⟨ks, ke, k8, k9, k10⟩, ⟨kh, kh2⟩, kt⟩ := id hk
  simp only at h0 hr hD q1 q2 q3 q4 q5 q6 q7 hH hC ks ke k8 k9 k10 kh kh2 kt
  have g0 := q1 0 (by omega)
  have kt0 := ks.1
  have ksh : okSh (lst (ar d 27) (ar d 39) (ar d 51) sh.length) := by rw [q5]; exact k8
  have kge : okGe (lst2 (fun j => d (20 + 2 * j)) (fun j => d (21 + 2 * j)) ge.length) := by rw [q3]; exact k9
  have n8 := k8.1
  have n9 := k9.1
  have n10 := k10.1
  have n100 := kt.1
  refine v_iload_n (pc := 0) cx rfl ga1 dX12_type_0 ?_
  refine v_bipush (pc := 1) cx (by decide) dX12_type_1 ?_
  refine v_bipush (pc := 3) cx (by decide) dX12_type_3 ?_
  refine v_callSI (pc := 5) cx hR (m_in _ _ _ _ (by omega)) mlX12_33 (by decide) rfl (Nat.le_of_ble_eq_true rfl) ⟨Nat.le_refl _, Nat.le_refl _⟩ dX12_type_5 (fun r1 E1 hP => ?_)
  obtain ⟨w1, rfl⟩ := hP
  refine v_if_ne (pc := 8) cx 13 dX12_type_8 rfl (by omega) (fun c8 => ?_) (fun c8 => ?_)
  · refine v_aload_n (pc := 13) cx rfl ga0 dX12_type_13 ?_
    refine v_getfield (pc := 14) cx flX12_91 (by assumption) gf5 dX12_type_14 ?_
    refine v_bipush (pc := 17) cx (by decide) dX12_type_17 ?_
    refine v_icmp_ne (pc := 19) cx 25 dX12_type_19 rfl (by omega) (fun c19 => ?_) (fun c19 => ?_)
    · have hFr : ∀ j, j ≠ 124 → j ≠ 128 → E1 j = E1 j := fun _ _ _ => rfl
      refine v_aload_n (pc := 25) cx rfl ga0 dX12_type_25 ?_
      refine v_getfield (pc := 26) cx flX12_19 (by assumption) gf4 dX12_type_26 ?_
      refine v_aload_n (pc := 29) cx rfl ga0 dX12_type_29 ?_
      refine v_getfield (pc := 30) cx flX12_91 (by assumption) gf5 dX12_type_30 ?_
      refine v_iload_n (pc := 33) cx rfl ga1 dX12_type_33 ?_
      refine v_i2c (pc := 34) cx (by omega) dX12_type_34 ?_
      refine v_castore (pc := 35) cx (tx.length) hc (by omega) (nar_char (by omega)) dX12_type_35 (fun E35 hE35 hF35 => ?_)
      replace h0 := (hF35 _ (by omega)).trans h0
      replace hd := (hF35 _ (by omega)).trans hd
      replace hw' := (hF35 _ (by omega)).trans hw'
      replace ha := (hF35 _ (by omega)).trans ha
      replace hrd := (hF35 _ (by omega)).trans hrd
      replace hfi := (hF35 _ (by omega)).trans hfi
      replace hc := hE35
      have hF1 := hF35
      refine v_aload_n (pc := 36) cx rfl ga0 dX12_type_36 ?_
      refine v_dup (pc := 37) cx rfl dX12_type_37 ?_
      refine v_getfield (pc := 38) cx flX12_91 (by assumption) gf5 dX12_type_38 ?_
      refine v_iconst (pc := 41) cx dX12_type_41 ?_
      refine v_iadd (pc := 42) cx dX12_type_42 ?_
      refine v_putfield (pc := 43) cx fpX12_91 h0 ⟨rfl, rfl⟩ pf5 dX12_type_43 (fun E43 hE43 hF43 => ?_)
      replace hd := (hF43 _ (by omega)).trans hd
      replace hw' := (hF43 _ (by omega)).trans hw'
      replace ha := (hF43 _ (by omega)).trans ha
      replace hc := (hF43 _ (by omega)).trans hc
      replace hrd := (hF43 _ (by omega)).trans hrd
      replace hfi := (hF43 _ (by omega)).trans hfi
      replace h0 := hE43
      refine v_aload_n (pc := 46) cx rfl ga0 dX12_type_46 ?_
      refine v_getfield (pc := 47) cx flX12_91 (by assumption) gf5 dX12_type_47 ?_
      refine v_ireturn (pc := 50) cx hI rfl ?_ dX12_type_50
      unfold vTyp sTyp
      rw [if_neg (by omega), if_neg (by simp only; omega), if_neg (by omega), if_neg (by simp only; omega)]
      refine ⟨rfl, ⟨aa, re, rs, sm, d, w', a, _, rd, fi, ⟨?_, hd, hw', ha, hc, hrd, hfi⟩, hD, hH, fun j hj => ?_⟩, fun j hj => (hF43 j (by omega)).trans (hF1 j (by omega))⟩
      · simp only [List.length_append, List.length_singleton]
        exact h0
      · simp only [List.length_append, List.length_singleton] at hj
        show _ = chr (tx ++ [k]) j
        unfold chr
        rw [List.getD_eq_getElem?_getD]
        by_cases e : j = tx.length
        · subst e
          rw [upI_s, List.getElem?_append_right (Nat.le_refl _)]
          simp
        · rw [upI_n e, List.getElem?_append_left (by omega), hC j (by omega)]
          unfold chr
          rw [List.getD_eq_getElem?_getD]
    · refine v_bipush (pc := 22) cx (by decide) dX12_type_22 ?_
      refine v_ireturn (pc := 24) cx hI rfl ?_ dX12_type_24
      unfold vTyp sTyp
      rw [if_neg (by omega), if_pos (by simp only; omega), if_neg (by omega), if_pos (by simp only; omega)]
      exact ⟨rfl, h, fun _ _ => rfl⟩
  · refine v_iconst (pc := 11) cx dX12_type_11 ?_
    refine v_ireturn (pc := 12) cx hI rfl ?_ dX12_type_12
    unfold vTyp sTyp
    rw [if_pos (by omega), if_pos (by omega)]
    exact ⟨rfl, h, fun _ _ => rfl⟩
set_option maxRecDepth 100000 in
set_option maxHeartbeats 4000000 in
theorem r_clearText (lc : Launch) (G : Gc) (E : Wd) (nh : Nat) {Ψ : Fs} (h : isM G E Ψ) (hk : okX Ψ) : CI lc G 5 yX12_clearText cX12_clearText 2 .int [.ref (gb G + 124)] E nh 0 0 (fun v E' => v = (Ψ.2.2.length : Int) ∧ isM G E' (Ψ.1, Ψ.2.1, []) ∧ Out E E' 124 131) := by
  refine CI.mk (by decide +kernel) rfl (Nat.le_of_ble_eq_true rfl) ?_
  intro X hG hL cx hR hI
  subst hG; subst hL
  show V X E (nh, 0, 0) 0 [some (.ref (gb (fG X) + 124)), none] []
  obtain ⟨⟨s, sh, ge, mk⟩, hs, tx⟩ := Ψ
  obtain ⟨aa, re, rs, sm, d, w', a, c, rd, fi, hr, hD, hH, hC⟩ := id h
  obtain ⟨h0, hd, hw', ha, hc, hrd, hfi⟩ := id hr
  obtain ⟨q1, ⟨q2, q3⟩, ⟨q4, q5⟩, q6, q7⟩ := id hD
  obtain ⟨⟨ks, ke, k8, k9, k10⟩, ⟨kh, kh2⟩, kt⟩ := id hk
  simp only at h0 hr hD q1 q2 q3 q4 q5 q6 q7 hH hC ks ke k8 k9 k10 kh kh2 kt
  have g0 := q1 0 (by omega)
  have kt0 := ks.1
  have ksh : okSh (lst (ar d 27) (ar d 39) (ar d 51) sh.length) := by rw [q5]; exact k8
  have kge : okGe (lst2 (fun j => d (20 + 2 * j)) (fun j => d (21 + 2 * j)) ge.length) := by rw [q3]; exact k9
  have n8 := k8.1
  have n9 := k9.1
  have n10 := k10.1
  refine v_aload_n (pc := 0) cx rfl ga0 dX12_clearText_0 ?_
  refine v_getfield (pc := 1) cx flX12_91 (by assumption) gf5 dX12_clearText_1 ?_
  refine v_istore_n (pc := 4) cx rfl (sa1 rfl) dX12_clearText_4 ?_
  refine v_aload_n (pc := 5) cx rfl ga0 dX12_clearText_5 ?_
  refine v_iconst (pc := 6) cx dX12_clearText_6 ?_
  refine v_putfield (pc := 7) cx fpX12_91 h0 ⟨rfl, rfl⟩ pf5 dX12_clearText_7 (fun E7 hE7 hF7 => ?_)
  replace hd := (hF7 _ (by omega)).trans hd
  replace hw' := (hF7 _ (by omega)).trans hw'
  replace ha := (hF7 _ (by omega)).trans ha
  replace hc := (hF7 _ (by omega)).trans hc
  replace hrd := (hF7 _ (by omega)).trans hrd
  replace hfi := (hF7 _ (by omega)).trans hfi
  replace h0 := hE7
  refine v_iload_n (pc := 10) cx rfl ga1 dX12_clearText_10 ?_
  refine v_ireturn (pc := 11) cx hI rfl ?_ dX12_clearText_11
  exact ⟨rfl, ⟨aa, re, rs, sm, d, w', a, c, rd, fi, ⟨h0, hd, hw', ha, hc, hrd, hfi⟩, hD, hH, fun j hj => by simp at hj⟩, fun j hj => hF7 j (by omega)⟩
