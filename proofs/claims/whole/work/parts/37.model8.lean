theorem rM.pp {G : Gc} {E E' : Wd} {st ty aa re rs sm sm' : Int} {d w a c rd fi fi' : Nat → Int} (h : rM G E st ty aa re rs sm d w a c rd fi) (h0 : E' 124 = some (oMd G st ty aa re rs sm')) (hfi : E' 130 = some (AI G 61 fi')) (hF : ∀ j, j ≠ 124 → j ≠ 130 → E' j = E j) : rM G E' st ty aa re rs sm' d w a c rd fi' :=
  ⟨h0, (hF _ (by omega) (by omega)).trans h.2.1, (hF _ (by omega) (by omega)).trans h.2.2.1, (hF _ (by omega) (by omega)).trans h.2.2.2.1, (hF _ (by omega) (by omega)).trans h.2.2.2.2.1, (hF _ (by omega) (by omega)).trans h.2.2.2.2.2.1, hfi⟩
set_option maxRecDepth 100000 in
set_option maxHeartbeats 4000000 in
theorem r_count (lc : Launch) (G : Gc) (E : Wd) (nh : Nat) {Ψ : Fs} {w : Int} (h : isM G E Ψ) (hk : okX Ψ) (hw : -2147483648 ≤ w ∧ w < 2147483648) : CI lc G 5 yX12_count cX12_count 2 .int [.ref (gb G + 124), .int (iI w)] E nh 0 0 (fun v E' => v = vCnt Ψ w ∧ isM G E' Ψ ∧ Out E E' 124 131) := by
  refine CI.mk (by decide +kernel) rfl (Nat.le_of_ble_eq_true rfl) ?_
  intro X hG hL cx hR hI
  subst hG; subst hL
  show V X E (nh, 0, 0) 0 [some (.ref (gb (fG X) + 124)), some (.int (iI w))] []
  obtain ⟨⟨s, sh, ge, mk⟩, hs, tx⟩ := Ψ
  obtain ⟨aa, re, rs, sm, d, w', a, c, rd, fi, hr, hD, hH, hC⟩ := id h
  obtain ⟨h0, hd, hw', ha, hc, hrd, hfi⟩ := id hr
  obtain ⟨q1, ⟨q2, q3⟩, ⟨q4, q5⟩, q6, q7⟩ := id hD
  obtain ⟨⟨ks, ke, k8, k9, k10⟩, ⟨kh, kh2⟩, kt⟩ := id hk
  simp only at h0 hr hD q1 q2 q3 q4 q5 q6 q7 hH hC ks ke k8 k9 k10 kh kh2 kt
  have g0 := q1 0 (by omega)
  have kt0 := ks.1
  have ksh : okSh (lst (ar d 27) (ar d 39) (ar d 51) sh.length) := by rw [q5]; exact k8
  have kge : okGe (lst2 (fun j => d (20 + 2 * j)) (fun j => d (21 + 2 * j)) ge.length) := by rw [q3]; exact k9
  have n8 := k8.1
  have n9 := k9.1
  have n10 := k10.1
  have fr0 : Out E E 124 131 := fun _ _ => rfl
  have hT := okT_k k10 kt0.2
  have ht : ∀ j, j < mk.length → d (64 + j) = k1 mk j := fun j hj => (k_of q7 hj).1
  have g18 := q1 18 (by omega)
  have g16 := q1 16 (by omega)
  obtain ⟨z1, z2, z3, z4, z5, z6, z7, z8⟩ := id ke
  refine v_iload_n (pc := 0) cx rfl ga1 dX12_count_0 ?_
  refine v_bipush (pc := 1) cx (by decide) dX12_count_1 ?_
  refine v_bipush (pc := 3) cx (by decide) dX12_count_3 ?_
  refine v_callSI (pc := 5) cx hR (m_in _ _ _ _ (by omega)) mlX12_33 (by decide) rfl (Nat.le_of_ble_eq_true rfl) ⟨Nat.le_refl _, Nat.le_refl _⟩ dX12_count_5 (fun r1 E1 hP => ?_)
  obtain ⟨w1, rfl⟩ := hP
  refine v_if_eq (pc := 8) cx 24 dX12_count_8 rfl (by omega) (fun c8 => ?_) (fun c8 => ?_)
  · rcases (show w = 0 ∨ w = 1 ∨ w = 2 ∨ w = 3 ∨ w = 4 ∨ w = 5 ∨ w = 6 ∨ w = 7 ∨ w = 8 ∨ w = 9 ∨ w = 10 ∨ w = 11 ∨ w = 12 ∨ w = 13 ∨ ((w < 0 ∨ 13 < w) ∧ (w < 20 ∨ 27 < w)) by omega) with rfl | rfl | rfl | rfl | rfl | rfl | rfl | rfl | rfl | rfl | rfl | rfl | rfl | rfl | hw2
    · refine v_iload_n (pc := 24) cx rfl ga1 dX12_count_24 ?_
      refine v_tableIn (pc := 25) cx 96 dX12_count_25 (by omega) rfl rfl ?_
      refine v_aload_n (pc := 96) cx rfl ga0 dX12_count_96 ?_
      refine v_getfield (pc := 97) cx flX12_7 (by assumption) gf0 dX12_count_97 ?_
      refine v_iconst (pc := 100) cx dX12_count_100 ?_
      refine v_iaload (pc := 101) cx (0) (by assumption) (by omega) dX12_count_101 ?_
      refine v_ireturn (pc := 102) cx hI rfl ?_ dX12_count_102
      exact ⟨g0, h, fr0⟩
    · refine v_iload_n (pc := 24) cx rfl ga1 dX12_count_24 ?_
      refine v_tableIn (pc := 25) cx 103 dX12_count_25 (by omega) rfl rfl ?_
      refine v_aload_n (pc := 103) cx rfl ga0 dX12_count_103 ?_
      refine v_getfield (pc := 104) cx flX12_7 (by assumption) gf0 dX12_count_104 ?_
      refine v_bipush (pc := 107) cx (by decide) dX12_count_107 ?_
      refine v_iaload (pc := 109) cx (26) (by assumption) (by omega) dX12_count_109 ?_
      refine v_ireturn (pc := 110) cx hI rfl ?_ dX12_count_110
      exact ⟨q4, h, fr0⟩
    · refine v_iload_n (pc := 24) cx rfl ga1 dX12_count_24 ?_
      refine v_tableIn (pc := 25) cx 111 dX12_count_25 (by omega) rfl rfl ?_
      refine v_aload_n (pc := 111) cx rfl ga0 dX12_count_111 ?_
      refine v_getfield (pc := 112) cx flX12_7 (by assumption) gf0 dX12_count_112 ?_
      refine v_bipush (pc := 115) cx (by decide) dX12_count_115 ?_
      refine v_iaload (pc := 117) cx (63) (by assumption) (by omega) dX12_count_117 ?_
      refine v_ireturn (pc := 118) cx hI rfl ?_ dX12_count_118
      exact ⟨q6, h, fr0⟩
    · refine v_iload_n (pc := 24) cx rfl ga1 dX12_count_24 ?_
      refine v_tableIn (pc := 25) cx 119 dX12_count_25 (by omega) rfl rfl ?_
      refine v_aload_n (pc := 119) cx rfl ga0 dX12_count_119 ?_
      refine v_callVV (pc := 120) cx hR (m_parts _ _ _ _ h0 hd hfi q6 n10 ht hT (by omega)) mlX12_85 (by decide) (by assumption) rfl rfl rfl (Nat.le_of_ble_eq_true rfl) ⟨Nat.le_refl _, Nat.le_refl _⟩ dX12_count_120 (fun E2 hP => ?_)
      obtain ⟨⟨fi', h02, hfi2, hfv⟩, hF⟩ := hP
      refine v_aload_n (pc := 123) cx rfl ga0 dX12_count_123 ?_
      refine v_getfield (pc := 124) cx flX12_88 (by assumption) gf11 dX12_count_124 ?_
      refine v_ireturn (pc := 127) cx hI rfl ?_ dX12_count_127
      refine ⟨?_, ⟨aa, re, rs, _, d, w', a, c, rd, fi', hr.pp h02 hfi2 hF, hD, hH, hC⟩, fun j hj => hF j (by omega) (by omega)⟩
      rw [g18]
      rfl
    · refine v_iload_n (pc := 24) cx rfl ga1 dX12_count_24 ?_
      refine v_tableIn (pc := 25) cx 128 dX12_count_25 (by omega) rfl rfl ?_
      refine v_aload_n (pc := 128) cx rfl ga0 dX12_count_128 ?_
      refine v_getfield (pc := 129) cx flX12_7 (by assumption) gf0 dX12_count_129 ?_
      refine v_iload_n (pc := 132) cx rfl ga1 dX12_count_132 ?_
      refine v_iconst (pc := 133) cx dX12_count_133 ?_
      refine v_isub (pc := 134) cx dX12_count_134 ?_
      refine v_iaload (pc := 135) cx (1) (by assumption) (by omega) dX12_count_135 ?_
      refine v_ireturn (pc := 136) cx hI rfl ?_ dX12_count_136
      exact ⟨q1 1 (by omega), h, fr0⟩
    · refine v_iload_n (pc := 24) cx rfl ga1 dX12_count_24 ?_
      refine v_tableIn (pc := 25) cx 128 dX12_count_25 (by omega) rfl rfl ?_
      refine v_aload_n (pc := 128) cx rfl ga0 dX12_count_128 ?_
      refine v_getfield (pc := 129) cx flX12_7 (by assumption) gf0 dX12_count_129 ?_
      refine v_iload_n (pc := 132) cx rfl ga1 dX12_count_132 ?_
      refine v_iconst (pc := 133) cx dX12_count_133 ?_
      refine v_isub (pc := 134) cx dX12_count_134 ?_
      refine v_iaload (pc := 135) cx (2) (by assumption) (by omega) dX12_count_135 ?_
      refine v_ireturn (pc := 136) cx hI rfl ?_ dX12_count_136
      exact ⟨q1 2 (by omega), h, fr0⟩
    · refine v_iload_n (pc := 24) cx rfl ga1 dX12_count_24 ?_
      refine v_tableIn (pc := 25) cx 128 dX12_count_25 (by omega) rfl rfl ?_
      refine v_aload_n (pc := 128) cx rfl ga0 dX12_count_128 ?_
      refine v_getfield (pc := 129) cx flX12_7 (by assumption) gf0 dX12_count_129 ?_
      refine v_iload_n (pc := 132) cx rfl ga1 dX12_count_132 ?_
      refine v_iconst (pc := 133) cx dX12_count_133 ?_
      refine v_isub (pc := 134) cx dX12_count_134 ?_
      refine v_iaload (pc := 135) cx (3) (by assumption) (by omega) dX12_count_135 ?_
      refine v_ireturn (pc := 136) cx hI rfl ?_ dX12_count_136
      exact ⟨q1 3 (by omega), h, fr0⟩
    · refine v_iload_n (pc := 24) cx rfl ga1 dX12_count_24 ?_
      refine v_tableIn (pc := 25) cx 128 dX12_count_25 (by omega) rfl rfl ?_
      refine v_aload_n (pc := 128) cx rfl ga0 dX12_count_128 ?_
      refine v_getfield (pc := 129) cx flX12_7 (by assumption) gf0 dX12_count_129 ?_
      refine v_iload_n (pc := 132) cx rfl ga1 dX12_count_132 ?_
      refine v_iconst (pc := 133) cx dX12_count_133 ?_
      refine v_isub (pc := 134) cx dX12_count_134 ?_
      refine v_iaload (pc := 135) cx (4) (by assumption) (by omega) dX12_count_135 ?_
      refine v_ireturn (pc := 136) cx hI rfl ?_ dX12_count_136
      exact ⟨q1 4 (by omega), h, fr0⟩
    · refine v_iload_n (pc := 24) cx rfl ga1 dX12_count_24 ?_
      refine v_tableIn (pc := 25) cx 128 dX12_count_25 (by omega) rfl rfl ?_
      refine v_aload_n (pc := 128) cx rfl ga0 dX12_count_128 ?_
      refine v_getfield (pc := 129) cx flX12_7 (by assumption) gf0 dX12_count_129 ?_
      refine v_iload_n (pc := 132) cx rfl ga1 dX12_count_132 ?_
      refine v_iconst (pc := 133) cx dX12_count_133 ?_
      refine v_isub (pc := 134) cx dX12_count_134 ?_
      refine v_iaload (pc := 135) cx (5) (by assumption) (by omega) dX12_count_135 ?_
      refine v_ireturn (pc := 136) cx hI rfl ?_ dX12_count_136
      exact ⟨q1 5 (by omega), h, fr0⟩
    · refine v_iload_n (pc := 24) cx rfl ga1 dX12_count_24 ?_
      refine v_tableIn (pc := 25) cx 137 dX12_count_25 (by omega) rfl rfl ?_
      refine v_aload_n (pc := 137) cx rfl ga0 dX12_count_137 ?_
      refine v_callVI (pc := 138) cx hR (m_place _ _ _ _ h0 hd q2 n9 (by omega) (fun j hj => (okGe_at kge j hj).2)) mlX12_37 (by decide) (by assumption) rfl rfl rfl (Nat.le_of_ble_eq_true rfl) ⟨Nat.le_refl _, Nat.le_refl _⟩ dX12_count_138 (fun v5 E5 hP => ?_)
      obtain ⟨rfl, rfl⟩ := hP
      refine v_ireturn (pc := 141) cx hI rfl ?_ dX12_count_141
      refine ⟨?_, h, fr0⟩
      show _ = plG ge (s 5) (s 16)
      rw [← plG_lst, q3, q1 5 (by omega), g16]
    · refine v_iload_n (pc := 24) cx rfl ga1 dX12_count_24 ?_
      refine v_tableIn (pc := 25) cx 142 dX12_count_25 (by omega) rfl rfl ?_
      refine v_aload_n (pc := 142) cx rfl ga0 dX12_count_142 ?_
      refine v_getfield (pc := 143) cx flX12_7 (by assumption) gf0 dX12_count_143 ?_
      refine v_bipush (pc := 146) cx (by decide) dX12_count_146 ?_
      refine v_iaload (pc := 148) cx (19) (by assumption) (by omega) dX12_count_148 ?_
      refine v_ireturn (pc := 149) cx hI rfl ?_ dX12_count_149
      exact ⟨q2, h, fr0⟩
    · refine v_iload_n (pc := 24) cx rfl ga1 dX12_count_24 ?_
      refine v_tableIn (pc := 25) cx 150 dX12_count_25 (by omega) rfl rfl ?_
      refine v_aload_n (pc := 150) cx rfl ga0 dX12_count_150 ?_
      refine v_getfield (pc := 151) cx flX12_29 (by assumption) gf2 dX12_count_151 ?_
      refine v_ireturn (pc := 154) cx hI rfl ?_ dX12_count_154
      exact ⟨rfl, h, fr0⟩
    · refine v_iload_n (pc := 24) cx rfl ga1 dX12_count_24 ?_
      refine v_tableIn (pc := 25) cx 155 dX12_count_25 (by omega) rfl rfl ?_
      refine v_aload_n (pc := 155) cx rfl ga0 dX12_count_155 ?_
      refine v_getfield (pc := 156) cx flX12_91 (by assumption) gf5 dX12_count_156 ?_
      refine v_ireturn (pc := 159) cx hI rfl ?_ dX12_count_159
      exact ⟨rfl, h, fr0⟩
    · refine v_iload_n (pc := 24) cx rfl ga1 dX12_count_24 ?_
      refine v_tableIn (pc := 25) cx 160 dX12_count_25 (by omega) rfl rfl ?_
      refine v_aload_n (pc := 160) cx rfl ga0 dX12_count_160 ?_
      refine v_callVI (pc := 161) cx hR (m_rain _ _ _ _ h0 hd q4 n8 (by omega) (fun j hj => ⟨(okSh_at ksh j hj).1, (okSh_at ksh j hj).2.1⟩)) mlX12_45 (by decide) (by assumption) rfl rfl rfl (Nat.le_of_ble_eq_true rfl) ⟨Nat.le_refl _, Nat.le_refl _⟩ dX12_count_161 (fun v5 E5 hP => ?_)
      obtain ⟨rfl, rfl⟩ := hP
      refine v_ireturn (pc := 164) cx hI rfl ?_ dX12_count_164
      refine ⟨?_, h, fr0⟩
      show _ = rainL sh (s 0)
      rw [rainTo_L, q5, g0]
    · refine v_iload_n (pc := 24) cx rfl ga1 dX12_count_24 ?_
      refine v_tableOut (pc := 25) cx 165 dX12_count_25 (by omega) rfl ?_
      refine v_iconst (pc := 165) cx dX12_count_165 ?_
      refine v_ireturn (pc := 166) cx hI rfl ?_ dX12_count_166
      refine ⟨?_, h, fr0⟩
      unfold vCnt
      rw [if_neg (by omega), if_neg (by omega), if_neg (by omega), if_neg (by omega), if_neg (by omega), if_neg (by omega), if_neg (by omega), if_neg (by omega), if_neg (by omega), if_neg (by omega), if_neg (by omega), if_neg (by omega), if_neg (by omega), if_neg (by omega), if_neg (by omega)]
  · obtain ⟨kn, hkn⟩ := Int.eq_ofNat_of_zero_le (show 0 ≤ w - 20 by omega)
    refine v_aload_n (pc := 11) cx rfl ga0 dX12_count_11 ?_
    refine v_getfield (pc := 12) cx flX12_7 (by assumption) gf0 dX12_count_12 ?_
    refine v_bipush (pc := 15) cx (by decide) dX12_count_15 ?_
    refine v_iload_n (pc := 17) cx rfl ga1 dX12_count_17 ?_
    refine v_iadd (pc := 18) cx dX12_count_18 ?_
    refine v_bipush (pc := 19) cx (by decide) dX12_count_19 ?_
    refine v_isub (pc := 21) cx dX12_count_21 ?_
    refine v_iaload (pc := 22) cx (11 + kn) (by assumption) (by omega) dX12_count_22 ?_
    refine v_ireturn (pc := 23) cx hI rfl ?_ dX12_count_23
    refine ⟨?_, h, fr0⟩
    unfold vCnt
    rw [if_pos (by omega), hkn, Int.toNat_natCast]
    exact q1 _ (by omega)
set_option maxRecDepth 100000 in
set_option maxHeartbeats 4000000 in
theorem r_storm (lc : Launch) (G : Gc) (E : Wd) (nh : Nat) {Ψ : Fs} {k w : Int} (h : isM G E Ψ) (hk : okX Ψ) (hk0 : -2147483648 ≤ k ∧ k < 2147483648) (hw : -2147483648 ≤ w ∧ w < 2147483648) : CI lc G 5 yX12_storm cX12_storm 4 .int [.ref (gb G + 124), .int (iI k), .int (iI w)] E nh 0 0 (fun v E' => v = vSto Ψ k w ∧ isM G E' Ψ ∧ Out E E' 124 131) := by
  refine CI.mk (by decide +kernel) rfl (Nat.le_of_ble_eq_true rfl) ?_
  intro X hG hL cx hR hI
  subst hG; subst hL
  show V X E (nh, 0, 0) 0 [some (.ref (gb (fG X) + 124)), some (.int (iI k)), some (.int (iI w)), none] []
  obtain ⟨⟨s, sh, ge, mk⟩, hs, tx⟩ := Ψ
  obtain ⟨aa, re, rs, sm, d, w', a, c, rd, fi, hr, hD, hH, hC⟩ := id h
  obtain ⟨h0, hd, hw', ha, hc, hrd, hfi⟩ := id hr
  obtain ⟨q1, ⟨q2, q3⟩, ⟨q4, q5⟩, q6, q7⟩ := id hD
  obtain ⟨⟨ks, ke, k8, k9, k10⟩, ⟨kh, kh2⟩, kt⟩ := id hk
  simp only at h0 hr hD q1 q2 q3 q4 q5 q6 q7 hH hC ks ke k8 k9 k10 kh kh2 kt
  have g0 := q1 0 (by omega)
  have kt0 := ks.1
  have ksh : okSh (lst (ar d 27) (ar d 39) (ar d 51) sh.length) := by rw [q5]; exact k8
  have kge : okGe (lst2 (fun j => d (20 + 2 * j)) (fun j => d (21 + 2 * j)) ge.length) := by rw [q3]; exact k9
  have n8 := k8.1
  have n9 := k9.1
  have n10 := k10.1
  have hT := okT_k k10 kt0.2
  have ht : ∀ j, j < mk.length → d (64 + j) = k1 mk j := fun j hj => (k_of q7 hj).1
  have g18 := q1 18 (by omega)
  have g11 := q1 11 (by omega)
  have g12 := q1 12 (by omega)
  obtain ⟨z1, z2, z3, z4, z5, z6, z7, z8⟩ := id ke
  refine v_aload_n (pc := 0) cx rfl ga0 dX12_storm_0 ?_
  refine v_callVV (pc := 1) cx hR (m_parts _ _ _ _ h0 hd hfi q6 n10 ht hT (by omega)) mlX12_85 (by decide) (by assumption) rfl rfl rfl (Nat.le_of_ble_eq_true rfl) ⟨Nat.le_refl _, Nat.le_refl _⟩ dX12_storm_1 (fun E2 hP => ?_)
  obtain ⟨⟨fi', h02, hfi2, hfv⟩, hF⟩ := hP
  rw [g18] at h02 hfv
  have hcl := cnt_le (k1 mk) (s 18) mk.length
  have hM2 : isM (fG X) E2 ((s, sh, ge, mk), hs, tx) := ⟨aa, re, rs, _, d, w', a, c, rd, fi', hr.pp h02 hfi2 hF, hD, hH, hC⟩
  have fr2 : Out E E2 124 131 := fun j hj => hF j (by omega) (by omega)
  have hd2 : E2 125 = _ := (hF _ (by omega) (by omega)).trans hd
  have bad : (¬ (0 ≤ k ∧ k < (cnt (k1 mk) (s 18) mk.length : Int)) ∨ ¬ (0 ≤ w ∧ w ≤ 5)) → V X E2 (nh, 0, 0) 27 [some (.ref (gb (fG X) + 124)), some (.int (iI k)), some (.int (iI w)), none] [] := by
    intro hb
    refine v_iconst (pc := 27) cx dX12_storm_27 ?_
    refine v_ireturn (pc := 28) cx hI rfl ?_ dX12_storm_28
    refine ⟨?_, hM2, fr2⟩
    unfold vSto
    simp only
    rw [if_pos hb]
  refine v_iload_n (pc := 4) cx rfl ga1 dX12_storm_4 ?_
  refine v_iconst (pc := 5) cx dX12_storm_5 ?_
  refine v_aload_n (pc := 6) cx rfl ga0 dX12_storm_6 ?_
  refine v_getfield (pc := 7) cx flX12_88 (by assumption) gf11 dX12_storm_7 ?_
  refine v_iconst (pc := 10) cx dX12_storm_10 ?_
  refine v_isub (pc := 11) cx dX12_storm_11 ?_
  refine v_callSI (pc := 12) cx hR (m_in _ _ _ _ (by omega)) mlX12_33 (by decide) rfl (Nat.le_of_ble_eq_true rfl) ⟨Nat.le_refl _, Nat.le_refl _⟩ dX12_storm_12 (fun r1 E3 hP => ?_)
  obtain ⟨w1, rfl⟩ := hP
  refine v_if_eq (pc := 15) cx 27 dX12_storm_15 rfl (by omega) (fun c15 => ?_) (fun c15 => ?_)
  · exact bad (Or.inl (by omega))
  · refine v_iload_n (pc := 18) cx rfl ga2 dX12_storm_18 ?_
    refine v_iconst (pc := 19) cx dX12_storm_19 ?_
    refine v_iconst (pc := 20) cx dX12_storm_20 ?_
    refine v_callSI (pc := 21) cx hR (m_in _ _ _ _ (by omega)) mlX12_33 (by decide) rfl (Nat.le_of_ble_eq_true rfl) ⟨Nat.le_refl _, Nat.le_refl _⟩ dX12_storm_21 (fun r2 E4 hP => ?_)
    obtain ⟨w2, rfl⟩ := hP
    refine v_if_ne (pc := 24) cx 29 dX12_storm_24 rfl (by omega) (fun c24 => ?_) (fun c24 => ?_)
    · obtain ⟨kn, rfl⟩ := Int.eq_ofNat_of_zero_le (show 0 ≤ k by omega)
      have hg : ¬ (¬ (0 ≤ (kn : Int) ∧ (kn : Int) < (cnt (k1 mk) (s 18) mk.length : Int)) ∨ ¬ (0 ≤ w ∧ w ≤ 5)) := by omega
      have f1 := hfv kn (by omega)
      have f2 := hfv (kn + 1) (by omega)
      obtain ⟨j1, j2, j3, j4⟩ := sF_at (t := k1 mk) (gap := s 18) (n := mk.length) (k := kn) (by omega)
      unfold vSto at hI
      simp only at hI
      rw [if_neg hg, Int.toNat_natCast] at hI
      generalize sF (k1 mk) (s 18) mk.length kn = f at *
      generalize sF (k1 mk) (s 18) mk.length (kn + 1) = e at *
      have b1 := ht f (by omega)
      have b2 := ht (e - 1) (by omega)
      have hcb := mul_bd z1 z2
      rw [← g11, ← g12] at hcb
      refine v_aload_n (pc := 29) cx rfl ga0 dX12_storm_29 ?_
      refine v_getfield (pc := 30) cx flX12_26 (by assumption) gf10 dX12_storm_30 ?_
      refine v_iload_n (pc := 33) cx rfl ga1 dX12_storm_33 ?_
      refine v_iconst (pc := 34) cx dX12_storm_34 ?_
      refine v_iadd (pc := 35) cx dX12_storm_35 ?_
      refine v_iaload (pc := 36) cx (kn + 1) (by assumption) (by omega) dX12_storm_36 ?_
      refine v_iconst (pc := 37) cx dX12_storm_37 ?_
      refine v_isub (pc := 38) cx dX12_storm_38 ?_
      refine v_istore_n (pc := 39) cx rfl (sa3 rfl) dX12_storm_39 ?_
      refine v_iload_n (pc := 40) cx rfl ga2 dX12_storm_40 ?_
      rw [f2]
      rcases (show w = 0 ∨ w = 1 ∨ w = 2 ∨ w = 3 ∨ w = 4 ∨ w = 5 by omega) with rfl | rfl | rfl | rfl | rfl | rfl
      · refine v_tableIn (pc := 41) cx 76 dX12_storm_41 (by omega) rfl rfl ?_
        refine v_aload_n (pc := 76) cx rfl ga0 dX12_storm_76 ?_
        refine v_getfield (pc := 77) cx flX12_26 (by assumption) gf10 dX12_storm_77 ?_
        refine v_iload_n (pc := 80) cx rfl ga1 dX12_storm_80 ?_
        refine v_iaload (pc := 81) cx (kn) (by assumption) (by omega) dX12_storm_81 ?_
        refine v_ireturn (pc := 82) cx hI rfl ?_ dX12_storm_82
        exact ⟨f1, hM2, fr2⟩
      · refine v_tableIn (pc := 41) cx 83 dX12_storm_41 (by omega) rfl rfl ?_
        refine v_iload_n (pc := 83) cx rfl ga3 dX12_storm_83 ?_
        refine v_iconst (pc := 84) cx dX12_storm_84 ?_
        refine v_iadd (pc := 85) cx dX12_storm_85 ?_
        refine v_aload_n (pc := 86) cx rfl ga0 dX12_storm_86 ?_
        refine v_getfield (pc := 87) cx flX12_26 (by assumption) gf10 dX12_storm_87 ?_
        refine v_iload_n (pc := 90) cx rfl ga1 dX12_storm_90 ?_
        refine v_iaload (pc := 91) cx (kn) (by assumption) (by omega) dX12_storm_91 ?_
        refine v_isub (pc := 92) cx dX12_storm_92 ?_
        refine v_ireturn (pc := 93) cx hI rfl ?_ dX12_storm_93
        refine ⟨?_, hM2, fr2⟩
        show _ = (e : Int) - f
        omega
      · refine v_tableIn (pc := 41) cx 94 dX12_storm_41 (by omega) rfl rfl ?_
        refine v_aload_n (pc := 94) cx rfl ga0 dX12_storm_94 ?_
        refine v_getfield (pc := 95) cx flX12_7 (by assumption) gf0 dX12_storm_95 ?_
        refine v_bipush (pc := 98) cx (by decide) dX12_storm_98 ?_
        refine v_iload_n (pc := 100) cx rfl ga3 dX12_storm_100 ?_
        refine v_iadd (pc := 101) cx dX12_storm_101 ?_
        refine v_iaload (pc := 102) cx (64 + (e - 1)) (by assumption) (by omega) dX12_storm_102 ?_
        refine v_aload_n (pc := 103) cx rfl ga0 dX12_storm_103 ?_
        refine v_getfield (pc := 104) cx flX12_7 (by assumption) gf0 dX12_storm_104 ?_
        refine v_bipush (pc := 107) cx (by decide) dX12_storm_107 ?_
        refine v_aload_n (pc := 109) cx rfl ga0 dX12_storm_109 ?_
        refine v_getfield (pc := 110) cx flX12_26 (by assumption) gf10 dX12_storm_110 ?_
        refine v_iload_n (pc := 113) cx rfl ga1 dX12_storm_113 ?_
        refine v_iaload (pc := 114) cx (kn) (by assumption) (by omega) dX12_storm_114 ?_
        refine v_iadd (pc := 115) cx dX12_storm_115 ?_
        refine v_iaload (pc := 116) cx (64 + f) (by assumption) (by omega) dX12_storm_116 ?_
        refine v_isub (pc := 117) cx dX12_storm_117 ?_
        refine v_ireturn (pc := 118) cx hI rfl ?_ dX12_storm_118
        refine ⟨?_, hM2, fr2⟩
        show _ = k1 mk (e - 1) - k1 mk f
        rw [b1, b2]
      · refine v_tableIn (pc := 41) cx 119 dX12_storm_41 (by omega) rfl rfl ?_
        refine v_aload_n (pc := 119) cx rfl ga0 dX12_storm_119 ?_
        refine v_iload_n (pc := 120) cx rfl ga1 dX12_storm_120 ?_
        refine v_callVI (pc := 121) cx hR (m_amountOf _ _ _ _ h02 hd2 hfi2 (by omega) f1 f2) mlX12_97 (by decide) (by assumption) rfl rfl rfl (Nat.le_of_ble_eq_true rfl) ⟨Nat.le_refl _, Nat.le_refl _⟩ dX12_storm_121 (fun v5 E5 hP => ?_)
        obtain ⟨rfl, rfl⟩ := hP
        refine v_ireturn (pc := 124) cx hI rfl ?_ dX12_storm_124
        refine ⟨?_, hM2, fr2⟩
        rw [g11]
        rfl
      · refine v_tableIn (pc := 41) cx 125 dX12_storm_41 (by omega) rfl rfl ?_
        refine v_aload_n (pc := 125) cx rfl ga0 dX12_storm_125 ?_
        refine v_iload_n (pc := 126) cx rfl ga1 dX12_storm_126 ?_
        refine v_callVI (pc := 127) cx hR (m_lossOf _ _ _ _ h02 hd2 hfi2 n10 ht hT (by omega) f1 f2 (by omega) hcb) mlX12_100 (by decide) (by assumption) rfl rfl rfl (Nat.le_of_ble_eq_true rfl) ⟨Nat.le_refl _, Nat.le_refl _⟩ dX12_storm_127 (fun v5 E5 hP => ?_)
        obtain ⟨rfl, rfl⟩ := hP
        refine v_ireturn (pc := 130) cx hI rfl ?_ dX12_storm_130
        refine ⟨?_, hM2, fr2⟩
        rw [g11, g12]
        rfl
      · refine v_tableOut (pc := 41) cx 131 dX12_storm_41 (by omega) rfl ?_
        refine v_aload_n (pc := 131) cx rfl ga0 dX12_storm_131 ?_
        refine v_iload_n (pc := 132) cx rfl ga1 dX12_storm_132 ?_
        refine v_callVI (pc := 133) cx hR (m_peakOf _ _ _ _ h02 hd2 hfi2 n10 ht hT (by omega) f1 f2 (by omega)) mlX12_103 (by decide) (by assumption) rfl rfl rfl (Nat.le_of_ble_eq_true rfl) ⟨Nat.le_refl _, Nat.le_refl _⟩ dX12_storm_133 (fun v5 E5 hP => ?_)
        obtain ⟨hpk, rfl⟩ := hP
        refine v_ireturn (pc := 136) cx hI rfl ?_ dX12_storm_136
        exact ⟨pkV_of hpk, hM2, fr2⟩
    · exact bad (Or.inr (by omega))
set_option maxRecDepth 100000 in
set_option maxHeartbeats 4000000 in
theorem r_greatestStorm (lc : Launch) (G : Gc) (E : Wd) (nh : Nat) {Ψ : Fs} (h : isM G E Ψ) (hk : okX Ψ) : CI lc G 5 yX12_greatestStorm cX12_greatestStorm 5 .int [.ref (gb G + 124)] E nh 0 0 (fun v E' => v = vGre2 Ψ ∧ isM G E' Ψ ∧ Out E E' 124 131) := by
  refine CI.mk (by decide +kernel) rfl (Nat.le_of_ble_eq_true rfl) ?_
  intro X hG hL cx hR hI
  subst hG; subst hL
  show V X E (nh, 0, 0) 0 [some (.ref (gb (fG X) + 124)), none, none, none, none] []
  obtain ⟨⟨s, sh, ge, mk⟩, hs, tx⟩ := Ψ
  obtain ⟨aa, re, rs, sm, d, w', a, c, rd, fi, hr, hD, hH, hC⟩ := id h
  obtain ⟨h0, hd, hw', ha, hc, hrd, hfi⟩ := id hr
  obtain ⟨q1, ⟨q2, q3⟩, ⟨q4, q5⟩, q6, q7⟩ := id hD
  obtain ⟨⟨ks, ke, k8, k9, k10⟩, ⟨kh, kh2⟩, kt⟩ := id hk
  simp only at h0 hr hD q1 q2 q3 q4 q5 q6 q7 hH hC ks ke k8 k9 k10 kh kh2 kt
  have g0 := q1 0 (by omega)
  have kt0 := ks.1
  have ksh : okSh (lst (ar d 27) (ar d 39) (ar d 51) sh.length) := by rw [q5]; exact k8
  have kge : okGe (lst2 (fun j => d (20 + 2 * j)) (fun j => d (21 + 2 * j)) ge.length) := by rw [q3]; exact k9
  have n8 := k8.1
  have n9 := k9.1
  have n10 := k10.1
  have hT := okT_k k10 kt0.2
  have ht : ∀ j, j < mk.length → d (64 + j) = k1 mk j := fun j hj => (k_of q7 hj).1
  have g18 := q1 18 (by omega)
  have g11 := q1 11 (by omega)
  have g12 := q1 12 (by omega)
  obtain ⟨z1, z2, z3, z4, z5, z6, z7, z8⟩ := id ke
  have hcb := mul_bd z1 z2
  rw [← g11, ← g12] at hcb
  have hgb := grB_bd hk
  have hsb := fun k => sSum_bd hk (k := k)
  simp only at hgb hsb
  refine v_aload_n (pc := 0) cx rfl ga0 dX12_greatestStorm_0 ?_
  refine v_callVV (pc := 1) cx hR (m_parts _ _ _ _ h0 hd hfi q6 n10 ht hT (by omega)) mlX12_85 (by decide) (by assumption) rfl rfl rfl (Nat.le_of_ble_eq_true rfl) ⟨Nat.le_refl _, Nat.le_refl _⟩ dX12_greatestStorm_1 (fun E2 hP => ?_)
  obtain ⟨⟨fi', h02, hfi2, hfv⟩, hF⟩ := hP
  rw [g18] at h02 hfv
  have hcl := cnt_le (k1 mk) (s 18) mk.length
  have hM2 : isM (fG X) E2 ((s, sh, ge, mk), hs, tx) := ⟨aa, re, rs, _, d, w', a, c, rd, fi', hr.pp h02 hfi2 hF, hD, hH, hC⟩
  have fr2 : Out E E2 124 131 := fun j hj => hF j (by omega) (by omega)
  have hd2 : E2 125 = _ := (hF _ (by omega) (by omega)).trans hd
  have loop : ∀ (q k : Nat) (l4 : Option Value), k ≤ cnt (k1 mk) (s 18) mk.length → cnt (k1 mk) (s 18) mk.length - k < q → V X E2 (nh, 0, 0) 11 [some (.ref (gb (fG X) + 124)), some (.int (iI (grB ((s, sh, ge, mk), hs, tx) k).1)), some (.int (iI (grB ((s, sh, ge, mk), hs, tx) k).2)), some (.int (iI (k : Int))), l4] [] := by
    intro q
    induction q with
    | zero => intro k l4 h1 h2; omega
    | succ q ih =>
      intro k l4 hk2 hq
      have b1 := hgb k hk2
      refine v_iload_n (pc := 11) cx rfl ga3 dX12_greatestStorm_11 ?_
      refine v_aload_n (pc := 12) cx rfl ga0 dX12_greatestStorm_12 ?_
      refine v_getfield (pc := 13) cx flX12_88 (by assumption) gf11 dX12_greatestStorm_13 ?_
      refine v_icmp_ge (pc := 16) cx 63 dX12_greatestStorm_16 rfl (by omega) (fun c16 => ?_) (fun c16 => ?_)
      · refine v_iload_n (pc := 63) cx rfl ga1 dX12_greatestStorm_63 ?_
        refine v_ireturn (pc := 64) cx hI rfl ?_ dX12_greatestStorm_64
        refine ⟨?_, hM2, fr2⟩
        have e : k = cnt (k1 mk) (s 18) mk.length := by omega
        unfold vGre2
        simp only
        rw [← e]
      · have b2 := hsb k (by omega)
        have f1 := hfv k (by omega)
        have f2 := hfv (k + 1) (by omega)
        obtain ⟨j1, j2, j3, j4⟩ := sF_at (t := k1 mk) (gap := s 18) (n := mk.length) (k := k) (by omega)
        refine v_aload_n (pc := 19) cx rfl ga0 dX12_greatestStorm_19 ?_
        refine v_iload_n (pc := 20) cx rfl ga3 dX12_greatestStorm_20 ?_
        refine v_callVI (pc := 21) cx hR (m_amountOf _ _ _ _ h02 hd2 hfi2 (by omega) f1 f2) mlX12_97 (by decide) (by assumption) rfl rfl rfl (Nat.le_of_ble_eq_true rfl) ⟨Nat.le_refl _, Nat.le_refl _⟩ dX12_greatestStorm_21 (fun v3 E3 hP => ?_)
        obtain ⟨hv3, rfl⟩ := hP
        refine v_aload_n (pc := 24) cx rfl ga0 dX12_greatestStorm_24 ?_
        refine v_iload_n (pc := 25) cx rfl ga3 dX12_greatestStorm_25 ?_
        refine v_callVI (pc := 26) cx hR (m_lossOf _ _ _ _ h02 hd2 hfi2 n10 ht hT (by omega) f1 f2 (by omega) hcb) mlX12_100 (by decide) (by assumption) rfl rfl rfl (Nat.le_of_ble_eq_true rfl) ⟨Nat.le_refl _, Nat.le_refl _⟩ dX12_greatestStorm_26 (fun v4 E4 hP => ?_)
        obtain ⟨hv4, rfl⟩ := hP
        have hsum : v3 + v4 = sSum ((s, sh, ge, mk), hs, tx) k := by
          rw [hv3, hv4, g11, g12]
          rfl
        refine v_iadd (pc := 29) cx dX12_greatestStorm_29 ?_
        rw [hsum]
        refine v_istore (pc := 30) cx (sa4 rfl) dX12_greatestStorm_30 ?_
        refine v_iload (pc := 32) cx ga4 dX12_greatestStorm_32 ?_
        refine v_iload_n (pc := 34) cx rfl ga2 dX12_greatestStorm_34 ?_
        refine v_icmp_le (pc := 35) cx 42 dX12_greatestStorm_35 rfl (by omega) (fun c35 => ?_) (fun c35 => ?_)
        · refine v_iload_n (pc := 42) cx rfl ga1 dX12_greatestStorm_42 ?_
          refine v_istore_n (pc := 43) cx rfl (sa1 rfl) dX12_greatestStorm_43 ?_
          refine v_iload (pc := 44) cx ga4 dX12_greatestStorm_44 ?_
          refine v_iload_n (pc := 46) cx rfl ga2 dX12_greatestStorm_46 ?_
          refine v_icmp_le (pc := 47) cx 55 dX12_greatestStorm_47 rfl (by omega) (fun c47 => ?_) (fun c47 => ?_)
          · refine v_iload_n (pc := 55) cx rfl ga2 dX12_greatestStorm_55 ?_
            refine v_istore_n (pc := 56) cx rfl (sa2 rfl) dX12_greatestStorm_56 ?_
            refine v_iinc (pc := 57) cx ga3 (sa3 rfl) dX12_greatestStorm_57 ?_
            refine v_goto (pc := 60) cx 11 dX12_greatestStorm_60 rfl ?_
            have e5 : grB ((s, sh, ge, mk), hs, tx) (k + 1) = grB ((s, sh, ge, mk), hs, tx) k := by
              simp only [grB]
              rw [if_neg (by omega)]
            rw [← e5]
            exact ih (k + 1) _ (by omega) (by omega)
          · omega
        · refine v_iload_n (pc := 38) cx rfl ga3 dX12_greatestStorm_38 ?_
          refine v_goto (pc := 39) cx 43 dX12_greatestStorm_39 rfl ?_
          refine v_istore_n (pc := 43) cx rfl (sa1 rfl) dX12_greatestStorm_43 ?_
          refine v_iload (pc := 44) cx ga4 dX12_greatestStorm_44 ?_
          refine v_iload_n (pc := 46) cx rfl ga2 dX12_greatestStorm_46 ?_
          refine v_icmp_le (pc := 47) cx 55 dX12_greatestStorm_47 rfl (by omega) (fun c47 => ?_) (fun c47 => ?_)
          · omega
          · refine v_iload (pc := 50) cx ga4 dX12_greatestStorm_50 ?_
            refine v_goto (pc := 52) cx 56 dX12_greatestStorm_52 rfl ?_
            refine v_istore_n (pc := 56) cx rfl (sa2 rfl) dX12_greatestStorm_56 ?_
            refine v_iinc (pc := 57) cx ga3 (sa3 rfl) dX12_greatestStorm_57 ?_
            refine v_goto (pc := 60) cx 11 dX12_greatestStorm_60 rfl ?_
            have e5 : grB ((s, sh, ge, mk), hs, tx) (k + 1) = ((k : Int), sSum ((s, sh, ge, mk), hs, tx) k) := by
              simp only [grB]
              rw [if_pos (by omega)]
            have := ih (k + 1) (some (.int (iI (sSum ((s, sh, ge, mk), hs, tx) k)))) (by omega) (by omega)
            rw [e5] at this
            exact this
  refine v_bipush (pc := 4) cx (by decide) dX12_greatestStorm_4 ?_
  refine v_istore_n (pc := 6) cx rfl (sa1 rfl) dX12_greatestStorm_6 ?_
  refine v_iconst (pc := 7) cx dX12_greatestStorm_7 ?_
  refine v_istore_n (pc := 8) cx rfl (sa2 rfl) dX12_greatestStorm_8 ?_
  refine v_iconst (pc := 9) cx dX12_greatestStorm_9 ?_
  refine v_istore_n (pc := 10) cx rfl (sa3 rfl) dX12_greatestStorm_10 ?_
  exact loop (cnt (k1 mk) (s 18) mk.length + 1) 0 none (Nat.zero_le _) (by omega)
set_option maxRecDepth 100000 in
set_option maxHeartbeats 4000000 in
theorem r_gapForOne (lc : Launch) (G : Gc) (E : Wd) (nh : Nat) {Ψ : Fs} (h : isM G E Ψ) (hk : okX Ψ) : CI lc G 5 yX12_gapForOne cX12_gapForOne 3 .int [.ref (gb G + 124)] E nh 0 0 (fun v E' => v = vGap Ψ ∧ E' = E) := by
  refine CI.mk (by decide +kernel) rfl (Nat.le_of_ble_eq_true rfl) ?_
  intro X hG hL cx hR hI
  subst hG; subst hL
  show V X E (nh, 0, 0) 0 [some (.ref (gb (fG X) + 124)), none, none] []
  obtain ⟨⟨s, sh, ge, mk⟩, hs, tx⟩ := Ψ
  obtain ⟨aa, re, rs, sm, d, w', a, c, rd, fi, hr, hD, hH, hC⟩ := id h
  obtain ⟨h0, hd, hw', ha, hc, hrd, hfi⟩ := id hr
  obtain ⟨q1, ⟨q2, q3⟩, ⟨q4, q5⟩, q6, q7⟩ := id hD
  obtain ⟨⟨ks, ke, k8, k9, k10⟩, ⟨kh, kh2⟩, kt⟩ := id hk
  simp only at h0 hr hD q1 q2 q3 q4 q5 q6 q7 hH hC ks ke k8 k9 k10 kh kh2 kt
  have g0 := q1 0 (by omega)
  have kt0 := ks.1
  have ksh : okSh (lst (ar d 27) (ar d 39) (ar d 51) sh.length) := by rw [q5]; exact k8
  have kge : okGe (lst2 (fun j => d (20 + 2 * j)) (fun j => d (21 + 2 * j)) ge.length) := by rw [q3]; exact k9
  have n8 := k8.1
  have n9 := k9.1
  have n10 := k10.1
  have hT := okT_k k10 kt0.2
  have ht : ∀ j, j < mk.length → d (64 + j) = k1 mk j := fun j hj => (k_of q7 hj).1
  have hmx := fun k => mxG_bd hT k
  unfold vGap at hI
  simp only at hI
  have loop : ∀ (q k : Nat), 1 ≤ k → (k ≤ mk.length ∨ (mk.length = 0 ∧ k = 1)) → mk.length + 1 - k < q → V X E (nh, 0, 0) 4 [some (.ref (gb (fG X) + 124)), some (.int (iI (max 1 (mxG (k1 mk) k)))), some (.int (iI (k : Int)))] [] := by
    intro q
    induction q with
    | zero => intro k h1 h2 h3; omega
    | succ q ih =>
      intro k hk1 hk2 hq
      refine v_iload_n (pc := 4) cx rfl ga2 dX12_gapForOne_4 ?_
      refine v_aload_n (pc := 5) cx rfl ga0 dX12_gapForOne_5 ?_
      refine v_getfield (pc := 6) cx flX12_7 (by assumption) gf0 dX12_gapForOne_6 ?_
      refine v_bipush (pc := 9) cx (by decide) dX12_gapForOne_9 ?_
      refine v_iaload (pc := 11) cx (63) (by assumption) (by omega) dX12_gapForOne_11 ?_
      refine v_icmp_ge (pc := 12) cx 40 dX12_gapForOne_12 rfl (by omega) (fun c12 => ?_) (fun c12 => ?_)
      · refine v_aload_n (pc := 40) cx rfl ga0 dX12_gapForOne_40 ?_
        refine v_getfield (pc := 41) cx flX12_7 (by assumption) gf0 dX12_gapForOne_41 ?_
        refine v_bipush (pc := 44) cx (by decide) dX12_gapForOne_44 ?_
        refine v_iaload (pc := 46) cx (63) (by assumption) (by omega) dX12_gapForOne_46 ?_
        refine v_if_eq (pc := 47) cx 57 dX12_gapForOne_47 rfl (by omega) (fun c47 => ?_) (fun c47 => ?_)
        · refine v_bipush (pc := 57) cx (by decide) dX12_gapForOne_57 ?_
          refine v_goto (pc := 59) cx 63 dX12_gapForOne_59 rfl ?_
          refine v_ireturn (pc := 63) cx hI rfl ?_ dX12_gapForOne_63
          rw [if_pos (by omega)]
          exact ⟨rfl, rfl⟩
        · have ek : k = mk.length := by omega
          subst ek
          have := hmx _ (Nat.le_refl _)
          rw [if_neg (by omega)] at hI
          refine v_iload_n (pc := 50) cx rfl ga1 dX12_gapForOne_50 ?_
          refine v_sipush (pc := 51) cx (by decide) dX12_gapForOne_51 ?_
          refine v_icmp_le (pc := 54) cx 62 dX12_gapForOne_54 rfl (by omega) (fun c54 => ?_) (fun c54 => ?_)
          · refine v_iload_n (pc := 62) cx rfl ga1 dX12_gapForOne_62 ?_
            refine v_ireturn (pc := 63) cx hI rfl ?_ dX12_gapForOne_63
            rw [if_neg (by omega)]
            exact ⟨rfl, rfl⟩
          · refine v_bipush (pc := 57) cx (by decide) dX12_gapForOne_57 ?_
            refine v_goto (pc := 59) cx 63 dX12_gapForOne_59 rfl ?_
            refine v_ireturn (pc := 63) cx hI rfl ?_ dX12_gapForOne_63
            rw [if_pos (by omega)]
            exact ⟨rfl, rfl⟩
      · have b1 := hmx k (by omega)
        have g2 := hT.1 k (by omega)
        have g3 := hT.1 (k - 1) (by omega)
        have e : mxG (k1 mk) (k + 1) = max (mxG (k1 mk) k) (k1 mk k - k1 mk (k - 1)) := by
          simp only [mxG]
          rw [if_neg (by omega)]
        refine v_aload_n (pc := 15) cx rfl ga0 dX12_gapForOne_15 ?_
        refine v_iload_n (pc := 16) cx rfl ga2 dX12_gapForOne_16 ?_
        refine v_callVI (pc := 17) cx hR (m_apart _ _ _ _ h0 hd ht n10 (by omega)) mlX12_94 (by decide) (by assumption) rfl rfl rfl (Nat.le_of_ble_eq_true rfl) ⟨Nat.le_refl _, Nat.le_refl _⟩ dX12_gapForOne_17 (fun v2 E2 hP => ?_)
        obtain ⟨rfl, rfl⟩ := hP
        refine v_iload_n (pc := 20) cx rfl ga1 dX12_gapForOne_20 ?_
        refine v_icmp_le (pc := 21) cx 32 dX12_gapForOne_21 rfl (by omega) (fun c21 => ?_) (fun c21 => ?_)
        · refine v_iload_n (pc := 32) cx rfl ga1 dX12_gapForOne_32 ?_
          refine v_istore_n (pc := 33) cx rfl (sa1 rfl) dX12_gapForOne_33 ?_
          refine v_iinc (pc := 34) cx ga2 (sa2 rfl) dX12_gapForOne_34 ?_
          refine v_goto (pc := 37) cx 4 dX12_gapForOne_37 rfl ?_
          have kk := ih (k + 1) (by omega) (by omega) (by omega)
          rw [e, show max 1 (max (mxG (k1 mk) k) (k1 mk k - k1 mk (k - 1))) = max 1 (mxG (k1 mk) k) by omega] at kk
          exact kk
        · refine v_aload_n (pc := 24) cx rfl ga0 dX12_gapForOne_24 ?_
          refine v_iload_n (pc := 25) cx rfl ga2 dX12_gapForOne_25 ?_
          refine v_callVI (pc := 26) cx hR (m_apart _ _ _ _ h0 hd ht n10 (by omega)) mlX12_94 (by decide) (by assumption) rfl rfl rfl (Nat.le_of_ble_eq_true rfl) ⟨Nat.le_refl _, Nat.le_refl _⟩ dX12_gapForOne_26 (fun v3 E3 hP => ?_)
          obtain ⟨rfl, rfl⟩ := hP
          refine v_goto (pc := 29) cx 33 dX12_gapForOne_29 rfl ?_
          refine v_istore_n (pc := 33) cx rfl (sa1 rfl) dX12_gapForOne_33 ?_
          refine v_iinc (pc := 34) cx ga2 (sa2 rfl) dX12_gapForOne_34 ?_
          refine v_goto (pc := 37) cx 4 dX12_gapForOne_37 rfl ?_
          have kk := ih (k + 1) (by omega) (by omega) (by omega)
          rw [e, show max 1 (max (mxG (k1 mk) k) (k1 mk k - k1 mk (k - 1))) = k1 mk k - k1 mk (k - 1) by omega] at kk
          exact kk
  refine v_iconst (pc := 0) cx dX12_gapForOne_0 ?_
  refine v_istore_n (pc := 1) cx rfl (sa1 rfl) dX12_gapForOne_1 ?_
  refine v_iconst (pc := 2) cx dX12_gapForOne_2 ?_
  refine v_istore_n (pc := 3) cx rfl (sa2 rfl) dX12_gapForOne_3 ?_
  exact loop (mk.length + 2) 1 (Nat.le_refl _) (by omega) (by omega)
