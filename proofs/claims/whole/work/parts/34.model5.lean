/-! the reference: what it holds, and its public methods -/
def rM (G : Gc) (E : Wd) (st ty aa re rs sm : Int) (d w a c rd fi : Nat → Int) : Prop :=
  E 124 = some (oMd G st ty aa re rs sm) ∧ E 125 = some (AI G 244 d) ∧ E 126 = some (AI G 1220 w) ∧ E 127 = some (AI G 244 a) ∧ E 128 = some (AC G 100 c) ∧ E 129 = some (AI G 48 rd) ∧ E 130 = some (AI G 61 fi)
def isM (G : Gc) (E : Wd) (Ψ : Fs) : Prop := ∃ (aa re rs sm : Int) (d w a c rd fi : Nat → Int), rM G E (Ψ.2.1.length : Int) (Ψ.2.2.length : Int) aa re rs sm d w a c rd fi ∧ isD d Ψ.1 ∧ (∀ j (hj : j < Ψ.2.1.length), isD (fun i => w (244 * j + i)) Ψ.2.1[j]) ∧ ∀ j, j < Ψ.2.2.length → c j = chr Ψ.2.2 j
theorem rM.out {G : Gc} {E E' : Wd} {st ty aa re rs sm : Int} {d w a c rd fi : Nat → Int} {x y : Nat} (h : rM G E st ty aa re rs sm d w a c rd fi) (hE : Out E E' x y) (hxy : 131 ≤ x ∨ y ≤ 124) : rM G E' st ty aa re rs sm d w a c rd fi :=
  ⟨(hE _ (by omega)).trans h.1, (hE _ (by omega)).trans h.2.1, (hE _ (by omega)).trans h.2.2.1, (hE _ (by omega)).trans h.2.2.2.1, (hE _ (by omega)).trans h.2.2.2.2.1, (hE _ (by omega)).trans h.2.2.2.2.2.1, (hE _ (by omega)).trans h.2.2.2.2.2.2⟩
theorem isM.out {G : Gc} {E E' : Wd} {Ψ : Fs} {x y : Nat} (h : isM G E Ψ) (hE : Out E E' x y) (hxy : 131 ≤ x ∨ y ≤ 124) : isM G E' Ψ := by
  obtain ⟨aa, re, rs, sm, d, w, a, c, rd, fi, h1, h2⟩ := h
  exact ⟨aa, re, rs, sm, d, w, a, c, rd, fi, h1.out hE hxy, h2⟩
theorem rM.dd {G : Gc} {E E' : Wd} {st ty aa re rs sm : Int} {d d' w a c rd fi : Nat → Int} (h : rM G E st ty aa re rs sm d w a c rd fi) (hE : Out E E' 125 126) (hd : E' 125 = some (AI G 244 d')) : rM G E' st ty aa re rs sm d' w a c rd fi :=
  ⟨(hE _ (by omega)).trans h.1, hd, (hE _ (by omega)).trans h.2.2.1, (hE _ (by omega)).trans h.2.2.2.1, (hE _ (by omega)).trans h.2.2.2.2.1, (hE _ (by omega)).trans h.2.2.2.2.2.1, (hE _ (by omega)).trans h.2.2.2.2.2.2⟩
theorem isD.upS {d s : Nat → Int} {r : List (Int × Int × Int) × List (Int × Int) × List (Int × Int × Int)} {k : Nat} {x : Int} (h : isD d (s, r)) (hk : k < 19) : isD (upI d k x) (upI s k x, r) := by
  obtain ⟨h1, ⟨h2, h3⟩, ⟨h4, h5⟩, h6, h7⟩ := h
  refine ⟨fun i hi => ?_, ⟨(upI_n (by omega)).trans h2, (lst2_ext (fun j _ => ⟨upI_n (by omega), upI_n (by omega)⟩)).trans h3⟩, ⟨(upI_n (by omega)).trans h4, (lst_ext (fun j _ => ⟨upI_n (by omega), upI_n (by omega), upI_n (by omega)⟩)).trans h5⟩, (upI_n (by omega)).trans h6, (lst_ext (fun j _ => ⟨upI_n (by omega), upI_n (by omega), upI_n (by omega)⟩)).trans h7⟩
  show upI d k x i = upI s k x i
  by_cases e : i = k
  · subst e
    rw [upI_s, upI_s]
  · rw [upI_n e, upI_n e]
    exact h1 i hi
theorem rec_isM {G : Gc} {E E' : Wd} {σ : Sg} {hs : List Sg} {tx : List Int} {aa re rs sm : Int} {d w a c rd fi : Nat → Int} (hr : rM G E (hs.length : Int) (tx.length : Int) aa re rs sm d w a c rd fi) (hD : isD d σ) (hH : ∀ j (hj : j < hs.length), isD (fun i => w (244 * j + i)) hs[j]) (hC : ∀ j, j < tx.length → c j = chr tx j) (hkσ : ok σ) (hkh : hs.length ≤ 5 ∧ ∀ τ ∈ hs, ok τ) (hP : (∃ (m' : Nat) (w' : Nat → Int), m' = (if hs.length = 5 then 4 else hs.length) ∧ E' 124 = some (oMd G ((m' : Int) + 1) (tx.length : Int) aa re rs sm) ∧ E' 126 = some (AI G 1220 w') ∧ (∀ j i, j < m' → i < 244 → w' (244 * j + i) = (if hs.length = 5 then w (244 * (j + 1) + i) else w (244 * j + i))) ∧ ∀ i, i < 244 → w' (244 * m' + i) = d i) ∧ E' 125 = some (AI G 244 d) ∧ Out E E' 124 127) : ∃ w', rM G E' ((keepH hs σ).length : Int) (tx.length : Int) aa re rs sm d w' a c rd fi ∧ ∀ j (hj : j < (keepH hs σ).length), isD (fun i => w' (244 * j + i)) (keepH hs σ)[j] := by
  obtain ⟨⟨m', w', hm', h0, hw, hin, hla⟩, hd, hF⟩ := hP
  obtain ⟨-, -, -, r3, r4, r5, r6⟩ := hr
  have hl : (keepH hs σ).length = m' + 1 := by
    unfold keepH
    rw [List.length_append, List.length_singleton]
    by_cases e : hs.length = 5
    · rw [if_pos e] at hm'
      rw [if_pos (by omega), List.length_tail, e, hm']
    · rw [if_neg e] at hm'
      rw [if_neg (by omega), hm']
  refine ⟨w', ⟨by rw [hl]; exact h0, hd, hw, (hF _ (by omega)).trans r3, (hF _ (by omega)).trans r4, (hF _ (by omega)).trans r5, (hF _ (by omega)).trans r6⟩, fun j hj => ?_⟩
  rw [hl] at hj
  by_cases ej : j = m'
  · subst ej
    have e : (keepH hs σ)[j]'(by rw [hl]; exact hj) = σ := by
      have el := hl
      unfold keepH at el ⊢
      rw [List.length_append, List.length_singleton] at el
      rw [List.getElem_append_right (by omega)]
      exact List.getElem_singleton _
    rw [e]
    exact hD.ext hla hkσ
  · by_cases e : hs.length = 5
    · rw [if_pos e] at hm'
      have e2 : (keepH hs σ)[j]'(by rw [hl]; exact hj) = hs[j + 1]'(by omega) := by
        simp only [keepH, if_pos (show 5 ≤ hs.length by omega)]
        rw [List.getElem_append_left (by rw [List.length_tail]; omega), List.getElem_tail]
      rw [e2]
      refine (hH (j + 1) (by omega)).ext (fun i hi => ?_) (hkh.2 _ (List.getElem_mem _))
      rw [hin j i (by omega) hi, if_pos e]
    · rw [if_neg e] at hm'
      have e2 : (keepH hs σ)[j]'(by rw [hl]; exact hj) = hs[j]'(by omega) := by
        simp only [keepH, if_neg (show ¬ 5 ≤ hs.length by omega)]
        rw [List.getElem_append_left (by omega)]
      rw [e2]
      refine (hH j (by omega)).ext (fun i hi => ?_) (hkh.2 _ (List.getElem_mem _))
      rw [hin j i (by omega) hi, if_neg e]
set_option maxRecDepth 100000 in
set_option maxHeartbeats 4000000 in
theorem m_isShower (lc : Launch) (G : Gc) (E : Wd) (nh : Nat) {m : Nat} {k st ty aa re rs sm : Int} {d : Nat → Int} (h0 : E 124 = some (oMd G st ty aa re rs sm)) (hd : E 125 = some (AI G 244 d)) (hn : d 26 = (m : Int)) (hm : m ≤ 12) (hk : -2147483648 ≤ k ∧ k < 2147483648) : CI lc G 1 yX12_isShower cX12_isShower 2 .boolean [.ref (gb G + 124), .int (iI k)] E nh 0 0 (fun v E' => ((v = 1 ∧ 0 ≤ k ∧ k < m) ∨ (v = 0 ∧ (k < 0 ∨ m ≤ k))) ∧ E' = E) := by
  refine CI.mk (by decide +kernel) rfl (Nat.le_of_ble_eq_true rfl) ?_
  intro X hG hL cx hR hI
  subst hG; subst hL
  show V X E (nh, 0, 0) 0 [some (.ref (gb (fG X) + 124)), some (.int (iI k))] []
  refine v_iload_n (pc := 0) cx rfl ga1 dX12_isShower_0 ?_
  refine v_iconst (pc := 1) cx dX12_isShower_1 ?_
  refine v_aload_n (pc := 2) cx rfl ga0 dX12_isShower_2 ?_
  refine v_getfield (pc := 3) cx flX12_7 (by assumption) gf0 dX12_isShower_3 ?_
  refine v_bipush (pc := 6) cx (by decide) dX12_isShower_6 ?_
  refine v_iaload (pc := 8) cx (26) (by assumption) (by omega) dX12_isShower_8 ?_
  refine v_iconst (pc := 9) cx dX12_isShower_9 ?_
  refine v_isub (pc := 10) cx dX12_isShower_10 ?_
  refine v_callSI (pc := 11) cx hR (m_in _ _ _ _ (by omega)) mlX12_33 (by decide) rfl (Nat.le_of_ble_eq_true rfl) ⟨Nat.le_refl _, Nat.le_refl _⟩ dX12_isShower_11 (fun v1 E1 hP => ?_)
  obtain ⟨hv, rfl⟩ := hP
  have hnt : narrow .boolean (.int (iI v1)) = .int (iI v1) := by rcases hv with ⟨rfl, _⟩ | ⟨rfl, _⟩ <;> rfl
  refine v_ireturn (pc := 14) cx hI hnt ?_ dX12_isShower_14
  exact ⟨by omega, rfl⟩
set_option maxRecDepth 100000 in
set_option maxHeartbeats 4000000 in
theorem m_isPair (lc : Launch) (G : Gc) (E : Wd) (nh : Nat) {m : Nat} {k st ty aa re rs sm : Int} {d : Nat → Int} (h0 : E 124 = some (oMd G st ty aa re rs sm)) (hd : E 125 = some (AI G 244 d)) (hn : d 19 = (m : Int)) (hm : m ≤ 3) (hk : -2147483648 ≤ k ∧ k < 2147483648) : CI lc G 1 yX12_isPair cX12_isPair 2 .boolean [.ref (gb G + 124), .int (iI k)] E nh 0 0 (fun v E' => ((v = 1 ∧ 0 ≤ k ∧ k < m) ∨ (v = 0 ∧ (k < 0 ∨ m ≤ k))) ∧ E' = E) := by
  refine CI.mk (by decide +kernel) rfl (Nat.le_of_ble_eq_true rfl) ?_
  intro X hG hL cx hR hI
  subst hG; subst hL
  show V X E (nh, 0, 0) 0 [some (.ref (gb (fG X) + 124)), some (.int (iI k))] []
  refine v_iload_n (pc := 0) cx rfl ga1 dX12_isPair_0 ?_
  refine v_iconst (pc := 1) cx dX12_isPair_1 ?_
  refine v_aload_n (pc := 2) cx rfl ga0 dX12_isPair_2 ?_
  refine v_getfield (pc := 3) cx flX12_7 (by assumption) gf0 dX12_isPair_3 ?_
  refine v_bipush (pc := 6) cx (by decide) dX12_isPair_6 ?_
  refine v_iaload (pc := 8) cx (19) (by assumption) (by omega) dX12_isPair_8 ?_
  refine v_iconst (pc := 9) cx dX12_isPair_9 ?_
  refine v_isub (pc := 10) cx dX12_isPair_10 ?_
  refine v_callSI (pc := 11) cx hR (m_in _ _ _ _ (by omega)) mlX12_33 (by decide) rfl (Nat.le_of_ble_eq_true rfl) ⟨Nat.le_refl _, Nat.le_refl _⟩ dX12_isPair_11 (fun v1 E1 hP => ?_)
  obtain ⟨hv, rfl⟩ := hP
  have hnt : narrow .boolean (.int (iI v1)) = .int (iI v1) := by rcases hv with ⟨rfl, _⟩ | ⟨rfl, _⟩ <;> rfl
  refine v_ireturn (pc := 14) cx hI hnt ?_ dX12_isPair_14
  exact ⟨by omega, rfl⟩
set_option maxRecDepth 100000 in
set_option maxHeartbeats 4000000 in
theorem r_addShower (lc : Launch) (G : Gc) (E : Wd) (nh : Nat) {Ψ : Fs} {b0 l0 r0 : Int} (h : isM G E Ψ) (hk : okX Ψ) (hb0 : -2147483648 ≤ b0 ∧ b0 < 2147483648) (hl0 : -2147483648 ≤ l0 ∧ l0 < 2147483648) (hr0 : -2147483648 ≤ r0 ∧ r0 < 2147483648) : CI lc G 5 yX12_addShower cX12_addShower 4 .int [.ref (gb G + 124), .int (iI b0), .int (iI l0), .int (iI r0)] E nh 0 0 (fun v E' => v = vAdd Ψ b0 l0 r0 ∧ isM G E' (sAdd Ψ b0 l0 r0) ∧ Out E E' 124 131) := by
  refine CI.mk (by decide +kernel) rfl (Nat.le_of_ble_eq_true rfl) ?_
  intro X hG hL cx hR hI
  subst hG; subst hL
  show V X E (nh, 0, 0) 0 [some (.ref (gb (fG X) + 124)), some (.int (iI b0)), some (.int (iI l0)), some (.int (iI r0))] []
  obtain ⟨⟨s, sh, ge, mk⟩, hs, tx⟩ := Ψ
  obtain ⟨aa, re, rs, sm, d, w', a, c, rd, fi, hr, hD, hH, hC⟩ := id h
  obtain ⟨h0, hd, hw', ha, hc, hrd, hfi⟩ := id hr
  obtain ⟨q1, ⟨q2, q3⟩, ⟨q4, q5⟩, q6, q7⟩ := id hD
  obtain ⟨⟨ks, ke, k8, k9, k10⟩, ⟨kh, kh2⟩, kt⟩ := id hk
  simp only at h0 hr hD q1 q2 q3 q4 q5 q6 q7 hH hC ks ke k8 k9 k10 kh kh2 kt
  have g0 := q1 0 (by omega)
  have kt0 := ks.1
  have ksh : okSh (lst (ar d 27) (ar d 39) (ar d 51) sh.length) := by rw [q5]; exact k8
  have kge : okGe (lst2 (fun j => d (20 + 2 * j)) (fun j => d (21 + 2 * j)) ge.length) := by rw [q3]; exact k9
  have n8 := k8.1
  have n9 := k9.1
  have n10 := k10.1
  have bad : (¬ (s 0 ≤ b0 ∧ b0 ≤ 5000) ∨ ¬ (1 ≤ l0 ∧ l0 ≤ 500) ∨ ¬ (1 ≤ r0 ∧ r0 ≤ 200)) → V X E (nh, 0, 0) 38 [some (.ref (gb (fG X) + 124)), some (.int (iI b0)), some (.int (iI l0)), some (.int (iI r0))] [] := by
    intro hb
    refine v_iconst (pc := 38) cx dX12_addShower_38 ?_
    refine v_ireturn (pc := 39) cx hI rfl ?_ dX12_addShower_39
    unfold vAdd sAdd
    rw [if_pos hb, if_pos hb]
    exact ⟨rfl, h, fun _ _ => rfl⟩
  refine v_iload_n (pc := 0) cx rfl ga1 dX12_addShower_0 ?_
  refine v_aload_n (pc := 1) cx rfl ga0 dX12_addShower_1 ?_
  refine v_getfield (pc := 2) cx flX12_7 (by assumption) gf0 dX12_addShower_2 ?_
  refine v_iconst (pc := 5) cx dX12_addShower_5 ?_
  refine v_iaload (pc := 6) cx (0) (by assumption) (by omega) dX12_addShower_6 ?_
  refine v_sipush (pc := 7) cx (by decide) dX12_addShower_7 ?_
  refine v_callSI (pc := 10) cx hR (m_in _ _ _ _ (by omega)) mlX12_33 (by decide) rfl (Nat.le_of_ble_eq_true rfl) ⟨Nat.le_refl _, Nat.le_refl _⟩ dX12_addShower_10 (fun r1 E1 hP => ?_)
  obtain ⟨w1, rfl⟩ := hP
  refine v_if_eq (pc := 13) cx 38 dX12_addShower_13 rfl (by omega) (fun c13 => ?_) (fun c13 => ?_)
  · exact bad (Or.inl (by omega))
  · refine v_iload_n (pc := 16) cx rfl ga2 dX12_addShower_16 ?_
    refine v_iconst (pc := 17) cx dX12_addShower_17 ?_
    refine v_sipush (pc := 18) cx (by decide) dX12_addShower_18 ?_
    refine v_callSI (pc := 21) cx hR (m_in _ _ _ _ (by omega)) mlX12_33 (by decide) rfl (Nat.le_of_ble_eq_true rfl) ⟨Nat.le_refl _, Nat.le_refl _⟩ dX12_addShower_21 (fun r2 E2 hP => ?_)
    obtain ⟨w2, rfl⟩ := hP
    refine v_if_eq (pc := 24) cx 38 dX12_addShower_24 rfl (by omega) (fun c24 => ?_) (fun c24 => ?_)
    · exact bad (Or.inr (Or.inl (by omega)))
    · refine v_iload_n (pc := 27) cx rfl ga3 dX12_addShower_27 ?_
      refine v_iconst (pc := 28) cx dX12_addShower_28 ?_
      refine v_sipush (pc := 29) cx (by decide) dX12_addShower_29 ?_
      refine v_callSI (pc := 32) cx hR (m_in _ _ _ _ (by omega)) mlX12_33 (by decide) rfl (Nat.le_of_ble_eq_true rfl) ⟨Nat.le_refl _, Nat.le_refl _⟩ dX12_addShower_32 (fun r3 E3 hP => ?_)
      obtain ⟨w3, rfl⟩ := hP
      refine v_if_ne (pc := 35) cx 40 dX12_addShower_35 rfl (by omega) (fun c35 => ?_) (fun c35 => ?_)
      · have hg : ¬ (¬ (s 0 ≤ b0 ∧ b0 ≤ 5000) ∨ ¬ (1 ≤ l0 ∧ l0 ≤ 500) ∨ ¬ (1 ≤ r0 ∧ r0 ≤ 200)) := by omega
        refine v_aload_n (pc := 40) cx rfl ga0 dX12_addShower_40 ?_
        refine v_getfield (pc := 41) cx flX12_7 (by assumption) gf0 dX12_addShower_41 ?_
        refine v_bipush (pc := 44) cx (by decide) dX12_addShower_44 ?_
        refine v_iaload (pc := 46) cx (26) (by assumption) (by omega) dX12_addShower_46 ?_
        refine v_bipush (pc := 47) cx (by decide) dX12_addShower_47 ?_
        refine v_icmp_ne (pc := 49) cx 55 dX12_addShower_49 rfl (by omega) (fun c49 => ?_) (fun c49 => ?_)
        · refine v_aload_n (pc := 55) cx rfl ga0 dX12_addShower_55 ?_
          refine v_callVV (pc := 56) cx hR (m_records _ _ _ _ h0 hd hw' kh) mlX12_63 (by decide) (by assumption) rfl rfl rfl (Nat.le_of_ble_eq_true rfl) ⟨Nat.le_refl _, Nat.le_refl _⟩ dX12_addShower_56 (fun E4 hP => ?_)
          obtain ⟨w2, hr4, hH4⟩ := rec_isM hr hD hH hC hk.1 hk.2.1 hP
          have hF4 := hP.2.2
          refine v_aload_n (pc := 59) cx rfl ga0 dX12_addShower_59 ?_
          refine v_iload_n (pc := 60) cx rfl ga1 dX12_addShower_60 ?_
          refine v_iload_n (pc := 61) cx rfl ga2 dX12_addShower_61 ?_
          refine v_iload_n (pc := 62) cx rfl ga3 dX12_addShower_62 ?_
          refine v_callVI (pc := 63) cx hR (m_puts _ _ _ _ hr4.1 hr4.2.1 q4 (by omega) (fun j hj => (okSh_at ksh j hj).1) (by omega)) mlX12_66 (by decide) hr4.1 rfl rfl rfl (Nat.le_of_ble_eq_true rfl) ⟨Nat.le_refl _, Nat.le_refl _⟩ dX12_addShower_63 (fun v5 E5 hP5 => ?_)
          obtain ⟨rfl, ⟨dD, hd5, hn5, hl5, ho5⟩, hF5⟩ := hP5
          refine v_ireturn (pc := 66) cx hI rfl ?_ dX12_addShower_66
          unfold vAdd sAdd
          rw [if_neg hg, if_neg hg]
          simp only
          rw [if_neg (by omega), if_neg (by omega), q5]
          rw [q5] at hl5
          have el : (insL sh (b0, l0, r0)).length = sh.length + 1 := insL_len
          refine ⟨rfl, ⟨aa, re, rs, sm, dD, w2, a, c, rd, fi, hr4.dd hF5 hd5, ⟨fun i hi => (ho5 i (by omega)).trans (q1 i hi), ⟨(ho5 19 (by omega)).trans q2, (lst2_ext (fun j hj => ?_)).trans q3⟩, ⟨?_, ?_⟩, (ho5 63 (by omega)).trans q6, (lst_ext (fun j _ => ⟨ho5 _ (by omega), ho5 _ (by omega), ho5 _ (by omega)⟩)).trans q7⟩, hH4, hC⟩, fun j hj => (hF5 j (by omega)).trans (hF4 j (by omega))⟩
          · have hj : j < ge.length := hj
            exact ⟨ho5 _ (by omega), ho5 _ (by omega)⟩
          · show dD 26 = ((insL sh (b0, l0, r0)).length : Int)
            rw [hn5, el]
            rfl
          · show lst _ _ _ (insL sh (b0, l0, r0)).length = insL sh (b0, l0, r0)
            rw [el]
            exact hl5
        · refine v_bipush (pc := 52) cx (by decide) dX12_addShower_52 ?_
          refine v_ireturn (pc := 54) cx hI rfl ?_ dX12_addShower_54
          unfold vAdd sAdd
          rw [if_neg hg, if_neg hg]
          simp only
          rw [if_pos (by omega), if_pos (by omega)]
          exact ⟨rfl, h, fun _ _ => rfl⟩
      · exact bad (Or.inr (Or.inr (by omega)))
set_option maxRecDepth 100000 in
set_option maxHeartbeats 4000000 in
theorem r_cancel (lc : Launch) (G : Gc) (E : Wd) (nh : Nat) {Ψ : Fs} {k : Int} (h : isM G E Ψ) (hk : okX Ψ) (hb0 : -2147483648 ≤ k ∧ k < 2147483648) : CI lc G 5 yX12_cancel cX12_cancel 2 .int [.ref (gb G + 124), .int (iI k)] E nh 0 0 (fun v E' => v = vCan Ψ k ∧ isM G E' (sCan Ψ k) ∧ Out E E' 124 131) := by
  refine CI.mk (by decide +kernel) rfl (Nat.le_of_ble_eq_true rfl) ?_
  intro X hG hL cx hR hI
  subst hG; subst hL
  show V X E (nh, 0, 0) 0 [some (.ref (gb (fG X) + 124)), some (.int (iI k))] []
  obtain ⟨⟨s, sh, ge, mk⟩, hs, tx⟩ := Ψ
  obtain ⟨aa, re, rs, sm, d, w', a, c, rd, fi, hr, hD, hH, hC⟩ := id h
  obtain ⟨h0, hd, hw', ha, hc, hrd, hfi⟩ := id hr
  obtain ⟨q1, ⟨q2, q3⟩, ⟨q4, q5⟩, q6, q7⟩ := id hD
  obtain ⟨⟨ks, ke, k8, k9, k10⟩, ⟨kh, kh2⟩, kt⟩ := id hk
  simp only at h0 hr hD q1 q2 q3 q4 q5 q6 q7 hH hC ks ke k8 k9 k10 kh kh2 kt
  have g0 := q1 0 (by omega)
  have kt0 := ks.1
  have ksh : okSh (lst (ar d 27) (ar d 39) (ar d 51) sh.length) := by rw [q5]; exact k8
  have kge : okGe (lst2 (fun j => d (20 + 2 * j)) (fun j => d (21 + 2 * j)) ge.length) := by rw [q3]; exact k9
  have n8 := k8.1
  have n9 := k9.1
  have n10 := k10.1
  refine v_aload_n (pc := 0) cx rfl ga0 dX12_cancel_0 ?_
  refine v_iload_n (pc := 1) cx rfl ga1 dX12_cancel_1 ?_
  refine v_callVI (pc := 2) cx hR (m_isShower _ _ _ _ h0 hd q4 n8 hb0) mlX12_70 (by decide) (by assumption) rfl rfl rfl (Nat.le_of_ble_eq_true rfl) ⟨Nat.le_refl _, Nat.le_refl _⟩ dX12_cancel_2 (fun r1 E1 hP => ?_)
  obtain ⟨w1, rfl⟩ := hP
  refine v_if_ne (pc := 5) cx 10 dX12_cancel_5 rfl (by omega) (fun c5 => ?_) (fun c5 => ?_)
  · obtain ⟨kn, rfl⟩ := Int.eq_ofNat_of_zero_le (show 0 ≤ k by omega)
    have hg : ¬ ¬ (0 ≤ (kn : Int) ∧ (kn : Int) < (sh.length : Int)) := by omega
    have hbk := okSh_at ksh kn (by omega)
    have e := k_of q5 (show kn < sh.length by omega)
    have e1 : d (27 + kn) = k1 sh kn := e.1
    have hbk1 : 0 ≤ d (27 + kn) ∧ d (27 + kn) ≤ 5000 := hbk.1
    refine v_aload_n (pc := 10) cx rfl ga0 dX12_cancel_10 ?_
    refine v_getfield (pc := 11) cx flX12_7 (by assumption) gf0 dX12_cancel_11 ?_
    refine v_bipush (pc := 14) cx (by decide) dX12_cancel_14 ?_
    refine v_iload_n (pc := 16) cx rfl ga1 dX12_cancel_16 ?_
    refine v_iadd (pc := 17) cx dX12_cancel_17 ?_
    refine v_iaload (pc := 18) cx (27 + kn) (by assumption) (by omega) dX12_cancel_18 ?_
    refine v_aload_n (pc := 19) cx rfl ga0 dX12_cancel_19 ?_
    refine v_getfield (pc := 20) cx flX12_7 (by assumption) gf0 dX12_cancel_20 ?_
    refine v_iconst (pc := 23) cx dX12_cancel_23 ?_
    refine v_iaload (pc := 24) cx (0) (by assumption) (by omega) dX12_cancel_24 ?_
    refine v_icmp_ge (pc := 25) cx 31 dX12_cancel_25 rfl (by omega) (fun c25 => ?_) (fun c25 => ?_)
    · refine v_aload_n (pc := 31) cx rfl ga0 dX12_cancel_31 ?_
      refine v_callVV (pc := 32) cx hR (m_records _ _ _ _ h0 hd hw' kh) mlX12_63 (by decide) (by assumption) rfl rfl rfl (Nat.le_of_ble_eq_true rfl) ⟨Nat.le_refl _, Nat.le_refl _⟩ dX12_cancel_32 (fun E4 hP => ?_)
      obtain ⟨w2, hr4, hH4⟩ := rec_isM hr hD hH hC hk.1 hk.2.1 hP
      have hF4 := hP.2.2
      refine v_aload_n (pc := 35) cx rfl ga0 dX12_cancel_35 ?_
      refine v_iload_n (pc := 36) cx rfl ga1 dX12_cancel_36 ?_
      refine v_callVV (pc := 37) cx hR (m_drops _ _ _ _ hr4.1 hr4.2.1 q4 n8 (by omega)) mlX12_56 (by decide) hr4.1 rfl rfl rfl (Nat.le_of_ble_eq_true rfl) ⟨Nat.le_refl _, Nat.le_refl _⟩ dX12_cancel_37 (fun E5 hP5 => ?_)
      obtain ⟨⟨dD, hd5, hn5, hl5, ho5⟩, hF5⟩ := hP5
      have hr5 := hr4.dd hF5 hd5
      obtain ⟨h05, -⟩ := id hr5
      refine v_aload_n (pc := 40) cx rfl ga0 dX12_cancel_40 ?_
      refine v_getfield (pc := 41) cx flX12_7 (by assumption) gf0 dX12_cancel_41 ?_
      refine v_bipush (pc := 44) cx (by decide) dX12_cancel_44 ?_
      refine v_iaload (pc := 46) cx (26) (by assumption) (by omega) dX12_cancel_46 ?_
      refine v_ireturn (pc := 47) cx hI rfl ?_ dX12_cancel_47
      unfold vCan sCan
      simp only
      rw [if_neg hg, if_neg hg, Int.toNat_natCast, if_neg (by omega), if_neg (by omega)]
      have el : (delL sh kn).length = sh.length - 1 := delL_len
      refine ⟨hn5, ⟨aa, re, rs, sm, dD, w2, a, c, rd, fi, hr5, ⟨fun i hi => (ho5 i (by omega)).trans (q1 i hi), ⟨(ho5 19 (by omega)).trans q2, (lst2_ext (fun j hj => ?_)).trans q3⟩, ⟨?_, ?_⟩, (ho5 63 (by omega)).trans q6, (lst_ext (fun j _ => ⟨ho5 _ (by omega), ho5 _ (by omega), ho5 _ (by omega)⟩)).trans q7⟩, hH4, hC⟩, fun j hj => (hF5 j (by omega)).trans (hF4 j (by omega))⟩
      · have hj : j < ge.length := hj
        exact ⟨ho5 _ (by omega), ho5 _ (by omega)⟩
      · show dD 26 = ((delL sh kn).length : Int)
        rw [hn5, el]
        omega
      · show lst _ _ _ (delL sh kn).length = delL sh kn
        rw [el]
        conv => rhs; rw [← q5]
        rw [delL_lst]
        exact lst_ext (fun j hj => hl5 j hj)
    · refine v_bipush (pc := 28) cx (by decide) dX12_cancel_28 ?_
      refine v_ireturn (pc := 30) cx hI rfl ?_ dX12_cancel_30
      unfold vCan sCan
      simp only
      rw [if_neg hg, if_neg hg, Int.toNat_natCast, if_pos (by omega), if_pos (by omega)]
      exact ⟨rfl, h, fun _ _ => rfl⟩
  · refine v_iconst (pc := 8) cx dX12_cancel_8 ?_
    refine v_ireturn (pc := 9) cx hI rfl ?_ dX12_cancel_9
    have hg : ¬ (0 ≤ k ∧ k < (sh.length : Int)) := by omega
    unfold vCan sCan
    simp only
    rw [if_pos hg, if_pos hg]
    exact ⟨rfl, h, fun _ _ => rfl⟩
set_option maxRecDepth 100000 in
set_option maxHeartbeats 4000000 in
theorem r_shower (lc : Launch) (G : Gc) (E : Wd) (nh : Nat) {Ψ : Fs} {k w : Int} (h : isM G E Ψ) (hk : okX Ψ) (hb0 : -2147483648 ≤ k ∧ k < 2147483648) (hw : -2147483648 ≤ w ∧ w < 2147483648) : CI lc G 5 yX12_shower cX12_shower 4 .int [.ref (gb G + 124), .int (iI k), .int (iI w)] E nh 0 0 (fun v E' => v = vSho Ψ k w ∧ E' = E) := by
  refine CI.mk (by decide +kernel) rfl (Nat.le_of_ble_eq_true rfl) ?_
  intro X hG hL cx hR hI
  subst hG; subst hL
  show V X E (nh, 0, 0) 0 [some (.ref (gb (fG X) + 124)), some (.int (iI k)), some (.int (iI w)), none] []
  obtain ⟨⟨s, sh, ge, mk⟩, hs, tx⟩ := Ψ
  obtain ⟨aa, re, rs, sm, d, w', a, c, rd, fi, hr, hD, hH, hC⟩ := id h
  obtain ⟨h0, hd, hw', ha, hc, hrd, hfi⟩ := id hr
  obtain ⟨q1, ⟨q2, q3⟩, ⟨q4, q5⟩, q6, q7⟩ := id hD
  obtain ⟨⟨ks, ke, k8, k9, k10⟩, ⟨kh, kh2⟩, kt⟩ := id hk
  simp only at h0 hr hD q1 q2 q3 q4 q5 q6 q7 hH hC ks ke k8 k9 k10 kh kh2 kt
  have g0 := q1 0 (by omega)
  have kt0 := ks.1
  have ksh : okSh (lst (ar d 27) (ar d 39) (ar d 51) sh.length) := by rw [q5]; exact k8
  have kge : okGe (lst2 (fun j => d (20 + 2 * j)) (fun j => d (21 + 2 * j)) ge.length) := by rw [q3]; exact k9
  have n8 := k8.1
  have n9 := k9.1
  have n10 := k10.1
  have bad : (¬ (0 ≤ k ∧ k < (sh.length : Int)) ∨ ¬ (0 ≤ w ∧ w ≤ 3)) → V X E (nh, 0, 0) 17 [some (.ref (gb (fG X) + 124)), some (.int (iI k)), some (.int (iI w)), none] [] := by
    intro hb
    refine v_iconst (pc := 17) cx dX12_shower_17 ?_
    refine v_ireturn (pc := 18) cx hI rfl ?_ dX12_shower_18
    unfold vSho
    rw [if_pos hb]
    exact ⟨rfl, rfl⟩
  refine v_aload_n (pc := 0) cx rfl ga0 dX12_shower_0 ?_
  refine v_iload_n (pc := 1) cx rfl ga1 dX12_shower_1 ?_
  refine v_callVI (pc := 2) cx hR (m_isShower _ _ _ _ h0 hd q4 n8 hb0) mlX12_70 (by decide) (by assumption) rfl rfl rfl (Nat.le_of_ble_eq_true rfl) ⟨Nat.le_refl _, Nat.le_refl _⟩ dX12_shower_2 (fun r1 E1 hP => ?_)
  obtain ⟨w1, rfl⟩ := hP
  refine v_if_eq (pc := 5) cx 17 dX12_shower_5 rfl (by omega) (fun c5 => ?_) (fun c5 => ?_)
  · exact bad (Or.inl (by omega))
  · refine v_iload_n (pc := 8) cx rfl ga2 dX12_shower_8 ?_
    refine v_iconst (pc := 9) cx dX12_shower_9 ?_
    refine v_iconst (pc := 10) cx dX12_shower_10 ?_
    refine v_callSI (pc := 11) cx hR (m_in _ _ _ _ (by omega)) mlX12_33 (by decide) rfl (Nat.le_of_ble_eq_true rfl) ⟨Nat.le_refl _, Nat.le_refl _⟩ dX12_shower_11 (fun r2 E2 hP => ?_)
    obtain ⟨w2, rfl⟩ := hP
    refine v_if_ne (pc := 14) cx 19 dX12_shower_14 rfl (by omega) (fun c14 => ?_) (fun c14 => ?_)
    · obtain ⟨kn, rfl⟩ := Int.eq_ofNat_of_zero_le (show 0 ≤ k by omega)
      have hg : ¬ (¬ (0 ≤ (kn : Int) ∧ (kn : Int) < (sh.length : Int)) ∨ ¬ (0 ≤ w ∧ w ≤ 3)) := by omega
      have hbk := okSh_at ksh kn (by omega)
      have e := k_of q5 (show kn < sh.length by omega)
      have e1 : d (27 + kn) = k1 sh kn := e.1
      have e2 : d (39 + kn) = k2 sh kn := e.2.1
      have e3 : d (51 + kn) = k3 sh kn := e.2.2
      have hbk1 : 0 ≤ d (27 + kn) ∧ d (27 + kn) ≤ 5000 := hbk.1
      unfold vSho at hI
      simp only at hI
      rw [if_neg hg, Int.toNat_natCast] at hI
      refine v_aload_n (pc := 19) cx rfl ga0 dX12_shower_19 ?_
      refine v_getfield (pc := 20) cx flX12_7 (by assumption) gf0 dX12_shower_20 ?_
      refine v_bipush (pc := 23) cx (by decide) dX12_shower_23 ?_
      refine v_iload_n (pc := 25) cx rfl ga1 dX12_shower_25 ?_
      refine v_iadd (pc := 26) cx dX12_shower_26 ?_
      refine v_iaload (pc := 27) cx (27 + kn) (by assumption) (by omega) dX12_shower_27 ?_
      refine v_istore_n (pc := 28) cx rfl (sa3 rfl) dX12_shower_28 ?_
      refine v_iload_n (pc := 29) cx rfl ga2 dX12_shower_29 ?_
      refine v_iconst (pc := 30) cx dX12_shower_30 ?_
      refine v_icmp_ne (pc := 31) cx 67 dX12_shower_31 rfl (by omega) (fun c31 => ?_) (fun c31 => ?_)
      · rcases (show w = 0 ∨ w = 1 ∨ w = 2 by omega) with rfl | rfl | rfl
        · refine v_aload_n (pc := 67) cx rfl ga0 dX12_shower_67 ?_
          refine v_getfield (pc := 68) cx flX12_7 (by assumption) gf0 dX12_shower_68 ?_
          refine v_bipush (pc := 71) cx (by decide) dX12_shower_71 ?_
          refine v_bipush (pc := 73) cx (by decide) dX12_shower_73 ?_
          refine v_iload_n (pc := 75) cx rfl ga2 dX12_shower_75 ?_
          refine v_imul (pc := 76) cx dX12_shower_76 ?_
          refine v_iadd (pc := 77) cx dX12_shower_77 ?_
          refine v_iload_n (pc := 78) cx rfl ga1 dX12_shower_78 ?_
          refine v_iadd (pc := 79) cx dX12_shower_79 ?_
          refine v_iaload (pc := 80) cx (27 + kn) (by assumption) (by omega) dX12_shower_80 ?_
          refine v_ireturn (pc := 81) cx hI rfl ?_ dX12_shower_81
          exact ⟨e1, rfl⟩
        · refine v_aload_n (pc := 67) cx rfl ga0 dX12_shower_67 ?_
          refine v_getfield (pc := 68) cx flX12_7 (by assumption) gf0 dX12_shower_68 ?_
          refine v_bipush (pc := 71) cx (by decide) dX12_shower_71 ?_
          refine v_bipush (pc := 73) cx (by decide) dX12_shower_73 ?_
          refine v_iload_n (pc := 75) cx rfl ga2 dX12_shower_75 ?_
          refine v_imul (pc := 76) cx dX12_shower_76 ?_
          refine v_iadd (pc := 77) cx dX12_shower_77 ?_
          refine v_iload_n (pc := 78) cx rfl ga1 dX12_shower_78 ?_
          refine v_iadd (pc := 79) cx dX12_shower_79 ?_
          refine v_iaload (pc := 80) cx (39 + kn) (by assumption) (by omega) dX12_shower_80 ?_
          refine v_ireturn (pc := 81) cx hI rfl ?_ dX12_shower_81
          exact ⟨e2, rfl⟩
        · refine v_aload_n (pc := 67) cx rfl ga0 dX12_shower_67 ?_
          refine v_getfield (pc := 68) cx flX12_7 (by assumption) gf0 dX12_shower_68 ?_
          refine v_bipush (pc := 71) cx (by decide) dX12_shower_71 ?_
          refine v_bipush (pc := 73) cx (by decide) dX12_shower_73 ?_
          refine v_iload_n (pc := 75) cx rfl ga2 dX12_shower_75 ?_
          refine v_imul (pc := 76) cx dX12_shower_76 ?_
          refine v_iadd (pc := 77) cx dX12_shower_77 ?_
          refine v_iload_n (pc := 78) cx rfl ga1 dX12_shower_78 ?_
          refine v_iadd (pc := 79) cx dX12_shower_79 ?_
          refine v_iaload (pc := 80) cx (51 + kn) (by assumption) (by omega) dX12_shower_80 ?_
          refine v_ireturn (pc := 81) cx hI rfl ?_ dX12_shower_81
          exact ⟨e3, rfl⟩
      · have w3 : w = 3 := by omega
        subst w3
        refine v_iload_n (pc := 34) cx rfl ga3 dX12_shower_34 ?_
        refine v_aload_n (pc := 35) cx rfl ga0 dX12_shower_35 ?_
        refine v_getfield (pc := 36) cx flX12_7 (by assumption) gf0 dX12_shower_36 ?_
        refine v_bipush (pc := 39) cx (by decide) dX12_shower_39 ?_
        refine v_iload_n (pc := 41) cx rfl ga1 dX12_shower_41 ?_
        refine v_iadd (pc := 42) cx dX12_shower_42 ?_
        refine v_iaload (pc := 43) cx (39 + kn) (by assumption) (by omega) dX12_shower_43 ?_
        refine v_iadd (pc := 44) cx dX12_shower_44 ?_
        refine v_iload_n (pc := 45) cx rfl ga3 dX12_shower_45 ?_
        refine v_aload_n (pc := 46) cx rfl ga0 dX12_shower_46 ?_
        refine v_getfield (pc := 47) cx flX12_7 (by assumption) gf0 dX12_shower_47 ?_
        refine v_iconst (pc := 50) cx dX12_shower_50 ?_
        refine v_iaload (pc := 51) cx (0) (by assumption) (by omega) dX12_shower_51 ?_
        refine v_icmp_le (pc := 52) cx 59 dX12_shower_52 rfl (by omega) (fun c52 => ?_) (fun c52 => ?_)
        · refine v_aload_n (pc := 59) cx rfl ga0 dX12_shower_59 ?_
          refine v_getfield (pc := 60) cx flX12_7 (by assumption) gf0 dX12_shower_60 ?_
          refine v_iconst (pc := 63) cx dX12_shower_63 ?_
          refine v_iaload (pc := 64) cx (0) (by assumption) (by omega) dX12_shower_64 ?_
          refine v_isub (pc := 65) cx dX12_shower_65 ?_
          refine v_ireturn (pc := 66) cx hI rfl ?_ dX12_shower_66
          refine ⟨?_, rfl⟩
          rw [if_neg (by decide), if_neg (by decide), if_neg (by decide)]
          omega
        · refine v_iload_n (pc := 55) cx rfl ga3 dX12_shower_55 ?_
          refine v_goto (pc := 56) cx 65 dX12_shower_56 rfl ?_
          refine v_isub (pc := 65) cx dX12_shower_65 ?_
          refine v_ireturn (pc := 66) cx hI rfl ?_ dX12_shower_66
          refine ⟨?_, rfl⟩
          rw [if_neg (by decide), if_neg (by decide), if_neg (by decide)]
          omega
    · exact bad (Or.inr (by omega))
set_option maxRecDepth 100000 in
set_option maxHeartbeats 4000000 in
theorem r_run (lc : Launch) (G : Gc) (E : Wd) (nh : Nat) {Ψ : Fs} {k : Int} (h : isM G E Ψ) (hk : okX Ψ) (hb0 : -2147483648 ≤ k ∧ k < 2147483648) : CI lc G 5 yX12_run cX12_run 2 .int [.ref (gb G + 124), .int (iI k)] E nh 0 0 (fun v E' => v = vRun Ψ k ∧ isM G E' (sRun Ψ k) ∧ Out E E' 124 131) := by
  refine CI.mk (by decide +kernel) rfl (Nat.le_of_ble_eq_true rfl) ?_
  intro X hG hL cx hR hI
  subst hG; subst hL
  show V X E (nh, 0, 0) 0 [some (.ref (gb (fG X) + 124)), some (.int (iI k))] []
  obtain ⟨⟨s, sh, ge, mk⟩, hs, tx⟩ := Ψ
  obtain ⟨aa, re, rs, sm, d, w', a, c, rd, fi, hr, hD, hH, hC⟩ := id h
  obtain ⟨h0, hd, hw', ha, hc, hrd, hfi⟩ := id hr
  obtain ⟨q1, ⟨q2, q3⟩, ⟨q4, q5⟩, q6, q7⟩ := id hD
  obtain ⟨⟨ks, ke, k8, k9, k10⟩, ⟨kh, kh2⟩, kt⟩ := id hk
  simp only at h0 hr hD q1 q2 q3 q4 q5 q6 q7 hH hC ks ke k8 k9 k10 kh kh2 kt
  have g0 := q1 0 (by omega)
  have kt0 := ks.1
  have ksh : okSh (lst (ar d 27) (ar d 39) (ar d 51) sh.length) := by rw [q5]; exact k8
  have kge : okGe (lst2 (fun j => d (20 + 2 * j)) (fun j => d (21 + 2 * j)) ge.length) := by rw [q3]; exact k9
  have n8 := k8.1
  have n9 := k9.1
  have n10 := k10.1
  have bad : eTk ((s, sh, ge, mk), hs, tx) k ≠ 0 → eTk ((s, sh, ge, mk), hs, tx) k = vRun ((s, sh, ge, mk), hs, tx) k ∧ isM (fG X) E (sRun ((s, sh, ge, mk), hs, tx) k) := by
    intro hb
    unfold vRun sRun
    rw [if_neg hb, if_neg hb]
    exact ⟨rfl, h⟩
  refine v_iload_n (pc := 0) cx rfl ga1 dX12_run_0 ?_
  refine v_iconst (pc := 1) cx dX12_run_1 ?_
  refine v_sipush (pc := 2) cx (by decide) dX12_run_2 ?_
  refine v_callSI (pc := 5) cx hR (m_in _ _ _ _ (by omega)) mlX12_33 (by decide) rfl (Nat.le_of_ble_eq_true rfl) ⟨Nat.le_refl _, Nat.le_refl _⟩ dX12_run_5 (fun r1 E1 hP => ?_)
  obtain ⟨w1, rfl⟩ := hP
  refine v_if_ne (pc := 8) cx 13 dX12_run_8 rfl (by omega) (fun c8 => ?_) (fun c8 => ?_)
  · refine v_aload_n (pc := 13) cx rfl ga0 dX12_run_13 ?_
    refine v_getfield (pc := 14) cx flX12_7 (by assumption) gf0 dX12_run_14 ?_
    refine v_iconst (pc := 17) cx dX12_run_17 ?_
    refine v_iaload (pc := 18) cx (0) (by assumption) (by omega) dX12_run_18 ?_
    refine v_iload_n (pc := 19) cx rfl ga1 dX12_run_19 ?_
    refine v_iadd (pc := 20) cx dX12_run_20 ?_
    refine v_sipush (pc := 21) cx (by decide) dX12_run_21 ?_
    refine v_icmp_le (pc := 24) cx 30 dX12_run_24 rfl (by omega) (fun c24 => ?_) (fun c24 => ?_)
    · have e0 : eTk ((s, sh, ge, mk), hs, tx) k = 0 := by
        unfold eTk
        rw [if_neg (by omega), if_neg (by simp only; omega)]
      obtain ⟨kn, rfl⟩ := Int.eq_ofNat_of_zero_le (show 0 ≤ k by omega)
      refine v_aload_n (pc := 30) cx rfl ga0 dX12_run_30 ?_
      refine v_callVV (pc := 31) cx hR (m_records _ _ _ _ h0 hd hw' kh) mlX12_63 (by decide) (by assumption) rfl rfl rfl (Nat.le_of_ble_eq_true rfl) ⟨Nat.le_refl _, Nat.le_refl _⟩ dX12_run_31 (fun E4 hP => ?_)
      obtain ⟨w2, hr4, hH4⟩ := rec_isM hr hD hH hC hk.1 hk.2.1 hP
      have hF4 := hP.2.2
      refine v_aload_n (pc := 34) cx rfl ga0 dX12_run_34 ?_
      refine v_iload_n (pc := 35) cx rfl ga1 dX12_run_35 ?_
      refine v_callVI (pc := 36) cx hR (m_goes _ _ _ _ hr4.1 hr4.2.1 hD hk.1 (by simp only; omega) (by omega)) mlX12_74 (by decide) hr4.1 rfl rfl rfl (Nat.le_of_ble_eq_true rfl) ⟨Nat.le_refl _, Nat.le_refl _⟩ dX12_run_36 (fun v5 E5 hP5 => ?_)
      obtain ⟨rfl, ⟨dD, hd5, hD5⟩, hF5⟩ := hP5
      refine v_ireturn (pc := 39) cx hI rfl ?_ dX12_run_39
      unfold vRun sRun
      rw [if_pos e0, if_pos e0, Int.toNat_natCast]
      exact ⟨rfl, ⟨aa, re, rs, sm, dD, w2, a, c, rd, fi, hr4.dd hF5 hd5, hD5, hH4, hC⟩, fun j hj => (hF5 j (by omega)).trans (hF4 j (by omega))⟩
    · have e0 : eTk ((s, sh, ge, mk), hs, tx) k = -3 := by
        unfold eTk
        rw [if_neg (by omega), if_pos (by simp only; omega)]
      have hb := bad (by omega)
      rw [e0] at hb
      refine v_bipush (pc := 27) cx (by decide) dX12_run_27 ?_
      refine v_ireturn (pc := 29) cx hI rfl ?_ dX12_run_29
      exact ⟨hb.1, hb.2, fun _ _ => rfl⟩
  · have e0 : eTk ((s, sh, ge, mk), hs, tx) k = -1 := by
      unfold eTk
      rw [if_pos (by omega)]
    have hb := bad (by omega)
    rw [e0] at hb
    refine v_iconst (pc := 11) cx dX12_run_11 ?_
    refine v_ireturn (pc := 12) cx hI rfl ?_ dX12_run_12
    exact ⟨hb.1, hb.2, fun _ _ => rfl⟩
set_option maxRecDepth 100000 in
set_option maxHeartbeats 4000000 in
theorem r_undo (lc : Launch) (G : Gc) (E : Wd) (nh : Nat) {Ψ : Fs} (h : isM G E Ψ) (hk : okX Ψ) : CI lc G 5 yX12_undo cX12_undo 2 .int [.ref (gb G + 124)] E nh 0 0 (fun v E' => v = vUnd Ψ ∧ isM G E' (sUnd Ψ) ∧ Out E E' 124 131) := by
  refine CI.mk (by decide +kernel) rfl (Nat.le_of_ble_eq_true rfl) ?_
  intro X hG hL cx hR hI
  subst hG; subst hL
  show V X E (nh, 0, 0) 0 [some (.ref (gb (fG X) + 124)), none] []
  obtain ⟨⟨s, sh, ge, mk⟩, hs, tx⟩ := Ψ
  obtain ⟨aa, re, rs, sm, d, w', a, c, rd, fi, hr, hD, hH, hC⟩ := id h
  obtain ⟨h0, hd, hw', ha, hc, hrd, hfi⟩ := id hr
  obtain ⟨q1, ⟨q2, q3⟩, ⟨q4, q5⟩, q6, q7⟩ := id hD
  obtain ⟨⟨ks, ke, k8, k9, k10⟩, ⟨kh, kh2⟩, kt⟩ := id hk
  simp only at h0 hr hD q1 q2 q3 q4 q5 q6 q7 hH hC ks ke k8 k9 k10 kh kh2 kt
  have g0 := q1 0 (by omega)
  have kt0 := ks.1
  have ksh : okSh (lst (ar d 27) (ar d 39) (ar d 51) sh.length) := by rw [q5]; exact k8
  have kge : okGe (lst2 (fun j => d (20 + 2 * j)) (fun j => d (21 + 2 * j)) ge.length) := by rw [q3]; exact k9
  have n8 := k8.1
  have n9 := k9.1
  have n10 := k10.1
  have hFr : Out E E 124 126 := fun _ _ => rfl
  refine v_aload_n (pc := 0) cx rfl ga0 dX12_undo_0 ?_
  refine v_getfield (pc := 1) cx flX12_29 (by assumption) gf2 dX12_undo_1 ?_
  refine v_if_ne (pc := 4) cx 10 dX12_undo_4 rfl (by omega) (fun c4 => ?_) (fun c4 => ?_)
  · have hne : hs ≠ [] := fun q => by subst q; simp at c4
    have hlen : hs.dropLast.length = hs.length - 1 := List.length_dropLast
    have hl1 : 1 ≤ hs.length := by omega
    have hlast : hs.getLast hne = hs[hs.length - 1] := List.getLast_eq_getElem hne
    refine v_aload_n (pc := 10) cx rfl ga0 dX12_undo_10 ?_
    refine v_dup (pc := 11) cx rfl dX12_undo_11 ?_
    refine v_getfield (pc := 12) cx flX12_29 (by assumption) gf2 dX12_undo_12 ?_
    refine v_iconst (pc := 15) cx dX12_undo_15 ?_
    refine v_isub (pc := 16) cx dX12_undo_16 ?_
    refine v_putfield (pc := 17) cx fpX12_29 h0 ⟨rfl, rfl⟩ pf2 dX12_undo_17 (fun E17 hE17 hF17 => ?_)
    replace hd := (hF17 _ (by omega)).trans hd
    replace hw' := (hF17 _ (by omega)).trans hw'
    replace ha := (hF17 _ (by omega)).trans ha
    replace hc := (hF17 _ (by omega)).trans hc
    replace hrd := (hF17 _ (by omega)).trans hrd
    replace hfi := (hF17 _ (by omega)).trans hfi
    replace hFr := fun j hj => (hF17 j (by omega)).trans (hFr j hj)
    refine v_iconst (pc := 20) cx dX12_undo_20 ?_
    refine v_istore_n (pc := 21) cx rfl (sa1 rfl) dX12_undo_21 ?_
    replace h0 := hE17
    have loop : ∀ (z k : Nat) (d' : Nat → Int) (E' : Wd), k ≤ 244 → 244 - k < z → E' 124 = some (oMd (fG X) ((hs.length : Int) - 1) (tx.length : Int) aa re rs sm) → E' 125 = some (AI (fG X) 244 d') → E' 126 = some (AI (fG X) 1220 w') → (∀ i, i < k → d' i = w' (244 * (hs.length - 1) + i)) → Out E17 E' 125 126 → V X E' (nh, 0, 0) 22 [some (.ref (gb (fG X) + 124)), some (.int (iI (k : Int)))] [] := by
      intro z
      induction z with
      | zero => intro k d' E' h1 h2; omega
      | succ z ih =>
        intro k d' E' hk2 hz h0 hd hw' hin hF
        refine v_iload_n (pc := 22) cx rfl ga1 dX12_undo_22 ?_
        refine v_sipush (pc := 23) cx (by decide) dX12_undo_23 ?_
        refine v_icmp_ge (pc := 26) cx 56 dX12_undo_26 rfl (by omega) (fun c26 => ?_) (fun c26 => ?_)
        · refine v_aload_n (pc := 56) cx rfl ga0 dX12_undo_56 ?_
          refine v_getfield (pc := 57) cx flX12_29 (by assumption) gf2 dX12_undo_57 ?_
          refine v_ireturn (pc := 60) cx hI rfl ?_ dX12_undo_60
          refine ⟨?_, ?_, fun j hj => (hF j (by omega)).trans (hFr j (by omega))⟩
          · unfold vUnd
            simp only
            rw [if_neg (by omega)]
          · unfold sUnd
            simp only
            rw [List.getLast?_eq_some_getLast hne]
            refine ⟨aa, re, rs, sm, d', w', a, c, rd, fi, ⟨?_, hd, hw', (hF _ (by omega)).trans ha, (hF _ (by omega)).trans hc, (hF _ (by omega)).trans hrd, (hF _ (by omega)).trans hfi⟩, ?_, fun j hj => ?_, hC⟩
            · simp only
              rw [hlen, show ((hs.length - 1 : Nat) : Int) = (hs.length : Int) - 1 by omega]
              exact h0
            · show isD d' (hs.getLast hne)
              rw [hlast]
              exact (hH (hs.length - 1) (by omega)).ext (fun i hi => hin i (by omega)) (kh2 _ (List.getElem_mem _))
            · simp only
              rw [List.getElem_dropLast]
              exact hH j _
        · refine v_aload_n (pc := 29) cx rfl ga0 dX12_undo_29 ?_
          refine v_getfield (pc := 30) cx flX12_7 (by assumption) gf0 dX12_undo_30 ?_
          refine v_iload_n (pc := 33) cx rfl ga1 dX12_undo_33 ?_
          refine v_aload_n (pc := 34) cx rfl ga0 dX12_undo_34 ?_
          refine v_getfield (pc := 35) cx flX12_13 (by assumption) gf1 dX12_undo_35 ?_
          refine v_sipush (pc := 38) cx (by decide) dX12_undo_38 ?_
          refine v_aload_n (pc := 41) cx rfl ga0 dX12_undo_41 ?_
          refine v_getfield (pc := 42) cx flX12_29 (by assumption) gf2 dX12_undo_42 ?_
          refine v_imul (pc := 45) cx dX12_undo_45 ?_
          refine v_iload_n (pc := 46) cx rfl ga1 dX12_undo_46 ?_
          refine v_iadd (pc := 47) cx dX12_undo_47 ?_
          refine v_iaload (pc := 48) cx (244 * (hs.length - 1) + k) (by assumption) (by omega) dX12_undo_48 ?_
          refine v_iastore (pc := 49) cx (k) hd (by omega) dX12_undo_49 (fun E49 hE49 hF49 => ?_)
          replace h0 := (hF49 _ (by omega)).trans h0
          replace hd := hE49
          replace hw' := (hF49 _ (by omega)).trans hw'
          refine v_iinc (pc := 50) cx ga1 (sa1 rfl) dX12_undo_50 ?_
          refine v_goto (pc := 53) cx 22 dX12_undo_53 rfl ?_
          refine ih (k + 1) _ _ (by omega) (by omega) h0 hd hw' (fun i hi => ?_) (fun j hj => (hF49 j (by omega)).trans (hF j hj))
          by_cases e : i = k
          · subst e
            rw [upI_s]
          · rw [upI_n e]
            exact hin i (by omega)
    exact loop 245 0 d E17 (by omega) (by omega) h0 hd hw' (fun i hi => by omega) (fun _ _ => rfl)
  · refine v_bipush (pc := 7) cx (by decide) dX12_undo_7 ?_
    refine v_ireturn (pc := 9) cx hI rfl ?_ dX12_undo_9
    have e : hs = [] := List.length_eq_zero_iff.mp (by omega)
    subst e
    exact ⟨rfl, h, fun _ _ => rfl⟩
