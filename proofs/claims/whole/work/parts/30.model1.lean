/-! the reference: its object at 124, d 125, was 126, aside 127, text 128, read 129, first 130 -/
abbrev oMd (G : Gc) (st ty aa re rs sm : Int) : va_E := .inr (12, [.ref (gb G + 125), .ref (gb G + 126), .int (iI st), .ref (gb G + 127), .ref (gb G + 128), .int (iI ty), .int (iI aa), .int (iI re), .ref (gb G + 129), .int (iI rs), .ref (gb G + 130), .int (iI sm)])
def ar (d : Nat → Int) (base : Nat) : Nat → Int := fun j => d (base + j)
set_option maxRecDepth 100000 in
set_option maxHeartbeats 4000000 in
theorem m_in (lc : Launch) (G : Gc) (E : Wd) (nh : Nat) {v a b : Int} (h : (-2147483648 ≤ v ∧ v < 2147483648) ∧ (-2147483648 ≤ a ∧ a < 2147483648) ∧ (-2147483648 ≤ b ∧ b < 2147483648)) : CI lc G 0 yX12_in cX12_in 3 .boolean [.int (iI v), .int (iI a), .int (iI b)] E nh 0 0 (fun r E' => ((r = 1 ∧ a ≤ v ∧ v ≤ b) ∨ (r = 0 ∧ (v < a ∨ b < v))) ∧ E' = E) := by
  refine CI.mk (by decide +kernel) rfl (Nat.le_of_ble_eq_true rfl) ?_
  intro X hG hL cx hR hI
  subst hG; subst hL
  show V X E (nh, 0, 0) 0 [some (.int (iI v)), some (.int (iI a)), some (.int (iI b))] []
  refine v_iload_n (pc := 0) cx rfl ga0 dX12_in_0 ?_
  refine v_iload_n (pc := 1) cx rfl ga1 dX12_in_1 ?_
  refine v_icmp_lt (pc := 2) cx 14 dX12_in_2 rfl (by omega) (fun c2 => ?_) (fun c2 => ?_)
  · refine v_iconst (pc := 14) cx dX12_in_14 ?_
    refine v_ireturn (pc := 15) cx hI rfl ?_ dX12_in_15
    exact ⟨Or.inr ⟨rfl, Or.inl c2⟩, rfl⟩
  · refine v_iload_n (pc := 5) cx rfl ga0 dX12_in_5 ?_
    refine v_iload_n (pc := 6) cx rfl ga2 dX12_in_6 ?_
    refine v_icmp_gt (pc := 7) cx 14 dX12_in_7 rfl (by omega) (fun c7 => ?_) (fun c7 => ?_)
    · refine v_iconst (pc := 14) cx dX12_in_14 ?_
      refine v_ireturn (pc := 15) cx hI rfl ?_ dX12_in_15
      exact ⟨Or.inr ⟨rfl, Or.inr c7⟩, rfl⟩
    · refine v_iconst (pc := 10) cx dX12_in_10 ?_
      refine v_goto (pc := 11) cx 15 dX12_in_11 rfl ?_
      refine v_ireturn (pc := 15) cx hI rfl ?_ dX12_in_15
      exact ⟨Or.inl ⟨rfl, c2, c7⟩, rfl⟩
set_option maxRecDepth 100000 in
set_option maxHeartbeats 4000000 in
theorem m_less (lc : Launch) (G : Gc) (E : Wd) (nh : Nat) {a b : Int} (h : (-2147483648 ≤ a ∧ a < 2147483648) ∧ (-2147483648 ≤ b ∧ b < 2147483648)) : CI lc G 0 yX12_less cX12_less 2 .int [.int (iI a), .int (iI b)] E nh 0 0 (fun r E' => r = min a b ∧ E' = E) := by
  refine CI.mk (by decide +kernel) rfl (Nat.le_of_ble_eq_true rfl) ?_
  intro X hG hL cx hR hI
  subst hG; subst hL
  show V X E (nh, 0, 0) 0 [some (.int (iI a)), some (.int (iI b))] []
  refine v_iload_n (pc := 0) cx rfl ga0 dX12_less_0 ?_
  refine v_iload_n (pc := 1) cx rfl ga1 dX12_less_1 ?_
  refine v_icmp_ge (pc := 2) cx 9 dX12_less_2 rfl (by omega) (fun c2 => ?_) (fun c2 => ?_)
  · refine v_iload_n (pc := 9) cx rfl ga1 dX12_less_9 ?_
    refine v_ireturn (pc := 10) cx hI rfl ?_ dX12_less_10
    exact ⟨by omega, rfl⟩
  · refine v_iload_n (pc := 5) cx rfl ga0 dX12_less_5 ?_
    refine v_goto (pc := 6) cx 10 dX12_less_6 rfl ?_
    refine v_ireturn (pc := 10) cx hI rfl ?_ dX12_less_10
    exact ⟨by omega, rfl⟩
set_option maxRecDepth 100000 in
set_option maxHeartbeats 4000000 in
theorem m_records (lc : Launch) (G : Gc) (E : Wd) (nh : Nat) {m : Nat} {ty aa re rs sm : Int} {d w : Nat → Int} (h0 : E 124 = some (oMd G (m : Int) ty aa re rs sm)) (hd : E 125 = some (AI G 244 d)) (hw : E 126 = some (AI G 1220 w)) (hm : m ≤ 5) : CV lc G 0 yX12_records cX12_records 2 [.ref (gb G + 124)] E nh 0 0 (fun E' => (∃ (m' : Nat) (w' : Nat → Int), m' = (if m = 5 then 4 else m) ∧ E' 124 = some (oMd G ((m' : Int) + 1) ty aa re rs sm) ∧ E' 126 = some (AI G 1220 w') ∧ (∀ j i, j < m' → i < 244 → w' (244 * j + i) = (if m = 5 then w (244 * (j + 1) + i) else w (244 * j + i))) ∧ ∀ i, i < 244 → w' (244 * m' + i) = d i) ∧ E' 125 = some (AI G 244 d) ∧ Out E E' 124 127) := by
  refine CV.mk (by decide +kernel) rfl (Nat.le_of_ble_eq_true rfl) ?_
  intro X hG hL cx hR hI hini
  subst hG; subst hL
  show V X E (nh, 0, 0) 0 [some (.ref (gb (fG X) + 124)), none] []
  have loop2 : ∀ (q k m' : Nat) (w' w1 : Nat → Int) (E' : Wd), m' ≤ 4 → m' = (if m = 5 then 4 else m) → (∀ j i, j < m' → i < 244 → w1 (244 * j + i) = (if m = 5 then w (244 * (j + 1) + i) else w (244 * j + i))) → k ≤ 244 → 244 - k < q → E' 124 = some (oMd (fG X) (m' : Int) ty aa re rs sm) → E' 125 = some (AI (fG X) 244 d) → E' 126 = some (AI (fG X) 1220 w') → (∀ i, i < k → w' (244 * m' + i) = d i) → (∀ i, (i < 244 * m' ∨ 244 * m' + k ≤ i) → w' i = w1 i) → Out E E' 124 127 → V X E' (nh, 0, 0) 51 [some (.ref (gb (fG X) + 124)), some (.int (iI (k : Int)))] [] := by
    intro q
    induction q with
    | zero => intro k m' w' w1 E' _ _ _ h1 h2; omega
    | succ q ih =>
      intro k m' w' w1 E' hm4 hm' hw1 hk hq h0 hd hw hin hout hFr
      refine v_iload_n (pc := 51) cx rfl ga1 dX12_records_51 ?_
      refine v_sipush (pc := 52) cx (by decide) dX12_records_52 ?_
      refine v_icmp_ge (pc := 55) cx 85 dX12_records_55 rfl (by omega) (fun c55 => ?_) (fun c55 => ?_)
      · refine v_aload_n (pc := 85) cx rfl ga0 dX12_records_85 ?_
        refine v_dup (pc := 86) cx rfl dX12_records_86 ?_
        refine v_getfield (pc := 87) cx flX12_29 (by assumption) gf2 dX12_records_87 ?_
        refine v_iconst (pc := 90) cx dX12_records_90 ?_
        refine v_iadd (pc := 91) cx dX12_records_91 ?_
        refine v_putfield (pc := 92) cx fpX12_29 h0 ⟨rfl, rfl⟩ pf2 dX12_records_92 (fun E92 hE92 hF92 => ?_)
        replace h0 := hE92
        replace hd := (hF92 _ (by omega)).trans hd
        replace hw := (hF92 _ (by omega)).trans hw
        replace hFr := fun j hj => (hF92 j (by omega)).trans (hFr j hj)
        refine v_return (pc := 95) cx hI ?_ dX12_records_95
        refine ⟨⟨m', w', hm', h0, hw, fun j i hj hi => ?_, fun i hi => hin i (by omega)⟩, hd, hFr⟩
        rw [hout (244 * j + i) (by omega)]
        exact hw1 j i hj hi
      · refine v_aload_n (pc := 58) cx rfl ga0 dX12_records_58 ?_
        refine v_getfield (pc := 59) cx flX12_13 (by assumption) gf1 dX12_records_59 ?_
        refine v_sipush (pc := 62) cx (by decide) dX12_records_62 ?_
        refine v_aload_n (pc := 65) cx rfl ga0 dX12_records_65 ?_
        refine v_getfield (pc := 66) cx flX12_29 (by assumption) gf2 dX12_records_66 ?_
        refine v_imul (pc := 69) cx dX12_records_69 ?_
        refine v_iload_n (pc := 70) cx rfl ga1 dX12_records_70 ?_
        refine v_iadd (pc := 71) cx dX12_records_71 ?_
        refine v_aload_n (pc := 72) cx rfl ga0 dX12_records_72 ?_
        refine v_getfield (pc := 73) cx flX12_7 (by assumption) gf0 dX12_records_73 ?_
        refine v_iload_n (pc := 76) cx rfl ga1 dX12_records_76 ?_
        refine v_iaload (pc := 77) cx (k) (by assumption) (by omega) dX12_records_77 ?_
        refine v_iastore (pc := 78) cx (244 * m' + k) hw (by omega) dX12_records_78 (fun E78 hE78 hF78 => ?_)
        replace h0 := (hF78 _ (by omega)).trans h0
        replace hd := (hF78 _ (by omega)).trans hd
        replace hw := hE78
        replace hFr := fun j hj => (hF78 j (by omega)).trans (hFr j hj)
        refine v_iinc (pc := 79) cx ga1 (sa1 rfl) dX12_records_79 ?_
        refine v_goto (pc := 82) cx 51 dX12_records_82 rfl ?_
        refine ih (k + 1) m' _ w1 _ hm4 hm' hw1 (by omega) (by omega) h0 hd hw (fun i hi => ?_) (fun i hi => ?_) hFr
        · by_cases e : i = k
          · subst e
            rw [upI_s]
          · rw [upI_n (by omega)]
            exact hin i (by omega)
        · rw [upI_n (by omega)]
          exact hout i (by omega)
  have loop1 : ∀ (q k : Nat) (w' : Nat → Int) (E' : Wd), m = 5 → k ≤ 976 → 976 - k < q → E' 124 = some (oMd (fG X) (m : Int) ty aa re rs sm) → E' 125 = some (AI (fG X) 244 d) → E' 126 = some (AI (fG X) 1220 w') → (∀ i, i < k → w' i = w (i + 244)) → (∀ i, k ≤ i → w' i = w i) → Out E E' 124 127 → V X E' (nh, 0, 0) 10 [some (.ref (gb (fG X) + 124)), some (.int (iI (k : Int)))] [] := by
    intro q
    induction q with
    | zero => intro k w' E' _ h1 h2; omega
    | succ q ih =>
      intro k w' E' hm5 hk hq h0 hd hw hin hout hFr
      refine v_iload_n (pc := 10) cx rfl ga1 dX12_records_10 ?_
      refine v_sipush (pc := 11) cx (by decide) dX12_records_11 ?_
      refine v_icmp_ge (pc := 14) cx 39 dX12_records_14 rfl (by omega) (fun c14 => ?_) (fun c14 => ?_)
      · refine v_aload_n (pc := 39) cx rfl ga0 dX12_records_39 ?_
        refine v_dup (pc := 40) cx rfl dX12_records_40 ?_
        refine v_getfield (pc := 41) cx flX12_29 (by assumption) gf2 dX12_records_41 ?_
        refine v_iconst (pc := 44) cx dX12_records_44 ?_
        refine v_isub (pc := 45) cx dX12_records_45 ?_
        refine v_putfield (pc := 46) cx fpX12_29 h0 ⟨rfl, rfl⟩ pf2 dX12_records_46 (fun E46 hE46 hF46 => ?_)
        replace h0 := hE46
        replace hd := (hF46 _ (by omega)).trans hd
        replace hw := (hF46 _ (by omega)).trans hw
        replace hFr := fun j hj => (hF46 j (by omega)).trans (hFr j hj)
        refine v_iconst (pc := 49) cx dX12_records_49 ?_
        refine v_istore_n (pc := 50) cx rfl (sa1 rfl) dX12_records_50 ?_
        rw [show (m : Int) - 1 = ((4 : Nat) : Int) by omega] at h0
        refine loop2 245 0 4 w' w' _ (by omega) (by rw [if_pos hm5]) (fun j i hj hi => ?_) (by omega) (by omega) h0 hd hw (fun i hi => by omega) (fun i hi => rfl) hFr
        rw [if_pos hm5, hin (244 * j + i) (by omega)]
        congr 1
        omega
      · have e1 : w' (k + 244) = w (k + 244) := hout _ (by omega)
        refine v_aload_n (pc := 17) cx rfl ga0 dX12_records_17 ?_
        refine v_getfield (pc := 18) cx flX12_13 (by assumption) gf1 dX12_records_18 ?_
        refine v_iload_n (pc := 21) cx rfl ga1 dX12_records_21 ?_
        refine v_aload_n (pc := 22) cx rfl ga0 dX12_records_22 ?_
        refine v_getfield (pc := 23) cx flX12_13 (by assumption) gf1 dX12_records_23 ?_
        refine v_iload_n (pc := 26) cx rfl ga1 dX12_records_26 ?_
        refine v_sipush (pc := 27) cx (by decide) dX12_records_27 ?_
        refine v_iadd (pc := 30) cx dX12_records_30 ?_
        refine v_iaload (pc := 31) cx (k + 244) (by assumption) (by omega) dX12_records_31 ?_
        refine v_iastore (pc := 32) cx (k) hw (by omega) dX12_records_32 (fun E32 hE32 hF32 => ?_)
        replace h0 := (hF32 _ (by omega)).trans h0
        replace hd := (hF32 _ (by omega)).trans hd
        replace hw := hE32
        replace hFr := fun j hj => (hF32 j (by omega)).trans (hFr j hj)
        refine v_iinc (pc := 33) cx ga1 (sa1 rfl) dX12_records_33 ?_
        refine v_goto (pc := 36) cx 10 dX12_records_36 rfl ?_
        refine ih (k + 1) _ _ hm5 (by omega) (by omega) h0 hd hw (fun i hi => ?_) (fun i hi => ?_) hFr
        · by_cases e : i = k
          · subst e
            rw [upI_s, e1]
          · rw [upI_n e]
            exact hin i (by omega)
        · rw [upI_n (by omega)]
          exact hout i (by omega)
  refine v_aload_n (pc := 0) cx rfl ga0 dX12_records_0 ?_
  refine v_getfield (pc := 1) cx flX12_29 (by assumption) gf2 dX12_records_1 ?_
  refine v_iconst (pc := 4) cx dX12_records_4 ?_
  refine v_icmp_ne (pc := 5) cx 49 dX12_records_5 rfl (by omega) (fun c5 => ?_) (fun c5 => ?_)
  · refine v_iconst (pc := 49) cx dX12_records_49 ?_
    refine v_istore_n (pc := 50) cx rfl (sa1 rfl) dX12_records_50 ?_
    refine loop2 245 0 m w w E (by omega) (by rw [if_neg (by omega)]) (fun j i hj hi => ?_) (by omega) (by omega) h0 hd hw (fun i hi => by omega) (fun i hi => rfl) (fun _ _ => rfl)
    rw [if_neg (by omega)]
  · refine v_iconst (pc := 8) cx dX12_records_8 ?_
    refine v_istore_n (pc := 9) cx rfl (sa1 rfl) dX12_records_9 ?_
    exact loop1 977 0 w E (by omega) (by omega) (by omega) h0 hd hw (fun i hi => by omega) (fun i hi => rfl) (fun _ _ => rfl)
set_option maxRecDepth 100000 in
set_option maxHeartbeats 4000000 in
theorem m_keeps (lc : Launch) (G : Gc) (E : Wd) (nh : Nat) {st ty aa re rs sm : Int} {d a : Nat → Int} (h0 : E 124 = some (oMd G st ty aa re rs sm)) (hd : E 125 = some (AI G 244 d)) (ha : E 127 = some (AI G 244 a)) : CV lc G 0 yX12_keeps cX12_keeps 2 [.ref (gb G + 124)] E nh 0 0 (fun E' => (∃ a', E' 127 = some (AI G 244 a') ∧ ∀ i, i < 244 → a' i = d i) ∧ Out E E' 127 128) := by
  refine CV.mk (by decide +kernel) rfl (Nat.le_of_ble_eq_true rfl) ?_
  intro X hG hL cx hR hI hini
  subst hG; subst hL
  show V X E (nh, 0, 0) 0 [some (.ref (gb (fG X) + 124)), none] []
  have loop : ∀ (q k : Nat) (a' : Nat → Int) (E' : Wd), k ≤ 244 → 244 - k < q → E' 124 = some (oMd (fG X) st ty aa re rs sm) → E' 125 = some (AI (fG X) 244 d) → E' 127 = some (AI (fG X) 244 a') → (∀ i, i < k → a' i = d i) → Out E E' 127 128 → V X E' (nh, 0, 0) 2 [some (.ref (gb (fG X) + 124)), some (.int (iI (k : Int)))] [] := by
    intro q
    induction q with
    | zero => intro k a' E' h1 h2; omega
    | succ q ih =>
      intro k a' E' hk hq h0 hd ha hin hFr
      refine v_iload_n (pc := 2) cx rfl ga1 dX12_keeps_2 ?_
      refine v_sipush (pc := 3) cx (by decide) dX12_keeps_3 ?_
      refine v_icmp_ge (pc := 6) cx 27 dX12_keeps_6 rfl (by omega) (fun c6 => ?_) (fun c6 => ?_)
      · refine v_return (pc := 27) cx hI ?_ dX12_keeps_27
        exact ⟨⟨a', ha, fun i hi => hin i (by omega)⟩, hFr⟩
      · refine v_aload_n (pc := 9) cx rfl ga0 dX12_keeps_9 ?_
        refine v_getfield (pc := 10) cx flX12_16 (by assumption) gf3 dX12_keeps_10 ?_
        refine v_iload_n (pc := 13) cx rfl ga1 dX12_keeps_13 ?_
        refine v_aload_n (pc := 14) cx rfl ga0 dX12_keeps_14 ?_
        refine v_getfield (pc := 15) cx flX12_7 (by assumption) gf0 dX12_keeps_15 ?_
        refine v_iload_n (pc := 18) cx rfl ga1 dX12_keeps_18 ?_
        refine v_iaload (pc := 19) cx (k) (by assumption) (by omega) dX12_keeps_19 ?_
        refine v_iastore (pc := 20) cx (k) ha (by omega) dX12_keeps_20 (fun E20 hE20 hF20 => ?_)
        replace h0 := (hF20 _ (by omega)).trans h0
        replace hd := (hF20 _ (by omega)).trans hd
        replace ha := hE20
        replace hFr := fun j hj => (hF20 j (by omega)).trans (hFr j hj)
        refine v_iinc (pc := 21) cx ga1 (sa1 rfl) dX12_keeps_21 ?_
        refine v_goto (pc := 24) cx 2 dX12_keeps_24 rfl ?_
        refine ih (k + 1) _ _ (by omega) (by omega) h0 hd ha (fun i hi => ?_) hFr
        by_cases e : i = k
        · subst e
          rw [upI_s]
        · rw [upI_n e]
          exact hin i (by omega)
  refine v_iconst (pc := 0) cx dX12_keeps_0 ?_
  refine v_istore_n (pc := 1) cx rfl (sa1 rfl) dX12_keeps_1 ?_
  exact loop 245 0 a E (by omega) (by omega) h0 hd ha (fun i hi => by omega) (fun _ _ => rfl)
set_option maxRecDepth 100000 in
set_option maxHeartbeats 4000000 in
theorem m_restores (lc : Launch) (G : Gc) (E : Wd) (nh : Nat) {st ty aa re rs sm : Int} {d a : Nat → Int} (h0 : E 124 = some (oMd G st ty aa re rs sm)) (hd : E 125 = some (AI G 244 d)) (ha : E 127 = some (AI G 244 a)) : CV lc G 0 yX12_restores cX12_restores 2 [.ref (gb G + 124)] E nh 0 0 (fun E' => (∃ d', E' 125 = some (AI G 244 d') ∧ ∀ i, i < 244 → d' i = a i) ∧ Out E E' 125 126) := by
  refine CV.mk (by decide +kernel) rfl (Nat.le_of_ble_eq_true rfl) ?_
  intro X hG hL cx hR hI hini
  subst hG; subst hL
  show V X E (nh, 0, 0) 0 [some (.ref (gb (fG X) + 124)), none] []
  have loop : ∀ (q k : Nat) (d' : Nat → Int) (E' : Wd), k ≤ 244 → 244 - k < q → E' 124 = some (oMd (fG X) st ty aa re rs sm) → E' 127 = some (AI (fG X) 244 a) → E' 125 = some (AI (fG X) 244 d') → (∀ i, i < k → d' i = a i) → Out E E' 125 126 → V X E' (nh, 0, 0) 2 [some (.ref (gb (fG X) + 124)), some (.int (iI (k : Int)))] [] := by
    intro q
    induction q with
    | zero => intro k a' E' h1 h2; omega
    | succ q ih =>
      intro k d' E' hk hq h0 ha hd hin hFr
      refine v_iload_n (pc := 2) cx rfl ga1 dX12_restores_2 ?_
      refine v_sipush (pc := 3) cx (by decide) dX12_restores_3 ?_
      refine v_icmp_ge (pc := 6) cx 27 dX12_restores_6 rfl (by omega) (fun c6 => ?_) (fun c6 => ?_)
      · refine v_return (pc := 27) cx hI ?_ dX12_restores_27
        exact ⟨⟨d', hd, fun i hi => hin i (by omega)⟩, hFr⟩
      · refine v_aload_n (pc := 9) cx rfl ga0 dX12_restores_9 ?_
        refine v_getfield (pc := 10) cx flX12_7 (by assumption) gf0 dX12_restores_10 ?_
        refine v_iload_n (pc := 13) cx rfl ga1 dX12_restores_13 ?_
        refine v_aload_n (pc := 14) cx rfl ga0 dX12_restores_14 ?_
        refine v_getfield (pc := 15) cx flX12_16 (by assumption) gf3 dX12_restores_15 ?_
        refine v_iload_n (pc := 18) cx rfl ga1 dX12_restores_18 ?_
        refine v_iaload (pc := 19) cx (k) (by assumption) (by omega) dX12_restores_19 ?_
        refine v_iastore (pc := 20) cx (k) hd (by omega) dX12_restores_20 (fun E20 hE20 hF20 => ?_)
        replace h0 := (hF20 _ (by omega)).trans h0
        replace ha := (hF20 _ (by omega)).trans ha
        replace hd := hE20
        replace hFr := fun j hj => (hF20 j (by omega)).trans (hFr j hj)
        refine v_iinc (pc := 21) cx ga1 (sa1 rfl) dX12_restores_21 ?_
        refine v_goto (pc := 24) cx 2 dX12_restores_24 rfl ?_
        refine ih (k + 1) _ _ (by omega) (by omega) h0 ha hd (fun i hi => ?_) hFr
        by_cases e : i = k
        · subst e
          rw [upI_s]
        · rw [upI_n e]
          exact hin i (by omega)
  refine v_iconst (pc := 0) cx dX12_restores_0 ?_
  refine v_istore_n (pc := 1) cx rfl (sa1 rfl) dX12_restores_1 ?_
  exact loop 245 0 d E (by omega) (by omega) h0 ha hd (fun i hi => by omega) (fun _ _ => rfl)
set_option maxRecDepth 100000 in
set_option maxHeartbeats 4000000 in
theorem m_rain (lc : Launch) (G : Gc) (E : Wd) (nh : Nat) {m : Nat} {st ty aa re rs sm : Int} {d : Nat → Int} (h0 : E 124 = some (oMd G st ty aa re rs sm)) (hd : E 125 = some (AI G 244 d)) (hn : d 26 = (m : Int)) (hm : m ≤ 12) (ht : 0 ≤ d 0 ∧ d 0 ≤ 5000) (hr : ∀ j, j < m → (0 ≤ d (27 + j) ∧ d (27 + j) ≤ 5000) ∧ (1 ≤ d (39 + j) ∧ d (39 + j) ≤ 500)) : CI lc G 1 yX12_rain cX12_rain 3 .int [.ref (gb G + 124)] E nh 0 0 (fun v E' => v = rainTo (ar d 27) (ar d 39) (ar d 51) (d 0) m ∧ E' = E) := by
  refine CI.mk (by decide +kernel) rfl (Nat.le_of_ble_eq_true rfl) ?_
  intro X hG hL cx hR hI
  subst hG; subst hL
  show V X E (nh, 0, 0) 0 [some (.ref (gb (fG X) + 124)), none, none] []
  have loop : ∀ (q k : Nat), k ≤ m → m - k < q → V X E (nh, 0, 0) 4 [some (.ref (gb (fG X) + 124)), some (.int (iI (rainTo (ar d 27) (ar d 39) (ar d 51) (d 0) k))), some (.int (iI (k : Int)))] [] := by
    intro q
    induction q with
    | zero => intro k h1 h2; omega
    | succ q ih =>
      intro k hk hq
      refine v_iload_n (pc := 4) cx rfl ga2 dX12_rain_4 ?_
      refine v_aload_n (pc := 5) cx rfl ga0 dX12_rain_5 ?_
      refine v_getfield (pc := 6) cx flX12_7 (by assumption) gf0 dX12_rain_6 ?_
      refine v_bipush (pc := 9) cx (by decide) dX12_rain_9 ?_
      refine v_iaload (pc := 11) cx (26) (by assumption) (by omega) dX12_rain_11 ?_
      refine v_icmp_ge (pc := 12) cx 79 dX12_rain_12 rfl (by omega) (fun c12 => ?_) (fun c12 => ?_)
      · refine v_iload_n (pc := 79) cx rfl ga1 dX12_rain_79 ?_
        refine v_ireturn (pc := 80) cx hI rfl ?_ dX12_rain_80
        exact ⟨by rw [show k = m by omega], rfl⟩
      · have hrk := hr k (by omega)
        have e : rainTo (ar d 27) (ar d 39) (ar d 51) (d 0) (k + 1) = rainTo (ar d 27) (ar d 39) (ar d 51) (d 0) k + (if d (27 + k) ≤ d 0 ∧ d 0 < d (27 + k) + d (39 + k) then d (51 + k) else 0) := rfl
        refine v_iload_n (pc := 15) cx rfl ga1 dX12_rain_15 ?_
        refine v_aload_n (pc := 16) cx rfl ga0 dX12_rain_16 ?_
        refine v_getfield (pc := 17) cx flX12_7 (by assumption) gf0 dX12_rain_17 ?_
        refine v_iconst (pc := 20) cx dX12_rain_20 ?_
        refine v_iaload (pc := 21) cx (0) (by assumption) (by omega) dX12_rain_21 ?_
        refine v_aload_n (pc := 22) cx rfl ga0 dX12_rain_22 ?_
        refine v_getfield (pc := 23) cx flX12_7 (by assumption) gf0 dX12_rain_23 ?_
        refine v_bipush (pc := 26) cx (by decide) dX12_rain_26 ?_
        refine v_iload_n (pc := 28) cx rfl ga2 dX12_rain_28 ?_
        refine v_iadd (pc := 29) cx dX12_rain_29 ?_
        refine v_iaload (pc := 30) cx (27 + k) (by assumption) (by omega) dX12_rain_30 ?_
        refine v_aload_n (pc := 31) cx rfl ga0 dX12_rain_31 ?_
        refine v_getfield (pc := 32) cx flX12_7 (by assumption) gf0 dX12_rain_32 ?_
        refine v_bipush (pc := 35) cx (by decide) dX12_rain_35 ?_
        refine v_iload_n (pc := 37) cx rfl ga2 dX12_rain_37 ?_
        refine v_iadd (pc := 38) cx dX12_rain_38 ?_
        refine v_iaload (pc := 39) cx (27 + k) (by assumption) (by omega) dX12_rain_39 ?_
        refine v_aload_n (pc := 40) cx rfl ga0 dX12_rain_40 ?_
        refine v_getfield (pc := 41) cx flX12_7 (by assumption) gf0 dX12_rain_41 ?_
        refine v_bipush (pc := 44) cx (by decide) dX12_rain_44 ?_
        refine v_iload_n (pc := 46) cx rfl ga2 dX12_rain_46 ?_
        refine v_iadd (pc := 47) cx dX12_rain_47 ?_
        refine v_iaload (pc := 48) cx (39 + k) (by assumption) (by omega) dX12_rain_48 ?_
        refine v_iadd (pc := 49) cx dX12_rain_49 ?_
        refine v_iconst (pc := 50) cx dX12_rain_50 ?_
        refine v_isub (pc := 51) cx dX12_rain_51 ?_
        refine v_callSI (pc := 52) cx hR (m_in _ _ _ _ (by omega)) mlX12_33 (by decide) rfl (Nat.le_of_ble_eq_true rfl) ⟨Nat.le_refl _, Nat.le_refl _⟩ dX12_rain_52 (fun v2 E2 hP => ?_)
        obtain ⟨hv, rfl⟩ := hP
        refine v_if_eq (pc := 55) cx 70 dX12_rain_55 rfl (by omega) (fun c55 => ?_) (fun c55 => ?_)
        · refine v_iconst (pc := 70) cx dX12_rain_70 ?_
          refine v_iadd (pc := 71) cx dX12_rain_71 ?_
          refine v_istore_n (pc := 72) cx rfl (sa1 rfl) dX12_rain_72 ?_
          refine v_iinc (pc := 73) cx ga2 (sa2 rfl) dX12_rain_73 ?_
          refine v_goto (pc := 76) cx 4 dX12_rain_76 rfl ?_
          rw [if_neg (by omega)] at e
          rw [← e]
          exact ih (k + 1) (by omega) (by omega)
        · refine v_aload_n (pc := 58) cx rfl ga0 dX12_rain_58 ?_
          refine v_getfield (pc := 59) cx flX12_7 (by assumption) gf0 dX12_rain_59 ?_
          refine v_bipush (pc := 62) cx (by decide) dX12_rain_62 ?_
          refine v_iload_n (pc := 64) cx rfl ga2 dX12_rain_64 ?_
          refine v_iadd (pc := 65) cx dX12_rain_65 ?_
          refine v_iaload (pc := 66) cx (51 + k) (by assumption) (by omega) dX12_rain_66 ?_
          refine v_goto (pc := 67) cx 71 dX12_rain_67 rfl ?_
          refine v_iadd (pc := 71) cx dX12_rain_71 ?_
          refine v_istore_n (pc := 72) cx rfl (sa1 rfl) dX12_rain_72 ?_
          refine v_iinc (pc := 73) cx ga2 (sa2 rfl) dX12_rain_73 ?_
          refine v_goto (pc := 76) cx 4 dX12_rain_76 rfl ?_
          rw [if_pos (by omega)] at e
          rw [← e]
          exact ih (k + 1) (by omega) (by omega)
  refine v_iconst (pc := 0) cx dX12_rain_0 ?_
  refine v_istore_n (pc := 1) cx rfl (sa1 rfl) dX12_rain_1 ?_
  refine v_iconst (pc := 2) cx dX12_rain_2 ?_
  refine v_istore_n (pc := 3) cx rfl (sa2 rfl) dX12_rain_3 ?_
  exact loop (m + 1) 0 (by omega) (by omega)
set_option maxRecDepth 100000 in
set_option maxHeartbeats 4000000 in
theorem m_place (lc : Launch) (G : Gc) (E : Wd) (nh : Nat) {m : Nat} {st ty aa re rs sm : Int} {d : Nat → Int} (h0 : E 124 = some (oMd G st ty aa re rs sm)) (hd : E 125 = some (AI G 244 d)) (hn : d 19 = (m : Int)) (hm : m ≤ 3) (ht : 10 ≤ d 16 ∧ d 16 ≤ 1000) (hs : ∀ j, j < m → 8 ≤ d (21 + 2 * j) ∧ d (21 + 2 * j) ≤ 120) : CI lc G 0 yX12_place cX12_place 6 .int [.ref (gb G + 124)] E nh 0 0 (fun v E' => v = plc (d 5) (fun j => d (20 + 2 * j)) (fun j => d (21 + 2 * j)) m (d 16) ∧ E' = E) := by
  refine CI.mk (by decide +kernel) rfl (Nat.le_of_ble_eq_true rfl) ?_
  intro X hG hL cx hR hI
  subst hG; subst hL
  show V X E (nh, 0, 0) 0 [some (.ref (gb (fG X) + 124)), none, none, none, none, none] []
  have hz := pL_nz (s := fun j => d (21 + 2 * j)) hm hs
  have hz2 := te_nz ht
  have loop : ∀ (q k : Nat), k ≤ m → m - k < q → V X E (nh, 0, 0) 13 [some (.ref (gb (fG X) + 124)), some (.long (pL (iI (d 5)).toInt64 (fun j => d (20 + 2 * j)) k)), none, some (.long (pL 1 (fun j => d (21 + 2 * j)) k)), none, some (.int (iI (k : Int)))] [] := by
    intro q
    induction q with
    | zero => intro k h1 h2; omega
    | succ q ih =>
      intro k hk hq
      refine v_iload (pc := 13) cx ga5 dX12_place_13 ?_
      refine v_aload_n (pc := 15) cx rfl ga0 dX12_place_15 ?_
      refine v_getfield (pc := 16) cx flX12_7 (by assumption) gf0 dX12_place_16 ?_
      refine v_bipush (pc := 19) cx (by decide) dX12_place_19 ?_
      refine v_iaload (pc := 21) cx (19) (by assumption) (by omega) dX12_place_21 ?_
      refine v_icmp_ge (pc := 22) cx 65 dX12_place_22 rfl (by omega) (fun c22 => ?_) (fun c22 => ?_)
      · have e : k = m := by omega
        subst e
        refine v_lload_n (pc := 65) cx rfl ga1 dX12_place_65 ?_
        refine v_lload_n (pc := 66) cx rfl ga3 dX12_place_66 ?_
        refine v_ldiv (pc := 67) cx (by assumption) dX12_place_67 ?_
        refine v_aload_n (pc := 68) cx rfl ga0 dX12_place_68 ?_
        refine v_getfield (pc := 69) cx flX12_7 (by assumption) gf0 dX12_place_69 ?_
        refine v_bipush (pc := 72) cx (by decide) dX12_place_72 ?_
        refine v_iaload (pc := 74) cx (16) (by assumption) (by omega) dX12_place_74 ?_
        refine v_i2l (pc := 75) cx dX12_place_75 ?_
        refine v_lrem (pc := 76) cx (by assumption) dX12_place_76 ?_
        refine v_l2i (pc := 77) cx dX12_place_77 ?_
        rw [iI_of (Int64.toInt32 _)]
        refine v_ireturn (pc := 78) cx hI rfl ?_ dX12_place_78
        exact ⟨rfl, rfl⟩
      · refine v_lload_n (pc := 25) cx rfl ga1 dX12_place_25 ?_
        refine v_aload_n (pc := 26) cx rfl ga0 dX12_place_26 ?_
        refine v_getfield (pc := 27) cx flX12_7 (by assumption) gf0 dX12_place_27 ?_
        refine v_bipush (pc := 30) cx (by decide) dX12_place_30 ?_
        refine v_iconst (pc := 32) cx dX12_place_32 ?_
        refine v_iload (pc := 33) cx ga5 dX12_place_33 ?_
        refine v_imul (pc := 35) cx dX12_place_35 ?_
        refine v_iadd (pc := 36) cx dX12_place_36 ?_
        refine v_iaload (pc := 37) cx (20 + 2 * k) (by assumption) (by omega) dX12_place_37 ?_
        refine v_i2l (pc := 38) cx dX12_place_38 ?_
        refine v_lmul (pc := 39) cx dX12_place_39 ?_
        refine v_lstore_n (pc := 40) cx rfl (sl1 rfl) dX12_place_40 ?_
        refine v_lload_n (pc := 41) cx rfl ga3 dX12_place_41 ?_
        refine v_aload_n (pc := 42) cx rfl ga0 dX12_place_42 ?_
        refine v_getfield (pc := 43) cx flX12_7 (by assumption) gf0 dX12_place_43 ?_
        refine v_bipush (pc := 46) cx (by decide) dX12_place_46 ?_
        refine v_iconst (pc := 48) cx dX12_place_48 ?_
        refine v_iload (pc := 49) cx ga5 dX12_place_49 ?_
        refine v_imul (pc := 51) cx dX12_place_51 ?_
        refine v_iadd (pc := 52) cx dX12_place_52 ?_
        refine v_iconst (pc := 53) cx dX12_place_53 ?_
        refine v_iadd (pc := 54) cx dX12_place_54 ?_
        refine v_iaload (pc := 55) cx (21 + 2 * k) (by assumption) (by omega) dX12_place_55 ?_
        refine v_i2l (pc := 56) cx dX12_place_56 ?_
        refine v_lmul (pc := 57) cx dX12_place_57 ?_
        refine v_lstore_n (pc := 58) cx rfl (sl3 rfl) dX12_place_58 ?_
        refine v_iinc (pc := 59) cx ga5 (sa5 rfl) dX12_place_59 ?_
        refine v_goto (pc := 62) cx 13 dX12_place_62 rfl ?_
        exact ih (k + 1) (by omega) (by omega)
  refine v_aload_n (pc := 0) cx rfl ga0 dX12_place_0 ?_
  refine v_getfield (pc := 1) cx flX12_7 (by assumption) gf0 dX12_place_1 ?_
  refine v_iconst (pc := 4) cx dX12_place_4 ?_
  refine v_iaload (pc := 5) cx (5) (by assumption) (by omega) dX12_place_5 ?_
  refine v_i2l (pc := 6) cx dX12_place_6 ?_
  refine v_lstore_n (pc := 7) cx rfl (sl1 rfl) dX12_place_7 ?_
  refine v_lconst (pc := 8) (v := 1) cx rfl dX12_place_8 ?_
  refine v_lstore_n (pc := 9) cx rfl (sl3 rfl) dX12_place_9 ?_
  refine v_iconst (pc := 10) cx dX12_place_10 ?_
  refine v_istore (pc := 11) cx (sa5 rfl) dX12_place_11 ?_
  exact loop (m + 1) 0 (by omega) (by omega)
set_option maxRecDepth 100000 in
set_option maxHeartbeats 4000000 in
theorem m_drops (lc : Launch) (G : Gc) (E : Wd) (nh : Nat) {m k : Nat} {st ty aa re rs sm : Int} {d : Nat → Int} (h0 : E 124 = some (oMd G st ty aa re rs sm)) (hd : E 125 = some (AI G 244 d)) (hn : d 26 = (m : Int)) (hm : m ≤ 12) (hk : k < m) : CV lc G 0 yX12_dropsShower cX12_dropsShower 4 [.ref (gb G + 124), .int (iI (k : Int))] E nh 0 0 (fun E' => (∃ d', E' 125 = some (AI G 244 d') ∧ d' 26 = (m : Int) - 1 ∧ (∀ j, j < m - 1 → d' (27 + j) = delF (ar d 27) k m j ∧ d' (39 + j) = delF (ar d 39) k m j ∧ d' (51 + j) = delF (ar d 51) k m j) ∧ ∀ i, (i < 26 ∨ 63 ≤ i) → d' i = d i) ∧ Out E E' 125 126) := by
  refine CV.mk (by decide +kernel) rfl (Nat.le_of_ble_eq_true rfl) ?_
  intro X hG hL cx hR hI hini
  subst hG; subst hL
  show V X E (nh, 0, 0) 0 [some (.ref (gb (fG X) + 124)), some (.int (iI (k : Int))), none, none] []
  have loop : ∀ (q i : Nat) (d' : Nat → Int) (E' : Wd), k ≤ i → i ≤ m - 1 → m - 1 - i < q → E' 124 = some (oMd (fG X) st ty aa re rs sm) → E' 125 = some (AI (fG X) 244 d') → d' 26 = (m : Int) - 1 → (∀ j, j < 12 → d' (27 + j) = delF (ar d 27) k (i + 1) j ∧ d' (39 + j) = delF (ar d 39) k (i + 1) j ∧ d' (51 + j) = delF (ar d 51) k (i + 1) j) → (∀ x, (x < 26 ∨ 63 ≤ x) → d' x = d x) → Out E E' 125 126 → ∀ l3 : Option Value, V X E' (nh, 0, 0) 13 [some (.ref (gb (fG X) + 124)), some (.int (iI (k : Int))), some (.int (iI (i : Int))), l3] [] := by
    intro q
    induction q with
    | zero => intro i d' E' h1 h2 h3; omega
    | succ q ih =>
      intro i d' E' hi1 hi2 hq h0 hd hn' hin hout hFr l3
      refine v_iload_n (pc := 13) cx rfl ga2 dX12_dropsShower_13 ?_
      refine v_aload_n (pc := 14) cx rfl ga0 dX12_dropsShower_14 ?_
      refine v_getfield (pc := 15) cx flX12_7 (by assumption) gf0 dX12_dropsShower_15 ?_
      refine v_bipush (pc := 18) cx (by decide) dX12_dropsShower_18 ?_
      refine v_iaload (pc := 20) cx (26) (by assumption) (by omega) dX12_dropsShower_20 ?_
      refine v_icmp_ge (pc := 21) cx 63 dX12_dropsShower_21 rfl (by omega) (fun c21 => ?_) (fun c21 => ?_)
      · refine v_return (pc := 63) cx hI ?_ dX12_dropsShower_63
        refine ⟨⟨d', hd, hn', fun j hj => ?_, hout⟩, hFr⟩
        have := hin j (by omega)
        rw [show i + 1 = m by omega] at this
        exact this
      · have hi := hin (i + 1) (by omega)
        refine v_bipush (pc := 24) cx (by decide) dX12_dropsShower_24 ?_
        refine v_istore_n (pc := 26) cx rfl (sa3 rfl) dX12_dropsShower_26 ?_
        refine v_iload_n (pc := 27) cx rfl ga3 dX12_dropsShower_27 ?_
        refine v_bipush (pc := 28) cx (by decide) dX12_dropsShower_28 ?_
        refine v_icmp_gt (pc := 30) cx 57 dX12_dropsShower_30 rfl (by omega) (fun c30 => ?_) (fun c30 => ?_)
        · omega
        · refine v_aload_n (pc := 33) cx rfl ga0 dX12_dropsShower_33 ?_
          refine v_getfield (pc := 34) cx flX12_7 (by assumption) gf0 dX12_dropsShower_34 ?_
          refine v_iload_n (pc := 37) cx rfl ga3 dX12_dropsShower_37 ?_
          refine v_iload_n (pc := 38) cx rfl ga2 dX12_dropsShower_38 ?_
          refine v_iadd (pc := 39) cx dX12_dropsShower_39 ?_
          refine v_aload_n (pc := 40) cx rfl ga0 dX12_dropsShower_40 ?_
          refine v_getfield (pc := 41) cx flX12_7 (by assumption) gf0 dX12_dropsShower_41 ?_
          refine v_iload_n (pc := 44) cx rfl ga3 dX12_dropsShower_44 ?_
          refine v_iload_n (pc := 45) cx rfl ga2 dX12_dropsShower_45 ?_
          refine v_iadd (pc := 46) cx dX12_dropsShower_46 ?_
          refine v_iconst (pc := 47) cx dX12_dropsShower_47 ?_
          refine v_iadd (pc := 48) cx dX12_dropsShower_48 ?_
          refine v_iaload (pc := 49) cx (27 + i + 1) (by assumption) (by omega) dX12_dropsShower_49 ?_
          refine v_iastore (pc := 50) cx (27 + i) hd (by omega) dX12_dropsShower_50 (fun E50 hE50 hF50 => ?_)
          replace h0 := (hF50 _ (by omega)).trans h0
          replace hd := hE50
          replace hFr := fun j hj => (hF50 j (by omega)).trans (hFr j hj)
          refine v_iinc (pc := 51) cx ga3 (sa3 rfl) dX12_dropsShower_51 ?_
          refine v_goto (pc := 54) cx 27 dX12_dropsShower_54 rfl ?_
          refine v_iload_n (pc := 27) cx rfl ga3 dX12_dropsShower_27 ?_
          refine v_bipush (pc := 28) cx (by decide) dX12_dropsShower_28 ?_
          refine v_icmp_gt (pc := 30) cx 57 dX12_dropsShower_30 rfl (by omega) (fun c30 => ?_) (fun c30 => ?_)
          · omega
          · refine v_aload_n (pc := 33) cx rfl ga0 dX12_dropsShower_33 ?_
            refine v_getfield (pc := 34) cx flX12_7 (by assumption) gf0 dX12_dropsShower_34 ?_
            refine v_iload_n (pc := 37) cx rfl ga3 dX12_dropsShower_37 ?_
            refine v_iload_n (pc := 38) cx rfl ga2 dX12_dropsShower_38 ?_
            refine v_iadd (pc := 39) cx dX12_dropsShower_39 ?_
            refine v_aload_n (pc := 40) cx rfl ga0 dX12_dropsShower_40 ?_
            refine v_getfield (pc := 41) cx flX12_7 (by assumption) gf0 dX12_dropsShower_41 ?_
            refine v_iload_n (pc := 44) cx rfl ga3 dX12_dropsShower_44 ?_
            refine v_iload_n (pc := 45) cx rfl ga2 dX12_dropsShower_45 ?_
            refine v_iadd (pc := 46) cx dX12_dropsShower_46 ?_
            refine v_iconst (pc := 47) cx dX12_dropsShower_47 ?_
            refine v_iadd (pc := 48) cx dX12_dropsShower_48 ?_
            refine v_iaload (pc := 49) cx (39 + i + 1) (by assumption) (by omega) dX12_dropsShower_49 ?_
            refine v_iastore (pc := 50) cx (39 + i) hd (by omega) dX12_dropsShower_50 (fun E50 hE50 hF50 => ?_)
            replace h0 := (hF50 _ (by omega)).trans h0
            replace hd := hE50
            replace hFr := fun j hj => (hF50 j (by omega)).trans (hFr j hj)
            refine v_iinc (pc := 51) cx ga3 (sa3 rfl) dX12_dropsShower_51 ?_
            refine v_goto (pc := 54) cx 27 dX12_dropsShower_54 rfl ?_
            refine v_iload_n (pc := 27) cx rfl ga3 dX12_dropsShower_27 ?_
            refine v_bipush (pc := 28) cx (by decide) dX12_dropsShower_28 ?_
            refine v_icmp_gt (pc := 30) cx 57 dX12_dropsShower_30 rfl (by omega) (fun c30 => ?_) (fun c30 => ?_)
            · omega
            · refine v_aload_n (pc := 33) cx rfl ga0 dX12_dropsShower_33 ?_
              refine v_getfield (pc := 34) cx flX12_7 (by assumption) gf0 dX12_dropsShower_34 ?_
              refine v_iload_n (pc := 37) cx rfl ga3 dX12_dropsShower_37 ?_
              refine v_iload_n (pc := 38) cx rfl ga2 dX12_dropsShower_38 ?_
              refine v_iadd (pc := 39) cx dX12_dropsShower_39 ?_
              refine v_aload_n (pc := 40) cx rfl ga0 dX12_dropsShower_40 ?_
              refine v_getfield (pc := 41) cx flX12_7 (by assumption) gf0 dX12_dropsShower_41 ?_
              refine v_iload_n (pc := 44) cx rfl ga3 dX12_dropsShower_44 ?_
              refine v_iload_n (pc := 45) cx rfl ga2 dX12_dropsShower_45 ?_
              refine v_iadd (pc := 46) cx dX12_dropsShower_46 ?_
              refine v_iconst (pc := 47) cx dX12_dropsShower_47 ?_
              refine v_iadd (pc := 48) cx dX12_dropsShower_48 ?_
              refine v_iaload (pc := 49) cx (51 + i + 1) (by assumption) (by omega) dX12_dropsShower_49 ?_
              refine v_iastore (pc := 50) cx (51 + i) hd (by omega) dX12_dropsShower_50 (fun E50 hE50 hF50 => ?_)
              replace h0 := (hF50 _ (by omega)).trans h0
              replace hd := hE50
              replace hFr := fun j hj => (hF50 j (by omega)).trans (hFr j hj)
              refine v_iinc (pc := 51) cx ga3 (sa3 rfl) dX12_dropsShower_51 ?_
              refine v_goto (pc := 54) cx 27 dX12_dropsShower_54 rfl ?_
              refine v_iload_n (pc := 27) cx rfl ga3 dX12_dropsShower_27 ?_
              refine v_bipush (pc := 28) cx (by decide) dX12_dropsShower_28 ?_
              refine v_icmp_gt (pc := 30) cx 57 dX12_dropsShower_30 rfl (by omega) (fun c30 => ?_) (fun c30 => ?_)
              · refine v_iinc (pc := 57) cx ga2 (sa2 rfl) dX12_dropsShower_57 ?_
                refine v_goto (pc := 60) cx 13 dX12_dropsShower_60 rfl ?_
                refine ih (i + 1) _ _ (by omega) (by omega) (by omega) h0 hd ?_ (fun j hj => ?_) (fun x hx => ?_) hFr _
                · rw [upI_n (by omega), upI_n (by omega), upI_n (by omega)]
                  exact hn'
                · have hj1 := hin j hj
                  have hdl : ∀ f : Nat → Int, delF f k (i + 1 + 1) j = if j = i then f (i + 1) else delF f k (i + 1) j := by
                    intro f
                    unfold delF
                    by_cases e : j = i
                    · rw [if_pos (by omega), if_pos e, e]
                    · rw [if_neg e]
                      by_cases e2 : k ≤ j ∧ j + 1 < i + 1
                      · rw [if_pos (by omega), if_pos e2]
                      · rw [if_neg (by omega), if_neg e2]
                  have hdi : ∀ f : Nat → Int, delF f k (i + 1) (i + 1) = f (i + 1) := by
                    intro f
                    unfold delF
                    rw [if_neg (by omega)]
                  rw [hdi, hdi, hdi] at hi
                  rw [hdl, hdl, hdl]
                  by_cases e : j = i
                  · subst e
                    rw [if_pos rfl, if_pos rfl, if_pos rfl]
                    refine ⟨?_, ?_, ?_⟩
                    · rw [upI_n (by omega), upI_n (by omega), upI_s]
                      exact hi.1
                    · rw [upI_n (by omega), upI_s, upI_n (by omega)]
                      exact hi.2.1
                    · rw [upI_s, upI_n (by omega), upI_n (by omega)]
                      exact hi.2.2
                  · rw [if_neg e, if_neg e, if_neg e, upI_n (by omega), upI_n (by omega), upI_n (by omega), upI_n (by omega), upI_n (by omega), upI_n (by omega), upI_n (by omega), upI_n (by omega), upI_n (by omega)]
                    exact hj1
                · rw [upI_n (by omega), upI_n (by omega), upI_n (by omega)]
                  exact hout x hx
              · omega
  have hFr : Out E E 125 126 := fun _ _ => rfl
  refine v_aload_n (pc := 0) cx rfl ga0 dX12_dropsShower_0 ?_
  refine v_getfield (pc := 1) cx flX12_7 (by assumption) gf0 dX12_dropsShower_1 ?_
  refine v_bipush (pc := 4) cx (by decide) dX12_dropsShower_4 ?_
  refine v_dup2 (pc := 6) cx rfl rfl dX12_dropsShower_6 ?_
  refine v_iaload (pc := 7) cx (26) (by assumption) (by omega) dX12_dropsShower_7 ?_
  refine v_iconst (pc := 8) cx dX12_dropsShower_8 ?_
  refine v_isub (pc := 9) cx dX12_dropsShower_9 ?_
  refine v_iastore (pc := 10) cx (26) hd (by omega) dX12_dropsShower_10 (fun E10 hE10 hF10 => ?_)
  replace h0 := (hF10 _ (by omega)).trans h0
  replace hd := hE10
  replace hFr := fun j hj => (hF10 j (by omega)).trans (hFr j hj)
  refine v_iload_n (pc := 11) cx rfl ga1 dX12_dropsShower_11 ?_
  refine v_istore_n (pc := 12) cx rfl (sa2 rfl) dX12_dropsShower_12 ?_
  refine loop m k _ _ (Nat.le_refl _) (by omega) (by omega) h0 hd (by rw [upI_s, hn]) (fun j hj => ?_) (fun x hx => upI_n (by omega)) hFr none
  have hd0 : ∀ f : Nat → Int, delF f k (k + 1) j = f j := by
    intro f
    unfold delF
    rw [if_neg (by omega)]
  rw [hd0, hd0, hd0, upI_n (by omega), upI_n (by omega), upI_n (by omega)]
  exact ⟨rfl, rfl, rfl⟩
set_option maxRecDepth 100000 in
set_option maxHeartbeats 4000000 in
theorem m_dries (lc : Launch) (G : Gc) (E : Wd) (nh : Nat) {k : Nat} {by0 : Int} {st ty aa re rs sm : Int} {d : Nat → Int} (h0 : E 124 = some (oMd G st ty aa re rs sm)) (hd : E 125 = some (AI G 244 d)) (hk : k < 10) (hb : (-2147483648 ≤ d k ∧ d k < 2147483648) ∧ (-2147483648 ≤ by0 ∧ by0 < 2147483648)) : CV lc G 1 yX12_dries cX12_dries 4 [.ref (gb G + 124), .int (iI (k : Int)), .int (iI by0)] E nh 0 0 (fun E' => E' 125 = some (AI G 244 (upI (upI d k (d k - min (d k) by0)) 10 (d 10 + min (d k) by0))) ∧ Out E E' 125 126) := by
  refine CV.mk (by decide +kernel) rfl (Nat.le_of_ble_eq_true rfl) ?_
  intro X hG hL cx hR hI hini
  subst hG; subst hL
  show V X E (nh, 0, 0) 0 [some (.ref (gb (fG X) + 124)), some (.int (iI (k : Int))), some (.int (iI by0)), none] []
  have hFr : Out E E 125 126 := fun _ _ => rfl
  refine v_aload_n (pc := 0) cx rfl ga0 dX12_dries_0 ?_
  refine v_getfield (pc := 1) cx flX12_7 (by assumption) gf0 dX12_dries_1 ?_
  refine v_iload_n (pc := 4) cx rfl ga1 dX12_dries_4 ?_
  refine v_iaload (pc := 5) cx (k) (by assumption) (by omega) dX12_dries_5 ?_
  refine v_iload_n (pc := 6) cx rfl ga2 dX12_dries_6 ?_
  refine v_callSI (pc := 7) cx hR (m_less _ _ _ _ hb) mlX12_41 (by decide) rfl (Nat.le_of_ble_eq_true rfl) ⟨Nat.le_refl _, Nat.le_refl _⟩ dX12_dries_7 (fun v2 E2 hP => ?_)
  obtain ⟨rfl, rfl⟩ := hP
  refine v_istore_n (pc := 10) cx rfl (sa3 rfl) dX12_dries_10 ?_
  refine v_aload_n (pc := 11) cx rfl ga0 dX12_dries_11 ?_
  refine v_getfield (pc := 12) cx flX12_7 (by assumption) gf0 dX12_dries_12 ?_
  refine v_iload_n (pc := 15) cx rfl ga1 dX12_dries_15 ?_
  refine v_dup2 (pc := 16) cx rfl rfl dX12_dries_16 ?_
  refine v_iaload (pc := 17) cx (k) (by assumption) (by omega) dX12_dries_17 ?_
  refine v_iload_n (pc := 18) cx rfl ga3 dX12_dries_18 ?_
  refine v_isub (pc := 19) cx dX12_dries_19 ?_
  refine v_iastore (pc := 20) cx (k) hd (by omega) dX12_dries_20 (fun E20 hE20 hF20 => ?_)
  replace h0 := (hF20 _ (by omega)).trans h0
  replace hd := hE20
  replace hFr := fun j hj => (hF20 j (by omega)).trans (hFr j hj)
  refine v_aload_n (pc := 21) cx rfl ga0 dX12_dries_21 ?_
  refine v_getfield (pc := 22) cx flX12_7 (by assumption) gf0 dX12_dries_22 ?_
  refine v_bipush (pc := 25) cx (by decide) dX12_dries_25 ?_
  refine v_dup2 (pc := 27) cx rfl rfl dX12_dries_27 ?_
  refine v_iaload (pc := 28) cx (10) (by assumption) (by omega) dX12_dries_28 ?_
  refine v_iload_n (pc := 29) cx rfl ga3 dX12_dries_29 ?_
  refine v_iadd (pc := 30) cx dX12_dries_30 ?_
  refine v_iastore (pc := 31) cx (10) hd (by omega) dX12_dries_31 (fun E31 hE31 hF31 => ?_)
  replace h0 := (hF31 _ (by omega)).trans h0
  replace hd := hE31
  replace hFr := fun j hj => (hF31 j (by omega)).trans (hFr j hj)
  refine v_return (pc := 32) cx hI ?_ dX12_dries_32
  rw [upI_n (show (10 : Nat) ≠ k by omega)] at hd
  exact ⟨hd, hFr⟩
