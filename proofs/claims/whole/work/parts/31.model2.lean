theorem genU {G : Gc} {E : Wd} {o n j : Nat} {f : Nat → Int} {x : Int} (h : E o = some (AI G n (upI f j x))) : ∃ g : Nat → Int, E o = some (AI G n g) ∧ g j = x ∧ ∀ i, i ≠ j → g i = f i := ⟨_, h, upI_s, fun _ hi => upI_n hi⟩
set_option maxRecDepth 100000 in
set_option maxHeartbeats 4000000 in
theorem m_marks (lc : Launch) (G : Gc) (E : Wd) (nh : Nat) {m ng : Nat} {ov st ty aa re rs sm : Int} {d : Nat → Int} (h0 : E 124 = some (oMd G st ty aa re rs sm)) (hd : E 125 = some (AI G 244 d)) (hn : d 63 = (m : Int)) (hm : m ≤ 60) (hg : d 19 = (ng : Int)) (hng : ng ≤ 3) (ht : 10 ≤ d 16 ∧ d 16 ≤ 1000) (hs : ∀ j, j < ng → 8 ≤ d (21 + 2 * j) ∧ d (21 + 2 * j) ≤ 120) : CV lc G 1 yX12_marks cX12_marks 4 [.ref (gb G + 124), .int (iI ov)] E nh 0 0 (fun E' => (∃ (m' : Nat) (d' : Nat → Int), E' 125 = some (AI G 244 d') ∧ m' ≤ 60 ∧ d' 63 = (m' : Int) ∧ lst (ar d' 64) (ar d' 124) (ar d' 184) m' = addMk (lst (ar d 64) (ar d 124) (ar d 184) m) (d 0, plc (d 5) (fun j => d (20 + 2 * j)) (fun j => d (21 + 2 * j)) ng (d 16), ov) ∧ ∀ i, i < 63 → d' i = d i) ∧ Out E E' 125 126) := by
  refine CV.mk (by decide +kernel) rfl (Nat.le_of_ble_eq_true rfl) ?_
  intro X hG hL cx hR hI hini
  subst hG; subst hL
  show V X E (nh, 0, 0) 0 [some (.ref (gb (fG X) + 124)), some (.int (iI ov)), none, none] []
  have fin : ∀ (k : Nat) (d1 : Nat → Int) (E' : Wd) (l2 l3 : Option Value), k < 60 → E' 124 = some (oMd (fG X) st ty aa re rs sm) → E' 125 = some (AI (fG X) 244 d1) → d1 63 = (k : Int) → (∀ i, i < 63 → d1 i = d i) → lst (ar d1 64) (ar d1 124) (ar d1 184) k = (if (lst (ar d 64) (ar d 124) (ar d 184) m).length = 60 then (lst (ar d 64) (ar d 124) (ar d 184) m).tail else lst (ar d 64) (ar d 124) (ar d 184) m) → Out E E' 125 126 → V X E' (nh, 0, 0) 71 [some (.ref (gb (fG X) + 124)), some (.int (iI ov)), l2, l3] [] := by
    intro k d1 E' l2 l3 hk h0 hd hn1 hout hls hFr
    refine v_aload_n (pc := 71) cx rfl ga0 dX12_marks_71 ?_
    refine v_getfield (pc := 72) cx flX12_7 (by assumption) gf0 dX12_marks_72 ?_
    refine v_bipush (pc := 75) cx (by decide) dX12_marks_75 ?_
    refine v_aload_n (pc := 77) cx rfl ga0 dX12_marks_77 ?_
    refine v_getfield (pc := 78) cx flX12_7 (by assumption) gf0 dX12_marks_78 ?_
    refine v_bipush (pc := 81) cx (by decide) dX12_marks_81 ?_
    refine v_iaload (pc := 83) cx (63) (by assumption) (by omega) dX12_marks_83 ?_
    refine v_iadd (pc := 84) cx dX12_marks_84 ?_
    refine v_aload_n (pc := 85) cx rfl ga0 dX12_marks_85 ?_
    refine v_getfield (pc := 86) cx flX12_7 (by assumption) gf0 dX12_marks_86 ?_
    refine v_iconst (pc := 89) cx dX12_marks_89 ?_
    refine v_iaload (pc := 90) cx (0) (by assumption) (by omega) dX12_marks_90 ?_
    refine v_iastore (pc := 91) cx (64 + k) hd (by omega) dX12_marks_91 (fun E91 hE91 hF91 => ?_)
    replace h0 := (hF91 _ (by omega)).trans h0
    replace hd := hE91
    replace hFr := fun j hj => (hF91 j (by omega)).trans (hFr j hj)
    obtain ⟨dA, hd, a1, a2⟩ := genU hd
    have hnA : dA 63 = (k : Int) := (a2 63 (by omega)).trans hn1
    have eo : ∀ i, i < 63 → dA i = d i := fun i hi => (a2 i (by omega)).trans (hout i hi)
    refine v_aload_n (pc := 92) cx rfl ga0 dX12_marks_92 ?_
    refine v_getfield (pc := 93) cx flX12_7 (by assumption) gf0 dX12_marks_93 ?_
    refine v_bipush (pc := 96) cx (by decide) dX12_marks_96 ?_
    refine v_aload_n (pc := 98) cx rfl ga0 dX12_marks_98 ?_
    refine v_getfield (pc := 99) cx flX12_7 (by assumption) gf0 dX12_marks_99 ?_
    refine v_bipush (pc := 102) cx (by decide) dX12_marks_102 ?_
    refine v_iaload (pc := 104) cx (63) (by assumption) (by omega) dX12_marks_104 ?_
    refine v_iadd (pc := 105) cx dX12_marks_105 ?_
    refine v_aload_n (pc := 106) cx rfl ga0 dX12_marks_106 ?_
    refine v_callVI (pc := 107) cx hR (m_place _ _ _ _ h0 hd ((eo 19 (by omega)).trans hg) hng (by rw [eo 16 (by omega)]; exact ht) (fun j hj => by rw [eo _ (by omega)]; exact hs j hj)) mlX12_37 (by decide) (by assumption) rfl rfl rfl (Nat.le_of_ble_eq_true rfl) ⟨Nat.le_refl _, Nat.le_refl _⟩ dX12_marks_107 (fun v3 E3 hP => ?_)
    obtain ⟨hv, rfl⟩ := hP
    refine v_iastore (pc := 110) cx (124 + k) hd (by omega) dX12_marks_110 (fun E110 hE110 hF110 => ?_)
    replace h0 := (hF110 _ (by omega)).trans h0
    replace hd := hE110
    replace hFr := fun j hj => (hF110 j (by omega)).trans (hFr j hj)
    obtain ⟨dB, hd, b1, b2⟩ := genU hd
    have hnB : dB 63 = (k : Int) := (b2 63 (by omega)).trans hnA
    refine v_aload_n (pc := 111) cx rfl ga0 dX12_marks_111 ?_
    refine v_getfield (pc := 112) cx flX12_7 (by assumption) gf0 dX12_marks_112 ?_
    refine v_sipush (pc := 115) cx (by decide) dX12_marks_115 ?_
    refine v_aload_n (pc := 118) cx rfl ga0 dX12_marks_118 ?_
    refine v_getfield (pc := 119) cx flX12_7 (by assumption) gf0 dX12_marks_119 ?_
    refine v_bipush (pc := 122) cx (by decide) dX12_marks_122 ?_
    refine v_iaload (pc := 124) cx (63) (by assumption) (by omega) dX12_marks_124 ?_
    refine v_iadd (pc := 125) cx dX12_marks_125 ?_
    refine v_iload_n (pc := 126) cx rfl ga1 dX12_marks_126 ?_
    refine v_iastore (pc := 127) cx (184 + k) hd (by omega) dX12_marks_127 (fun E127 hE127 hF127 => ?_)
    replace h0 := (hF127 _ (by omega)).trans h0
    replace hd := hE127
    replace hFr := fun j hj => (hF127 j (by omega)).trans (hFr j hj)
    obtain ⟨dC, hd, e1, e2⟩ := genU hd
    have hnC : dC 63 = (k : Int) := (e2 63 (by omega)).trans hnB
    refine v_aload_n (pc := 128) cx rfl ga0 dX12_marks_128 ?_
    refine v_getfield (pc := 129) cx flX12_7 (by assumption) gf0 dX12_marks_129 ?_
    refine v_bipush (pc := 132) cx (by decide) dX12_marks_132 ?_
    refine v_dup2 (pc := 134) cx rfl rfl dX12_marks_134 ?_
    refine v_iaload (pc := 135) cx (63) (by assumption) (by omega) dX12_marks_135 ?_
    refine v_iconst (pc := 136) cx dX12_marks_136 ?_
    refine v_iadd (pc := 137) cx dX12_marks_137 ?_
    refine v_iastore (pc := 138) cx (63) hd (by omega) dX12_marks_138 (fun E138 hE138 hF138 => ?_)
    replace h0 := (hF138 _ (by omega)).trans h0
    replace hd := hE138
    replace hFr := fun j hj => (hF138 j (by omega)).trans (hFr j hj)
    refine v_return (pc := 139) cx hI ?_ dX12_marks_139
    refine ⟨⟨k + 1, _, hd, by omega, ?_, ?_, fun i hi => ?_⟩, hFr⟩
    · rw [upI_s, hnC]
      rfl
    · unfold addMk
      rw [← hls, lst_succ]
      have z : ∀ b j : Nat, (64 ≤ b) → ar (upI dC 63 (dC 63 + 1)) b j = dC (b + j) := fun b j hb => upI_n (by omega)
      have e : lst (ar (upI dC 63 (dC 63 + 1)) 64) (ar (upI dC 63 (dC 63 + 1)) 124) (ar (upI dC 63 (dC 63 + 1)) 184) k = lst (ar d1 64) (ar d1 124) (ar d1 184) k := by
        refine lst_ext (fun j hj => ⟨?_, ?_, ?_⟩)
        · rw [z _ _ (by omega), e2 _ (by omega), b2 _ (by omega), a2 _ (by omega)]
          rfl
        · rw [z _ _ (by omega), e2 _ (by omega), b2 _ (by omega), a2 _ (by omega)]
          rfl
        · rw [z _ _ (by omega), e2 _ (by omega), b2 _ (by omega), a2 _ (by omega)]
          rfl
      rw [e, z _ _ (by omega), z _ _ (by omega), z _ _ (by omega), e1, e2 _ (by omega), e2 _ (by omega), b1, b2 _ (by omega), a1, hv, hout 0 (by omega), eo 5 (by omega), eo 16 (by omega)]
      rw [plc_ext (fun j hj => ⟨eo (20 + 2 * j) (by omega), eo (21 + 2 * j) (by omega)⟩)]
    · rw [upI_n (by omega), e2 i (by omega), b2 i (by omega), eo i hi]
  have loop : ∀ (q k : Nat) (d' : Nat → Int) (E' : Wd) (l3 : Option Value), m = 60 → k ≤ 59 → 59 - k < q → E' 124 = some (oMd (fG X) st ty aa re rs sm) → E' 125 = some (AI (fG X) 244 d') → (∀ a : Nat, (a = 64 ∨ a = 124 ∨ a = 184) → ∀ j, j < k → d' (a + j) = d (a + j + 1)) → (∀ x, (x < 64 ∨ (64 + k ≤ x ∧ x < 124) ∨ (124 + k ≤ x ∧ x < 184) ∨ 184 + k ≤ x) → d' x = d x) → Out E E' 125 126 → V X E' (nh, 0, 0) 14 [some (.ref (gb (fG X) + 124)), some (.int (iI ov)), some (.int (iI (k : Int))), l3] [] := by
    intro q
    induction q with
    | zero => intro k d' E' l3 h1 h2 h3; omega
    | succ q ih =>
      intro k d' E' l3 hm60 hk hq h0 hd hin hout hFr
      have hn' : d' 63 = 60 := by rw [hout 63 (by omega), hn, hm60]; rfl
      refine v_iload_n (pc := 14) cx rfl ga2 dX12_marks_14 ?_
      refine v_bipush (pc := 15) cx (by decide) dX12_marks_15 ?_
      refine v_icmp_ge (pc := 17) cx 60 dX12_marks_17 rfl (by omega) (fun c17 => ?_) (fun c17 => ?_)
      · refine v_aload_n (pc := 60) cx rfl ga0 dX12_marks_60 ?_
        refine v_getfield (pc := 61) cx flX12_7 (by assumption) gf0 dX12_marks_61 ?_
        refine v_bipush (pc := 64) cx (by decide) dX12_marks_64 ?_
        refine v_dup2 (pc := 66) cx rfl rfl dX12_marks_66 ?_
        refine v_iaload (pc := 67) cx (63) (by assumption) (by omega) dX12_marks_67 ?_
        refine v_iconst (pc := 68) cx dX12_marks_68 ?_
        refine v_isub (pc := 69) cx dX12_marks_69 ?_
        refine v_iastore (pc := 70) cx (63) hd (by omega) dX12_marks_70 (fun E70 hE70 hF70 => ?_)
        replace h0 := (hF70 _ (by omega)).trans h0
        replace hd := hE70
        replace hFr := fun j hj => (hF70 j (by omega)).trans (hFr j hj)
        obtain ⟨dA, hd, a1, a2⟩ := genU hd
        refine fin 59 dA _ _ _ (by omega) h0 hd (by rw [a1, hn']; rfl) (fun i hi => by rw [a2 i (by omega), hout i (by omega)]) ?_ hFr
        rw [lst_len, if_pos hm60, hm60, lst_tail]
        refine lst_ext (fun j hj => ⟨?_, ?_, ?_⟩)
        · show dA (64 + j) = d (64 + (j + 1))
          rw [a2 _ (by omega), hin 64 (by omega) j (by omega)]
          rfl
        · show dA (124 + j) = d (124 + (j + 1))
          rw [a2 _ (by omega), hin 124 (by omega) j (by omega)]
          rfl
        · show dA (184 + j) = d (184 + (j + 1))
          rw [a2 _ (by omega), hin 184 (by omega) j (by omega)]
          rfl
      · refine v_bipush (pc := 20) cx (by decide) dX12_marks_20 ?_
        refine v_istore_n (pc := 22) cx rfl (sa3 rfl) dX12_marks_22 ?_
        refine v_iload_n (pc := 23) cx rfl ga3 dX12_marks_23 ?_
        refine v_sipush (pc := 24) cx (by decide) dX12_marks_24 ?_
        refine v_icmp_gt (pc := 27) cx 54 dX12_marks_27 rfl (by omega) (fun c27 => ?_) (fun c27 => ?_)
        · omega
        · refine v_aload_n (pc := 30) cx rfl ga0 dX12_marks_30 ?_
          refine v_getfield (pc := 31) cx flX12_7 (by assumption) gf0 dX12_marks_31 ?_
          refine v_iload_n (pc := 34) cx rfl ga3 dX12_marks_34 ?_
          refine v_iload_n (pc := 35) cx rfl ga2 dX12_marks_35 ?_
          refine v_iadd (pc := 36) cx dX12_marks_36 ?_
          refine v_aload_n (pc := 37) cx rfl ga0 dX12_marks_37 ?_
          refine v_getfield (pc := 38) cx flX12_7 (by assumption) gf0 dX12_marks_38 ?_
          refine v_iload_n (pc := 41) cx rfl ga3 dX12_marks_41 ?_
          refine v_iload_n (pc := 42) cx rfl ga2 dX12_marks_42 ?_
          refine v_iadd (pc := 43) cx dX12_marks_43 ?_
          refine v_iconst (pc := 44) cx dX12_marks_44 ?_
          refine v_iadd (pc := 45) cx dX12_marks_45 ?_
          refine v_iaload (pc := 46) cx (64 + k + 1) (by assumption) (by omega) dX12_marks_46 ?_
          refine v_iastore (pc := 47) cx (64 + k) hd (by omega) dX12_marks_47 (fun E47 hE47 hF47 => ?_)
          replace h0 := (hF47 _ (by omega)).trans h0
          replace hd := hE47
          replace hFr := fun j hj => (hF47 j (by omega)).trans (hFr j hj)
          refine v_iinc (pc := 48) cx ga3 (sa3 rfl) dX12_marks_48 ?_
          refine v_goto (pc := 51) cx 23 dX12_marks_51 rfl ?_
          refine v_iload_n (pc := 23) cx rfl ga3 dX12_marks_23 ?_
          refine v_sipush (pc := 24) cx (by decide) dX12_marks_24 ?_
          refine v_icmp_gt (pc := 27) cx 54 dX12_marks_27 rfl (by omega) (fun c27 => ?_) (fun c27 => ?_)
          · omega
          · refine v_aload_n (pc := 30) cx rfl ga0 dX12_marks_30 ?_
            refine v_getfield (pc := 31) cx flX12_7 (by assumption) gf0 dX12_marks_31 ?_
            refine v_iload_n (pc := 34) cx rfl ga3 dX12_marks_34 ?_
            refine v_iload_n (pc := 35) cx rfl ga2 dX12_marks_35 ?_
            refine v_iadd (pc := 36) cx dX12_marks_36 ?_
            refine v_aload_n (pc := 37) cx rfl ga0 dX12_marks_37 ?_
            refine v_getfield (pc := 38) cx flX12_7 (by assumption) gf0 dX12_marks_38 ?_
            refine v_iload_n (pc := 41) cx rfl ga3 dX12_marks_41 ?_
            refine v_iload_n (pc := 42) cx rfl ga2 dX12_marks_42 ?_
            refine v_iadd (pc := 43) cx dX12_marks_43 ?_
            refine v_iconst (pc := 44) cx dX12_marks_44 ?_
            refine v_iadd (pc := 45) cx dX12_marks_45 ?_
            refine v_iaload (pc := 46) cx (124 + k + 1) (by assumption) (by omega) dX12_marks_46 ?_
            refine v_iastore (pc := 47) cx (124 + k) hd (by omega) dX12_marks_47 (fun E47 hE47 hF47 => ?_)
            replace h0 := (hF47 _ (by omega)).trans h0
            replace hd := hE47
            replace hFr := fun j hj => (hF47 j (by omega)).trans (hFr j hj)
            refine v_iinc (pc := 48) cx ga3 (sa3 rfl) dX12_marks_48 ?_
            refine v_goto (pc := 51) cx 23 dX12_marks_51 rfl ?_
            refine v_iload_n (pc := 23) cx rfl ga3 dX12_marks_23 ?_
            refine v_sipush (pc := 24) cx (by decide) dX12_marks_24 ?_
            refine v_icmp_gt (pc := 27) cx 54 dX12_marks_27 rfl (by omega) (fun c27 => ?_) (fun c27 => ?_)
            · omega
            · refine v_aload_n (pc := 30) cx rfl ga0 dX12_marks_30 ?_
              refine v_getfield (pc := 31) cx flX12_7 (by assumption) gf0 dX12_marks_31 ?_
              refine v_iload_n (pc := 34) cx rfl ga3 dX12_marks_34 ?_
              refine v_iload_n (pc := 35) cx rfl ga2 dX12_marks_35 ?_
              refine v_iadd (pc := 36) cx dX12_marks_36 ?_
              refine v_aload_n (pc := 37) cx rfl ga0 dX12_marks_37 ?_
              refine v_getfield (pc := 38) cx flX12_7 (by assumption) gf0 dX12_marks_38 ?_
              refine v_iload_n (pc := 41) cx rfl ga3 dX12_marks_41 ?_
              refine v_iload_n (pc := 42) cx rfl ga2 dX12_marks_42 ?_
              refine v_iadd (pc := 43) cx dX12_marks_43 ?_
              refine v_iconst (pc := 44) cx dX12_marks_44 ?_
              refine v_iadd (pc := 45) cx dX12_marks_45 ?_
              refine v_iaload (pc := 46) cx (184 + k + 1) (by assumption) (by omega) dX12_marks_46 ?_
              refine v_iastore (pc := 47) cx (184 + k) hd (by omega) dX12_marks_47 (fun E47 hE47 hF47 => ?_)
              replace h0 := (hF47 _ (by omega)).trans h0
              replace hd := hE47
              replace hFr := fun j hj => (hF47 j (by omega)).trans (hFr j hj)
              refine v_iinc (pc := 48) cx ga3 (sa3 rfl) dX12_marks_48 ?_
              refine v_goto (pc := 51) cx 23 dX12_marks_51 rfl ?_
              refine v_iload_n (pc := 23) cx rfl ga3 dX12_marks_23 ?_
              refine v_sipush (pc := 24) cx (by decide) dX12_marks_24 ?_
              refine v_icmp_gt (pc := 27) cx 54 dX12_marks_27 rfl (by omega) (fun c27 => ?_) (fun c27 => ?_)
              · refine v_iinc (pc := 54) cx ga2 (sa2 rfl) dX12_marks_54 ?_
                refine v_goto (pc := 57) cx 14 dX12_marks_57 rfl ?_
                rw [upI_n (by omega), upI_n (by omega), upI_n (by omega)] at hd
                refine ih (k + 1) _ _ _ hm60 (by omega) (by omega) h0 hd (fun a ha j hj => ?_) (fun x hx => ?_) hFr
                · by_cases e : j = k
                  · subst e
                    rcases ha with rfl | rfl | rfl
                    · rw [upI_n (by omega), upI_n (by omega), upI_s]
                      exact hout _ (by omega)
                    · rw [upI_n (by omega), upI_s]
                      exact hout _ (by omega)
                    · rw [upI_s]
                      exact hout _ (by omega)
                  · rw [upI_n (by omega), upI_n (by omega), upI_n (by omega)]
                    exact hin a ha j (by omega)
                · rw [upI_n (by omega), upI_n (by omega), upI_n (by omega)]
                  exact hout x (by omega)
              · omega
  refine v_aload_n (pc := 0) cx rfl ga0 dX12_marks_0 ?_
  refine v_getfield (pc := 1) cx flX12_7 (by assumption) gf0 dX12_marks_1 ?_
  refine v_bipush (pc := 4) cx (by decide) dX12_marks_4 ?_
  refine v_iaload (pc := 6) cx (63) (by assumption) (by omega) dX12_marks_6 ?_
  refine v_bipush (pc := 7) cx (by decide) dX12_marks_7 ?_
  refine v_icmp_ne (pc := 9) cx 71 dX12_marks_9 rfl (by omega) (fun c9 => ?_) (fun c9 => ?_)
  · refine fin m d E _ _ (by omega) h0 hd hn (fun _ _ => rfl) ?_ (fun _ _ => rfl)
    rw [lst_len, if_neg (by omega)]
  · refine v_iconst (pc := 12) cx dX12_marks_12 ?_
    refine v_istore_n (pc := 13) cx rfl (sa2 rfl) dX12_marks_13 ?_
    exact loop 60 0 d E _ (by omega) (by omega) (by omega) h0 hd (fun a ha j hj => by omega) (fun _ _ => rfl) (fun _ _ => rfl)
set_option maxRecDepth 100000 in
set_option maxHeartbeats 4000000 in
theorem m_puts (lc : Launch) (G : Gc) (E : Wd) (nh : Nat) {m : Nat} {b l r st ty aa re rs sm : Int} {d : Nat → Int} (h0 : E 124 = some (oMd G st ty aa re rs sm)) (hd : E 125 = some (AI G 244 d)) (hn : d 26 = (m : Int)) (hm : m < 12) (hr : ∀ j, j < m → 0 ≤ d (27 + j) ∧ d (27 + j) ≤ 5000) (hb : 0 ≤ b ∧ b ≤ 5000) : CI lc G 0 yX12_puts cX12_puts 6 .int [.ref (gb G + 124), .int (iI b), .int (iI l), .int (iI r)] E nh 0 0 (fun v E' => v = (insI (lst (ar d 27) (ar d 39) (ar d 51) m) b : Int) ∧ (∃ d', E' 125 = some (AI G 244 d') ∧ d' 26 = (m : Int) + 1 ∧ lst (ar d' 27) (ar d' 39) (ar d' 51) (m + 1) = insL (lst (ar d 27) (ar d 39) (ar d 51) m) (b, l, r) ∧ ∀ i, (i < 26 ∨ 63 ≤ i) → d' i = d i) ∧ Out E E' 125 126) := by
  refine CI.mk (by decide +kernel) rfl (Nat.le_of_ble_eq_true rfl) ?_
  intro X hG hL cx hR hI
  subst hG; subst hL
  show V X E (nh, 0, 0) 0 [some (.ref (gb (fG X) + 124)), some (.int (iI b)), some (.int (iI l)), some (.int (iI r)), none, none] []
  have fin : ∀ (q : Nat) (d' : Nat → Int) (E' : Wd) (l5 : Option Value), q ≤ m → E' 124 = some (oMd (fG X) st ty aa re rs sm) → E' 125 = some (AI (fG X) 244 d') → d' 26 = (m : Int) → (∀ j, j < 12 → d' (27 + j) = shF (ar d 27) q m j ∧ d' (39 + j) = shF (ar d 39) q m j ∧ d' (51 + j) = shF (ar d 51) q m j) → (∀ x, (x < 26 ∨ 63 ≤ x) → d' x = d x) → Out E E' 125 126 → insP (ar d 27) b m = q → V X E' (nh, 0, 0) 75 [some (.ref (gb (fG X) + 124)), some (.int (iI b)), some (.int (iI l)), some (.int (iI r)), some (.int (iI (q : Int))), l5] [] := by
    intro q d' E' l5 hq h0 hd hn' hin hout hFr hp
    refine v_aload_n (pc := 75) cx rfl ga0 dX12_puts_75 ?_
    refine v_getfield (pc := 76) cx flX12_7 (by assumption) gf0 dX12_puts_76 ?_
    refine v_bipush (pc := 79) cx (by decide) dX12_puts_79 ?_
    refine v_iload (pc := 81) cx ga4 dX12_puts_81 ?_
    refine v_iadd (pc := 83) cx dX12_puts_83 ?_
    refine v_iload_n (pc := 84) cx rfl ga1 dX12_puts_84 ?_
    refine v_iastore (pc := 85) cx (27 + q) hd (by omega) dX12_puts_85 (fun E85 hE85 hF85 => ?_)
    replace h0 := (hF85 _ (by omega)).trans h0
    replace hd := hE85
    replace hFr := fun j hj => (hF85 j (by omega)).trans (hFr j hj)
    refine v_aload_n (pc := 86) cx rfl ga0 dX12_puts_86 ?_
    refine v_getfield (pc := 87) cx flX12_7 (by assumption) gf0 dX12_puts_87 ?_
    refine v_bipush (pc := 90) cx (by decide) dX12_puts_90 ?_
    refine v_iload (pc := 92) cx ga4 dX12_puts_92 ?_
    refine v_iadd (pc := 94) cx dX12_puts_94 ?_
    refine v_iload_n (pc := 95) cx rfl ga2 dX12_puts_95 ?_
    refine v_iastore (pc := 96) cx (39 + q) hd (by omega) dX12_puts_96 (fun E96 hE96 hF96 => ?_)
    replace h0 := (hF96 _ (by omega)).trans h0
    replace hd := hE96
    replace hFr := fun j hj => (hF96 j (by omega)).trans (hFr j hj)
    refine v_aload_n (pc := 97) cx rfl ga0 dX12_puts_97 ?_
    refine v_getfield (pc := 98) cx flX12_7 (by assumption) gf0 dX12_puts_98 ?_
    refine v_bipush (pc := 101) cx (by decide) dX12_puts_101 ?_
    refine v_iload (pc := 103) cx ga4 dX12_puts_103 ?_
    refine v_iadd (pc := 105) cx dX12_puts_105 ?_
    refine v_iload_n (pc := 106) cx rfl ga3 dX12_puts_106 ?_
    refine v_iastore (pc := 107) cx (51 + q) hd (by omega) dX12_puts_107 (fun E107 hE107 hF107 => ?_)
    replace h0 := (hF107 _ (by omega)).trans h0
    replace hd := hE107
    replace hFr := fun j hj => (hF107 j (by omega)).trans (hFr j hj)
    obtain ⟨dA, hd, a⟩ : ∃ dA, E107 125 = some (AI (fG X) 244 dA) ∧ dA = upI (upI (upI d' (27 + q) b) (39 + q) l) (51 + q) r := ⟨_, hd, rfl⟩
    have hnA : dA 26 = (m : Int) := by rw [a, upI_n (by omega), upI_n (by omega), upI_n (by omega), hn']
    refine v_aload_n (pc := 108) cx rfl ga0 dX12_puts_108 ?_
    refine v_getfield (pc := 109) cx flX12_7 (by assumption) gf0 dX12_puts_109 ?_
    refine v_bipush (pc := 112) cx (by decide) dX12_puts_112 ?_
    refine v_dup2 (pc := 114) cx rfl rfl dX12_puts_114 ?_
    refine v_iaload (pc := 115) cx (26) (by assumption) (by omega) dX12_puts_115 ?_
    refine v_iconst (pc := 116) cx dX12_puts_116 ?_
    refine v_iadd (pc := 117) cx dX12_puts_117 ?_
    refine v_iastore (pc := 118) cx (26) hd (by omega) dX12_puts_118 (fun E118 hE118 hF118 => ?_)
    replace h0 := (hF118 _ (by omega)).trans h0
    replace hd := hE118
    replace hFr := fun j hj => (hF118 j (by omega)).trans (hFr j hj)
    refine v_iload (pc := 119) cx ga4 dX12_puts_119 ?_
    refine v_ireturn (pc := 121) cx hI rfl ?_ dX12_puts_121
    rw [insI_lst, insL_lst, hp]
    refine ⟨rfl, ⟨_, hd, by rw [upI_s, hnA], ?_, fun i hi => ?_⟩, hFr⟩
    · refine lst_ext (fun j hj => ?_)
      have z : ∀ b j : Nat, (27 ≤ b) → ar (upI dA 26 (dA 26 + 1)) b j = dA (b + j) := fun b j hb => upI_n (by omega)
      rw [z _ _ (by omega), z _ _ (by omega), z _ _ (by omega), a]
      obtain ⟨i1, i2, i3⟩ := hin j (by omega)
      have hs : ∀ (f : Nat → Int) (x : Int), insF f q m x j = if j = q then x else shF f q m j := by
        intro f x
        unfold insF shF
        by_cases h1 : j = q
        · rw [if_pos h1, if_neg (by omega), if_pos h1]
        · rw [if_neg h1, if_neg h1]
          by_cases h2 : j < q
          · rw [if_pos h2, if_neg (by omega)]
          · rw [if_neg h2, if_pos (by omega), if_pos (by omega)]
      rw [hs, hs, hs]
      by_cases e : j = q
      · subst e
        rw [if_pos rfl, if_pos rfl, if_pos rfl]
        refine ⟨?_, ?_, ?_⟩
        · rw [upI_n (by omega), upI_n (by omega), upI_s]
        · rw [upI_n (by omega), upI_s]
        · rw [upI_s]
      · rw [if_neg e, if_neg e, if_neg e, upI_n (by omega), upI_n (by omega), upI_n (by omega), upI_n (by omega), upI_n (by omega), upI_n (by omega), upI_n (by omega), upI_n (by omega), upI_n (by omega)]
        exact ⟨i1, i2, i3⟩
    · rw [upI_n (by omega), a, upI_n (by omega), upI_n (by omega), upI_n (by omega)]
      exact hout i hi
  have loop : ∀ (w q : Nat) (d' : Nat → Int) (E' : Wd) (l5 : Option Value), q ≤ m → q < w → E' 124 = some (oMd (fG X) st ty aa re rs sm) → E' 125 = some (AI (fG X) 244 d') → d' 26 = (m : Int) → (∀ j, j < 12 → d' (27 + j) = shF (ar d 27) q m j ∧ d' (39 + j) = shF (ar d 39) q m j ∧ d' (51 + j) = shF (ar d 51) q m j) → (∀ x, (x < 26 ∨ 63 ≤ x) → d' x = d x) → Out E E' 125 126 → insP (ar d 27) b m = insP (ar d 27) b q → V X E' (nh, 0, 0) 9 [some (.ref (gb (fG X) + 124)), some (.int (iI b)), some (.int (iI l)), some (.int (iI r)), some (.int (iI (q : Int))), l5] [] := by
    intro w
    induction w with
    | zero => intro q d' E' l5 h1 h2; omega
    | succ w ih =>
      intro q d' E' l5 hq hw h0 hd hn' hin hout hFr hp
      refine v_iload (pc := 9) cx ga4 dX12_puts_9 ?_
      refine v_if_le (pc := 11) cx 75 dX12_puts_11 rfl (by omega) (fun c11 => ?_) (fun c11 => ?_)
      · exact fin q d' E' _ hq h0 hd hn' hin hout hFr (hp.trans (insP_ge (Or.inl (by omega))))
      · have hlast : d' (27 + (q - 1)) = d (27 + (q - 1)) := by
          rw [(hin (q - 1) (by omega)).1]
          unfold shF
          rw [if_neg (by omega)]
          rfl
        have hrq := hr (q - 1) (by omega)
        refine v_aload_n (pc := 14) cx rfl ga0 dX12_puts_14 ?_
        refine v_getfield (pc := 15) cx flX12_7 (by assumption) gf0 dX12_puts_15 ?_
        refine v_bipush (pc := 18) cx (by decide) dX12_puts_18 ?_
        refine v_iload (pc := 20) cx ga4 dX12_puts_20 ?_
        refine v_iadd (pc := 22) cx dX12_puts_22 ?_
        refine v_iconst (pc := 23) cx dX12_puts_23 ?_
        refine v_isub (pc := 24) cx dX12_puts_24 ?_
        refine v_iaload (pc := 25) cx (27 + (q - 1)) (by assumption) (by omega) dX12_puts_25 ?_
        refine v_iload_n (pc := 26) cx rfl ga1 dX12_puts_26 ?_
        refine v_icmp_le (pc := 27) cx 75 dX12_puts_27 rfl (by omega) (fun c27 => ?_) (fun c27 => ?_)
        · exact fin q d' E' _ hq h0 hd hn' hin hout hFr (hp.trans (insP_ge (Or.inr (by show d (27 + (q - 1)) ≤ b; omega))))
        · refine v_bipush (pc := 30) cx (by decide) dX12_puts_30 ?_
          refine v_istore (pc := 32) cx (sa5 rfl) dX12_puts_32 ?_
          refine v_iload (pc := 34) cx ga5 dX12_puts_34 ?_
          refine v_bipush (pc := 36) cx (by decide) dX12_puts_36 ?_
          refine v_icmp_gt (pc := 38) cx 69 dX12_puts_38 rfl (by omega) (fun c38 => ?_) (fun c38 => ?_)
          · omega
          · refine v_aload_n (pc := 41) cx rfl ga0 dX12_puts_41 ?_
            refine v_getfield (pc := 42) cx flX12_7 (by assumption) gf0 dX12_puts_42 ?_
            refine v_iload (pc := 45) cx ga5 dX12_puts_45 ?_
            refine v_iload (pc := 47) cx ga4 dX12_puts_47 ?_
            refine v_iadd (pc := 49) cx dX12_puts_49 ?_
            refine v_aload_n (pc := 50) cx rfl ga0 dX12_puts_50 ?_
            refine v_getfield (pc := 51) cx flX12_7 (by assumption) gf0 dX12_puts_51 ?_
            refine v_iload (pc := 54) cx ga5 dX12_puts_54 ?_
            refine v_iload (pc := 56) cx ga4 dX12_puts_56 ?_
            refine v_iadd (pc := 58) cx dX12_puts_58 ?_
            refine v_iconst (pc := 59) cx dX12_puts_59 ?_
            refine v_isub (pc := 60) cx dX12_puts_60 ?_
            refine v_iaload (pc := 61) cx (27 + (q - 1)) (by assumption) (by omega) dX12_puts_61 ?_
            refine v_iastore (pc := 62) cx (27 + q) hd (by omega) dX12_puts_62 (fun E62 hE62 hF62 => ?_)
            replace h0 := (hF62 _ (by omega)).trans h0
            replace hd := hE62
            replace hFr := fun j hj => (hF62 j (by omega)).trans (hFr j hj)
            refine v_iinc (pc := 63) cx ga5 (sa5 rfl) dX12_puts_63 ?_
            refine v_goto (pc := 66) cx 34 dX12_puts_66 rfl ?_
            refine v_iload (pc := 34) cx ga5 dX12_puts_34 ?_
            refine v_bipush (pc := 36) cx (by decide) dX12_puts_36 ?_
            refine v_icmp_gt (pc := 38) cx 69 dX12_puts_38 rfl (by omega) (fun c38 => ?_) (fun c38 => ?_)
            · omega
            · refine v_aload_n (pc := 41) cx rfl ga0 dX12_puts_41 ?_
              refine v_getfield (pc := 42) cx flX12_7 (by assumption) gf0 dX12_puts_42 ?_
              refine v_iload (pc := 45) cx ga5 dX12_puts_45 ?_
              refine v_iload (pc := 47) cx ga4 dX12_puts_47 ?_
              refine v_iadd (pc := 49) cx dX12_puts_49 ?_
              refine v_aload_n (pc := 50) cx rfl ga0 dX12_puts_50 ?_
              refine v_getfield (pc := 51) cx flX12_7 (by assumption) gf0 dX12_puts_51 ?_
              refine v_iload (pc := 54) cx ga5 dX12_puts_54 ?_
              refine v_iload (pc := 56) cx ga4 dX12_puts_56 ?_
              refine v_iadd (pc := 58) cx dX12_puts_58 ?_
              refine v_iconst (pc := 59) cx dX12_puts_59 ?_
              refine v_isub (pc := 60) cx dX12_puts_60 ?_
              refine v_iaload (pc := 61) cx (39 + (q - 1)) (by assumption) (by omega) dX12_puts_61 ?_
              refine v_iastore (pc := 62) cx (39 + q) hd (by omega) dX12_puts_62 (fun E62 hE62 hF62 => ?_)
              replace h0 := (hF62 _ (by omega)).trans h0
              replace hd := hE62
              replace hFr := fun j hj => (hF62 j (by omega)).trans (hFr j hj)
              refine v_iinc (pc := 63) cx ga5 (sa5 rfl) dX12_puts_63 ?_
              refine v_goto (pc := 66) cx 34 dX12_puts_66 rfl ?_
              refine v_iload (pc := 34) cx ga5 dX12_puts_34 ?_
              refine v_bipush (pc := 36) cx (by decide) dX12_puts_36 ?_
              refine v_icmp_gt (pc := 38) cx 69 dX12_puts_38 rfl (by omega) (fun c38 => ?_) (fun c38 => ?_)
              · omega
              · refine v_aload_n (pc := 41) cx rfl ga0 dX12_puts_41 ?_
                refine v_getfield (pc := 42) cx flX12_7 (by assumption) gf0 dX12_puts_42 ?_
                refine v_iload (pc := 45) cx ga5 dX12_puts_45 ?_
                refine v_iload (pc := 47) cx ga4 dX12_puts_47 ?_
                refine v_iadd (pc := 49) cx dX12_puts_49 ?_
                refine v_aload_n (pc := 50) cx rfl ga0 dX12_puts_50 ?_
                refine v_getfield (pc := 51) cx flX12_7 (by assumption) gf0 dX12_puts_51 ?_
                refine v_iload (pc := 54) cx ga5 dX12_puts_54 ?_
                refine v_iload (pc := 56) cx ga4 dX12_puts_56 ?_
                refine v_iadd (pc := 58) cx dX12_puts_58 ?_
                refine v_iconst (pc := 59) cx dX12_puts_59 ?_
                refine v_isub (pc := 60) cx dX12_puts_60 ?_
                refine v_iaload (pc := 61) cx (51 + (q - 1)) (by assumption) (by omega) dX12_puts_61 ?_
                refine v_iastore (pc := 62) cx (51 + q) hd (by omega) dX12_puts_62 (fun E62 hE62 hF62 => ?_)
                replace h0 := (hF62 _ (by omega)).trans h0
                replace hd := hE62
                replace hFr := fun j hj => (hF62 j (by omega)).trans (hFr j hj)
                refine v_iinc (pc := 63) cx ga5 (sa5 rfl) dX12_puts_63 ?_
                refine v_goto (pc := 66) cx 34 dX12_puts_66 rfl ?_
                refine v_iload (pc := 34) cx ga5 dX12_puts_34 ?_
                refine v_bipush (pc := 36) cx (by decide) dX12_puts_36 ?_
                refine v_icmp_gt (pc := 38) cx 69 dX12_puts_38 rfl (by omega) (fun c38 => ?_) (fun c38 => ?_)
                · refine v_iinc (pc := 69) cx ga4 (sa4 rfl) dX12_puts_69 ?_
                  refine v_goto (pc := 72) cx 9 dX12_puts_72 rfl ?_
                  rw [show (q : Int) + -1 = ((q - 1 : Nat) : Int) by omega]
                  rw [upI_n (by omega), upI_n (by omega), upI_n (by omega)] at hd
                  refine ih (q - 1) _ _ _ (by omega) (by omega) h0 hd ?_ (fun j hj => ?_) (fun x hx => ?_) hFr (hp.trans (insP_lt (by omega) (by show b < d (27 + (q - 1)); omega)))
                  · rw [upI_n (by omega), upI_n (by omega), upI_n (by omega)]
                    exact hn'
                  · have hs : ∀ (f : Nat → Int), shF f (q - 1) m j = if j = q then shF f q m (q - 1) else shF f q m j := by
                      intro f
                      unfold shF
                      by_cases h1 : j = q
                      · rw [if_pos (by omega), if_pos h1, if_neg (by omega), h1]
                      · rw [if_neg h1]
                        by_cases h2 : q < j ∧ j ≤ m
                        · rw [if_pos (by omega), if_pos h2]
                        · rw [if_neg (by omega), if_neg h2]
                    rw [hs, hs, hs]
                    by_cases e : j = q
                    · subst e
                      obtain ⟨i1, i2, i3⟩ := hin (j - 1) (by omega)
                      rw [if_pos rfl, if_pos rfl, if_pos rfl]
                      refine ⟨?_, ?_, ?_⟩
                      · rw [upI_n (by omega), upI_n (by omega), upI_s]
                        exact i1
                      · rw [upI_n (by omega), upI_s]
                        exact i2
                      · rw [upI_s]
                        exact i3
                    · rw [if_neg e, if_neg e, if_neg e, upI_n (by omega), upI_n (by omega), upI_n (by omega), upI_n (by omega), upI_n (by omega), upI_n (by omega), upI_n (by omega), upI_n (by omega), upI_n (by omega)]
                      exact hin j hj
                  · rw [upI_n (by omega), upI_n (by omega), upI_n (by omega)]
                    exact hout x hx
                · omega
  refine v_aload_n (pc := 0) cx rfl ga0 dX12_puts_0 ?_
  refine v_getfield (pc := 1) cx flX12_7 (by assumption) gf0 dX12_puts_1 ?_
  refine v_bipush (pc := 4) cx (by decide) dX12_puts_4 ?_
  refine v_iaload (pc := 6) cx (26) (by assumption) (by omega) dX12_puts_6 ?_
  refine v_istore (pc := 7) cx (sa4 rfl) dX12_puts_7 ?_
  rw [hn]
  refine loop (m + 1) m d E _ (Nat.le_refl _) (by omega) h0 hd hn (fun j hj => ?_) (fun _ _ => rfl) (fun _ _ => rfl) rfl
  have z : ∀ f : Nat → Int, shF f m m j = f j := by
    intro f
    unfold shF
    rw [if_neg (by omega)]
  rw [z, z, z]
  exact ⟨rfl, rfl, rfl⟩
