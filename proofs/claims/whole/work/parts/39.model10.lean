/-! the reference: reading what was typed -/
set_option maxRecDepth 100000 in
set_option maxHeartbeats 4000000 in
theorem m_takes (lc : Launch) (G : Gc) (E : Wd) (nh : Nat) {p k : Nat} {sg st re rs sm : Int} {c rd : Nat → Int} {tx : List Int} (h0 : E 124 = some (oMd G st (tx.length : Int) (p : Int) re rs sm)) (hc : E 128 = some (AC G 100 c)) (hrd : E 129 = some (AI G 48 rd)) (hC : ∀ j, j < tx.length → c j = chr tx j) (hx : okTx tx) (hp : p < 500) (hk : k < 48) (hsg : 1 ≤ sg ∧ sg ≤ 200) : CI lc G 1 yX12_takes cX12_takes 6 .boolean [.ref (gb G + 124), .int (iI (k : Int)), .int (iI sg)] E nh 0 0 (fun v E' => ((v = 1 ∧ tkRe tx p sg = 0) ∨ (v = 0 ∧ tkRe tx p sg ≠ 0)) ∧ E' 124 = some (oMd G st (tx.length : Int) (nx tx p : Int) (tkRe tx p sg) rs sm) ∧ E' 129 = some (AI G 48 (upI rd k (nv tx p))) ∧ ∀ j, j ≠ 124 → j ≠ 129 → E' j = E j) := by
  refine CI.mk (by decide +kernel) rfl (Nat.le_of_ble_eq_true rfl) ?_
  intro X hG hL cx hR hI
  subst hG; subst hL
  show V X E (nh, 0, 0) 0 [some (.ref (gb (fG X) + 124)), some (.int (iI (k : Int))), some (.int (iI sg)), none, none, none] []
  have hdl := dgs_le tx 4 p
  have hrb := tkRe_bd tx p sg
  have h100 := hx.1
  have ph143 : ∀ (E' : Wd) (re' : Int) (l4 l5 : Option Value), re' = tkRe tx p sg → E' 124 = some (oMd (fG X) st (tx.length : Int) ((p + dgs tx 4 p : Nat) : Int) re rs sm) → E' 129 = some (AI (fG X) 48 (upI rd k (nv tx p))) → (∀ j, j ≠ 124 → j ≠ 129 → E' j = E j) → V X E' (nh, 0, 0) 143 [some (.ref (gb (fG X) + 124)), some (.int (iI (k : Int))), some (.int (iI sg)), some (.int (iI (p : Int))), l4, l5] [.int (iI re'), .ref (gb (fG X) + 124)] := by
    intro E' re' l4 l5 hre h0 hrd hF
    subst hre
    refine v_putfield (pc := 143) cx fpX12_116 h0 ⟨rfl, rfl⟩ pf7 dX12_takes_143 (fun E143 hE143 hF143 => ?_)
    replace h0 := hE143
    replace hrd := (hF143 _ (by omega)).trans hrd
    refine v_aload_n (pc := 146) cx rfl ga0 dX12_takes_146 ?_
    refine v_dup (pc := 147) cx rfl dX12_takes_147 ?_
    refine v_getfield (pc := 148) cx flX12_113 (by assumption) gf6 dX12_takes_148 ?_
    refine v_iconst (pc := 151) cx dX12_takes_151 ?_
    refine v_iadd (pc := 152) cx dX12_takes_152 ?_
    refine v_putfield (pc := 153) cx fpX12_113 h0 ⟨rfl, rfl⟩ pf6 dX12_takes_153 (fun E153 hE153 hF153 => ?_)
    replace h0 := hE153
    replace hrd := (hF153 _ (by omega)).trans hrd
    refine v_aload_n (pc := 156) cx rfl ga0 dX12_takes_156 ?_
    refine v_getfield (pc := 157) cx flX12_116 (by assumption) gf7 dX12_takes_157 ?_
    refine v_if_ne (pc := 160) cx 167 dX12_takes_160 rfl (by omega) (fun c160 => ?_) (fun c160 => ?_)
    · refine v_iconst (pc := 167) cx dX12_takes_167 ?_
      refine v_ireturn (pc := 168) cx hI rfl ?_ dX12_takes_168
      exact ⟨Or.inr ⟨rfl, by assumption⟩, h0, hrd, fun j h1 h2 => (hF153 j h1).trans ((hF143 j h1).trans (hF j h1 h2))⟩
    · refine v_iconst (pc := 163) cx dX12_takes_163 ?_
      refine v_goto (pc := 164) cx 168 dX12_takes_164 rfl ?_
      refine v_ireturn (pc := 168) cx hI rfl ?_ dX12_takes_168
      exact ⟨Or.inl ⟨rfl, by assumption⟩, h0, hrd, fun j h1 h2 => (hF153 j h1).trans ((hF143 j h1).trans (hF j h1 h2))⟩
  have ph118 : ∀ (E' : Wd) (sv l4 : Int), ((sv = 1 ∧ chr tx (p + dgs tx 4 p) = sg) ∨ (sv = 0 ∧ chr tx (p + dgs tx 4 p) ≠ sg)) → E' 124 = some (oMd (fG X) st (tx.length : Int) ((p + dgs tx 4 p : Nat) : Int) re rs sm) → E' 129 = some (AI (fG X) 48 (upI rd k (nv tx p))) → (∀ j, j ≠ 124 → j ≠ 129 → E' j = E j) → V X E' (nh, 0, 0) 118 [some (.ref (gb (fG X) + 124)), some (.int (iI (k : Int))), some (.int (iI sg)), some (.int (iI (p : Int))), some (.int (iI l4)), none] [.int (iI sv)] := by
    intro E' sv l4 hsv h0 hrd hF
    refine v_istore (pc := 118) cx (sa5 rfl) dX12_takes_118 ?_
    refine v_aload_n (pc := 120) cx rfl ga0 dX12_takes_120 ?_
    refine v_aload_n (pc := 121) cx rfl ga0 dX12_takes_121 ?_
    refine v_getfield (pc := 122) cx flX12_113 (by assumption) gf6 dX12_takes_122 ?_
    refine v_iload_n (pc := 125) cx rfl ga3 dX12_takes_125 ?_
    refine v_icmp_ne (pc := 126) cx 133 dX12_takes_126 rfl (by omega) (fun c126 => ?_) (fun c126 => ?_)
    · refine v_iload (pc := 133) cx ga5 dX12_takes_133 ?_
      refine v_if_eq (pc := 135) cx 142 dX12_takes_135 rfl (by omega) (fun c135 => ?_) (fun c135 => ?_)
      · refine v_iconst (pc := 142) cx dX12_takes_142 ?_
        refine ph143 E' 2 _ _ ?_ h0 hrd hF
        unfold tkRe
        rw [if_neg (by omega), if_neg (by omega)]
      · refine v_iconst (pc := 138) cx dX12_takes_138 ?_
        refine v_goto (pc := 139) cx 143 dX12_takes_139 rfl ?_
        refine ph143 E' 0 _ _ ?_ h0 hrd hF
        unfold tkRe
        rw [if_neg (by omega), if_pos (by omega)]
    · refine v_iconst (pc := 129) cx dX12_takes_129 ?_
      refine v_goto (pc := 130) cx 143 dX12_takes_130 rfl ?_
      refine ph143 E' 1 _ _ ?_ h0 hrd hF
      unfold tkRe
      rw [if_pos (by omega)]
  have fin : ∀ (i : Nat) (E' : Wd), i = dgs tx 4 p → E' 124 = some (oMd (fG X) st (tx.length : Int) ((p + i : Nat) : Int) re rs sm) → (∀ j, j ≠ 124 → E' j = E j) → V X E' (nh, 0, 0) 81 [some (.ref (gb (fG X) + 124)), some (.int (iI (k : Int))), some (.int (iI sg)), some (.int (iI (p : Int))), some (.int (iI (nval tx p i))), none] [] := by
    intro i E' hi h0 hF
    subst hi
    replace hc := (hF _ (by omega)).trans hc
    replace hrd := (hF _ (by omega)).trans hrd
    refine v_aload_n (pc := 81) cx rfl ga0 dX12_takes_81 ?_
    refine v_getfield (pc := 82) cx flX12_23 (by assumption) gf8 dX12_takes_82 ?_
    refine v_iload_n (pc := 85) cx rfl ga1 dX12_takes_85 ?_
    refine v_iload (pc := 86) cx ga4 dX12_takes_86 ?_
    refine v_iastore (pc := 88) cx (k) hrd (by omega) dX12_takes_88 (fun E88 hE88 hF88 => ?_)
    replace h0 := (hF88 _ (by omega)).trans h0
    replace hc := (hF88 _ (by omega)).trans hc
    replace hrd := hE88
    refine v_aload_n (pc := 89) cx rfl ga0 dX12_takes_89 ?_
    refine v_getfield (pc := 90) cx flX12_113 (by assumption) gf6 dX12_takes_90 ?_
    refine v_aload_n (pc := 93) cx rfl ga0 dX12_takes_93 ?_
    refine v_getfield (pc := 94) cx flX12_91 (by assumption) gf5 dX12_takes_94 ?_
    refine v_icmp_ge (pc := 97) cx 117 dX12_takes_97 rfl (by omega) (fun c97 => ?_) (fun c97 => ?_)
    · refine v_iconst (pc := 117) cx dX12_takes_117 ?_
      refine ph118 _ 0 _ (Or.inr ⟨rfl, ?_⟩) h0 hrd (fun j h1 h2 => (hF88 j h2).trans (hF j h1))
      rw [chr_out (by omega)]
      omega
    · have hcv := hC (p + dgs tx 4 p) (by omega)
      have hb := chr_bd hx (p + dgs tx 4 p)
      refine v_aload_n (pc := 100) cx rfl ga0 dX12_takes_100 ?_
      refine v_getfield (pc := 101) cx flX12_19 (by assumption) gf4 dX12_takes_101 ?_
      refine v_aload_n (pc := 104) cx rfl ga0 dX12_takes_104 ?_
      refine v_getfield (pc := 105) cx flX12_113 (by assumption) gf6 dX12_takes_105 ?_
      refine v_caload (pc := 108) cx (p + dgs tx 4 p) (by assumption) (by omega) dX12_takes_108 ?_
      refine v_iload_n (pc := 109) cx rfl ga2 dX12_takes_109 ?_
      refine v_icmp_ne (pc := 110) cx 117 dX12_takes_110 rfl (by omega) (fun c110 => ?_) (fun c110 => ?_)
      · refine v_iconst (pc := 117) cx dX12_takes_117 ?_
        exact ph118 _ 0 _ (Or.inr ⟨rfl, by omega⟩) h0 hrd (fun j h1 h2 => (hF88 j h2).trans (hF j h1))
      · refine v_iconst (pc := 113) cx dX12_takes_113 ?_
        refine v_goto (pc := 114) cx 118 dX12_takes_114 rfl ?_
        exact ph118 _ 1 _ (Or.inl ⟨rfl, by omega⟩) h0 hrd (fun j h1 h2 => (hF88 j h2).trans (hF j h1))
  have loop : ∀ (q i : Nat) (E' : Wd), i ≤ 4 → 4 - i < q → dgs tx 4 p = i + dgs tx (4 - i) (p + i) → E' 124 = some (oMd (fG X) st (tx.length : Int) ((p + i : Nat) : Int) re rs sm) → (∀ j, j ≠ 124 → E' j = E j) → V X E' (nh, 0, 0) 8 [some (.ref (gb (fG X) + 124)), some (.int (iI (k : Int))), some (.int (iI sg)), some (.int (iI (p : Int))), some (.int (iI (nval tx p i))), none] [] := by
    intro q
    induction q with
    | zero => intro i E' h1 h2; omega
    | succ q ih =>
      intro i E' hi hq hdg h0 hF
      have hc' := (hF _ (by omega)).trans hc
      by_cases e4 : i = 4
      · subst e4
        have e0 : dgs tx (4 - 4) (p + 4) = 0 := rfl
        refine v_aload_n (pc := 8) cx rfl ga0 dX12_takes_8 ?_
        refine v_getfield (pc := 9) cx flX12_113 (by assumption) gf6 dX12_takes_9 ?_
        refine v_aload_n (pc := 12) cx rfl ga0 dX12_takes_12 ?_
        refine v_getfield (pc := 13) cx flX12_91 (by assumption) gf5 dX12_takes_13 ?_
        refine v_icmp_ge (pc := 16) cx 81 dX12_takes_16 rfl (by omega) (fun c16 => ?_) (fun c16 => ?_)
        · exact fin 4 E' (by omega) h0 hF
        · refine v_aload_n (pc := 19) cx rfl ga0 dX12_takes_19 ?_
          refine v_getfield (pc := 20) cx flX12_113 (by assumption) gf6 dX12_takes_20 ?_
          refine v_iload_n (pc := 23) cx rfl ga3 dX12_takes_23 ?_
          refine v_iconst (pc := 24) cx dX12_takes_24 ?_
          refine v_iadd (pc := 25) cx dX12_takes_25 ?_
          refine v_icmp_ge (pc := 26) cx 81 dX12_takes_26 rfl (by omega) (fun c26 => ?_) (fun c26 => ?_)
          · exact fin 4 E' (by omega) h0 hF
          · omega
      · have e : dgs tx (4 - i) (p + i) = if 48 ≤ chr tx (p + i) ∧ chr tx (p + i) ≤ 57 then dgs tx (4 - (i + 1)) (p + (i + 1)) + 1 else 0 := by
          rw [show 4 - i = (4 - (i + 1)) + 1 by omega]
          rfl
        refine v_aload_n (pc := 8) cx rfl ga0 dX12_takes_8 ?_
        refine v_getfield (pc := 9) cx flX12_113 (by assumption) gf6 dX12_takes_9 ?_
        refine v_aload_n (pc := 12) cx rfl ga0 dX12_takes_12 ?_
        refine v_getfield (pc := 13) cx flX12_91 (by assumption) gf5 dX12_takes_13 ?_
        refine v_icmp_ge (pc := 16) cx 81 dX12_takes_16 rfl (by omega) (fun c16 => ?_) (fun c16 => ?_)
        · have hco : chr tx (p + i) = 0 := chr_out (by omega)
          rw [if_neg (by omega)] at e
          exact fin i E' (by omega) h0 hF
        · refine v_aload_n (pc := 19) cx rfl ga0 dX12_takes_19 ?_
          refine v_getfield (pc := 20) cx flX12_113 (by assumption) gf6 dX12_takes_20 ?_
          refine v_iload_n (pc := 23) cx rfl ga3 dX12_takes_23 ?_
          refine v_iconst (pc := 24) cx dX12_takes_24 ?_
          refine v_iadd (pc := 25) cx dX12_takes_25 ?_
          refine v_icmp_ge (pc := 26) cx 81 dX12_takes_26 rfl (by omega) (fun c26 => ?_) (fun c26 => ?_)
          · omega
          · have hcv := hC (p + i) (by omega)
            have hb := chr_bd hx (p + i)
            refine v_aload_n (pc := 29) cx rfl ga0 dX12_takes_29 ?_
            refine v_getfield (pc := 30) cx flX12_19 (by assumption) gf4 dX12_takes_30 ?_
            refine v_aload_n (pc := 33) cx rfl ga0 dX12_takes_33 ?_
            refine v_getfield (pc := 34) cx flX12_113 (by assumption) gf6 dX12_takes_34 ?_
            refine v_caload (pc := 37) cx (p + i) (by assumption) (by omega) dX12_takes_37 ?_
            refine v_bipush (pc := 38) cx (by decide) dX12_takes_38 ?_
            refine v_bipush (pc := 40) cx (by decide) dX12_takes_40 ?_
            refine v_callSI (pc := 42) cx hR (m_in _ _ _ _ (by omega)) mlX12_33 (by decide) rfl (Nat.le_of_ble_eq_true rfl) ⟨Nat.le_refl _, Nat.le_refl _⟩ dX12_takes_42 (fun v1 E1 hP => ?_)
            obtain ⟨hv, rfl⟩ := hP
            refine v_if_eq (pc := 45) cx 81 dX12_takes_45 rfl (by omega) (fun c45 => ?_) (fun c45 => ?_)
            · rw [if_neg (by omega)] at e
              exact fin i E1 (by omega) h0 hF
            · rw [if_pos (by omega)] at e
              refine v_bipush (pc := 48) cx (by decide) dX12_takes_48 ?_
              refine v_iload (pc := 50) cx ga4 dX12_takes_50 ?_
              refine v_imul (pc := 52) cx dX12_takes_52 ?_
              refine v_aload_n (pc := 53) cx rfl ga0 dX12_takes_53 ?_
              refine v_getfield (pc := 54) cx flX12_19 (by assumption) gf4 dX12_takes_54 ?_
              refine v_aload_n (pc := 57) cx rfl ga0 dX12_takes_57 ?_
              refine v_getfield (pc := 58) cx flX12_113 (by assumption) gf6 dX12_takes_58 ?_
              refine v_caload (pc := 61) cx (p + i) (by assumption) (by omega) dX12_takes_61 ?_
              refine v_iadd (pc := 62) cx dX12_takes_62 ?_
              refine v_bipush (pc := 63) cx (by decide) dX12_takes_63 ?_
              refine v_isub (pc := 65) cx dX12_takes_65 ?_
              refine v_istore (pc := 66) cx (sa4 rfl) dX12_takes_66 ?_
              refine v_aload_n (pc := 68) cx rfl ga0 dX12_takes_68 ?_
              refine v_dup (pc := 69) cx rfl dX12_takes_69 ?_
              refine v_getfield (pc := 70) cx flX12_113 (by assumption) gf6 dX12_takes_70 ?_
              refine v_iconst (pc := 73) cx dX12_takes_73 ?_
              refine v_iadd (pc := 74) cx dX12_takes_74 ?_
              refine v_putfield (pc := 75) cx fpX12_113 h0 ⟨rfl, rfl⟩ pf6 dX12_takes_75 (fun E75 hE75 hF75 => ?_)
              replace h0 := hE75
              refine v_goto (pc := 78) cx 8 dX12_takes_78 rfl ?_
              rw [show 10 * nval tx p i + c (p + i) - 48 = nval tx p (i + 1) by simp only [nval]; omega]
              exact ih (i + 1) _ (by omega) (by omega) (by omega) h0 (fun j h1 => (hF75 j h1).trans (hF j h1))
  refine v_aload_n (pc := 0) cx rfl ga0 dX12_takes_0 ?_
  refine v_getfield (pc := 1) cx flX12_113 (by assumption) gf6 dX12_takes_1 ?_
  refine v_istore_n (pc := 4) cx rfl (sa3 rfl) dX12_takes_4 ?_
  refine v_iconst (pc := 5) cx dX12_takes_5 ?_
  refine v_istore (pc := 6) cx (sa4 rfl) dX12_takes_6 ?_
  exact loop 5 0 E (by omega) (by omega) (by simp) h0 (fun _ _ => rfl)
set_option maxRecDepth 100000 in
set_option maxHeartbeats 4000000 in
theorem m_readsShower (lc : Launch) (G : Gc) (E : Wd) (nh : Nat) {n p : Nat} {st re sm tick told : Int} {d c rd : Nat → Int} {tx : List Int} (h0 : E 124 = some (oMd G st (tx.length : Int) (p : Int) re (n : Int) sm)) (hd : E 125 = some (AI G 244 d)) (hc : E 128 = some (AC G 100 c)) (hrd : E 129 = some (AI G 48 rd)) (hC : ∀ j, j < tx.length → c j = chr tx j) (hx : okTx tx) (hp : p < 400) (h26 : d 26 = told) (h00 : d 0 = tick) (htk : 0 ≤ tick ∧ tick ≤ 5000) (hto : 0 ≤ told ∧ told + n ≤ 12) : CI lc G 2 yX12_readsShower cX12_readsShower 3 .boolean [.ref (gb G + 124)] E nh 0 0 (fun v E' => ((v = 1 ∧ shR tx tick told n p = 0 ∧ E' 124 = some (oMd G st (tx.length : Int) (shN tx p : Int) 0 ((n : Int) + 1) sm) ∧ ∃ rd', E' 129 = some (AI G 48 rd') ∧ rd' (3 * n) = nv tx p ∧ rd' (3 * n + 1) = nv tx (nx tx p) ∧ rd' (3 * n + 2) = nv tx (nx tx (nx tx p)) ∧ ∀ j, j < 3 * n → rd' j = rd j) ∨ (v = 0 ∧ shR tx tick told n p ≠ 0 ∧ (∃ at' rs', E' 124 = some (oMd G st (tx.length : Int) at' (shR tx tick told n p) rs' sm)) ∧ ∃ rd', E' 129 = some (AI G 48 rd'))) ∧ ∀ j, j ≠ 124 → j ≠ 129 → E' j = E j) := by
  refine CI.mk (by decide +kernel) rfl (Nat.le_of_ble_eq_true rfl) ?_
  intro X hG hL cx hR hI
  subst hG; subst hL
  show V X E (nh, 0, 0) 0 [some (.ref (gb (fG X) + 124)), none, none] []
  have n1 := nx_bd tx p
  have n2 := nx_bd tx (nx tx p)
  have n3 := nx_bd tx (nx tx (nx tx p))
  have v1b := nv_bd tx p
  have v2b := nv_bd tx (nx tx p)
  have v3b := nv_bd tx (nx tx (nx tx p))
  have hsb := shR_bd (tx := tx) (tick := tick) (told := told) (sz := n) (p := p)
  have hsr : shR tx tick told n p = if tkRe tx p 43 ≠ 0 then tkRe tx p 43 else if tkRe tx (nx tx p) 42 ≠ 0 then tkRe tx (nx tx p) 42 else if tkRe tx (nx tx (nx tx p)) 59 ≠ 0 then tkRe tx (nx tx (nx tx p)) 59 else if 5000 < tick + nv tx p ∨ ¬ (1 ≤ nv tx (nx tx p) ∧ nv tx (nx tx p) ≤ 500) ∨ ¬ (1 ≤ nv tx (nx tx (nx tx p)) ∧ nv tx (nx tx (nx tx p)) ≤ 200) then 3 else if 12 ≤ told + n then 4 else 0 := rfl
  have ph41 : ∀ (E' : Wd) (k : Int) (at' : Int) (rd' : Nat → Int), shR tx tick told n p ≠ 0 → E' 124 = some (oMd (fG X) st (tx.length : Int) at' (shR tx tick told n p) (n : Int) sm) → E' 129 = some (AI (fG X) 48 rd') → (∀ j, j ≠ 124 → j ≠ 129 → E' j = E j) → V X E' (nh, 0, 0) 41 [some (.ref (gb (fG X) + 124)), some (.int (iI k)), none] [] := by
    intro E' k at' rd' hne h0 hrd hF
    refine v_iconst (pc := 41) cx dX12_readsShower_41 ?_
    refine v_ireturn (pc := 42) cx hI rfl ?_ dX12_readsShower_42
    exact ⟨Or.inr ⟨rfl, hne, ⟨_, _, h0⟩, ⟨_, hrd⟩⟩, hF⟩
  refine v_iconst (pc := 0) cx dX12_readsShower_0 ?_
  refine v_aload_n (pc := 1) cx rfl ga0 dX12_readsShower_1 ?_
  refine v_getfield (pc := 2) cx flX12_119 (by assumption) gf9 dX12_readsShower_2 ?_
  refine v_imul (pc := 5) cx dX12_readsShower_5 ?_
  refine v_istore_n (pc := 6) cx rfl (sa1 rfl) dX12_readsShower_6 ?_
  refine v_aload_n (pc := 7) cx rfl ga0 dX12_readsShower_7 ?_
  refine v_iload_n (pc := 8) cx rfl ga1 dX12_readsShower_8 ?_
  refine v_bipush (pc := 9) cx (by decide) dX12_readsShower_9 ?_
  rw [show (3 : Int) * (n : Int) = ((3 * n : Nat) : Int) by omega]
  refine v_callVI (pc := 11) cx hR (m_takes _ _ _ _ h0 hc hrd hC hx (by omega) (by omega) (by omega)) mlX12_122 (by decide) (by assumption) rfl rfl rfl (Nat.le_of_ble_eq_true rfl) ⟨Nat.le_refl _, Nat.le_refl _⟩ dX12_readsShower_11 (fun r1 E1 hP => ?_)
  obtain ⟨w1, h01, hrd1, hF1⟩ := hP
  have hc1 := (hF1 128 (by omega) (by omega)).trans hc
  refine v_if_eq (pc := 14) cx 41 dX12_readsShower_14 rfl (by omega) (fun c14 => ?_) (fun c14 => ?_)
  · rw [if_pos (by omega)] at hsr
    exact ph41 E1 _ _ _ (by omega) (by rw [hsr]; exact h01) hrd1 hF1
  · rw [if_neg (by omega)] at hsr
    refine v_aload_n (pc := 17) cx rfl ga0 dX12_readsShower_17 ?_
    refine v_iload_n (pc := 18) cx rfl ga1 dX12_readsShower_18 ?_
    refine v_iconst (pc := 19) cx dX12_readsShower_19 ?_
    refine v_iadd (pc := 20) cx dX12_readsShower_20 ?_
    refine v_bipush (pc := 21) cx (by decide) dX12_readsShower_21 ?_
    rw [show ((3 * n : Nat) : Int) + 1 = ((3 * n + 1 : Nat) : Int) by omega]
    refine v_callVI (pc := 23) cx hR (m_takes _ _ _ _ h01 hc1 hrd1 hC hx (by omega) (by omega) (by omega)) mlX12_122 (by decide) (by assumption) rfl rfl rfl (Nat.le_of_ble_eq_true rfl) ⟨Nat.le_refl _, Nat.le_refl _⟩ dX12_readsShower_23 (fun r2 E2 hP => ?_)
    obtain ⟨w2, h02, hrd2, hF2⟩ := hP
    have hc2 := (hF2 128 (by omega) (by omega)).trans hc1
    have hF2' : ∀ j, j ≠ 124 → j ≠ 129 → E2 j = E j := fun j g1 g2 => (hF2 j g1 g2).trans (hF1 j g1 g2)
    refine v_if_eq (pc := 26) cx 41 dX12_readsShower_26 rfl (by omega) (fun c26 => ?_) (fun c26 => ?_)
    · rw [if_pos (by omega)] at hsr
      exact ph41 E2 _ _ _ (by omega) (by rw [hsr]; exact h02) hrd2 hF2'
    · rw [if_neg (by omega)] at hsr
      refine v_aload_n (pc := 29) cx rfl ga0 dX12_readsShower_29 ?_
      refine v_iload_n (pc := 30) cx rfl ga1 dX12_readsShower_30 ?_
      refine v_iconst (pc := 31) cx dX12_readsShower_31 ?_
      refine v_iadd (pc := 32) cx dX12_readsShower_32 ?_
      refine v_bipush (pc := 33) cx (by decide) dX12_readsShower_33 ?_
      rw [show ((3 * n : Nat) : Int) + 2 = ((3 * n + 2 : Nat) : Int) by omega]
      refine v_callVI (pc := 35) cx hR (m_takes _ _ _ _ h02 hc2 hrd2 hC hx (by omega) (by omega) (by omega)) mlX12_122 (by decide) (by assumption) rfl rfl rfl (Nat.le_of_ble_eq_true rfl) ⟨Nat.le_refl _, Nat.le_refl _⟩ dX12_readsShower_35 (fun r3 E3 hP => ?_)
      obtain ⟨w3, h03, hrd3, hF3⟩ := hP
      have hF3' : ∀ j, j ≠ 124 → j ≠ 129 → E3 j = E j := fun j g1 g2 => (hF3 j g1 g2).trans (hF2' j g1 g2)
      have hd3 := (hF3' 125 (by omega) (by omega)).trans hd
      refine v_if_ne (pc := 38) cx 43 dX12_readsShower_38 rfl (by omega) (fun c38 => ?_) (fun c38 => ?_)
      · rw [if_neg (by omega)] at hsr
        obtain ⟨rd', hrd', u1, u2, u3, u4⟩ : ∃ rd', E3 129 = some (AI (fG X) 48 rd') ∧ rd' (3 * n) = nv tx p ∧ rd' (3 * n + 1) = nv tx (nx tx p) ∧ rd' (3 * n + 2) = nv tx (nx tx (nx tx p)) ∧ ∀ j, j < 3 * n → rd' j = rd j :=
          ⟨_, hrd3, by rw [upI_n (by omega), upI_n (by omega), upI_s], by rw [upI_n (by omega), upI_s], by rw [upI_s], fun j hj => by rw [upI_n (by omega), upI_n (by omega), upI_n (by omega)]⟩
        have ph135 : ∀ (re' : Int) (l2 : Option Value), re' = shR tx tick told n p → V X E3 (nh, 0, 0) 135 [some (.ref (gb (fG X) + 124)), some (.int (iI ((3 * n : Nat) : Int))), l2] [.int (iI re'), .ref (gb (fG X) + 124)] := by
          intro re' l2 hre
          subst hre
          have h0 := h03
          refine v_putfield (pc := 135) cx fpX12_116 h0 ⟨rfl, rfl⟩ pf7 dX12_readsShower_135 (fun E135 hE135 hF135 => ?_)
          replace h0 := hE135
          replace hrd' := (hF135 _ (by omega)).trans hrd'
          refine v_aload_n (pc := 138) cx rfl ga0 dX12_readsShower_138 ?_
          refine v_dup (pc := 139) cx rfl dX12_readsShower_139 ?_
          refine v_getfield (pc := 140) cx flX12_119 (by assumption) gf9 dX12_readsShower_140 ?_
          refine v_iconst (pc := 143) cx dX12_readsShower_143 ?_
          refine v_iadd (pc := 144) cx dX12_readsShower_144 ?_
          refine v_putfield (pc := 145) cx fpX12_119 h0 ⟨rfl, rfl⟩ pf9 dX12_readsShower_145 (fun E145 hE145 hF145 => ?_)
          replace h0 := hE145
          replace hrd' := (hF145 _ (by omega)).trans hrd'
          refine v_aload_n (pc := 148) cx rfl ga0 dX12_readsShower_148 ?_
          refine v_getfield (pc := 149) cx flX12_116 (by assumption) gf7 dX12_readsShower_149 ?_
          refine v_if_ne (pc := 152) cx 159 dX12_readsShower_152 rfl (by omega) (fun c152 => ?_) (fun c152 => ?_)
          · refine v_iconst (pc := 159) cx dX12_readsShower_159 ?_
            refine v_ireturn (pc := 160) cx hI rfl ?_ dX12_readsShower_160
            exact ⟨Or.inr ⟨rfl, by assumption, ⟨_, _, h0⟩, ⟨_, hrd'⟩⟩, fun j g1 g2 => (hF145 j g1).trans ((hF135 j g1).trans (hF3' j g1 g2))⟩
          · have hz : shR tx tick told n p = 0 := by assumption
            rw [hz] at h0
            refine v_iconst (pc := 155) cx dX12_readsShower_155 ?_
            refine v_goto (pc := 156) cx 160 dX12_readsShower_156 rfl ?_
            refine v_ireturn (pc := 160) cx hI rfl ?_ dX12_readsShower_160
            exact ⟨Or.inl ⟨rfl, hz, h0, rd', hrd', u1, u2, u3, u4⟩, fun j g1 g2 => (hF145 j g1).trans ((hF135 j g1).trans (hF3' j g1 g2))⟩
        have ph103 : ∀ is : Int, ((is = 0 ∧ (5000 < tick + nv tx p ∨ ¬ (1 ≤ nv tx (nx tx p) ∧ nv tx (nx tx p) ≤ 500) ∨ ¬ (1 ≤ nv tx (nx tx (nx tx p)) ∧ nv tx (nx tx (nx tx p)) ≤ 200))) ∨ (is = 1 ∧ ¬ (5000 < tick + nv tx p ∨ ¬ (1 ≤ nv tx (nx tx p) ∧ nv tx (nx tx p) ≤ 500) ∨ ¬ (1 ≤ nv tx (nx tx (nx tx p)) ∧ nv tx (nx tx (nx tx p)) ≤ 200)))) → V X E3 (nh, 0, 0) 103 [some (.ref (gb (fG X) + 124)), some (.int (iI ((3 * n : Nat) : Int))), none] [.int (iI is)] := by
          intro is his
          refine v_istore_n (pc := 103) cx rfl (sa2 rfl) dX12_readsShower_103 ?_
          refine v_aload_n (pc := 104) cx rfl ga0 dX12_readsShower_104 ?_
          refine v_iload_n (pc := 105) cx rfl ga2 dX12_readsShower_105 ?_
          refine v_if_ne (pc := 106) cx 113 dX12_readsShower_106 rfl (by omega) (fun c106 => ?_) (fun c106 => ?_)
          · have hq : ¬ (5000 < tick + nv tx p ∨ ¬ (1 ≤ nv tx (nx tx p) ∧ nv tx (nx tx p) ≤ 500) ∨ ¬ (1 ≤ nv tx (nx tx (nx tx p)) ∧ nv tx (nx tx (nx tx p)) ≤ 200)) := by
              rcases his with ⟨g1, -⟩ | ⟨-, g2⟩
              · omega
              · exact g2
            rw [if_neg hq] at hsr
            refine v_aload_n (pc := 113) cx rfl ga0 dX12_readsShower_113 ?_
            refine v_getfield (pc := 114) cx flX12_7 (by assumption) gf0 dX12_readsShower_114 ?_
            refine v_bipush (pc := 117) cx (by decide) dX12_readsShower_117 ?_
            refine v_iaload (pc := 119) cx (26) (by assumption) (by omega) dX12_readsShower_119 ?_
            refine v_aload_n (pc := 120) cx rfl ga0 dX12_readsShower_120 ?_
            refine v_getfield (pc := 121) cx flX12_119 (by assumption) gf9 dX12_readsShower_121 ?_
            refine v_iadd (pc := 124) cx dX12_readsShower_124 ?_
            refine v_bipush (pc := 125) cx (by decide) dX12_readsShower_125 ?_
            refine v_icmp_ne (pc := 127) cx 134 dX12_readsShower_127 rfl (by omega) (fun c127 => ?_) (fun c127 => ?_)
            · refine v_iconst (pc := 134) cx dX12_readsShower_134 ?_
              exact ph135 0 _ (by rw [hsr, if_neg (by omega)])
            · refine v_iconst (pc := 130) cx dX12_readsShower_130 ?_
              refine v_goto (pc := 131) cx 135 dX12_readsShower_131 rfl ?_
              exact ph135 4 _ (by rw [hsr, if_pos (by omega)])
          · have hq : 5000 < tick + nv tx p ∨ ¬ (1 ≤ nv tx (nx tx p) ∧ nv tx (nx tx p) ≤ 500) ∨ ¬ (1 ≤ nv tx (nx tx (nx tx p)) ∧ nv tx (nx tx (nx tx p)) ≤ 200) := by
              rcases his with ⟨-, g2⟩ | ⟨g1, -⟩
              · exact g2
              · omega
            rw [if_pos hq] at hsr
            refine v_iconst (pc := 109) cx dX12_readsShower_109 ?_
            refine v_goto (pc := 110) cx 135 dX12_readsShower_110 rfl ?_
            exact ph135 3 _ hsr.symm
        refine v_aload_n (pc := 43) cx rfl ga0 dX12_readsShower_43 ?_
        refine v_getfield (pc := 44) cx flX12_7 (by assumption) gf0 dX12_readsShower_44 ?_
        refine v_iconst (pc := 47) cx dX12_readsShower_47 ?_
        refine v_iaload (pc := 48) cx (0) (by assumption) (by omega) dX12_readsShower_48 ?_
        refine v_aload_n (pc := 49) cx rfl ga0 dX12_readsShower_49 ?_
        refine v_getfield (pc := 50) cx flX12_23 (by assumption) gf8 dX12_readsShower_50 ?_
        refine v_iload_n (pc := 53) cx rfl ga1 dX12_readsShower_53 ?_
        refine v_iaload (pc := 54) cx (3 * n) (by assumption) (by omega) dX12_readsShower_54 ?_
        refine v_iadd (pc := 55) cx dX12_readsShower_55 ?_
        refine v_sipush (pc := 56) cx (by decide) dX12_readsShower_56 ?_
        refine v_icmp_gt (pc := 59) cx 102 dX12_readsShower_59 rfl (by omega) (fun c59 => ?_) (fun c59 => ?_)
        · refine v_iconst (pc := 102) cx dX12_readsShower_102 ?_
          exact ph103 0 (Or.inl ⟨rfl, Or.inl (by omega)⟩)
        · refine v_aload_n (pc := 62) cx rfl ga0 dX12_readsShower_62 ?_
          refine v_getfield (pc := 63) cx flX12_23 (by assumption) gf8 dX12_readsShower_63 ?_
          refine v_iload_n (pc := 66) cx rfl ga1 dX12_readsShower_66 ?_
          refine v_iconst (pc := 67) cx dX12_readsShower_67 ?_
          refine v_iadd (pc := 68) cx dX12_readsShower_68 ?_
          refine v_iaload (pc := 69) cx (3 * n + 1) (by assumption) (by omega) dX12_readsShower_69 ?_
          refine v_iconst (pc := 70) cx dX12_readsShower_70 ?_
          refine v_sipush (pc := 71) cx (by decide) dX12_readsShower_71 ?_
          refine v_callSI (pc := 74) cx hR (m_in _ _ _ _ (by omega)) mlX12_33 (by decide) rfl (Nat.le_of_ble_eq_true rfl) ⟨Nat.le_refl _, Nat.le_refl _⟩ dX12_readsShower_74 (fun r4 E4 hP => ?_)
          obtain ⟨w4, rfl⟩ := hP
          refine v_if_eq (pc := 77) cx 102 dX12_readsShower_77 rfl (by omega) (fun c77 => ?_) (fun c77 => ?_)
          · refine v_iconst (pc := 102) cx dX12_readsShower_102 ?_
            exact ph103 0 (Or.inl ⟨rfl, Or.inr (Or.inl (by omega))⟩)
          · refine v_aload_n (pc := 80) cx rfl ga0 dX12_readsShower_80 ?_
            refine v_getfield (pc := 81) cx flX12_23 (by assumption) gf8 dX12_readsShower_81 ?_
            refine v_iload_n (pc := 84) cx rfl ga1 dX12_readsShower_84 ?_
            refine v_iconst (pc := 85) cx dX12_readsShower_85 ?_
            refine v_iadd (pc := 86) cx dX12_readsShower_86 ?_
            refine v_iaload (pc := 87) cx (3 * n + 2) (by assumption) (by omega) dX12_readsShower_87 ?_
            refine v_iconst (pc := 88) cx dX12_readsShower_88 ?_
            refine v_sipush (pc := 89) cx (by decide) dX12_readsShower_89 ?_
            refine v_callSI (pc := 92) cx hR (m_in _ _ _ _ (by omega)) mlX12_33 (by decide) rfl (Nat.le_of_ble_eq_true rfl) ⟨Nat.le_refl _, Nat.le_refl _⟩ dX12_readsShower_92 (fun r5 E5 hP => ?_)
            obtain ⟨w5, rfl⟩ := hP
            refine v_if_eq (pc := 95) cx 102 dX12_readsShower_95 rfl (by omega) (fun c95 => ?_) (fun c95 => ?_)
            · refine v_iconst (pc := 102) cx dX12_readsShower_102 ?_
              exact ph103 0 (Or.inl ⟨rfl, Or.inr (Or.inr (by omega))⟩)
            · refine v_iconst (pc := 98) cx dX12_readsShower_98 ?_
              refine v_goto (pc := 99) cx 103 dX12_readsShower_99 rfl ?_
              exact ph103 1 (Or.inr ⟨rfl, by omega⟩)
      · rw [if_pos (by omega)] at hsr
        exact ph41 E3 _ _ _ (by omega) (by rw [hsr]; exact h03) hrd3 hF3'
set_option maxRecDepth 100000 in
set_option maxHeartbeats 4000000 in
theorem m_faulty (lc : Launch) (G : Gc) (E : Wd) (nh : Nat) {st at0 re rs sm tick : Int} {d c rd : Nat → Int} {tx : List Int} {m : Nat} (h0 : E 124 = some (oMd G st (tx.length : Int) at0 re rs sm)) (hd : E 125 = some (AI G 244 d)) (hc : E 128 = some (AC G 100 c)) (hrd : E 129 = some (AI G 48 rd)) (hC : ∀ j, j < tx.length → c j = chr tx j) (hx : okTx tx) (h26 : d 26 = (m : Int)) (h00 : d 0 = tick) (htk : 0 ≤ tick ∧ tick ≤ 5000) (hto : m ≤ 12) : CI lc G 3 yX12_faulty cX12_faulty 2 .int [.ref (gb G + 124)] E nh 0 0 (fun v E' => ((v = -4 ∧ (prs tx tick (m : Int) 13 [] 0).2.1 = 0 ∧ ∃ at' re' rd', E' 124 = some (oMd G st (tx.length : Int) at' re' ((prs tx tick (m : Int) 13 [] 0).2.2.length : Int) sm) ∧ E' 129 = some (AI G 48 rd') ∧ ∀ (j : Nat) (hj : j < (prs tx tick (m : Int) 13 [] 0).2.2.length), (tick + rd' (3 * j), rd' (3 * j + 1), rd' (3 * j + 2)) = (prs tx tick (m : Int) 13 [] 0).2.2[j]) ∨ (v = ((prs tx tick (m : Int) 13 [] 0).1 : Int) ∧ (prs tx tick (m : Int) 13 [] 0).1 < 100 ∧ (prs tx tick (m : Int) 13 [] 0).2.1 ≠ 0 ∧ ∃ at' rs' rd', E' 124 = some (oMd G st (tx.length : Int) at' (prs tx tick (m : Int) 13 [] 0).2.1 rs' sm) ∧ E' 129 = some (AI G 48 rd'))) ∧ ∀ j, j ≠ 124 → j ≠ 129 → E' j = E j) := by
  refine CI.mk (by decide +kernel) rfl (Nat.le_of_ble_eq_true rfl) ?_
  intro X hG hL cx hR hI
  subst hG; subst hL
  show V X E (nh, 0, 0) 0 [some (.ref (gb (fG X) + 124)), none] []
  have h100 := hx.1
  have loop : ∀ (q : Nat) (acc : List (Int × Int × Int)) (p : Nat) (re' : Int) (rd' : Nat → Int) (E' : Wd) (l1 : Option Value), m + acc.length ≤ 12 → 13 - acc.length < q → p < 300 → (∀ (j : Nat) (hj : j < acc.length), (tick + rd' (3 * j), rd' (3 * j + 1), rd' (3 * j + 2)) = acc[j]) → prs tx tick (m : Int) 13 [] 0 = prs tx tick (m : Int) (13 - acc.length) acc p → E' 124 = some (oMd (fG X) st (tx.length : Int) (p : Int) re' (acc.length : Int) sm) → E' 129 = some (AI (fG X) 48 rd') → (∀ j, j ≠ 124 → j ≠ 129 → E' j = E j) → V X E' (nh, 0, 0) 10 [some (.ref (gb (fG X) + 124)), l1] [] := by
    intro q
    induction q with
    | zero => intro acc p re' rd' E' l1 h1 h2; omega
    | succ q ih =>
      intro acc p re' rd' E' l1 hacc hq hp hin hpr h0 hrd hF
      have hd' := (hF 125 (by omega) (by omega)).trans hd
      have hc' := (hF 128 (by omega) (by omega)).trans hc
      have hst : prs tx tick (m : Int) (13 - acc.length) acc p = if p < tx.length then (if shR tx tick (m : Int) acc.length p = 0 then prs tx tick (m : Int) (13 - (acc.length + 1)) (acc ++ [shV tx tick p]) (shN tx p) else (p, shR tx tick (m : Int) acc.length p, acc)) else (p, 0, acc) := by
        rw [show 13 - acc.length = (13 - (acc.length + 1)) + 1 by omega]
        rfl
      refine v_aload_n (pc := 10) cx rfl ga0 dX12_faulty_10 ?_
      refine v_getfield (pc := 11) cx flX12_113 (by assumption) gf6 dX12_faulty_11 ?_
      refine v_aload_n (pc := 14) cx rfl ga0 dX12_faulty_14 ?_
      refine v_getfield (pc := 15) cx flX12_91 (by assumption) gf5 dX12_faulty_15 ?_
      refine v_icmp_ge (pc := 18) cx 38 dX12_faulty_18 rfl (by omega) (fun c18 => ?_) (fun c18 => ?_)
      · rw [if_neg (by omega)] at hst
        rw [hpr, hst] at hI
        refine v_bipush (pc := 38) cx (by decide) dX12_faulty_38 ?_
        refine v_ireturn (pc := 40) cx hI rfl ?_ dX12_faulty_40
        exact ⟨Or.inl ⟨rfl, rfl, _, _, rd', h0, hrd, hin⟩, hF⟩
      · rw [if_pos (by omega)] at hst
        refine v_aload_n (pc := 21) cx rfl ga0 dX12_faulty_21 ?_
        refine v_getfield (pc := 22) cx flX12_113 (by assumption) gf6 dX12_faulty_22 ?_
        refine v_istore_n (pc := 25) cx rfl (sa1 rfl) dX12_faulty_25 ?_
        refine v_aload_n (pc := 26) cx rfl ga0 dX12_faulty_26 ?_
        refine v_callVI (pc := 27) cx hR (m_readsShower _ _ _ _ h0 hd' hc' hrd hC hx (by omega) h26 h00 htk (by omega)) mlX12_126 (by decide) (by assumption) rfl rfl rfl (Nat.le_of_ble_eq_true rfl) ⟨Nat.le_refl _, Nat.le_refl _⟩ dX12_faulty_27 (fun r1 E1 hP => ?_)
        obtain ⟨hv, hF1⟩ := hP
        rcases hv with ⟨rfl, hz, h01, rd2, hrd1, u1, u2, u3, u4⟩ | ⟨rfl, hz, ⟨at', rs', h01⟩, rd2, hrd1⟩
        · refine v_if_ne (pc := 30) cx 35 dX12_faulty_30 rfl (by omega) (fun c30 => ?_) (fun c30 => ?_)
          · refine v_goto (pc := 35) cx 10 dX12_faulty_35 rfl ?_
            rw [if_pos hz] at hst
            have n1 := nx_bd tx p
            have n2 := nx_bd tx (nx tx p)
            have n3 := nx_bd tx (nx tx (nx tx p))
            have hlt : acc.length + m < 12 := by
              rcases Nat.lt_or_ge (acc.length + m) 12 with g | g
              · exact g
              · exfalso
                have hsr : shR tx tick (m : Int) acc.length p = if tkRe tx p 43 ≠ 0 then tkRe tx p 43 else if tkRe tx (nx tx p) 42 ≠ 0 then tkRe tx (nx tx p) 42 else if tkRe tx (nx tx (nx tx p)) 59 ≠ 0 then tkRe tx (nx tx (nx tx p)) 59 else if 5000 < tick + nv tx p ∨ ¬ (1 ≤ nv tx (nx tx p) ∧ nv tx (nx tx p) ≤ 500) ∨ ¬ (1 ≤ nv tx (nx tx (nx tx p)) ∧ nv tx (nx tx (nx tx p)) ≤ 200) then 3 else if 12 ≤ (m : Int) + acc.length then 4 else 0 := rfl
                rw [hz] at hsr
                split at hsr
                · omega
                · split at hsr
                  · omega
                  · split at hsr
                    · omega
                    · split at hsr
                      · omega
                      · rw [if_pos (by omega)] at hsr
                        omega
            refine ih (acc ++ [shV tx tick p]) (shN tx p) 0 rd2 E1 _ (by simp only [List.length_append, List.length_singleton]; omega) (by simp only [List.length_append, List.length_singleton]; omega) (by unfold shN; omega) (fun j hj => ?_) (by rw [hpr, hst]; simp only [List.length_append, List.length_singleton]) (by simp only [List.length_append, List.length_singleton]; exact h01) hrd1 (fun j g1 g2 => (hF1 j g1 g2).trans (hF j g1 g2))
            simp only [List.length_append, List.length_singleton] at hj
            by_cases e : j = acc.length
            · subst e
              rw [List.getElem_append_right (Nat.le_refl _), u1, u2, u3]
              simp [shV]
            · rw [List.getElem_append_left (by omega), u4 _ (by omega), u4 _ (by omega), u4 _ (by omega)]
              exact hin j (by omega)
          · omega
        · rw [if_neg hz] at hst
          rw [hpr, hst] at hI
          refine v_if_ne (pc := 30) cx 35 dX12_faulty_30 rfl (by omega) (fun c30 => ?_) (fun c30 => ?_)
          · omega
          · refine v_iload_n (pc := 33) cx rfl ga1 dX12_faulty_33 ?_
            refine v_ireturn (pc := 34) cx hI rfl ?_ dX12_faulty_34
            exact ⟨Or.inr ⟨rfl, (show p < 100 by omega), hz, _, _, rd2, h01, hrd1⟩, fun j g1 g2 => (hF1 j g1 g2).trans (hF j g1 g2)⟩
  refine v_aload_n (pc := 0) cx rfl ga0 dX12_faulty_0 ?_
  refine v_iconst (pc := 1) cx dX12_faulty_1 ?_
  refine v_putfield (pc := 2) cx fpX12_113 h0 ⟨rfl, rfl⟩ pf6 dX12_faulty_2 (fun E2 hE2 hF2 => ?_)
  replace h0 := hE2
  replace hrd := (hF2 _ (by omega)).trans hrd
  refine v_aload_n (pc := 5) cx rfl ga0 dX12_faulty_5 ?_
  refine v_iconst (pc := 6) cx dX12_faulty_6 ?_
  refine v_putfield (pc := 7) cx fpX12_119 h0 ⟨rfl, rfl⟩ pf9 dX12_faulty_7 (fun E7 hE7 hF7 => ?_)
  replace h0 := hE7
  replace hrd := (hF7 _ (by omega)).trans hrd
  exact loop 14 [] 0 _ rd _ _ (by simp only [List.length_nil]; omega) (by simp) (by omega) (fun j hj => by simp at hj) rfl h0 hrd (fun j g1 g2 => (hF7 j g1).trans (hF2 j g1))
set_option maxRecDepth 100000 in
set_option maxHeartbeats 4000000 in
theorem r_fault (lc : Launch) (G : Gc) (E : Wd) (nh : Nat) {Ψ : Fs} {w : Int} (h : isM G E Ψ) (hk : okX Ψ) (hw : -2147483648 ≤ w ∧ w < 2147483648) : CI lc G 5 yX12_fault cX12_fault 3 .int [.ref (gb G + 124), .int (iI w)] E nh 0 0 (fun v E' => v = vFau Ψ w ∧ isM G E' Ψ ∧ Out E E' 124 131) := by
  refine CI.mk (by decide +kernel) rfl (Nat.le_of_ble_eq_true rfl) ?_
  intro X hG hL cx hR hI
  subst hG; subst hL
  show V X E (nh, 0, 0) 0 [some (.ref (gb (fG X) + 124)), some (.int (iI w)), none] []
  obtain ⟨⟨s, sh, ge, mk⟩, hs, tx⟩ := Ψ
  obtain ⟨aa, re, rs, sm, d, w', a, c, rd, fi, hr, hD, hH, hC⟩ := id h
  obtain ⟨h0, hd, hw', ha, hc, hrd, hfi⟩ := id hr
  obtain ⟨q1, ⟨q2, q3⟩, ⟨q4, q5⟩, q6, q7⟩ := id hD
  obtain ⟨⟨ks, ke, k8, k9, k10⟩, ⟨kh, kh2⟩, kt⟩ := id hk
  simp only at h0 hr hD q1 q2 q3 q4 q5 q6 q7 hH hC ks ke k8 k9 k10 kh kh2 kt
  have g0 := q1 0 (by omega)
  have kt0 := ks.1
  have ksh : okSh (lst (ar d 27) (ar d 39) (ar d 51) sh.length) := by rw [q5]; exact k8
  have kge : okGe (lst2 (fun j => d (20 + 2 * j)) (fun j => d (21 + 2 * j)) ge.length) := by rw [q3]; exact k9
  have n8 := k8.1
  have n9 := k9.1
  have n10 := k10.1
  have hrk := rdX_ok hk
  refine v_iload_n (pc := 0) cx rfl ga1 dX12_fault_0 ?_
  refine v_iconst (pc := 1) cx dX12_fault_1 ?_
  refine v_iconst (pc := 2) cx dX12_fault_2 ?_
  refine v_callSI (pc := 3) cx hR (m_in _ _ _ _ (by omega)) mlX12_33 (by decide) rfl (Nat.le_of_ble_eq_true rfl) ⟨Nat.le_refl _, Nat.le_refl _⟩ dX12_fault_3 (fun r1 E1 hP => ?_)
  obtain ⟨w1, rfl⟩ := hP
  refine v_if_ne (pc := 6) cx 11 dX12_fault_6 rfl (by omega) (fun c6 => ?_) (fun c6 => ?_)
  · unfold vFau at hI
    rw [if_neg (by omega)] at hI
    refine v_aload_n (pc := 11) cx rfl ga0 dX12_fault_11 ?_
    refine v_callVI (pc := 12) cx hR (m_faulty _ _ _ _ h0 hd hc hrd hC kt q4 g0 kt0 n8) mlX12_129 (by decide) (by assumption) rfl rfl rfl (Nat.le_of_ble_eq_true rfl) ⟨Nat.le_refl _, Nat.le_refl _⟩ dX12_fault_12 (fun v2 E2 hP => ?_)
    have hre : prs tx (s 0) (sh.length : Int) 13 [] 0 = rdX ((s, sh, ge, mk), hs, tx) := rfl
    rw [hre] at hP
    obtain ⟨hv, hF⟩ := hP
    have fr2 : Out E1 E2 124 131 := fun j hj => hF j (by omega) (by omega)
    rcases hv with ⟨rfl, hz, at', re', rd', h02, hrd2, -⟩ | ⟨rfl, hb, hz, at', rs', rd', h02, hrd2⟩
    · rw [if_pos hz] at hI
      refine v_istore_n (pc := 15) cx rfl (sa2 rfl) dX12_fault_15 ?_
      refine v_iload_n (pc := 16) cx rfl ga2 dX12_fault_16 ?_
      refine v_bipush (pc := 17) cx (by decide) dX12_fault_17 ?_
      refine v_icmp_eq (pc := 19) cx 26 dX12_fault_19 rfl (by omega) (fun c19 => ?_) (fun c19 => ?_)
      · refine v_iload_n (pc := 26) cx rfl ga2 dX12_fault_26 ?_
        refine v_goto (pc := 27) cx 34 dX12_fault_27 rfl ?_
        refine v_ireturn (pc := 34) cx hI rfl ?_ dX12_fault_34
        exact ⟨rfl, ⟨at', re', _, sm, d, w', a, c, rd', fi, ⟨h02, (hF _ (by omega) (by omega)).trans hd, (hF _ (by omega) (by omega)).trans hw', (hF _ (by omega) (by omega)).trans ha, (hF _ (by omega) (by omega)).trans hc, hrd2, (hF _ (by omega) (by omega)).trans hfi⟩, hD, hH, hC⟩, fr2⟩
      · omega
    · rw [if_neg hz] at hI
      have hM2 : isM (fG X) E2 ((s, sh, ge, mk), hs, tx) := ⟨at', _, rs', sm, d, w', a, c, rd', fi, ⟨h02, (hF _ (by omega) (by omega)).trans hd, (hF _ (by omega) (by omega)).trans hw', (hF _ (by omega) (by omega)).trans ha, (hF _ (by omega) (by omega)).trans hc, hrd2, (hF _ (by omega) (by omega)).trans hfi⟩, hD, hH, hC⟩
      refine v_istore_n (pc := 15) cx rfl (sa2 rfl) dX12_fault_15 ?_
      refine v_iload_n (pc := 16) cx rfl ga2 dX12_fault_16 ?_
      refine v_bipush (pc := 17) cx (by decide) dX12_fault_17 ?_
      refine v_icmp_eq (pc := 19) cx 26 dX12_fault_19 rfl (by omega) (fun c19 => ?_) (fun c19 => ?_)
      · omega
      · refine v_iload_n (pc := 22) cx rfl ga1 dX12_fault_22 ?_
        refine v_if_ne (pc := 23) cx 30 dX12_fault_23 rfl (by omega) (fun c23 => ?_) (fun c23 => ?_)
        · refine v_aload_n (pc := 30) cx rfl ga0 dX12_fault_30 ?_
          refine v_getfield (pc := 31) cx flX12_116 (by assumption) gf7 dX12_fault_31 ?_
          refine v_ireturn (pc := 34) cx hI rfl ?_ dX12_fault_34
          rw [if_neg (by omega)]
          exact ⟨rfl, hM2, fr2⟩
        · refine v_iload_n (pc := 26) cx rfl ga2 dX12_fault_26 ?_
          refine v_goto (pc := 27) cx 34 dX12_fault_27 rfl ?_
          refine v_ireturn (pc := 34) cx hI rfl ?_ dX12_fault_34
          rw [if_pos (by omega)]
          exact ⟨rfl, hM2, fr2⟩
  · refine v_iconst (pc := 9) cx dX12_fault_9 ?_
    refine v_ireturn (pc := 10) cx hI rfl ?_ dX12_fault_10
    refine ⟨?_, h, fun _ _ => rfl⟩
    unfold vFau
    rw [if_pos (by omega)]
set_option maxRecDepth 100000 in
set_option maxHeartbeats 4000000 in
theorem r_lay (lc : Launch) (G : Gc) (E : Wd) (nh : Nat) {Ψ : Fs} (h : isM G E Ψ) (hk : okX Ψ) : CI lc G 5 yX12_lay cX12_lay 2 .int [.ref (gb G + 124)] E nh 0 0 (fun v E' => v = vLay Ψ ∧ isM G E' (sLay Ψ) ∧ Out E E' 124 131) := by
  refine CI.mk (by decide +kernel) rfl (Nat.le_of_ble_eq_true rfl) ?_
  intro X hG hL cx hR hI
  subst hG; subst hL
  show V X E (nh, 0, 0) 0 [some (.ref (gb (fG X) + 124)), none] []
  obtain ⟨⟨s, sh, ge, mk⟩, hs, tx⟩ := Ψ
  obtain ⟨aa, re, rs, sm, d, w', a, c, rd, fi, hr, hD, hH, hC⟩ := id h
  obtain ⟨h0, hd, hw', ha, hc, hrd, hfi⟩ := id hr
  obtain ⟨q1, ⟨q2, q3⟩, ⟨q4, q5⟩, q6, q7⟩ := id hD
  obtain ⟨⟨ks, ke, k8, k9, k10⟩, ⟨kh, kh2⟩, kt⟩ := id hk
  simp only at h0 hr hD q1 q2 q3 q4 q5 q6 q7 hH hC ks ke k8 k9 k10 kh kh2 kt
  have g0 := q1 0 (by omega)
  have kt0 := ks.1
  have ksh : okSh (lst (ar d 27) (ar d 39) (ar d 51) sh.length) := by rw [q5]; exact k8
  have kge : okGe (lst2 (fun j => d (20 + 2 * j)) (fun j => d (21 + 2 * j)) ge.length) := by rw [q3]; exact k9
  have n8 := k8.1
  have n9 := k9.1
  have n10 := k10.1
  have hrk := rdX_ok hk
  have hre : prs tx (s 0) (sh.length : Int) 13 [] 0 = rdX ((s, sh, ge, mk), hs, tx) := rfl
  unfold vLay sLay at hI
  refine v_aload_n (pc := 0) cx rfl ga0 dX12_lay_0 ?_
  refine v_callVI (pc := 1) cx hR (m_faulty _ _ _ _ h0 hd hc hrd hC kt q4 g0 kt0 n8) mlX12_129 (by decide) (by assumption) rfl rfl rfl (Nat.le_of_ble_eq_true rfl) ⟨Nat.le_refl _, Nat.le_refl _⟩ dX12_lay_1 (fun v2 E2 hP => ?_)
  rw [hre] at hP
  obtain ⟨hv, hF⟩ := hP
  have fr2 : Out E E2 124 131 := fun j hj => hF j (by omega) (by omega)
  rcases hv with ⟨rfl, hz, at', re', rd', h02, hrd2, hin⟩ | ⟨rfl, hb, hz, at', rs', rd', h02, hrd2⟩
  · rw [if_pos hz, if_pos hz] at hI
    have hr2 : rM (fG X) E2 (hs.length : Int) (tx.length : Int) at' re' ((rdX ((s, sh, ge, mk), hs, tx)).2.2.length : Int) sm d w' a c rd' fi := ⟨h02, (hF _ (by omega) (by omega)).trans hd, (hF _ (by omega) (by omega)).trans hw', (hF _ (by omega) (by omega)).trans ha, (hF _ (by omega) (by omega)).trans hc, hrd2, (hF _ (by omega) (by omega)).trans hfi⟩
    simp only at hrk
    generalize hA : (rdX ((s, sh, ge, mk), hs, tx)).2.2 = A at *
    refine v_bipush (pc := 4) cx (by decide) dX12_lay_4 ?_
    refine v_icmp_eq (pc := 6) cx 12 dX12_lay_6 rfl (by omega) (fun c6 => ?_) (fun c6 => ?_)
    · refine v_aload_n (pc := 12) cx rfl ga0 dX12_lay_12 ?_
      refine v_callVV (pc := 13) cx hR (m_records _ _ _ _ hr2.1 hr2.2.1 hr2.2.2.1 kh) mlX12_63 (by decide) (by assumption) rfl rfl rfl (Nat.le_of_ble_eq_true rfl) ⟨Nat.le_refl _, Nat.le_refl _⟩ dX12_lay_13 (fun E4 hP => ?_)
      obtain ⟨w2, hr4, hH4⟩ := rec_isM hr2 hD hH hC hk.1 hk.2.1 hP
      have hF4 := hP.2.2
      have loop : ∀ (q i : Nat) (d' : Nat → Int) (E' : Wd) (L : List (Int × Int × Int)), i ≤ A.length → A.length - i < q → rM (fG X) E' ((keepH hs (s, sh, ge, mk)).length : Int) (tx.length : Int) at' re' (A.length : Int) sm d' w2 a c rd' fi → isD d' (s, L, ge, mk) → okSh L → L.length = sh.length + i → L = (A.take i).foldl insL sh → Out E4 E' 125 126 → V X E' (nh, 0, 0) 18 [some (.ref (gb (fG X) + 124)), some (.int (iI (i : Int)))] [] := by
        intro q
        induction q with
        | zero => intro i d' E' L h1 h2; omega
        | succ q ih =>
          intro i d' E' L hi hq hr hD hL hLl hLe hFr
          obtain ⟨h0, hd, -, -, -, hrd, -⟩ := id hr
          obtain ⟨p1, ⟨p2, p3⟩, ⟨p4, p5⟩, p6, p7⟩ := id hD
          simp only at p2 p3 p4 p5 p6 p7
          have p0 : d' 0 = s 0 := p1 0 (by omega)
          refine v_iload_n (pc := 18) cx rfl ga1 dX12_lay_18 ?_
          refine v_aload_n (pc := 19) cx rfl ga0 dX12_lay_19 ?_
          refine v_getfield (pc := 20) cx flX12_119 (by assumption) gf9 dX12_lay_20 ?_
          refine v_icmp_ge (pc := 23) cx 72 dX12_lay_23 rfl (by omega) (fun c23 => ?_) (fun c23 => ?_)
          · refine v_aload_n (pc := 72) cx rfl ga0 dX12_lay_72 ?_
            refine v_getfield (pc := 73) cx flX12_119 (by assumption) gf9 dX12_lay_73 ?_
            refine v_ireturn (pc := 76) cx hI rfl ?_ dX12_lay_76
            have ei : i = A.length := by omega
            subst ei
            rw [List.take_length] at hLe
            subst hLe
            exact ⟨rfl, ⟨at', re', _, sm, d', w2, a, c, rd', fi, hr, hD, hH4, hC⟩, fun j hj => (hFr j (by omega)).trans ((hF4 j (by omega)).trans (fr2 j hj))⟩
          · have hie : i < A.length := by omega
            have hx := hrk.2.1 _ (List.getElem_mem hie)
            have hxe := hin i hie
            rw [← hxe] at hx
            simp only at hx
            have kshL : okSh (lst (ar d' 27) (ar d' 39) (ar d' 51) L.length) := by rw [p5]; exact hL
            refine v_aload_n (pc := 26) cx rfl ga0 dX12_lay_26 ?_
            refine v_aload_n (pc := 27) cx rfl ga0 dX12_lay_27 ?_
            refine v_getfield (pc := 28) cx flX12_7 (by assumption) gf0 dX12_lay_28 ?_
            refine v_iconst (pc := 31) cx dX12_lay_31 ?_
            refine v_iaload (pc := 32) cx (0) (by assumption) (by omega) dX12_lay_32 ?_
            refine v_aload_n (pc := 33) cx rfl ga0 dX12_lay_33 ?_
            refine v_getfield (pc := 34) cx flX12_23 (by assumption) gf8 dX12_lay_34 ?_
            refine v_iconst (pc := 37) cx dX12_lay_37 ?_
            refine v_iload_n (pc := 38) cx rfl ga1 dX12_lay_38 ?_
            refine v_imul (pc := 39) cx dX12_lay_39 ?_
            refine v_iaload (pc := 40) cx (3 * i) (by assumption) (by omega) dX12_lay_40 ?_
            refine v_iadd (pc := 41) cx dX12_lay_41 ?_
            refine v_aload_n (pc := 42) cx rfl ga0 dX12_lay_42 ?_
            refine v_getfield (pc := 43) cx flX12_23 (by assumption) gf8 dX12_lay_43 ?_
            refine v_iconst (pc := 46) cx dX12_lay_46 ?_
            refine v_iload_n (pc := 47) cx rfl ga1 dX12_lay_47 ?_
            refine v_imul (pc := 48) cx dX12_lay_48 ?_
            refine v_iconst (pc := 49) cx dX12_lay_49 ?_
            refine v_iadd (pc := 50) cx dX12_lay_50 ?_
            refine v_iaload (pc := 51) cx (3 * i + 1) (by assumption) (by omega) dX12_lay_51 ?_
            refine v_aload_n (pc := 52) cx rfl ga0 dX12_lay_52 ?_
            refine v_getfield (pc := 53) cx flX12_23 (by assumption) gf8 dX12_lay_53 ?_
            refine v_iconst (pc := 56) cx dX12_lay_56 ?_
            refine v_iload_n (pc := 57) cx rfl ga1 dX12_lay_57 ?_
            refine v_imul (pc := 58) cx dX12_lay_58 ?_
            refine v_iconst (pc := 59) cx dX12_lay_59 ?_
            refine v_iadd (pc := 60) cx dX12_lay_60 ?_
            refine v_iaload (pc := 61) cx (3 * i + 2) (by assumption) (by omega) dX12_lay_61 ?_
            rw [p0]
            refine v_callVI (pc := 62) cx hR (m_puts _ _ _ _ h0 hd p4 (by omega) (fun j hj => (okSh_at kshL j hj).1) (by omega)) mlX12_66 (by decide) (by assumption) rfl rfl rfl (Nat.le_of_ble_eq_true rfl) ⟨Nat.le_refl _, Nat.le_refl _⟩ dX12_lay_62 (fun v5 E5 hP5 => ?_)
            obtain ⟨-, ⟨dD, hd5, hn5, hl5, ho5⟩, hF5⟩ := hP5
            rw [p5, hxe] at hl5
            have el : (insL L A[i]).length = L.length + 1 := insL_len
            refine v_pop (pc := 65) cx rfl dX12_lay_65 ?_
            refine v_iinc (pc := 66) cx ga1 (sa1 rfl) dX12_lay_66 ?_
            refine v_goto (pc := 69) cx 18 dX12_lay_69 rfl ?_
            refine ih (i + 1) dD E5 (insL L A[i]) (by omega) (by omega) (hr.dd hF5 hd5) ⟨fun i hi => (ho5 i (by omega)).trans (p1 i hi), ⟨(ho5 19 (by omega)).trans p2, (lst2_ext (fun j hj => ?_)).trans p3⟩, ⟨?_, ?_⟩, (ho5 63 (by omega)).trans p6, (lst_ext (fun j _ => ⟨ho5 _ (by omega), ho5 _ (by omega), ho5 _ (by omega)⟩)).trans p7⟩ ⟨by rw [el]; omega, fun z hz2 => ?_⟩ (by rw [el]; omega) ?_ (fun j hj => (hF5 j hj).trans (hFr j hj))
            · have hj : j < ge.length := hj
              exact ⟨ho5 _ (by omega), ho5 _ (by omega)⟩
            · show dD 26 = ((insL L A[i]).length : Int)
              rw [hn5, el]
              rfl
            · show lst _ _ _ (insL L A[i]).length = insL L A[i]
              rw [el]
              exact hl5
            · rcases insL_mem z hz2 with rfl | hz2
              · rw [← hxe]
                simp only
                omega
              · exact hL.2 z hz2
            · rw [List.take_succ_eq_append_getElem hie, List.foldl_append, ← hLe]
              rfl
      refine v_iconst (pc := 16) cx dX12_lay_16 ?_
      refine v_istore_n (pc := 17) cx rfl (sa1 rfl) dX12_lay_17 ?_
      exact loop (A.length + 1) 0 d E4 sh (by omega) (by omega) hr4 hD k8 (by omega) rfl (fun _ _ => rfl)
    · omega
  · rw [if_neg hz, if_neg hz] at hI
    refine v_bipush (pc := 4) cx (by decide) dX12_lay_4 ?_
    refine v_icmp_eq (pc := 6) cx 12 dX12_lay_6 rfl (by omega) (fun c6 => ?_) (fun c6 => ?_)
    · omega
    · refine v_bipush (pc := 9) cx (by decide) dX12_lay_9 ?_
      refine v_ireturn (pc := 11) cx hI rfl ?_ dX12_lay_11
      exact ⟨rfl, ⟨at', _, rs', sm, d, w', a, c, rd', fi, ⟨h02, (hF _ (by omega) (by omega)).trans hd, (hF _ (by omega) (by omega)).trans hw', (hF _ (by omega) (by omega)).trans ha, (hF _ (by omega) (by omega)).trans hc, hrd2, (hF _ (by omega) (by omega)).trans hfi⟩, hD, hH, hC⟩, fr2⟩
