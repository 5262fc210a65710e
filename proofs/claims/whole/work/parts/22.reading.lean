def shR (tx : List Int) (tick told : Int) (sz p : Nat) : Int :=
  if tkRe tx p 43 ≠ 0 then tkRe tx p 43 else if tkRe tx (nx tx p) 42 ≠ 0 then tkRe tx (nx tx p) 42 else if tkRe tx (nx tx (nx tx p)) 59 ≠ 0 then tkRe tx (nx tx (nx tx p)) 59
  else if 5000 < tick + nv tx p ∨ ¬ (1 ≤ nv tx (nx tx p) ∧ nv tx (nx tx p) ≤ 500) ∨ ¬ (1 ≤ nv tx (nx tx (nx tx p)) ∧ nv tx (nx tx (nx tx p)) ≤ 200) then 3
  else if 12 ≤ told + sz then 4 else 0
def shN (tx : List Int) (p : Nat) : Nat := nx tx (nx tx (nx tx p))
def shV (tx : List Int) (tick : Int) (p : Nat) : Int × Int × Int := (tick + nv tx p, nv tx (nx tx p), nv tx (nx tx (nx tx p)))
theorem tkRe_bd (tx : List Int) (p : Nat) (sg : Int) : 0 ≤ tkRe tx p sg ∧ tkRe tx p sg ≤ 2 := by
  unfold tkRe
  split
  · omega
  · split <;> omega
theorem nx_bd (tx : List Int) (p : Nat) : p < nx tx p ∧ nx tx p ≤ p + 5 := by
  have := dgs_le tx 4 p
  unfold nx
  omega
set_option maxRecDepth 100000 in
set_option maxHeartbeats 4000000 in
theorem c_Rd_shower (lc : Launch) (G : Gc) (E : Wd) (nh : Nat) {o ot p sz : Nat} {pos tick told : Int} {b l r : Nat → Int} {tx : List Int} (h : rRd G E o (sz : Int) pos 0 (p : Int) b l r) (ht : isTx G E ot tx) (hx : okTx tx) (hd : ot + 2 ≤ o ∨ o + 4 ≤ ot) (hp : p < 400) (hs : sz ≤ 12) (htk : 0 ≤ tick ∧ tick ≤ 5000) (hto : 0 ≤ told ∧ told ≤ 12) : CV lc G 3 yX7_readShower cX7_readShower 7 [.ref (gb G + o), .ref (gb G + ot), .int (iI tick), .int (iI told)] E nh 0 0 (fun E' => ((shR tx tick told sz p ≠ 0 ∧ ∃ nxt, rRd G E' o sz pos (shR tx tick told sz p) nxt b l r) ∨ (shR tx tick told sz p = 0 ∧ sz < 12 ∧ rRd G E' o ((sz : Int) + 1) pos 0 (shN tx p : Int) (upI b sz (shV tx tick p).1) (upI l sz (shV tx tick p).2.1) (upI r sz (shV tx tick p).2.2))) ∧ Out E E' o (o + 4)) := by
  refine CV.mk (by decide +kernel) rfl (Nat.le_of_ble_eq_true rfl) ?_
  intro X hG hL cx hR hI hini
  subst hG; subst hL
  show V X E (nh, 0, 0) 0 [some (.ref (gb (fG X) + o)), some (.ref (gb (fG X) + ot)), some (.int (iI tick)), some (.int (iI told)), none, none, none] []
  have n1 := nx_bd tx p
  have n2 := nx_bd tx (nx tx p)
  have n3 := nx_bd tx (nx tx (nx tx p))
  have r1 := tkRe_bd tx p 43
  have r2 := tkRe_bd tx (nx tx p) 42
  have r3 := tkRe_bd tx (nx tx (nx tx p)) 59
  have v1 := nv_bd tx p
  have v2 := nv_bd tx (nx tx p)
  have v3 := nv_bd tx (nx tx (nx tx p))
  have bad29 : ∀ (E' : Wd) (re nxt : Int) (x4 x5 x6 : Option Value), re ≠ 0 ∧ 0 ≤ re ∧ re ≤ 2 → shR tx tick told sz p = re → rRd (fG X) E' o sz pos re nxt b l r → Out E E' o (o + 4) → V X E' (nh, 0, 0) 29 [some (.ref (gb (fG X) + o)), some (.ref (gb (fG X) + ot)), some (.int (iI tick)), some (.int (iI told)), x4, x5, x6] [] := by
    intro E' re nxt x4 x5 x6 hre hsh h hFr
    obtain ⟨h0, h1, h2, h3⟩ := h
    refine v_aload_n (pc := 29) cx rfl ga0 dX7_readShower_29 ?_
    refine v_getfield (pc := 30) cx flX7_28 (by assumption) gf5 dX7_readShower_30 ?_
    refine v_if_eq (pc := 33) cx 37 dX7_readShower_33 rfl (by omega) (fun c33 => ?_) (fun c33 => ?_)
    · omega
    · refine v_return (pc := 36) cx hI ?_ dX7_readShower_36
      rw [hsh]
      exact ⟨Or.inl ⟨hre.1, nxt, h0, h1, h2, h3⟩, hFr⟩
  have bad20 : ∀ (E' : Wd) (re nxt : Int) (x4 x5 x6 : Option Value), c1 x5 = true → re ≠ 0 ∧ 0 ≤ re ∧ re ≤ 2 → shR tx tick told sz p = re → rRd (fG X) E' o sz pos re nxt b l r → Out E E' o (o + 4) → V X E' (nh, 0, 0) 20 [some (.ref (gb (fG X) + o)), some (.ref (gb (fG X) + ot)), some (.int (iI tick)), some (.int (iI told)), x4, x5, x6] [] := by
    intro E' re nxt x4 x5 x6 hc5 hre hsh h hFr
    refine v_aload_n (pc := 20) cx rfl ga0 dX7_readShower_20 ?_
    refine v_aload_n (pc := 21) cx rfl ga1 dX7_readShower_21 ?_
    refine v_bipush (pc := 22) cx (by decide) dX7_readShower_22 ?_
    refine v_callVI (pc := 24) cx hR (c_Rd_skip _ _ _ _ h ⟨hre.1, by omega, by omega⟩) mlX7_43 (by decide) h.1 rfl rfl rfl (Nat.le_of_ble_eq_true rfl) ⟨Nat.le_refl _, Nat.le_refl _⟩ dX7_readShower_24 (fun v E2 hP => ?_)
    obtain ⟨rfl, rfl⟩ := hP
    refine v_istore (pc := 27) cx (sa6 hc5) dX7_readShower_27 ?_
    exact bad29 E2 re nxt _ _ _ hre hsh h hFr
  have bad11 : ∀ (E' : Wd) (re nxt : Int) (x4 x5 x6 : Option Value), c1 x4 = true → re ≠ 0 ∧ 0 ≤ re ∧ re ≤ 2 → shR tx tick told sz p = re → rRd (fG X) E' o sz pos re nxt b l r → Out E E' o (o + 4) → V X E' (nh, 0, 0) 11 [some (.ref (gb (fG X) + o)), some (.ref (gb (fG X) + ot)), some (.int (iI tick)), some (.int (iI told)), x4, x5, x6] [] := by
    intro E' re nxt x4 x5 x6 hc4 hre hsh h hFr
    refine v_aload_n (pc := 11) cx rfl ga0 dX7_readShower_11 ?_
    refine v_aload_n (pc := 12) cx rfl ga1 dX7_readShower_12 ?_
    refine v_bipush (pc := 13) cx (by decide) dX7_readShower_13 ?_
    refine v_callVI (pc := 15) cx hR (c_Rd_skip _ _ _ _ h ⟨hre.1, by omega, by omega⟩) mlX7_43 (by decide) h.1 rfl rfl rfl (Nat.le_of_ble_eq_true rfl) ⟨Nat.le_refl _, Nat.le_refl _⟩ dX7_readShower_15 (fun v E2 hP => ?_)
    obtain ⟨rfl, rfl⟩ := hP
    refine v_istore (pc := 18) cx (sa5 hc4) dX7_readShower_18 ?_
    exact bad20 E2 re nxt _ _ _ rfl hre hsh h hFr
  refine v_iload_n (pc := 0) cx rfl ga2 dX7_readShower_0 ?_
  refine v_aload_n (pc := 1) cx rfl ga0 dX7_readShower_1 ?_
  refine v_aload_n (pc := 2) cx rfl ga1 dX7_readShower_2 ?_
  refine v_bipush (pc := 3) cx (by decide) dX7_readShower_3 ?_
  refine v_callVI (pc := 5) cx hR (c_Rd_number _ _ _ _ h ht hx hd (by omega) (by omega)) mlX7_43 (by decide) h.1 rfl rfl rfl (Nat.le_of_ble_eq_true rfl) ⟨Nat.le_refl _, Nat.le_refl _⟩ dX7_readShower_5 (fun w1 E1 hP => ?_)
  obtain ⟨rfl, h, hFr⟩ := hP
  refine v_iadd (pc := 8) cx dX7_readShower_8 ?_
  refine v_istore (pc := 9) cx (sa4 rfl) dX7_readShower_9 ?_
  by_cases q1 : tkRe tx p 43 = 0
  · rw [q1] at h
    have ht1 := ht.out hFr (by omega)
    refine v_aload_n (pc := 11) cx rfl ga0 dX7_readShower_11 ?_
    refine v_aload_n (pc := 12) cx rfl ga1 dX7_readShower_12 ?_
    refine v_bipush (pc := 13) cx (by decide) dX7_readShower_13 ?_
    refine v_callVI (pc := 15) cx hR (c_Rd_number _ _ _ _ h ht1 hx hd (by omega) (by omega)) mlX7_43 (by decide) h.1 rfl rfl rfl (Nat.le_of_ble_eq_true rfl) ⟨Nat.le_refl _, Nat.le_refl _⟩ dX7_readShower_15 (fun w2 E2 hP => ?_)
    obtain ⟨rfl, h, hF⟩ := hP
    replace hFr : Out E E2 o (o + 1) := fun j hj => (hF j hj).trans (hFr j hj)
    refine v_istore (pc := 18) cx (sa5 rfl) dX7_readShower_18 ?_
    by_cases q2 : tkRe tx (nx tx p) 42 = 0
    · rw [q2] at h
      have ht2 := ht.out hFr (by omega)
      refine v_aload_n (pc := 20) cx rfl ga0 dX7_readShower_20 ?_
      refine v_aload_n (pc := 21) cx rfl ga1 dX7_readShower_21 ?_
      refine v_bipush (pc := 22) cx (by decide) dX7_readShower_22 ?_
      refine v_callVI (pc := 24) cx hR (c_Rd_number _ _ _ _ h ht2 hx hd (by omega) (by omega)) mlX7_43 (by decide) h.1 rfl rfl rfl (Nat.le_of_ble_eq_true rfl) ⟨Nat.le_refl _, Nat.le_refl _⟩ dX7_readShower_24 (fun w3 E3 hP => ?_)
      obtain ⟨rfl, h, hF⟩ := hP
      replace hFr : Out E E3 o (o + 1) := fun j hj => (hF j hj).trans (hFr j hj)
      refine v_istore (pc := 27) cx (sa6 rfl) dX7_readShower_27 ?_
      by_cases q3 : tkRe tx (nx tx (nx tx p)) 59 = 0
      · rw [q3] at h
        obtain ⟨h0, h1, h2, h3⟩ := h
        replace hFr : Out E E3 o (o + 4) := fun j hj => hFr j (by omega)
        have bad3 : (5000 < tick + nv tx p ∨ ¬ (1 ≤ nv tx (nx tx p) ∧ nv tx (nx tx p) ≤ 500) ∨ ¬ (1 ≤ nv tx (nx tx (nx tx p)) ∧ nv tx (nx tx (nx tx p)) ≤ 200)) → V X E3 (nh, 0, 0) 69 [some (.ref (gb (fG X) + o)), some (.ref (gb (fG X) + ot)), some (.int (iI tick)), some (.int (iI told)), some (.int (iI (tick + nv tx p))), some (.int (iI (nv tx (nx tx p)))), some (.int (iI (nv tx (nx tx (nx tx p)))))] [] := by
          intro hb
          refine v_aload_n (pc := 69) cx rfl ga0 dX7_readShower_69 ?_
          refine v_iconst (pc := 70) cx dX7_readShower_70 ?_
          refine v_putfield (pc := 71) cx fpX7_28 h0 ⟨rfl, rfl⟩ pf5 dX7_readShower_71 (fun E71 hE71 hF71 => ?_)
          replace h0 := hE71
          replace h1 := (hF71 _ (by omega)).trans h1
          replace h2 := (hF71 _ (by omega)).trans h2
          replace h3 := (hF71 _ (by omega)).trans h3
          replace hFr := fun j hj => (hF71 j (by omega)).trans (hFr j hj)
          refine v_goto (pc := 74) cx 148 dX7_readShower_74 rfl ?_
          refine v_return (pc := 148) cx hI ?_ dX7_readShower_148
          have e : shR tx tick told sz p = 3 := by
            unfold shR
            rw [if_neg (by omega), if_neg (by omega), if_neg (by omega), if_pos hb]
          rw [e]
          exact ⟨Or.inl ⟨by decide, _, h0, h1, h2, h3⟩, hFr⟩
        have bad4 : ¬ (5000 < tick + nv tx p ∨ ¬ (1 ≤ nv tx (nx tx p) ∧ nv tx (nx tx p) ≤ 500) ∨ ¬ (1 ≤ nv tx (nx tx (nx tx p)) ∧ nv tx (nx tx (nx tx p)) ≤ 200)) → 12 ≤ told + sz → V X E3 (nh, 0, 0) 97 [some (.ref (gb (fG X) + o)), some (.ref (gb (fG X) + ot)), some (.int (iI tick)), some (.int (iI told)), some (.int (iI (tick + nv tx p))), some (.int (iI (nv tx (nx tx p)))), some (.int (iI (nv tx (nx tx (nx tx p)))))] [] := by
          intro hb hb2
          refine v_aload_n (pc := 97) cx rfl ga0 dX7_readShower_97 ?_
          refine v_iconst (pc := 98) cx dX7_readShower_98 ?_
          refine v_putfield (pc := 99) cx fpX7_28 h0 ⟨rfl, rfl⟩ pf5 dX7_readShower_99 (fun E99 hE99 hF99 => ?_)
          replace h0 := hE99
          replace h1 := (hF99 _ (by omega)).trans h1
          replace h2 := (hF99 _ (by omega)).trans h2
          replace h3 := (hF99 _ (by omega)).trans h3
          replace hFr := fun j hj => (hF99 j (by omega)).trans (hFr j hj)
          refine v_goto (pc := 102) cx 148 dX7_readShower_102 rfl ?_
          refine v_return (pc := 148) cx hI ?_ dX7_readShower_148
          have e : shR tx tick told sz p = 4 := by
            unfold shR
            rw [if_neg (by omega), if_neg (by omega), if_neg (by omega), if_neg hb, if_pos hb2]
          rw [e]
          exact ⟨Or.inl ⟨by decide, _, h0, h1, h2, h3⟩, hFr⟩
        refine v_aload_n (pc := 29) cx rfl ga0 dX7_readShower_29 ?_
        refine v_getfield (pc := 30) cx flX7_28 (by assumption) gf5 dX7_readShower_30 ?_
        refine v_if_eq (pc := 33) cx 37 dX7_readShower_33 rfl (by omega) (fun c33 => ?_) (fun c33 => ?_)
        · refine v_iload (pc := 37) cx ga4 dX7_readShower_37 ?_
          refine v_sipush (pc := 39) cx (by decide) dX7_readShower_39 ?_
          refine v_icmp_gt (pc := 42) cx 69 dX7_readShower_42 rfl (by omega) (fun c42 => ?_) (fun c42 => ?_)
          · exact bad3 (Or.inl (by omega))
          · refine v_iload (pc := 45) cx ga5 dX7_readShower_45 ?_
            refine v_iconst (pc := 47) cx dX7_readShower_47 ?_
            refine v_sipush (pc := 48) cx (by decide) dX7_readShower_48 ?_
            refine v_callSI (pc := 51) cx hR (c_isWithin _ _ _ _ (by omega)) mlX7_47 (by decide) rfl (Nat.le_of_ble_eq_true rfl) ⟨Nat.le_refl _, Nat.le_refl _⟩ dX7_readShower_51 (fun y1 E4 hP => ?_)
            obtain ⟨hy, rfl⟩ := hP
            refine v_if_eq (pc := 54) cx 69 dX7_readShower_54 rfl (by omega) (fun c54 => ?_) (fun c54 => ?_)
            · exact bad3 (Or.inr (Or.inl (by omega)))
            · refine v_iload (pc := 57) cx ga6 dX7_readShower_57 ?_
              refine v_iconst (pc := 59) cx dX7_readShower_59 ?_
              refine v_sipush (pc := 60) cx (by decide) dX7_readShower_60 ?_
              refine v_callSI (pc := 63) cx hR (c_isWithin _ _ _ _ (by omega)) mlX7_47 (by decide) rfl (Nat.le_of_ble_eq_true rfl) ⟨Nat.le_refl _, Nat.le_refl _⟩ dX7_readShower_63 (fun y2 E5 hP => ?_)
              obtain ⟨hy2, rfl⟩ := hP
              refine v_if_ne (pc := 66) cx 77 dX7_readShower_66 rfl (by omega) (fun c66 => ?_) (fun c66 => ?_)
              · refine v_iload_n (pc := 77) cx rfl ga3 dX7_readShower_77 ?_
                refine v_aload_n (pc := 78) cx rfl ga0 dX7_readShower_78 ?_
                refine v_getfield (pc := 79) cx flX7_21 (by assumption) gf3 dX7_readShower_79 ?_
                refine v_iadd (pc := 82) cx dX7_readShower_82 ?_
                refine v_bipush (pc := 83) cx (by decide) dX7_readShower_83 ?_
                refine v_icmp_ge (pc := 85) cx 97 dX7_readShower_85 rfl (by omega) (fun c85 => ?_) (fun c85 => ?_)
                · exact bad4 (by omega) (by omega)
                · refine v_aload_n (pc := 88) cx rfl ga0 dX7_readShower_88 ?_
                  refine v_getfield (pc := 89) cx flX7_21 (by assumption) gf3 dX7_readShower_89 ?_
                  refine v_bipush (pc := 92) cx (by decide) dX7_readShower_92 ?_
                  refine v_icmp_lt (pc := 94) cx 105 dX7_readShower_94 rfl (by omega) (fun c94 => ?_) (fun c94 => ?_)
                  · refine v_aload_n (pc := 105) cx rfl ga0 dX7_readShower_105 ?_
                    refine v_getfield (pc := 106) cx flX7_9 (by assumption) gf0 dX7_readShower_106 ?_
                    refine v_aload_n (pc := 109) cx rfl ga0 dX7_readShower_109 ?_
                    refine v_getfield (pc := 110) cx flX7_21 (by assumption) gf3 dX7_readShower_110 ?_
                    refine v_iload (pc := 113) cx ga4 dX7_readShower_113 ?_
                    refine v_iastore (pc := 115) cx (sz) h1 (by omega) dX7_readShower_115 (fun E115 hE115 hF115 => ?_)
                    replace h0 := (hF115 _ (by omega)).trans h0
                    replace h1 := hE115
                    replace h2 := (hF115 _ (by omega)).trans h2
                    replace h3 := (hF115 _ (by omega)).trans h3
                    replace hFr := fun j hj => (hF115 j (by omega)).trans (hFr j hj)
                    refine v_aload_n (pc := 116) cx rfl ga0 dX7_readShower_116 ?_
                    refine v_getfield (pc := 117) cx flX7_15 (by assumption) gf1 dX7_readShower_117 ?_
                    refine v_aload_n (pc := 120) cx rfl ga0 dX7_readShower_120 ?_
                    refine v_getfield (pc := 121) cx flX7_21 (by assumption) gf3 dX7_readShower_121 ?_
                    refine v_iload (pc := 124) cx ga5 dX7_readShower_124 ?_
                    refine v_iastore (pc := 126) cx (sz) h2 (by omega) dX7_readShower_126 (fun E126 hE126 hF126 => ?_)
                    replace h0 := (hF126 _ (by omega)).trans h0
                    replace h1 := (hF126 _ (by omega)).trans h1
                    replace h2 := hE126
                    replace h3 := (hF126 _ (by omega)).trans h3
                    replace hFr := fun j hj => (hF126 j (by omega)).trans (hFr j hj)
                    refine v_aload_n (pc := 127) cx rfl ga0 dX7_readShower_127 ?_
                    refine v_getfield (pc := 128) cx flX7_18 (by assumption) gf2 dX7_readShower_128 ?_
                    refine v_aload_n (pc := 131) cx rfl ga0 dX7_readShower_131 ?_
                    refine v_getfield (pc := 132) cx flX7_21 (by assumption) gf3 dX7_readShower_132 ?_
                    refine v_iload (pc := 135) cx ga6 dX7_readShower_135 ?_
                    refine v_iastore (pc := 137) cx (sz) h3 (by omega) dX7_readShower_137 (fun E137 hE137 hF137 => ?_)
                    replace h0 := (hF137 _ (by omega)).trans h0
                    replace h1 := (hF137 _ (by omega)).trans h1
                    replace h2 := (hF137 _ (by omega)).trans h2
                    replace h3 := hE137
                    replace hFr := fun j hj => (hF137 j (by omega)).trans (hFr j hj)
                    refine v_aload_n (pc := 138) cx rfl ga0 dX7_readShower_138 ?_
                    refine v_dup (pc := 139) cx rfl dX7_readShower_139 ?_
                    refine v_getfield (pc := 140) cx flX7_21 (by assumption) gf3 dX7_readShower_140 ?_
                    refine v_iconst (pc := 143) cx dX7_readShower_143 ?_
                    refine v_iadd (pc := 144) cx dX7_readShower_144 ?_
                    refine v_putfield (pc := 145) cx fpX7_21 h0 ⟨rfl, rfl⟩ pf3 dX7_readShower_145 (fun E145 hE145 hF145 => ?_)
                    replace h0 := hE145
                    replace h1 := (hF145 _ (by omega)).trans h1
                    replace h2 := (hF145 _ (by omega)).trans h2
                    replace h3 := (hF145 _ (by omega)).trans h3
                    replace hFr := fun j hj => (hF145 j (by omega)).trans (hFr j hj)
                    refine v_return (pc := 148) cx hI ?_ dX7_readShower_148
                    have e : shR tx tick told sz p = 0 := by
                      unfold shR
                      rw [if_neg (by omega), if_neg (by omega), if_neg (by omega), if_neg (by omega), if_neg (by omega)]
                    exact ⟨Or.inr ⟨e, by omega, h0, h1, h2, h3⟩, hFr⟩
                  · exact bad4 (by omega) (by omega)
              · exact bad3 (Or.inr (Or.inr (by omega)))
        · omega
      · refine bad29 E3 _ _ _ _ _ ⟨q3, by omega, by omega⟩ ?_ h (fun j hj => hFr j (by omega))
        unfold shR
        rw [if_neg (by omega), if_neg (by omega), if_pos q3]
    · refine bad20 E2 _ _ _ _ _ rfl ⟨q2, by omega, by omega⟩ ?_ h (fun j hj => hFr j (by omega))
      unfold shR
      rw [if_neg (by omega), if_pos q2]
  · refine bad11 E1 _ _ _ _ _ rfl ⟨q1, by omega, by omega⟩ ?_ h (fun j hj => hFr j (by omega))
    unfold shR
    rw [if_pos q1]
/-- the text read on from a place, some showers read already: place and reason of the fault (0: none), all showers -/
def prs (tx : List Int) (tick told : Int) : Nat → List (Int × Int × Int) → Nat → Nat × Int × List (Int × Int × Int)
  | 0, acc, p => (p, 0, acc)
  | k + 1, acc, p => if p < tx.length then (if shR tx tick told acc.length p = 0 then prs tx tick told k (acc ++ [shV tx tick p]) (shN tx p) else (p, shR tx tick told acc.length p, acc)) else (p, 0, acc)
theorem shR_bd {tx : List Int} {tick told : Int} {sz p : Nat} : 0 ≤ shR tx tick told sz p ∧ shR tx tick told sz p ≤ 4 := by
  have r1 := tkRe_bd tx p 43
  have r2 := tkRe_bd tx (nx tx p) 42
  have r3 := tkRe_bd tx (nx tx (nx tx p)) 59
  unfold shR
  split
  · omega
  · split
    · omega
    · split
      · omega
      · split
        · omega
        · split <;> omega
set_option maxRecDepth 100000 in
set_option maxHeartbeats 4000000 in
theorem c_Rd_read (lc : Launch) (G : Gc) (E : Wd) (nh : Nat) {o ot : Nat} {sz0 pos0 rea0 nxt0 tick told : Int} {b l r : Nat → Int} {tx : List Int} (h : rRd G E o sz0 pos0 rea0 nxt0 b l r) (ht : isTx G E ot tx) (hx : okTx tx) (hd : ot + 2 ≤ o ∨ o + 4 ≤ ot) (htk : 0 ≤ tick ∧ tick ≤ 5000) (hto : 0 ≤ told ∧ told ≤ 12) : CV lc G 4 yX7_read cX7_read 5 [.ref (gb G + o), .ref (gb G + ot), .int (iI tick), .int (iI told)] E nh 0 0 (fun E' => (∃ (pos nxt : Int) (sz : Nat) (b' l' r' : Nat → Int), rRd G E' o sz pos (prs tx tick told 13 [] 0).2.1 nxt b' l' r' ∧ sz ≤ 12 ∧ lst b' l' r' sz = (prs tx tick told 13 [] 0).2.2 ∧ ((prs tx tick told 13 [] 0).2.1 ≠ 0 → pos = ((prs tx tick told 13 [] 0).1 : Int))) ∧ Out E E' o (o + 4)) := by
  refine CV.mk (by decide +kernel) rfl (Nat.le_of_ble_eq_true rfl) ?_
  intro X hG hL cx hR hI hini
  subst hG; subst hL
  show V X E (nh, 0, 0) 0 [some (.ref (gb (fG X) + o)), some (.ref (gb (fG X) + ot)), some (.int (iI tick)), some (.int (iI told)), none] []
  have hlen := hx.1
  have bad : ∀ (E' : Wd) (i sz : Nat) (pos re nxt : Int) (b' l' r' : Nat → Int), i ≤ 13 → re ≠ 0 ∧ 0 ≤ re ∧ re ≤ 4 → rRd (fG X) E' o sz pos re nxt b' l' r' → Out E E' o (o + 4) → ((∃ (pos nxt : Int) (sz : Nat) (b' l' r' : Nat → Int), rRd (fG X) E' o sz pos (prs tx tick told 13 [] 0).2.1 nxt b' l' r' ∧ sz ≤ 12 ∧ lst b' l' r' sz = (prs tx tick told 13 [] 0).2.2 ∧ ((prs tx tick told 13 [] 0).2.1 ≠ 0 → pos = ((prs tx tick told 13 [] 0).1 : Int)))) → V X E' (nh, 0, 0) 18 [some (.ref (gb (fG X) + o)), some (.ref (gb (fG X) + ot)), some (.int (iI tick)), some (.int (iI told)), some (.int (iI (i : Int)))] [] := by
    intro E' i sz pos re nxt b' l' r' hi hre h hFr hres
    obtain ⟨h0, h1, h2, h3⟩ := h
    refine v_iload (pc := 18) cx ga4 dX7_read_18 ?_
    refine v_bipush (pc := 20) cx (by decide) dX7_read_20 ?_
    refine v_icmp_gt (pc := 22) cx 64 dX7_read_22 rfl (by omega) (fun c22 => ?_) (fun c22 => ?_)
    · refine v_return (pc := 64) cx hI ?_ dX7_read_64
      exact ⟨hres, hFr⟩
    · refine v_aload_n (pc := 25) cx rfl ga0 dX7_read_25 ?_
      refine v_getfield (pc := 26) cx flX7_28 (by assumption) gf5 dX7_read_26 ?_
      refine v_if_ne (pc := 29) cx 64 dX7_read_29 rfl (by omega) (fun c29 => ?_) (fun c29 => ?_)
      · refine v_return (pc := 64) cx hI ?_ dX7_read_64
        exact ⟨hres, hFr⟩
      · omega
  have loop : ∀ (d i p : Nat) (pos : Int) (b' l' r' : Nat → Int) (E' : Wd), i ≤ 12 → 13 - i < d → p ≤ 120 → rRd (fG X) E' o (i : Int) pos 0 (p : Int) b' l' r' → Out E E' o (o + 4) → prs tx tick told 13 [] 0 = prs tx tick told (13 - i) (lst b' l' r' i) p → V X E' (nh, 0, 0) 18 [some (.ref (gb (fG X) + o)), some (.ref (gb (fG X) + ot)), some (.int (iI tick)), some (.int (iI told)), some (.int (iI (i : Int)))] [] := by
    intro d
    induction d with
    | zero => intro i p pos b' l' r' E' hi hd; omega
    | succ d ih =>
      intro i p pos b' l' r' E' hi hd2 hp h hFr hprs
      have ht' := ht.out hFr (by omega)
      obtain ⟨h0, h1, h2, h3⟩ := id h
      have hst : prs tx tick told (13 - i) (lst b' l' r' i) p = if p < tx.length then (if shR tx tick told i p = 0 then prs tx tick told (13 - (i + 1)) (lst b' l' r' i ++ [shV tx tick p]) (shN tx p) else (p, shR tx tick told i p, lst b' l' r' i)) else (p, 0, lst b' l' r' i) := by
        rw [show 13 - i = (13 - (i + 1)) + 1 by omega]
        simp only [prs, lst_len]
      rw [hst] at hprs
      obtain ⟨ch, ⟨t0, t1⟩, t2⟩ := id ht'
      refine v_iload (pc := 18) cx ga4 dX7_read_18 ?_
      refine v_bipush (pc := 20) cx (by decide) dX7_read_20 ?_
      refine v_icmp_gt (pc := 22) cx 64 dX7_read_22 rfl (by omega) (fun c22 => ?_) (fun c22 => ?_)
      · omega
      · refine v_aload_n (pc := 25) cx rfl ga0 dX7_read_25 ?_
        refine v_getfield (pc := 26) cx flX7_28 (by assumption) gf5 dX7_read_26 ?_
        refine v_if_ne (pc := 29) cx 64 dX7_read_29 rfl (by omega) (fun c29 => ?_) (fun c29 => ?_)
        · omega
        · refine v_aload_n (pc := 32) cx rfl ga0 dX7_read_32 ?_
          refine v_getfield (pc := 33) cx flX7_25 (by assumption) gf6 dX7_read_33 ?_
          refine v_aload_n (pc := 36) cx rfl ga1 dX7_read_36 ?_
          refine v_getfield (pc := 37) cx flX7_31 (by assumption) gf1 dX7_read_37 ?_
          refine v_icmp_ge (pc := 40) cx 64 dX7_read_40 rfl (by omega) (fun c40 => ?_) (fun c40 => ?_)
          · refine v_return (pc := 64) cx hI ?_ dX7_read_64
            rw [if_neg (by omega)] at hprs
            rw [hprs]
            exact ⟨⟨pos, p, i, b', l', r', ⟨h0, h1, h2, h3⟩, hi, rfl, fun q => absurd rfl q⟩, hFr⟩
          · rw [if_pos (by omega)] at hprs
            refine v_aload_n (pc := 43) cx rfl ga0 dX7_read_43 ?_
            refine v_aload_n (pc := 44) cx rfl ga0 dX7_read_44 ?_
            refine v_getfield (pc := 45) cx flX7_25 (by assumption) gf6 dX7_read_45 ?_
            refine v_putfield (pc := 48) cx fpX7_36 h0 ⟨rfl, rfl⟩ pf4 dX7_read_48 (fun E48 hE48 hF48 => ?_)
            replace h0 := hE48
            replace h1 := (hF48 _ (by omega)).trans h1
            replace h2 := (hF48 _ (by omega)).trans h2
            replace h3 := (hF48 _ (by omega)).trans h3
            replace hFr := fun j hj => (hF48 j (by omega)).trans (hFr j hj)
            have ht2 := ht.out hFr (by omega)
            refine v_aload_n (pc := 51) cx rfl ga0 dX7_read_51 ?_
            refine v_aload_n (pc := 52) cx rfl ga1 dX7_read_52 ?_
            refine v_iload_n (pc := 53) cx rfl ga2 dX7_read_53 ?_
            refine v_iload_n (pc := 54) cx rfl ga3 dX7_read_54 ?_
            refine v_callVV (pc := 55) cx hR (c_Rd_shower _ _ _ _ ⟨h0, h1, h2, h3⟩ ht2 hx hd (by omega) hi htk hto) mlX7_39 (by decide) h0 rfl rfl rfl (Nat.le_of_ble_eq_true rfl) ⟨Nat.le_refl _, Nat.le_refl _⟩ dX7_read_55 (fun E2 hP => ?_)
            obtain ⟨hor, hF⟩ := hP
            replace hFr : Out E E2 o (o + 4) := fun j hj => (hF j hj).trans (hFr j hj)
            rcases hor with ⟨q, nxt, h4⟩ | ⟨q, q2, h4⟩
            · rw [if_neg q] at hprs
              refine v_iinc (pc := 58) cx ga4 (sa4 rfl) dX7_read_58 ?_
              refine v_goto (pc := 61) cx 18 dX7_read_61 rfl ?_
              have hb := shR_bd (tx := tx) (tick := tick) (told := told) (sz := i) (p := p)
              refine bad E2 (i + 1) i _ _ _ _ _ _ (by omega) ⟨q, hb.1, hb.2⟩ h4 hFr ?_
              rw [hprs]
              exact ⟨_, _, i, b', l', r', h4, hi, rfl, fun _ => rfl⟩
            · rw [if_pos q] at hprs
              refine v_iinc (pc := 58) cx ga4 (sa4 rfl) dX7_read_58 ?_
              refine v_goto (pc := 61) cx 18 dX7_read_61 rfl ?_
              have n1 := nx_bd tx p
              have n2 := nx_bd tx (nx tx p)
              have n3 := nx_bd tx (nx tx (nx tx p))
              refine ih (i + 1) (shN tx p) p _ _ _ E2 (by omega) (by omega) (by unfold shN; omega) h4 hFr ?_
              rw [lst_push]
              exact hprs
  obtain ⟨h0, h1, h2, h3⟩ := h
  have hFr : Out E E o (o + 4) := fun j hj => rfl
  refine v_aload_n (pc := 0) cx rfl ga0 dX7_read_0 ?_
  refine v_iconst (pc := 1) cx dX7_read_1 ?_
  refine v_putfield (pc := 2) cx fpX7_21 h0 ⟨rfl, rfl⟩ pf3 dX7_read_2 (fun E2 hE2 hF2 => ?_)
  replace h0 := hE2
  replace h1 := (hF2 _ (by omega)).trans h1
  replace h2 := (hF2 _ (by omega)).trans h2
  replace h3 := (hF2 _ (by omega)).trans h3
  replace hFr := fun j hj => (hF2 j (by omega)).trans (hFr j hj)
  refine v_aload_n (pc := 5) cx rfl ga0 dX7_read_5 ?_
  refine v_iconst (pc := 6) cx dX7_read_6 ?_
  refine v_putfield (pc := 7) cx fpX7_25 h0 ⟨rfl, rfl⟩ pf6 dX7_read_7 (fun E7 hE7 hF7 => ?_)
  replace h0 := hE7
  replace h1 := (hF7 _ (by omega)).trans h1
  replace h2 := (hF7 _ (by omega)).trans h2
  replace h3 := (hF7 _ (by omega)).trans h3
  replace hFr := fun j hj => (hF7 j (by omega)).trans (hFr j hj)
  refine v_aload_n (pc := 10) cx rfl ga0 dX7_read_10 ?_
  refine v_iconst (pc := 11) cx dX7_read_11 ?_
  refine v_putfield (pc := 12) cx fpX7_28 h0 ⟨rfl, rfl⟩ pf5 dX7_read_12 (fun E12 hE12 hF12 => ?_)
  replace h0 := hE12
  replace h1 := (hF12 _ (by omega)).trans h1
  replace h2 := (hF12 _ (by omega)).trans h2
  replace h3 := (hF12 _ (by omega)).trans h3
  replace hFr := fun j hj => (hF12 j (by omega)).trans (hFr j hj)
  refine v_iconst (pc := 15) cx dX7_read_15 ?_
  refine v_istore (pc := 16) cx (sa4 rfl) dX7_read_16 ?_
  exact loop 14 0 0 _ _ _ _ _ (by omega) (by omega) (by omega) ⟨h0, h1, h2, h3⟩ hFr rfl
