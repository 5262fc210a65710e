theorem isS.obj {G : Gc} {E : Wd} {o : Nat} {σ : Sg} (h : isS G E o σ) : ∃ fs, E o = some (.inr (9, fs)) := by
  obtain ⟨_, _, _, _, _, _, _, _, _, _, _, _, _, _, _, _, _, _, _, ⟨h0, -⟩, -⟩ := h
  exact ⟨_, h0⟩
set_option maxRecDepth 100000 in
set_option maxHeartbeats 4000000 in
theorem c_St_accountOf (lc : Launch) (G : Gc) (E : Wd) (nh : Nat) {o : Nat} {σ : Sg} {w : Int} (h : isS G E o σ) (hw : 0 ≤ w ∧ w ≤ 4) : CI lc G 0 yX9_accountOf cX9_accountOf 2 .int [.ref (gb G + o), .int (iI w)] E nh 0 0 (fun v E' => v = σ.1 (6 + w.toNat) ∧ E' = E) := by
  refine CI.mk (by decide +kernel) rfl (Nat.le_of_ble_eq_true rfl) ?_
  intro X hG hL cx hR hI
  subst hG; subst hL
  show V X E (nh, 0, 0) 0 [some (.ref (gb (fG X) + o)), some (.int (iI w))] []
  obtain ⟨st, n, b, l, r, fc, fd, B, cr, cn, ng, gf, gs, nm, t, p, v, tk, fell, ⟨h0, h1, h2, h3, h4, h5, h6, h7⟩, q1, q2, q3, q4, ⟨q51, q52, q53, q54, q55, q56⟩, q6, q7, q8, q9, q10, q11⟩ := h
  refine v_iload_n (pc := 0) cx rfl ga1 dX9_accountOf_0 ?_
  rcases (show w = 0 ∨ w = 1 ∨ w = 2 ∨ w = 3 ∨ w = 4 by omega) with rfl | rfl | rfl | rfl | rfl
  · refine v_tableIn (pc := 1) cx 32 dX9_accountOf_1 (by omega) rfl rfl ?_
    refine v_aload_n (pc := 32) cx rfl ga0 dX9_accountOf_32 ?_
    refine v_getfield (pc := 33) cx flX9_87 (by assumption) gf8 dX9_accountOf_33 ?_
    refine v_ireturn (pc := 36) cx hI rfl ?_ dX9_accountOf_36
    exact ⟨q11, rfl⟩
  · refine v_tableIn (pc := 1) cx 37 dX9_accountOf_1 (by omega) rfl rfl ?_
    refine v_aload_n (pc := 37) cx rfl ga0 dX9_accountOf_37 ?_
    refine v_getfield (pc := 38) cx flX9_32 (by assumption) gf3 dX9_accountOf_38 ?_
    refine v_getfield (pc := 41) cx flX9_125 (by assumption) gf2 dX9_accountOf_41 ?_
    refine v_ireturn (pc := 44) cx hI rfl ?_ dX9_accountOf_44
    exact ⟨q53, rfl⟩
  · refine v_tableIn (pc := 1) cx 45 dX9_accountOf_1 (by omega) rfl rfl ?_
    refine v_aload_n (pc := 45) cx rfl ga0 dX9_accountOf_45 ?_
    refine v_getfield (pc := 46) cx flX9_32 (by assumption) gf3 dX9_accountOf_46 ?_
    refine v_getfield (pc := 49) cx flX9_128 (by assumption) gf3 dX9_accountOf_49 ?_
    refine v_ireturn (pc := 52) cx hI rfl ?_ dX9_accountOf_52
    exact ⟨q54, rfl⟩
  · refine v_tableIn (pc := 1) cx 53 dX9_accountOf_1 (by omega) rfl rfl ?_
    refine v_aload_n (pc := 53) cx rfl ga0 dX9_accountOf_53 ?_
    refine v_getfield (pc := 54) cx flX9_32 (by assumption) gf3 dX9_accountOf_54 ?_
    refine v_getfield (pc := 57) cx flX9_131 (by assumption) gf4 dX9_accountOf_57 ?_
    refine v_ireturn (pc := 60) cx hI rfl ?_ dX9_accountOf_60
    exact ⟨q55, rfl⟩
  · refine v_tableOut (pc := 1) cx 61 dX9_accountOf_1 (by omega) rfl ?_
    refine v_aload_n (pc := 61) cx rfl ga0 dX9_accountOf_61 ?_
    refine v_getfield (pc := 62) cx flX9_25 (by assumption) gf2 dX9_accountOf_62 ?_
    refine v_getfield (pc := 65) cx flX9_134 (by assumption) gf1 dX9_accountOf_65 ?_
    refine v_aload_n (pc := 68) cx rfl ga0 dX9_accountOf_68 ?_
    refine v_getfield (pc := 69) cx flX9_32 (by assumption) gf3 dX9_accountOf_69 ?_
    refine v_getfield (pc := 72) cx flX9_137 (by assumption) gf5 dX9_accountOf_72 ?_
    refine v_iadd (pc := 75) cx dX9_accountOf_75 ?_
    refine v_ireturn (pc := 76) cx hI rfl ?_ dX9_accountOf_76
    exact ⟨q56, rfl⟩
set_option maxRecDepth 100000 in
set_option maxHeartbeats 4000000 in
theorem c_St_copyFrom (lc : Launch) (G : Gc) (E : Wd) (nh : Nat) {o oo : Nat} {σ σ' : Sg} (h : isS G E o σ) (h' : isS G E oo σ') (hd : o + 16 ≤ oo ∨ oo + 16 ≤ o) : CV lc G 3 yX9_copyFrom cX9_copyFrom 2 [.ref (gb G + o), .ref (gb G + oo)] E nh 0 0 (fun E' => isS G E' o σ' ∧ Out E E' o (o + 16)) := by
  refine CV.mk (by decide +kernel) rfl (Nat.le_of_ble_eq_true rfl) ?_
  intro X hG hL cx hR hI hini
  subst hG; subst hL
  show V X E (nh, 0, 0) 0 [some (.ref (gb (fG X) + o)), some (.ref (gb (fG X) + oo))] []
  obtain ⟨st, n, b, l, r, fc, fd, B, cr, cn, ng, gf, gs, nm, t, p, v, tk, fell, ⟨h0, h1, h2, h3, h4, h5, h6, h7⟩, -⟩ := h
  obtain ⟨st', n', b', l', r', fc', fd', B', cr', cn', ng', gf', gs', nm', t', p', v', tk', fell', ⟨g0, g1, g2, g3, g4, g5, g6, g7⟩, q1, q2, q3, q4, q5, q6, q7, q8, q9, q10, q11⟩ := h'
  have hFr : Out E E o (o + 16) := fun j hj => rfl
  refine v_aload_n (pc := 0) cx rfl ga1 dX9_copyFrom_0 ?_
  refine v_getfield (pc := 1) cx flX9_9 (by assumption) gf0 dX9_copyFrom_1 ?_
  refine v_aload_n (pc := 4) cx rfl ga0 dX9_copyFrom_4 ?_
  refine v_getfield (pc := 5) cx flX9_9 (by assumption) gf0 dX9_copyFrom_5 ?_
  refine v_callSV (pc := 8) cx hR (c_copyRow _ _ _ _ (by omega) g1 h1) mlX9_60 (by decide) rfl (Nat.le_of_ble_eq_true rfl) ⟨Nat.le_refl _, Nat.le_refl _⟩ dX9_copyFrom_8 (fun E1 hP => ?_)
  obtain ⟨h1, hF0⟩ := hP
  have hF : Out _ E1 (o + 1) (o + 2) := fun j hj => hF0 j (by omega)
  replace h2 := h2.out (hF) (by omega)
  replace h6 := h6.out (hF) (by omega)
  replace h7 := h7.out (hF) (by omega)
  replace g2 := g2.out (hF) (by omega)
  replace g6 := g6.out (hF) (by omega)
  replace g7 := g7.out (hF) (by omega)
  replace h0 := ((hF) _ (by omega)).trans h0
  replace h3 := ((hF) _ (by omega)).trans h3
  replace h4 := ((hF) _ (by omega)).trans h4
  replace h5 := ((hF) _ (by omega)).trans h5
  replace g0 := ((hF) _ (by omega)).trans g0
  replace g1 := ((hF) _ (by omega)).trans g1
  replace g3 := ((hF) _ (by omega)).trans g3
  replace g4 := ((hF) _ (by omega)).trans g4
  replace g5 := ((hF) _ (by omega)).trans g5
  replace hFr : Out _ _ _ _ := fun j hj => ((hF) j (by omega)).trans (hFr j hj)
  refine v_aload_n (pc := 11) cx rfl ga0 dX9_copyFrom_11 ?_
  refine v_getfield (pc := 12) cx flX9_18 (by assumption) gf1 dX9_copyFrom_12 ?_
  refine v_aload_n (pc := 15) cx rfl ga1 dX9_copyFrom_15 ?_
  refine v_getfield (pc := 16) cx flX9_18 (by assumption) gf1 dX9_copyFrom_16 ?_
  refine v_callVV (pc := 19) cx hR (c_Sh_copyFrom _ _ _ _ h2 g2 (by omega)) mlX9_64 (by decide) h2.1 rfl rfl rfl (Nat.le_of_ble_eq_true rfl) ⟨Nat.le_refl _, Nat.le_refl _⟩ dX9_copyFrom_19 (fun E2 hP => ?_)
  obtain ⟨⟨b2, l2, r2, h2, e2⟩, hF⟩ := hP
  replace h6 := h6.out (hF) (by omega)
  replace h7 := h7.out (hF) (by omega)
  replace g2 := g2.out (hF) (by omega)
  replace g6 := g6.out (hF) (by omega)
  replace g7 := g7.out (hF) (by omega)
  replace h0 := ((hF) _ (by omega)).trans h0
  replace h1 := ((hF) _ (by omega)).trans h1
  replace h3 := ((hF) _ (by omega)).trans h3
  replace h4 := ((hF) _ (by omega)).trans h4
  replace h5 := ((hF) _ (by omega)).trans h5
  replace g0 := ((hF) _ (by omega)).trans g0
  replace g1 := ((hF) _ (by omega)).trans g1
  replace g3 := ((hF) _ (by omega)).trans g3
  replace g4 := ((hF) _ (by omega)).trans g4
  replace g5 := ((hF) _ (by omega)).trans g5
  replace hFr : Out _ _ _ _ := fun j hj => ((hF) j (by omega)).trans (hFr j hj)
  refine v_aload_n (pc := 22) cx rfl ga0 dX9_copyFrom_22 ?_
  refine v_getfield (pc := 23) cx flX9_25 (by assumption) gf2 dX9_copyFrom_23 ?_
  refine v_aload_n (pc := 26) cx rfl ga1 dX9_copyFrom_26 ?_
  refine v_getfield (pc := 27) cx flX9_25 (by assumption) gf2 dX9_copyFrom_27 ?_
  refine v_callVV (pc := 30) cx hR (c_Fi_copyFrom _ _ _ _ h3 g3 (by omega)) mlX9_68 (by decide) (by assumption) rfl rfl rfl (Nat.le_of_ble_eq_true rfl) ⟨Nat.le_refl _, Nat.le_refl _⟩ dX9_copyFrom_30 (fun E3 hP => ?_)
  obtain ⟨h3, hF⟩ := hP
  replace h2 := h2.out (hF) (by omega)
  replace h6 := h6.out (hF) (by omega)
  replace h7 := h7.out (hF) (by omega)
  replace g2 := g2.out (hF) (by omega)
  replace g6 := g6.out (hF) (by omega)
  replace g7 := g7.out (hF) (by omega)
  replace h0 := ((hF) _ (by omega)).trans h0
  replace h1 := ((hF) _ (by omega)).trans h1
  replace h4 := ((hF) _ (by omega)).trans h4
  replace h5 := ((hF) _ (by omega)).trans h5
  replace g0 := ((hF) _ (by omega)).trans g0
  replace g1 := ((hF) _ (by omega)).trans g1
  replace g3 := ((hF) _ (by omega)).trans g3
  replace g4 := ((hF) _ (by omega)).trans g4
  replace g5 := ((hF) _ (by omega)).trans g5
  replace hFr : Out _ _ _ _ := fun j hj => ((hF) j (by omega)).trans (hFr j hj)
  refine v_aload_n (pc := 33) cx rfl ga0 dX9_copyFrom_33 ?_
  refine v_getfield (pc := 34) cx flX9_32 (by assumption) gf3 dX9_copyFrom_34 ?_
  refine v_aload_n (pc := 37) cx rfl ga1 dX9_copyFrom_37 ?_
  refine v_getfield (pc := 38) cx flX9_32 (by assumption) gf3 dX9_copyFrom_38 ?_
  refine v_callVV (pc := 41) cx hR (c_Bk_copyFrom _ _ _ _ h4 g4 (by omega)) mlX9_71 (by decide) (by assumption) rfl rfl rfl (Nat.le_of_ble_eq_true rfl) ⟨Nat.le_refl _, Nat.le_refl _⟩ dX9_copyFrom_41 (fun E4 hP => ?_)
  obtain ⟨h4, hF⟩ := hP
  replace h2 := h2.out (hF) (by omega)
  replace h6 := h6.out (hF) (by omega)
  replace h7 := h7.out (hF) (by omega)
  replace g2 := g2.out (hF) (by omega)
  replace g6 := g6.out (hF) (by omega)
  replace g7 := g7.out (hF) (by omega)
  replace h0 := ((hF) _ (by omega)).trans h0
  replace h1 := ((hF) _ (by omega)).trans h1
  replace h3 := ((hF) _ (by omega)).trans h3
  replace h5 := ((hF) _ (by omega)).trans h5
  replace g0 := ((hF) _ (by omega)).trans g0
  replace g1 := ((hF) _ (by omega)).trans g1
  replace g3 := ((hF) _ (by omega)).trans g3
  replace g4 := ((hF) _ (by omega)).trans g4
  replace g5 := ((hF) _ (by omega)).trans g5
  replace hFr : Out _ _ _ _ := fun j hj => ((hF) j (by omega)).trans (hFr j hj)
  refine v_aload_n (pc := 44) cx rfl ga0 dX9_copyFrom_44 ?_
  refine v_getfield (pc := 45) cx flX9_39 (by assumption) gf4 dX9_copyFrom_45 ?_
  refine v_aload_n (pc := 48) cx rfl ga1 dX9_copyFrom_48 ?_
  refine v_getfield (pc := 49) cx flX9_39 (by assumption) gf4 dX9_copyFrom_49 ?_
  refine v_callVV (pc := 52) cx hR (c_Cl_copyFrom _ _ _ _ h5 g5 (by omega)) mlX9_74 (by decide) (by assumption) rfl rfl rfl (Nat.le_of_ble_eq_true rfl) ⟨Nat.le_refl _, Nat.le_refl _⟩ dX9_copyFrom_52 (fun E5 hP => ?_)
  obtain ⟨h5, hF⟩ := hP
  replace h2 := h2.out (hF) (by omega)
  replace h6 := h6.out (hF) (by omega)
  replace h7 := h7.out (hF) (by omega)
  replace g2 := g2.out (hF) (by omega)
  replace g6 := g6.out (hF) (by omega)
  replace g7 := g7.out (hF) (by omega)
  replace h0 := ((hF) _ (by omega)).trans h0
  replace h1 := ((hF) _ (by omega)).trans h1
  replace h3 := ((hF) _ (by omega)).trans h3
  replace h4 := ((hF) _ (by omega)).trans h4
  replace g0 := ((hF) _ (by omega)).trans g0
  replace g1 := ((hF) _ (by omega)).trans g1
  replace g3 := ((hF) _ (by omega)).trans g3
  replace g4 := ((hF) _ (by omega)).trans g4
  replace g5 := ((hF) _ (by omega)).trans g5
  replace hFr : Out _ _ _ _ := fun j hj => ((hF) j (by omega)).trans (hFr j hj)
  refine v_aload_n (pc := 55) cx rfl ga0 dX9_copyFrom_55 ?_
  refine v_getfield (pc := 56) cx flX9_46 (by assumption) gf5 dX9_copyFrom_56 ?_
  refine v_aload_n (pc := 59) cx rfl ga1 dX9_copyFrom_59 ?_
  refine v_getfield (pc := 60) cx flX9_46 (by assumption) gf5 dX9_copyFrom_60 ?_
  refine v_callVV (pc := 63) cx hR (c_Ge_copyFrom _ _ _ _ h6 g6 (by omega)) mlX9_77 (by decide) h6.1 rfl rfl rfl (Nat.le_of_ble_eq_true rfl) ⟨Nat.le_refl _, Nat.le_refl _⟩ dX9_copyFrom_63 (fun E6 hP => ?_)
  obtain ⟨⟨f6, s6, h6, e6⟩, hF⟩ := hP
  replace h2 := h2.out (hF) (by omega)
  replace h7 := h7.out (hF) (by omega)
  replace g2 := g2.out (hF) (by omega)
  replace g6 := g6.out (hF) (by omega)
  replace g7 := g7.out (hF) (by omega)
  replace h0 := ((hF) _ (by omega)).trans h0
  replace h1 := ((hF) _ (by omega)).trans h1
  replace h3 := ((hF) _ (by omega)).trans h3
  replace h4 := ((hF) _ (by omega)).trans h4
  replace h5 := ((hF) _ (by omega)).trans h5
  replace g0 := ((hF) _ (by omega)).trans g0
  replace g1 := ((hF) _ (by omega)).trans g1
  replace g3 := ((hF) _ (by omega)).trans g3
  replace g4 := ((hF) _ (by omega)).trans g4
  replace g5 := ((hF) _ (by omega)).trans g5
  replace hFr : Out _ _ _ _ := fun j hj => ((hF) j (by omega)).trans (hFr j hj)
  refine v_aload_n (pc := 66) cx rfl ga0 dX9_copyFrom_66 ?_
  refine v_getfield (pc := 67) cx flX9_53 (by assumption) gf6 dX9_copyFrom_67 ?_
  refine v_aload_n (pc := 70) cx rfl ga1 dX9_copyFrom_70 ?_
  refine v_getfield (pc := 71) cx flX9_53 (by assumption) gf6 dX9_copyFrom_71 ?_
  refine v_callVV (pc := 74) cx hR (c_Mk_copyFrom _ _ _ _ h7 g7 (by omega)) mlX9_80 (by decide) h7.1 rfl rfl rfl (Nat.le_of_ble_eq_true rfl) ⟨Nat.le_refl _, Nat.le_refl _⟩ dX9_copyFrom_74 (fun E7 hP => ?_)
  obtain ⟨⟨b7, l7, r7, h7, e7⟩, hF⟩ := hP
  replace h2 := h2.out (hF) (by omega)
  replace h6 := h6.out (hF) (by omega)
  replace g2 := g2.out (hF) (by omega)
  replace g6 := g6.out (hF) (by omega)
  replace g7 := g7.out (hF) (by omega)
  replace h0 := ((hF) _ (by omega)).trans h0
  replace h1 := ((hF) _ (by omega)).trans h1
  replace h3 := ((hF) _ (by omega)).trans h3
  replace h4 := ((hF) _ (by omega)).trans h4
  replace h5 := ((hF) _ (by omega)).trans h5
  replace g0 := ((hF) _ (by omega)).trans g0
  replace g1 := ((hF) _ (by omega)).trans g1
  replace g3 := ((hF) _ (by omega)).trans g3
  replace g4 := ((hF) _ (by omega)).trans g4
  replace g5 := ((hF) _ (by omega)).trans g5
  replace hFr : Out _ _ _ _ := fun j hj => ((hF) j (by omega)).trans (hFr j hj)
  refine v_aload_n (pc := 77) cx rfl ga0 dX9_copyFrom_77 ?_
  refine v_aload_n (pc := 78) cx rfl ga1 dX9_copyFrom_78 ?_
  refine v_getfield (pc := 79) cx flX9_83 (by assumption) gf7 dX9_copyFrom_79 ?_
  refine v_putfield (pc := 82) cx fpX9_83 h0 ⟨rfl, rfl⟩ pf7 dX9_copyFrom_82 (fun E82 hE82 hF82 => ?_)
  have hF' : Out _ E82 o (o + 1) := fun j hj => hF82 j (by omega)
  replace h0 := hE82
  replace h2 := h2.out (hF') (by omega)
  replace h6 := h6.out (hF') (by omega)
  replace h7 := h7.out (hF') (by omega)
  replace g2 := g2.out (hF') (by omega)
  replace g6 := g6.out (hF') (by omega)
  replace g7 := g7.out (hF') (by omega)
  replace h1 := ((hF') _ (by omega)).trans h1
  replace h3 := ((hF') _ (by omega)).trans h3
  replace h4 := ((hF') _ (by omega)).trans h4
  replace h5 := ((hF') _ (by omega)).trans h5
  replace g0 := ((hF') _ (by omega)).trans g0
  replace g1 := ((hF') _ (by omega)).trans g1
  replace g3 := ((hF') _ (by omega)).trans g3
  replace g4 := ((hF') _ (by omega)).trans g4
  replace g5 := ((hF') _ (by omega)).trans g5
  replace hFr : Out _ _ _ _ := fun j hj => ((hF') j (by omega)).trans (hFr j hj)
  refine v_aload_n (pc := 85) cx rfl ga0 dX9_copyFrom_85 ?_
  refine v_aload_n (pc := 86) cx rfl ga1 dX9_copyFrom_86 ?_
  refine v_getfield (pc := 87) cx flX9_87 (by assumption) gf8 dX9_copyFrom_87 ?_
  refine v_putfield (pc := 90) cx fpX9_87 h0 ⟨rfl, rfl⟩ pf8 dX9_copyFrom_90 (fun E90 hE90 hF90 => ?_)
  have hF' : Out _ E90 o (o + 1) := fun j hj => hF90 j (by omega)
  replace h0 := hE90
  replace h2 := h2.out (hF') (by omega)
  replace h6 := h6.out (hF') (by omega)
  replace h7 := h7.out (hF') (by omega)
  replace h1 := ((hF') _ (by omega)).trans h1
  replace h3 := ((hF') _ (by omega)).trans h3
  replace h4 := ((hF') _ (by omega)).trans h4
  replace h5 := ((hF') _ (by omega)).trans h5
  replace hFr : Out _ _ _ _ := fun j hj => ((hF') j (by omega)).trans (hFr j hj)
  refine v_return (pc := 93) cx hI ?_ dX9_copyFrom_93
  refine ⟨⟨_, n', b2, l2, r2, _, _, _, _, _, ng', f6, s6, nm', b7, l7, r7, _, _, ⟨h0, h1, h2, h3, h4, h5, h6, h7⟩, fun j hj => ?_, ?_, q3, q4, q5, q6, q7, ⟨?_, q8.2⟩, ⟨?_, q9.2⟩, q10, q11⟩, hFr⟩
  · rw [cpyI_in hj]
    exact q1 j hj
  · rw [← q2]
    exact lst_ext (fun j hj => e2 j (by omega))
  · rw [← q8.1]
    exact lst2_ext (fun j hj => e6 j (by omega))
  · rw [← q9.1]
    exact lst_ext (fun j hj => e7 j (by omega))
/-! the history: five states, the first ones in use -/
def rHi (G : Gc) (E : Wd) (o : Nat) (m : Nat) (a : Nat → Nat) (hs : List Sg) : Prop :=
  E o = some (.inr (4, [.ref (gb G + (o + 1)), .int (iI (m : Int))])) ∧ E (o + 1) = some (AS G 5 (fun j => some (a j))) ∧ m = hs.length ∧ m ≤ 5 ∧
  (∀ j, j < 5 → ∃ k, k < 5 ∧ a j = o + 2 + 16 * k) ∧ (∀ i j, i < 5 → j < 5 → a i = a j → i = j) ∧ (∀ j, j < 5 → ∃ σ, isS G E (a j) σ) ∧ ∀ j, j < m → ∃ σ, hs[j]? = some σ ∧ isS G E (a j) σ
def isH (G : Gc) (E : Wd) (o : Nat) (hs : List Sg) : Prop := ∃ a, rHi G E o hs.length a hs
def keepH (hs : List Sg) (σ : Sg) : List Sg := (if 5 ≤ hs.length then hs.tail else hs) ++ [σ]
theorem rHi.out {G : Gc} {E E' : Wd} {o m : Nat} {a : Nat → Nat} {hs : List Sg} {x y : Nat} (h : rHi G E o m a hs) (hE : Out E E' x y) (hxy : o + 82 ≤ x ∨ y ≤ o) : rHi G E' o m a hs := by
  obtain ⟨h0, h1, h2, h3, h4, h5, h6, h7⟩ := h
  refine ⟨(hE _ (by omega)).trans h0, (hE _ (by omega)).trans h1, h2, h3, h4, h5, fun j hj => ?_, fun j hj => ?_⟩
  · obtain ⟨k, hk, e⟩ := h4 j hj
    obtain ⟨σ, hσ⟩ := h6 j hj
    exact ⟨σ, hσ.out hE (by omega)⟩
  · obtain ⟨k, hk, e⟩ := h4 j (by omega)
    obtain ⟨σ, e1, hσ⟩ := h7 j hj
    exact ⟨σ, e1, hσ.out hE (by omega)⟩
theorem isH.out {G : Gc} {E E' : Wd} {o : Nat} {hs : List Sg} {x y : Nat} (h : isH G E o hs) (hE : Out E E' x y) (hxy : o + 82 ≤ x ∨ y ≤ o) : isH G E' o hs := by
  obtain ⟨a, h⟩ := h
  exact ⟨a, h.out hE hxy⟩
set_option maxRecDepth 100000 in
set_option maxHeartbeats 4000000 in
theorem c_Hi_dropOldest (lc : Launch) (G : Gc) (E : Wd) (nh : Nat) {o : Nat} {a : Nat → Nat} {hs : List Sg} (h : rHi G E o 5 a hs) : CV lc G 0 yX4_dropOldest cX4_dropOldest 3 [.ref (gb G + o)] E nh 0 0 (fun E' => (∃ a', rHi G E' o 4 a' hs.tail) ∧ Out E E' o (o + 2)) := by
  refine CV.mk (by decide +kernel) rfl (Nat.le_of_ble_eq_true rfl) ?_
  intro X hG hL cx hR hI hini
  subst hG; subst hL
  show V X E (nh, 0, 0) 0 [some (.ref (gb (fG X) + o)), none, none] []
  obtain ⟨h0, h1, h2, h3, h4, h5, h6, h7⟩ := h
  have loop : ∀ (d i : Nat) (E' : Wd), 1 ≤ i → i ≤ 5 → 5 - i < d → E' o = E o → E' (o + 1) = some (AS (fG X) 5 (fun j => some (if j + 1 < i then a (j + 1) else a j))) → Out E E' o (o + 2) → V X E' (nh, 0, 0) 9 [some (.ref (gb (fG X) + o)), some (.ref (gb (fG X) + a 0)), some (.int (iI (i : Int)))] [] := by
    intro d
    induction d with
    | zero => intro i E' _ hi hd; omega
    | succ d ih =>
      intro i E' hi1 hi hd g0 g1 hFr
      replace g0 := g0.trans h0
      refine v_iload_n (pc := 9) cx rfl ga2 dX4_dropOldest_9 ?_
      refine v_iconst (pc := 10) cx dX4_dropOldest_10 ?_
      refine v_icmp_ge (pc := 11) cx 34 dX4_dropOldest_11 rfl (by omega) (fun c11 => ?_) (fun c11 => ?_)
      · have e : i = 5 := by omega
        subst e
        obtain ⟨k0, hk0, e0⟩ := h4 0 (by omega)
        obtain ⟨σ0, hσ0⟩ := h6 0 (by omega)
        obtain ⟨fs, hfs⟩ := (hσ0.out hFr (by omega)).obj
        refine v_aload_n (pc := 34) cx rfl ga0 dX4_dropOldest_34 ?_
        refine v_getfield (pc := 35) cx flX4_11 (by assumption) gf0 dX4_dropOldest_35 ?_
        refine v_iconst (pc := 38) cx dX4_dropOldest_38 ?_
        refine v_aload_n (pc := 39) cx rfl ga1 dX4_dropOldest_39 ?_
        refine v_aastore (pc := 40) cx (4) g1 (by omega) hfs dX4_dropOldest_40 (fun E40 hE40 hF40 => ?_)
        replace g0 := (hF40 _ (by omega)).trans g0
        replace g1 := hE40
        replace hFr := fun j hj => (hF40 j (by omega)).trans (hFr j hj)
        refine v_aload_n (pc := 41) cx rfl ga0 dX4_dropOldest_41 ?_
        refine v_iconst (pc := 42) cx dX4_dropOldest_42 ?_
        refine v_putfield (pc := 43) cx fpX4_18 g0 ⟨rfl, rfl⟩ pf1 dX4_dropOldest_43 (fun E43 hE43 hF43 => ?_)
        replace g0 := hE43
        replace g1 := (hF43 _ (by omega)).trans g1
        replace hFr := fun j hj => (hF43 j (by omega)).trans (hFr j hj)
        refine v_return (pc := 46) cx hI ?_ dX4_dropOldest_46
        have hFr : Out E E43 o (o + 2) := hFr
        have hsame : ∀ j, j < 5 → ∃ j', j' < 5 ∧ (if j = 4 then a 0 else if j + 1 < 5 then a (j + 1) else a j) = a j' ∧ (j = 4 → j' = 0) ∧ (j < 4 → j' = j + 1) := by
          intro j hj
          by_cases e1 : j = 4
          · exact ⟨0, by omega, by rw [if_pos e1], fun _ => rfl, fun _ => by omega⟩
          · exact ⟨j + 1, by omega, by rw [if_neg e1, if_pos (by omega)], fun q => absurd q e1, fun _ => rfl⟩
        refine ⟨⟨fun j => if j = 4 then a 0 else if j + 1 < 5 then a (j + 1) else a j, g0, ?_, ?_, by omega, ?_, ?_, ?_, ?_⟩, hFr⟩
        · rw [g1]
          congr 7
          funext j
          by_cases e1 : j = 4
          · subst e1
            simp [upO]
          · simp only [upO, if_neg e1]
        · rw [List.length_tail]; omega
        · intro j hj
          obtain ⟨j', q1, q2, -⟩ := hsame j hj
          show ∃ k, k < 5 ∧ (if j = 4 then a 0 else if j + 1 < 5 then a (j + 1) else a j) = _
          rw [q2]
          exact h4 j' q1
        · intro i j hi hj hij
          obtain ⟨i', p1, p2, p3, p4⟩ := hsame i hi
          obtain ⟨j', q1, q2, q3, q4⟩ := hsame j hj
          have := h5 i' j' p1 q1 (p2.symm.trans (hij.trans q2))
          omega
        · intro j hj
          obtain ⟨j', q1, q2, -⟩ := hsame j hj
          show ∃ σ, isS (fG X) E43 (if j = 4 then a 0 else if j + 1 < 5 then a (j + 1) else a j) σ
          rw [q2]
          obtain ⟨k, hk, e⟩ := h4 j' q1
          obtain ⟨σ, hσ⟩ := h6 j' q1
          exact ⟨σ, hσ.out hFr (by omega)⟩
        · intro j hj
          obtain ⟨j', q1, q2, q3, q4⟩ := hsame j (by omega)
          show ∃ σ, hs.tail[j]? = some σ ∧ isS (fG X) E43 (if j = 4 then a 0 else if j + 1 < 5 then a (j + 1) else a j) σ
          rw [q2]
          obtain ⟨k, hk, e⟩ := h4 j' q1
          obtain ⟨σ, e2, hσ⟩ := h7 j' (by omega)
          refine ⟨σ, ?_, hσ.out hFr (by omega)⟩
          rw [List.getElem?_tail, ← q4 hj]
          exact e2
      · obtain ⟨k0, hk0, e0⟩ := h4 i (by omega)
        obtain ⟨σ0, hσ0⟩ := h6 i (by omega)
        obtain ⟨fs, hfs⟩ := (hσ0.out hFr (by omega)).obj
        have e1 : (fun j => some (if j + 1 < i then a (j + 1) else a j)) i = some (a i) := by
          show some (if i + 1 < i then a (i + 1) else a i) = some (a i)
          rw [if_neg (by omega)]
        refine v_aload_n (pc := 14) cx rfl ga0 dX4_dropOldest_14 ?_
        refine v_getfield (pc := 15) cx flX4_11 (by assumption) gf0 dX4_dropOldest_15 ?_
        refine v_iload_n (pc := 18) cx rfl ga2 dX4_dropOldest_18 ?_
        refine v_iconst (pc := 19) cx dX4_dropOldest_19 ?_
        refine v_isub (pc := 20) cx dX4_dropOldest_20 ?_
        refine v_aload_n (pc := 21) cx rfl ga0 dX4_dropOldest_21 ?_
        refine v_getfield (pc := 22) cx flX4_11 (by assumption) gf0 dX4_dropOldest_22 ?_
        refine v_iload_n (pc := 25) cx rfl ga2 dX4_dropOldest_25 ?_
        refine v_aaload (pc := 26) cx (i) (by assumption) (by omega) (e1) dX4_dropOldest_26 ?_
        refine v_aastore (pc := 27) cx (i - 1) g1 (by omega) hfs dX4_dropOldest_27 (fun E27 hE27 hF27 => ?_)
        replace g0 := (hF27 _ (by omega)).trans g0
        replace g1 := hE27
        replace hFr := fun j hj => (hF27 j (by omega)).trans (hFr j hj)
        refine v_iinc (pc := 28) cx ga2 (sa2 rfl) dX4_dropOldest_28 ?_
        refine v_goto (pc := 31) cx 9 dX4_dropOldest_31 rfl ?_
        refine ih (i + 1) _ (by omega) (by omega) (by omega) (g0.trans h0.symm) ?_ hFr
        rw [g1]
        congr 7
        funext j
        by_cases e2 : j = i - 1
        · simp only [upO, if_pos e2]
          rw [if_pos (by omega), e2, show i - 1 + 1 = i by omega]
        · simp only [upO, if_neg e2]
          by_cases e3 : j + 1 < i
          · rw [if_pos e3, if_pos (by omega)]
          · rw [if_neg e3, if_neg (by omega)]
  refine v_aload_n (pc := 0) cx rfl ga0 dX4_dropOldest_0 ?_
  refine v_getfield (pc := 1) cx flX4_11 (by assumption) gf0 dX4_dropOldest_1 ?_
  refine v_iconst (pc := 4) cx dX4_dropOldest_4 ?_
  refine v_aaload (pc := 5) cx (0) (by assumption) (by omega) (show (fun j => some (a j)) 0 = some (a 0) from rfl) dX4_dropOldest_5 ?_
  refine v_astore_n (pc := 6) cx rfl (sa1 rfl) dX4_dropOldest_6 ?_
  refine v_iconst (pc := 7) cx dX4_dropOldest_7 ?_
  refine v_istore_n (pc := 8) cx rfl (sa2 rfl) dX4_dropOldest_8 ?_
  refine loop 5 1 E (by omega) (by omega) (by omega) rfl ?_ (fun _ _ => rfl)
  rw [h1]
  congr 7
set_option maxRecDepth 100000 in
set_option maxHeartbeats 4000000 in
theorem c_Hi_keep (lc : Launch) (G : Gc) (E : Wd) (nh : Nat) {o os : Nat} {hs : List Sg} {σ : Sg} (h : isH G E o hs) (hs0 : isS G E os σ) (hd : os + 16 ≤ o ∨ o + 82 ≤ os) : CV lc G 4 yX4_keep cX4_keep 2 [.ref (gb G + o), .ref (gb G + os)] E nh 0 0 (fun E' => isH G E' o (keepH hs σ) ∧ Out E E' o (o + 82)) := by
  refine CV.mk (by decide +kernel) rfl (Nat.le_of_ble_eq_true rfl) ?_
  intro X hG hL cx hR hI hini
  subst hG; subst hL
  show V X E (nh, 0, 0) 0 [some (.ref (gb (fG X) + o)), some (.ref (gb (fG X) + os))] []
  have fin : ∀ (E' : Wd) (m : Nat) (a : Nat → Nat) (hs' : List Sg), m < 5 → rHi (fG X) E' o m a hs' → hs' = (if 5 ≤ hs.length then hs.tail else hs) → Out E E' o (o + 82) → V X E' (nh, 0, 0) 12 [some (.ref (gb (fG X) + o)), some (.ref (gb (fG X) + os))] [] := by
    intro E' m a hs' hm h hhs hFr
    obtain ⟨h0, h1, h2, h3, h4, h5, h6, h7⟩ := h
    obtain ⟨k, hk, e⟩ := h4 m hm
    obtain ⟨σ0, hσ0⟩ := h6 m hm
    obtain ⟨fs, hfs⟩ := hσ0.obj
    refine v_aload_n (pc := 12) cx rfl ga0 dX4_keep_12 ?_
    refine v_getfield (pc := 13) cx flX4_11 (by assumption) gf0 dX4_keep_13 ?_
    refine v_aload_n (pc := 16) cx rfl ga0 dX4_keep_16 ?_
    refine v_getfield (pc := 17) cx flX4_18 (by assumption) gf1 dX4_keep_17 ?_
    refine v_aaload (pc := 20) cx (m) (by assumption) (by omega) (show (fun j => some (a j)) m = some (a m) from rfl) dX4_keep_20 ?_
    refine v_aload_n (pc := 21) cx rfl ga1 dX4_keep_21 ?_
    refine v_callVV (pc := 22) cx hR (c_St_copyFrom _ _ _ _ hσ0 (hs0.out hFr (by omega)) (by omega)) mlX4_25 (by decide) (by assumption) rfl rfl rfl (Nat.le_of_ble_eq_true rfl) ⟨Nat.le_refl _, Nat.le_refl _⟩ dX4_keep_22 (fun E2 hP => ?_)
    obtain ⟨hn, hF⟩ := hP
    replace h0 := ((hF) _ (by omega)).trans h0
    replace h1 := ((hF) _ (by omega)).trans h1
    replace hFr : Out _ _ _ _ := fun j hj => ((hF) j (by omega)).trans (hFr j hj)
    refine v_aload_n (pc := 25) cx rfl ga0 dX4_keep_25 ?_
    refine v_dup (pc := 26) cx rfl dX4_keep_26 ?_
    refine v_getfield (pc := 27) cx flX4_18 (by assumption) gf1 dX4_keep_27 ?_
    refine v_iconst (pc := 30) cx dX4_keep_30 ?_
    refine v_iadd (pc := 31) cx dX4_keep_31 ?_
    refine v_putfield (pc := 32) cx fpX4_18 h0 ⟨rfl, rfl⟩ pf1 dX4_keep_32 (fun E32 hE32 hF32 => ?_)
    replace h0 := hE32
    replace h1 := (hF32 _ (by omega)).trans h1
    replace hFr := fun j hj => (hF32 j (by omega)).trans (hFr j hj)
    have hF2 : Out E' E32 o (a m + 16) := fun j hj => (hF32 j (by omega)).trans (hF j (by omega))
    have hF32' : Out E2 E32 o (o + 1) := fun j hj => hF32 j (by omega)
    refine v_return (pc := 35) cx hI ?_ dX4_keep_35
    have hlen : (keepH hs σ).length = m + 1 := by
      unfold keepH
      rw [← hhs, List.length_append, ← h2]
      rfl
    have hkeep : ∀ j, j < 5 → j ≠ m → ∀ τ, isS (fG X) E' (a j) τ → isS (fG X) E32 (a j) τ := by
      intro j hj hjm τ hτ
      obtain ⟨k', hk', e'⟩ := h4 j hj
      have hne : k ≠ k' := fun q => hjm (h5 j m hj hm (by rw [e', e, q]))
      exact (hτ.out hF (by omega)).out hF32' (by omega)
    refine ⟨⟨a, ?_⟩, hFr⟩
    rw [hlen]
    refine ⟨h0, h1, hlen.symm, by omega, h4, h5, fun j hj => ?_, fun j hj => ?_⟩
    · by_cases e2 : j = m
      · subst e2
        exact ⟨σ, hn.out hF32' (by omega)⟩
      · obtain ⟨τ, hτ⟩ := h6 j hj
        exact ⟨τ, hkeep j hj e2 τ hτ⟩
    · unfold keepH
      rw [← hhs]
      by_cases e2 : j = m
      · subst e2
        refine ⟨σ, ?_, hn.out hF32' (by omega)⟩
        rw [List.getElem?_append_right (by omega), h2]
        simp
      · obtain ⟨τ, e3, hτ⟩ := h7 j (by omega)
        refine ⟨τ, ?_, hkeep j (by omega) e2 τ hτ⟩
        rw [List.getElem?_append_left (by omega)]
        exact e3
  obtain ⟨a, h⟩ := h
  have h00 := h
  obtain ⟨h0, h1, h2, h3, -⟩ := h00
  refine v_aload_n (pc := 0) cx rfl ga0 dX4_keep_0 ?_
  refine v_getfield (pc := 1) cx flX4_18 (by assumption) gf1 dX4_keep_1 ?_
  refine v_iconst (pc := 4) cx dX4_keep_4 ?_
  refine v_icmp_lt (pc := 5) cx 12 dX4_keep_5 rfl (by omega) (fun c5 => ?_) (fun c5 => ?_)
  · exact fin E hs.length a hs (by omega) h (by rw [if_neg (by omega)]) (fun _ _ => rfl)
  · refine v_aload_n (pc := 8) cx rfl ga0 dX4_keep_8 ?_
    have e : hs.length = 5 := by omega
    rw [e] at h
    refine v_callVV (pc := 9) cx hR (c_Hi_dropOldest _ _ _ _ h) mlX4_22 (by decide) (by assumption) rfl rfl rfl (Nat.le_of_ble_eq_true rfl) ⟨Nat.le_refl _, Nat.le_refl _⟩ dX4_keep_9 (fun E2 hP => ?_)
    obtain ⟨⟨a', h'⟩, hF⟩ := hP
    exact fin E2 4 a' hs.tail (by omega) h' (by rw [if_pos (by omega)]) (fun j hj => hF j (by omega))
set_option maxRecDepth 100000 in
set_option maxHeartbeats 4000000 in
theorem c_Hi_restore (lc : Launch) (G : Gc) (E : Wd) (nh : Nat) {o os : Nat} {hs : List Sg} {σ τ : Sg} (h : isH G E o (hs ++ [σ])) (hs0 : isS G E os τ) (hd : os + 16 ≤ o ∨ o + 82 ≤ os) : CV lc G 4 yX4_restoreInto cX4_restoreInto 2 [.ref (gb G + o), .ref (gb G + os)] E nh 0 0 (fun E' => isH G E' o hs ∧ isS G E' os σ ∧ ∀ j, j ≠ o → (j < os ∨ os + 16 ≤ j) → E' j = E j) := by
  refine CV.mk (by decide +kernel) rfl (Nat.le_of_ble_eq_true rfl) ?_
  intro X hG hL cx hR hI hini
  subst hG; subst hL
  show V X E (nh, 0, 0) 0 [some (.ref (gb (fG X) + o)), some (.ref (gb (fG X) + os))] []
  obtain ⟨a, h0, h1, h2, h3, h4, h5, h6, h7⟩ := h
  rw [List.length_append, List.length_singleton] at h0 h3 h7
  obtain ⟨σ', e1, hσ⟩ := h7 hs.length (by omega)
  obtain ⟨k, hk, e⟩ := h4 hs.length (by omega)
  have e2 : σ' = σ := by
    rw [List.getElem?_append_right (Nat.le_refl _)] at e1
    simp at e1
    exact e1.symm
  subst e2
  obtain ⟨fs, hfs⟩ := hσ.obj
  refine v_aload_n (pc := 0) cx rfl ga0 dX4_restoreInto_0 ?_
  refine v_getfield (pc := 1) cx flX4_18 (by assumption) gf1 dX4_restoreInto_1 ?_
  refine v_if_le (pc := 4) cx 30 dX4_restoreInto_4 rfl (by omega) (fun c4 => ?_) (fun c4 => ?_)
  · omega
  · refine v_aload_n (pc := 7) cx rfl ga0 dX4_restoreInto_7 ?_
    refine v_dup (pc := 8) cx rfl dX4_restoreInto_8 ?_
    refine v_getfield (pc := 9) cx flX4_18 (by assumption) gf1 dX4_restoreInto_9 ?_
    refine v_iconst (pc := 12) cx dX4_restoreInto_12 ?_
    refine v_isub (pc := 13) cx dX4_restoreInto_13 ?_
    refine v_putfield (pc := 14) cx fpX4_18 h0 ⟨rfl, rfl⟩ pf1 dX4_restoreInto_14 (fun E14 hE14 hF14 => ?_)
    replace h0 := hE14
    replace h1 := (hF14 _ (by omega)).trans h1
    rw [show ((hs.length + 1 : Nat) : Int) - 1 = ((hs.length : Nat) : Int) by omega] at h0
    have hF14' : Out E E14 o (o + 1) := fun j hj => hF14 j (by omega)
    have hσ' := hσ.out hF14' (by omega)
    replace hs0 := hs0.out hF14' (by omega)
    refine v_aload_n (pc := 17) cx rfl ga1 dX4_restoreInto_17 ?_
    refine v_aload_n (pc := 18) cx rfl ga0 dX4_restoreInto_18 ?_
    refine v_getfield (pc := 19) cx flX4_11 (by assumption) gf0 dX4_restoreInto_19 ?_
    refine v_aload_n (pc := 22) cx rfl ga0 dX4_restoreInto_22 ?_
    refine v_getfield (pc := 23) cx flX4_18 (by assumption) gf1 dX4_restoreInto_23 ?_
    refine v_aaload (pc := 26) cx (hs.length) (by assumption) (by omega) (show (fun j => some (a j)) hs.length = some (a hs.length) from rfl) dX4_restoreInto_26 ?_
    obtain ⟨ft, hft⟩ := hs0.obj
    refine v_callVV (pc := 27) cx hR (c_St_copyFrom _ _ _ _ hs0 hσ' (by omega)) mlX4_25 (by decide) (by assumption) rfl rfl rfl (Nat.le_of_ble_eq_true rfl) ⟨Nat.le_refl _, Nat.le_refl _⟩ dX4_restoreInto_27 (fun E2 hP => ?_)
    obtain ⟨hn, hF⟩ := hP
    refine v_return (pc := 30) cx hI ?_ dX4_restoreInto_30
    refine ⟨⟨a, (hF _ (by omega)).trans h0, (hF _ (by omega)).trans h1, rfl, by omega, h4, h5, fun j hj => ?_, fun j hj => ?_⟩, hn, fun j hj1 hj2 => (hF j hj2).trans (hF14 j hj1)⟩
    · obtain ⟨k', hk', e'⟩ := h4 j hj
      obtain ⟨τ', hτ⟩ := h6 j hj
      exact ⟨τ', (hτ.out hF14' (by omega)).out hF (by omega)⟩
    · obtain ⟨k', hk', e'⟩ := h4 j (by omega)
      obtain ⟨τ', e3, hτ⟩ := h7 j (by omega)
      refine ⟨τ', ?_, (hτ.out hF14' (by omega)).out hF (by omega)⟩
      rw [List.getElem?_append_left (by omega)] at e3
      exact e3
