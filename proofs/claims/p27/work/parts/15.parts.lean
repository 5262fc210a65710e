/-! film, bucket, clock, gears -/
def fTaken (rain cap c : Int) : Int := min rain (max 0 (cap - c))
def fGone (rain cap c dg : Int) : Int := if rain = 0 then min (c + fTaken rain cap c) dg else 0
abbrev oFi (c d : Int) : va_E := .inr (2, [.int (iI c), .int (iI d)])
set_option maxRecDepth 100000 in
set_option maxHeartbeats 4000000 in
theorem c_Fi_passTick (lc : Launch) (G : Gc) (E : Wd) (nh : Nat) {o : Nat} {rain cap dg c d : Int} (h : E o = some (oFi c d)) (hr : (0 ≤ rain ∧ rain ≤ 2400) ∧ (0 ≤ cap ∧ cap ≤ 200) ∧ (0 ≤ dg ∧ dg ≤ 50) ∧ (0 ≤ c ∧ c ≤ 200)) : CI lc G 1 yX2_passTick cX2_passTick 6 .int [.ref (gb G + o), .int (iI rain), .int (iI cap), .int (iI dg)] E nh 0 0 (fun v E' => v = rain - fTaken rain cap c ∧ E' o = some (oFi (c + fTaken rain cap c - fGone rain cap c dg) (d + fGone rain cap c dg)) ∧ Out E E' o (o + 1)) := by
  refine CI.mk (by decide +kernel) rfl (Nat.le_of_ble_eq_true rfl) ?_
  intro X hG hL cx hR hI
  subst hG; subst hL
  show V X E (nh, 0, 0) 0 [some (.ref (gb (fG X) + o)), some (.int (iI rain)), some (.int (iI cap)), some (.int (iI dg)), none, none] []
  have h0 := h
  have hFr : Out E E o (o + 1) := fun j hj => rfl
  refine v_iload_n (pc := 0) cx rfl ga1 dX2_passTick_0 ?_
  refine v_iconst (pc := 1) cx dX2_passTick_1 ?_
  refine v_iload_n (pc := 2) cx rfl ga2 dX2_passTick_2 ?_
  refine v_aload_n (pc := 3) cx rfl ga0 dX2_passTick_3 ?_
  refine v_getfield (pc := 4) cx flX2_7 (by assumption) gf0 dX2_passTick_4 ?_
  refine v_isub (pc := 7) cx dX2_passTick_7 ?_
  refine v_callSI (pc := 8) cx hR (c_max _ _ _ _ (by omega)) mlX2_16 (by decide) rfl (Nat.le_of_ble_eq_true rfl) ⟨Nat.le_refl _, Nat.le_refl _⟩ dX2_passTick_8 (fun v2 E3 hP => ?_)
  obtain ⟨rfl, rfl⟩ := hP
  refine v_callSI (pc := 11) cx hR (c_min _ _ _ _ (by omega)) mlX2_22 (by decide) rfl (Nat.le_of_ble_eq_true rfl) ⟨Nat.le_refl _, Nat.le_refl _⟩ dX2_passTick_11 (fun v2 E3 hP => ?_)
  obtain ⟨rfl, rfl⟩ := hP
  refine v_istore (pc := 14) cx (sa4 rfl) dX2_passTick_14 ?_
  refine v_aload_n (pc := 16) cx rfl ga0 dX2_passTick_16 ?_
  refine v_dup (pc := 17) cx rfl dX2_passTick_17 ?_
  refine v_getfield (pc := 18) cx flX2_7 (by assumption) gf0 dX2_passTick_18 ?_
  refine v_iload (pc := 21) cx ga4 dX2_passTick_21 ?_
  refine v_iadd (pc := 23) cx dX2_passTick_23 ?_
  refine v_putfield (pc := 24) cx fpX2_7 h0 ⟨rfl, rfl⟩ pf0 dX2_passTick_24 (fun E24 hE24 hF24 => ?_)
  replace h0 := hE24
  replace hFr := fun j hj => (hF24 j (by omega)).trans (hFr j hj)
  refine v_iload_n (pc := 27) cx rfl ga1 dX2_passTick_27 ?_
  refine v_if_ne (pc := 28) cx 63 dX2_passTick_28 rfl (by omega) (fun c28 => ?_) (fun c28 => ?_)
  · refine v_iload_n (pc := 63) cx rfl ga1 dX2_passTick_63 ?_
    refine v_iload (pc := 64) cx ga4 dX2_passTick_64 ?_
    refine v_isub (pc := 66) cx dX2_passTick_66 ?_
    refine v_ireturn (pc := 67) cx hI rfl ?_ dX2_passTick_67
    have e : fGone rain cap c dg = 0 := by unfold fGone; rw [if_neg c28]
    rw [e, Int.sub_zero, Int.add_zero]
    exact ⟨rfl, h0, hFr⟩
  · refine v_aload_n (pc := 31) cx rfl ga0 dX2_passTick_31 ?_
    refine v_getfield (pc := 32) cx flX2_7 (by assumption) gf0 dX2_passTick_32 ?_
    refine v_iload_n (pc := 35) cx rfl ga3 dX2_passTick_35 ?_
    refine v_callSI (pc := 36) cx hR (c_min _ _ _ _ (by omega)) mlX2_22 (by decide) rfl (Nat.le_of_ble_eq_true rfl) ⟨Nat.le_refl _, Nat.le_refl _⟩ dX2_passTick_36 (fun v3 E4 hP => ?_)
    obtain ⟨rfl, rfl⟩ := hP
    refine v_istore (pc := 39) cx (sa5 rfl) dX2_passTick_39 ?_
    refine v_aload_n (pc := 41) cx rfl ga0 dX2_passTick_41 ?_
    refine v_dup (pc := 42) cx rfl dX2_passTick_42 ?_
    refine v_getfield (pc := 43) cx flX2_7 (by assumption) gf0 dX2_passTick_43 ?_
    refine v_iload (pc := 46) cx ga5 dX2_passTick_46 ?_
    refine v_isub (pc := 48) cx dX2_passTick_48 ?_
    refine v_putfield (pc := 49) cx fpX2_7 h0 ⟨rfl, rfl⟩ pf0 dX2_passTick_49 (fun E49 hE49 hF49 => ?_)
    replace h0 := hE49
    replace hFr := fun j hj => (hF49 j (by omega)).trans (hFr j hj)
    refine v_aload_n (pc := 52) cx rfl ga0 dX2_passTick_52 ?_
    refine v_dup (pc := 53) cx rfl dX2_passTick_53 ?_
    refine v_getfield (pc := 54) cx flX2_13 (by assumption) gf1 dX2_passTick_54 ?_
    refine v_iload (pc := 57) cx ga5 dX2_passTick_57 ?_
    refine v_iadd (pc := 59) cx dX2_passTick_59 ?_
    refine v_putfield (pc := 60) cx fpX2_13 h0 ⟨rfl, rfl⟩ pf1 dX2_passTick_60 (fun E60 hE60 hF60 => ?_)
    replace h0 := hE60
    replace hFr := fun j hj => (hF60 j (by omega)).trans (hFr j hj)
    refine v_iload_n (pc := 63) cx rfl ga1 dX2_passTick_63 ?_
    refine v_iload (pc := 64) cx ga4 dX2_passTick_64 ?_
    refine v_isub (pc := 66) cx dX2_passTick_66 ?_
    refine v_ireturn (pc := 67) cx hI rfl ?_ dX2_passTick_67
    have e : fGone rain cap c dg = min (c + fTaken rain cap c) dg := by unfold fGone; rw [if_pos c28]
    rw [e]
    exact ⟨rfl, h0, hFr⟩
set_option maxRecDepth 100000 in
set_option maxHeartbeats 4000000 in
theorem c_Fi_copyFrom (lc : Launch) (G : Gc) (E : Wd) (nh : Nat) {o oo : Nat} {c d c' d' : Int} (h : E o = some (oFi c d)) (h' : E oo = some (oFi c' d')) (hd : o ≠ oo) : CV lc G 0 yX2_copyFrom cX2_copyFrom 2 [.ref (gb G + o), .ref (gb G + oo)] E nh 0 0 (fun E' => E' o = some (oFi c' d') ∧ Out E E' o (o + 1)) := by
  refine CV.mk (by decide +kernel) rfl (Nat.le_of_ble_eq_true rfl) ?_
  intro X hG hL cx hR hI hini
  subst hG; subst hL
  show V X E (nh, 0, 0) 0 [some (.ref (gb (fG X) + o)), some (.ref (gb (fG X) + oo))] []
  have h0 := h
  have g0 := h'
  have hFr : Out E E o (o + 1) := fun j hj => rfl
  refine v_aload_n (pc := 0) cx rfl ga0 dX2_copyFrom_0 ?_
  refine v_aload_n (pc := 1) cx rfl ga1 dX2_copyFrom_1 ?_
  refine v_getfield (pc := 2) cx flX2_7 (by assumption) gf0 dX2_copyFrom_2 ?_
  refine v_putfield (pc := 5) cx fpX2_7 h0 ⟨rfl, rfl⟩ pf0 dX2_copyFrom_5 (fun E5 hE5 hF5 => ?_)
  replace h0 := hE5
  replace g0 := (hF5 _ (by omega)).trans g0
  replace hFr := fun j hj => (hF5 j (by omega)).trans (hFr j hj)
  refine v_aload_n (pc := 8) cx rfl ga0 dX2_copyFrom_8 ?_
  refine v_aload_n (pc := 9) cx rfl ga1 dX2_copyFrom_9 ?_
  refine v_getfield (pc := 10) cx flX2_13 (by assumption) gf1 dX2_copyFrom_10 ?_
  refine v_putfield (pc := 13) cx fpX2_13 h0 ⟨rfl, rfl⟩ pf1 dX2_copyFrom_13 (fun E13 hE13 hF13 => ?_)
  replace h0 := hE13
  replace g0 := (hF13 _ (by omega)).trans g0
  replace hFr := fun j hj => (hF13 j (by omega)).trans (hFr j hj)
  refine v_return (pc := 16) cx hI ?_ dX2_copyFrom_16
  exact ⟨h0, hFr⟩
abbrev BT : Type := Int × Int × Int × Int × Int × Int
abbrev oBk (B : BT) : va_E := .inr (0, [.int (iI B.1), .int (iI B.2.1), .int (iI B.2.2.1), .int (iI B.2.2.2.1), .int (iI B.2.2.2.2.1), .int (iI B.2.2.2.2.2)])
def bGone (c rain d dg : Int) : Int := if d ≠ 0 then min (c + rain) dg else 0
def bS (rain d cap tt dg : Int) (B : BT) : BT :=
  if 0 < B.2.1 then (B.1, B.2.1 - 1, B.2.2.1, B.2.2.2.1, B.2.2.2.2.1 + rain, B.2.2.2.2.2)
  else if cap ≤ B.1 + rain - bGone B.1 rain d dg then (0, tt, B.2.2.1 + cap, B.2.2.2.1 + (B.1 + rain - bGone B.1 rain d dg - cap), B.2.2.2.2.1, B.2.2.2.2.2 + bGone B.1 rain d dg)
  else (B.1 + rain - bGone B.1 rain d dg, B.2.1, B.2.2.1, B.2.2.2.1, B.2.2.2.2.1, B.2.2.2.2.2 + bGone B.1 rain d dg)
def bR (rain d cap dg : Int) (B : BT) : Int :=
  if 0 < B.2.1 then -1 else if cap ≤ B.1 + rain - bGone B.1 rain d dg then B.1 + rain - bGone B.1 rain d dg - cap else -1
set_option maxRecDepth 100000 in
set_option maxHeartbeats 4000000 in
theorem c_Bk_tip (lc : Launch) (G : Gc) (E : Wd) (nh : Nat) {o : Nat} {c tl ti ov lo dr cap tt : Int} (h : E o = some (oBk (c, tl, ti, ov, lo, dr))) : CI lc G 0 yX0_tip cX0_tip 4 .int [.ref (gb G + o), .int (iI cap), .int (iI tt)] E nh 0 0 (fun v E' => v = c - cap ∧ E' o = some (oBk (0, tt, ti + cap, ov + (c - cap), lo, dr)) ∧ Out E E' o (o + 1)) := by
  refine CI.mk (by decide +kernel) rfl (Nat.le_of_ble_eq_true rfl) ?_
  intro X hG hL cx hR hI
  subst hG; subst hL
  show V X E (nh, 0, 0) 0 [some (.ref (gb (fG X) + o)), some (.int (iI cap)), some (.int (iI tt)), none] []
  have h0 := h
  have hFr : Out E E o (o + 1) := fun j hj => rfl
  refine v_aload_n (pc := 0) cx rfl ga0 dX0_tip_0 ?_
  refine v_getfield (pc := 1) cx flX0_9 (by assumption) gf0 dX0_tip_1 ?_
  refine v_iload_n (pc := 4) cx rfl ga1 dX0_tip_4 ?_
  refine v_isub (pc := 5) cx dX0_tip_5 ?_
  refine v_istore_n (pc := 6) cx rfl (sa3 rfl) dX0_tip_6 ?_
  refine v_aload_n (pc := 7) cx rfl ga0 dX0_tip_7 ?_
  refine v_dup (pc := 8) cx rfl dX0_tip_8 ?_
  refine v_getfield (pc := 9) cx flX0_18 (by assumption) gf2 dX0_tip_9 ?_
  refine v_iload_n (pc := 12) cx rfl ga1 dX0_tip_12 ?_
  refine v_iadd (pc := 13) cx dX0_tip_13 ?_
  refine v_putfield (pc := 14) cx fpX0_18 h0 ⟨rfl, rfl⟩ pf2 dX0_tip_14 (fun E14 hE14 hF14 => ?_)
  replace h0 := hE14
  replace hFr := fun j hj => (hF14 j (by omega)).trans (hFr j hj)
  refine v_aload_n (pc := 17) cx rfl ga0 dX0_tip_17 ?_
  refine v_dup (pc := 18) cx rfl dX0_tip_18 ?_
  refine v_getfield (pc := 19) cx flX0_21 (by assumption) gf3 dX0_tip_19 ?_
  refine v_iload_n (pc := 22) cx rfl ga3 dX0_tip_22 ?_
  refine v_iadd (pc := 23) cx dX0_tip_23 ?_
  refine v_putfield (pc := 24) cx fpX0_21 h0 ⟨rfl, rfl⟩ pf3 dX0_tip_24 (fun E24 hE24 hF24 => ?_)
  replace h0 := hE24
  replace hFr := fun j hj => (hF24 j (by omega)).trans (hFr j hj)
  refine v_aload_n (pc := 27) cx rfl ga0 dX0_tip_27 ?_
  refine v_iconst (pc := 28) cx dX0_tip_28 ?_
  refine v_putfield (pc := 29) cx fpX0_9 h0 ⟨rfl, rfl⟩ pf0 dX0_tip_29 (fun E29 hE29 hF29 => ?_)
  replace h0 := hE29
  replace hFr := fun j hj => (hF29 j (by omega)).trans (hFr j hj)
  refine v_aload_n (pc := 32) cx rfl ga0 dX0_tip_32 ?_
  refine v_iload_n (pc := 33) cx rfl ga2 dX0_tip_33 ?_
  refine v_putfield (pc := 34) cx fpX0_15 h0 ⟨rfl, rfl⟩ pf1 dX0_tip_34 (fun E34 hE34 hF34 => ?_)
  replace h0 := hE34
  replace hFr := fun j hj => (hF34 j (by omega)).trans (hFr j hj)
  refine v_iload_n (pc := 37) cx rfl ga3 dX0_tip_37 ?_
  refine v_ireturn (pc := 38) cx hI rfl ?_ dX0_tip_38
  exact ⟨rfl, h0, hFr⟩
set_option maxRecDepth 100000 in
set_option maxHeartbeats 4000000 in
theorem c_Bk_passTick (lc : Launch) (G : Gc) (E : Wd) (nh : Nat) {o : Nat} {rain d cap tt dg : Int} {B : BT} (h : E o = some (oBk B)) (hr : (0 ≤ rain ∧ rain ≤ 2400) ∧ (d = 0 ∨ d = 1) ∧ (20 ≤ cap ∧ cap ≤ 500) ∧ (0 ≤ dg ∧ dg ≤ 50) ∧ (0 ≤ B.1 ∧ B.1 ≤ 100000000) ∧ (0 ≤ B.2.1 ∧ B.2.1 ≤ 20)) : CI lc G 1 yX0_passTick cX0_passTick 7 .int [.ref (gb G + o), .int (iI rain), .int (iI d), .int (iI cap), .int (iI tt), .int (iI dg)] E nh 0 0 (fun v E' => v = bR rain d cap dg B ∧ E' o = some (oBk (bS rain d cap tt dg B)) ∧ Out E E' o (o + 1)) := by
  refine CI.mk (by decide +kernel) rfl (Nat.le_of_ble_eq_true rfl) ?_
  intro X hG hL cx hR hI
  subst hG; subst hL
  show V X E (nh, 0, 0) 0 [some (.ref (gb (fG X) + o)), some (.int (iI rain)), some (.int (iI d)), some (.int (iI cap)), some (.int (iI tt)), some (.int (iI dg)), none] []
  obtain ⟨c, tl, ti, ov, lo, dr⟩ := B
  simp only at hr
  have h0 := h
  dsimp only [oBk] at h0
  have hFr : Out E E o (o + 1) := fun j hj => rfl
  have fin : ∀ (E' : Wd) (g : Int) (lw : Option Value), bGone c rain d dg = g → 0 ≤ g ∧ g ≤ c + rain → tl = 0 → E' o = some (oBk (c + rain - g, tl, ti, ov, lo, dr + g)) → Out E E' o (o + 1) → V X E' (nh, 0, 0) 76 [some (.ref (gb (fG X) + o)), some (.int (iI rain)), some (.int (iI d)), some (.int (iI cap)), some (.int (iI tt)), some (.int (iI dg)), lw] [] := by
    intro E' g lw hg hg2 htl h0 hFr
    have h00 := h0
    dsimp only [oBk] at h0
    refine v_aload_n (pc := 76) cx rfl ga0 dX0_passTick_76 ?_
    refine v_getfield (pc := 77) cx flX0_9 (by assumption) gf0 dX0_passTick_77 ?_
    refine v_iload_n (pc := 80) cx rfl ga3 dX0_passTick_80 ?_
    refine v_icmp_lt (pc := 81) cx 94 dX0_passTick_81 rfl (by omega) (fun c81 => ?_) (fun c81 => ?_)
    · refine v_iconst (pc := 94) cx dX0_passTick_94 ?_
      refine v_ireturn (pc := 95) cx hI rfl ?_ dX0_passTick_95
      unfold bR bS
      simp only
      rw [hg, if_neg (by omega), if_neg (by omega), if_neg (by omega), if_neg (by omega)]
      exact ⟨rfl, h0, hFr⟩
    · refine v_aload_n (pc := 84) cx rfl ga0 dX0_passTick_84 ?_
      refine v_iload_n (pc := 85) cx rfl ga3 dX0_passTick_85 ?_
      refine v_iload (pc := 86) cx ga4 dX0_passTick_86 ?_
      refine v_callVI (pc := 88) cx hR (c_Bk_tip _ _ _ _ h00) mlX0_36 (by decide) (by assumption) rfl rfl rfl (Nat.le_of_ble_eq_true rfl) ⟨Nat.le_refl _, Nat.le_refl _⟩ dX0_passTick_88 (fun v2 E3 hP => ?_)
      obtain ⟨rfl, h1, hF1⟩ := hP
      refine v_goto (pc := 91) cx 95 dX0_passTick_91 rfl ?_
      refine v_ireturn (pc := 95) cx hI rfl ?_ dX0_passTick_95
      unfold bR bS
      simp only
      rw [hg, if_neg (by omega), if_pos (by omega), if_neg (by omega), if_pos (by omega)]
      exact ⟨rfl, h1, fun j hj => (hF1 j hj).trans (hFr j hj)⟩
  refine v_aload_n (pc := 0) cx rfl ga0 dX0_passTick_0 ?_
  refine v_getfield (pc := 1) cx flX0_15 (by assumption) gf1 dX0_passTick_1 ?_
  refine v_if_le (pc := 4) cx 29 dX0_passTick_4 rfl (by omega) (fun c4 => ?_) (fun c4 => ?_)
  · refine v_aload_n (pc := 29) cx rfl ga0 dX0_passTick_29 ?_
    refine v_dup (pc := 30) cx rfl dX0_passTick_30 ?_
    refine v_getfield (pc := 31) cx flX0_9 (by assumption) gf0 dX0_passTick_31 ?_
    refine v_iload_n (pc := 34) cx rfl ga1 dX0_passTick_34 ?_
    refine v_iadd (pc := 35) cx dX0_passTick_35 ?_
    refine v_putfield (pc := 36) cx fpX0_9 h0 ⟨rfl, rfl⟩ pf0 dX0_passTick_36 (fun E36 hE36 hF36 => ?_)
    replace h0 := hE36
    replace hFr := fun j hj => (hF36 j (by omega)).trans (hFr j hj)
    refine v_iload_n (pc := 39) cx rfl ga2 dX0_passTick_39 ?_
    refine v_if_eq (pc := 40) cx 76 dX0_passTick_40 rfl (by omega) (fun c40 => ?_) (fun c40 => ?_)
    · refine fin _ 0 _ (by unfold bGone; rw [if_neg (by omega)]) (by omega) (by omega) ?_ hFr
      rw [Int.sub_zero, Int.add_zero]
      exact h0
    · refine v_aload_n (pc := 43) cx rfl ga0 dX0_passTick_43 ?_
      refine v_getfield (pc := 44) cx flX0_9 (by assumption) gf0 dX0_passTick_44 ?_
      refine v_iload (pc := 47) cx ga5 dX0_passTick_47 ?_
      refine v_callSI (pc := 49) cx hR (c_min _ _ _ _ (by omega)) mlX0_30 (by decide) rfl (Nat.le_of_ble_eq_true rfl) ⟨Nat.le_refl _, Nat.le_refl _⟩ dX0_passTick_49 (fun v3 E4 hP => ?_)
      obtain ⟨rfl, rfl⟩ := hP
      refine v_istore (pc := 52) cx (sa6 rfl) dX0_passTick_52 ?_
      refine v_aload_n (pc := 54) cx rfl ga0 dX0_passTick_54 ?_
      refine v_dup (pc := 55) cx rfl dX0_passTick_55 ?_
      refine v_getfield (pc := 56) cx flX0_9 (by assumption) gf0 dX0_passTick_56 ?_
      refine v_iload (pc := 59) cx ga6 dX0_passTick_59 ?_
      refine v_isub (pc := 61) cx dX0_passTick_61 ?_
      refine v_putfield (pc := 62) cx fpX0_9 h0 ⟨rfl, rfl⟩ pf0 dX0_passTick_62 (fun E62 hE62 hF62 => ?_)
      replace h0 := hE62
      replace hFr := fun j hj => (hF62 j (by omega)).trans (hFr j hj)
      refine v_aload_n (pc := 65) cx rfl ga0 dX0_passTick_65 ?_
      refine v_dup (pc := 66) cx rfl dX0_passTick_66 ?_
      refine v_getfield (pc := 67) cx flX0_27 (by assumption) gf5 dX0_passTick_67 ?_
      refine v_iload (pc := 70) cx ga6 dX0_passTick_70 ?_
      refine v_iadd (pc := 72) cx dX0_passTick_72 ?_
      refine v_putfield (pc := 73) cx fpX0_27 h0 ⟨rfl, rfl⟩ pf5 dX0_passTick_73 (fun E73 hE73 hF73 => ?_)
      replace h0 := hE73
      replace hFr := fun j hj => (hF73 j (by omega)).trans (hFr j hj)
      exact fin _ (min (c + rain) dg) _ (by unfold bGone; rw [if_pos c40]) (by omega) (by omega) h0 hFr
  · refine v_aload_n (pc := 7) cx rfl ga0 dX0_passTick_7 ?_
    refine v_dup (pc := 8) cx rfl dX0_passTick_8 ?_
    refine v_getfield (pc := 9) cx flX0_24 (by assumption) gf4 dX0_passTick_9 ?_
    refine v_iload_n (pc := 12) cx rfl ga1 dX0_passTick_12 ?_
    refine v_iadd (pc := 13) cx dX0_passTick_13 ?_
    refine v_putfield (pc := 14) cx fpX0_24 h0 ⟨rfl, rfl⟩ pf4 dX0_passTick_14 (fun E14 hE14 hF14 => ?_)
    replace h0 := hE14
    replace hFr := fun j hj => (hF14 j (by omega)).trans (hFr j hj)
    refine v_aload_n (pc := 17) cx rfl ga0 dX0_passTick_17 ?_
    refine v_dup (pc := 18) cx rfl dX0_passTick_18 ?_
    refine v_getfield (pc := 19) cx flX0_15 (by assumption) gf1 dX0_passTick_19 ?_
    refine v_iconst (pc := 22) cx dX0_passTick_22 ?_
    refine v_isub (pc := 23) cx dX0_passTick_23 ?_
    refine v_putfield (pc := 24) cx fpX0_15 h0 ⟨rfl, rfl⟩ pf1 dX0_passTick_24 (fun E24 hE24 hF24 => ?_)
    replace h0 := hE24
    replace hFr := fun j hj => (hF24 j (by omega)).trans (hFr j hj)
    refine v_iconst (pc := 27) cx dX0_passTick_27 ?_
    refine v_ireturn (pc := 28) cx hI rfl ?_ dX0_passTick_28
    unfold bR bS
    simp only
    rw [if_pos c4, if_pos c4]
    exact ⟨rfl, h0, hFr⟩
set_option maxRecDepth 100000 in
set_option maxHeartbeats 4000000 in
theorem c_Bk_copyFrom (lc : Launch) (G : Gc) (E : Wd) (nh : Nat) {o oo : Nat} {B B' : BT} (h : E o = some (oBk B)) (h' : E oo = some (oBk B')) (hd : o ≠ oo) : CV lc G 0 yX0_copyFrom cX0_copyFrom 2 [.ref (gb G + o), .ref (gb G + oo)] E nh 0 0 (fun E' => E' o = some (oBk B') ∧ Out E E' o (o + 1)) := by
  refine CV.mk (by decide +kernel) rfl (Nat.le_of_ble_eq_true rfl) ?_
  intro X hG hL cx hR hI hini
  subst hG; subst hL
  show V X E (nh, 0, 0) 0 [some (.ref (gb (fG X) + o)), some (.ref (gb (fG X) + oo))] []
  have h0 := h
  have g0 := h'
  have hFr : Out E E o (o + 1) := fun j hj => rfl
  refine v_aload_n (pc := 0) cx rfl ga0 dX0_copyFrom_0 ?_
  refine v_aload_n (pc := 1) cx rfl ga1 dX0_copyFrom_1 ?_
  refine v_getfield (pc := 2) cx flX0_9 (by assumption) gf0 dX0_copyFrom_2 ?_
  refine v_putfield (pc := 5) cx fpX0_9 h0 ⟨rfl, rfl⟩ pf0 dX0_copyFrom_5 (fun E5 hE5 hF5 => ?_)
  replace h0 := hE5
  replace g0 := (hF5 _ (by omega)).trans g0
  replace hFr := fun j hj => (hF5 j (by omega)).trans (hFr j hj)
  refine v_aload_n (pc := 8) cx rfl ga0 dX0_copyFrom_8 ?_
  refine v_aload_n (pc := 9) cx rfl ga1 dX0_copyFrom_9 ?_
  refine v_getfield (pc := 10) cx flX0_15 (by assumption) gf1 dX0_copyFrom_10 ?_
  refine v_putfield (pc := 13) cx fpX0_15 h0 ⟨rfl, rfl⟩ pf1 dX0_copyFrom_13 (fun E13 hE13 hF13 => ?_)
  replace h0 := hE13
  replace g0 := (hF13 _ (by omega)).trans g0
  replace hFr := fun j hj => (hF13 j (by omega)).trans (hFr j hj)
  refine v_aload_n (pc := 16) cx rfl ga0 dX0_copyFrom_16 ?_
  refine v_aload_n (pc := 17) cx rfl ga1 dX0_copyFrom_17 ?_
  refine v_getfield (pc := 18) cx flX0_18 (by assumption) gf2 dX0_copyFrom_18 ?_
  refine v_putfield (pc := 21) cx fpX0_18 h0 ⟨rfl, rfl⟩ pf2 dX0_copyFrom_21 (fun E21 hE21 hF21 => ?_)
  replace h0 := hE21
  replace g0 := (hF21 _ (by omega)).trans g0
  replace hFr := fun j hj => (hF21 j (by omega)).trans (hFr j hj)
  refine v_aload_n (pc := 24) cx rfl ga0 dX0_copyFrom_24 ?_
  refine v_aload_n (pc := 25) cx rfl ga1 dX0_copyFrom_25 ?_
  refine v_getfield (pc := 26) cx flX0_21 (by assumption) gf3 dX0_copyFrom_26 ?_
  refine v_putfield (pc := 29) cx fpX0_21 h0 ⟨rfl, rfl⟩ pf3 dX0_copyFrom_29 (fun E29 hE29 hF29 => ?_)
  replace h0 := hE29
  replace g0 := (hF29 _ (by omega)).trans g0
  replace hFr := fun j hj => (hF29 j (by omega)).trans (hFr j hj)
  refine v_aload_n (pc := 32) cx rfl ga0 dX0_copyFrom_32 ?_
  refine v_aload_n (pc := 33) cx rfl ga1 dX0_copyFrom_33 ?_
  refine v_getfield (pc := 34) cx flX0_24 (by assumption) gf4 dX0_copyFrom_34 ?_
  refine v_putfield (pc := 37) cx fpX0_24 h0 ⟨rfl, rfl⟩ pf4 dX0_copyFrom_37 (fun E37 hE37 hF37 => ?_)
  replace h0 := hE37
  replace g0 := (hF37 _ (by omega)).trans g0
  replace hFr := fun j hj => (hF37 j (by omega)).trans (hFr j hj)
  refine v_aload_n (pc := 40) cx rfl ga0 dX0_copyFrom_40 ?_
  refine v_aload_n (pc := 41) cx rfl ga1 dX0_copyFrom_41 ?_
  refine v_getfield (pc := 42) cx flX0_27 (by assumption) gf5 dX0_copyFrom_42 ?_
  refine v_putfield (pc := 45) cx fpX0_27 h0 ⟨rfl, rfl⟩ pf5 dX0_copyFrom_45 (fun E45 hE45 hF45 => ?_)
  replace h0 := hE45
  replace g0 := (hF45 _ (by omega)).trans g0
  replace hFr := fun j hj => (hF45 j (by omega)).trans (hFr j hj)
  refine v_return (pc := 48) cx hI ?_ dX0_copyFrom_48
  exact ⟨h0, hFr⟩
abbrev oCl (r c : Int) : va_E := .inr (1, [.int (iI r), .int (iI c)])
set_option maxRecDepth 100000 in
set_option maxHeartbeats 4000000 in
theorem c_Cl_passTick (lc : Launch) (G : Gc) (E : Wd) (nh : Nat) {o : Nat} {r c : Int} (h : E o = some (oCl r c)) (hr : 0 ≤ r ∧ r ≤ 2000) : CV lc G 0 yX1_passTick cX1_passTick 1 [.ref (gb G + o)] E nh 0 0 (fun E' => E' o = some (oCl (if 0 < r then r - 1 else r) (if 0 < r then c + 1 else c)) ∧ Out E E' o (o + 1)) := by
  refine CV.mk (by decide +kernel) rfl (Nat.le_of_ble_eq_true rfl) ?_
  intro X hG hL cx hR hI hini
  subst hG; subst hL
  show V X E (nh, 0, 0) 0 [some (.ref (gb (fG X) + o))] []
  have h0 := h
  have hFr : Out E E o (o + 1) := fun j hj => rfl
  refine v_aload_n (pc := 0) cx rfl ga0 dX1_passTick_0 ?_
  refine v_getfield (pc := 1) cx flX1_13 (by assumption) gf0 dX1_passTick_1 ?_
  refine v_if_le (pc := 4) cx 27 dX1_passTick_4 rfl (by omega) (fun c4 => ?_) (fun c4 => ?_)
  · refine v_return (pc := 27) cx hI ?_ dX1_passTick_27
    rw [if_neg (by omega), if_neg (by omega)]
    exact ⟨h0, hFr⟩
  · refine v_aload_n (pc := 7) cx rfl ga0 dX1_passTick_7 ?_
    refine v_dup (pc := 8) cx rfl dX1_passTick_8 ?_
    refine v_getfield (pc := 9) cx flX1_13 (by assumption) gf0 dX1_passTick_9 ?_
    refine v_iconst (pc := 12) cx dX1_passTick_12 ?_
    refine v_isub (pc := 13) cx dX1_passTick_13 ?_
    refine v_putfield (pc := 14) cx fpX1_13 h0 ⟨rfl, rfl⟩ pf0 dX1_passTick_14 (fun E14 hE14 hF14 => ?_)
    replace h0 := hE14
    replace hFr := fun j hj => (hF14 j (by omega)).trans (hFr j hj)
    refine v_aload_n (pc := 17) cx rfl ga0 dX1_passTick_17 ?_
    refine v_dup (pc := 18) cx rfl dX1_passTick_18 ?_
    refine v_getfield (pc := 19) cx flX1_19 (by assumption) gf1 dX1_passTick_19 ?_
    refine v_iconst (pc := 22) cx dX1_passTick_22 ?_
    refine v_iadd (pc := 23) cx dX1_passTick_23 ?_
    refine v_putfield (pc := 24) cx fpX1_19 h0 ⟨rfl, rfl⟩ pf1 dX1_passTick_24 (fun E24 hE24 hF24 => ?_)
    replace h0 := hE24
    replace hFr := fun j hj => (hF24 j (by omega)).trans (hFr j hj)
    refine v_return (pc := 27) cx hI ?_ dX1_passTick_27
    rw [if_pos c4, if_pos c4]
    exact ⟨h0, hFr⟩
set_option maxRecDepth 100000 in
set_option maxHeartbeats 4000000 in
theorem c_Cl_copyFrom (lc : Launch) (G : Gc) (E : Wd) (nh : Nat) {o oo : Nat} {c d c' d' : Int} (h : E o = some (oCl c d)) (h' : E oo = some (oCl c' d')) (hd : o ≠ oo) : CV lc G 0 yX1_copyFrom cX1_copyFrom 2 [.ref (gb G + o), .ref (gb G + oo)] E nh 0 0 (fun E' => E' o = some (oCl c' d') ∧ Out E E' o (o + 1)) := by
  refine CV.mk (by decide +kernel) rfl (Nat.le_of_ble_eq_true rfl) ?_
  intro X hG hL cx hR hI hini
  subst hG; subst hL
  show V X E (nh, 0, 0) 0 [some (.ref (gb (fG X) + o)), some (.ref (gb (fG X) + oo))] []
  have h0 := h
  have g0 := h'
  have hFr : Out E E o (o + 1) := fun j hj => rfl
  refine v_aload_n (pc := 0) cx rfl ga0 dX1_copyFrom_0 ?_
  refine v_aload_n (pc := 1) cx rfl ga1 dX1_copyFrom_1 ?_
  refine v_getfield (pc := 2) cx flX1_13 (by assumption) gf0 dX1_copyFrom_2 ?_
  refine v_putfield (pc := 5) cx fpX1_13 h0 ⟨rfl, rfl⟩ pf0 dX1_copyFrom_5 (fun E5 hE5 hF5 => ?_)
  replace h0 := hE5
  replace g0 := (hF5 _ (by omega)).trans g0
  replace hFr := fun j hj => (hF5 j (by omega)).trans (hFr j hj)
  refine v_aload_n (pc := 8) cx rfl ga0 dX1_copyFrom_8 ?_
  refine v_aload_n (pc := 9) cx rfl ga1 dX1_copyFrom_9 ?_
  refine v_getfield (pc := 10) cx flX1_19 (by assumption) gf1 dX1_copyFrom_10 ?_
  refine v_putfield (pc := 13) cx fpX1_19 h0 ⟨rfl, rfl⟩ pf1 dX1_copyFrom_13 (fun E13 hE13 hF13 => ?_)
  replace h0 := hE13
  replace g0 := (hF13 _ (by omega)).trans g0
  replace hFr := fun j hj => (hF13 j (by omega)).trans (hFr j hj)
  refine v_return (pc := 16) cx hI ?_ dX1_copyFrom_16
  exact ⟨h0, hFr⟩
def rGe (G : Gc) (E : Wd) (o : Nat) (n : Int) (f s : Nat → Int) : Prop :=
  E o = some (.inr (3, [.ref (gb G + (o + 1)), .ref (gb G + (o + 2)), .int (iI n)])) ∧ E (o + 1) = some (AI G 3 f) ∧ E (o + 2) = some (AI G 3 s)
theorem rGe.out {G : Gc} {E E' : Wd} {o : Nat} {n : Int} {f s : Nat → Int} {x y : Nat} (h : rGe G E o n f s) (hE : Out E E' x y) (hxy : o + 3 ≤ x ∨ y ≤ o) : rGe G E' o n f s :=
  ⟨(hE _ (by omega)).trans h.1, (hE _ (by omega)).trans h.2.1, (hE _ (by omega)).trans h.2.2⟩
set_option maxRecDepth 100000 in
set_option maxHeartbeats 4000000 in
theorem c_Ge_copyFrom (lc : Launch) (G : Gc) (E : Wd) (nh : Nat) {o oo : Nat} {m m' : Int} {f s f' s' : Nat → Int} (h : rGe G E o m f s) (h' : rGe G E oo m' f' s') (hd : o + 3 ≤ oo ∨ oo + 3 ≤ o) : CV lc G 2 yX3_copyFrom cX3_copyFrom 2 [.ref (gb G + o), .ref (gb G + oo)] E nh 0 0 (fun E' => (∃ f2 s2 : Nat → Int, rGe G E' o m' f2 s2 ∧ ∀ j, j < 3 → f2 j = f' j ∧ s2 j = s' j) ∧ Out E E' o (o + 3)) := by
  refine CV.mk (by decide +kernel) rfl (Nat.le_of_ble_eq_true rfl) ?_
  intro X hG hL cx hR hI hini
  subst hG; subst hL
  show V X E (nh, 0, 0) 0 [some (.ref (gb (fG X) + o)), some (.ref (gb (fG X) + oo))] []
  obtain ⟨h0, hf, hs⟩ := id h
  obtain ⟨g0, gf, gs⟩ := id h'
  have hFr : Out E E o (o + 3) := fun j hj => rfl
  refine v_aload_n (pc := 0) cx rfl ga1 dX3_copyFrom_0 ?_
  refine v_getfield (pc := 1) cx flX3_9 (by assumption) gf0 dX3_copyFrom_1 ?_
  refine v_aload_n (pc := 4) cx rfl ga0 dX3_copyFrom_4 ?_
  refine v_getfield (pc := 5) cx flX3_9 (by assumption) gf0 dX3_copyFrom_5 ?_
  refine v_callSV (pc := 8) cx hR (c_copyRow _ _ _ _ (by omega) gf hf) mlX3_18 (by decide) rfl (Nat.le_of_ble_eq_true rfl) ⟨Nat.le_refl _, Nat.le_refl _⟩ dX3_copyFrom_8 (fun E1 hP => ?_)
  obtain ⟨hf, hF⟩ := hP
  replace h0 := (hF _ (by omega)).trans h0
  replace hs := (hF _ (by omega)).trans hs
  replace g0 := (hF _ (by omega)).trans g0
  replace gf := (hF _ (by omega)).trans gf
  replace gs := (hF _ (by omega)).trans gs
  replace hFr := fun j hj => (hF j (by omega)).trans (hFr j hj)
  refine v_aload_n (pc := 11) cx rfl ga1 dX3_copyFrom_11 ?_
  refine v_getfield (pc := 12) cx flX3_15 (by assumption) gf1 dX3_copyFrom_12 ?_
  refine v_aload_n (pc := 15) cx rfl ga0 dX3_copyFrom_15 ?_
  refine v_getfield (pc := 16) cx flX3_15 (by assumption) gf1 dX3_copyFrom_16 ?_
  refine v_callSV (pc := 19) cx hR (c_copyRow _ _ _ _ (by omega) gs hs) mlX3_18 (by decide) rfl (Nat.le_of_ble_eq_true rfl) ⟨Nat.le_refl _, Nat.le_refl _⟩ dX3_copyFrom_19 (fun E1 hP => ?_)
  obtain ⟨hs, hF⟩ := hP
  replace h0 := (hF _ (by omega)).trans h0
  replace hf := (hF _ (by omega)).trans hf
  replace g0 := (hF _ (by omega)).trans g0
  replace gf := (hF _ (by omega)).trans gf
  replace gs := (hF _ (by omega)).trans gs
  replace hFr := fun j hj => (hF j (by omega)).trans (hFr j hj)
  refine v_aload_n (pc := 22) cx rfl ga0 dX3_copyFrom_22 ?_
  refine v_aload_n (pc := 23) cx rfl ga1 dX3_copyFrom_23 ?_
  refine v_getfield (pc := 24) cx flX3_22 (by assumption) gf2 dX3_copyFrom_24 ?_
  refine v_putfield (pc := 27) cx fpX3_22 h0 ⟨rfl, rfl⟩ pf2 dX3_copyFrom_27 (fun E27 hE27 hF27 => ?_)
  replace h0 := hE27
  replace hf := (hF27 _ (by omega)).trans hf
  replace hs := (hF27 _ (by omega)).trans hs
  replace hFr := fun j hj => (hF27 j (by omega)).trans (hFr j hj)
  refine v_return (pc := 30) cx hI ?_ dX3_copyFrom_30
  exact ⟨⟨_, _, ⟨h0, hf, hs⟩, fun j hj => ⟨cpyI_in hj, cpyI_in hj⟩⟩, hFr⟩
/-! the drum's place: longs, as both sides reckon -/
def pL (c : Int64) (f : Nat → Int) : Nat → Int64
  | 0 => c
  | k + 1 => pL c f k * (iI (f k)).toInt64
def plc (cnt : Int) (f s : Nat → Int) (m : Nat) (teeth : Int) : Int :=
  (pL (iI cnt).toInt64 f m / pL 1 s m - pL (iI cnt).toInt64 f m / pL 1 s m / (iI teeth).toInt64 * (iI teeth).toInt64).toInt32.toInt
theorem iI_l {z : Int} (h : 0 ≤ z ∧ z < 2147483648) : (iI z).toInt64 = lN z.toNat := by
  obtain ⟨k, rfl⟩ := Int.eq_ofNat_of_zero_le h.1
  rw [iI_nI, nI_l (by omega)]
  rfl
theorem pL_ne {s : Nat → Int} : ∀ (m : Nat), m ≤ 3 → (∀ j, j < m → 8 ≤ s j ∧ s j ≤ 120) → ∃ k : Nat, pL 1 s m = lN k ∧ 1 ≤ k ∧ k ≤ 120 ^ m := by
  intro m
  induction m with
  | zero => intro _ _; exact ⟨1, rfl, Nat.le_refl _, Nat.le_refl _⟩
  | succ m ih =>
    intro hm hs
    obtain ⟨k, e, h1, h2⟩ := ih (by omega) (fun j hj => hs j (by omega))
    obtain ⟨h3, h4⟩ := hs m (by omega)
    refine ⟨k * (s m).toNat, ?_, ?_, ?_⟩
    · simp only [pL]
      rw [e, iI_l ⟨by omega, by omega⟩, lN_mul]
    · have : 1 ≤ (s m).toNat := by omega
      exact Nat.mul_le_mul h1 this
    · rw [Nat.pow_succ]
      exact Nat.mul_le_mul h2 (by omega)
theorem pL_nz {s : Nat → Int} {m : Nat} (hm : m ≤ 3) (hs : ∀ j, j < m → 8 ≤ s j ∧ s j ≤ 120) : ¬ pL 1 s m = 0 := by
  obtain ⟨k, e, h1, h2⟩ := pL_ne m hm hs
  have h3 : (120 : Nat) ^ m ≤ 120 ^ 3 := Nat.pow_le_pow_right (by decide) hm
  rw [e]
  intro h
  have : lN k = lN 0 := h
  rw [pk_lEQ (by omega) (by decide)] at this
  omega
theorem te_nz {z : Int} (h : 10 ≤ z ∧ z ≤ 1000) : ¬ (iI z).toInt64 = 0 := by
  rw [iI_l ⟨by omega, by omega⟩]
  intro h2
  have : lN z.toNat = lN 0 := h2
  rw [pk_lEQ (by omega) (by decide)] at this
  omega
theorem cmp_nz {x : Int64} (h : ¬ x = 0) : lg_cmp x 0 = iI 1 ∨ lg_cmp x 0 = iI (-1) := by
  unfold lg_cmp
  by_cases h1 : (0 : Int64) < x
  · left
    rw [if_pos h1]
    rfl
  · right
    rw [if_neg h1, if_neg h]
    rfl
set_option maxRecDepth 100000 in
set_option maxHeartbeats 4000000 in
theorem c_Ge_placeOf (lc : Launch) (G : Gc) (E : Wd) (nh : Nat) {o m : Nat} {cnt te : Int} {f s : Nat → Int} (h : rGe G E o (m : Int) f s) (hm : m ≤ 3) (hs0 : ∀ j, j < m → 8 ≤ s j ∧ s j ≤ 120) (ht : 10 ≤ te ∧ te ≤ 1000) : CI lc G 0 yX3_placeOf cX3_placeOf 8 .int [.ref (gb G + o), .int (iI cnt), .int (iI te)] E nh 0 0 (fun v E' => v = plc cnt f s m te ∧ E' = E) := by
  refine CI.mk (by decide +kernel) rfl (Nat.le_of_ble_eq_true rfl) ?_
  intro X hG hL cx hR hI
  subst hG; subst hL
  show V X E (nh, 0, 0) 0 [some (.ref (gb (fG X) + o)), some (.int (iI cnt)), some (.int (iI te)), none, none, none, none, none] []
  obtain ⟨h0, hf, hs⟩ := h
  have hz := pL_nz hm hs0
  have hz2 := te_nz ht
  have fin : V X E (nh, 0, 0) 55 [some (.ref (gb (fG X) + o)), some (.int (iI cnt)), some (.int (iI te)), some (.long (pL (iI cnt).toInt64 f m)), none, some (.long (pL 1 s m)), none, some (.int (iI (m : Int)))] [] := by
    refine v_iload_n (pc := 55) cx rfl ga2 dX3_placeOf_55 ?_
    refine v_if_ne (pc := 56) cx 61 dX3_placeOf_56 rfl (by omega) (fun c56 => ?_) (fun c56 => ?_)
    · refine v_lload_n (pc := 61) cx rfl ga3 dX3_placeOf_61 ?_
      refine v_lload (pc := 62) cx ga5 dX3_placeOf_62 ?_
      refine v_ldiv (pc := 64) cx (by assumption) dX3_placeOf_64 ?_
      refine v_iload_n (pc := 65) cx rfl ga2 dX3_placeOf_65 ?_
      refine v_i2l (pc := 66) cx dX3_placeOf_66 ?_
      refine v_lrem (pc := 67) cx (by assumption) dX3_placeOf_67 ?_
      refine v_l2i (pc := 68) cx dX3_placeOf_68 ?_
      rw [iI_of (Int64.toInt32 _)]
      refine v_ireturn (pc := 69) cx hI rfl ?_ dX3_placeOf_69
      exact ⟨rfl, rfl⟩
    · omega
  have loop : ∀ (d k : Nat), k ≤ m → m - k < d → V X E (nh, 0, 0) 9 [some (.ref (gb (fG X) + o)), some (.int (iI cnt)), some (.int (iI te)), some (.long (pL (iI cnt).toInt64 f k)), none, some (.long (pL 1 s k)), none, some (.int (iI (k : Int)))] [] := by
    intro d
    induction d with
    | zero => intro k hk hd; omega
    | succ d ih =>
      intro k hk hd
      refine v_iload (pc := 9) cx ga7 dX3_placeOf_9 ?_
      refine v_aload_n (pc := 11) cx rfl ga0 dX3_placeOf_11 ?_
      refine v_getfield (pc := 12) cx flX3_22 (by assumption) gf2 dX3_placeOf_12 ?_
      refine v_icmp_ge (pc := 15) cx 48 dX3_placeOf_15 rfl (by omega) (fun c15 => ?_) (fun c15 => ?_)
      · have e : k = m := by omega
        subst e
        refine v_lload (pc := 48) cx ga5 dX3_placeOf_48 ?_
        refine v_lconst (pc := 50) (v := 0) cx rfl dX3_placeOf_50 ?_
        refine v_lcmp (pc := 51) cx dX3_placeOf_51 ?_
        rcases cmp_nz hz with e | e
        · rw [e]
          refine v_if_eq (pc := 52) cx 59 dX3_placeOf_52 rfl (by omega) (fun c52 => ?_) (fun c52 => ?_)
          · omega
          · exact fin
        · rw [e]
          refine v_if_eq (pc := 52) cx 59 dX3_placeOf_52 rfl (by omega) (fun c52 => ?_) (fun c52 => ?_)
          · omega
          · exact fin
      · refine v_lload_n (pc := 18) cx rfl ga3 dX3_placeOf_18 ?_
        refine v_aload_n (pc := 19) cx rfl ga0 dX3_placeOf_19 ?_
        refine v_getfield (pc := 20) cx flX3_9 (by assumption) gf0 dX3_placeOf_20 ?_
        refine v_iload (pc := 23) cx ga7 dX3_placeOf_23 ?_
        refine v_iaload (pc := 25) cx (k) (by assumption) (by omega) dX3_placeOf_25 ?_
        refine v_i2l (pc := 26) cx dX3_placeOf_26 ?_
        refine v_lmul (pc := 27) cx dX3_placeOf_27 ?_
        refine v_lstore_n (pc := 28) cx rfl (sl3 rfl) dX3_placeOf_28 ?_
        refine v_lload (pc := 29) cx ga5 dX3_placeOf_29 ?_
        refine v_aload_n (pc := 31) cx rfl ga0 dX3_placeOf_31 ?_
        refine v_getfield (pc := 32) cx flX3_15 (by assumption) gf1 dX3_placeOf_32 ?_
        refine v_iload (pc := 35) cx ga7 dX3_placeOf_35 ?_
        refine v_iaload (pc := 37) cx (k) (by assumption) (by omega) dX3_placeOf_37 ?_
        refine v_i2l (pc := 38) cx dX3_placeOf_38 ?_
        refine v_lmul (pc := 39) cx dX3_placeOf_39 ?_
        refine v_lstore (pc := 40) cx (sl5 rfl) dX3_placeOf_40 ?_
        refine v_iinc (pc := 42) cx ga7 (sa7 rfl) dX3_placeOf_42 ?_
        refine v_goto (pc := 45) cx 9 dX3_placeOf_45 rfl ?_
        exact ih (k + 1) (by omega) (by omega)
  refine v_iload_n (pc := 0) cx rfl ga1 dX3_placeOf_0 ?_
  refine v_i2l (pc := 1) cx dX3_placeOf_1 ?_
  refine v_lstore_n (pc := 2) cx rfl (sl3 rfl) dX3_placeOf_2 ?_
  refine v_lconst (pc := 3) (v := 1) cx rfl dX3_placeOf_3 ?_
  refine v_lstore (pc := 4) cx (sl5 rfl) dX3_placeOf_4 ?_
  refine v_iconst (pc := 6) cx dX3_placeOf_6 ?_
  refine v_istore (pc := 7) cx (sa7 rfl) dX3_placeOf_7 ?_
  exact loop (m + 1) 0 (Nat.zero_le _) (by omega)
