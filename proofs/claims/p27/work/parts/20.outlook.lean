/-! what leaves the funnel in the ticks to come -/
def rOl (G : Gc) (E : Wd) (o : Nat) (k : Int) (lf dy : Nat → Int) : Prop :=
  E o = some (.inr (6, [.ref (gb G + (o + 1)), .ref (gb G + (o + 2)), .int (iI k)])) ∧ E (o + 1) = some (AI G 1000 lf) ∧ E (o + 2) = some (AZ G 1000 dy)
theorem rOl.out {G : Gc} {E E' : Wd} {o : Nat} {k : Int} {lf dy : Nat → Int} {x y : Nat} (h : rOl G E o k lf dy) (hE : Out E E' x y) (hxy : o + 3 ≤ x ∨ y ≤ o) : rOl G E' o k lf dy :=
  ⟨(hE _ (by omega)).trans h.1, (hE _ (by omega)).trans h.2.1, (hE _ (by omega)).trans h.2.2⟩
def laF (rn : Nat → Int) (cap dg c0 : Int) : Nat → Int
  | 0 => c0
  | i + 1 => laF rn cap dg c0 i + fTaken (rn i) cap (laF rn cap dg c0 i) - fGone (rn i) cap (laF rn cap dg c0 i) dg
def laL (rn : Nat → Int) (cap dg c0 : Int) (i : Nat) : Int := rn i - fTaken (rn i) cap (laF rn cap dg c0 i)
theorem laF_bd {rn : Nat → Int} {cap dg c0 : Int} (hc : 0 ≤ c0 ∧ c0 ≤ 200) (hcap : 0 ≤ cap ∧ cap ≤ 200) (hdg : 0 ≤ dg) (hr : ∀ i, 0 ≤ rn i) : ∀ i, 0 ≤ laF rn cap dg c0 i ∧ laF rn cap dg c0 i ≤ 200 := by
  intro i
  induction i with
  | zero => exact hc
  | succ i ih =>
    have f1 := fT_bd (cap := cap) (c := laF rn cap dg c0 i) (hr i)
    have f2 : 0 ≤ fGone (rn i) cap (laF rn cap dg c0 i) dg ∧ fGone (rn i) cap (laF rn cap dg c0 i) dg ≤ laF rn cap dg c0 i + fTaken (rn i) cap (laF rn cap dg c0 i) := by
      unfold fGone
      split <;> omega
    simp only [laF]
    omega
set_option maxRecDepth 100000 in
set_option maxHeartbeats 4000000 in
theorem c_Ol_lookAhead (lc : Launch) (G : Gc) (E : Wd) (nh : Nat) {o os k : Nat} {z : Int} {lf dy : Nat → Int} {st : Nat → Int} {n : Nat} {b l r : Nat → Int} {fc fd : Int} {B : BT} {cr cc : Int} {ng : Nat} {gf gs : Nat → Int} {nm : Nat} {t p v : Nat → Int} {tick fell : Int} (h : rOl G E o z lf dy) (hs : rSt G E os st n b l r fc fd B cr cc ng gf gs nm t p v tick fell) (hd : os + 16 ≤ o ∨ o + 3 ≤ os) (hk : k ≤ 1000) (hn : n ≤ 12) (hsh : okSh (lst b l r n)) (hb : (0 ≤ tick ∧ tick ≤ 5000) ∧ (0 ≤ fc ∧ fc ≤ 200) ∧ (0 ≤ st 2 ∧ st 2 ≤ 200) ∧ (0 ≤ st 3 ∧ st 3 ≤ 50)) : CV lc G 2 yX6_lookAhead cX6_lookAhead 5 [.ref (gb G + o), .ref (gb G + os), .int (iI (k : Int))] E nh 0 0 (fun E' => (∃ lf' dy' fc' fd', rOl G E' o k lf' dy' ∧ rSt G E' os st n b l r fc' fd' B cr cc ng gf gs nm t p v tick fell ∧ ∀ i, i < k → lf' i = laL (fun i => rainL (lst b l r n) (tick + i)) (st 2) (st 3) fc i ∧ dy' i = (if rainL (lst b l r n) (tick + i) = 0 then 1 else 0)) ∧ ∀ j, (j < o ∨ o + 3 ≤ j) → j ≠ os + 6 → E' j = E j) := by
  refine CV.mk (by decide +kernel) rfl (Nat.le_of_ble_eq_true rfl) ?_
  intro X hG hL cx hR hI hini
  subst hG; subst hL
  show V X E (nh, 0, 0) 0 [some (.ref (gb (fG X) + o)), some (.ref (gb (fG X) + os)), some (.int (iI (k : Int))), none, none] []
  have hrn := rainL_bd hsh.2
  have hbd := laF_bd (rn := fun i => rainL (lst b l r n) (tick + i)) hb.2.1 hb.2.2.1 hb.2.2.2.1 (fun i => (hrn _).1)
  have loop : ∀ (d i : Nat) (E' : Wd) (lf' dy' : Nat → Int) (fd' : Int) (lw : Option Value), i ≤ k → k - i < d → rOl (fG X) E' o k lf' dy' → E' (os + 6) = some (oFi (laF (fun i => rainL (lst b l r n) (tick + i)) (st 2) (st 3) fc i) fd') → (∀ j, j < i → lf' j = laL (fun i => rainL (lst b l r n) (tick + i)) (st 2) (st 3) fc j ∧ dy' j = (if rainL (lst b l r n) (tick + j) = 0 then 1 else 0)) → (∀ j, (j < o ∨ o + 3 ≤ j) → j ≠ os + 6 → E' j = E j) → V X E' (nh, 0, 0) 13 [some (.ref (gb (fG X) + o)), some (.ref (gb (fG X) + os)), some (.int (iI (k : Int))), some (.int (iI (i : Int))), lw] [] := by
    intro d
    induction d with
    | zero => intro i E' lf' dy' fd' lw hi hd; omega
    | succ d ih =>
      intro i E' lf' dy' fd' lw hi hd2 h hf hres hFr
      obtain ⟨h0, h1, h2⟩ := h
      obtain ⟨s0, s1, s2, s3, s4, s5, s6, s7⟩ := hs
      have g0 : E' os = _ := (hFr os (by omega) (by omega)).trans s0
      have g1 : E' (os + 1) = _ := (hFr (os + 1) (by omega) (by omega)).trans s1
      have g2 : rSh (fG X) E' (os + 2) n b l r := ⟨(hFr _ (by omega) (by omega)).trans s2.1, (hFr _ (by omega) (by omega)).trans s2.2.1, (hFr _ (by omega) (by omega)).trans s2.2.2.1, (hFr _ (by omega) (by omega)).trans s2.2.2.2⟩
      refine v_iload_n (pc := 13) cx rfl ga3 dX6_lookAhead_13 ?_
      refine v_aload_n (pc := 14) cx rfl ga0 dX6_lookAhead_14 ?_
      refine v_getfield (pc := 15) cx flX6_25 (by assumption) gf2 dX6_lookAhead_15 ?_
      refine v_icmp_ge (pc := 18) cx 85 dX6_lookAhead_18 rfl (by omega) (fun c18 => ?_) (fun c18 => ?_)
      · refine v_return (pc := 85) cx hI ?_ dX6_lookAhead_85
        have e : i = k := by omega
        subst e
        refine ⟨⟨lf', dy', _, fd', ⟨h0, h1, h2⟩, ⟨g0, g1, g2, hf, ?_, ?_, ?_, ?_⟩, hres⟩, hFr⟩
        · exact (hFr _ (by omega) (by omega)).trans s4
        · exact (hFr _ (by omega) (by omega)).trans s5
        · exact ⟨(hFr _ (by omega) (by omega)).trans s6.1, (hFr _ (by omega) (by omega)).trans s6.2.1, (hFr _ (by omega) (by omega)).trans s6.2.2⟩
        · exact ⟨(hFr _ (by omega) (by omega)).trans s7.1, (hFr _ (by omega) (by omega)).trans s7.2.1, (hFr _ (by omega) (by omega)).trans s7.2.2.1, (hFr _ (by omega) (by omega)).trans s7.2.2.2⟩
      · refine v_aload_n (pc := 21) cx rfl ga1 dX6_lookAhead_21 ?_
        refine v_getfield (pc := 22) cx flX6_29 (by assumption) gf1 dX6_lookAhead_22 ?_
        refine v_aload_n (pc := 25) cx rfl ga1 dX6_lookAhead_25 ?_
        refine v_getfield (pc := 26) cx flX6_35 (by assumption) gf7 dX6_lookAhead_26 ?_
        refine v_iload_n (pc := 29) cx rfl ga3 dX6_lookAhead_29 ?_
        refine v_iadd (pc := 30) cx dX6_lookAhead_30 ?_
        refine v_callVI (pc := 31) cx hR (c_Sh_rainIn _ _ _ _ g2 hn (by omega) (okSh_at hsh)) mlX6_38 (by decide) g2.1 rfl rfl rfl (Nat.le_of_ble_eq_true rfl) ⟨Nat.le_refl _, Nat.le_refl _⟩ dX6_lookAhead_31 (fun v1 E2 hP => ?_)
        obtain ⟨rfl, rfl⟩ := hP
        rw [rainTo_L]
        have b1 := hrn (tick + (i : Int))
        have b2 := hbd i
        have b3 := hsh.1
        refine v_istore (pc := 34) cx (sa4 rfl) dX6_lookAhead_34 ?_
        refine v_aload_n (pc := 36) cx rfl ga0 dX6_lookAhead_36 ?_
        refine v_getfield (pc := 37) cx flX6_9 (by assumption) gf0 dX6_lookAhead_37 ?_
        refine v_iload_n (pc := 40) cx rfl ga3 dX6_lookAhead_40 ?_
        refine v_aload_n (pc := 41) cx rfl ga1 dX6_lookAhead_41 ?_
        refine v_getfield (pc := 42) cx flX6_44 (by assumption) gf2 dX6_lookAhead_42 ?_
        refine v_iload (pc := 45) cx ga4 dX6_lookAhead_45 ?_
        refine v_aload_n (pc := 47) cx rfl ga1 dX6_lookAhead_47 ?_
        refine v_getfield (pc := 48) cx flX6_48 (by assumption) gf0 dX6_lookAhead_48 ?_
        refine v_iconst (pc := 51) cx dX6_lookAhead_51 ?_
        refine v_iaload (pc := 52) cx (2) (by assumption) (by omega) dX6_lookAhead_52 ?_
        refine v_aload_n (pc := 53) cx rfl ga1 dX6_lookAhead_53 ?_
        refine v_getfield (pc := 54) cx flX6_48 (by assumption) gf0 dX6_lookAhead_54 ?_
        refine v_iconst (pc := 57) cx dX6_lookAhead_57 ?_
        refine v_iaload (pc := 58) cx (3) (by assumption) (by omega) dX6_lookAhead_58 ?_
        refine v_callVI (pc := 59) cx hR (c_Fi_passTick _ _ _ _ hf (by omega)) mlX6_51 (by decide) (by assumption) rfl rfl rfl (Nat.le_of_ble_eq_true rfl) ⟨Nat.le_refl _, Nat.le_refl _⟩ dX6_lookAhead_59 (fun v2 E3 hP => ?_)
        obtain ⟨rfl, hf, hF⟩ := hP
        replace h0 := (hF _ (by omega)).trans h0
        replace h1 := (hF _ (by omega)).trans h1
        replace h2 := (hF _ (by omega)).trans h2
        have hF3 : ∀ j, (j < o ∨ o + 3 ≤ j) → j ≠ os + 6 → E3 j = E j := fun j hj1 hj2 => (hF j (by omega)).trans (hFr j hj1 hj2)
        refine v_iastore (pc := 62) cx (i) h1 (by omega) dX6_lookAhead_62 (fun E62 hE62 hF62 => ?_)
        replace h0 := (hF62 _ (by omega)).trans h0
        replace h1 := hE62
        replace h2 := (hF62 _ (by omega)).trans h2
        replace hf := (hF62 _ (by omega)).trans hf
        have hF62' : ∀ j, (j < o ∨ o + 3 ≤ j) → j ≠ os + 6 → E62 j = E j := fun j hj1 hj2 => (hF62 j (by omega)).trans (hF3 j hj1 hj2)
        have fin : ∀ y : Int, y = (if rainL (lst b l r n) (tick + i) = 0 then 1 else 0) → narrow .boolean (.int (iI y)) = .int (iI y) → V X E62 (nh, 0, 0) 78 [some (.ref (gb (fG X) + o)), some (.ref (gb (fG X) + os)), some (.int (iI (k : Int))), some (.int (iI (i : Int))), some (.int (iI (rainL (lst b l r n) (tick + i))))] [.int (iI y), .int (iI (i : Int)), .ref (gb (fG X) + (o + 2))] := by
          intro y hy hn
          refine v_bastore (pc := 78) cx (i) h2 (by omega) (hn) dX6_lookAhead_78 (fun E78 hE78 hF78 => ?_)
          replace h0 := (hF78 _ (by omega)).trans h0
          replace h1 := (hF78 _ (by omega)).trans h1
          replace h2 := hE78
          replace hf := (hF78 _ (by omega)).trans hf
          refine v_iinc (pc := 79) cx ga3 (sa3 rfl) dX6_lookAhead_79 ?_
          refine v_goto (pc := 82) cx 13 dX6_lookAhead_82 rfl ?_
          refine ih (i + 1) _ _ _ _ _ (by omega) (by omega) ⟨h0, h1, h2⟩ hf (fun j hj => ?_) (fun j hj1 hj2 => (hF78 j (by omega)).trans (hF62' j hj1 hj2))
          by_cases e : j = i
          · subst e
            rw [upI_s, upI_s]
            exact ⟨rfl, hy⟩
          · rw [upI_n e, upI_n e]
            exact hres j (by omega)
        refine v_aload_n (pc := 63) cx rfl ga0 dX6_lookAhead_63 ?_
        refine v_getfield (pc := 64) cx flX6_15 (by assumption) gf1 dX6_lookAhead_64 ?_
        refine v_iload_n (pc := 67) cx rfl ga3 dX6_lookAhead_67 ?_
        refine v_iload (pc := 68) cx ga4 dX6_lookAhead_68 ?_
        refine v_if_ne (pc := 70) cx 77 dX6_lookAhead_70 rfl (by omega) (fun c70 => ?_) (fun c70 => ?_)
        · refine v_iconst (pc := 77) cx dX6_lookAhead_77 ?_
          exact fin 0 (by rw [if_neg (by assumption)]) rfl
        · refine v_iconst (pc := 73) cx dX6_lookAhead_73 ?_
          refine v_goto (pc := 74) cx 78 dX6_lookAhead_74 rfl ?_
          exact fin 1 (by rw [if_pos (by assumption)]) rfl
  obtain ⟨h0, h1, h2⟩ := h
  refine v_aload_n (pc := 0) cx rfl ga0 dX6_lookAhead_0 ?_
  refine v_iload_n (pc := 1) cx rfl ga2 dX6_lookAhead_1 ?_
  refine v_sipush (pc := 2) cx (by decide) dX6_lookAhead_2 ?_
  refine v_callSI (pc := 5) cx hR (c_min _ _ _ _ (by omega)) mlX6_19 (by decide) rfl (Nat.le_of_ble_eq_true rfl) ⟨Nat.le_refl _, Nat.le_refl _⟩ dX6_lookAhead_5 (fun v3 E4 hP => ?_)
  obtain ⟨rfl, rfl⟩ := hP
  rw [show min (k : Int) 1000 = (k : Int) by omega]
  refine v_putfield (pc := 8) cx fpX6_25 h0 ⟨rfl, rfl⟩ pf2 dX6_lookAhead_8 (fun E8 hE8 hF8 => ?_)
  replace h0 := hE8
  replace h1 := (hF8 _ (by omega)).trans h1
  replace h2 := (hF8 _ (by omega)).trans h2
  refine v_iconst (pc := 11) cx dX6_lookAhead_11 ?_
  refine v_istore_n (pc := 12) cx rfl (sa3 rfl) dX6_lookAhead_12 ?_
  refine loop (k + 1) 0 _ lf dy fd none (by omega) (by omega) ⟨h0, h1, h2⟩ ((hF8 _ (by omega)).trans hs.2.2.2.1) (fun j hj => by omega) (fun j hj1 hj2 => hF8 j (by omega))
def bN (lf dy : Nat → Int) (cap tt dg : Int) (B : BT) : Nat → BT
  | 0 => B
  | i + 1 => bS (lf i) (dy i) cap tt dg (bN lf dy cap tt dg B i)
theorem bS_bd {rain d cap tt dg : Int} {B : BT} (hr : 0 ≤ rain) (hdg : 0 ≤ dg) (hcap : 20 ≤ cap) (htt : 0 ≤ tt ∧ tt ≤ 20) (h : 0 ≤ B.1 ∧ 0 ≤ B.2.1 ∧ B.2.1 ≤ 20) : (0 ≤ (bS rain d cap tt dg B).1 ∧ 0 ≤ (bS rain d cap tt dg B).2.1 ∧ (bS rain d cap tt dg B).2.1 ≤ 20) ∧ (bS rain d cap tt dg B).1 ≤ B.1 + rain ∧ B.2.2.2.1 ≤ (bS rain d cap tt dg B).2.2.2.1 ∧ B.2.2.2.2.1 ≤ (bS rain d cap tt dg B).2.2.2.2.1 ∧ (bS rain d cap tt dg B).1 + (bS rain d cap tt dg B).2.2.2.1 + (bS rain d cap tt dg B).2.2.2.2.1 ≤ B.1 + B.2.2.2.1 + B.2.2.2.2.1 + rain := by
  have hg : 0 ≤ bGone B.1 rain d dg ∧ bGone B.1 rain d dg ≤ B.1 + rain := by
    unfold bGone
    split <;> omega
  unfold bS
  split
  · simp only; omega
  · split
    · simp only; omega
    · simp only; omega
theorem bN_bd {lf dy : Nat → Int} {cap tt dg : Int} {B : BT} {k : Nat} (hr : ∀ i, i < k → 0 ≤ lf i ∧ lf i ≤ 2400) (hdg : 0 ≤ dg) (hcap : 20 ≤ cap) (htt : 0 ≤ tt ∧ tt ≤ 20) (h : 0 ≤ B.1 ∧ 0 ≤ B.2.1 ∧ B.2.1 ≤ 20) : ∀ i : Nat, i ≤ k → (0 ≤ (bN lf dy cap tt dg B i).1 ∧ 0 ≤ (bN lf dy cap tt dg B i).2.1 ∧ (bN lf dy cap tt dg B i).2.1 ≤ 20) ∧ B.2.2.2.1 ≤ (bN lf dy cap tt dg B i).2.2.2.1 ∧ B.2.2.2.2.1 ≤ (bN lf dy cap tt dg B i).2.2.2.2.1 ∧ (bN lf dy cap tt dg B i).1 + (bN lf dy cap tt dg B i).2.2.2.1 + (bN lf dy cap tt dg B i).2.2.2.2.1 ≤ B.1 + B.2.2.2.1 + B.2.2.2.2.1 + 2400 * i := by
  intro i
  induction i with
  | zero =>
    intro _
    simp only [bN]
    omega
  | succ i ih =>
    intro hi
    obtain ⟨i1, i2, i3, i4⟩ := ih (by omega)
    have h1 := hr i (by omega)
    have h2 := bS_bd (rain := lf i) (d := dy i) (cap := cap) (tt := tt) (dg := dg) (B := bN lf dy cap tt dg B i) h1.1 hdg hcap htt i1
    simp only [bN]
    omega
theorem bN_mono {lf dy : Nat → Int} {cap tt dg : Int} {B : BT} {k : Nat} (hr : ∀ i, i < k → 0 ≤ lf i ∧ lf i ≤ 2400) (hdg : 0 ≤ dg) (hcap : 20 ≤ cap) (htt : 0 ≤ tt ∧ tt ≤ 20) (h : 0 ≤ B.1 ∧ 0 ≤ B.2.1 ∧ B.2.1 ≤ 20) (i : Nat) : ∀ d : Nat, i + d ≤ k → (bN lf dy cap tt dg B i).2.2.2.1 + (bN lf dy cap tt dg B i).2.2.2.2.1 ≤ (bN lf dy cap tt dg B (i + d)).2.2.2.1 + (bN lf dy cap tt dg B (i + d)).2.2.2.2.1 := by
  intro d
  induction d with
  | zero => intro _; exact Int.le_refl _
  | succ d ih =>
    intro hi
    have h0 := ih (by omega)
    have h1 := hr (i + d) (by omega)
    have h2 := bS_bd (rain := lf (i + d)) (d := dy (i + d)) (cap := cap) (tt := tt) (dg := dg) (B := bN lf dy cap tt dg B (i + d)) h1.1 hdg hcap htt (bN_bd hr hdg hcap htt h (i + d) (by omega)).1
    rw [show i + (d + 1) = (i + d) + 1 by omega]
    simp only [bN]
    omega
set_option maxRecDepth 100000 in
set_option maxHeartbeats 4000000 in
theorem c_Ol_losesAtMost (lc : Launch) (G : Gc) (E : Wd) (nh : Nat) {o os k : Nat} {most cap : Int} {lf dy : Nat → Int} {st : Nat → Int} {n : Nat} {b l r : Nat → Int} {fc fd : Int} {B : BT} {cr cc : Int} {ng : Nat} {gf gs : Nat → Int} {nm : Nat} {t p v : Nat → Int} {tick fell : Int} (h : rOl G E o (k : Int) lf dy) (hs : rSt G E os st n b l r fc fd B cr cc ng gf gs nm t p v tick fell) (hd : os + 16 ≤ o ∨ o + 3 ≤ os) (hk : k ≤ 1000) (hlf : ∀ i, i < k → (0 ≤ lf i ∧ lf i ≤ 2400) ∧ (dy i = 0 ∨ dy i = 1)) (hm : 0 ≤ most ∧ most ≤ 100000) (hc : 20 ≤ cap ∧ cap ≤ 500) (hb : (0 ≤ st 1 ∧ st 1 ≤ 20) ∧ (0 ≤ st 4 ∧ st 4 ≤ 50) ∧ (0 ≤ B.1 ∧ 0 ≤ B.2.1 ∧ B.2.1 ≤ 20) ∧ (0 ≤ B.2.2.2.1 ∧ 0 ≤ B.2.2.2.2.1 ∧ B.1 + B.2.2.2.1 + B.2.2.2.2.1 ≤ 20000000)) : CI lc G 2 yX6_losesAtMost cX6_losesAtMost 9 .boolean [.ref (gb G + o), .int (iI most), .int (iI cap), .ref (gb G + os)] E nh 0 0 (fun v E' => ((v = 1 ∧ (bN lf dy cap (st 1) (st 4) B k).2.2.2.1 + (bN lf dy cap (st 1) (st 4) B k).2.2.2.2.1 ≤ B.2.2.2.1 + B.2.2.2.2.1 + most) ∨ (v = 0 ∧ B.2.2.2.1 + B.2.2.2.2.1 + most < (bN lf dy cap (st 1) (st 4) B k).2.2.2.1 + (bN lf dy cap (st 1) (st 4) B k).2.2.2.2.1)) ∧ (∃ B', E' (os + 7) = some (oBk B')) ∧ Out E E' (os + 7) (os + 8)) := by
  refine CI.mk (by decide +kernel) rfl (Nat.le_of_ble_eq_true rfl) ?_
  intro X hG hL cx hR hI
  subst hG; subst hL
  show V X E (nh, 0, 0) 0 [some (.ref (gb (fG X) + o)), some (.int (iI most)), some (.int (iI cap)), some (.ref (gb (fG X) + os)), none, none, none, none, none] []
  obtain ⟨s0, s1, s2, s3, s4, s5, s6, s7⟩ := hs
  obtain ⟨h0, h1, h2⟩ := h
  have hbd := bN_bd (lf := lf) (dy := dy) (k := k) (fun i hi => (hlf i hi).1) hb.2.1.1 hc.1 hb.1 hb.2.2.1
  have hmo := bN_mono (lf := lf) (dy := dy) (k := k) (fun i hi => (hlf i hi).1) hb.2.1.1 hc.1 hb.1 hb.2.2.1
  generalize hbN : bN lf dy cap (st 1) (st 4) B = bn at hbd hmo ⊢
  have fin : ∀ (i : Nat) (E' : Wd), i ≤ k → E' (os + 7) = some (oBk (bn i)) → Out E E' (os + 7) (os + 8) → (i = k ∨ B.2.2.2.1 + B.2.2.2.2.1 + most < (bn i).2.2.2.1 + (bn i).2.2.2.2.1) → V X E' (nh, 0, 0) 96 [some (.ref (gb (fG X) + o)), some (.int (iI most)), some (.int (iI cap)), some (.ref (gb (fG X) + os)), some (.ref (gb (fG X) + (os + 7))), some (.int (iI (st 1))), some (.int (iI (st 4))), some (.int (iI (B.2.2.2.2.1 + B.2.2.2.1 + most))), some (.int (iI (i : Int)))] [] := by
    intro i E' hi hbk hFr hor
    have hb1 := hbd i hi
    have hm1 := hmo i (k - i) (by omega)
    rw [show i + (k - i) = k by omega] at hm1
    refine v_aload (pc := 96) cx ga4 dX6_losesAtMost_96 ?_
    refine v_getfield (pc := 98) cx flX6_61 (by assumption) gf4 dX6_losesAtMost_98 ?_
    refine v_aload (pc := 101) cx ga4 dX6_losesAtMost_101 ?_
    refine v_getfield (pc := 103) cx flX6_66 (by assumption) gf3 dX6_losesAtMost_103 ?_
    refine v_iadd (pc := 106) cx dX6_losesAtMost_106 ?_
    refine v_iload (pc := 107) cx ga7 dX6_losesAtMost_107 ?_
    refine v_icmp_gt (pc := 109) cx 116 dX6_losesAtMost_109 rfl (by omega) (fun c109 => ?_) (fun c109 => ?_)
    · refine v_iconst (pc := 116) cx dX6_losesAtMost_116 ?_
      refine v_ireturn (pc := 117) cx hI rfl ?_ dX6_losesAtMost_117
      refine ⟨Or.inr ⟨rfl, ?_⟩, ⟨_, hbk⟩, hFr⟩
      rw [hbN]
      omega
    · refine v_iconst (pc := 112) cx dX6_losesAtMost_112 ?_
      refine v_goto (pc := 113) cx 117 dX6_losesAtMost_113 rfl ?_
      refine v_ireturn (pc := 117) cx hI rfl ?_ dX6_losesAtMost_117
      rcases hor with e | e
      · subst e
        refine ⟨Or.inl ⟨rfl, ?_⟩, ⟨_, hbk⟩, hFr⟩
        rw [hbN]
        omega
      · omega
  have loop : ∀ (d i : Nat) (E' : Wd), i ≤ k → k - i < d → E' (os + 7) = some (oBk (bn i)) → Out E E' (os + 7) (os + 8) → V X E' (nh, 0, 0) 40 [some (.ref (gb (fG X) + o)), some (.int (iI most)), some (.int (iI cap)), some (.ref (gb (fG X) + os)), some (.ref (gb (fG X) + (os + 7))), some (.int (iI (st 1))), some (.int (iI (st 4))), some (.int (iI (B.2.2.2.2.1 + B.2.2.2.1 + most))), some (.int (iI (i : Int)))] [] := by
    intro d
    induction d with
    | zero => intro i E' hi hd; omega
    | succ d ih =>
      intro i E' hi hd2 hbk hFr
      have hb1 := hbd i hi
      have g0 := (hFr _ (by omega)).trans h0
      have g1 := (hFr _ (by omega)).trans h1
      have g2 := (hFr _ (by omega)).trans h2
      refine v_iload (pc := 40) cx ga8 dX6_losesAtMost_40 ?_
      refine v_aload_n (pc := 42) cx rfl ga0 dX6_losesAtMost_42 ?_
      refine v_getfield (pc := 43) cx flX6_25 (by assumption) gf2 dX6_losesAtMost_43 ?_
      refine v_icmp_ge (pc := 46) cx 96 dX6_losesAtMost_46 rfl (by omega) (fun c46 => ?_) (fun c46 => ?_)
      · exact fin i E' hi hbk hFr (Or.inl (by omega))
      · refine v_aload (pc := 49) cx ga4 dX6_losesAtMost_49 ?_
        refine v_getfield (pc := 51) cx flX6_61 (by assumption) gf4 dX6_losesAtMost_51 ?_
        refine v_aload (pc := 54) cx ga4 dX6_losesAtMost_54 ?_
        refine v_getfield (pc := 56) cx flX6_66 (by assumption) gf3 dX6_losesAtMost_56 ?_
        refine v_iadd (pc := 59) cx dX6_losesAtMost_59 ?_
        refine v_iload (pc := 60) cx ga7 dX6_losesAtMost_60 ?_
        refine v_icmp_gt (pc := 62) cx 96 dX6_losesAtMost_62 rfl (by omega) (fun c62 => ?_) (fun c62 => ?_)
        · exact fin i E' hi hbk hFr (Or.inr (by omega))
        · have hl1 := hlf i (by omega)
          refine v_aload (pc := 65) cx ga4 dX6_losesAtMost_65 ?_
          refine v_aload_n (pc := 67) cx rfl ga0 dX6_losesAtMost_67 ?_
          refine v_getfield (pc := 68) cx flX6_9 (by assumption) gf0 dX6_losesAtMost_68 ?_
          refine v_iload (pc := 71) cx ga8 dX6_losesAtMost_71 ?_
          refine v_iaload (pc := 73) cx (i) (by assumption) (by omega) dX6_losesAtMost_73 ?_
          refine v_aload_n (pc := 74) cx rfl ga0 dX6_losesAtMost_74 ?_
          refine v_getfield (pc := 75) cx flX6_15 (by assumption) gf1 dX6_losesAtMost_75 ?_
          refine v_iload (pc := 78) cx ga8 dX6_losesAtMost_78 ?_
          refine v_baload (pc := 80) cx (i) (by assumption) (by omega) dX6_losesAtMost_80 ?_
          refine v_iload_n (pc := 81) cx rfl ga2 dX6_losesAtMost_81 ?_
          refine v_iload (pc := 82) cx ga5 dX6_losesAtMost_82 ?_
          refine v_iload (pc := 84) cx ga6 dX6_losesAtMost_84 ?_
          refine v_callVI (pc := 86) cx hR (c_Bk_passTick _ _ _ _ hbk (by omega)) mlX6_69 (by decide) (by assumption) rfl rfl rfl (Nat.le_of_ble_eq_true rfl) ⟨Nat.le_refl _, Nat.le_refl _⟩ dX6_losesAtMost_86 (fun v1 E2 hP => ?_)
          obtain ⟨-, hbk2, hF⟩ := hP
          refine v_pop (pc := 89) cx rfl dX6_losesAtMost_89 ?_
          refine v_iinc (pc := 90) cx ga8 (sa8 rfl) dX6_losesAtMost_90 ?_
          refine v_goto (pc := 93) cx 40 dX6_losesAtMost_93 rfl ?_
          refine ih (i + 1) E2 (by omega) (by omega) ?_ (fun j hj => (hF j (by omega)).trans (hFr j hj))
          rw [hbk2, ← hbN]
          rfl
  refine v_aload_n (pc := 0) cx rfl ga3 dX6_losesAtMost_0 ?_
  refine v_getfield (pc := 1) cx flX6_57 (by assumption) gf3 dX6_losesAtMost_1 ?_
  refine v_astore (pc := 4) cx (sa4 rfl) dX6_losesAtMost_4 ?_
  refine v_aload_n (pc := 6) cx rfl ga3 dX6_losesAtMost_6 ?_
  refine v_getfield (pc := 7) cx flX6_48 (by assumption) gf0 dX6_losesAtMost_7 ?_
  refine v_iconst (pc := 10) cx dX6_losesAtMost_10 ?_
  refine v_iaload (pc := 11) cx (1) (by assumption) (by omega) dX6_losesAtMost_11 ?_
  refine v_istore (pc := 12) cx (sa5 rfl) dX6_losesAtMost_12 ?_
  refine v_aload_n (pc := 14) cx rfl ga3 dX6_losesAtMost_14 ?_
  refine v_getfield (pc := 15) cx flX6_48 (by assumption) gf0 dX6_losesAtMost_15 ?_
  refine v_iconst (pc := 18) cx dX6_losesAtMost_18 ?_
  refine v_iaload (pc := 19) cx (4) (by assumption) (by omega) dX6_losesAtMost_19 ?_
  refine v_istore (pc := 20) cx (sa6 rfl) dX6_losesAtMost_20 ?_
  refine v_aload (pc := 22) cx ga4 dX6_losesAtMost_22 ?_
  refine v_getfield (pc := 24) cx flX6_61 (by assumption) gf4 dX6_losesAtMost_24 ?_
  refine v_aload (pc := 27) cx ga4 dX6_losesAtMost_27 ?_
  refine v_getfield (pc := 29) cx flX6_66 (by assumption) gf3 dX6_losesAtMost_29 ?_
  refine v_iadd (pc := 32) cx dX6_losesAtMost_32 ?_
  refine v_iload_n (pc := 33) cx rfl ga1 dX6_losesAtMost_33 ?_
  refine v_iadd (pc := 34) cx dX6_losesAtMost_34 ?_
  refine v_istore (pc := 35) cx (sa7 rfl) dX6_losesAtMost_35 ?_
  refine v_iconst (pc := 37) cx dX6_losesAtMost_37 ?_
  refine v_istore (pc := 38) cx (sa8 rfl) dX6_losesAtMost_38 ?_
  exact loop (k + 1) 0 E (by omega) (by omega) (by rw [s4, ← hbN]; rfl) (fun _ _ => rfl)
