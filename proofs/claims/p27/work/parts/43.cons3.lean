set_option maxRecDepth 100000 in
set_option maxHeartbeats 4000000 in
theorem k_Hi (lc : Launch) (G : Gc) (E : Wd) (nh : Nat) {o : Nat} (hn : nh = o + 1) (h : E o = some (.inr (4, [.null, .int (iI 0)]))) : CV lc G 3 yX4_init cX4_init 2 [.ref (gb G + o)] E nh 81 1305 (fun E' => isH G E' o [] ∧ Out E E' o (o + 82)) := by
  refine CV.mk (by decide +kernel) rfl (Nat.le_of_ble_eq_true rfl) ?_
  intro X hG hL cx hR hI hini
  subst hG; subst hL
  have hini := hini rfl
  show V X E (nh, 0, 0) 0 [some (.ref (gb (fG X) + o)), none] []
  subst hn
  have hFr : Out E E o (o + 82) := fun _ _ => rfl
  have loop : ∀ (q k : Nat) (g : Nat → Option Nat) (E' : Wd), k ≤ 5 → 5 - k < q → E' o = some (.inr (4, [.ref (gb (fG X) + (o + 1)), .int (iI 0)])) → E' (o + 1) = some (AS (fG X) 5 g) → (∀ j, j < k → g j = some (o + 2 + 16 * j)) → (∀ j, j < k → isS (fG X) E' (o + 2 + 16 * j) σ0) → Out E E' o (o + 82) → V X E' (o + 2 + 16 * k, 1 + 16 * k, 5 + 260 * k) 14 [some (.ref (gb (fG X) + o)), some (.int (iI (k : Int)))] [] := by
    intro q
    induction q with
    | zero => intro k g E' h1 h2; omega
    | succ q ih =>
      intro k g E' hk hq h hA hg hS hFr
      refine v_iload_n (pc := 14) cx rfl ga1 dX4_init_14 ?_
      refine v_iconst (pc := 15) cx dX4_init_15 ?_
      refine v_icmp_ge (pc := 16) cx 38 dX4_init_16 rfl (by omega) (fun c16 => ?_) (fun c16 => ?_)
      · have ek : k = 5 := by omega
        subst ek
        refine v_asExt (g' := fun j => some (o + 2 + 16 * j)) hA hg (fun E1 hE1 hF1 => ?_)
        show V X E1 (o + 1 + 81, 81, 1305) _ _ _
        refine v_return (pc := 38) cx hI ?_ dX4_init_38
        refine ⟨⟨fun j => o + 2 + 16 * j, (hF1 _ (by omega)).trans h, hE1, rfl, by decide, fun j hj => ⟨j, hj, rfl⟩, (fun i j hi hj e => by have e : o + 2 + 16 * i = o + 2 + 16 * j := e; omega), (fun j hj => ⟨σ0, (show isS (fG X) E1 (o + 2 + 16 * j) σ0 from (hS j hj).out (x := o + 1) (y := o + 2) (fun i hi => hF1 i (by omega)) (by omega))⟩), (fun j hj => by cases hj)⟩, fun j hj => (hF1 j (by omega)).trans (hFr j hj)⟩
      · refine v_aload_n (pc := 19) cx rfl ga0 dX4_init_19 ?_
        refine v_getfield (pc := 20) cx flX4_11 (by assumption) gf0 dX4_init_20 ?_
        refine v_iload_n (pc := 23) cx rfl ga1 dX4_init_23 ?_
        refine v_new (pc := 24) cx hR nwX4_9 ⟨by show 1 + 16 * k + 1 ≤ 81; omega, by show 5 + 260 * k + 9 ≤ 1305; omega⟩ dX4_init_24 (fun E24 hE24 hF24 => ?_)
        replace hE24 : E24 (o + 2 + 16 * k) = _ := hE24
        replace hF24 : ∀ j, j ≠ o + 2 + 16 * k → E24 j = _ := hF24
        replace h := (hF24 _ (by omega)).trans h
        replace hA := (hF24 _ (by omega)).trans hA
        replace hFr := fun j hj => (hF24 j (by omega)).trans (hFr j hj)
        refine v_dup (pc := 27) cx rfl dX4_init_27 ?_
        refine v_callK (pc := 28) cx hR (k_St _ _ _ _ (o := o + 2 + 16 * k) rfl hE24) mlX4_17 (by decide) rfl (Nat.le_of_ble_eq_true rfl) ⟨by show 1 + 16 * k + 1 + 15 ≤ 81; omega, by show 5 + 260 * k + 9 + 251 ≤ 1305; omega⟩ dX4_init_28 (fun E2 hP => ?_)
        obtain ⟨hS2, hF⟩ := hP
        replace h := (hF _ (by omega)).trans h
        replace hA := (hF _ (by omega)).trans hA
        replace hFr := fun j hj => (hF j (by omega)).trans (hFr j hj)
        replace hS : ∀ j, j < k → isS (fG X) E2 (o + 2 + 16 * j) σ0 := fun j hj => ((hS j hj).out (x := o + 2 + 16 * k) (y := o + 3 + 16 * k) (fun i hi => hF24 i (by omega)) (by omega)).out hF (by omega)
        obtain ⟨fs, hfs⟩ := hS2.obj
        refine v_aastore (pc := 31) cx (k) hA (by omega) hfs dX4_init_31 (fun E31 hE31 hF31 => ?_)
        replace h := (hF31 _ (by omega)).trans h
        replace hFr := fun j hj => (hF31 j (by omega)).trans (hFr j hj)
        replace hA := hE31
        refine v_iinc (pc := 32) cx ga1 (sa1 rfl) dX4_init_32 ?_
        refine v_goto (pc := 35) cx 14 dX4_init_35 rfl ?_
        have kk := ih (k + 1) _ E31 (by omega) (by omega) h hA (fun j hj => ?_) (fun j hj => ?_) hFr
        · rw [show o + 2 + 16 * (k + 1) = o + 2 + 16 * k + 1 + 15 by omega, show 1 + 16 * (k + 1) = 1 + 16 * k + 1 + 15 by omega, show 5 + 260 * (k + 1) = 5 + 260 * k + 9 + 251 by omega] at kk
          exact kk
        · rw [upO_a]
          by_cases e : j = k
          · rw [if_pos e, e]
          · rw [if_neg e]
            exact hg j (by omega)
        · by_cases e : j = k
          · rw [e]
            exact hS2.out (x := o + 1) (y := o + 2) (fun i hi => hF31 i (by omega)) (by omega)
          · exact (hS j (by omega)).out (x := o + 1) (y := o + 2) (fun i hi => hF31 i (by omega)) (by omega)
  refine v_aload_n (pc := 0) cx rfl ga0 dX4_init_0 ?_
  refine v_objInit (pc := 1) cx hR (by decide) oiX4_3 oi_i oi_c (Nat.le_of_ble_eq_true rfl) dX4_init_1 ?_
  refine v_aload_n (pc := 4) cx rfl ga0 dX4_init_4 ?_
  refine v_iconst (pc := 5) cx dX4_init_5 ?_
  refine v_newstates (pc := 6) cx 5 hR (tbm 225 (by decide +kernel) rfl) ⟨rfl, by decide⟩ ⟨Nat.le_of_ble_eq_true rfl, Nat.le_of_ble_eq_true rfl⟩ dX4_init_6 (fun E6 hE6 hF6 => ?_)
  replace hE6 : E6 (o + 1) = _ := hE6
  replace hF6 : ∀ j, j ≠ o + 1 → E6 j = _ := hF6
  replace h := (hF6 _ (by omega)).trans h
  replace hFr := fun j hj => (hF6 j (by omega)).trans (hFr j hj)
  refine v_putfieldF (pc := 9) cx hini fpX4_11 h ⟨rfl, rfl⟩ pf0 dX4_init_9 (fun E9 hE9 hF9 => ?_)
  replace h := hE9
  replace hFr := fun j hj => (hF9 j (by omega)).trans (hFr j hj)
  replace hE6 := (hF9 _ (by omega)).trans hE6
  refine v_iconst (pc := 12) cx dX4_init_12 ?_
  refine v_istore_n (pc := 13) cx rfl (sa1 rfl) dX4_init_13 ?_
  exact loop 6 0 _ _ (by omega) (by omega) h hE6 (fun j hj => by omega) (fun j hj => by omega) hFr
set_option maxRecDepth 100000 in
set_option maxHeartbeats 4000000 in
theorem k_X (lc : Launch) (G : Gc) (E : Wd) (nh : Nat) (hn : nh = 1) (h : E 0 = some (.inr (11, [.null, .null, .null, .null, .null, .null]))) : CV lc G 4 yX11_init cX11_init 1 [.ref (gb G + 0)] E nh 123 3975 (fun E' => isX G E' (σ0, [], []) ∧ Out E E' 0 124) := by
  refine CV.mk (by decide +kernel) rfl (Nat.le_of_ble_eq_true rfl) ?_
  intro X hG hL cx hR hI hini
  subst hG; subst hL
  have hini := hini rfl
  show V X E (nh, 0, 0) 0 [some (.ref (gb (fG X) + 0))] []
  subst hn
  have hFr : Out E E 0 124 := fun _ _ => rfl
  refine v_aload_n (pc := 0) cx rfl ga0 dX11_init_0 ?_
  refine v_objInit (pc := 1) cx hR (by decide) oiX11_1 oi_i oi_c (Nat.le_of_ble_eq_true rfl) dX11_init_1 ?_
  refine v_aload_n (pc := 4) cx rfl ga0 dX11_init_4 ?_
  refine v_new (pc := 5) cx hR nwX11_7 ⟨Nat.le_of_ble_eq_true rfl, Nat.le_of_ble_eq_true rfl⟩ dX11_init_5 (fun E5 hE5 hF5 => ?_)
  replace hE5 : E5 (1) = _ := hE5
  replace hF5 : ∀ j, j ≠ 1 → E5 j = _ := hF5
  replace h := (hF5 _ (by omega)).trans h
  replace hFr := fun j hj => (hF5 j (by omega)).trans (hFr j hj)
  refine v_dup (pc := 8) cx rfl dX11_init_8 ?_
  refine v_callK (pc := 9) cx hR (k_St _ _ _ _ (o := 1) rfl hE5) mlX11_9 (by decide) rfl (Nat.le_of_ble_eq_true rfl) ⟨Nat.le_of_ble_eq_true rfl, Nat.le_of_ble_eq_true rfl⟩ dX11_init_9 (fun E1 hP => ?_)
  show V X _ (17, 16, 260) _ _ _
  obtain ⟨x1, hF⟩ := hP
  replace h := (hF _ (by omega)).trans h
  replace hFr := fun j hj => (hF j (by omega)).trans (hFr j hj)
  refine v_putfieldF (pc := 12) cx hini fpX11_10 h ⟨rfl, rfl⟩ pf0 dX11_init_12 (fun E12 hE12 hF12 => ?_)
  replace h := hE12
  replace hFr := fun j hj => (hF12 j (by omega)).trans (hFr j hj)
  refine v_aload_n (pc := 15) cx rfl ga0 dX11_init_15 ?_
  refine v_new (pc := 16) cx hR nwX11_7 ⟨Nat.le_of_ble_eq_true rfl, Nat.le_of_ble_eq_true rfl⟩ dX11_init_16 (fun E16 hE16 hF16 => ?_)
  replace hE16 : E16 (17) = _ := hE16
  replace hF16 : ∀ j, j ≠ 17 → E16 j = _ := hF16
  replace h := (hF16 _ (by omega)).trans h
  replace hFr := fun j hj => (hF16 j (by omega)).trans (hFr j hj)
  refine v_dup (pc := 19) cx rfl dX11_init_19 ?_
  replace x1 := (x1.out (x := 0) (y := 1) (fun j hj => hF12 j (by omega)) (by omega)).out (x := 17) (y := 18) (fun j hj => hF16 j (by omega)) (by omega)
  refine v_callK (pc := 20) cx hR (k_St _ _ _ _ (o := 17) rfl hE16) mlX11_9 (by decide) rfl (Nat.le_of_ble_eq_true rfl) ⟨Nat.le_of_ble_eq_true rfl, Nat.le_of_ble_eq_true rfl⟩ dX11_init_20 (fun E2 hP => ?_)
  show V X _ (33, 32, 520) _ _ _
  obtain ⟨x17, hF⟩ := hP
  replace h := (hF _ (by omega)).trans h
  replace hFr := fun j hj => (hF j (by omega)).trans (hFr j hj)
  replace x1 := x1.out (hF) (by omega)
  refine v_putfieldF (pc := 23) cx hini fpX11_16 h ⟨rfl, rfl⟩ pf1 dX11_init_23 (fun E23 hE23 hF23 => ?_)
  replace h := hE23
  replace hFr := fun j hj => (hF23 j (by omega)).trans (hFr j hj)
  refine v_aload_n (pc := 26) cx rfl ga0 dX11_init_26 ?_
  refine v_new (pc := 27) cx hR nwX11_19 ⟨Nat.le_of_ble_eq_true rfl, Nat.le_of_ble_eq_true rfl⟩ dX11_init_27 (fun E27 hE27 hF27 => ?_)
  replace hE27 : E27 (33) = _ := hE27
  replace hF27 : ∀ j, j ≠ 33 → E27 j = _ := hF27
  replace h := (hF27 _ (by omega)).trans h
  replace hFr := fun j hj => (hF27 j (by omega)).trans (hFr j hj)
  refine v_dup (pc := 30) cx rfl dX11_init_30 ?_
  replace x1 := (x1.out (x := 0) (y := 1) (fun j hj => hF23 j (by omega)) (by omega)).out (x := 33) (y := 34) (fun j hj => hF27 j (by omega)) (by omega)
  replace x17 := (x17.out (x := 0) (y := 1) (fun j hj => hF23 j (by omega)) (by omega)).out (x := 33) (y := 34) (fun j hj => hF27 j (by omega)) (by omega)
  refine v_callK (pc := 31) cx hR (k_Hi _ _ _ _ (o := 33) rfl hE27) mlX11_21 (by decide) rfl (Nat.le_of_ble_eq_true rfl) ⟨Nat.le_of_ble_eq_true rfl, Nat.le_of_ble_eq_true rfl⟩ dX11_init_31 (fun E3 hP => ?_)
  show V X _ (115, 114, 1827) _ _ _
  obtain ⟨x33, hF⟩ := hP
  replace h := (hF _ (by omega)).trans h
  replace hFr := fun j hj => (hF j (by omega)).trans (hFr j hj)
  replace x1 := x1.out (hF) (by omega)
  replace x17 := x17.out (hF) (by omega)
  refine v_putfieldF (pc := 34) cx hini fpX11_22 h ⟨rfl, rfl⟩ pf2 dX11_init_34 (fun E34 hE34 hF34 => ?_)
  replace h := hE34
  replace hFr := fun j hj => (hF34 j (by omega)).trans (hFr j hj)
  refine v_aload_n (pc := 37) cx rfl ga0 dX11_init_37 ?_
  refine v_new (pc := 38) cx hR nwX11_26 ⟨Nat.le_of_ble_eq_true rfl, Nat.le_of_ble_eq_true rfl⟩ dX11_init_38 (fun E38 hE38 hF38 => ?_)
  replace hE38 : E38 (115) = _ := hE38
  replace hF38 : ∀ j, j ≠ 115 → E38 j = _ := hF38
  replace h := (hF38 _ (by omega)).trans h
  replace hFr := fun j hj => (hF38 j (by omega)).trans (hFr j hj)
  refine v_dup (pc := 41) cx rfl dX11_init_41 ?_
  replace x1 := (x1.out (x := 0) (y := 1) (fun j hj => hF34 j (by omega)) (by omega)).out (x := 115) (y := 116) (fun j hj => hF38 j (by omega)) (by omega)
  replace x17 := (x17.out (x := 0) (y := 1) (fun j hj => hF34 j (by omega)) (by omega)).out (x := 115) (y := 116) (fun j hj => hF38 j (by omega)) (by omega)
  replace x33 := (x33.out (x := 0) (y := 1) (fun j hj => hF34 j (by omega)) (by omega)).out (x := 115) (y := 116) (fun j hj => hF38 j (by omega)) (by omega)
  refine v_callK (pc := 42) cx hR (k_Ol _ _ _ _ (o := 115) rfl hE38) mlX11_28 (by decide) rfl (Nat.le_of_ble_eq_true rfl) ⟨Nat.le_of_ble_eq_true rfl, Nat.le_of_ble_eq_true rfl⟩ dX11_init_42 (fun E4 hP => ?_)
  show V X _ (118, 117, 3830) _ _ _
  obtain ⟨x115, hF⟩ := hP
  replace h := (hF _ (by omega)).trans h
  replace hFr := fun j hj => (hF j (by omega)).trans (hFr j hj)
  replace x1 := x1.out (hF) (by omega)
  replace x17 := x17.out (hF) (by omega)
  replace x33 := x33.out (hF) (by omega)
  refine v_putfieldF (pc := 45) cx hini fpX11_29 h ⟨rfl, rfl⟩ pf3 dX11_init_45 (fun E45 hE45 hF45 => ?_)
  replace h := hE45
  replace hFr := fun j hj => (hF45 j (by omega)).trans (hFr j hj)
  refine v_aload_n (pc := 48) cx rfl ga0 dX11_init_48 ?_
  refine v_new (pc := 49) cx hR nwX11_33 ⟨Nat.le_of_ble_eq_true rfl, Nat.le_of_ble_eq_true rfl⟩ dX11_init_49 (fun E49 hE49 hF49 => ?_)
  replace hE49 : E49 (118) = _ := hE49
  replace hF49 : ∀ j, j ≠ 118 → E49 j = _ := hF49
  replace h := (hF49 _ (by omega)).trans h
  replace hFr := fun j hj => (hF49 j (by omega)).trans (hFr j hj)
  refine v_dup (pc := 52) cx rfl dX11_init_52 ?_
  replace x1 := (x1.out (x := 0) (y := 1) (fun j hj => hF45 j (by omega)) (by omega)).out (x := 118) (y := 119) (fun j hj => hF49 j (by omega)) (by omega)
  replace x17 := (x17.out (x := 0) (y := 1) (fun j hj => hF45 j (by omega)) (by omega)).out (x := 118) (y := 119) (fun j hj => hF49 j (by omega)) (by omega)
  replace x33 := (x33.out (x := 0) (y := 1) (fun j hj => hF45 j (by omega)) (by omega)).out (x := 118) (y := 119) (fun j hj => hF49 j (by omega)) (by omega)
  replace x115 := (x115.out (x := 0) (y := 1) (fun j hj => hF45 j (by omega)) (by omega)).out (x := 118) (y := 119) (fun j hj => hF49 j (by omega)) (by omega)
  refine v_callK (pc := 53) cx hR (k_Tx _ _ _ _ (o := 118) rfl hE49) mlX11_35 (by decide) rfl (Nat.le_of_ble_eq_true rfl) ⟨Nat.le_of_ble_eq_true rfl, Nat.le_of_ble_eq_true rfl⟩ dX11_init_53 (fun E5 hP => ?_)
  show V X _ (120, 119, 3932) _ _ _
  obtain ⟨x118, hF⟩ := hP
  replace h := (hF _ (by omega)).trans h
  replace hFr := fun j hj => (hF j (by omega)).trans (hFr j hj)
  replace x1 := x1.out (hF) (by omega)
  replace x17 := x17.out (hF) (by omega)
  replace x33 := x33.out (hF) (by omega)
  replace x115 := x115.out (hF) (by omega)
  refine v_putfieldF (pc := 56) cx hini fpX11_36 h ⟨rfl, rfl⟩ pf4 dX11_init_56 (fun E56 hE56 hF56 => ?_)
  replace h := hE56
  replace hFr := fun j hj => (hF56 j (by omega)).trans (hFr j hj)
  refine v_aload_n (pc := 59) cx rfl ga0 dX11_init_59 ?_
  refine v_new (pc := 60) cx hR nwX11_40 ⟨Nat.le_of_ble_eq_true rfl, Nat.le_of_ble_eq_true rfl⟩ dX11_init_60 (fun E60 hE60 hF60 => ?_)
  replace hE60 : E60 (120) = _ := hE60
  replace hF60 : ∀ j, j ≠ 120 → E60 j = _ := hF60
  replace h := (hF60 _ (by omega)).trans h
  replace hFr := fun j hj => (hF60 j (by omega)).trans (hFr j hj)
  refine v_dup (pc := 63) cx rfl dX11_init_63 ?_
  replace x1 := (x1.out (x := 0) (y := 1) (fun j hj => hF56 j (by omega)) (by omega)).out (x := 120) (y := 121) (fun j hj => hF60 j (by omega)) (by omega)
  replace x17 := (x17.out (x := 0) (y := 1) (fun j hj => hF56 j (by omega)) (by omega)).out (x := 120) (y := 121) (fun j hj => hF60 j (by omega)) (by omega)
  replace x33 := (x33.out (x := 0) (y := 1) (fun j hj => hF56 j (by omega)) (by omega)).out (x := 120) (y := 121) (fun j hj => hF60 j (by omega)) (by omega)
  replace x115 := (x115.out (x := 0) (y := 1) (fun j hj => hF56 j (by omega)) (by omega)).out (x := 120) (y := 121) (fun j hj => hF60 j (by omega)) (by omega)
  replace x118 := (x118.out (x := 0) (y := 1) (fun j hj => hF56 j (by omega)) (by omega)).out (x := 120) (y := 121) (fun j hj => hF60 j (by omega)) (by omega)
  refine v_callK (pc := 64) cx hR (k_Rd _ _ _ _ (o := 120) rfl hE60) mlX11_42 (by decide) rfl (Nat.le_of_ble_eq_true rfl) ⟨Nat.le_of_ble_eq_true rfl, Nat.le_of_ble_eq_true rfl⟩ dX11_init_64 (fun E6 hP => ?_)
  show V X _ (124, 123, 3975) _ _ _
  obtain ⟨x120, hF⟩ := hP
  replace h := (hF _ (by omega)).trans h
  replace hFr := fun j hj => (hF j (by omega)).trans (hFr j hj)
  replace x1 := x1.out (hF) (by omega)
  replace x17 := x17.out (hF) (by omega)
  replace x33 := x33.out (hF) (by omega)
  replace x115 := x115.out (hF) (by omega)
  replace x118 := x118.out (hF) (by omega)
  refine v_putfieldF (pc := 67) cx hini fpX11_43 h ⟨rfl, rfl⟩ pf5 dX11_init_67 (fun E67 hE67 hF67 => ?_)
  replace h := hE67
  replace hFr := fun j hj => (hF67 j (by omega)).trans (hFr j hj)
  refine v_return (pc := 70) cx hI ?_ dX11_init_70
  have hO : Out E6 E67 0 1 := fun j hj => hF67 j (by omega)
  replace x1 := x1.out (hO) (by omega)
  replace x17 := x17.out (hO) (by omega)
  replace x33 := x33.out (hO) (by omega)
  replace x115 := x115.out (hO) (by omega)
  replace x118 := x118.out (hO) (by omega)
  replace x120 := x120.out (hO) (by omega)
  exact ⟨⟨h, x1, ⟨σ0, x17⟩, x33, ⟨_, _, _, x115⟩, x118, ⟨_, _, _, _, _, _, _, x120⟩⟩, hFr⟩