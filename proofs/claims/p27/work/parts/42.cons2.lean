/-! the constructors of the greater parts -/
def s0 : Nat → Int := fun i => match i with
  | 4 => 500
  | 11 => 100
  | 12 => 2
  | 13 => 10
  | 14 => 1
  | 16 => 360
  | 17 => 500
  | 18 => 60
  | _ => 0
def σ0 : Sg := (s0, [], [], [])
theorem ok_σ0 : ok σ0 := by
  refine ⟨?_, ?_, ⟨by decide, fun x hx => by cases hx⟩, ⟨by decide, fun x hx => by cases hx⟩, ⟨by decide, (fun x hx => by cases hx), List.Pairwise.nil⟩⟩
  · unfold okSc σ0 s0; decide
  · unfold okSe σ0 s0; decide
theorem okX_σ0 : okX (σ0, [], []) := ⟨ok_σ0, ⟨by decide, fun x hx => by cases hx⟩, ⟨by decide, fun x hx => by cases hx⟩⟩
set_option maxRecDepth 100000 in
set_option maxHeartbeats 4000000 in
theorem k_copyT (lc : Launch) (G : Gc) (E : Wd) (nh : Nat) {i od : Nat} {g : Nat → Int} (hi : i < 3) (hb : E od = some (AI G 8 g)) : CV lc G 1 yX11_copyRow cX11_copyRow 2 [.ref (gT G i), .ref (gb G + od)] E nh 0 0 (fun E' => E' od = some (AI G 8 (cpyI (tbV i) g 0 0 8)) ∧ ∀ j, j ≠ od → E' j = E j) := by
  refine CV.mk (by decide +kernel) rfl (Nat.le_of_ble_eq_true rfl) ?_
  intro X hG hL cx hR hI hini
  subst hG; subst hL
  show V X E (nh, 0, 0) 0 [some (.ref (gT (fG X) i)), some (.ref (gb (fG X) + od))] []
  refine v_aload_n (pc := 0) cx rfl ga0 dX11_copyRow_0 ?_
  refine v_iconst (pc := 1) cx dX11_copyRow_1 ?_
  refine v_aload_n (pc := 2) cx rfl ga1 dX11_copyRow_2 ?_
  refine v_iconst (pc := 3) cx dX11_copyRow_3 ?_
  refine v_aload_n (pc := 4) cx rfl ga0 dX11_copyRow_4 ?_
  refine v_tlen (pc := 5) cx hi dX11_copyRow_5 ?_
  refine v_aload_n (pc := 6) cx rfl ga1 dX11_copyRow_6 ?_
  refine v_alen (pc := 7) cx (by assumption) rfl dX11_copyRow_7 ?_
  refine v_callSI (pc := 8) cx hR (c_min _ _ _ _ ⟨⟨by omega, by omega⟩, ⟨by omega, by omega⟩⟩) mlX11_264 (by decide) rfl (Nat.le_of_ble_eq_true rfl) ⟨Nat.le_refl _, Nat.le_refl _⟩ dX11_copyRow_8 (fun r E' hP => ?_)
  obtain ⟨rfl, rfl⟩ := hP
  rw [show min (8 : Int) ((8 : Nat) : Int) = ((8 : Nat) : Int) by omega]
  refine v_copyT (pc := 11) cx 0 0 8 hR (by decide) acX11_267 ac_n ac_s ac_i hi hb (by omega) (Nat.le_of_ble_eq_true rfl) dX11_copyRow_11 (fun E1 hE1 hF1 => ?_)
  refine v_return (pc := 14) cx hI ?_ dX11_copyRow_14
  exact ⟨hE1, hF1⟩
set_option maxRecDepth 100000 in
set_option maxHeartbeats 4000000 in
theorem k_St (lc : Launch) (G : Gc) (E : Wd) (nh : Nat) {o : Nat} (hn : nh = o + 1) (h : E o = some (.inr (9, [.null, .null, .null, .null, .null, .null, .null, .int (iI 0), .int (iI 0)]))) : CV lc G 2 yX9_init cX9_init 1 [.ref (gb G + o)] E nh 15 251 (fun E' => isS G E' o σ0 ∧ Out E E' o (o + 16)) := by
  refine CV.mk (by decide +kernel) rfl (Nat.le_of_ble_eq_true rfl) ?_
  intro X hG hL cx hR hI hini
  subst hG; subst hL
  have hini := hini rfl
  show V X E (nh, 0, 0) 0 [some (.ref (gb (fG X) + o))] []
  subst hn
  have hFr : Out E E o (o + 16) := fun _ _ => rfl
  refine v_aload_n (pc := 0) cx rfl ga0 dX9_init_0 ?_
  refine v_objInit (pc := 1) cx hR (by decide) oiX9_3 oi_i oi_c (Nat.le_of_ble_eq_true rfl) dX9_init_1 ?_
  refine v_aload_n (pc := 4) cx rfl ga0 dX9_init_4 ?_
  refine v_bipush (pc := 5) cx (by decide) dX9_init_5 ?_
  refine v_newint (pc := 7) cx 8 hR aw_int ⟨rfl, by decide⟩ ⟨Nat.le_of_ble_eq_true rfl, Nat.le_of_ble_eq_true rfl⟩ dX9_init_7 (fun E7 hE7 hF7 => ?_)
  replace hE7 : E7 (o + 1) = _ := hE7
  replace hF7 : ∀ j, j ≠ o + 1 → E7 j = _ := hF7
  replace h := (hF7 _ (by omega)).trans h
  replace hFr := fun j hj => (hF7 j (by omega)).trans (hFr j hj)
  refine v_putfieldF (pc := 9) cx hini fpX9_9 h ⟨rfl, rfl⟩ pf0 dX9_init_9 (fun E9 hE9 hF9 => ?_)
  replace h := hE9
  replace hFr := fun j hj => (hF9 j (by omega)).trans (hFr j hj)
  replace hE7 := (hF9 _ (by omega)).trans hE7
  refine v_aload_n (pc := 12) cx rfl ga0 dX9_init_12 ?_
  refine v_new (pc := 13) cx hR nwX9_15 ⟨Nat.le_of_ble_eq_true rfl, Nat.le_of_ble_eq_true rfl⟩ dX9_init_13 (fun E13 hE13 hF13 => ?_)
  replace hE13 : E13 (o + 2) = _ := hE13
  replace hF13 : ∀ j, j ≠ o + 2 → E13 j = _ := hF13
  replace h := (hF13 _ (by omega)).trans h
  replace hFr := fun j hj => (hF13 j (by omega)).trans (hFr j hj)
  replace hE7 := (hF13 _ (by omega)).trans hE7
  refine v_dup (pc := 16) cx rfl dX9_init_16 ?_
  refine v_callK (pc := 17) cx hR (k_Sh _ _ _ _ (o := o + 2) rfl hE13) mlX9_17 (by decide) rfl (Nat.le_of_ble_eq_true rfl) ⟨Nat.le_of_ble_eq_true rfl, Nat.le_of_ble_eq_true rfl⟩ dX9_init_17 (fun E1 hP => ?_)
  show V X _ (o + 6, 5, 48) _ _ _
  obtain ⟨⟨u0, u1, u2, u3⟩, hF⟩ := hP
  replace h := (hF _ (by omega)).trans h
  replace hE7 := (hF _ (by omega)).trans hE7
  replace hFr := fun j hj => (hF j (by omega)).trans (hFr j hj)
  refine v_putfieldF (pc := 20) cx hini fpX9_18 h ⟨rfl, rfl⟩ pf1 dX9_init_20 (fun E20 hE20 hF20 => ?_)
  replace h := hE20
  replace hE7 := (hF20 _ (by omega)).trans hE7
  replace u0 := (hF20 _ (by omega)).trans u0
  replace u1 := (hF20 _ (by omega)).trans u1
  replace u2 := (hF20 _ (by omega)).trans u2
  replace u3 := (hF20 _ (by omega)).trans u3
  replace hFr := fun j hj => (hF20 j (by omega)).trans (hFr j hj)
  refine v_aload_n (pc := 23) cx rfl ga0 dX9_init_23 ?_
  refine v_new (pc := 24) cx hR nwX9_22 ⟨Nat.le_of_ble_eq_true rfl, Nat.le_of_ble_eq_true rfl⟩ dX9_init_24 (fun E24 hE24 hF24 => ?_)
  replace hE24 : E24 (o + 6) = _ := hE24
  replace hF24 : ∀ j, j ≠ o + 6 → E24 j = _ := hF24
  replace h := (hF24 _ (by omega)).trans h
  replace hE7 := (hF24 _ (by omega)).trans hE7
  replace u0 := (hF24 _ (by omega)).trans u0
  replace u1 := (hF24 _ (by omega)).trans u1
  replace u2 := (hF24 _ (by omega)).trans u2
  replace u3 := (hF24 _ (by omega)).trans u3
  replace hFr := fun j hj => (hF24 j (by omega)).trans (hFr j hj)
  refine v_dup (pc := 27) cx rfl dX9_init_27 ?_
  refine v_callK (pc := 28) cx hR (k_Fi _ _ _ _ (o := o + 6) hE24) mlX9_24 (by decide) rfl (Nat.le_of_ble_eq_true rfl) ⟨Nat.le_of_ble_eq_true rfl, Nat.le_of_ble_eq_true rfl⟩ dX9_init_28 (fun E2 hP => ?_)
  show V X _ (o + 7, 6, 50) _ _ _
  subst hP
  refine v_putfieldF (pc := 31) cx hini fpX9_25 h ⟨rfl, rfl⟩ pf2 dX9_init_31 (fun E31 hE31 hF31 => ?_)
  replace h := hE31
  replace hE7 := (hF31 _ (by omega)).trans hE7
  replace u0 := (hF31 _ (by omega)).trans u0
  replace u1 := (hF31 _ (by omega)).trans u1
  replace u2 := (hF31 _ (by omega)).trans u2
  replace u3 := (hF31 _ (by omega)).trans u3
  replace hE24 := (hF31 _ (by omega)).trans hE24
  replace hFr := fun j hj => (hF31 j (by omega)).trans (hFr j hj)
  refine v_aload_n (pc := 34) cx rfl ga0 dX9_init_34 ?_
  refine v_new (pc := 35) cx hR nwX9_29 ⟨Nat.le_of_ble_eq_true rfl, Nat.le_of_ble_eq_true rfl⟩ dX9_init_35 (fun E35 hE35 hF35 => ?_)
  replace hE35 : E35 (o + 7) = _ := hE35
  replace hF35 : ∀ j, j ≠ o + 7 → E35 j = _ := hF35
  replace h := (hF35 _ (by omega)).trans h
  replace hE7 := (hF35 _ (by omega)).trans hE7
  replace u0 := (hF35 _ (by omega)).trans u0
  replace u1 := (hF35 _ (by omega)).trans u1
  replace u2 := (hF35 _ (by omega)).trans u2
  replace u3 := (hF35 _ (by omega)).trans u3
  replace hE24 := (hF35 _ (by omega)).trans hE24
  replace hFr := fun j hj => (hF35 j (by omega)).trans (hFr j hj)
  refine v_dup (pc := 38) cx rfl dX9_init_38 ?_
  refine v_callK (pc := 39) cx hR (k_Bk _ _ _ _ (o := o + 7) hE35) mlX9_31 (by decide) rfl (Nat.le_of_ble_eq_true rfl) ⟨Nat.le_of_ble_eq_true rfl, Nat.le_of_ble_eq_true rfl⟩ dX9_init_39 (fun E3 hP => ?_)
  show V X _ (o + 8, 7, 56) _ _ _
  subst hP
  refine v_putfieldF (pc := 42) cx hini fpX9_32 h ⟨rfl, rfl⟩ pf3 dX9_init_42 (fun E42 hE42 hF42 => ?_)
  replace h := hE42
  replace hE7 := (hF42 _ (by omega)).trans hE7
  replace u0 := (hF42 _ (by omega)).trans u0
  replace u1 := (hF42 _ (by omega)).trans u1
  replace u2 := (hF42 _ (by omega)).trans u2
  replace u3 := (hF42 _ (by omega)).trans u3
  replace hE24 := (hF42 _ (by omega)).trans hE24
  replace hE35 := (hF42 _ (by omega)).trans hE35
  replace hFr := fun j hj => (hF42 j (by omega)).trans (hFr j hj)
  refine v_aload_n (pc := 45) cx rfl ga0 dX9_init_45 ?_
  refine v_new (pc := 46) cx hR nwX9_36 ⟨Nat.le_of_ble_eq_true rfl, Nat.le_of_ble_eq_true rfl⟩ dX9_init_46 (fun E46 hE46 hF46 => ?_)
  replace hE46 : E46 (o + 8) = _ := hE46
  replace hF46 : ∀ j, j ≠ o + 8 → E46 j = _ := hF46
  replace h := (hF46 _ (by omega)).trans h
  replace hE7 := (hF46 _ (by omega)).trans hE7
  replace u0 := (hF46 _ (by omega)).trans u0
  replace u1 := (hF46 _ (by omega)).trans u1
  replace u2 := (hF46 _ (by omega)).trans u2
  replace u3 := (hF46 _ (by omega)).trans u3
  replace hE24 := (hF46 _ (by omega)).trans hE24
  replace hE35 := (hF46 _ (by omega)).trans hE35
  replace hFr := fun j hj => (hF46 j (by omega)).trans (hFr j hj)
  refine v_dup (pc := 49) cx rfl dX9_init_49 ?_
  refine v_callK (pc := 50) cx hR (k_Cl _ _ _ _ (o := o + 8) hE46) mlX9_38 (by decide) rfl (Nat.le_of_ble_eq_true rfl) ⟨Nat.le_of_ble_eq_true rfl, Nat.le_of_ble_eq_true rfl⟩ dX9_init_50 (fun E4 hP => ?_)
  show V X _ (o + 9, 8, 58) _ _ _
  obtain ⟨w0, hF⟩ := hP
  replace h := (hF _ (by omega)).trans h
  replace hE7 := (hF _ (by omega)).trans hE7
  replace u0 := (hF _ (by omega)).trans u0
  replace u1 := (hF _ (by omega)).trans u1
  replace u2 := (hF _ (by omega)).trans u2
  replace u3 := (hF _ (by omega)).trans u3
  replace hE24 := (hF _ (by omega)).trans hE24
  replace hE35 := (hF _ (by omega)).trans hE35
  replace hFr := fun j hj => (hF j (by omega)).trans (hFr j hj)
  refine v_putfieldF (pc := 53) cx hini fpX9_39 h ⟨rfl, rfl⟩ pf4 dX9_init_53 (fun E53 hE53 hF53 => ?_)
  replace h := hE53
  replace hE7 := (hF53 _ (by omega)).trans hE7
  replace u0 := (hF53 _ (by omega)).trans u0
  replace u1 := (hF53 _ (by omega)).trans u1
  replace u2 := (hF53 _ (by omega)).trans u2
  replace u3 := (hF53 _ (by omega)).trans u3
  replace hE24 := (hF53 _ (by omega)).trans hE24
  replace hE35 := (hF53 _ (by omega)).trans hE35
  replace w0 := (hF53 _ (by omega)).trans w0
  replace hFr := fun j hj => (hF53 j (by omega)).trans (hFr j hj)
  refine v_aload_n (pc := 56) cx rfl ga0 dX9_init_56 ?_
  refine v_new (pc := 57) cx hR nwX9_43 ⟨Nat.le_of_ble_eq_true rfl, Nat.le_of_ble_eq_true rfl⟩ dX9_init_57 (fun E57 hE57 hF57 => ?_)
  replace hE57 : E57 (o + 9) = _ := hE57
  replace hF57 : ∀ j, j ≠ o + 9 → E57 j = _ := hF57
  replace h := (hF57 _ (by omega)).trans h
  replace hE7 := (hF57 _ (by omega)).trans hE7
  replace u0 := (hF57 _ (by omega)).trans u0
  replace u1 := (hF57 _ (by omega)).trans u1
  replace u2 := (hF57 _ (by omega)).trans u2
  replace u3 := (hF57 _ (by omega)).trans u3
  replace hE24 := (hF57 _ (by omega)).trans hE24
  replace hE35 := (hF57 _ (by omega)).trans hE35
  replace w0 := (hF57 _ (by omega)).trans w0
  replace hFr := fun j hj => (hF57 j (by omega)).trans (hFr j hj)
  refine v_dup (pc := 60) cx rfl dX9_init_60 ?_
  refine v_callK (pc := 61) cx hR (k_Ge _ _ _ _ (o := o + 9) rfl hE57) mlX9_45 (by decide) rfl (Nat.le_of_ble_eq_true rfl) ⟨Nat.le_of_ble_eq_true rfl, Nat.le_of_ble_eq_true rfl⟩ dX9_init_61 (fun E5 hP => ?_)
  show V X _ (o + 12, 11, 67) _ _ _
  obtain ⟨⟨x0, x1, x2⟩, hF⟩ := hP
  replace h := (hF _ (by omega)).trans h
  replace hE7 := (hF _ (by omega)).trans hE7
  replace u0 := (hF _ (by omega)).trans u0
  replace u1 := (hF _ (by omega)).trans u1
  replace u2 := (hF _ (by omega)).trans u2
  replace u3 := (hF _ (by omega)).trans u3
  replace hE24 := (hF _ (by omega)).trans hE24
  replace hE35 := (hF _ (by omega)).trans hE35
  replace w0 := (hF _ (by omega)).trans w0
  replace hFr := fun j hj => (hF j (by omega)).trans (hFr j hj)
  refine v_putfieldF (pc := 64) cx hini fpX9_46 h ⟨rfl, rfl⟩ pf5 dX9_init_64 (fun E64 hE64 hF64 => ?_)
  replace h := hE64
  replace hE7 := (hF64 _ (by omega)).trans hE7
  replace u0 := (hF64 _ (by omega)).trans u0
  replace u1 := (hF64 _ (by omega)).trans u1
  replace u2 := (hF64 _ (by omega)).trans u2
  replace u3 := (hF64 _ (by omega)).trans u3
  replace hE24 := (hF64 _ (by omega)).trans hE24
  replace hE35 := (hF64 _ (by omega)).trans hE35
  replace w0 := (hF64 _ (by omega)).trans w0
  replace x0 := (hF64 _ (by omega)).trans x0
  replace x1 := (hF64 _ (by omega)).trans x1
  replace x2 := (hF64 _ (by omega)).trans x2
  replace hFr := fun j hj => (hF64 j (by omega)).trans (hFr j hj)
  refine v_aload_n (pc := 67) cx rfl ga0 dX9_init_67 ?_
  refine v_new (pc := 68) cx hR nwX9_50 ⟨Nat.le_of_ble_eq_true rfl, Nat.le_of_ble_eq_true rfl⟩ dX9_init_68 (fun E68 hE68 hF68 => ?_)
  replace hE68 : E68 (o + 12) = _ := hE68
  replace hF68 : ∀ j, j ≠ o + 12 → E68 j = _ := hF68
  replace h := (hF68 _ (by omega)).trans h
  replace hE7 := (hF68 _ (by omega)).trans hE7
  replace u0 := (hF68 _ (by omega)).trans u0
  replace u1 := (hF68 _ (by omega)).trans u1
  replace u2 := (hF68 _ (by omega)).trans u2
  replace u3 := (hF68 _ (by omega)).trans u3
  replace hE24 := (hF68 _ (by omega)).trans hE24
  replace hE35 := (hF68 _ (by omega)).trans hE35
  replace w0 := (hF68 _ (by omega)).trans w0
  replace x0 := (hF68 _ (by omega)).trans x0
  replace x1 := (hF68 _ (by omega)).trans x1
  replace x2 := (hF68 _ (by omega)).trans x2
  replace hFr := fun j hj => (hF68 j (by omega)).trans (hFr j hj)
  refine v_dup (pc := 71) cx rfl dX9_init_71 ?_
  refine v_callK (pc := 72) cx hR (k_Mk _ _ _ _ (o := o + 12) rfl hE68) mlX9_52 (by decide) rfl (Nat.le_of_ble_eq_true rfl) ⟨Nat.le_of_ble_eq_true rfl, Nat.le_of_ble_eq_true rfl⟩ dX9_init_72 (fun E6 hP => ?_)
  show V X _ (o + 16, 15, 251) _ _ _
  obtain ⟨⟨y0, y1, y2, y3⟩, hF⟩ := hP
  replace h := (hF _ (by omega)).trans h
  replace hE7 := (hF _ (by omega)).trans hE7
  replace u0 := (hF _ (by omega)).trans u0
  replace u1 := (hF _ (by omega)).trans u1
  replace u2 := (hF _ (by omega)).trans u2
  replace u3 := (hF _ (by omega)).trans u3
  replace hE24 := (hF _ (by omega)).trans hE24
  replace hE35 := (hF _ (by omega)).trans hE35
  replace w0 := (hF _ (by omega)).trans w0
  replace x0 := (hF _ (by omega)).trans x0
  replace x1 := (hF _ (by omega)).trans x1
  replace x2 := (hF _ (by omega)).trans x2
  replace hFr := fun j hj => (hF j (by omega)).trans (hFr j hj)
  refine v_putfieldF (pc := 75) cx hini fpX9_53 h ⟨rfl, rfl⟩ pf6 dX9_init_75 (fun E75 hE75 hF75 => ?_)
  replace h := hE75
  replace hE7 := (hF75 _ (by omega)).trans hE7
  replace u0 := (hF75 _ (by omega)).trans u0
  replace u1 := (hF75 _ (by omega)).trans u1
  replace u2 := (hF75 _ (by omega)).trans u2
  replace u3 := (hF75 _ (by omega)).trans u3
  replace hE24 := (hF75 _ (by omega)).trans hE24
  replace hE35 := (hF75 _ (by omega)).trans hE35
  replace w0 := (hF75 _ (by omega)).trans w0
  replace x0 := (hF75 _ (by omega)).trans x0
  replace x1 := (hF75 _ (by omega)).trans x1
  replace x2 := (hF75 _ (by omega)).trans x2
  replace y0 := (hF75 _ (by omega)).trans y0
  replace y1 := (hF75 _ (by omega)).trans y1
  replace y2 := (hF75 _ (by omega)).trans y2
  replace y3 := (hF75 _ (by omega)).trans y3
  replace hFr := fun j hj => (hF75 j (by omega)).trans (hFr j hj)
  refine v_getstaticN (pc := 78) cx 2 (by decide) gnX9_57 dX9_init_78 ?_
  refine v_aload_n (pc := 81) cx rfl ga0 dX9_init_81 ?_
  refine v_getfield (pc := 82) cx flX9_9 (by assumption) gf0 dX9_init_82 ?_
  refine v_callSV (pc := 85) cx hR (k_copyT _ _ _ _ (i := 2) (by decide) hE7) mlX9_60 (by decide) rfl (Nat.le_of_ble_eq_true rfl) ⟨Nat.le_of_ble_eq_true rfl, Nat.le_of_ble_eq_true rfl⟩ dX9_init_85 (fun E7 hP => ?_)
  show V X _ (o + 16, 15, 251) _ _ _
  obtain ⟨z0, hF⟩ := hP
  replace h := (hF _ (by omega)).trans h
  replace u0 := (hF _ (by omega)).trans u0
  replace u1 := (hF _ (by omega)).trans u1
  replace u2 := (hF _ (by omega)).trans u2
  replace u3 := (hF _ (by omega)).trans u3
  replace hE24 := (hF _ (by omega)).trans hE24
  replace hE35 := (hF _ (by omega)).trans hE35
  replace w0 := (hF _ (by omega)).trans w0
  replace x0 := (hF _ (by omega)).trans x0
  replace x1 := (hF _ (by omega)).trans x1
  replace x2 := (hF _ (by omega)).trans x2
  replace y0 := (hF _ (by omega)).trans y0
  replace y1 := (hF _ (by omega)).trans y1
  replace y2 := (hF _ (by omega)).trans y2
  replace y3 := (hF _ (by omega)).trans y3
  replace hFr := fun j hj => (hF j (by omega)).trans (hFr j hj)
  refine v_return (pc := 88) cx hI ?_ dX9_init_88
  exact ⟨⟨_, 0, _, _, _, 0, 0, (0, 0, 0, 0, 0, 0), 500, 0, 0, _, _, 0, _, _, _, 0, 0, ⟨h, z0, ⟨u0, u1, u2, u3⟩, hE24, hE35, w0, ⟨x0, x1, x2⟩, ⟨y0, y1, y2, y3⟩⟩, by decide, rfl, by decide, rfl, ⟨rfl, rfl, rfl, rfl, rfl, rfl⟩, rfl, rfl, ⟨rfl, by decide⟩, ⟨rfl, by decide⟩, rfl, rfl⟩, hFr⟩
