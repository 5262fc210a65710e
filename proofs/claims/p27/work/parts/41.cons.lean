/-! the constructors -/
theorem v_asExt {X : Fx} {E : Wd} {z : Nat × Nat × Nat} {pc : Nat} {ls : List (Option Value)} {st : List Value} {o n : Nat} {g g' : Nat → Option Nat} (he : E o = some (AS (fG X) n g)) (hg : ∀ j, j < n → g j = g' j) (kk : ∀ E1 : Wd, E1 o = some (AS (fG X) n g') → (∀ j, j ≠ o → E1 j = E j) → V X E1 z pc ls st) : V X E z pc ls st := by
  intro H locs L h1
  refine kk _ upW_s upW_n H locs L ⟨h1.1.upd ?_ (fun _ _ => rfl), h1.2⟩
  have e := h1.1 o _ he
  have e : H[gb (fG X) + o]? = some (vp_cell _ _) := e
  show H[gb (fG X) + o]? = some (vp_cell _ _)
  rw [e, vp_cell_q, vp_cell_q]
  unfold arrV
  congr 2
  congr 1
  funext j
  show va_rf (Option.map _ (g j.1)) = va_rf (Option.map _ (g' j.1))
  rw [hg j.1 j.2]
set_option maxRecDepth 100000 in
set_option maxHeartbeats 4000000 in
theorem k_Fi (lc : Launch) (G : Gc) (E : Wd) (nh : Nat) {o : Nat} (h : E o = some (oFi 0 0)) : CV lc G 1 yX2_init cX2_init 1 [.ref (gb G + o)] E nh 0 0 (fun E' => E' = E) := by
  refine CV.mk (by decide +kernel) rfl (Nat.le_of_ble_eq_true rfl) ?_
  intro X hG hL cx hR hI hini
  subst hG; subst hL
  have hini := hini rfl
  show V X E (nh, 0, 0) 0 [some (.ref (gb (fG X) + o))] []
  refine v_aload_n (pc := 0) cx rfl ga0 dX2_init_0 ?_
  refine v_objInit (pc := 1) cx hR (by decide) oiX2_1 oi_i oi_c (Nat.le_of_ble_eq_true rfl) dX2_init_1 ?_
  refine v_return (pc := 4) cx hI ?_ dX2_init_4
  rfl
set_option maxRecDepth 100000 in
set_option maxHeartbeats 4000000 in
theorem k_Bk (lc : Launch) (G : Gc) (E : Wd) (nh : Nat) {o : Nat} (h : E o = some (oBk (0, 0, 0, 0, 0, 0))) : CV lc G 1 yX0_init cX0_init 1 [.ref (gb G + o)] E nh 0 0 (fun E' => E' = E) := by
  refine CV.mk (by decide +kernel) rfl (Nat.le_of_ble_eq_true rfl) ?_
  intro X hG hL cx hR hI hini
  subst hG; subst hL
  have hini := hini rfl
  show V X E (nh, 0, 0) 0 [some (.ref (gb (fG X) + o))] []
  refine v_aload_n (pc := 0) cx rfl ga0 dX0_init_0 ?_
  refine v_objInit (pc := 1) cx hR (by decide) oiX0_3 oi_i oi_c (Nat.le_of_ble_eq_true rfl) dX0_init_1 ?_
  refine v_return (pc := 4) cx hI ?_ dX0_init_4
  rfl
set_option maxRecDepth 100000 in
set_option maxHeartbeats 4000000 in
theorem k_Cl (lc : Launch) (G : Gc) (E : Wd) (nh : Nat) {o : Nat} (h : E o = some (oCl 0 0)) : CV lc G 1 yX1_init cX1_init 1 [.ref (gb G + o)] E nh 0 0 (fun E' => E' o = some (oCl 500 0) ∧ Out E E' o (o + 1)) := by
  refine CV.mk (by decide +kernel) rfl (Nat.le_of_ble_eq_true rfl) ?_
  intro X hG hL cx hR hI hini
  subst hG; subst hL
  have hini := hini rfl
  show V X E (nh, 0, 0) 0 [some (.ref (gb (fG X) + o))] []
  have hFr : Out E E o (o + 1) := fun _ _ => rfl
  refine v_aload_n (pc := 0) cx rfl ga0 dX1_init_0 ?_
  refine v_objInit (pc := 1) cx hR (by decide) oiX1_3 oi_i oi_c (Nat.le_of_ble_eq_true rfl) dX1_init_1 ?_
  refine v_aload_n (pc := 4) cx rfl ga0 dX1_init_4 ?_
  refine v_getstaticN (pc := 5) cx 2 (by decide) gnX1_9 dX1_init_5 ?_
  refine v_bipush (pc := 8) cx (by decide) dX1_init_8 ?_
  refine v_tload (pc := 10) cx (6) (by decide) (by omega) dX1_init_10 ?_
  refine v_putfield (pc := 11) cx fpX1_13 h ⟨rfl, rfl⟩ pf0 dX1_init_11 (fun E11 hE11 hF11 => ?_)
  replace h := hE11
  replace hFr := fun j hj => (hF11 j (by omega)).trans (hFr j hj)
  refine v_return (pc := 14) cx hI ?_ dX1_init_14
  exact ⟨h, hFr⟩
set_option maxRecDepth 100000 in
set_option maxHeartbeats 4000000 in
theorem k_Ge (lc : Launch) (G : Gc) (E : Wd) (nh : Nat) {o : Nat} (hn : nh = o + 1) (h : E o = some (.inr (3, [.null, .null, .int (iI 0)]))) : CV lc G 1 yX3_init cX3_init 1 [.ref (gb G + o)] E nh 2 6 (fun E' => rGe G E' o 0 (fun _ => 0) (fun _ => 0) ∧ Out E E' o (o + 3)) := by
  refine CV.mk (by decide +kernel) rfl (Nat.le_of_ble_eq_true rfl) ?_
  intro X hG hL cx hR hI hini
  subst hG; subst hL
  have hini := hini rfl
  show V X E (nh, 0, 0) 0 [some (.ref (gb (fG X) + o))] []
  subst hn
  have hFr : Out E E o (o + 3) := fun _ _ => rfl
  refine v_aload_n (pc := 0) cx rfl ga0 dX3_init_0 ?_
  refine v_objInit (pc := 1) cx hR (by decide) oiX3_3 oi_i oi_c (Nat.le_of_ble_eq_true rfl) dX3_init_1 ?_
  refine v_aload_n (pc := 4) cx rfl ga0 dX3_init_4 ?_
  refine v_iconst (pc := 5) cx dX3_init_5 ?_
  refine v_newint (pc := 6) cx 3 hR aw_int ⟨rfl, by decide⟩ ⟨Nat.le_of_ble_eq_true rfl, Nat.le_of_ble_eq_true rfl⟩ dX3_init_6 (fun E6 hE6 hF6 => ?_)
  replace hE6 : E6 (o + 1) = _ := hE6
  replace hF6 : ∀ j, j ≠ o + 1 → E6 j = _ := hF6
  replace h := (hF6 _ (by omega)).trans h
  replace hFr := fun j hj => (hF6 j (by omega)).trans (hFr j hj)
  refine v_putfieldF (pc := 8) cx hini fpX3_9 h ⟨rfl, rfl⟩ pf0 dX3_init_8 (fun E8 hE8 hF8 => ?_)
  replace h := hE8
  replace hFr := fun j hj => (hF8 j (by omega)).trans (hFr j hj)
  replace hE6 := (hF8 _ (by omega)).trans hE6
  refine v_aload_n (pc := 11) cx rfl ga0 dX3_init_11 ?_
  refine v_iconst (pc := 12) cx dX3_init_12 ?_
  refine v_newint (pc := 13) cx 3 hR aw_int ⟨rfl, by decide⟩ ⟨Nat.le_of_ble_eq_true rfl, Nat.le_of_ble_eq_true rfl⟩ dX3_init_13 (fun E13 hE13 hF13 => ?_)
  replace hE13 : E13 (o + 2) = _ := hE13
  replace hF13 : ∀ j, j ≠ o + 2 → E13 j = _ := hF13
  replace h := (hF13 _ (by omega)).trans h
  replace hFr := fun j hj => (hF13 j (by omega)).trans (hFr j hj)
  replace hE6 := (hF13 _ (by omega)).trans hE6
  refine v_putfieldF (pc := 15) cx hini fpX3_15 h ⟨rfl, rfl⟩ pf1 dX3_init_15 (fun E15 hE15 hF15 => ?_)
  replace h := hE15
  replace hFr := fun j hj => (hF15 j (by omega)).trans (hFr j hj)
  replace hE6 := (hF15 _ (by omega)).trans hE6
  replace hE13 := (hF15 _ (by omega)).trans hE13
  refine v_return (pc := 18) cx hI ?_ dX3_init_18
  exact ⟨⟨h, hE6, hE13⟩, hFr⟩
set_option maxRecDepth 100000 in
set_option maxHeartbeats 4000000 in
theorem k_Mk (lc : Launch) (G : Gc) (E : Wd) (nh : Nat) {o : Nat} (hn : nh = o + 1) (h : E o = some (.inr (5, [.null, .null, .null, .int (iI 0)]))) : CV lc G 1 yX5_init cX5_init 1 [.ref (gb G + o)] E nh 3 180 (fun E' => rMk G E' o 0 (fun _ => 0) (fun _ => 0) (fun _ => 0) ∧ Out E E' o (o + 4)) := by
  refine CV.mk (by decide +kernel) rfl (Nat.le_of_ble_eq_true rfl) ?_
  intro X hG hL cx hR hI hini
  subst hG; subst hL
  have hini := hini rfl
  show V X E (nh, 0, 0) 0 [some (.ref (gb (fG X) + o))] []
  subst hn
  have hFr : Out E E o (o + 4) := fun _ _ => rfl
  refine v_aload_n (pc := 0) cx rfl ga0 dX5_init_0 ?_
  refine v_objInit (pc := 1) cx hR (by decide) oiX5_3 oi_i oi_c (Nat.le_of_ble_eq_true rfl) dX5_init_1 ?_
  refine v_aload_n (pc := 4) cx rfl ga0 dX5_init_4 ?_
  refine v_bipush (pc := 5) cx (by decide) dX5_init_5 ?_
  refine v_newint (pc := 7) cx 60 hR aw_int ⟨rfl, by decide⟩ ⟨Nat.le_of_ble_eq_true rfl, Nat.le_of_ble_eq_true rfl⟩ dX5_init_7 (fun E7 hE7 hF7 => ?_)
  replace hE7 : E7 (o + 1) = _ := hE7
  replace hF7 : ∀ j, j ≠ o + 1 → E7 j = _ := hF7
  replace h := (hF7 _ (by omega)).trans h
  replace hFr := fun j hj => (hF7 j (by omega)).trans (hFr j hj)
  refine v_putfieldF (pc := 9) cx hini fpX5_9 h ⟨rfl, rfl⟩ pf0 dX5_init_9 (fun E9 hE9 hF9 => ?_)
  replace h := hE9
  replace hFr := fun j hj => (hF9 j (by omega)).trans (hFr j hj)
  replace hE7 := (hF9 _ (by omega)).trans hE7
  refine v_aload_n (pc := 12) cx rfl ga0 dX5_init_12 ?_
  refine v_bipush (pc := 13) cx (by decide) dX5_init_13 ?_
  refine v_newint (pc := 15) cx 60 hR aw_int ⟨rfl, by decide⟩ ⟨Nat.le_of_ble_eq_true rfl, Nat.le_of_ble_eq_true rfl⟩ dX5_init_15 (fun E15 hE15 hF15 => ?_)
  replace hE15 : E15 (o + 2) = _ := hE15
  replace hF15 : ∀ j, j ≠ o + 2 → E15 j = _ := hF15
  replace h := (hF15 _ (by omega)).trans h
  replace hFr := fun j hj => (hF15 j (by omega)).trans (hFr j hj)
  replace hE7 := (hF15 _ (by omega)).trans hE7
  refine v_putfieldF (pc := 17) cx hini fpX5_15 h ⟨rfl, rfl⟩ pf1 dX5_init_17 (fun E17 hE17 hF17 => ?_)
  replace h := hE17
  replace hFr := fun j hj => (hF17 j (by omega)).trans (hFr j hj)
  replace hE7 := (hF17 _ (by omega)).trans hE7
  replace hE15 := (hF17 _ (by omega)).trans hE15
  refine v_aload_n (pc := 20) cx rfl ga0 dX5_init_20 ?_
  refine v_bipush (pc := 21) cx (by decide) dX5_init_21 ?_
  refine v_newint (pc := 23) cx 60 hR aw_int ⟨rfl, by decide⟩ ⟨Nat.le_of_ble_eq_true rfl, Nat.le_of_ble_eq_true rfl⟩ dX5_init_23 (fun E23 hE23 hF23 => ?_)
  replace hE23 : E23 (o + 3) = _ := hE23
  replace hF23 : ∀ j, j ≠ o + 3 → E23 j = _ := hF23
  replace h := (hF23 _ (by omega)).trans h
  replace hFr := fun j hj => (hF23 j (by omega)).trans (hFr j hj)
  replace hE7 := (hF23 _ (by omega)).trans hE7
  replace hE15 := (hF23 _ (by omega)).trans hE15
  refine v_putfieldF (pc := 25) cx hini fpX5_18 h ⟨rfl, rfl⟩ pf2 dX5_init_25 (fun E25 hE25 hF25 => ?_)
  replace h := hE25
  replace hFr := fun j hj => (hF25 j (by omega)).trans (hFr j hj)
  replace hE7 := (hF25 _ (by omega)).trans hE7
  replace hE15 := (hF25 _ (by omega)).trans hE15
  replace hE23 := (hF25 _ (by omega)).trans hE23
  refine v_return (pc := 28) cx hI ?_ dX5_init_28
  exact ⟨⟨h, hE7, hE15, hE23⟩, hFr⟩
set_option maxRecDepth 100000 in
set_option maxHeartbeats 4000000 in
theorem k_Sh (lc : Launch) (G : Gc) (E : Wd) (nh : Nat) {o : Nat} (hn : nh = o + 1) (h : E o = some (.inr (8, [.null, .null, .null, .int (iI 0)]))) : CV lc G 1 yX8_init cX8_init 1 [.ref (gb G + o)] E nh 3 36 (fun E' => rSh G E' o 0 (fun _ => 0) (fun _ => 0) (fun _ => 0) ∧ Out E E' o (o + 4)) := by
  refine CV.mk (by decide +kernel) rfl (Nat.le_of_ble_eq_true rfl) ?_
  intro X hG hL cx hR hI hini
  subst hG; subst hL
  have hini := hini rfl
  show V X E (nh, 0, 0) 0 [some (.ref (gb (fG X) + o))] []
  subst hn
  have hFr : Out E E o (o + 4) := fun _ _ => rfl
  refine v_aload_n (pc := 0) cx rfl ga0 dX8_init_0 ?_
  refine v_objInit (pc := 1) cx hR (by decide) oiX8_3 oi_i oi_c (Nat.le_of_ble_eq_true rfl) dX8_init_1 ?_
  refine v_aload_n (pc := 4) cx rfl ga0 dX8_init_4 ?_
  refine v_bipush (pc := 5) cx (by decide) dX8_init_5 ?_
  refine v_newint (pc := 7) cx 12 hR aw_int ⟨rfl, by decide⟩ ⟨Nat.le_of_ble_eq_true rfl, Nat.le_of_ble_eq_true rfl⟩ dX8_init_7 (fun E7 hE7 hF7 => ?_)
  replace hE7 : E7 (o + 1) = _ := hE7
  replace hF7 : ∀ j, j ≠ o + 1 → E7 j = _ := hF7
  replace h := (hF7 _ (by omega)).trans h
  replace hFr := fun j hj => (hF7 j (by omega)).trans (hFr j hj)
  refine v_putfieldF (pc := 9) cx hini fpX8_9 h ⟨rfl, rfl⟩ pf0 dX8_init_9 (fun E9 hE9 hF9 => ?_)
  replace h := hE9
  replace hFr := fun j hj => (hF9 j (by omega)).trans (hFr j hj)
  replace hE7 := (hF9 _ (by omega)).trans hE7
  refine v_aload_n (pc := 12) cx rfl ga0 dX8_init_12 ?_
  refine v_bipush (pc := 13) cx (by decide) dX8_init_13 ?_
  refine v_newint (pc := 15) cx 12 hR aw_int ⟨rfl, by decide⟩ ⟨Nat.le_of_ble_eq_true rfl, Nat.le_of_ble_eq_true rfl⟩ dX8_init_15 (fun E15 hE15 hF15 => ?_)
  replace hE15 : E15 (o + 2) = _ := hE15
  replace hF15 : ∀ j, j ≠ o + 2 → E15 j = _ := hF15
  replace h := (hF15 _ (by omega)).trans h
  replace hFr := fun j hj => (hF15 j (by omega)).trans (hFr j hj)
  replace hE7 := (hF15 _ (by omega)).trans hE7
  refine v_putfieldF (pc := 17) cx hini fpX8_15 h ⟨rfl, rfl⟩ pf1 dX8_init_17 (fun E17 hE17 hF17 => ?_)
  replace h := hE17
  replace hFr := fun j hj => (hF17 j (by omega)).trans (hFr j hj)
  replace hE7 := (hF17 _ (by omega)).trans hE7
  replace hE15 := (hF17 _ (by omega)).trans hE15
  refine v_aload_n (pc := 20) cx rfl ga0 dX8_init_20 ?_
  refine v_bipush (pc := 21) cx (by decide) dX8_init_21 ?_
  refine v_newint (pc := 23) cx 12 hR aw_int ⟨rfl, by decide⟩ ⟨Nat.le_of_ble_eq_true rfl, Nat.le_of_ble_eq_true rfl⟩ dX8_init_23 (fun E23 hE23 hF23 => ?_)
  replace hE23 : E23 (o + 3) = _ := hE23
  replace hF23 : ∀ j, j ≠ o + 3 → E23 j = _ := hF23
  replace h := (hF23 _ (by omega)).trans h
  replace hFr := fun j hj => (hF23 j (by omega)).trans (hFr j hj)
  replace hE7 := (hF23 _ (by omega)).trans hE7
  replace hE15 := (hF23 _ (by omega)).trans hE15
  refine v_putfieldF (pc := 25) cx hini fpX8_18 h ⟨rfl, rfl⟩ pf2 dX8_init_25 (fun E25 hE25 hF25 => ?_)
  replace h := hE25
  replace hFr := fun j hj => (hF25 j (by omega)).trans (hFr j hj)
  replace hE7 := (hF25 _ (by omega)).trans hE7
  replace hE15 := (hF25 _ (by omega)).trans hE15
  replace hE23 := (hF25 _ (by omega)).trans hE23
  refine v_return (pc := 28) cx hI ?_ dX8_init_28
  exact ⟨⟨h, hE7, hE15, hE23⟩, hFr⟩
set_option maxRecDepth 100000 in
set_option maxHeartbeats 4000000 in
theorem k_Rd (lc : Launch) (G : Gc) (E : Wd) (nh : Nat) {o : Nat} (hn : nh = o + 1) (h : E o = some (.inr (7, [.null, .null, .null, .int (iI 0), .int (iI 0), .int (iI 0), .int (iI 0)]))) : CV lc G 1 yX7_init cX7_init 1 [.ref (gb G + o)] E nh 3 36 (fun E' => rRd G E' o 0 0 0 0 (fun _ => 0) (fun _ => 0) (fun _ => 0) ∧ Out E E' o (o + 4)) := by
  refine CV.mk (by decide +kernel) rfl (Nat.le_of_ble_eq_true rfl) ?_
  intro X hG hL cx hR hI hini
  subst hG; subst hL
  have hini := hini rfl
  show V X E (nh, 0, 0) 0 [some (.ref (gb (fG X) + o))] []
  subst hn
  have hFr : Out E E o (o + 4) := fun _ _ => rfl
  refine v_aload_n (pc := 0) cx rfl ga0 dX7_init_0 ?_
  refine v_objInit (pc := 1) cx hR (by decide) oiX7_3 oi_i oi_c (Nat.le_of_ble_eq_true rfl) dX7_init_1 ?_
  refine v_aload_n (pc := 4) cx rfl ga0 dX7_init_4 ?_
  refine v_bipush (pc := 5) cx (by decide) dX7_init_5 ?_
  refine v_newint (pc := 7) cx 12 hR aw_int ⟨rfl, by decide⟩ ⟨Nat.le_of_ble_eq_true rfl, Nat.le_of_ble_eq_true rfl⟩ dX7_init_7 (fun E7 hE7 hF7 => ?_)
  replace hE7 : E7 (o + 1) = _ := hE7
  replace hF7 : ∀ j, j ≠ o + 1 → E7 j = _ := hF7
  replace h := (hF7 _ (by omega)).trans h
  replace hFr := fun j hj => (hF7 j (by omega)).trans (hFr j hj)
  refine v_putfieldF (pc := 9) cx hini fpX7_9 h ⟨rfl, rfl⟩ pf0 dX7_init_9 (fun E9 hE9 hF9 => ?_)
  replace h := hE9
  replace hFr := fun j hj => (hF9 j (by omega)).trans (hFr j hj)
  replace hE7 := (hF9 _ (by omega)).trans hE7
  refine v_aload_n (pc := 12) cx rfl ga0 dX7_init_12 ?_
  refine v_bipush (pc := 13) cx (by decide) dX7_init_13 ?_
  refine v_newint (pc := 15) cx 12 hR aw_int ⟨rfl, by decide⟩ ⟨Nat.le_of_ble_eq_true rfl, Nat.le_of_ble_eq_true rfl⟩ dX7_init_15 (fun E15 hE15 hF15 => ?_)
  replace hE15 : E15 (o + 2) = _ := hE15
  replace hF15 : ∀ j, j ≠ o + 2 → E15 j = _ := hF15
  replace h := (hF15 _ (by omega)).trans h
  replace hFr := fun j hj => (hF15 j (by omega)).trans (hFr j hj)
  replace hE7 := (hF15 _ (by omega)).trans hE7
  refine v_putfieldF (pc := 17) cx hini fpX7_15 h ⟨rfl, rfl⟩ pf1 dX7_init_17 (fun E17 hE17 hF17 => ?_)
  replace h := hE17
  replace hFr := fun j hj => (hF17 j (by omega)).trans (hFr j hj)
  replace hE7 := (hF17 _ (by omega)).trans hE7
  replace hE15 := (hF17 _ (by omega)).trans hE15
  refine v_aload_n (pc := 20) cx rfl ga0 dX7_init_20 ?_
  refine v_bipush (pc := 21) cx (by decide) dX7_init_21 ?_
  refine v_newint (pc := 23) cx 12 hR aw_int ⟨rfl, by decide⟩ ⟨Nat.le_of_ble_eq_true rfl, Nat.le_of_ble_eq_true rfl⟩ dX7_init_23 (fun E23 hE23 hF23 => ?_)
  replace hE23 : E23 (o + 3) = _ := hE23
  replace hF23 : ∀ j, j ≠ o + 3 → E23 j = _ := hF23
  replace h := (hF23 _ (by omega)).trans h
  replace hFr := fun j hj => (hF23 j (by omega)).trans (hFr j hj)
  replace hE7 := (hF23 _ (by omega)).trans hE7
  replace hE15 := (hF23 _ (by omega)).trans hE15
  refine v_putfieldF (pc := 25) cx hini fpX7_18 h ⟨rfl, rfl⟩ pf2 dX7_init_25 (fun E25 hE25 hF25 => ?_)
  replace h := hE25
  replace hFr := fun j hj => (hF25 j (by omega)).trans (hFr j hj)
  replace hE7 := (hF25 _ (by omega)).trans hE7
  replace hE15 := (hF25 _ (by omega)).trans hE15
  replace hE23 := (hF25 _ (by omega)).trans hE23
  refine v_return (pc := 28) cx hI ?_ dX7_init_28
  exact ⟨⟨h, hE7, hE15, hE23⟩, hFr⟩
set_option maxRecDepth 100000 in
set_option maxHeartbeats 4000000 in
theorem k_Ol (lc : Launch) (G : Gc) (E : Wd) (nh : Nat) {o : Nat} (hn : nh = o + 1) (h : E o = some (.inr (6, [.null, .null, .int (iI 0)]))) : CV lc G 1 yX6_init cX6_init 1 [.ref (gb G + o)] E nh 2 2000 (fun E' => rOl G E' o 0 (fun _ => 0) (fun _ => 0) ∧ Out E E' o (o + 3)) := by
  refine CV.mk (by decide +kernel) rfl (Nat.le_of_ble_eq_true rfl) ?_
  intro X hG hL cx hR hI hini
  subst hG; subst hL
  have hini := hini rfl
  show V X E (nh, 0, 0) 0 [some (.ref (gb (fG X) + o))] []
  subst hn
  have hFr : Out E E o (o + 3) := fun _ _ => rfl
  refine v_aload_n (pc := 0) cx rfl ga0 dX6_init_0 ?_
  refine v_objInit (pc := 1) cx hR (by decide) oiX6_3 oi_i oi_c (Nat.le_of_ble_eq_true rfl) dX6_init_1 ?_
  refine v_aload_n (pc := 4) cx rfl ga0 dX6_init_4 ?_
  refine v_sipush (pc := 5) cx (by decide) dX6_init_5 ?_
  refine v_newint (pc := 8) cx 1000 hR aw_int ⟨rfl, by decide⟩ ⟨Nat.le_of_ble_eq_true rfl, Nat.le_of_ble_eq_true rfl⟩ dX6_init_8 (fun E8 hE8 hF8 => ?_)
  replace hE8 : E8 (o + 1) = _ := hE8
  replace hF8 : ∀ j, j ≠ o + 1 → E8 j = _ := hF8
  replace h := (hF8 _ (by omega)).trans h
  replace hFr := fun j hj => (hF8 j (by omega)).trans (hFr j hj)
  refine v_putfieldF (pc := 10) cx hini fpX6_9 h ⟨rfl, rfl⟩ pf0 dX6_init_10 (fun E10 hE10 hF10 => ?_)
  replace h := hE10
  replace hFr := fun j hj => (hF10 j (by omega)).trans (hFr j hj)
  replace hE8 := (hF10 _ (by omega)).trans hE8
  refine v_aload_n (pc := 13) cx rfl ga0 dX6_init_13 ?_
  refine v_sipush (pc := 14) cx (by decide) dX6_init_14 ?_
  refine v_newbool (pc := 17) cx 1000 hR aw_boolean ⟨rfl, by decide⟩ ⟨Nat.le_of_ble_eq_true rfl, Nat.le_of_ble_eq_true rfl⟩ dX6_init_17 (fun E17 hE17 hF17 => ?_)
  replace hE17 : E17 (o + 2) = _ := hE17
  replace hF17 : ∀ j, j ≠ o + 2 → E17 j = _ := hF17
  replace h := (hF17 _ (by omega)).trans h
  replace hFr := fun j hj => (hF17 j (by omega)).trans (hFr j hj)
  replace hE8 := (hF17 _ (by omega)).trans hE8
  refine v_putfieldF (pc := 19) cx hini fpX6_15 h ⟨rfl, rfl⟩ pf1 dX6_init_19 (fun E19 hE19 hF19 => ?_)
  replace h := hE19
  replace hFr := fun j hj => (hF19 j (by omega)).trans (hFr j hj)
  replace hE8 := (hF19 _ (by omega)).trans hE8
  replace hE17 := (hF19 _ (by omega)).trans hE17
  refine v_return (pc := 22) cx hI ?_ dX6_init_22
  exact ⟨⟨h, hE8, hE17⟩, hFr⟩
set_option maxRecDepth 100000 in
set_option maxHeartbeats 4000000 in
theorem k_Tx (lc : Launch) (G : Gc) (E : Wd) (nh : Nat) {o : Nat} (hn : nh = o + 1) (h : E o = some (.inr (10, [.null, .int (iI 0)]))) : CV lc G 1 yX10_init cX10_init 1 [.ref (gb G + o)] E nh 1 100 (fun E' => isTx G E' o [] ∧ Out E E' o (o + 2)) := by
  refine CV.mk (by decide +kernel) rfl (Nat.le_of_ble_eq_true rfl) ?_
  intro X hG hL cx hR hI hini
  subst hG; subst hL
  have hini := hini rfl
  show V X E (nh, 0, 0) 0 [some (.ref (gb (fG X) + o))] []
  subst hn
  have hFr : Out E E o (o + 2) := fun _ _ => rfl
  refine v_aload_n (pc := 0) cx rfl ga0 dX10_init_0 ?_
  refine v_objInit (pc := 1) cx hR (by decide) oiX10_3 oi_i oi_c (Nat.le_of_ble_eq_true rfl) dX10_init_1 ?_
  refine v_aload_n (pc := 4) cx rfl ga0 dX10_init_4 ?_
  refine v_bipush (pc := 5) cx (by decide) dX10_init_5 ?_
  refine v_newchar (pc := 7) cx 100 hR aw_char ⟨rfl, by decide⟩ ⟨Nat.le_of_ble_eq_true rfl, Nat.le_of_ble_eq_true rfl⟩ dX10_init_7 (fun E7 hE7 hF7 => ?_)
  replace hE7 : E7 (o + 1) = _ := hE7
  replace hF7 : ∀ j, j ≠ o + 1 → E7 j = _ := hF7
  replace h := (hF7 _ (by omega)).trans h
  replace hFr := fun j hj => (hF7 j (by omega)).trans (hFr j hj)
  refine v_putfieldF (pc := 9) cx hini fpX10_9 h ⟨rfl, rfl⟩ pf0 dX10_init_9 (fun E9 hE9 hF9 => ?_)
  replace h := hE9
  replace hFr := fun j hj => (hF9 j (by omega)).trans (hFr j hj)
  replace hE7 := (hF9 _ (by omega)).trans hE7
  refine v_return (pc := 12) cx hI ?_ dX10_init_12
  exact ⟨⟨_, ⟨h, hE7⟩, fun j hj => by simp at hj⟩, hFr⟩
