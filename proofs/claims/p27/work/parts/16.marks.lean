/-! the marks -/
def rMk (G : Gc) (E : Wd) (o : Nat) (n : Int) (t p v : Nat → Int) : Prop :=
  E o = some (.inr (5, [.ref (gb G + (o + 1)), .ref (gb G + (o + 2)), .ref (gb G + (o + 3)), .int (iI n)])) ∧ E (o + 1) = some (AI G 60 t) ∧ E (o + 2) = some (AI G 60 p) ∧ E (o + 3) = some (AI G 60 v)
theorem rMk.out {G : Gc} {E E' : Wd} {o : Nat} {n : Int} {b l r : Nat → Int} {x y : Nat} (h : rMk G E o n b l r) (hE : Out E E' x y) (hxy : o + 4 ≤ x ∨ y ≤ o) : rMk G E' o n b l r :=
  ⟨(hE _ (by omega)).trans h.1, (hE _ (by omega)).trans h.2.1, (hE _ (by omega)).trans h.2.2.1, (hE _ (by omega)).trans h.2.2.2⟩
def addMk (L : List (Int × Int × Int)) (x : Int × Int × Int) : List (Int × Int × Int) := (if L.length = 60 then L.tail else L) ++ [x]
theorem lst_len {b l r : Nat → Int} {m : Nat} : (lst b l r m).length = m := by simp [lst]
theorem lst_tail {b l r : Nat → Int} {m : Nat} : (lst b l r (m + 1)).tail = lst (fun j => b (j + 1)) (fun j => l (j + 1)) (fun j => r (j + 1)) m := by
  simp [lst, List.range_succ_eq_map, List.map_map, Function.comp_def]
def beg (t : Nat → Int) (gap : Int) (i : Nat) : Prop := i = 0 ∨ gap < t i - t (i - 1)
def cnt (t : Nat → Int) (gap : Int) : Nat → Nat
  | 0 => 0
  | k + 1 => cnt t gap k + if k = 0 ∨ gap < t k - t (k - 1) then 1 else 0
def lossTo (t : Nat → Int) (c : Int) (f : Nat) : Nat → Int
  | 0 => 0
  | d + 1 => lossTo t c f d + c / (t (f + 1 + d) - t (f + d))
def mxG (t : Nat → Int) : Nat → Int
  | 0 => 0
  | k + 1 => if k = 0 then 0 else max (mxG t k) (t k - t (k - 1))
/-- marks' ticks: ascending, within the run -/
def okT (t : Nat → Int) (m : Nat) : Prop := (∀ i, i < m → 0 ≤ t i ∧ t i ≤ 5000) ∧ ∀ i j, i < j → j < m → t i < t j
def isPk (t : Nat → Int) (f e : Nat) (v : Int) : Prop := (∃ i j : Nat, f ≤ i ∧ i ≤ j ∧ j < e ∧ t j - t i < 30 ∧ v = (j : Int) - i + 1) ∧ ∀ i j : Nat, f ≤ i → i ≤ j → j < e → t j - t i < 30 → (j : Int) - i + 1 ≤ v
theorem cnt_le (t : Nat → Int) (gap : Int) : ∀ k, cnt t gap k ≤ k := by
  intro k
  induction k with
  | zero => exact Nat.le_refl _
  | succ k ih => simp only [cnt]; split <;> omega
theorem mxG_bd {t : Nat → Int} {m : Nat} (h : okT t m) : ∀ k, k ≤ m → 0 ≤ mxG t k ∧ mxG t k ≤ 5000 := by
  intro k
  induction k with
  | zero => intro _; simp [mxG]
  | succ k ih =>
    intro hk
    have h1 := ih (by omega)
    simp only [mxG]
    split
    · exact ⟨Int.le_refl _, by decide⟩
    · have h2 := h.1 k (by omega)
      have h3 := h.1 (k - 1) (by omega)
      have h4 := h.2 (k - 1) k (by omega) (by omega)
      omega
theorem lossTo_bd {t : Nat → Int} {m f : Nat} {c : Int} (h : okT t m) (hc : 0 ≤ c ∧ c ≤ 10000) : ∀ d, f + d < m → 0 ≤ lossTo t c f d ∧ lossTo t c f d ≤ 10000 * d := by
  intro d
  induction d with
  | zero => intro _; exact ⟨Int.le_refl _, by simp [lossTo]⟩
  | succ d ih =>
    intro hd
    have h1 := ih (by omega)
    have h4 := h.2 (f + d) (f + 1 + d) (by omega) (by omega)
    simp only [lossTo]
    have h5 : 0 ≤ c / (t (f + 1 + d) - t (f + d)) := Int.ediv_nonneg hc.1 (by omega)
    have h6 : c / (t (f + 1 + d) - t (f + d)) ≤ c := Int.ediv_le_self _ hc.1
    omega
set_option maxRecDepth 100000 in
set_option maxHeartbeats 4000000 in
theorem c_Mk_has (lc : Launch) (G : Gc) (E : Wd) (nh : Nat) {o : Nat} {m k : Int} {t p v : Nat → Int} (h : rMk G E o m t p v) (hm : 0 ≤ m ∧ m ≤ 60) (hk : -2147483648 ≤ k ∧ k < 2147483648) : CI lc G 0 yX5_has cX5_has 2 .boolean [.ref (gb G + o), .int (iI k)] E nh 0 0 (fun v E' => ((v = 1 ∧ 0 ≤ k ∧ k < m) ∨ (v = 0 ∧ (k < 0 ∨ m ≤ k))) ∧ E' = E) := by
  refine CI.mk (by decide +kernel) rfl (Nat.le_of_ble_eq_true rfl) ?_
  intro X hG hL cx hR hI
  subst hG; subst hL
  show V X E (nh, 0, 0) 0 [some (.ref (gb (fG X) + o)), some (.int (iI k))] []
  obtain ⟨h0, h1, h2, h3⟩ := h
  refine v_iload_n (pc := 0) cx rfl ga1 dX5_has_0 ?_
  refine v_if_lt (pc := 1) cx 16 dX5_has_1 rfl (by omega) (fun c1 => ?_) (fun c1 => ?_)
  · refine v_iconst (pc := 16) cx dX5_has_16 ?_
    refine v_ireturn (pc := 17) cx hI rfl ?_ dX5_has_17
    exact ⟨Or.inr ⟨rfl, Or.inl c1⟩, rfl⟩
  · refine v_iload_n (pc := 4) cx rfl ga1 dX5_has_4 ?_
    refine v_aload_n (pc := 5) cx rfl ga0 dX5_has_5 ?_
    refine v_getfield (pc := 6) cx flX5_25 (by assumption) gf3 dX5_has_6 ?_
    refine v_icmp_ge (pc := 9) cx 16 dX5_has_9 rfl (by omega) (fun c9 => ?_) (fun c9 => ?_)
    · refine v_iconst (pc := 16) cx dX5_has_16 ?_
      refine v_ireturn (pc := 17) cx hI rfl ?_ dX5_has_17
      exact ⟨Or.inr ⟨rfl, Or.inr c9⟩, rfl⟩
    · refine v_iconst (pc := 12) cx dX5_has_12 ?_
      refine v_goto (pc := 13) cx 17 dX5_has_13 rfl ?_
      refine v_ireturn (pc := 17) cx hI rfl ?_ dX5_has_17
      exact ⟨Or.inl ⟨rfl, c1, c9⟩, rfl⟩
set_option maxRecDepth 100000 in
set_option maxHeartbeats 4000000 in
theorem c_Mk_removeOldest (lc : Launch) (G : Gc) (E : Wd) (nh : Nat) {o : Nat} {m : Int} {t p v : Nat → Int} (h : rMk G E o m t p v) : CV lc G 1 yX5_removeOldest cX5_removeOldest 1 [.ref (gb G + o)] E nh 0 0 (fun E' => rMk G E' o 59 (cpyI t t 1 0 59) (cpyI p p 1 0 59) (cpyI v v 1 0 59) ∧ Out E E' o (o + 4)) := by
  refine CV.mk (by decide +kernel) rfl (Nat.le_of_ble_eq_true rfl) ?_
  intro X hG hL cx hR hI hini
  subst hG; subst hL
  show V X E (nh, 0, 0) 0 [some (.ref (gb (fG X) + o))] []
  obtain ⟨h0, ht, hp, hv⟩ := h
  have hFr : Out E E o (o + 4) := fun j hj => rfl
  refine v_aload_n (pc := 0) cx rfl ga0 dX5_removeOldest_0 ?_
  refine v_bipush (pc := 1) cx (by decide) dX5_removeOldest_1 ?_
  refine v_putfield (pc := 3) cx fpX5_25 h0 ⟨rfl, rfl⟩ pf3 dX5_removeOldest_3 (fun E3 hE3 hF3 => ?_)
  replace h0 := hE3
  replace ht := (hF3 _ (by omega)).trans ht
  replace hp := (hF3 _ (by omega)).trans hp
  replace hv := (hF3 _ (by omega)).trans hv
  replace hFr := fun j hj => (hF3 j (by omega)).trans (hFr j hj)
  refine v_aload_n (pc := 6) cx rfl ga0 dX5_removeOldest_6 ?_
  refine v_getfield (pc := 7) cx flX5_9 (by assumption) gf0 dX5_removeOldest_7 ?_
  refine v_iconst (pc := 10) cx dX5_removeOldest_10 ?_
  refine v_aload_n (pc := 11) cx rfl ga0 dX5_removeOldest_11 ?_
  refine v_getfield (pc := 12) cx flX5_9 (by assumption) gf0 dX5_removeOldest_12 ?_
  refine v_iconst (pc := 15) cx dX5_removeOldest_15 ?_
  refine v_aload_n (pc := 16) cx rfl ga0 dX5_removeOldest_16 ?_
  refine v_getfield (pc := 17) cx flX5_25 (by assumption) gf3 dX5_removeOldest_17 ?_
  refine v_copy (pc := 20) cx 1 0 59 hR (by decide) acX5_32 ac_n ac_s ac_i ht ht (by omega) (Nat.le_of_ble_eq_true rfl) dX5_removeOldest_20 (fun E1 hE1 hF1 => ?_)
  replace h0 := (hF1 _ (by omega)).trans h0
  replace hp := (hF1 _ (by omega)).trans hp
  replace hv := (hF1 _ (by omega)).trans hv
  replace hFr := fun j hj => (hF1 j (by omega)).trans (hFr j hj)
  replace ht := hE1
  refine v_aload_n (pc := 23) cx rfl ga0 dX5_removeOldest_23 ?_
  refine v_getfield (pc := 24) cx flX5_15 (by assumption) gf1 dX5_removeOldest_24 ?_
  refine v_iconst (pc := 27) cx dX5_removeOldest_27 ?_
  refine v_aload_n (pc := 28) cx rfl ga0 dX5_removeOldest_28 ?_
  refine v_getfield (pc := 29) cx flX5_15 (by assumption) gf1 dX5_removeOldest_29 ?_
  refine v_iconst (pc := 32) cx dX5_removeOldest_32 ?_
  refine v_aload_n (pc := 33) cx rfl ga0 dX5_removeOldest_33 ?_
  refine v_getfield (pc := 34) cx flX5_25 (by assumption) gf3 dX5_removeOldest_34 ?_
  refine v_copy (pc := 37) cx 1 0 59 hR (by decide) acX5_32 ac_n ac_s ac_i hp hp (by omega) (Nat.le_of_ble_eq_true rfl) dX5_removeOldest_37 (fun E1 hE1 hF1 => ?_)
  replace h0 := (hF1 _ (by omega)).trans h0
  replace ht := (hF1 _ (by omega)).trans ht
  replace hv := (hF1 _ (by omega)).trans hv
  replace hFr := fun j hj => (hF1 j (by omega)).trans (hFr j hj)
  replace hp := hE1
  refine v_aload_n (pc := 40) cx rfl ga0 dX5_removeOldest_40 ?_
  refine v_getfield (pc := 41) cx flX5_18 (by assumption) gf2 dX5_removeOldest_41 ?_
  refine v_iconst (pc := 44) cx dX5_removeOldest_44 ?_
  refine v_aload_n (pc := 45) cx rfl ga0 dX5_removeOldest_45 ?_
  refine v_getfield (pc := 46) cx flX5_18 (by assumption) gf2 dX5_removeOldest_46 ?_
  refine v_iconst (pc := 49) cx dX5_removeOldest_49 ?_
  refine v_aload_n (pc := 50) cx rfl ga0 dX5_removeOldest_50 ?_
  refine v_getfield (pc := 51) cx flX5_25 (by assumption) gf3 dX5_removeOldest_51 ?_
  refine v_copy (pc := 54) cx 1 0 59 hR (by decide) acX5_32 ac_n ac_s ac_i hv hv (by omega) (Nat.le_of_ble_eq_true rfl) dX5_removeOldest_54 (fun E1 hE1 hF1 => ?_)
  replace h0 := (hF1 _ (by omega)).trans h0
  replace ht := (hF1 _ (by omega)).trans ht
  replace hp := (hF1 _ (by omega)).trans hp
  replace hFr := fun j hj => (hF1 j (by omega)).trans (hFr j hj)
  replace hv := hE1
  refine v_return (pc := 57) cx hI ?_ dX5_removeOldest_57
  exact ⟨⟨h0, ht, hp, hv⟩, hFr⟩
theorem cpyI_sh {f : Nat → Int} {j : Nat} (h : j < 59) : cpyI f f 1 0 59 j = f (j + 1) := by
  unfold cpyI
  rw [if_pos ⟨Nat.zero_le _, by omega⟩]
  congr 1
  omega
set_option maxRecDepth 100000 in
set_option maxHeartbeats 4000000 in
theorem c_Mk_append (lc : Launch) (G : Gc) (E : Wd) (nh : Nat) {o m : Nat} {x y w : Int} {t p v : Nat → Int} (h : rMk G E o (m : Int) t p v) (hm : m ≤ 60) : CV lc G 2 yX5_append cX5_append 4 [.ref (gb G + o), .int (iI x), .int (iI y), .int (iI w)] E nh 0 0 (fun E' => (∃ (m' : Nat) (t' p' v' : Nat → Int), rMk G E' o m' t' p' v' ∧ lst t' p' v' m' = addMk (lst t p v m) (x, y, w) ∧ m' ≤ 60) ∧ Out E E' o (o + 4)) := by
  refine CV.mk (by decide +kernel) rfl (Nat.le_of_ble_eq_true rfl) ?_
  intro X hG hL cx hR hI hini
  subst hG; subst hL
  show V X E (nh, 0, 0) 0 [some (.ref (gb (fG X) + o)), some (.int (iI x)), some (.int (iI y)), some (.int (iI w))] []
  have fin : ∀ (k : Nat) (t' p' v' : Nat → Int) (E' : Wd), k < 60 → rMk (fG X) E' o k t' p' v' → lst t' p' v' k = (if (lst t p v m).length = 60 then (lst t p v m).tail else lst t p v m) → Out E E' o (o + 4) → V X E' (nh, 0, 0) 13 [some (.ref (gb (fG X) + o)), some (.int (iI x)), some (.int (iI y)), some (.int (iI w))] [] := by
    intro k t' p' v' E' hk h hls hFr
    obtain ⟨h0, ht, hp, hv⟩ := h
    refine v_aload_n (pc := 13) cx rfl ga0 dX5_append_13 ?_
    refine v_getfield (pc := 14) cx flX5_9 (by assumption) gf0 dX5_append_14 ?_
    refine v_aload_n (pc := 17) cx rfl ga0 dX5_append_17 ?_
    refine v_getfield (pc := 18) cx flX5_25 (by assumption) gf3 dX5_append_18 ?_
    refine v_iload_n (pc := 21) cx rfl ga1 dX5_append_21 ?_
    refine v_iastore (pc := 22) cx (k) ht (by omega) dX5_append_22 (fun E22 hE22 hF22 => ?_)
    replace h0 := (hF22 _ (by omega)).trans h0
    replace ht := hE22
    replace hp := (hF22 _ (by omega)).trans hp
    replace hv := (hF22 _ (by omega)).trans hv
    replace hFr := fun j hj => (hF22 j (by omega)).trans (hFr j hj)
    refine v_aload_n (pc := 23) cx rfl ga0 dX5_append_23 ?_
    refine v_getfield (pc := 24) cx flX5_15 (by assumption) gf1 dX5_append_24 ?_
    refine v_aload_n (pc := 27) cx rfl ga0 dX5_append_27 ?_
    refine v_getfield (pc := 28) cx flX5_25 (by assumption) gf3 dX5_append_28 ?_
    refine v_iload_n (pc := 31) cx rfl ga2 dX5_append_31 ?_
    refine v_iastore (pc := 32) cx (k) hp (by omega) dX5_append_32 (fun E32 hE32 hF32 => ?_)
    replace h0 := (hF32 _ (by omega)).trans h0
    replace ht := (hF32 _ (by omega)).trans ht
    replace hp := hE32
    replace hv := (hF32 _ (by omega)).trans hv
    replace hFr := fun j hj => (hF32 j (by omega)).trans (hFr j hj)
    refine v_aload_n (pc := 33) cx rfl ga0 dX5_append_33 ?_
    refine v_getfield (pc := 34) cx flX5_18 (by assumption) gf2 dX5_append_34 ?_
    refine v_aload_n (pc := 37) cx rfl ga0 dX5_append_37 ?_
    refine v_getfield (pc := 38) cx flX5_25 (by assumption) gf3 dX5_append_38 ?_
    refine v_iload_n (pc := 41) cx rfl ga3 dX5_append_41 ?_
    refine v_iastore (pc := 42) cx (k) hv (by omega) dX5_append_42 (fun E42 hE42 hF42 => ?_)
    replace h0 := (hF42 _ (by omega)).trans h0
    replace ht := (hF42 _ (by omega)).trans ht
    replace hp := (hF42 _ (by omega)).trans hp
    replace hv := hE42
    replace hFr := fun j hj => (hF42 j (by omega)).trans (hFr j hj)
    refine v_aload_n (pc := 43) cx rfl ga0 dX5_append_43 ?_
    refine v_dup (pc := 44) cx rfl dX5_append_44 ?_
    refine v_getfield (pc := 45) cx flX5_25 (by assumption) gf3 dX5_append_45 ?_
    refine v_iconst (pc := 48) cx dX5_append_48 ?_
    refine v_iadd (pc := 49) cx dX5_append_49 ?_
    refine v_putfield (pc := 50) cx fpX5_25 h0 ⟨rfl, rfl⟩ pf3 dX5_append_50 (fun E50 hE50 hF50 => ?_)
    replace h0 := hE50
    replace ht := (hF50 _ (by omega)).trans ht
    replace hp := (hF50 _ (by omega)).trans hp
    replace hv := (hF50 _ (by omega)).trans hv
    replace hFr := fun j hj => (hF50 j (by omega)).trans (hFr j hj)
    refine v_return (pc := 53) cx hI ?_ dX5_append_53
    refine ⟨⟨k + 1, _, _, _, ⟨h0, ht, hp, hv⟩, ?_, by omega⟩, hFr⟩
    rw [lst_push, hls]
    rfl
  obtain ⟨h0, ht, hp, hv⟩ := id h
  refine v_aload_n (pc := 0) cx rfl ga0 dX5_append_0 ?_
  refine v_getfield (pc := 1) cx flX5_25 (by assumption) gf3 dX5_append_1 ?_
  refine v_bipush (pc := 4) cx (by decide) dX5_append_4 ?_
  refine v_icmp_lt (pc := 6) cx 13 dX5_append_6 rfl (by omega) (fun c6 => ?_) (fun c6 => ?_)
  · refine fin m t p v E (by omega) h ?_ (fun _ _ => rfl)
    rw [lst_len, if_neg (by omega)]
  · refine v_aload_n (pc := 9) cx rfl ga0 dX5_append_9 ?_
    refine v_callVV (pc := 10) cx hR (c_Mk_removeOldest _ _ _ _ h) mlX5_29 (by decide) (by assumption) rfl rfl rfl (Nat.le_of_ble_eq_true rfl) ⟨Nat.le_refl _, Nat.le_refl _⟩ dX5_append_10 (fun E2 hP => ?_)
    obtain ⟨h2, hF2⟩ := hP
    refine fin 59 _ _ _ E2 (by omega) h2 ?_ hF2
    have e : m = 60 := by omega
    subst e
    rw [lst_len, if_pos rfl, lst_tail]
    exact lst_ext (fun j hj => ⟨cpyI_sh hj, cpyI_sh hj, cpyI_sh hj⟩)
set_option maxRecDepth 100000 in
set_option maxHeartbeats 4000000 in
theorem c_Mk_ticksBetween (lc : Launch) (G : Gc) (E : Wd) (nh : Nat) {o m i j : Nat} {t p v : Nat → Int} (h : rMk G E o (m : Int) t p v) (hm : m ≤ 60) (hi : i < m) (hj : j < m) : CI lc G 1 yX5_ticksBetween cX5_ticksBetween 3 .int [.ref (gb G + o), .int (iI (i : Int)), .int (iI (j : Int))] E nh 0 0 (fun v E' => v = t j - t i ∧ E' = E) := by
  refine CI.mk (by decide +kernel) rfl (Nat.le_of_ble_eq_true rfl) ?_
  intro X hG hL cx hR hI
  subst hG; subst hL
  show V X E (nh, 0, 0) 0 [some (.ref (gb (fG X) + o)), some (.int (iI (i : Int))), some (.int (iI (j : Int)))] []
  obtain ⟨h0, ht, hp, hv⟩ := id h
  refine v_aload_n (pc := 0) cx rfl ga0 dX5_ticksBetween_0 ?_
  refine v_iload_n (pc := 1) cx rfl ga1 dX5_ticksBetween_1 ?_
  refine v_callVI (pc := 2) cx hR (c_Mk_has _ _ _ _ h (by omega) (by omega)) mlX5_38 (by decide) (by assumption) rfl rfl rfl (Nat.le_of_ble_eq_true rfl) ⟨Nat.le_refl _, Nat.le_refl _⟩ dX5_ticksBetween_2 (fun v2 E2 hP => ?_)
  obtain ⟨hv2, rfl⟩ := hP
  refine v_if_eq (pc := 5) cx 32 dX5_ticksBetween_5 rfl (by omega) (fun c5 => ?_) (fun c5 => ?_)
  · omega
  · refine v_aload_n (pc := 8) cx rfl ga0 dX5_ticksBetween_8 ?_
    refine v_iload_n (pc := 9) cx rfl ga2 dX5_ticksBetween_9 ?_
    refine v_callVI (pc := 10) cx hR (c_Mk_has _ _ _ _ h (by omega) (by omega)) mlX5_38 (by decide) (by assumption) rfl rfl rfl (Nat.le_of_ble_eq_true rfl) ⟨Nat.le_refl _, Nat.le_refl _⟩ dX5_ticksBetween_10 (fun v3 E3 hP => ?_)
    obtain ⟨hv3, rfl⟩ := hP
    refine v_if_eq (pc := 13) cx 32 dX5_ticksBetween_13 rfl (by omega) (fun c13 => ?_) (fun c13 => ?_)
    · omega
    · refine v_aload_n (pc := 16) cx rfl ga0 dX5_ticksBetween_16 ?_
      refine v_getfield (pc := 17) cx flX5_9 (by assumption) gf0 dX5_ticksBetween_17 ?_
      refine v_iload_n (pc := 20) cx rfl ga2 dX5_ticksBetween_20 ?_
      refine v_iaload (pc := 21) cx (j) (by assumption) (by omega) dX5_ticksBetween_21 ?_
      refine v_aload_n (pc := 22) cx rfl ga0 dX5_ticksBetween_22 ?_
      refine v_getfield (pc := 23) cx flX5_9 (by assumption) gf0 dX5_ticksBetween_23 ?_
      refine v_iload_n (pc := 26) cx rfl ga1 dX5_ticksBetween_26 ?_
      refine v_iaload (pc := 27) cx (i) (by assumption) (by omega) dX5_ticksBetween_27 ?_
      refine v_isub (pc := 28) cx dX5_ticksBetween_28 ?_
      refine v_goto (pc := 29) cx 33 dX5_ticksBetween_29 rfl ?_
      refine v_ireturn (pc := 33) cx hI rfl ?_ dX5_ticksBetween_33
      exact ⟨rfl, rfl⟩
set_option maxRecDepth 100000 in
set_option maxHeartbeats 4000000 in
theorem c_Mk_widestGap (lc : Launch) (G : Gc) (E : Wd) (nh : Nat) {o m : Nat} {t p v : Nat → Int} (h : rMk G E o (m : Int) t p v) (hm : m ≤ 60) (hT : okT t m) : CI lc G 2 yX5_widestGap cX5_widestGap 3 .int [.ref (gb G + o)] E nh 0 0 (fun v E' => v = mxG t m ∧ E' = E) := by
  refine CI.mk (by decide +kernel) rfl (Nat.le_of_ble_eq_true rfl) ?_
  intro X hG hL cx hR hI
  subst hG; subst hL
  show V X E (nh, 0, 0) 0 [some (.ref (gb (fG X) + o)), none, none] []
  obtain ⟨h0, ht, hp, hv⟩ := id h
  have loop : ∀ (d i : Nat), 1 ≤ i → (i ≤ m ∨ (m = 0 ∧ i = 1)) → m + 1 - i < d → V X E (nh, 0, 0) 4 [some (.ref (gb (fG X) + o)), some (.int (iI (mxG t i))), some (.int (iI (i : Int)))] [] := by
    intro d
    induction d with
    | zero => intro k hk hd; omega
    | succ d ih =>
      intro i hi1 hi2 hd
      refine v_iload_n (pc := 4) cx rfl ga2 dX5_widestGap_4 ?_
      refine v_aload_n (pc := 5) cx rfl ga0 dX5_widestGap_5 ?_
      refine v_getfield (pc := 6) cx flX5_25 (by assumption) gf3 dX5_widestGap_6 ?_
      refine v_icmp_ge (pc := 9) cx 31 dX5_widestGap_9 rfl (by omega) (fun c9 => ?_) (fun c9 => ?_)
      · refine v_iload_n (pc := 31) cx rfl ga1 dX5_widestGap_31 ?_
        refine v_ireturn (pc := 32) cx hI rfl ?_ dX5_widestGap_32
        refine ⟨?_, rfl⟩
        rcases hi2 with h5 | ⟨h5, h6⟩
        · rw [show i = m by omega]
        · rw [h5, h6]
          rfl
      · refine v_iload_n (pc := 12) cx rfl ga1 dX5_widestGap_12 ?_
        refine v_aload_n (pc := 13) cx rfl ga0 dX5_widestGap_13 ?_
        refine v_iload_n (pc := 14) cx rfl ga2 dX5_widestGap_14 ?_
        refine v_iconst (pc := 15) cx dX5_widestGap_15 ?_
        refine v_isub (pc := 16) cx dX5_widestGap_16 ?_
        refine v_iload_n (pc := 17) cx rfl ga2 dX5_widestGap_17 ?_
        rw [show ((i : Int) - 1) = ((i - 1 : Nat) : Int) by omega]
        refine v_callVI (pc := 18) cx hR (c_Mk_ticksBetween _ _ _ _ h hm (by omega) (by omega)) mlX5_42 (by decide) (by assumption) rfl rfl rfl (Nat.le_of_ble_eq_true rfl) ⟨Nat.le_refl _, Nat.le_refl _⟩ dX5_widestGap_18 (fun v2 E2 hP => ?_)
        obtain ⟨rfl, rfl⟩ := hP
        have g1 := mxG_bd hT i (by omega)
        have g2 := hT.1 i (by omega)
        have g3 := hT.1 (i - 1) (by omega)
        refine v_callSI (pc := 21) cx hR (c_max _ _ _ _ (by omega)) mlX5_46 (by decide) rfl (Nat.le_of_ble_eq_true rfl) ⟨Nat.le_refl _, Nat.le_refl _⟩ dX5_widestGap_21 (fun v3 E3 hP => ?_)
        obtain ⟨rfl, rfl⟩ := hP
        refine v_istore_n (pc := 24) cx rfl (sa1 rfl) dX5_widestGap_24 ?_
        refine v_iinc (pc := 25) cx ga2 (sa2 rfl) dX5_widestGap_25 ?_
        refine v_goto (pc := 28) cx 4 dX5_widestGap_28 rfl ?_
        have e : mxG t (i + 1) = max (mxG t i) (t i - t (i - 1)) := by simp only [mxG]; rw [if_neg (by omega)]
        rw [← e]
        exact ih (i + 1) (by omega) (by omega) (by omega)
  refine v_iconst (pc := 0) cx dX5_widestGap_0 ?_
  refine v_istore_n (pc := 1) cx rfl (sa1 rfl) dX5_widestGap_1 ?_
  refine v_iconst (pc := 2) cx dX5_widestGap_2 ?_
  refine v_istore_n (pc := 3) cx rfl (sa2 rfl) dX5_widestGap_3 ?_
  exact loop (m + 2) 1 (by omega) (by omega) (by omega)
set_option maxRecDepth 100000 in
set_option maxHeartbeats 4000000 in
theorem c_Mk_beginsStorm (lc : Launch) (G : Gc) (E : Wd) (nh : Nat) {o m i : Nat} {gap : Int} {t p v : Nat → Int} (h : rMk G E o (m : Int) t p v) (hm : m ≤ 60) (hT : okT t m) (hi : i < m) (hg : 1 ≤ gap ∧ gap ≤ 1000) : CI lc G 2 yX5_beginsStorm cX5_beginsStorm 3 .boolean [.ref (gb G + o), .int (iI (i : Int)), .int (iI gap)] E nh 0 0 (fun v E' => ((v = 1 ∧ beg t gap i) ∨ (v = 0 ∧ ¬ beg t gap i)) ∧ E' = E) := by
  refine CI.mk (by decide +kernel) rfl (Nat.le_of_ble_eq_true rfl) ?_
  intro X hG hL cx hR hI
  subst hG; subst hL
  show V X E (nh, 0, 0) 0 [some (.ref (gb (fG X) + o)), some (.int (iI (i : Int))), some (.int (iI gap))] []
  obtain ⟨h0, ht, hp, hv⟩ := id h
  refine v_iload_n (pc := 0) cx rfl ga1 dX5_beginsStorm_0 ?_
  refine v_if_eq (pc := 1) cx 16 dX5_beginsStorm_1 rfl (by omega) (fun c1 => ?_) (fun c1 => ?_)
  · refine v_iconst (pc := 16) cx dX5_beginsStorm_16 ?_
    refine v_goto (pc := 17) cx 21 dX5_beginsStorm_17 rfl ?_
    refine v_ireturn (pc := 21) cx hI rfl ?_ dX5_beginsStorm_21
    exact ⟨Or.inl ⟨rfl, Or.inl (by omega)⟩, rfl⟩
  · refine v_aload_n (pc := 4) cx rfl ga0 dX5_beginsStorm_4 ?_
    refine v_iload_n (pc := 5) cx rfl ga1 dX5_beginsStorm_5 ?_
    refine v_iconst (pc := 6) cx dX5_beginsStorm_6 ?_
    refine v_isub (pc := 7) cx dX5_beginsStorm_7 ?_
    refine v_iload_n (pc := 8) cx rfl ga1 dX5_beginsStorm_8 ?_
    rw [show ((i : Int) - 1) = ((i - 1 : Nat) : Int) by omega]
    refine v_callVI (pc := 9) cx hR (c_Mk_ticksBetween _ _ _ _ h hm (by omega) (by omega)) mlX5_42 (by decide) (by assumption) rfl rfl rfl (Nat.le_of_ble_eq_true rfl) ⟨Nat.le_refl _, Nat.le_refl _⟩ dX5_beginsStorm_9 (fun v2 E2 hP => ?_)
    obtain ⟨rfl, rfl⟩ := hP
    have g2 := hT.1 i (by omega)
    have g3 := hT.1 (i - 1) (by omega)
    refine v_iload_n (pc := 12) cx rfl ga2 dX5_beginsStorm_12 ?_
    refine v_icmp_le (pc := 13) cx 20 dX5_beginsStorm_13 rfl (by omega) (fun c13 => ?_) (fun c13 => ?_)
    · refine v_iconst (pc := 20) cx dX5_beginsStorm_20 ?_
      refine v_ireturn (pc := 21) cx hI rfl ?_ dX5_beginsStorm_21
      refine ⟨Or.inr ⟨rfl, fun hb => ?_⟩, rfl⟩
      rcases hb with hb | hb <;> omega
    · refine v_iconst (pc := 16) cx dX5_beginsStorm_16 ?_
      refine v_goto (pc := 17) cx 21 dX5_beginsStorm_17 rfl ?_
      refine v_ireturn (pc := 21) cx hI rfl ?_ dX5_beginsStorm_21
      exact ⟨Or.inl ⟨rfl, Or.inr c13⟩, rfl⟩
theorem cnt_b {t : Nat → Int} {gap : Int} {k : Nat} (h : beg t gap k) : cnt t gap (k + 1) = cnt t gap k + 1 := by
  simp only [cnt]
  rw [if_pos (show k = 0 ∨ gap < t k - t (k - 1) from h)]
theorem cnt_n {t : Nat → Int} {gap : Int} {k : Nat} (h : ¬ beg t gap k) : cnt t gap (k + 1) = cnt t gap k := by
  simp only [cnt]
  rw [if_neg (show ¬ (k = 0 ∨ gap < t k - t (k - 1)) from h), Nat.add_zero]
set_option maxRecDepth 100000 in
set_option maxHeartbeats 4000000 in
theorem c_Mk_countStorms (lc : Launch) (G : Gc) (E : Wd) (nh : Nat) {o m : Nat} {gap : Int} {t p v : Nat → Int} (h : rMk G E o (m : Int) t p v) (hm : m ≤ 60) (hT : okT t m) (hg : 1 ≤ gap ∧ gap ≤ 1000) : CI lc G 3 yX5_countStorms cX5_countStorms 4 .int [.ref (gb G + o), .int (iI gap)] E nh 0 0 (fun v E' => v = (cnt t gap m : Int) ∧ E' = E) := by
  refine CI.mk (by decide +kernel) rfl (Nat.le_of_ble_eq_true rfl) ?_
  intro X hG hL cx hR hI
  subst hG; subst hL
  show V X E (nh, 0, 0) 0 [some (.ref (gb (fG X) + o)), some (.int (iI gap)), none, none] []
  obtain ⟨h0, ht, hp, hv⟩ := id h
  have loop : ∀ (d i : Nat), i ≤ m → m - i < d → V X E (nh, 0, 0) 4 [some (.ref (gb (fG X) + o)), some (.int (iI gap)), some (.int (iI (cnt t gap i : Int))), some (.int (iI (i : Int)))] [] := by
    intro d
    induction d with
    | zero => intro k hk hd; omega
    | succ d ih =>
      intro i hi hd
      refine v_iload_n (pc := 4) cx rfl ga3 dX5_countStorms_4 ?_
      refine v_aload_n (pc := 5) cx rfl ga0 dX5_countStorms_5 ?_
      refine v_getfield (pc := 6) cx flX5_25 (by assumption) gf3 dX5_countStorms_6 ?_
      refine v_icmp_ge (pc := 9) cx 30 dX5_countStorms_9 rfl (by omega) (fun c9 => ?_) (fun c9 => ?_)
      · refine v_iload_n (pc := 30) cx rfl ga2 dX5_countStorms_30 ?_
        refine v_ireturn (pc := 31) cx hI rfl ?_ dX5_countStorms_31
        rw [show i = m by omega]
        exact ⟨rfl, rfl⟩
      · refine v_aload_n (pc := 12) cx rfl ga0 dX5_countStorms_12 ?_
        refine v_iload_n (pc := 13) cx rfl ga3 dX5_countStorms_13 ?_
        refine v_iload_n (pc := 14) cx rfl ga1 dX5_countStorms_14 ?_
        refine v_callVI (pc := 15) cx hR (c_Mk_beginsStorm _ _ _ _ h hm hT (by omega) hg) mlX5_51 (by decide) (by assumption) rfl rfl rfl (Nat.le_of_ble_eq_true rfl) ⟨Nat.le_refl _, Nat.le_refl _⟩ dX5_countStorms_15 (fun v2 E2 hP => ?_)
        obtain ⟨hb, rfl⟩ := hP
        refine v_if_eq (pc := 18) cx 24 dX5_countStorms_18 rfl (by omega) (fun c18 => ?_) (fun c18 => ?_)
        · refine v_iinc (pc := 24) cx ga3 (sa3 rfl) dX5_countStorms_24 ?_
          refine v_goto (pc := 27) cx 4 dX5_countStorms_27 rfl ?_
          rcases hb with ⟨hb, -⟩ | ⟨-, hb⟩
          · omega
          · rw [← cnt_n hb]
            exact ih (i + 1) (by omega) (by omega)
        · refine v_iinc (pc := 21) cx ga2 (sa2 rfl) dX5_countStorms_21 ?_
          refine v_iinc (pc := 24) cx ga3 (sa3 rfl) dX5_countStorms_24 ?_
          refine v_goto (pc := 27) cx 4 dX5_countStorms_27 rfl ?_
          rcases hb with ⟨-, hb⟩ | ⟨hb, -⟩
          · rw [show ((cnt t gap i : Int) + 1) = ((cnt t gap i + 1 : Nat) : Int) from rfl, ← cnt_b hb]
            exact ih (i + 1) (by omega) (by omega)
          · omega
  refine v_iconst (pc := 0) cx dX5_countStorms_0 ?_
  refine v_istore_n (pc := 1) cx rfl (sa2 rfl) dX5_countStorms_1 ?_
  refine v_iconst (pc := 2) cx dX5_countStorms_2 ?_
  refine v_istore_n (pc := 3) cx rfl (sa3 rfl) dX5_countStorms_3 ?_
  exact loop (m + 1) 0 (by omega) (by omega)
set_option maxRecDepth 100000 in
set_option maxHeartbeats 4000000 in
theorem c_Mk_firstOfStorm (lc : Launch) (G : Gc) (E : Wd) (nh : Nat) {o m : Nat} {k gap : Int} {t p v : Nat → Int} (h : rMk G E o (m : Int) t p v) (hm : m ≤ 60) (hT : okT t m) (hg : 1 ≤ gap ∧ gap ≤ 1000) (hk : -2147483648 ≤ k ∧ k < 2147483648) : CI lc G 3 yX5_firstOfStorm cX5_firstOfStorm 5 .int [.ref (gb G + o), .int (iI k), .int (iI gap)] E nh 0 0 (fun v E' => ((∃ f : Nat, f < m ∧ beg t gap f ∧ (cnt t gap f : Int) = k ∧ v = f) ∨ (v = -1 ∧ ∀ f : Nat, f < m → beg t gap f → (cnt t gap f : Int) ≠ k)) ∧ E' = E) := by
  refine CI.mk (by decide +kernel) rfl (Nat.le_of_ble_eq_true rfl) ?_
  intro X hG hL cx hR hI
  subst hG; subst hL
  show V X E (nh, 0, 0) 0 [some (.ref (gb (fG X) + o)), some (.int (iI k)), some (.int (iI gap)), none, none] []
  obtain ⟨h0, ht, hp, hv⟩ := id h
  have loop : ∀ (d i : Nat), i ≤ m → m - i < d → (∀ f : Nat, f < i → beg t gap f → (cnt t gap f : Int) ≠ k) → V X E (nh, 0, 0) 5 [some (.ref (gb (fG X) + o)), some (.int (iI k)), some (.int (iI gap)), some (.int (iI (cnt t gap i : Int))), some (.int (iI (i : Int)))] [] := by
    intro d
    induction d with
    | zero => intro k hk hd; omega
    | succ d ih =>
      intro i hi hd hno
      have hcl := cnt_le t gap i
      refine v_iload (pc := 5) cx ga4 dX5_firstOfStorm_5 ?_
      refine v_aload_n (pc := 7) cx rfl ga0 dX5_firstOfStorm_7 ?_
      refine v_getfield (pc := 8) cx flX5_25 (by assumption) gf3 dX5_firstOfStorm_8 ?_
      refine v_icmp_ge (pc := 11) cx 41 dX5_firstOfStorm_11 rfl (by omega) (fun c11 => ?_) (fun c11 => ?_)
      · refine v_iconst (pc := 41) cx dX5_firstOfStorm_41 ?_
        refine v_ireturn (pc := 42) cx hI rfl ?_ dX5_firstOfStorm_42
        exact ⟨Or.inr ⟨rfl, fun f hf => hno f (by omega)⟩, rfl⟩
      · refine v_aload_n (pc := 14) cx rfl ga0 dX5_firstOfStorm_14 ?_
        refine v_iload (pc := 15) cx ga4 dX5_firstOfStorm_15 ?_
        refine v_iload_n (pc := 17) cx rfl ga2 dX5_firstOfStorm_17 ?_
        refine v_callVI (pc := 18) cx hR (c_Mk_beginsStorm _ _ _ _ h hm hT (by omega) hg) mlX5_51 (by decide) (by assumption) rfl rfl rfl (Nat.le_of_ble_eq_true rfl) ⟨Nat.le_refl _, Nat.le_refl _⟩ dX5_firstOfStorm_18 (fun v2 E2 hP => ?_)
        obtain ⟨hb, rfl⟩ := hP
        refine v_if_eq (pc := 21) cx 35 dX5_firstOfStorm_21 rfl (by omega) (fun c21 => ?_) (fun c21 => ?_)
        · refine v_iinc (pc := 35) cx ga4 (sa4 rfl) dX5_firstOfStorm_35 ?_
          refine v_goto (pc := 38) cx 5 dX5_firstOfStorm_38 rfl ?_
          rcases hb with ⟨hb, -⟩ | ⟨-, hb⟩
          · omega
          · rw [← cnt_n hb]
            refine ih (i + 1) (by omega) (by omega) (fun f hf hbf => ?_)
            by_cases e : f = i
            · exact absurd (e ▸ hbf) hb
            · exact hno f (by omega) hbf
        · rcases hb with ⟨-, hb⟩ | ⟨hb, -⟩
          · refine v_iload_n (pc := 24) cx rfl ga3 dX5_firstOfStorm_24 ?_
            refine v_iload_n (pc := 25) cx rfl ga1 dX5_firstOfStorm_25 ?_
            refine v_icmp_ne (pc := 26) cx 32 dX5_firstOfStorm_26 rfl (by omega) (fun c26 => ?_) (fun c26 => ?_)
            · refine v_iinc (pc := 32) cx ga3 (sa3 rfl) dX5_firstOfStorm_32 ?_
              refine v_iinc (pc := 35) cx ga4 (sa4 rfl) dX5_firstOfStorm_35 ?_
              refine v_goto (pc := 38) cx 5 dX5_firstOfStorm_38 rfl ?_
              rw [show ((cnt t gap i : Int) + 1) = ((cnt t gap i + 1 : Nat) : Int) from rfl, ← cnt_b hb]
              refine ih (i + 1) (by omega) (by omega) (fun f hf hbf => ?_)
              by_cases e : f = i
              · rw [e]; exact c26
              · exact hno f (by omega) hbf
            · refine v_iload (pc := 29) cx ga4 dX5_firstOfStorm_29 ?_
              refine v_ireturn (pc := 31) cx hI rfl ?_ dX5_firstOfStorm_31
              exact ⟨Or.inl ⟨i, by omega, hb, c26, rfl⟩, rfl⟩
          · omega
  refine v_iconst (pc := 0) cx dX5_firstOfStorm_0 ?_
  refine v_istore_n (pc := 1) cx rfl (sa3 rfl) dX5_firstOfStorm_1 ?_
  refine v_iconst (pc := 2) cx dX5_firstOfStorm_2 ?_
  refine v_istore (pc := 3) cx (sa4 rfl) dX5_firstOfStorm_3 ?_
  exact loop (m + 1) 0 (by omega) (by omega) (fun f hf => by omega)
set_option maxRecDepth 100000 in
set_option maxHeartbeats 4000000 in
theorem c_Mk_endOfStorm (lc : Launch) (G : Gc) (E : Wd) (nh : Nat) {o m f : Nat} {gap : Int} {t p v : Nat → Int} (h : rMk G E o (m : Int) t p v) (hm : m ≤ 60) (hT : okT t m) (hg : 1 ≤ gap ∧ gap ≤ 1000) (hf : f < m) : CI lc G 3 yX5_endOfStorm cX5_endOfStorm 4 .int [.ref (gb G + o), .int (iI (f : Int)), .int (iI gap)] E nh 0 0 (fun v E' => (∃ e : Nat, f < e ∧ e ≤ m ∧ (∀ j : Nat, f < j → j < e → ¬ beg t gap j) ∧ (e = m ∨ beg t gap e) ∧ v = e) ∧ E' = E) := by
  refine CI.mk (by decide +kernel) rfl (Nat.le_of_ble_eq_true rfl) ?_
  intro X hG hL cx hR hI
  subst hG; subst hL
  show V X E (nh, 0, 0) 0 [some (.ref (gb (fG X) + o)), some (.int (iI (f : Int))), some (.int (iI gap)), none] []
  obtain ⟨h0, ht, hp, hv⟩ := id h
  have loop : ∀ (d i : Nat), f + 1 ≤ i → i ≤ m → m - i < d → (∀ j : Nat, f < j → j < i → ¬ beg t gap j) → V X E (nh, 0, 0) 4 [some (.ref (gb (fG X) + o)), some (.int (iI (f : Int))), some (.int (iI gap)), some (.int (iI (i : Int)))] [] := by
    intro d
    induction d with
    | zero => intro k hk hd; omega
    | succ d ih =>
      intro i hi1 hi hd hno
      refine v_iload_n (pc := 4) cx rfl ga3 dX5_endOfStorm_4 ?_
      refine v_aload_n (pc := 5) cx rfl ga0 dX5_endOfStorm_5 ?_
      refine v_getfield (pc := 6) cx flX5_25 (by assumption) gf3 dX5_endOfStorm_6 ?_
      refine v_icmp_ge (pc := 9) cx 29 dX5_endOfStorm_9 rfl (by omega) (fun c9 => ?_) (fun c9 => ?_)
      · refine v_aload_n (pc := 29) cx rfl ga0 dX5_endOfStorm_29 ?_
        refine v_getfield (pc := 30) cx flX5_25 (by assumption) gf3 dX5_endOfStorm_30 ?_
        refine v_ireturn (pc := 33) cx hI rfl ?_ dX5_endOfStorm_33
        exact ⟨⟨m, hf, Nat.le_refl _, fun j hj1 hj2 => hno j hj1 (by omega), Or.inl rfl, rfl⟩, rfl⟩
      · refine v_aload_n (pc := 12) cx rfl ga0 dX5_endOfStorm_12 ?_
        refine v_iload_n (pc := 13) cx rfl ga3 dX5_endOfStorm_13 ?_
        refine v_iload_n (pc := 14) cx rfl ga2 dX5_endOfStorm_14 ?_
        refine v_callVI (pc := 15) cx hR (c_Mk_beginsStorm _ _ _ _ h hm hT (by omega) hg) mlX5_51 (by decide) (by assumption) rfl rfl rfl (Nat.le_of_ble_eq_true rfl) ⟨Nat.le_refl _, Nat.le_refl _⟩ dX5_endOfStorm_15 (fun v2 E2 hP => ?_)
        obtain ⟨hb, rfl⟩ := hP
        refine v_if_eq (pc := 18) cx 23 dX5_endOfStorm_18 rfl (by omega) (fun c18 => ?_) (fun c18 => ?_)
        · refine v_iinc (pc := 23) cx ga3 (sa3 rfl) dX5_endOfStorm_23 ?_
          refine v_goto (pc := 26) cx 4 dX5_endOfStorm_26 rfl ?_
          rcases hb with ⟨hb, -⟩ | ⟨-, hb⟩
          · omega
          · refine ih (i + 1) (by omega) (by omega) (by omega) (fun j hj1 hj2 hbj => ?_)
            by_cases e : j = i
            · exact absurd (e ▸ hbj) hb
            · exact hno j hj1 (by omega) hbj
        · rcases hb with ⟨-, hb⟩ | ⟨hb, -⟩
          · refine v_iload_n (pc := 21) cx rfl ga3 dX5_endOfStorm_21 ?_
            refine v_ireturn (pc := 22) cx hI rfl ?_ dX5_endOfStorm_22
            exact ⟨⟨i, by omega, hi, hno, Or.inr hb, rfl⟩, rfl⟩
          · omega
  refine v_iload_n (pc := 0) cx rfl ga1 dX5_endOfStorm_0 ?_
  refine v_iconst (pc := 1) cx dX5_endOfStorm_1 ?_
  refine v_iadd (pc := 2) cx dX5_endOfStorm_2 ?_
  refine v_istore_n (pc := 3) cx rfl (sa3 rfl) dX5_endOfStorm_3 ?_
  exact loop (m + 1) (f + 1) (by omega) (by omega) (by omega) (fun j hj1 hj2 => by omega)
set_option maxRecDepth 100000 in
set_option maxHeartbeats 4000000 in
theorem c_Mk_loss (lc : Launch) (G : Gc) (E : Wd) (nh : Nat) {o m f e : Nat} {c : Int} {t p v : Nat → Int} (h : rMk G E o (m : Int) t p v) (hm : m ≤ 60) (hT : okT t m) (hf : f < e) (he : e ≤ m) (hc : 0 ≤ c ∧ c ≤ 10000) : CI lc G 2 yX5_lossBetweenTips cX5_lossBetweenTips 6 .int [.ref (gb G + o), .int (iI (f : Int)), .int (iI (e : Int)), .int (iI c)] E nh 0 0 (fun v E' => v = lossTo t c f (e - f - 1) ∧ E' = E) := by
  refine CI.mk (by decide +kernel) rfl (Nat.le_of_ble_eq_true rfl) ?_
  intro X hG hL cx hR hI
  subst hG; subst hL
  show V X E (nh, 0, 0) 0 [some (.ref (gb (fG X) + o)), some (.int (iI (f : Int))), some (.int (iI (e : Int))), some (.int (iI c)), none, none] []
  obtain ⟨h0, ht, hp, hv⟩ := id h
  have loop : ∀ (d i : Nat), f + 1 + i ≤ e → e - (f + 1 + i) < d → V X E (nh, 0, 0) 8 [some (.ref (gb (fG X) + o)), some (.int (iI (f : Int))), some (.int (iI (e : Int))), some (.int (iI c)), some (.int (iI (lossTo t c f i))), some (.int (iI ((f + 1 + i : Nat) : Int)))] [] := by
    intro d
    induction d with
    | zero => intro k hk hd; omega
    | succ d ih =>
      intro i hi hd
      refine v_iload (pc := 8) cx ga5 dX5_lossBetweenTips_8 ?_
      refine v_iload_n (pc := 10) cx rfl ga2 dX5_lossBetweenTips_10 ?_
      refine v_icmp_ge (pc := 11) cx 39 dX5_lossBetweenTips_11 rfl (by omega) (fun c11 => ?_) (fun c11 => ?_)
      · refine v_iload (pc := 39) cx ga4 dX5_lossBetweenTips_39 ?_
        refine v_ireturn (pc := 41) cx hI rfl ?_ dX5_lossBetweenTips_41
        rw [show e - f - 1 = i by omega]
        exact ⟨rfl, rfl⟩
      · refine v_iload (pc := 14) cx ga4 dX5_lossBetweenTips_14 ?_
        refine v_iload_n (pc := 16) cx rfl ga3 dX5_lossBetweenTips_16 ?_
        refine v_aload_n (pc := 17) cx rfl ga0 dX5_lossBetweenTips_17 ?_
        refine v_iload (pc := 18) cx ga5 dX5_lossBetweenTips_18 ?_
        refine v_iconst (pc := 20) cx dX5_lossBetweenTips_20 ?_
        refine v_isub (pc := 21) cx dX5_lossBetweenTips_21 ?_
        refine v_iload (pc := 22) cx ga5 dX5_lossBetweenTips_22 ?_
        rw [show (((f + 1 + i : Nat) : Int) - 1) = ((f + i : Nat) : Int) by omega]
        refine v_callVI (pc := 24) cx hR (c_Mk_ticksBetween _ _ _ _ h hm (by omega) (by omega)) mlX5_42 (by decide) (by assumption) rfl rfl rfl (Nat.le_of_ble_eq_true rfl) ⟨Nat.le_refl _, Nat.le_refl _⟩ dX5_lossBetweenTips_24 (fun v2 E2 hP => ?_)
        obtain ⟨rfl, rfl⟩ := hP
        have g2 := hT.1 (f + 1 + i) (by omega)
        have g3 := hT.1 (f + i) (by omega)
        have g4 := hT.2 (f + i) (f + 1 + i) (by omega) (by omega)
        refine v_callSI (pc := 27) cx hR (c_quotient _ _ _ _ (by omega)) mlX5_55 (by decide) rfl (Nat.le_of_ble_eq_true rfl) ⟨Nat.le_refl _, Nat.le_refl _⟩ dX5_lossBetweenTips_27 (fun v3 E3 hP => ?_)
        obtain ⟨rfl, rfl⟩ := hP
        refine v_iadd (pc := 30) cx dX5_lossBetweenTips_30 ?_
        refine v_istore (pc := 31) cx (sa4 rfl) dX5_lossBetweenTips_31 ?_
        refine v_iinc (pc := 33) cx ga5 (sa5 rfl) dX5_lossBetweenTips_33 ?_
        refine v_goto (pc := 36) cx 8 dX5_lossBetweenTips_36 rfl ?_
        exact ih (i + 1) (by omega) (by omega)
  refine v_iconst (pc := 0) cx dX5_lossBetweenTips_0 ?_
  refine v_istore (pc := 1) cx (sa4 rfl) dX5_lossBetweenTips_1 ?_
  refine v_iload_n (pc := 3) cx rfl ga1 dX5_lossBetweenTips_3 ?_
  refine v_iconst (pc := 4) cx dX5_lossBetweenTips_4 ?_
  refine v_iadd (pc := 5) cx dX5_lossBetweenTips_5 ?_
  refine v_istore (pc := 6) cx (sa5 rfl) dX5_lossBetweenTips_6 ?_
  exact loop (m + 1) 0 (by omega) (by omega)
set_option maxRecDepth 100000 in
set_option maxHeartbeats 4000000 in
theorem c_Mk_peak (lc : Launch) (G : Gc) (E : Wd) (nh : Nat) {o m f e : Nat} {t p v : Nat → Int} (h : rMk G E o (m : Int) t p v) (hm : m ≤ 60) (hT : okT t m) (hf : f < e) (he : e ≤ m) : CI lc G 2 yX5_peak cX5_peak 6 .int [.ref (gb G + o), .int (iI (f : Int)), .int (iI (e : Int))] E nh 0 0 (fun v E' => isPk t f e v ∧ E' = E) := by
  refine CI.mk (by decide +kernel) rfl (Nat.le_of_ble_eq_true rfl) ?_
  intro X hG hL cx hR hI
  subst hG; subst hL
  show V X E (nh, 0, 0) 0 [some (.ref (gb (fG X) + o)), some (.int (iI (f : Int))), some (.int (iI (e : Int))), none, none, none] []
  obtain ⟨h0, ht, hp, hv⟩ := id h
  have inner : ∀ (d a i : Nat) (pk : Int), f ≤ a → a ≤ i → i < e → i - a < d → (∀ j : Nat, f ≤ j → j < a → 30 ≤ t i - t j) → 0 ≤ pk → pk ≤ 60 →
      (∀ a' : Nat, f ≤ a' → a' ≤ i → t i - t a' < 30 → (∀ j : Nat, f ≤ j → j < a' → 30 ≤ t i - t j) → V X E (nh, 0, 0) 40 [some (.ref (gb (fG X) + o)), some (.int (iI (f : Int))), some (.int (iI (e : Int))), some (.int (iI pk)), some (.int (iI (a' : Int))), some (.int (iI (i : Int)))] []) →
      V X E (nh, 0, 0) 14 [some (.ref (gb (fG X) + o)), some (.int (iI (f : Int))), some (.int (iI (e : Int))), some (.int (iI pk)), some (.int (iI (a : Int))), some (.int (iI (i : Int)))] [] := by
    intro d
    induction d with
    | zero => intro a i pk hk hd; omega
    | succ d ih =>
      intro a i pk ha1 ha2 hi hd hno hp0 hp1 kk
      refine v_iload (pc := 14) cx ga4 dX5_peak_14 ?_
      refine v_iload (pc := 16) cx ga5 dX5_peak_16 ?_
      refine v_icmp_ge (pc := 18) cx 40 dX5_peak_18 rfl (by omega) (fun c18 => ?_) (fun c18 => ?_)
      · have e2 : a = i := by omega
        exact kk a ha1 ha2 (by rw [e2]; omega) hno
      · refine v_aload_n (pc := 21) cx rfl ga0 dX5_peak_21 ?_
        refine v_iload (pc := 22) cx ga4 dX5_peak_22 ?_
        refine v_iload (pc := 24) cx ga5 dX5_peak_24 ?_
        refine v_callVI (pc := 26) cx hR (c_Mk_ticksBetween _ _ _ _ h hm (by omega) (by omega)) mlX5_42 (by decide) (by assumption) rfl rfl rfl (Nat.le_of_ble_eq_true rfl) ⟨Nat.le_refl _, Nat.le_refl _⟩ dX5_peak_26 (fun v2 E2 hP => ?_)
        obtain ⟨rfl, rfl⟩ := hP
        have g2 := hT.1 i (by omega)
        have g3 := hT.1 a (by omega)
        refine v_bipush (pc := 29) cx (by decide) dX5_peak_29 ?_
        refine v_icmp_lt (pc := 31) cx 40 dX5_peak_31 rfl (by omega) (fun c31 => ?_) (fun c31 => ?_)
        · exact kk a ha1 ha2 c31 hno
        · refine v_iinc (pc := 34) cx ga4 (sa4 rfl) dX5_peak_34 ?_
          refine v_goto (pc := 37) cx 14 dX5_peak_37 rfl ?_
          refine ih (a + 1) i pk (by omega) (by omega) hi (by omega) (fun j hj1 hj2 => ?_) hp0 hp1 kk
          by_cases e2 : j = a
          · rw [e2]; exact c31
          · exact hno j hj1 (by omega)
  have loop : ∀ (d a i : Nat) (pk : Int), f ≤ a → a ≤ i → i ≤ e → e - i < d → (∀ j : Nat, f ≤ j → j < a → i < e → 30 ≤ t i - t j) → 0 ≤ pk → pk ≤ 60 →
      ((i = f ∧ pk = 0) ∨ (∃ x y : Nat, f ≤ x ∧ x ≤ y ∧ y < i ∧ t y - t x < 30 ∧ pk = (y : Int) - x + 1)) → (∀ x y : Nat, f ≤ x → x ≤ y → y < i → t y - t x < 30 → (y : Int) - x + 1 ≤ pk) →
      V X E (nh, 0, 0) 8 [some (.ref (gb (fG X) + o)), some (.int (iI (f : Int))), some (.int (iI (e : Int))), some (.int (iI pk)), some (.int (iI (a : Int))), some (.int (iI (i : Int)))] [] := by
    intro d
    induction d with
    | zero => intro a i pk hk hd; omega
    | succ d ih =>
      intro a i pk ha1 ha2 hi hd hno hp0 hp1 hat hup
      refine v_iload (pc := 8) cx ga5 dX5_peak_8 ?_
      refine v_iload_n (pc := 10) cx rfl ga2 dX5_peak_10 ?_
      refine v_icmp_ge (pc := 11) cx 58 dX5_peak_11 rfl (by omega) (fun c11 => ?_) (fun c11 => ?_)
      · refine v_iload_n (pc := 58) cx rfl ga3 dX5_peak_58 ?_
        refine v_ireturn (pc := 59) cx hI rfl ?_ dX5_peak_59
        have e2 : i = e := by omega
        subst e2
        rcases hat with ⟨e3, -⟩ | hat
        · omega
        · exact ⟨⟨hat, hup⟩, rfl⟩
      · refine inner (m + 1) a i pk ha1 ha2 (by omega) (by omega) (fun j hj1 hj2 => hno j hj1 hj2 (by omega)) hp0 hp1 (fun a' b1 b2 b3 b4 => ?_)
        refine v_iload_n (pc := 40) cx rfl ga3 dX5_peak_40 ?_
        refine v_iload (pc := 41) cx ga5 dX5_peak_41 ?_
        refine v_iload (pc := 43) cx ga4 dX5_peak_43 ?_
        refine v_isub (pc := 45) cx dX5_peak_45 ?_
        refine v_iconst (pc := 46) cx dX5_peak_46 ?_
        refine v_iadd (pc := 47) cx dX5_peak_47 ?_
        refine v_callSI (pc := 48) cx hR (c_max _ _ _ _ (by omega)) mlX5_46 (by decide) rfl (Nat.le_of_ble_eq_true rfl) ⟨Nat.le_refl _, Nat.le_refl _⟩ dX5_peak_48 (fun v3 E3 hP => ?_)
        obtain ⟨rfl, rfl⟩ := hP
        refine v_istore_n (pc := 51) cx rfl (sa3 rfl) dX5_peak_51 ?_
        refine v_iinc (pc := 52) cx ga5 (sa5 rfl) dX5_peak_52 ?_
        refine v_goto (pc := 55) cx 8 dX5_peak_55 rfl ?_
        refine ih a' (i + 1) (max pk ((i : Int) - a' + 1)) b1 (by omega) (by omega) (by omega) (fun j hj1 hj2 hi2 => ?_) (by omega) (by omega) ?_ (fun x y hx hxy hy hty => ?_)
        · have := b4 j hj1 hj2
          have := hT.2 i (i + 1) (by omega) (by omega)
          omega
        · right
          by_cases hmx : pk ≤ (i : Int) - a' + 1
          · exact ⟨a', i, b1, b2, by omega, b3, by omega⟩
          · rcases hat with ⟨e3, e4⟩ | ⟨x, y, q1, q2, q3, q4, q5⟩
            · omega
            · exact ⟨x, y, q1, q2, by omega, q4, by omega⟩
        · by_cases e2 : y = i
          · subst e2
            by_cases e3 : x < a'
            · have := b4 x hx e3
              omega
            · omega
          · have := hup x y hx hxy (by omega) hty
            omega
  refine v_iconst (pc := 0) cx dX5_peak_0 ?_
  refine v_istore_n (pc := 1) cx rfl (sa3 rfl) dX5_peak_1 ?_
  refine v_iload_n (pc := 2) cx rfl ga1 dX5_peak_2 ?_
  refine v_istore (pc := 3) cx (sa4 rfl) dX5_peak_3 ?_
  refine v_iload_n (pc := 5) cx rfl ga1 dX5_peak_5 ?_
  refine v_istore (pc := 6) cx (sa5 rfl) dX5_peak_6 ?_
  exact loop (m + 1) f f 0 (by omega) (by omega) (by omega) (by omega) (fun j hj1 hj2 => by omega) (by omega) (by omega) (Or.inl ⟨rfl, rfl⟩) (fun x y hx hxy hy => by omega)
set_option maxRecDepth 100000 in
set_option maxHeartbeats 4000000 in
theorem c_Mk_copyFrom (lc : Launch) (G : Gc) (E : Wd) (nh : Nat) {o oo : Nat} {m m' : Int} {b l r b' l' r' : Nat → Int} (h : rMk G E o m b l r) (h' : rMk G E oo m' b' l' r') (hd : o + 4 ≤ oo ∨ oo + 4 ≤ o) : CV lc G 2 yX5_copyFrom cX5_copyFrom 2 [.ref (gb G + o), .ref (gb G + oo)] E nh 0 0 (fun E' => (∃ b2 l2 r2 : Nat → Int, rMk G E' o m' b2 l2 r2 ∧ ∀ j, j < 60 → b2 j = b' j ∧ l2 j = l' j ∧ r2 j = r' j) ∧ Out E E' o (o + 4)) := by
  refine CV.mk (by decide +kernel) rfl (Nat.le_of_ble_eq_true rfl) ?_
  intro X hG hL cx hR hI hini
  subst hG; subst hL
  show V X E (nh, 0, 0) 0 [some (.ref (gb (fG X) + o)), some (.ref (gb (fG X) + oo))] []
  obtain ⟨h0, hb, hl, hr⟩ := id h
  obtain ⟨g0, gb1, gl, gr⟩ := id h'
  have hFr : Out E E o (o + 4) := fun j hj => rfl
  refine v_aload_n (pc := 0) cx rfl ga1 dX5_copyFrom_0 ?_
  refine v_getfield (pc := 1) cx flX5_9 (by assumption) gf0 dX5_copyFrom_1 ?_
  refine v_aload_n (pc := 4) cx rfl ga0 dX5_copyFrom_4 ?_
  refine v_getfield (pc := 5) cx flX5_9 (by assumption) gf0 dX5_copyFrom_5 ?_
  refine v_callSV (pc := 8) cx hR (c_copyRow _ _ _ _ (by omega) gb1 hb) mlX5_21 (by decide) rfl (Nat.le_of_ble_eq_true rfl) ⟨Nat.le_refl _, Nat.le_refl _⟩ dX5_copyFrom_8 (fun E1 hP => ?_)
  obtain ⟨hb, hF⟩ := hP
  replace h0 := (hF _ (by omega)).trans h0
  replace hl := (hF _ (by omega)).trans hl
  replace hr := (hF _ (by omega)).trans hr
  replace g0 := (hF _ (by omega)).trans g0
  replace gb1 := (hF _ (by omega)).trans gb1
  replace gl := (hF _ (by omega)).trans gl
  replace gr := (hF _ (by omega)).trans gr
  replace hFr := fun j hj => (hF j (by omega)).trans (hFr j hj)
  refine v_aload_n (pc := 11) cx rfl ga1 dX5_copyFrom_11 ?_
  refine v_getfield (pc := 12) cx flX5_15 (by assumption) gf1 dX5_copyFrom_12 ?_
  refine v_aload_n (pc := 15) cx rfl ga0 dX5_copyFrom_15 ?_
  refine v_getfield (pc := 16) cx flX5_15 (by assumption) gf1 dX5_copyFrom_16 ?_
  refine v_callSV (pc := 19) cx hR (c_copyRow _ _ _ _ (by omega) gl hl) mlX5_21 (by decide) rfl (Nat.le_of_ble_eq_true rfl) ⟨Nat.le_refl _, Nat.le_refl _⟩ dX5_copyFrom_19 (fun E1 hP => ?_)
  obtain ⟨hl, hF⟩ := hP
  replace h0 := (hF _ (by omega)).trans h0
  replace hb := (hF _ (by omega)).trans hb
  replace hr := (hF _ (by omega)).trans hr
  replace g0 := (hF _ (by omega)).trans g0
  replace gb1 := (hF _ (by omega)).trans gb1
  replace gl := (hF _ (by omega)).trans gl
  replace gr := (hF _ (by omega)).trans gr
  replace hFr := fun j hj => (hF j (by omega)).trans (hFr j hj)
  refine v_aload_n (pc := 22) cx rfl ga1 dX5_copyFrom_22 ?_
  refine v_getfield (pc := 23) cx flX5_18 (by assumption) gf2 dX5_copyFrom_23 ?_
  refine v_aload_n (pc := 26) cx rfl ga0 dX5_copyFrom_26 ?_
  refine v_getfield (pc := 27) cx flX5_18 (by assumption) gf2 dX5_copyFrom_27 ?_
  refine v_callSV (pc := 30) cx hR (c_copyRow _ _ _ _ (by omega) gr hr) mlX5_21 (by decide) rfl (Nat.le_of_ble_eq_true rfl) ⟨Nat.le_refl _, Nat.le_refl _⟩ dX5_copyFrom_30 (fun E1 hP => ?_)
  obtain ⟨hr, hF⟩ := hP
  replace h0 := (hF _ (by omega)).trans h0
  replace hb := (hF _ (by omega)).trans hb
  replace hl := (hF _ (by omega)).trans hl
  replace g0 := (hF _ (by omega)).trans g0
  replace gb1 := (hF _ (by omega)).trans gb1
  replace gl := (hF _ (by omega)).trans gl
  replace gr := (hF _ (by omega)).trans gr
  replace hFr := fun j hj => (hF j (by omega)).trans (hFr j hj)
  refine v_aload_n (pc := 33) cx rfl ga0 dX5_copyFrom_33 ?_
  refine v_aload_n (pc := 34) cx rfl ga1 dX5_copyFrom_34 ?_
  refine v_getfield (pc := 35) cx flX5_25 (by assumption) gf3 dX5_copyFrom_35 ?_
  refine v_putfield (pc := 38) cx fpX5_25 h0 ⟨rfl, rfl⟩ pf3 dX5_copyFrom_38 (fun E38 hE38 hF38 => ?_)
  replace h0 := hE38
  replace hb := (hF38 _ (by omega)).trans hb
  replace hl := (hF38 _ (by omega)).trans hl
  replace hr := (hF38 _ (by omega)).trans hr
  replace hFr := fun j hj => (hF38 j (by omega)).trans (hFr j hj)
  refine v_return (pc := 41) cx hI ?_ dX5_copyFrom_41
  exact ⟨⟨_, _, _, ⟨h0, hb, hl, hr⟩, fun j hj => ⟨cpyI_in hj, cpyI_in hj, cpyI_in hj⟩⟩, hFr⟩
