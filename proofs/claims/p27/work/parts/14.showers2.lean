theorem shF_step {f : Nat → Int} {q m : Nat} (h : 1 ≤ q ∧ q ≤ m) : upI (shF f q m) q (shF f q m (q - 1)) = shF f (q - 1) m := by
  funext j
  unfold upI shF
  by_cases h1 : j = q
  · rw [if_pos h1, if_neg (by omega), if_pos (by omega), h1]
  · rw [if_neg h1]
    by_cases h2 : q < j ∧ j ≤ m
    · rw [if_pos h2, if_pos (by omega)]
    · rw [if_neg h2, if_neg (by omega)]
theorem shF_m {f : Nat → Int} {m : Nat} : shF f m m = f := by
  funext j
  unfold shF
  rw [if_neg (by omega)]
theorem shF_ins {f : Nat → Int} {q m : Nat} {x : Int} (h : q ≤ m) : upI (shF f q m) q x = insF f q m x := by
  funext j
  unfold upI shF insF
  by_cases h1 : j = q
  · rw [if_pos h1, if_neg (by omega), if_pos h1]
  · rw [if_neg h1]
    by_cases h2 : j < q
    · rw [if_neg (by omega), if_pos h2]
    · rw [if_neg h2, if_neg h1]
      by_cases h3 : j ≤ m
      · rw [if_pos (by omega), if_pos h3]
      · rw [if_neg (by omega), if_neg h3]
theorem insP_lt {b : Nat → Int} {x : Int} {q : Nat} (h : 1 ≤ q) (hx : x < b (q - 1)) : insP b x q = insP b x (q - 1) := by
  obtain ⟨k, rfl⟩ : ∃ k, q = k + 1 := ⟨q - 1, by omega⟩
  simp only [Nat.add_sub_cancel] at hx ⊢
  simp only [insP]
  rw [if_pos hx]
theorem insP_ge {b : Nat → Int} {x : Int} {q : Nat} (hx : q = 0 ∨ b (q - 1) ≤ x) : insP b x q = q := by
  cases q with
  | zero => rfl
  | succ k =>
    simp only [Nat.add_sub_cancel] at hx
    simp only [insP]
    rw [if_neg (by omega)]
theorem delF_0 {f : Nat → Int} {k : Nat} : delF f k (k + 1) = f := by
  funext j
  unfold delF
  rw [if_neg (by omega)]
theorem delF_step {f : Nat → Int} {k i : Nat} (h : k + 1 ≤ i) : upI (delF f k i) (i - 1) (delF f k i i) = delF f k (i + 1) := by
  funext j
  unfold upI delF
  by_cases h1 : j = i - 1
  · rw [if_pos h1, if_neg (by omega), if_pos (by omega)]
    congr 1
    omega
  · rw [if_neg h1]
    by_cases h2 : k ≤ j ∧ j + 1 < i
    · rw [if_pos h2, if_pos (by omega)]
    · rw [if_neg h2, if_neg (by omega)]
set_option maxRecDepth 100000 in
set_option maxHeartbeats 4000000 in
theorem c_Sh_insert (lc : Launch) (G : Gc) (E : Wd) (nh : Nat) {o m : Nat} {x y w : Int} {b l r : Nat → Int} (h : rSh G E o (m : Int) b l r) (hm : m < 12) (hx : -2147483648 ≤ x ∧ x < 2147483648) (hr0 : ∀ j, j < m → -2147483648 ≤ b j ∧ b j < 2147483648) : CI lc G 1 yX8_insert cX8_insert 5 .int [.ref (gb G + o), .int (iI x), .int (iI y), .int (iI w)] E nh 0 0 (fun v E' => v = (insP b x m : Int) ∧ rSh G E' o ((m : Int) + 1) (insF b (insP b x m) m x) (insF l (insP b x m) m y) (insF r (insP b x m) m w) ∧ Out E E' o (o + 4)) := by
  refine CI.mk (by decide +kernel) rfl (Nat.le_of_ble_eq_true rfl) ?_
  intro X hG hL cx hR hI
  subst hG; subst hL
  show V X E (nh, 0, 0) 0 [some (.ref (gb (fG X) + o)), some (.int (iI x)), some (.int (iI y)), some (.int (iI w)), none] []
  have fin : ∀ (q : Nat) (E' : Wd), q ≤ m → rSh (fG X) E' o m (shF b q m) (shF l q m) (shF r q m) → Out E E' o (o + 4) → insP b x m = q → V X E' (nh, 0, 0) 52 [some (.ref (gb (fG X) + o)), some (.int (iI x)), some (.int (iI y)), some (.int (iI w)), some (.int (iI (q : Int)))] [] := by
    intro q E' hq h hFr hp
    obtain ⟨h0, hb, hl, hr⟩ := h
    refine v_aload_n (pc := 52) cx rfl ga0 dX8_insert_52 ?_
    refine v_getfield (pc := 53) cx flX8_9 (by assumption) gf0 dX8_insert_53 ?_
    refine v_iload (pc := 56) cx ga4 dX8_insert_56 ?_
    refine v_iload_n (pc := 58) cx rfl ga1 dX8_insert_58 ?_
    refine v_iastore (pc := 59) cx (q) hb (by omega) dX8_insert_59 (fun E59 hE59 hF59 => ?_)
    replace h0 := (hF59 _ (by omega)).trans h0
    replace hb := hE59
    replace hl := (hF59 _ (by omega)).trans hl
    replace hr := (hF59 _ (by omega)).trans hr
    replace hFr := fun j hj => (hF59 j (by omega)).trans (hFr j hj)
    refine v_aload_n (pc := 60) cx rfl ga0 dX8_insert_60 ?_
    refine v_getfield (pc := 61) cx flX8_15 (by assumption) gf1 dX8_insert_61 ?_
    refine v_iload (pc := 64) cx ga4 dX8_insert_64 ?_
    refine v_iload_n (pc := 66) cx rfl ga2 dX8_insert_66 ?_
    refine v_iastore (pc := 67) cx (q) hl (by omega) dX8_insert_67 (fun E67 hE67 hF67 => ?_)
    replace h0 := (hF67 _ (by omega)).trans h0
    replace hb := (hF67 _ (by omega)).trans hb
    replace hl := hE67
    replace hr := (hF67 _ (by omega)).trans hr
    replace hFr := fun j hj => (hF67 j (by omega)).trans (hFr j hj)
    refine v_aload_n (pc := 68) cx rfl ga0 dX8_insert_68 ?_
    refine v_getfield (pc := 69) cx flX8_18 (by assumption) gf2 dX8_insert_69 ?_
    refine v_iload (pc := 72) cx ga4 dX8_insert_72 ?_
    refine v_iload_n (pc := 74) cx rfl ga3 dX8_insert_74 ?_
    refine v_iastore (pc := 75) cx (q) hr (by omega) dX8_insert_75 (fun E75 hE75 hF75 => ?_)
    replace h0 := (hF75 _ (by omega)).trans h0
    replace hb := (hF75 _ (by omega)).trans hb
    replace hl := (hF75 _ (by omega)).trans hl
    replace hr := hE75
    replace hFr := fun j hj => (hF75 j (by omega)).trans (hFr j hj)
    refine v_aload_n (pc := 76) cx rfl ga0 dX8_insert_76 ?_
    refine v_dup (pc := 77) cx rfl dX8_insert_77 ?_
    refine v_getfield (pc := 78) cx flX8_25 (by assumption) gf3 dX8_insert_78 ?_
    refine v_iconst (pc := 81) cx dX8_insert_81 ?_
    refine v_iadd (pc := 82) cx dX8_insert_82 ?_
    refine v_putfield (pc := 83) cx fpX8_25 h0 ⟨rfl, rfl⟩ pf3 dX8_insert_83 (fun E83 hE83 hF83 => ?_)
    replace h0 := hE83
    replace hb := (hF83 _ (by omega)).trans hb
    replace hl := (hF83 _ (by omega)).trans hl
    replace hr := (hF83 _ (by omega)).trans hr
    replace hFr := fun j hj => (hF83 j (by omega)).trans (hFr j hj)
    refine v_iload (pc := 86) cx ga4 dX8_insert_86 ?_
    refine v_ireturn (pc := 88) cx hI rfl ?_ dX8_insert_88
    rw [shF_ins hq] at hb hl hr
    rw [hp]
    exact ⟨rfl, ⟨h0, hb, hl, hr⟩, hFr⟩
  have loop : ∀ (d q : Nat) (E' : Wd), q ≤ m → q < d → rSh (fG X) E' o m (shF b q m) (shF l q m) (shF r q m) → Out E E' o (o + 4) → insP b x m = insP b x q → V X E' (nh, 0, 0) 18 [some (.ref (gb (fG X) + o)), some (.int (iI x)), some (.int (iI y)), some (.int (iI w)), some (.int (iI (q : Int)))] [] := by
    intro d
    induction d with
    | zero => intro q E' hq hd; omega
    | succ d ih =>
      intro q E' hq hd h hFr hp
      obtain ⟨h0, hb, hl, hr⟩ := id h
      refine v_iload (pc := 18) cx ga4 dX8_insert_18 ?_
      refine v_if_le (pc := 20) cx 52 dX8_insert_20 rfl (by omega) (fun c20 => ?_) (fun c20 => ?_)
      · exact fin q E' hq h hFr (hp.trans (insP_ge (Or.inl (by omega))))
      · have e1 : shF b q m (q - 1) = b (q - 1) := by unfold shF; rw [if_neg (by omega)]
        have hk := hr0 (q - 1) (by omega)
        refine v_aload_n (pc := 23) cx rfl ga0 dX8_insert_23 ?_
        refine v_getfield (pc := 24) cx flX8_9 (by assumption) gf0 dX8_insert_24 ?_
        refine v_iload (pc := 27) cx ga4 dX8_insert_27 ?_
        refine v_iconst (pc := 29) cx dX8_insert_29 ?_
        refine v_isub (pc := 30) cx dX8_insert_30 ?_
        refine v_iaload (pc := 31) cx (q - 1) (by assumption) (by omega) dX8_insert_31 ?_
        refine v_iload_n (pc := 32) cx rfl ga1 dX8_insert_32 ?_
        refine v_icmp_le (pc := 33) cx 52 dX8_insert_33 rfl (by omega) (fun c33 => ?_) (fun c33 => ?_)
        · exact fin q E' hq h hFr (hp.trans (insP_ge (Or.inr (by omega))))
        · refine v_aload_n (pc := 36) cx rfl ga0 dX8_insert_36 ?_
          refine v_iload (pc := 37) cx ga4 dX8_insert_37 ?_
          refine v_iconst (pc := 39) cx dX8_insert_39 ?_
          refine v_isub (pc := 40) cx dX8_insert_40 ?_
          refine v_iload (pc := 41) cx ga4 dX8_insert_41 ?_
          rw [show ((q : Int) - 1) = ((q - 1 : Nat) : Int) by omega]
          refine v_callVV (pc := 43) cx hR (c_Sh_move _ _ _ _ h (by omega) (by omega)) mlX8_29 (by decide) (by assumption) rfl rfl rfl (Nat.le_of_ble_eq_true rfl) ⟨Nat.le_refl _, Nat.le_refl _⟩ dX8_insert_43 (fun E2 hP => ?_)
          obtain ⟨h2, hF2⟩ := hP
          rw [shF_step ⟨by omega, hq⟩, shF_step ⟨by omega, hq⟩, shF_step ⟨by omega, hq⟩] at h2
          refine v_iinc (pc := 46) cx ga4 (sa4 rfl) dX8_insert_46 ?_
          refine v_goto (pc := 49) cx 18 dX8_insert_49 rfl ?_
          rw [show ((q : Int) + -1) = ((q - 1 : Nat) : Int) by omega]
          exact ih (q - 1) E2 (by omega) (by omega) h2 (fun j hj => (hF2 j hj).trans (hFr j hj)) (hp.trans (insP_lt (by omega) (by omega)))
  obtain ⟨h0, hb, hl, hr⟩ := id h
  refine v_aload_n (pc := 0) cx rfl ga0 dX8_insert_0 ?_
  refine v_getfield (pc := 1) cx flX8_25 (by assumption) gf3 dX8_insert_1 ?_
  refine v_bipush (pc := 4) cx (by decide) dX8_insert_4 ?_
  refine v_icmp_lt (pc := 6) cx 12 dX8_insert_6 rfl (by omega) (fun c6 => ?_) (fun c6 => ?_)
  · refine v_aload_n (pc := 12) cx rfl ga0 dX8_insert_12 ?_
    refine v_getfield (pc := 13) cx flX8_25 (by assumption) gf3 dX8_insert_13 ?_
    refine v_istore (pc := 16) cx (sa4 rfl) dX8_insert_16 ?_
    exact loop (m + 1) m E (Nat.le_refl _) (by omega) (by rw [shF_m, shF_m, shF_m]; exact h) (fun _ _ => rfl) rfl
  · omega
theorem lst_push {b l r : Nat → Int} {k : Nat} {x y w : Int} : lst (upI b k x) (upI l k y) (upI r k w) (k + 1) = lst b l r k ++ [(x, y, w)] := by
  rw [lst_succ, upI_s, upI_s, upI_s]
  congr 1
  exact lst_ext (fun j hj => ⟨upI_n (by omega), upI_n (by omega), upI_n (by omega)⟩)
set_option maxRecDepth 100000 in
set_option maxHeartbeats 4000000 in
theorem c_Sh_removeEnded (lc : Launch) (G : Gc) (E : Wd) (nh : Nat) {o m : Nat} {t : Int} {b l r : Nat → Int} (h : rSh G E o (m : Int) b l r) (hm : m ≤ 12) (ht : 0 ≤ t ∧ t < 1000000) (hr0 : ∀ j, j < m → (0 ≤ b j ∧ b j ≤ 5000) ∧ (1 ≤ l j ∧ l j ≤ 500)) : CV lc G 1 yX8_removeEnded cX8_removeEnded 4 [.ref (gb G + o), .int (iI t)] E nh 0 0 (fun E' => (∃ (m' : Nat) (b' l' r' : Nat → Int), rSh G E' o m' b' l' r' ∧ lst b' l' r' m' = (lst b l r m).filter (fun x => decide (t < x.1 + x.2.1)) ∧ m' ≤ m) ∧ Out E E' o (o + 4)) := by
  refine CV.mk (by decide +kernel) rfl (Nat.le_of_ble_eq_true rfl) ?_
  intro X hG hL cx hR hI hini
  subst hG; subst hL
  show V X E (nh, 0, 0) 0 [some (.ref (gb (fG X) + o)), some (.int (iI t)), none, none] []
  have loop : ∀ (d i k : Nat) (b' l' r' : Nat → Int) (E' : Wd), i ≤ m → k ≤ i → m - i < d → rSh (fG X) E' o m b' l' r' → lst b' l' r' k = (lst b l r i).filter (fun x => decide (t < x.1 + x.2.1)) → (∀ j, i ≤ j → b' j = b j ∧ l' j = l j ∧ r' j = r j) → Out E E' o (o + 4) → V X E' (nh, 0, 0) 4 [some (.ref (gb (fG X) + o)), some (.int (iI t)), some (.int (iI (k : Int))), some (.int (iI (i : Int)))] [] := by
    intro d
    induction d with
    | zero => intro i k b' l' r' E' hq hd; omega
    | succ d ih =>
      intro i k b' l' r' E' hi hk hd h hls hsame hFr
      obtain ⟨h0, hb, hl, hr⟩ := id h
      refine v_iload_n (pc := 4) cx rfl ga3 dX8_removeEnded_4 ?_
      refine v_aload_n (pc := 5) cx rfl ga0 dX8_removeEnded_5 ?_
      refine v_getfield (pc := 6) cx flX8_25 (by assumption) gf3 dX8_removeEnded_6 ?_
      refine v_icmp_ge (pc := 9) cx 44 dX8_removeEnded_9 rfl (by omega) (fun c9 => ?_) (fun c9 => ?_)
      · have e : i = m := by omega
        subst e
        refine v_aload_n (pc := 44) cx rfl ga0 dX8_removeEnded_44 ?_
        refine v_iload_n (pc := 45) cx rfl ga2 dX8_removeEnded_45 ?_
        refine v_putfield (pc := 46) cx fpX8_25 h0 ⟨rfl, rfl⟩ pf3 dX8_removeEnded_46 (fun E46 hE46 hF46 => ?_)
        replace h0 := hE46
        replace hb := (hF46 _ (by omega)).trans hb
        replace hl := (hF46 _ (by omega)).trans hl
        replace hr := (hF46 _ (by omega)).trans hr
        replace hFr := fun j hj => (hF46 j (by omega)).trans (hFr j hj)
        refine v_return (pc := 49) cx hI ?_ dX8_removeEnded_49
        exact ⟨⟨k, b', l', r', ⟨h0, hb, hl, hr⟩, hls, hk⟩, hFr⟩
      · have hk1 := hr0 i (by omega)
        obtain ⟨s1, s2, s3⟩ := hsame i (Nat.le_refl _)
        refine v_aload_n (pc := 12) cx rfl ga0 dX8_removeEnded_12 ?_
        refine v_getfield (pc := 13) cx flX8_9 (by assumption) gf0 dX8_removeEnded_13 ?_
        refine v_iload_n (pc := 16) cx rfl ga3 dX8_removeEnded_16 ?_
        refine v_iaload (pc := 17) cx (i) (by assumption) (by omega) dX8_removeEnded_17 ?_
        refine v_aload_n (pc := 18) cx rfl ga0 dX8_removeEnded_18 ?_
        refine v_getfield (pc := 19) cx flX8_15 (by assumption) gf1 dX8_removeEnded_19 ?_
        refine v_iload_n (pc := 22) cx rfl ga3 dX8_removeEnded_22 ?_
        refine v_iaload (pc := 23) cx (i) (by assumption) (by omega) dX8_removeEnded_23 ?_
        refine v_iadd (pc := 24) cx dX8_removeEnded_24 ?_
        refine v_iload_n (pc := 25) cx rfl ga1 dX8_removeEnded_25 ?_
        refine v_icmp_le (pc := 26) cx 38 dX8_removeEnded_26 rfl (by omega) (fun c26 => ?_) (fun c26 => ?_)
        · refine v_iinc (pc := 38) cx ga3 (sa3 rfl) dX8_removeEnded_38 ?_
          refine v_goto (pc := 41) cx 4 dX8_removeEnded_41 rfl ?_
          refine ih (i + 1) k b' l' r' E' (by omega) (by omega) (by omega) h ?_ (fun j hj => hsame j (by omega)) hFr
          rw [lst_succ, List.filter_append, hls, List.filter_cons_of_neg (by simp; omega)]
          simp
        · refine v_aload_n (pc := 29) cx rfl ga0 dX8_removeEnded_29 ?_
          refine v_iload_n (pc := 30) cx rfl ga3 dX8_removeEnded_30 ?_
          refine v_iload_n (pc := 31) cx rfl ga2 dX8_removeEnded_31 ?_
          refine v_callVV (pc := 32) cx hR (c_Sh_move _ _ _ _ h (by omega) (by omega)) mlX8_29 (by decide) (by assumption) rfl rfl rfl (Nat.le_of_ble_eq_true rfl) ⟨Nat.le_refl _, Nat.le_refl _⟩ dX8_removeEnded_32 (fun E2 hP => ?_)
          obtain ⟨h2, hF2⟩ := hP
          refine v_iinc (pc := 35) cx ga2 (sa2 rfl) dX8_removeEnded_35 ?_
          refine v_iinc (pc := 38) cx ga3 (sa3 rfl) dX8_removeEnded_38 ?_
          refine v_goto (pc := 41) cx 4 dX8_removeEnded_41 rfl ?_
          refine ih (i + 1) (k + 1) _ _ _ E2 (by omega) (by omega) (by omega) h2 ?_ (fun j hj => ?_) (fun j hj => (hF2 j hj).trans (hFr j hj))
          · rw [lst_push, lst_succ, List.filter_append, hls, List.filter_cons_of_pos (by simp; omega), s1, s2, s3]
            simp
          · obtain ⟨u1, u2, u3⟩ := hsame j (by omega)
            rw [upI_n (by omega), upI_n (by omega), upI_n (by omega)]
            exact ⟨u1, u2, u3⟩
  refine v_iconst (pc := 0) cx dX8_removeEnded_0 ?_
  refine v_istore_n (pc := 1) cx rfl (sa2 rfl) dX8_removeEnded_1 ?_
  refine v_iconst (pc := 2) cx dX8_removeEnded_2 ?_
  refine v_istore_n (pc := 3) cx rfl (sa3 rfl) dX8_removeEnded_3 ?_
  exact loop (m + 1) 0 0 b l r E (by omega) (by omega) (by omega) h rfl (fun _ _ => ⟨rfl, rfl, rfl⟩) (fun _ _ => rfl)
set_option maxRecDepth 100000 in
set_option maxHeartbeats 4000000 in
theorem c_Sh_ticksToCome (lc : Launch) (G : Gc) (E : Wd) (nh : Nat) {o m k : Nat} {t : Int} {b l r : Nat → Int} (h : rSh G E o (m : Int) b l r) (hm : m ≤ 12) (hk : k < m) (ht : 0 ≤ t ∧ t < 1000000) (hr0 : ∀ j, j < m → (0 ≤ b j ∧ b j ≤ 5000) ∧ (1 ≤ l j ∧ l j ≤ 500)) : CI lc G 1 yX8_ticksToCome cX8_ticksToCome 3 .int [.ref (gb G + o), .int (iI (k : Int)), .int (iI t)] E nh 0 0 (fun v E' => v = b k + l k - max (b k) t ∧ E' = E) := by
  refine CI.mk (by decide +kernel) rfl (Nat.le_of_ble_eq_true rfl) ?_
  intro X hG hL cx hR hI
  subst hG; subst hL
  show V X E (nh, 0, 0) 0 [some (.ref (gb (fG X) + o)), some (.int (iI (k : Int))), some (.int (iI t))] []
  obtain ⟨h0, hb, hl, hr⟩ := id h
  have hk1 := hr0 k hk
  refine v_aload_n (pc := 0) cx rfl ga0 dX8_ticksToCome_0 ?_
  refine v_iload_n (pc := 1) cx rfl ga1 dX8_ticksToCome_1 ?_
  refine v_callVI (pc := 2) cx hR (c_Sh_has _ _ _ _ h (by omega) (by omega)) mlX8_33 (by decide) (by assumption) rfl rfl rfl (Nat.le_of_ble_eq_true rfl) ⟨Nat.le_refl _, Nat.le_refl _⟩ dX8_ticksToCome_2 (fun v E2 hP => ?_)
  obtain ⟨hv, rfl⟩ := hP
  refine v_if_ne (pc := 5) cx 10 dX8_ticksToCome_5 rfl (by omega) (fun c5 => ?_) (fun c5 => ?_)
  · refine v_aload_n (pc := 10) cx rfl ga0 dX8_ticksToCome_10 ?_
    refine v_getfield (pc := 11) cx flX8_9 (by assumption) gf0 dX8_ticksToCome_11 ?_
    refine v_iload_n (pc := 14) cx rfl ga1 dX8_ticksToCome_14 ?_
    refine v_iaload (pc := 15) cx (k) (by assumption) (by omega) dX8_ticksToCome_15 ?_
    refine v_aload_n (pc := 16) cx rfl ga0 dX8_ticksToCome_16 ?_
    refine v_getfield (pc := 17) cx flX8_15 (by assumption) gf1 dX8_ticksToCome_17 ?_
    refine v_iload_n (pc := 20) cx rfl ga1 dX8_ticksToCome_20 ?_
    refine v_iaload (pc := 21) cx (k) (by assumption) (by omega) dX8_ticksToCome_21 ?_
    refine v_iadd (pc := 22) cx dX8_ticksToCome_22 ?_
    refine v_aload_n (pc := 23) cx rfl ga0 dX8_ticksToCome_23 ?_
    refine v_getfield (pc := 24) cx flX8_9 (by assumption) gf0 dX8_ticksToCome_24 ?_
    refine v_iload_n (pc := 27) cx rfl ga1 dX8_ticksToCome_27 ?_
    refine v_iaload (pc := 28) cx (k) (by assumption) (by omega) dX8_ticksToCome_28 ?_
    refine v_iload_n (pc := 29) cx rfl ga2 dX8_ticksToCome_29 ?_
    refine v_callSI (pc := 30) cx hR (c_max _ _ _ _ (by omega)) mlX8_37 (by decide) rfl (Nat.le_of_ble_eq_true rfl) ⟨Nat.le_refl _, Nat.le_refl _⟩ dX8_ticksToCome_30 (fun v2 E3 hP => ?_)
    obtain ⟨rfl, rfl⟩ := hP
    refine v_isub (pc := 33) cx dX8_ticksToCome_33 ?_
    refine v_ireturn (pc := 34) cx hI rfl ?_ dX8_ticksToCome_34
    exact ⟨rfl, rfl⟩
  · omega
theorem cpyI_in {f g : Nat → Int} {m j : Nat} (h : j < m) : cpyI f g 0 0 m j = f j := by
  unfold cpyI
  rw [if_pos ⟨Nat.zero_le _, by omega⟩]
  congr 1
  omega
set_option maxRecDepth 100000 in
set_option maxHeartbeats 4000000 in
theorem c_Sh_copyFrom (lc : Launch) (G : Gc) (E : Wd) (nh : Nat) {o oo : Nat} {m m' : Int} {b l r b' l' r' : Nat → Int} (h : rSh G E o m b l r) (h' : rSh G E oo m' b' l' r') (hd : o + 4 ≤ oo ∨ oo + 4 ≤ o) : CV lc G 2 yX8_copyFrom cX8_copyFrom 2 [.ref (gb G + o), .ref (gb G + oo)] E nh 0 0 (fun E' => (∃ b2 l2 r2 : Nat → Int, rSh G E' o m' b2 l2 r2 ∧ ∀ j, j < 12 → b2 j = b' j ∧ l2 j = l' j ∧ r2 j = r' j) ∧ Out E E' o (o + 4)) := by
  refine CV.mk (by decide +kernel) rfl (Nat.le_of_ble_eq_true rfl) ?_
  intro X hG hL cx hR hI hini
  subst hG; subst hL
  show V X E (nh, 0, 0) 0 [some (.ref (gb (fG X) + o)), some (.ref (gb (fG X) + oo))] []
  obtain ⟨h0, hb, hl, hr⟩ := id h
  obtain ⟨g0, gb1, gl, gr⟩ := id h'
  have hFr : Out E E o (o + 4) := fun j hj => rfl
  refine v_aload_n (pc := 0) cx rfl ga1 dX8_copyFrom_0 ?_
  refine v_getfield (pc := 1) cx flX8_9 (by assumption) gf0 dX8_copyFrom_1 ?_
  refine v_aload_n (pc := 4) cx rfl ga0 dX8_copyFrom_4 ?_
  refine v_getfield (pc := 5) cx flX8_9 (by assumption) gf0 dX8_copyFrom_5 ?_
  refine v_callSV (pc := 8) cx hR (c_copyRow _ _ _ _ (by omega) gb1 hb) mlX8_21 (by decide) rfl (Nat.le_of_ble_eq_true rfl) ⟨Nat.le_refl _, Nat.le_refl _⟩ dX8_copyFrom_8 (fun E1 hP => ?_)
  obtain ⟨hb, hF⟩ := hP
  replace h0 := (hF _ (by omega)).trans h0
  replace hl := (hF _ (by omega)).trans hl
  replace hr := (hF _ (by omega)).trans hr
  replace g0 := (hF _ (by omega)).trans g0
  replace gb1 := (hF _ (by omega)).trans gb1
  replace gl := (hF _ (by omega)).trans gl
  replace gr := (hF _ (by omega)).trans gr
  replace hFr := fun j hj => (hF j (by omega)).trans (hFr j hj)
  refine v_aload_n (pc := 11) cx rfl ga1 dX8_copyFrom_11 ?_
  refine v_getfield (pc := 12) cx flX8_15 (by assumption) gf1 dX8_copyFrom_12 ?_
  refine v_aload_n (pc := 15) cx rfl ga0 dX8_copyFrom_15 ?_
  refine v_getfield (pc := 16) cx flX8_15 (by assumption) gf1 dX8_copyFrom_16 ?_
  refine v_callSV (pc := 19) cx hR (c_copyRow _ _ _ _ (by omega) gl hl) mlX8_21 (by decide) rfl (Nat.le_of_ble_eq_true rfl) ⟨Nat.le_refl _, Nat.le_refl _⟩ dX8_copyFrom_19 (fun E1 hP => ?_)
  obtain ⟨hl, hF⟩ := hP
  replace h0 := (hF _ (by omega)).trans h0
  replace hb := (hF _ (by omega)).trans hb
  replace hr := (hF _ (by omega)).trans hr
  replace g0 := (hF _ (by omega)).trans g0
  replace gb1 := (hF _ (by omega)).trans gb1
  replace gl := (hF _ (by omega)).trans gl
  replace gr := (hF _ (by omega)).trans gr
  replace hFr := fun j hj => (hF j (by omega)).trans (hFr j hj)
  refine v_aload_n (pc := 22) cx rfl ga1 dX8_copyFrom_22 ?_
  refine v_getfield (pc := 23) cx flX8_18 (by assumption) gf2 dX8_copyFrom_23 ?_
  refine v_aload_n (pc := 26) cx rfl ga0 dX8_copyFrom_26 ?_
  refine v_getfield (pc := 27) cx flX8_18 (by assumption) gf2 dX8_copyFrom_27 ?_
  refine v_callSV (pc := 30) cx hR (c_copyRow _ _ _ _ (by omega) gr hr) mlX8_21 (by decide) rfl (Nat.le_of_ble_eq_true rfl) ⟨Nat.le_refl _, Nat.le_refl _⟩ dX8_copyFrom_30 (fun E1 hP => ?_)
  obtain ⟨hr, hF⟩ := hP
  replace h0 := (hF _ (by omega)).trans h0
  replace hb := (hF _ (by omega)).trans hb
  replace hl := (hF _ (by omega)).trans hl
  replace g0 := (hF _ (by omega)).trans g0
  replace gb1 := (hF _ (by omega)).trans gb1
  replace gl := (hF _ (by omega)).trans gl
  replace gr := (hF _ (by omega)).trans gr
  replace hFr := fun j hj => (hF j (by omega)).trans (hFr j hj)
  refine v_aload_n (pc := 33) cx rfl ga0 dX8_copyFrom_33 ?_
  refine v_aload_n (pc := 34) cx rfl ga1 dX8_copyFrom_34 ?_
  refine v_getfield (pc := 35) cx flX8_25 (by assumption) gf3 dX8_copyFrom_35 ?_
  refine v_putfield (pc := 38) cx fpX8_25 h0 ⟨rfl, rfl⟩ pf3 dX8_copyFrom_38 (fun E38 hE38 hF38 => ?_)
  replace h0 := hE38
  replace hb := (hF38 _ (by omega)).trans hb
  replace hl := (hF38 _ (by omega)).trans hl
  replace hr := (hF38 _ (by omega)).trans hr
  replace hFr := fun j hj => (hF38 j (by omega)).trans (hFr j hj)
  refine v_return (pc := 41) cx hI ?_ dX8_copyFrom_41
  exact ⟨⟨_, _, _, ⟨h0, hb, hl, hr⟩, fun j hj => ⟨cpyI_in hj, cpyI_in hj, cpyI_in hj⟩⟩, hFr⟩
