/-! the showers that are told ahead: raw rows, and the list that they hold -/
def rSh (G : Gc) (E : Wd) (o : Nat) (n : Int) (b l r : Nat → Int) : Prop :=
  E o = some (.inr (8, [.ref (gb G + (o + 1)), .ref (gb G + (o + 2)), .ref (gb G + (o + 3)), .int (iI n)])) ∧ E (o + 1) = some (AI G 12 b) ∧ E (o + 2) = some (AI G 12 l) ∧ E (o + 3) = some (AI G 12 r)
theorem rSh.out {G : Gc} {E E' : Wd} {o : Nat} {n : Int} {b l r : Nat → Int} {x y : Nat} (h : rSh G E o n b l r) (hE : Out E E' x y) (hxy : o + 4 ≤ x ∨ y ≤ o) : rSh G E' o n b l r :=
  ⟨(hE _ (by omega)).trans h.1, (hE _ (by omega)).trans h.2.1, (hE _ (by omega)).trans h.2.2.1, (hE _ (by omega)).trans h.2.2.2⟩
def rainTo (b l r : Nat → Int) (t : Int) : Nat → Int
  | 0 => 0
  | k + 1 => rainTo b l r t k + if b k ≤ t ∧ t < b k + l k then r k else 0
def insP (b : Nat → Int) (x : Int) : Nat → Nat
  | 0 => 0
  | k + 1 => if x < b k then insP b x k else k + 1
def insF (f : Nat → Int) (p m : Nat) (x : Int) : Nat → Int := fun j => if j < p then f j else if j = p then x else if j ≤ m then f (j - 1) else f j
def shF (f : Nat → Int) (q m : Nat) : Nat → Int := fun j => if q < j ∧ j ≤ m then f (j - 1) else f j
def delF (f : Nat → Int) (k i : Nat) : Nat → Int := fun j => if k ≤ j ∧ j + 1 < i then f (j + 1) else f j
def lst (b l r : Nat → Int) (m : Nat) : List (Int × Int × Int) := (List.range m).map (fun j => (b j, l j, r j))
theorem lst_ext {b l r b' l' r' : Nat → Int} {m : Nat} (h : ∀ j, j < m → b j = b' j ∧ l j = l' j ∧ r j = r' j) : lst b l r m = lst b' l' r' m := by
  apply List.map_congr_left
  intro j hj
  obtain ⟨h1, h2, h3⟩ := h j (List.mem_range.mp hj)
  rw [h1, h2, h3]
theorem lst_succ {b l r : Nat → Int} {m : Nat} : lst b l r (m + 1) = lst b l r m ++ [(b m, l m, r m)] := by
  simp [lst, List.range_succ]
theorem insP_le (b : Nat → Int) (x : Int) : ∀ m, insP b x m ≤ m := by
  intro m
  induction m with
  | zero => exact Nat.le_refl _
  | succ k ih => unfold insP; split <;> omega
set_option maxRecDepth 100000 in
set_option maxHeartbeats 4000000 in
theorem c_Sh_has (lc : Launch) (G : Gc) (E : Wd) (nh : Nat) {o : Nat} {m k : Int} {b l r : Nat → Int} (h : rSh G E o m b l r) (hm : 0 ≤ m ∧ m ≤ 12) (hk : -2147483648 ≤ k ∧ k < 2147483648) : CI lc G 0 yX8_has cX8_has 2 .boolean [.ref (gb G + o), .int (iI k)] E nh 0 0 (fun v E' => ((v = 1 ∧ 0 ≤ k ∧ k < m) ∨ (v = 0 ∧ (k < 0 ∨ m ≤ k))) ∧ E' = E) := by
  refine CI.mk (by decide +kernel) rfl (Nat.le_of_ble_eq_true rfl) ?_
  intro X hG hL cx hR hI
  subst hG; subst hL
  show V X E (nh, 0, 0) 0 [some (.ref (gb (fG X) + o)), some (.int (iI k))] []
  obtain ⟨h0, hb, hl, hr⟩ := h
  refine v_iload_n (pc := 0) cx rfl ga1 dX8_has_0 ?_
  refine v_if_lt (pc := 1) cx 16 dX8_has_1 rfl (by omega) (fun c1 => ?_) (fun c1 => ?_)
  · refine v_iconst (pc := 16) cx dX8_has_16 ?_
    refine v_ireturn (pc := 17) cx hI rfl ?_ dX8_has_17
    exact ⟨Or.inr ⟨rfl, Or.inl c1⟩, rfl⟩
  · refine v_iload_n (pc := 4) cx rfl ga1 dX8_has_4 ?_
    refine v_aload_n (pc := 5) cx rfl ga0 dX8_has_5 ?_
    refine v_getfield (pc := 6) cx flX8_25 (by assumption) gf3 dX8_has_6 ?_
    refine v_icmp_ge (pc := 9) cx 16 dX8_has_9 rfl (by omega) (fun c9 => ?_) (fun c9 => ?_)
    · refine v_iconst (pc := 16) cx dX8_has_16 ?_
      refine v_ireturn (pc := 17) cx hI rfl ?_ dX8_has_17
      exact ⟨Or.inr ⟨rfl, Or.inr c9⟩, rfl⟩
    · refine v_iconst (pc := 12) cx dX8_has_12 ?_
      refine v_goto (pc := 13) cx 17 dX8_has_13 rfl ?_
      refine v_ireturn (pc := 17) cx hI rfl ?_ dX8_has_17
      exact ⟨Or.inl ⟨rfl, c1, c9⟩, rfl⟩
set_option maxRecDepth 100000 in
set_option maxHeartbeats 4000000 in
theorem c_Sh_move (lc : Launch) (G : Gc) (E : Wd) (nh : Nat) {o jf jt : Nat} {m : Int} {b l r : Nat → Int} (h : rSh G E o m b l r) (hf : jf < 12) (ht : jt < 12) : CV lc G 0 yX8_move cX8_move 3 [.ref (gb G + o), .int (iI (jf : Int)), .int (iI (jt : Int))] E nh 0 0 (fun E' => rSh G E' o m (upI b jt (b jf)) (upI l jt (l jf)) (upI r jt (r jf)) ∧ Out E E' o (o + 4)) := by
  refine CV.mk (by decide +kernel) rfl (Nat.le_of_ble_eq_true rfl) ?_
  intro X hG hL cx hR hI hini
  subst hG; subst hL
  show V X E (nh, 0, 0) 0 [some (.ref (gb (fG X) + o)), some (.int (iI (jf : Int))), some (.int (iI (jt : Int)))] []
  obtain ⟨h0, hb, hl, hr⟩ := h
  have hFr : Out E E o (o + 4) := fun j hj => rfl
  refine v_aload_n (pc := 0) cx rfl ga0 dX8_move_0 ?_
  refine v_getfield (pc := 1) cx flX8_9 (by assumption) gf0 dX8_move_1 ?_
  refine v_iload_n (pc := 4) cx rfl ga2 dX8_move_4 ?_
  refine v_aload_n (pc := 5) cx rfl ga0 dX8_move_5 ?_
  refine v_getfield (pc := 6) cx flX8_9 (by assumption) gf0 dX8_move_6 ?_
  refine v_iload_n (pc := 9) cx rfl ga1 dX8_move_9 ?_
  refine v_iaload (pc := 10) cx (jf) (by assumption) (by omega) dX8_move_10 ?_
  refine v_iastore (pc := 11) cx (jt) hb (by omega) dX8_move_11 (fun E11 hE11 hF11 => ?_)
  replace h0 := (hF11 _ (by omega)).trans h0
  replace hb := hE11
  replace hl := (hF11 _ (by omega)).trans hl
  replace hr := (hF11 _ (by omega)).trans hr
  replace hFr := fun j hj => (hF11 j (by omega)).trans (hFr j hj)
  refine v_aload_n (pc := 12) cx rfl ga0 dX8_move_12 ?_
  refine v_getfield (pc := 13) cx flX8_15 (by assumption) gf1 dX8_move_13 ?_
  refine v_iload_n (pc := 16) cx rfl ga2 dX8_move_16 ?_
  refine v_aload_n (pc := 17) cx rfl ga0 dX8_move_17 ?_
  refine v_getfield (pc := 18) cx flX8_15 (by assumption) gf1 dX8_move_18 ?_
  refine v_iload_n (pc := 21) cx rfl ga1 dX8_move_21 ?_
  refine v_iaload (pc := 22) cx (jf) (by assumption) (by omega) dX8_move_22 ?_
  refine v_iastore (pc := 23) cx (jt) hl (by omega) dX8_move_23 (fun E23 hE23 hF23 => ?_)
  replace h0 := (hF23 _ (by omega)).trans h0
  replace hb := (hF23 _ (by omega)).trans hb
  replace hl := hE23
  replace hr := (hF23 _ (by omega)).trans hr
  replace hFr := fun j hj => (hF23 j (by omega)).trans (hFr j hj)
  refine v_aload_n (pc := 24) cx rfl ga0 dX8_move_24 ?_
  refine v_getfield (pc := 25) cx flX8_18 (by assumption) gf2 dX8_move_25 ?_
  refine v_iload_n (pc := 28) cx rfl ga2 dX8_move_28 ?_
  refine v_aload_n (pc := 29) cx rfl ga0 dX8_move_29 ?_
  refine v_getfield (pc := 30) cx flX8_18 (by assumption) gf2 dX8_move_30 ?_
  refine v_iload_n (pc := 33) cx rfl ga1 dX8_move_33 ?_
  refine v_iaload (pc := 34) cx (jf) (by assumption) (by omega) dX8_move_34 ?_
  refine v_iastore (pc := 35) cx (jt) hr (by omega) dX8_move_35 (fun E35 hE35 hF35 => ?_)
  replace h0 := (hF35 _ (by omega)).trans h0
  replace hb := (hF35 _ (by omega)).trans hb
  replace hl := (hF35 _ (by omega)).trans hl
  replace hr := hE35
  replace hFr := fun j hj => (hF35 j (by omega)).trans (hFr j hj)
  refine v_return (pc := 36) cx hI ?_ dX8_move_36
  exact ⟨⟨h0, hb, hl, hr⟩, hFr⟩
set_option maxRecDepth 100000 in
set_option maxHeartbeats 4000000 in
theorem c_Sh_rainIn (lc : Launch) (G : Gc) (E : Wd) (nh : Nat) {o m : Nat} {t : Int} {b l r : Nat → Int} (h : rSh G E o (m : Int) b l r) (hm : m ≤ 12) (ht : 0 ≤ t ∧ t < 1000000) (hr0 : ∀ j, j < m → (0 ≤ b j ∧ b j ≤ 5000) ∧ (1 ≤ l j ∧ l j ≤ 500) ∧ (1 ≤ r j ∧ r j ≤ 200)) : CI lc G 0 yX8_rainIn cX8_rainIn 4 .int [.ref (gb G + o), .int (iI t)] E nh 0 0 (fun v E' => v = rainTo b l r t m ∧ E' = E) := by
  refine CI.mk (by decide +kernel) rfl (Nat.le_of_ble_eq_true rfl) ?_
  intro X hG hL cx hR hI
  subst hG; subst hL
  show V X E (nh, 0, 0) 0 [some (.ref (gb (fG X) + o)), some (.int (iI t)), none, none] []
  obtain ⟨h0, hb, hl, hr⟩ := h
  have loop : ∀ (d k : Nat), k ≤ m → m - k < d → V X E (nh, 0, 0) 4 [some (.ref (gb (fG X) + o)), some (.int (iI t)), some (.int (iI (rainTo b l r t k))), some (.int (iI (k : Int)))] [] := by
    intro d
    induction d with
    | zero => intro k hk hd; omega
    | succ d ih =>
      intro k hk hd
      refine v_iload_n (pc := 4) cx rfl ga3 dX8_rainIn_4 ?_
      refine v_aload_n (pc := 5) cx rfl ga0 dX8_rainIn_5 ?_
      refine v_getfield (pc := 6) cx flX8_25 (by assumption) gf3 dX8_rainIn_6 ?_
      refine v_icmp_ge (pc := 9) cx 54 dX8_rainIn_9 rfl (by omega) (fun c9 => ?_) (fun c9 => ?_)
      · refine v_iload_n (pc := 54) cx rfl ga2 dX8_rainIn_54 ?_
        refine v_ireturn (pc := 55) cx hI rfl ?_ dX8_rainIn_55
        exact ⟨by rw [show k = m by omega], rfl⟩
      · have hk1 := hr0 k (by omega)
        refine v_aload_n (pc := 12) cx rfl ga0 dX8_rainIn_12 ?_
        refine v_getfield (pc := 13) cx flX8_9 (by assumption) gf0 dX8_rainIn_13 ?_
        refine v_iload_n (pc := 16) cx rfl ga3 dX8_rainIn_16 ?_
        refine v_iaload (pc := 17) cx (k) (by assumption) (by omega) dX8_rainIn_17 ?_
        refine v_iload_n (pc := 18) cx rfl ga1 dX8_rainIn_18 ?_
        refine v_icmp_gt (pc := 19) cx 48 dX8_rainIn_19 rfl (by omega) (fun c19 => ?_) (fun c19 => ?_)
        · refine v_iinc (pc := 48) cx ga3 (sa3 rfl) dX8_rainIn_48 ?_
          refine v_goto (pc := 51) cx 4 dX8_rainIn_51 rfl ?_
          have e : rainTo b l r t (k + 1) = rainTo b l r t k := by simp only [rainTo]; rw [if_neg (by omega)]; omega
          rw [← e]
          exact ih (k + 1) (by omega) (by omega)
        · refine v_iload_n (pc := 22) cx rfl ga1 dX8_rainIn_22 ?_
          refine v_aload_n (pc := 23) cx rfl ga0 dX8_rainIn_23 ?_
          refine v_getfield (pc := 24) cx flX8_9 (by assumption) gf0 dX8_rainIn_24 ?_
          refine v_iload_n (pc := 27) cx rfl ga3 dX8_rainIn_27 ?_
          refine v_iaload (pc := 28) cx (k) (by assumption) (by omega) dX8_rainIn_28 ?_
          refine v_aload_n (pc := 29) cx rfl ga0 dX8_rainIn_29 ?_
          refine v_getfield (pc := 30) cx flX8_15 (by assumption) gf1 dX8_rainIn_30 ?_
          refine v_iload_n (pc := 33) cx rfl ga3 dX8_rainIn_33 ?_
          refine v_iaload (pc := 34) cx (k) (by assumption) (by omega) dX8_rainIn_34 ?_
          refine v_iadd (pc := 35) cx dX8_rainIn_35 ?_
          refine v_icmp_ge (pc := 36) cx 48 dX8_rainIn_36 rfl (by omega) (fun c36 => ?_) (fun c36 => ?_)
          · refine v_iinc (pc := 48) cx ga3 (sa3 rfl) dX8_rainIn_48 ?_
            refine v_goto (pc := 51) cx 4 dX8_rainIn_51 rfl ?_
            have e : rainTo b l r t (k + 1) = rainTo b l r t k := by simp only [rainTo]; rw [if_neg (by omega)]; omega
            rw [← e]
            exact ih (k + 1) (by omega) (by omega)
          · refine v_iload_n (pc := 39) cx rfl ga2 dX8_rainIn_39 ?_
            refine v_aload_n (pc := 40) cx rfl ga0 dX8_rainIn_40 ?_
            refine v_getfield (pc := 41) cx flX8_18 (by assumption) gf2 dX8_rainIn_41 ?_
            refine v_iload_n (pc := 44) cx rfl ga3 dX8_rainIn_44 ?_
            refine v_iaload (pc := 45) cx (k) (by assumption) (by omega) dX8_rainIn_45 ?_
            refine v_iadd (pc := 46) cx dX8_rainIn_46 ?_
            refine v_istore_n (pc := 47) cx rfl (sa2 rfl) dX8_rainIn_47 ?_
            refine v_iinc (pc := 48) cx ga3 (sa3 rfl) dX8_rainIn_48 ?_
            refine v_goto (pc := 51) cx 4 dX8_rainIn_51 rfl ?_
            have e : rainTo b l r t (k + 1) = rainTo b l r t k + r k := by simp only [rainTo]; rw [if_pos (by omega)]
            rw [← e]
            exact ih (k + 1) (by omega) (by omega)
  refine v_iconst (pc := 0) cx dX8_rainIn_0 ?_
  refine v_istore_n (pc := 1) cx rfl (sa2 rfl) dX8_rainIn_1 ?_
  refine v_iconst (pc := 2) cx dX8_rainIn_2 ?_
  refine v_istore_n (pc := 3) cx rfl (sa3 rfl) dX8_rainIn_3 ?_
  exact loop (m + 1) 0 (Nat.zero_le _) (by omega)
