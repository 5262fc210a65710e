/-! the text, and what it says -/
def rTx (G : Gc) (E : Wd) (o : Nat) (n : Nat) (ch : Nat → Int) : Prop :=
  E o = some (.inr (10, [.ref (gb G + (o + 1)), .int (iI (n : Int))])) ∧ E (o + 1) = some (AC G 100 ch)
theorem rTx.out {G : Gc} {E E' : Wd} {o n : Nat} {ch : Nat → Int} {x y : Nat} (h : rTx G E o n ch) (hE : Out E E' x y) (hxy : o + 2 ≤ x ∨ y ≤ o) : rTx G E' o n ch :=
  ⟨(hE _ (by omega)).trans h.1, (hE _ (by omega)).trans h.2⟩
/-- the sign at a place, 0 behind the end -/
def chr (tx : List Int) (p : Nat) : Int := tx.getD p 0
def okTx (tx : List Int) : Prop := tx.length ≤ 100 ∧ ∀ c ∈ tx, 32 ≤ c ∧ c ≤ 126
def isTx (G : Gc) (E : Wd) (o : Nat) (tx : List Int) : Prop := ∃ ch, rTx G E o tx.length ch ∧ ∀ j, j < tx.length → ch j = chr tx j
theorem isTx.out {G : Gc} {E E' : Wd} {o : Nat} {tx : List Int} {x y : Nat} (h : isTx G E o tx) (hE : Out E E' x y) (hxy : o + 2 ≤ x ∨ y ≤ o) : isTx G E' o tx := by
  obtain ⟨ch, h1, h2⟩ := h
  exact ⟨ch, h1.out hE hxy, h2⟩
theorem isTx.obj {G : Gc} {E : Wd} {o : Nat} {tx : List Int} (h : isTx G E o tx) : ∃ fs, E o = some (.inr (10, fs)) := by
  obtain ⟨ch, h1, h2⟩ := h
  exact ⟨_, h1.1⟩
theorem chr_out {tx : List Int} {p : Nat} (h : tx.length ≤ p) : chr tx p = 0 := by
  unfold chr
  rw [List.getD_eq_getElem?_getD, List.getElem?_eq_none h]
  rfl
theorem chr_bd {tx : List Int} (h : okTx tx) (p : Nat) : chr tx p = 0 ∨ (32 ≤ chr tx p ∧ chr tx p ≤ 126) := by
  by_cases hp : p < tx.length
  · right
    have : chr tx p = tx[p] := by
      unfold chr
      rw [List.getD_eq_getElem?_getD, List.getElem?_eq_getElem hp]
      rfl
    rw [this]
    exact h.2 _ (List.getElem_mem hp)
  · left
    exact chr_out (by omega)
theorem nar_char {x : Int} (h : 0 ≤ x ∧ x < 65536) : narrow .char (.int (iI x)) = .int (iI x) := by
  obtain ⟨k, rfl⟩ := Int.eq_ofNat_of_zero_le h.1
  rw [iI_nI]
  exact (pk_charN (by omega)).1
set_option maxRecDepth 100000 in
set_option maxHeartbeats 4000000 in
theorem c_Tx_append (lc : Launch) (G : Gc) (E : Wd) (nh : Nat) {o : Nat} {c : Int} {tx : List Int} (h : isTx G E o tx) (hn : tx.length < 100) (hc : 32 ≤ c ∧ c ≤ 126) : CV lc G 0 yX10_append cX10_append 2 [.ref (gb G + o), .int (iI c)] E nh 0 0 (fun E' => isTx G E' o (tx ++ [c]) ∧ Out E E' o (o + 2)) := by
  refine CV.mk (by decide +kernel) rfl (Nat.le_of_ble_eq_true rfl) ?_
  intro X hG hL cx hR hI hini
  subst hG; subst hL
  show V X E (nh, 0, 0) 0 [some (.ref (gb (fG X) + o)), some (.int (iI c))] []
  obtain ⟨ch, ⟨h0, h1⟩, h2⟩ := h
  have hFr : Out E E o (o + 2) := fun j hj => rfl
  refine v_aload_n (pc := 0) cx rfl ga0 dX10_append_0 ?_
  refine v_getfield (pc := 1) cx flX10_15 (by assumption) gf1 dX10_append_1 ?_
  refine v_bipush (pc := 4) cx (by decide) dX10_append_4 ?_
  refine v_icmp_ge (pc := 6) cx 29 dX10_append_6 rfl (by omega) (fun c6 => ?_) (fun c6 => ?_)
  · omega
  · refine v_aload_n (pc := 9) cx rfl ga0 dX10_append_9 ?_
    refine v_getfield (pc := 10) cx flX10_9 (by assumption) gf0 dX10_append_10 ?_
    refine v_aload_n (pc := 13) cx rfl ga0 dX10_append_13 ?_
    refine v_getfield (pc := 14) cx flX10_15 (by assumption) gf1 dX10_append_14 ?_
    refine v_iload_n (pc := 17) cx rfl ga1 dX10_append_17 ?_
    refine v_castore (pc := 18) cx (tx.length) h1 (by omega) (nar_char (by omega)) dX10_append_18 (fun E18 hE18 hF18 => ?_)
    replace h0 := (hF18 _ (by omega)).trans h0
    replace h1 := hE18
    replace hFr := fun j hj => (hF18 j (by omega)).trans (hFr j hj)
    refine v_aload_n (pc := 19) cx rfl ga0 dX10_append_19 ?_
    refine v_dup (pc := 20) cx rfl dX10_append_20 ?_
    refine v_getfield (pc := 21) cx flX10_15 (by assumption) gf1 dX10_append_21 ?_
    refine v_iconst (pc := 24) cx dX10_append_24 ?_
    refine v_iadd (pc := 25) cx dX10_append_25 ?_
    refine v_putfield (pc := 26) cx fpX10_15 h0 ⟨rfl, rfl⟩ pf1 dX10_append_26 (fun E26 hE26 hF26 => ?_)
    replace h0 := hE26
    replace h1 := (hF26 _ (by omega)).trans h1
    replace hFr := fun j hj => (hF26 j (by omega)).trans (hFr j hj)
    refine v_return (pc := 29) cx hI ?_ dX10_append_29
    refine ⟨⟨_, ⟨?_, h1⟩, fun j hj => ?_⟩, hFr⟩
    · rw [List.length_append, List.length_singleton]
      exact h0
    · rw [List.length_append, List.length_singleton] at hj
      unfold chr
      rw [List.getD_eq_getElem?_getD]
      by_cases e : j = tx.length
      · subst e
        rw [upI_s, List.getElem?_append_right (Nat.le_refl _)]
        simp
      · rw [upI_n e, List.getElem?_append_left (by omega), h2 j (by omega)]
        unfold chr
        rw [List.getD_eq_getElem?_getD]
set_option maxRecDepth 100000 in
set_option maxHeartbeats 4000000 in
theorem c_Tx_characterAt (lc : Launch) (G : Gc) (E : Wd) (nh : Nat) {o p : Nat} {tx : List Int} (h : isTx G E o tx) (hx : okTx tx) (hp : p < 1000) : CI lc G 0 yX10_characterAt cX10_characterAt 2 .char [.ref (gb G + o), .int (iI (p : Int))] E nh 0 0 (fun v E' => v = chr tx p ∧ E' = E) := by
  refine CI.mk (by decide +kernel) rfl (Nat.le_of_ble_eq_true rfl) ?_
  intro X hG hL cx hR hI
  subst hG; subst hL
  show V X E (nh, 0, 0) 0 [some (.ref (gb (fG X) + o)), some (.int (iI (p : Int)))] []
  obtain ⟨ch, ⟨h0, h1⟩, h2⟩ := h
  have hl := hx.1
  have hb := chr_bd hx p
  refine v_iload_n (pc := 0) cx rfl ga1 dX10_characterAt_0 ?_
  refine v_if_lt (pc := 1) cx 21 dX10_characterAt_1 rfl (by omega) (fun c1 => ?_) (fun c1 => ?_)
  · omega
  · refine v_iload_n (pc := 4) cx rfl ga1 dX10_characterAt_4 ?_
    refine v_aload_n (pc := 5) cx rfl ga0 dX10_characterAt_5 ?_
    refine v_getfield (pc := 6) cx flX10_15 (by assumption) gf1 dX10_characterAt_6 ?_
    refine v_icmp_ge (pc := 9) cx 21 dX10_characterAt_9 rfl (by omega) (fun c9 => ?_) (fun c9 => ?_)
    · refine v_iconst (pc := 21) cx dX10_characterAt_21 ?_
      refine v_ireturn (pc := 22) cx hI rfl ?_ dX10_characterAt_22
      exact ⟨(chr_out (by omega)).symm, rfl⟩
    · refine v_aload_n (pc := 12) cx rfl ga0 dX10_characterAt_12 ?_
      refine v_getfield (pc := 13) cx flX10_9 (by assumption) gf0 dX10_characterAt_13 ?_
      refine v_iload_n (pc := 16) cx rfl ga1 dX10_characterAt_16 ?_
      refine v_caload (pc := 17) cx (p) (by assumption) (by omega) dX10_characterAt_17 ?_
      refine v_goto (pc := 18) cx 22 dX10_characterAt_18 rfl ?_
      rw [h2 p (by omega)]
      refine v_ireturn (pc := 22) cx hI (nar_char (by omega)) ?_ dX10_characterAt_22
      exact ⟨rfl, rfl⟩
set_option maxRecDepth 100000 in
set_option maxHeartbeats 4000000 in
theorem c_Tx_hasDigitAt (lc : Launch) (G : Gc) (E : Wd) (nh : Nat) {o p : Nat} {tx : List Int} (h : isTx G E o tx) (hx : okTx tx) (hp : p < 1000) : CI lc G 1 yX10_hasDigitAt cX10_hasDigitAt 3 .boolean [.ref (gb G + o), .int (iI (p : Int))] E nh 0 0 (fun v E' => ((v = 1 ∧ 48 ≤ chr tx p ∧ chr tx p ≤ 57) ∨ (v = 0 ∧ ¬ (48 ≤ chr tx p ∧ chr tx p ≤ 57))) ∧ E' = E) := by
  refine CI.mk (by decide +kernel) rfl (Nat.le_of_ble_eq_true rfl) ?_
  intro X hG hL cx hR hI
  subst hG; subst hL
  show V X E (nh, 0, 0) 0 [some (.ref (gb (fG X) + o)), some (.int (iI (p : Int))), none] []
  have hb := chr_bd hx p
  obtain ⟨fs, hfs⟩ := h.obj
  refine v_aload_n (pc := 0) cx rfl ga0 dX10_hasDigitAt_0 ?_
  refine v_iload_n (pc := 1) cx rfl ga1 dX10_hasDigitAt_1 ?_
  refine v_callVI (pc := 2) cx hR (c_Tx_characterAt _ _ _ _ h hx hp) mlX10_19 (by decide) (by assumption) rfl rfl rfl (Nat.le_of_ble_eq_true rfl) ⟨Nat.le_refl _, Nat.le_refl _⟩ dX10_hasDigitAt_2 (fun v2 E2 hP => ?_)
  obtain ⟨rfl, rfl⟩ := hP
  refine v_istore_n (pc := 5) cx rfl (sa2 rfl) dX10_hasDigitAt_5 ?_
  refine v_iload_n (pc := 6) cx rfl ga2 dX10_hasDigitAt_6 ?_
  refine v_bipush (pc := 7) cx (by decide) dX10_hasDigitAt_7 ?_
  refine v_icmp_lt (pc := 9) cx 22 dX10_hasDigitAt_9 rfl (by omega) (fun c9 => ?_) (fun c9 => ?_)
  · refine v_iconst (pc := 22) cx dX10_hasDigitAt_22 ?_
    refine v_ireturn (pc := 23) cx hI rfl ?_ dX10_hasDigitAt_23
    exact ⟨Or.inr ⟨rfl, by omega⟩, rfl⟩
  · refine v_iload_n (pc := 12) cx rfl ga2 dX10_hasDigitAt_12 ?_
    refine v_bipush (pc := 13) cx (by decide) dX10_hasDigitAt_13 ?_
    refine v_icmp_gt (pc := 15) cx 22 dX10_hasDigitAt_15 rfl (by omega) (fun c15 => ?_) (fun c15 => ?_)
    · refine v_iconst (pc := 22) cx dX10_hasDigitAt_22 ?_
      refine v_ireturn (pc := 23) cx hI rfl ?_ dX10_hasDigitAt_23
      exact ⟨Or.inr ⟨rfl, by omega⟩, rfl⟩
    · refine v_iconst (pc := 18) cx dX10_hasDigitAt_18 ?_
      refine v_goto (pc := 19) cx 23 dX10_hasDigitAt_19 rfl ?_
      refine v_ireturn (pc := 23) cx hI rfl ?_ dX10_hasDigitAt_23
      exact ⟨Or.inl ⟨rfl, by omega⟩, rfl⟩
def dgs (tx : List Int) : Nat → Nat → Nat
  | 0, _ => 0
  | k + 1, p => if 48 ≤ chr tx p ∧ chr tx p ≤ 57 then dgs tx k (p + 1) + 1 else 0
def nval (tx : List Int) (p : Nat) : Nat → Int
  | 0 => 0
  | k + 1 => 10 * nval tx p k + (chr tx (p + k) - 48)
def tkRe (tx : List Int) (p : Nat) (sg : Int) : Int := if dgs tx 4 p = 0 then 1 else if chr tx (p + dgs tx 4 p) = sg then 0 else 2
def nx (tx : List Int) (p : Nat) : Nat := p + dgs tx 4 p + 1
def nv (tx : List Int) (p : Nat) : Int := nval tx p (dgs tx 4 p)
theorem dgs_le (tx : List Int) : ∀ k p, dgs tx k p ≤ k := by
  intro k
  induction k with
  | zero => intro p; exact Nat.le_refl _
  | succ k ih =>
    intro p
    simp only [dgs]
    split
    · have := ih (p + 1); omega
    · omega
theorem dgs_all (tx : List Int) : ∀ k p j, j < dgs tx k p → 48 ≤ chr tx (p + j) ∧ chr tx (p + j) ≤ 57 := by
  intro k
  induction k with
  | zero => intro p j hj; simp [dgs] at hj
  | succ k ih =>
    intro p j hj
    simp only [dgs] at hj
    split at hj
    · rename_i h
      cases j with
      | zero => exact h
      | succ j =>
        have := ih (p + 1) j (by omega)
        rw [show p + (j + 1) = p + 1 + j by omega]
        exact this
    · omega
theorem nval_bd (tx : List Int) (p : Nat) : ∀ k, (∀ j, j < k → 48 ≤ chr tx (p + j) ∧ chr tx (p + j) ≤ 57) → 0 ≤ nval tx p k ∧ nval tx p k < 10 ^ k := by
  intro k
  induction k with
  | zero => intro _; simp [nval]
  | succ k ih =>
    intro h
    have h1 := ih (fun j hj => h j (by omega))
    have h2 := h k (by omega)
    simp only [nval]
    rw [Int.pow_succ]
    generalize (10 : Int) ^ k = w at *
    omega
theorem nv_bd (tx : List Int) (p : Nat) : 0 ≤ nv tx p ∧ nv tx p ≤ 9999 := by
  have h := nval_bd tx p (dgs tx 4 p) (fun j hj => dgs_all tx 4 p j hj)
  have h2 := dgs_le tx 4 p
  unfold nv
  have : dgs tx 4 p = 0 ∨ dgs tx 4 p = 1 ∨ dgs tx 4 p = 2 ∨ dgs tx 4 p = 3 ∨ dgs tx 4 p = 4 := by omega
  rcases this with e | e | e | e | e <;> rw [e] at h ⊢ <;> simp at h <;> omega
def rRd (G : Gc) (E : Wd) (o : Nat) (sz pos rea nxt : Int) (b l r : Nat → Int) : Prop :=
  E o = some (.inr (7, [.ref (gb G + (o + 1)), .ref (gb G + (o + 2)), .ref (gb G + (o + 3)), .int (iI sz), .int (iI pos), .int (iI rea), .int (iI nxt)])) ∧ E (o + 1) = some (AI G 12 b) ∧ E (o + 2) = some (AI G 12 l) ∧ E (o + 3) = some (AI G 12 r)
theorem rRd.out {G : Gc} {E E' : Wd} {o : Nat} {sz pos rea nxt : Int} {b l r : Nat → Int} {x y : Nat} (h : rRd G E o sz pos rea nxt b l r) (hE : Out E E' x y) (hxy : o + 4 ≤ x ∨ y ≤ o) : rRd G E' o sz pos rea nxt b l r :=
  ⟨(hE _ (by omega)).trans h.1, (hE _ (by omega)).trans h.2.1, (hE _ (by omega)).trans h.2.2.1, (hE _ (by omega)).trans h.2.2.2⟩
set_option maxRecDepth 100000 in
set_option maxHeartbeats 4000000 in
theorem c_Rd_skip (lc : Launch) (G : Gc) (E : Wd) (nh : Nat) {o ot : Nat} {sz pos rea nxt sg : Int} {b l r : Nat → Int} (h : rRd G E o sz pos rea nxt b l r) (hr : rea ≠ 0 ∧ 0 ≤ rea ∧ rea ≤ 4) : CI lc G 2 yX7_readNumber cX7_readNumber 5 .int [.ref (gb G + o), .ref (gb G + ot), .int (iI sg)] E nh 0 0 (fun v E' => v = 0 ∧ E' = E) := by
  refine CI.mk (by decide +kernel) rfl (Nat.le_of_ble_eq_true rfl) ?_
  intro X hG hL cx hR hI
  subst hG; subst hL
  show V X E (nh, 0, 0) 0 [some (.ref (gb (fG X) + o)), some (.ref (gb (fG X) + ot)), some (.int (iI sg)), none, none] []
  obtain ⟨h0, h1, h2, h3⟩ := h
  refine v_aload_n (pc := 0) cx rfl ga0 dX7_readNumber_0 ?_
  refine v_getfield (pc := 1) cx flX7_28 (by assumption) gf5 dX7_readNumber_1 ?_
  refine v_if_eq (pc := 4) cx 9 dX7_readNumber_4 rfl (by omega) (fun c4 => ?_) (fun c4 => ?_)
  · omega
  · refine v_iconst (pc := 7) cx dX7_readNumber_7 ?_
    refine v_ireturn (pc := 8) cx hI rfl ?_ dX7_readNumber_8
    exact ⟨rfl, rfl⟩
set_option maxRecDepth 100000 in
set_option maxHeartbeats 4000000 in
theorem c_Rd_number (lc : Launch) (G : Gc) (E : Wd) (nh : Nat) {o ot p : Nat} {sz pos sg : Int} {b l r : Nat → Int} {tx : List Int} (h : rRd G E o sz pos 0 (p : Int) b l r) (ht : isTx G E ot tx) (hx : okTx tx) (hd : ot + 2 ≤ o ∨ o + 4 ≤ ot) (hp : p < 500) (hsg : 0 ≤ sg ∧ sg ≤ 200) : CI lc G 2 yX7_readNumber cX7_readNumber 5 .int [.ref (gb G + o), .ref (gb G + ot), .int (iI sg)] E nh 0 0 (fun v E' => v = nv tx p ∧ rRd G E' o sz pos (tkRe tx p sg) (nx tx p : Int) b l r ∧ Out E E' o (o + 1)) := by
  refine CI.mk (by decide +kernel) rfl (Nat.le_of_ble_eq_true rfl) ?_
  intro X hG hL cx hR hI
  subst hG; subst hL
  show V X E (nh, 0, 0) 0 [some (.ref (gb (fG X) + o)), some (.ref (gb (fG X) + ot)), some (.int (iI sg)), none, none] []
  have hdl := dgs_le tx 4 p
  have fin : ∀ (E' : Wd) (re : Int) (lw : Option Value), re = tkRe tx p sg → rRd (fG X) E' o sz pos re ((p + dgs tx 4 p : Nat) : Int) b l r → Out E E' o (o + 1) → V X E' (nh, 0, 0) 94 [some (.ref (gb (fG X) + o)), some (.ref (gb (fG X) + ot)), some (.int (iI sg)), some (.int (iI (nv tx p))), lw] [] := by
    intro E' re lw hre h hFr
    subst hre
    obtain ⟨h0, h1, h2, h3⟩ := h
    refine v_aload_n (pc := 94) cx rfl ga0 dX7_readNumber_94 ?_
    refine v_dup (pc := 95) cx rfl dX7_readNumber_95 ?_
    refine v_getfield (pc := 96) cx flX7_25 (by assumption) gf6 dX7_readNumber_96 ?_
    refine v_iconst (pc := 99) cx dX7_readNumber_99 ?_
    refine v_iadd (pc := 100) cx dX7_readNumber_100 ?_
    refine v_putfield (pc := 101) cx fpX7_25 h0 ⟨rfl, rfl⟩ pf6 dX7_readNumber_101 (fun E101 hE101 hF101 => ?_)
    replace h0 := hE101
    replace h1 := (hF101 _ (by omega)).trans h1
    replace h2 := (hF101 _ (by omega)).trans h2
    replace h3 := (hF101 _ (by omega)).trans h3
    replace hFr := fun j hj => (hF101 j (by omega)).trans (hFr j hj)
    refine v_iload_n (pc := 104) cx rfl ga3 dX7_readNumber_104 ?_
    refine v_ireturn (pc := 105) cx hI rfl ?_ dX7_readNumber_105
    exact ⟨rfl, ⟨h0, h1, h2, h3⟩, hFr⟩
  have fin0 : ∀ (E' : Wd) (k : Nat), k = dgs tx 4 p → rRd (fG X) E' o sz pos 0 ((p + k : Nat) : Int) b l r → Out E E' o (o + 1) → V X E' (nh, 0, 0) 64 [some (.ref (gb (fG X) + o)), some (.ref (gb (fG X) + ot)), some (.int (iI sg)), some (.int (iI (nval tx p k))), some (.int (iI (k : Int)))] [] := by
    intro E' k hk h hFr
    subst hk
    have ht' := ht.out hFr (by omega)
    obtain ⟨fs, hfs⟩ := ht'.obj
    obtain ⟨h0, h1, h2, h3⟩ := h
    refine v_iload (pc := 64) cx ga4 dX7_readNumber_64 ?_
    refine v_if_ne (pc := 66) cx 77 dX7_readNumber_66 rfl (by omega) (fun c66 => ?_) (fun c66 => ?_)
    · refine v_aload_n (pc := 77) cx rfl ga1 dX7_readNumber_77 ?_
      refine v_aload_n (pc := 78) cx rfl ga0 dX7_readNumber_78 ?_
      refine v_getfield (pc := 79) cx flX7_25 (by assumption) gf6 dX7_readNumber_79 ?_
      refine v_callVI (pc := 82) cx hR (c_Tx_characterAt _ _ _ _ ht' hx (by omega)) mlX7_55 (by decide) (by assumption) rfl rfl rfl (Nat.le_of_ble_eq_true rfl) ⟨Nat.le_refl _, Nat.le_refl _⟩ dX7_readNumber_82 (fun v2 E2 hP => ?_)
      obtain ⟨rfl, rfl⟩ := hP
      have hb := chr_bd hx (p + dgs tx 4 p)
      refine v_iload_n (pc := 85) cx rfl ga2 dX7_readNumber_85 ?_
      refine v_icmp_eq (pc := 86) cx 94 dX7_readNumber_86 rfl (by omega) (fun c86 => ?_) (fun c86 => ?_)
      · refine fin _ 0 _ ?_ ⟨h0, h1, h2, h3⟩ hFr
        unfold tkRe
        rw [if_neg (by omega), if_pos (by assumption)]
      · refine v_aload_n (pc := 89) cx rfl ga0 dX7_readNumber_89 ?_
        refine v_iconst (pc := 90) cx dX7_readNumber_90 ?_
        refine v_putfield (pc := 91) cx fpX7_28 h0 ⟨rfl, rfl⟩ pf5 dX7_readNumber_91 (fun E91 hE91 hF91 => ?_)
        replace h0 := hE91
        replace h1 := (hF91 _ (by omega)).trans h1
        replace h2 := (hF91 _ (by omega)).trans h2
        replace h3 := (hF91 _ (by omega)).trans h3
        replace hFr := fun j hj => (hF91 j (by omega)).trans (hFr j hj)
        refine fin _ 2 _ ?_ ⟨h0, h1, h2, h3⟩ hFr
        unfold tkRe
        rw [if_neg (by omega), if_neg (by assumption)]
    · refine v_aload_n (pc := 69) cx rfl ga0 dX7_readNumber_69 ?_
      refine v_iconst (pc := 70) cx dX7_readNumber_70 ?_
      refine v_putfield (pc := 71) cx fpX7_28 h0 ⟨rfl, rfl⟩ pf5 dX7_readNumber_71 (fun E71 hE71 hF71 => ?_)
      replace h0 := hE71
      replace h1 := (hF71 _ (by omega)).trans h1
      replace h2 := (hF71 _ (by omega)).trans h2
      replace h3 := (hF71 _ (by omega)).trans h3
      replace hFr := fun j hj => (hF71 j (by omega)).trans (hFr j hj)
      refine v_goto (pc := 74) cx 94 dX7_readNumber_74 rfl ?_
      refine fin _ 1 _ ?_ ⟨h0, h1, h2, h3⟩ hFr
      unfold tkRe
      rw [if_pos (by omega)]
  have loop : ∀ (d k : Nat) (E' : Wd), k ≤ 4 → 4 - k < d → dgs tx 4 p = k + dgs tx (4 - k) (p + k) → rRd (fG X) E' o sz pos 0 ((p + k : Nat) : Int) b l r → Out E E' o (o + 1) → V X E' (nh, 0, 0) 14 [some (.ref (gb (fG X) + o)), some (.ref (gb (fG X) + ot)), some (.int (iI sg)), some (.int (iI (nval tx p k))), some (.int (iI (k : Int)))] [] := by
    intro d
    induction d with
    | zero => intro k E' hk hd; omega
    | succ d ih =>
      intro k E' hk hd2 hdg h hFr
      have ht' := ht.out hFr (by omega)
      obtain ⟨fs, hfs⟩ := ht'.obj
      obtain ⟨h0, h1, h2, h3⟩ := id h
      refine v_iload (pc := 14) cx ga4 dX7_readNumber_14 ?_
      refine v_iconst (pc := 16) cx dX7_readNumber_16 ?_
      refine v_icmp_ge (pc := 17) cx 64 dX7_readNumber_17 rfl (by omega) (fun c17 => ?_) (fun c17 => ?_)
      · have e : k = 4 := by omega
        subst e
        exact fin0 E' 4 hdg.symm h hFr
      · have e : dgs tx (4 - k) (p + k) = if 48 ≤ chr tx (p + k) ∧ chr tx (p + k) ≤ 57 then dgs tx (4 - (k + 1)) (p + (k + 1)) + 1 else 0 := by
          rw [show 4 - k = (4 - (k + 1)) + 1 by omega]
          rfl
        refine v_aload_n (pc := 20) cx rfl ga1 dX7_readNumber_20 ?_
        refine v_aload_n (pc := 21) cx rfl ga0 dX7_readNumber_21 ?_
        refine v_getfield (pc := 22) cx flX7_25 (by assumption) gf6 dX7_readNumber_22 ?_
        refine v_callVI (pc := 25) cx hR (c_Tx_hasDigitAt _ _ _ _ ht' hx (by omega)) mlX7_51 (by decide) (by assumption) rfl rfl rfl (Nat.le_of_ble_eq_true rfl) ⟨Nat.le_refl _, Nat.le_refl _⟩ dX7_readNumber_25 (fun v2 E2 hP => ?_)
        obtain ⟨hv, rfl⟩ := hP
        refine v_if_eq (pc := 28) cx 64 dX7_readNumber_28 rfl (by omega) (fun c28 => ?_) (fun c28 => ?_)
        · rcases hv with ⟨hv, -⟩ | ⟨-, hv⟩
          · omega
          · rw [if_neg hv] at e
            exact fin0 E2 k (by omega) h hFr
        · rcases hv with ⟨-, hv⟩ | ⟨hv, -⟩
          · rw [if_pos hv] at e
            refine v_bipush (pc := 31) cx (by decide) dX7_readNumber_31 ?_
            refine v_iload_n (pc := 33) cx rfl ga3 dX7_readNumber_33 ?_
            refine v_imul (pc := 34) cx dX7_readNumber_34 ?_
            refine v_aload_n (pc := 35) cx rfl ga1 dX7_readNumber_35 ?_
            refine v_aload_n (pc := 36) cx rfl ga0 dX7_readNumber_36 ?_
            refine v_getfield (pc := 37) cx flX7_25 (by assumption) gf6 dX7_readNumber_37 ?_
            refine v_callVI (pc := 40) cx hR (c_Tx_characterAt _ _ _ _ ht' hx (by omega)) mlX7_55 (by decide) (by assumption) rfl rfl rfl (Nat.le_of_ble_eq_true rfl) ⟨Nat.le_refl _, Nat.le_refl _⟩ dX7_readNumber_40 (fun v3 E3 hP => ?_)
            obtain ⟨rfl, rfl⟩ := hP
            refine v_bipush (pc := 43) cx (by decide) dX7_readNumber_43 ?_
            refine v_isub (pc := 45) cx dX7_readNumber_45 ?_
            refine v_iadd (pc := 46) cx dX7_readNumber_46 ?_
            refine v_istore_n (pc := 47) cx rfl (sa3 rfl) dX7_readNumber_47 ?_
            refine v_aload_n (pc := 48) cx rfl ga0 dX7_readNumber_48 ?_
            refine v_dup (pc := 49) cx rfl dX7_readNumber_49 ?_
            refine v_getfield (pc := 50) cx flX7_25 (by assumption) gf6 dX7_readNumber_50 ?_
            refine v_iconst (pc := 53) cx dX7_readNumber_53 ?_
            refine v_iadd (pc := 54) cx dX7_readNumber_54 ?_
            refine v_putfield (pc := 55) cx fpX7_25 h0 ⟨rfl, rfl⟩ pf6 dX7_readNumber_55 (fun E55 hE55 hF55 => ?_)
            replace h0 := hE55
            replace h1 := (hF55 _ (by omega)).trans h1
            replace h2 := (hF55 _ (by omega)).trans h2
            replace h3 := (hF55 _ (by omega)).trans h3
            replace hFr := fun j hj => (hF55 j (by omega)).trans (hFr j hj)
            refine v_iinc (pc := 58) cx ga4 (sa4 rfl) dX7_readNumber_58 ?_
            refine v_goto (pc := 61) cx 14 dX7_readNumber_61 rfl ?_
            exact ih (k + 1) _ (by omega) (by omega) (by omega) ⟨h0, h1, h2, h3⟩ hFr
          · omega
  obtain ⟨h0, h1, h2, h3⟩ := id h
  refine v_aload_n (pc := 0) cx rfl ga0 dX7_readNumber_0 ?_
  refine v_getfield (pc := 1) cx flX7_28 (by assumption) gf5 dX7_readNumber_1 ?_
  refine v_if_eq (pc := 4) cx 9 dX7_readNumber_4 rfl (by omega) (fun c4 => ?_) (fun c4 => ?_)
  · refine v_iconst (pc := 9) cx dX7_readNumber_9 ?_
    refine v_istore_n (pc := 10) cx rfl (sa3 rfl) dX7_readNumber_10 ?_
    refine v_iconst (pc := 11) cx dX7_readNumber_11 ?_
    refine v_istore (pc := 12) cx (sa4 rfl) dX7_readNumber_12 ?_
    exact loop 5 0 E (by omega) (by omega) (by simp) h (fun _ _ => rfl)
  · omega
