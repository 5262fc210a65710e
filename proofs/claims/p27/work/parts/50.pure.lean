/-! what the law asks, over the abstract state -/
def okL (L : List (Int × Int × Int)) : Prop := ∀ i j, i < j → j < L.length → k1 L i ≤ k1 L j
def okP (σ : Sg) : Prop := σ.1 2 ≤ 500 ∧ okL σ.2.1 ∧ (∀ x ∈ σ.2.1, σ.1 0 < x.1 + x.2.1) ∧ (∀ x ∈ σ.2.2.2, 0 ≤ x.2.2 ∧ x.2.2 ≤ 5000) ∧ σ.2.2.1 = [] ∧ σ.1 16 = 360
theorem k_get {L : List (Int × Int × Int)} {i : Nat} (h : i < L.length) : k1 L i = L[i].1 ∧ k2 L i = L[i].2.1 ∧ k3 L i = L[i].2.2 := by
  unfold k1 k2 k3
  rw [List.getD_eq_getElem?_getD, List.getElem?_eq_getElem h]
  exact ⟨rfl, rfl, rfl⟩
theorem k_mem {L : List (Int × Int × Int)} {i : Nat} (h : i < L.length) : (k1 L i, k2 L i, k3 L i) ∈ L := by
  obtain ⟨a, b, c⟩ := k_get h
  rw [a, b, c]
  exact List.getElem_mem h
theorem okL_pw {L : List (Int × Int × Int)} : okL L ↔ L.Pairwise (fun x y => x.1 ≤ y.1) := by
  rw [List.pairwise_iff_getElem]
  constructor
  · intro h i j hi hj hij
    have := h i j hij hj
    rw [(k_get hi).1, (k_get hj).1] at this
    exact this
  · intro h i j hij hj
    have hi : i < L.length := by omega
    rw [(k_get hi).1, (k_get hj).1]
    exact h i j hi hj hij
theorem okL_filter {L : List (Int × Int × Int)} (p : Int × Int × Int → Bool) (h : okL L) : okL (L.filter p) := okL_pw.mpr (List.Pairwise.filter p (okL_pw.mp h))
theorem insP_spec {b : Nat → Int} {x : Int} : ∀ m, (∀ j, insP b x m ≤ j → j < m → x < b j) ∧ (0 < insP b x m → b (insP b x m - 1) ≤ x) := by
  intro m
  induction m with
  | zero => exact ⟨fun j h1 h2 => by omega, fun h => by simp [insP] at h⟩
  | succ m ih =>
    simp only [insP]
    split
    · rename_i c
      refine ⟨fun j h1 h2 => ?_, ih.2⟩
      by_cases e : j = m
      · subst e; exact c
      · exact ih.1 j h1 (by omega)
    · rename_i c
      exact ⟨fun j h1 h2 => by omega, fun _ => by rw [Nat.add_sub_cancel]; omega⟩
theorem k1_ins {L : List (Int × Int × Int)} {x : Int × Int × Int} {j : Nat} (hj : j < L.length + 1) : k1 (insL L x) j = insF (k1 L) (insI L x.1) L.length x.1 j := (k_lst hj).1
theorem k3_ins {L : List (Int × Int × Int)} {x : Int × Int × Int} {j : Nat} (hj : j < L.length + 1) : k3 (insL L x) j = insF (k3 L) (insI L x.1) L.length x.2.2 j := (k_lst hj).2.2
theorem okL_ins {L : List (Int × Int × Int)} {x : Int × Int × Int} (h : okL L) : okL (insL L x) := by
  intro i j hij hj
  rw [insL_len] at hj
  obtain ⟨p1, p2⟩ := insP_spec (b := k1 L) (x := x.1) L.length
  have hp := insP_le (k1 L) x.1 L.length
  rw [k1_ins (show i < L.length + 1 by omega), k1_ins hj]
  unfold insI
  generalize insP (k1 L) x.1 L.length = p at *
  unfold insF
  by_cases a1 : j < p
  · rw [if_pos (show i < p by omega), if_pos a1]; exact h i j hij (by omega)
  · rw [if_neg a1]
    by_cases a2 : j = p
    · rw [if_pos a2, if_pos (show i < p by omega)]
      have q := p2 (by omega)
      by_cases e : i = p - 1
      · rw [e]; exact q
      · have := h i (p - 1) (by omega) (by omega)
        omega
    · rw [if_neg a2, if_pos (show j ≤ L.length by omega)]
      by_cases b1 : i < p
      · rw [if_pos b1]
        by_cases e : i = j - 1
        · rw [e]; exact Int.le_refl _
        · exact h i (j - 1) (by omega) (by omega)
      · rw [if_neg b1]
        by_cases b2 : i = p
        · rw [if_pos b2]
          have := p1 (j - 1) (by omega) (by omega)
          omega
        · rw [if_neg b2, if_pos (show i ≤ L.length by omega)]
          exact h (i - 1) (j - 1) (by omega) (by omega)
theorem mem_addMk {L : List (Int × Int × Int)} {x y : Int × Int × Int} (h : x ∈ addMk L y) : x = y ∨ x ∈ L := by
  unfold addMk at h
  rcases List.mem_append.mp h with h | h
  · right
    split at h
    · exact List.mem_of_mem_tail h
    · exact h
  · left
    exact List.mem_singleton.mp h
theorem bS_c {rain d cap tt dg : Int} {B : BT} (h : B.1 ≤ 500) (hc : cap ≤ 500) : (bS rain d cap tt dg B).1 ≤ 500 := by
  unfold bS
  split
  · exact h
  · split
    · exact (by decide : (0 : Int) ≤ 500)
    · simp only
      omega
theorem bR_c {rain d cap dg : Int} {B : BT} (h : 0 ≤ B.1 ∧ B.1 ≤ 500) (hr : 0 ≤ rain ∧ rain ≤ 2400) (hc : 20 ≤ cap) (hd : 0 ≤ dg) : bR rain d cap dg B = -1 ∨ (0 ≤ bR rain d cap dg B ∧ bR rain d cap dg B ≤ 5000) := by
  have hg : 0 ≤ bGone B.1 rain d dg := by
    unfold bGone
    split <;> omega
  unfold bR
  split
  · exact Or.inl rfl
  · split
    · right; omega
    · exact Or.inl rfl
theorem okP_tick {σ : Sg} (h : ok σ) (hp : okP σ) : okP (tick σ) := by
  obtain ⟨h1, h2, h3, h4, h5⟩ := h
  obtain ⟨p1, p2, p3, p4, p5, p6⟩ := hp
  refine ⟨?_, okL_filter _ p2, fun x hx => ?_, ?_, p5, p6⟩
  · show (tkB σ.1 (tkRain σ)).1 ≤ 500
    have := h2.1
    exact bS_c p1 this.2
  · have := (List.mem_filter.mp hx).2
    show σ.1 0 + 1 < x.1 + x.2.1
    simpa using this
  · show ∀ x ∈ (if tkTip σ = -1 then σ.2.2.2 else addMk σ.2.2.2 (σ.1 0, plG σ.2.2.1 (σ.1 5) (σ.1 16), tkTip σ)), 0 ≤ x.2.2 ∧ x.2.2 ≤ 5000
    split
    · exact p4
    · rename_i c
      intro x hx
      rcases mem_addMk hx with rfl | hx
      · show 0 ≤ tkTip σ ∧ tkTip σ ≤ 5000
        have hr := tkRain_bd (σ := σ) ⟨h1, h2, h3, h4, h5⟩
        have f1 := fT_bd (cap := σ.1 13) (c := σ.1 1) hr.1
        have : tkTip σ = -1 ∨ (0 ≤ tkTip σ ∧ tkTip σ ≤ 5000) := bR_c (B := (σ.1 2, σ.1 3, σ.1 7, σ.1 8, σ.1 9, 0)) ⟨h1.2.2.1, p1⟩ (by omega) h2.1.1 h2.2.2.2.2.1.1
        omega
      · exact p4 x hx
theorem okP_ticks {σ : Sg} (h : ok σ) (hp : okP σ) : ∀ k : Nat, σ.1 0 + k ≤ 5000 → okP (ticks σ k) := by
  intro k
  induction k with
  | zero => intro _; exact hp
  | succ k ih =>
    intro hk
    exact okP_tick (ok_ticks h k (by omega)) (ih (by omega))
theorem okP_add {Ψ : Fs} {b l r : Int} (h : okP Ψ.1) : okP (sAdd Ψ b l r).1 := by
  unfold sAdd
  split
  · exact h
  · split
    · exact h
    · obtain ⟨p1, p2, p3, p4, p5, p6⟩ := h
      refine ⟨p1, okL_ins p2, fun x hx => ?_, p4, p5, p6⟩
      show Ψ.1.1 0 < x.1 + x.2.1
      rcases insL_mem x hx with rfl | hx
      · simp only; omega
      · exact p3 x hx
theorem sSet_get {Ψ : Fs} {w x : Int} {j : Nat} (h : j ≠ 11 + w.toNat) : (sSet Ψ w x).1.1 j = Ψ.1.1 j := by
  unfold sSet
  split
  · rfl
  · exact upI_n h
theorem sSet_2 {Ψ : Fs} {w x : Int} : (sSet Ψ w x).1.2 = Ψ.1.2 := by
  unfold sSet
  split <;> rfl
theorem sSet_in {Ψ : Fs} {w x : Int} (h : ¬ (¬ (0 ≤ w ∧ w ≤ 7) ∨ ¬ (tbV 0 w.toNat ≤ x ∧ x ≤ tbV 1 w.toNat))) : vSet Ψ w x = Ψ.1.1 (11 + w.toNat) ∧ (sSet Ψ w x).1.1 (11 + w.toNat) = x ∧ 0 < (sSet Ψ w x).2.1.length := by
  unfold vSet sSet
  rw [if_neg h, if_neg h]
  refine ⟨rfl, upI_s, ?_⟩
  show 0 < (keepH Ψ.2.1 Ψ.1).length
  unfold keepH
  rw [List.length_append, List.length_singleton]
  omega
theorem okP_set {Ψ : Fs} {w x : Int} (hw : 0 ≤ w) (hw5 : w ≠ 5) (h : okP Ψ.1) : okP (sSet Ψ w x).1 := by
  obtain ⟨p1, p2, p3, p4, p5, p6⟩ := h
  refine ⟨?_, ?_, ?_, ?_, ?_, ?_⟩
  · rw [sSet_get (by omega)]; exact p1
  · rw [sSet_2]; exact p2
  · rw [sSet_2, sSet_get (by omega)]; exact p3
  · rw [sSet_2]; exact p4
  · rw [sSet_2]; exact p5
  · rw [sSet_get (by omega)]; exact p6
theorem okP_win {Ψ : Fs} (h : okP Ψ.1) : okP (sWin Ψ).1 := by
  obtain ⟨p1, p2, p3, p4, p5, p6⟩ := h
  refine ⟨?_, p2, ?_, p4, p5, ?_⟩
  · show upI Ψ.1.1 4 (Ψ.1.1 17) 2 ≤ 500
    rw [upI_n (by decide)]; exact p1
  · show ∀ x ∈ Ψ.1.2.1, upI Ψ.1.1 4 (Ψ.1.1 17) 0 < x.1 + x.2.1
    rw [upI_n (by decide)]; exact p3
  · show upI Ψ.1.1 4 (Ψ.1.1 17) 16 = 360
    rw [upI_n (by decide)]; exact p6
theorem okP_σ0 : okP σ0 := ⟨by decide, fun i j _ h => absurd h (Nat.not_lt_zero _), (fun x hx => by cases hx), (fun x hx => by cases hx), rfl, rfl⟩
/-! ticks in two parts -/
theorem ticks_add {σ : Sg} (a : Nat) : ∀ b, ticks (ticks σ a) b = ticks σ (a + b) := by
  intro b
  induction b with
  | zero => rfl
  | succ b ih => show tick (ticks (ticks σ a) b) = tick (ticks σ (a + b)); rw [ih]
theorem tips_add {σ : Sg} (a : Nat) : ∀ b, tips σ a + tips (ticks σ a) b = tips σ (a + b) := by
  intro b
  induction b with
  | zero => rfl
  | succ b ih =>
    show tips σ a + (tips (ticks σ a) b + if tkTip (ticks (ticks σ a) b) = -1 then 0 else 1) = tips σ (a + b) + if tkTip (ticks σ (a + b)) = -1 then 0 else 1
    rw [ticks_add, ← ih]
    omega
theorem run_in {Ψ : Fs} {k : Nat} (h1 : 1 ≤ k ∧ k ≤ 1000) (h2 : Ψ.1.1 0 + k ≤ 5000) : vRun Ψ k = tips Ψ.1 k ∧ sRun Ψ k = (ticks Ψ.1 k, keepH Ψ.2.1 Ψ.1, Ψ.2.2) := by
  have e : eTk Ψ k = 0 := by
    unfold eTk
    rw [if_neg (by omega), if_neg (by omega)]
  unfold vRun sRun
  rw [if_pos e, if_pos e, Int.toNat_natCast]
  exact ⟨rfl, rfl⟩
theorem keepH_pos {hs : List Sg} {σ : Sg} : 0 < (keepH hs σ).length := by
  unfold keepH
  rw [List.length_append, List.length_singleton]
  omega
theorem und_keep {σ σ' : Sg} {hs : List Sg} {tx : List Int} : sUnd (σ', keepH hs σ, tx) = (σ, (keepH hs σ).dropLast, tx) := by
  unfold sUnd keepH
  simp
theorem vUnd_pos {Ψ : Fs} (h : 0 < Ψ.2.1.length) : vUnd Ψ = (Ψ.2.1.length : Int) - 1 := by
  unfold vUnd
  rw [if_neg (by omega)]
/-! what goes by in ticks -/
theorem tick_ac {σ : Sg} (h : ok σ) : σ.1 8 ≤ (tick σ).1 8 ∧ σ.1 9 ≤ (tick σ).1 9 ∧ (tick σ).1 2 + (tick σ).1 8 + (tick σ).1 9 ≤ σ.1 2 + σ.1 8 + σ.1 9 + 2400 := by
  have hr := tkRain_bd h
  obtain ⟨h1, h2, h3, h4, h5⟩ := h
  have f1 := fT_bd (cap := σ.1 13) (c := σ.1 1) hr.1
  have hb := bS_bd (rain := tkRain σ - fTaken (tkRain σ) (σ.1 13) (σ.1 1)) (d := if tkRain σ = 0 then 1 else 0) (cap := σ.1 11) (tt := σ.1 12) (dg := σ.1 15) (B := (σ.1 2, σ.1 3, σ.1 7, σ.1 8, σ.1 9, 0)) (by omega) h2.2.2.2.2.1.1 h2.1.1 h2.2.1 ⟨h1.2.2.1, h1.2.2.2.1.1, h1.2.2.2.1.2⟩
  obtain ⟨-, -, b1, b2, b3⟩ := hb
  refine ⟨b1, b2, ?_⟩
  show (tkB σ.1 (tkRain σ)).1 + (tkB σ.1 (tkRain σ)).2.2.2.1 + (tkB σ.1 (tkRain σ)).2.2.2.2.1 ≤ _
  refine Int.le_trans b3 ?_
  simp only
  omega
theorem ticks_ac {σ : Sg} (h : ok σ) : ∀ k : Nat, σ.1 0 + k ≤ 5000 → σ.1 8 ≤ (ticks σ k).1 8 ∧ σ.1 9 ≤ (ticks σ k).1 9 ∧ (ticks σ k).1 2 + (ticks σ k).1 8 + (ticks σ k).1 9 ≤ σ.1 2 + σ.1 8 + σ.1 9 + 2400 * k := by
  intro k
  induction k with
  | zero => intro _; exact ⟨Int.le_refl _, Int.le_refl _, by simp [ticks]⟩
  | succ k ih =>
    intro hk
    have a := ih (by omega)
    have b := tick_ac (ok_ticks h k (by omega))
    show σ.1 8 ≤ (tick (ticks σ k)).1 8 ∧ σ.1 9 ≤ (tick (ticks σ k)).1 9 ∧ (tick (ticks σ k)).1 2 + (tick (ticks σ k)).1 8 + (tick (ticks σ k)).1 9 ≤ _
    omega
theorem cap_same (σ : Sg) : capσ σ (σ.1 11) = σ := by
  unfold capσ
  have : upI σ.1 11 (σ.1 11) = σ.1 := by
    funext q
    by_cases e : q = 11
    · subst e; exact upI_s
    · exact upI_n e
  rw [this]
theorem srch_le {σ : Sg} {k : Nat} {most : Int} : ∀ (n : Nat) (c c1 : Int), c ≤ c1 → c1 < c + n → gnV σ k c1 ≤ most → c ≤ srch σ k most n c ∧ srch σ k most n c ≤ c1 := by
  intro n
  induction n with
  | zero => intro c c1 h1 h2; omega
  | succ n ih =>
    intro c c1 h1 h2 h3
    simp only [srch]
    split
    · exact ⟨Int.le_refl _, h1⟩
    · rename_i q
      by_cases e : c = c1
      · subst e; exact absurd h3 q
      · have := ih (c + 1) c1 (by omega) (by omega) h3
        omega
/-- what 40 ticks would lose, and the capacity for it -/
theorem cap_40 {Ψ : Fs} (hk : okX Ψ) (hp : okP Ψ.1) (h : Ψ.1.1 0 + 40 ≤ 5000) : vIfr Ψ 40 2 = (ticks Ψ.1 40).1 8 - Ψ.1.1 8 ∧ vIfr Ψ 40 3 = (ticks Ψ.1 40).1 9 - Ψ.1.1 9 ∧ (0 ≤ vIfr Ψ 40 2 ∧ 0 ≤ vIfr Ψ 40 3 ∧ vIfr Ψ 40 2 + vIfr Ψ 40 3 ≤ 100000) ∧ 20 ≤ vCap Ψ 40 (vIfr Ψ 40 2 + vIfr Ψ 40 3) ∧ vCap Ψ 40 (vIfr Ψ 40 2 + vIfr Ψ 40 3) ≤ Ψ.1.1 11 := by
  have e : eTk Ψ 40 = 0 := by
    unfold eTk
    rw [if_neg (by omega), if_neg (by omega)]
  have e2 : vIfr Ψ 40 2 = (ticks Ψ.1 40).1 8 - Ψ.1.1 8 := by
    unfold vIfr
    rw [if_neg (by omega), if_pos e, if_neg (by omega), if_pos (by omega)]
    rfl
  have e3 : vIfr Ψ 40 3 = (ticks Ψ.1 40).1 9 - Ψ.1.1 9 := by
    unfold vIfr
    rw [if_neg (by omega), if_pos e, if_neg (by omega), if_pos (by omega)]
    rfl
  have h1 := ticks_ac hk.1 40 (by omega)
  have h2 := (ok_ticks hk.1 40 (by omega)).1.2.2.1
  have h3 := hp.1
  have hg : gnV Ψ.1 40 (Ψ.1.1 11) ≤ vIfr Ψ 40 2 + vIfr Ψ 40 3 := by
    unfold gnV
    rw [cap_same, e2, e3]
    omega
  have hcap := hk.1.2.1.1
  have hs := srch_le (σ := Ψ.1) (k := 40) (most := vIfr Ψ 40 2 + vIfr Ψ 40 3) 481 20 (Ψ.1.1 11) hcap.1 (by omega) hg
  have hm : 0 ≤ vIfr Ψ 40 2 + vIfr Ψ 40 3 ∧ vIfr Ψ 40 2 + vIfr Ψ 40 3 ≤ 100000 := by
    rw [e2, e3]
    omega
  refine ⟨e2, e3, ⟨by rw [e2]; omega, by rw [e3]; omega, hm.2⟩, ?_⟩
  unfold vCap
  rw [if_neg (by omega), if_pos e]
  exact hs
/-! storms -/
theorem isPk_ex {t : Nat → Int} {f e : Nat} (h : f < e) : ∃ B : Nat, isPk t f e (B : Int) ∧ 1 ≤ B ∧ B ≤ e - f := by
  obtain ⟨B, hB, hmin⟩ := pk_least (fun B => ∀ i j : Nat, f ≤ i → i ≤ j → j < e → t j - t i < 30 → j - i + 1 ≤ B) ⟨e - f, fun i j h1 h2 h3 _ => by omega⟩
  have h1 : 1 ≤ B := by
    have := hB f f (Nat.le_refl _) (Nat.le_refl _) h (by omega)
    omega
  have hle : B ≤ e - f := Classical.byContradiction (fun q => hmin (e - f) (by omega) (fun i j h1 h2 h3 _ => by omega))
  have hn := hmin (B - 1) (by omega)
  have hex : ∃ i j : Nat, f ≤ i ∧ i ≤ j ∧ j < e ∧ t j - t i < 30 ∧ B - 1 < j - i + 1 := Classical.byContradiction (fun q => hn (fun i j a b c d => Classical.byContradiction (fun r => q ⟨i, j, a, b, c, d, by omega⟩)))
  obtain ⟨i, j, a, b, c, d, r⟩ := hex
  have hb := hB i j a b c d
  exact ⟨B, ⟨⟨i, j, a, b, c, d, by omega⟩, fun i' j' a' b' c' d' => by have := hB i' j' a' b' c' d'; omega⟩, h1, hle⟩
theorem pkV_bd {t : Nat → Int} {f e : Nat} (h : f < e) : 1 ≤ pkV t f e ∧ pkV t f e ≤ (e : Int) - f := by
  obtain ⟨B, hB, h1, h2⟩ := isPk_ex (t := t) h
  rw [← pkV_of hB]
  omega
theorem sF_0 {t : Nat → Int} {gap : Int} {n : Nat} : sF t gap n 0 = 0 := by
  unfold sF
  rw [sxN_of (f := 0) n (fun i hi => absurd hi (Nat.not_lt_zero _)) (fun i _ _ => by
    have h1 : cnt t gap 1 = 1 := by simp [cnt]
    have := cnt_le_of (t := t) (gap := gap) (show 1 ≤ i + 1 by omega)
    omega)]
  omega
theorem sF_n {t : Nat → Int} {gap : Int} {n : Nat} : sF t gap n (cnt t gap n) = n := by
  unfold sF
  rw [sxN_of (f := n) n (fun i hi _ => cnt_le_of (by omega)) (fun i h1 h2 => by omega)]
  omega
/-- how many storms -/
def nS (Ψ : Fs) : Nat := cnt (k1 Ψ.1.2.2.2) (Ψ.1.1 18) Ψ.1.2.2.2.length
/-- where a storm begins -/
def bS2 (Ψ : Fs) (k : Nat) : Nat := sF (k1 Ψ.1.2.2.2) (Ψ.1.1 18) Ψ.1.2.2.2.length k
theorem sto_in {Ψ : Fs} (hk : okX Ψ) {k : Nat} (h : k < nS Ψ) : vSto Ψ k 0 = (bS2 Ψ k : Int) ∧ vSto Ψ k 1 = (bS2 Ψ (k + 1) : Int) - bS2 Ψ k ∧ (1 ≤ vSto Ψ k 5 ∧ vSto Ψ k 5 ≤ vSto Ψ k 1) ∧ vSto Ψ k 3 = vSto Ψ k 1 * Ψ.1.1 11 ∧ (0 ≤ vSto Ψ k 3 ∧ vSto Ψ k 3 ≤ 30000) ∧ bS2 Ψ k < bS2 Ψ (k + 1) ∧ bS2 Ψ (k + 1) ≤ 60 := by
  obtain ⟨q1, q2, q3, q4⟩ := sF_at h
  have hlen := hk.1.2.2.2.2.1
  have hc : ∀ w : Int, 0 ≤ w ∧ w ≤ 5 → ¬ (¬ (0 ≤ (k : Int) ∧ (k : Int) < (cnt (k1 Ψ.1.2.2.2) (Ψ.1.1 18) Ψ.1.2.2.2.length : Int)) ∨ ¬ (0 ≤ w ∧ w ≤ 5)) := by
    intro w hw
    have : k < cnt (k1 Ψ.1.2.2.2) (Ψ.1.1 18) Ψ.1.2.2.2.length := h
    omega
  have a0 : vSto Ψ k 0 = (bS2 Ψ k : Int) := by
    unfold vSto bS2
    rw [if_neg (hc 0 (by omega)), if_pos rfl, Int.toNat_natCast]
  have a1 : vSto Ψ k 1 = (bS2 Ψ (k + 1) : Int) - bS2 Ψ k := by
    unfold vSto bS2
    rw [if_neg (hc 1 (by omega)), if_neg (by omega), if_pos rfl, Int.toNat_natCast]
  have a3 : vSto Ψ k 3 = amtV (Ψ.1.1 11) (bS2 Ψ k) (bS2 Ψ (k + 1)) := by
    unfold vSto bS2
    rw [if_neg (hc 3 (by omega)), if_neg (by omega), if_neg (by omega), if_neg (by omega), if_pos rfl, Int.toNat_natCast]
  have a5 : vSto Ψ k 5 = pkV (k1 Ψ.1.2.2.2) (bS2 Ψ k) (bS2 Ψ (k + 1)) := by
    unfold vSto bS2
    rw [if_neg (hc 5 (by omega)), if_neg (by omega), if_neg (by omega), if_neg (by omega), if_neg (by omega), if_neg (by omega), Int.toNat_natCast]
  have q1' : bS2 Ψ k < bS2 Ψ (k + 1) := q1
  have q2' : bS2 Ψ (k + 1) ≤ Ψ.1.2.2.2.length := q2
  have hp := pkV_bd (t := k1 Ψ.1.2.2.2) q1'
  have hcap := hk.1.2.1.1
  have hm : vSto Ψ k 3 = vSto Ψ k 1 * Ψ.1.1 11 := by rw [a3, a1]; rfl
  have hlo : 0 ≤ vSto Ψ k 1 * Ψ.1.1 11 := Int.mul_nonneg (by omega) (by omega)
  have hhi : vSto Ψ k 1 * Ψ.1.1 11 ≤ 60 * Ψ.1.1 11 := Int.mul_le_mul_of_nonneg_right (by omega) (by omega)
  exact ⟨a0, a1, ⟨by omega, by omega⟩, hm, ⟨by omega, by omega⟩, q1', by omega⟩
theorem grB_in {Ψ : Fs} (hk : okX Ψ) : ∀ k, 1 ≤ k → k ≤ nS Ψ → 0 ≤ (grB Ψ k).1 ∧ (grB Ψ k).1 < k ∧ 0 ≤ (grB Ψ k).2 := by
  intro k
  induction k with
  | zero => intro h; omega
  | succ k ih =>
    intro _ h
    have hs := sSum_bd hk (show k < cnt (k1 Ψ.1.2.2.2) (Ψ.1.1 18) Ψ.1.2.2.2.length from h)
    simp only [grB]
    split
    · simp only; omega
    · rename_i c
      by_cases e : k = 0
      · subst e
        simp only [grB] at c
        omega
      · have := ih (by omega) (by unfold nS at *; omega)
        omega
theorem cnt_pos {t : Nat → Int} {gap : Int} {n : Nat} (h : 0 < n) : 1 ≤ cnt t gap n := by
  have h1 : cnt t gap 1 = 1 := by simp [cnt]
  have := cnt_le_of (t := t) (gap := gap) (show 1 ≤ n by omega)
  omega
theorem gre_in {Ψ : Fs} (hk : okX Ψ) : (Ψ.1.2.2.2.length = 0 ∧ vGre2 Ψ = -4) ∨ (0 < Ψ.1.2.2.2.length ∧ 0 ≤ vGre2 Ψ ∧ vGre2 Ψ ≤ 60) := by
  have hlen := hk.1.2.2.2.2.1
  by_cases e : Ψ.1.2.2.2.length = 0
  · left
    refine ⟨e, ?_⟩
    unfold vGre2
    rw [e]
    rfl
  · right
    have h1 := cnt_pos (t := k1 Ψ.1.2.2.2) (gap := Ψ.1.1 18) (show 0 < Ψ.1.2.2.2.length by omega)
    have h2 := cnt_le (k1 Ψ.1.2.2.2) (Ψ.1.1 18) Ψ.1.2.2.2.length
    have h3 := grB_in hk (nS Ψ) h1 (Nat.le_refl _)
    have h4 : nS Ψ ≤ 60 := Nat.le_trans h2 hlen
    refine ⟨by omega, h3.1, ?_⟩
    have : vGre2 Ψ = (grB Ψ (nS Ψ)).1 := rfl
    omega
theorem cnt_one {t : Nat → Int} {gap : Int} : ∀ n, 0 < n → mxG t n ≤ gap → cnt t gap n = 1 := by
  intro n
  induction n with
  | zero => intro h; omega
  | succ n ih =>
    intro _ h
    by_cases e : n = 0
    · subst e; simp [cnt]
    · simp only [mxG] at h
      rw [if_neg e] at h
      simp only [cnt]
      rw [ih (by omega) (by omega), if_neg (by omega)]
theorem cnt_two {t : Nat → Int} {gap : Int} (hg : 0 ≤ gap) : ∀ n, gap < mxG t n → 2 ≤ cnt t gap n := by
  intro n
  induction n with
  | zero => intro h; simp [mxG] at h; omega
  | succ n ih =>
    intro h
    by_cases e : n = 0
    · subst e; simp [mxG] at h; omega
    · simp only [mxG] at h
      rw [if_neg e] at h
      simp only [cnt]
      by_cases c : gap < mxG t n
      · have := ih c
        omega
      · have := cnt_pos (t := t) (gap := gap) (show 0 < n by omega)
        rw [if_pos (by omega)]
        omega
/-! numbers that the calls tell -/
theorem vA {Ψ : Fs} : vAcc Ψ 0 = Ψ.1.1 6 ∧ vAcc Ψ 1 = Ψ.1.1 7 ∧ vAcc Ψ 2 = Ψ.1.1 8 ∧ vAcc Ψ 3 = Ψ.1.1 9 ∧ vAcc Ψ 4 = Ψ.1.1 10 := ⟨rfl, rfl, rfl, rfl, rfl⟩
theorem vC {Ψ : Fs} : vCnt Ψ 0 = Ψ.1.1 0 ∧ vCnt Ψ 1 = (Ψ.1.2.1.length : Int) ∧ vCnt Ψ 2 = (Ψ.1.2.2.2.length : Int) ∧ vCnt Ψ 3 = (nS Ψ : Int) ∧ vCnt Ψ 4 = Ψ.1.1 1 ∧ vCnt Ψ 5 = Ψ.1.1 2 ∧ vCnt Ψ 6 = Ψ.1.1 3 ∧ vCnt Ψ 8 = Ψ.1.1 5 ∧ vCnt Ψ 11 = (Ψ.2.1.length : Int) ∧ vCnt Ψ 13 = tkRain Ψ.1 ∧ vCnt Ψ 20 = Ψ.1.1 11 ∧ vCnt Ψ 25 = Ψ.1.1 16 ∧ vCnt Ψ 26 = Ψ.1.1 17 := ⟨rfl, rfl, rfl, rfl, rfl, rfl, rfl, rfl, rfl, rfl, rfl, rfl, rfl⟩
theorem plG_nil {cn te : Int} (h1 : 0 ≤ cn ∧ cn < 2147483648) (h2 : 0 < te ∧ te < 2147483648) : plG [] cn te = cn % te := by
  obtain ⟨n, rfl⟩ := Int.eq_ofNat_of_zero_le h1.1
  obtain ⟨d, rfl⟩ := Int.eq_ofNat_of_zero_le (show 0 ≤ te by omega)
  have hm : n % d < 2 ^ 31 := Nat.lt_of_le_of_lt (Nat.mod_le n d) (by omega)
  show ((iI (n : Int)).toInt64 / lN 1 - (iI (n : Int)).toInt64 / lN 1 / (iI (d : Int)).toInt64 * (iI (d : Int)).toInt64).toInt32.toInt = _
  rw [iI_l ⟨by omega, by omega⟩, iI_l ⟨by omega, by omega⟩, Int.toNat_natCast, Int.toNat_natCast, pk_lDiv (by omega) (by decide) (by decide), Nat.div_one, pk_lRem (by omega) (by omega) (by omega), lN_i, nI_toInt hm]
  rfl
theorem vC9 {Ψ : Fs} (hk : okX Ψ) (hp : okP Ψ.1) : 0 ≤ vCnt Ψ 9 ∧ vCnt Ψ 9 < 360 := by
  have e : vCnt Ψ 9 = plG Ψ.1.2.2.1 (Ψ.1.1 5) (Ψ.1.1 16) := rfl
  have h5 := hk.1.1.2.2.2.2.2.1
  have h0 := hk.1.1.1
  rw [e, hp.2.2.2.2.1, hp.2.2.2.2.2, plG_nil ⟨h5.1, by omega⟩ ⟨by decide, by decide⟩]
  omega
theorem vM {Ψ : Fs} {k : Nat} (h : k < Ψ.1.2.2.2.length) : vMar Ψ k 0 = k1 Ψ.1.2.2.2 k ∧ vMar Ψ k 2 = k3 Ψ.1.2.2.2 k := by
  unfold vMar
  rw [if_neg (by omega), if_pos rfl, if_neg (by omega), if_neg (by omega), if_neg (by omega), Int.toNat_natCast]
  exact ⟨rfl, rfl⟩
theorem vS {Ψ : Fs} {k : Nat} (h : k < Ψ.1.2.1.length) : vSho Ψ k 0 = k1 Ψ.1.2.1 k ∧ vSho Ψ k 1 = k2 Ψ.1.2.1 k ∧ vSho Ψ k 2 = k3 Ψ.1.2.1 k ∧ vSho Ψ k 3 = k1 Ψ.1.2.1 k + k2 Ψ.1.2.1 k - max (k1 Ψ.1.2.1 k) (Ψ.1.1 0) := by
  unfold vSho
  rw [if_neg (by omega), if_pos rfl, if_neg (by omega), if_neg (by omega), if_pos rfl, if_neg (by omega), if_neg (by omega), if_neg (by omega), if_pos rfl, if_neg (by omega), if_neg (by omega), if_neg (by omega), if_neg (by omega), Int.toNat_natCast]
  exact ⟨rfl, rfl, rfl, rfl⟩
theorem mk_in {Ψ : Fs} (hk : okX Ψ) (hp : okP Ψ.1) {k : Nat} (h : k < Ψ.1.2.2.2.length) : (0 ≤ vMar Ψ k 0 ∧ vMar Ψ k 0 < Ψ.1.1 0) ∧ (0 ≤ vMar Ψ k 2 ∧ vMar Ψ k 2 ≤ 5000) ∧ (∀ j : Nat, j < k → vMar Ψ j 0 < vMar Ψ k 0) := by
  obtain ⟨-, m2, m3⟩ := hk.1.2.2.2.2
  have hm := m2 _ (k_mem h)
  have hv := hp.2.2.2.1 _ (k_mem h)
  obtain ⟨e1, e2⟩ := vM h
  rw [e1, e2]
  refine ⟨hm, hv, fun j hj => ?_⟩
  have hj2 : j < Ψ.1.2.2.2.length := by omega
  rw [(vM hj2).1, (k_get hj2).1, (k_get h).1]
  exact List.pairwise_iff_getElem.mp m3 j k hj2 h hj
theorem sh_in {Ψ : Fs} (hk : okX Ψ) (hp : okP Ψ.1) {k : Nat} (h : k < Ψ.1.2.1.length) : (0 ≤ vSho Ψ k 0 ∧ vSho Ψ k 0 ≤ 5000) ∧ (0 < vSho Ψ k 3 ∧ vSho Ψ k 3 ≤ vSho Ψ k 1 ∧ vSho Ψ k 1 ≤ 500) ∧ (∀ j : Nat, j < k → vSho Ψ j 0 ≤ vSho Ψ k 0) := by
  obtain ⟨-, m2⟩ := hk.1.2.2.1
  have hm := m2 _ (k_mem h)
  have ha := hp.2.2.1 _ (k_mem h)
  obtain ⟨e0, e1, e2, e3⟩ := vS h
  simp only at hm ha
  rw [e0, e1, e3]
  refine ⟨hm.1, ⟨by omega, by omega, hm.2.1.2⟩, fun j hj => ?_⟩
  have hj2 : j < Ψ.1.2.1.length := by omega
  rw [(vS hj2).1]
  exact hp.2.1 j k hj h
theorem add_out {Ψ : Fs} {b l r : Int} (hk : okX Ψ) (hb : Ψ.1.1 0 ≤ b ∧ b ≤ 5000) (hl : 1 ≤ l ∧ l ≤ 500) (hr : 1 ≤ r ∧ r ≤ 200) : (sAdd Ψ b l r).1.1 = Ψ.1.1 ∧ ((vAdd Ψ b l r = -3 ∧ vCnt (sAdd Ψ b l r) 1 = 12) ∨ (0 ≤ vAdd Ψ b l r ∧ vAdd Ψ b l r ≤ 12 ∧ vSho (sAdd Ψ b l r) (vAdd Ψ b l r) 2 = r)) := by
  have hc : ¬ (¬ (Ψ.1.1 0 ≤ b ∧ b ≤ 5000) ∨ ¬ (1 ≤ l ∧ l ≤ 500) ∨ ¬ (1 ≤ r ∧ r ≤ 200)) := by omega
  have hlen := hk.1.2.2.1.1
  unfold vAdd sAdd
  rw [if_neg hc, if_neg hc]
  by_cases q : 12 ≤ Ψ.1.2.1.length
  · rw [if_pos q, if_pos q]
    refine ⟨rfl, Or.inl ⟨rfl, ?_⟩⟩
    show (Ψ.1.2.1.length : Int) = 12
    omega
  · rw [if_neg q, if_neg q]
    have hp : insI Ψ.1.2.1 b ≤ Ψ.1.2.1.length := insP_le _ _ _
    refine ⟨rfl, Or.inr ⟨by omega, by omega, ?_⟩⟩
    rw [(vS (Ψ := ((Ψ.1.1, insL Ψ.1.2.1 (b, l, r), Ψ.1.2.2.1, Ψ.1.2.2.2), keepH Ψ.2.1 Ψ.1, Ψ.2.2)) (k := insI Ψ.1.2.1 b) (by show _ < (insL Ψ.1.2.1 (b, l, r)).length; rw [insL_len]; omega)).2.2.1]
    show k3 (insL Ψ.1.2.1 (b, l, r)) (insI Ψ.1.2.1 b) = r
    rw [k3_ins (by omega)]
    show insF (k3 Ψ.1.2.1) (insI Ψ.1.2.1 b) Ψ.1.2.1.length r (insI Ψ.1.2.1 b) = r
    unfold insF
    rw [if_neg (Nat.lt_irrefl _), if_pos rfl]
/-- the gap for one storm -/
theorem gap_in {Ψ : Fs} : vGap Ψ = -4 ∨ (1 ≤ vGap Ψ ∧ vGap Ψ ≤ 1000 ∧ cnt (k1 Ψ.1.2.2.2) (vGap Ψ) Ψ.1.2.2.2.length = 1 ∧ (vGap Ψ = 1 ∨ 2 ≤ cnt (k1 Ψ.1.2.2.2) (vGap Ψ - 1) Ψ.1.2.2.2.length)) := by
  unfold vGap
  by_cases e : Ψ.1.2.2.2.length = 0
  · rw [if_pos e]; exact Or.inl rfl
  · rw [if_neg e]
    by_cases c : 1000 < max 1 (mxG (k1 Ψ.1.2.2.2) Ψ.1.2.2.2.length)
    · rw [if_pos c]; exact Or.inl rfl
    · rw [if_neg c]
      refine Or.inr ⟨by omega, by omega, cnt_one _ (by omega) (by omega), ?_⟩
      by_cases d : mxG (k1 Ψ.1.2.2.2) Ψ.1.2.2.2.length ≤ 1
      · left; omega
      · right; exact cnt_two (by omega) _ (by omega)
theorem vAcc_1 {Ψ Φ : Fs} (h : Ψ.1 = Φ.1) (w : Int) : vAcc Ψ w = vAcc Φ w := by
  unfold vAcc
  rw [h]
theorem vCnt_1 {Ψ Φ : Fs} (h : Ψ.1 = Φ.1) {w : Int} (h1 : w ≠ 11) (h2 : w ≠ 12) : vCnt Ψ w = vCnt Φ w := by
  unfold vCnt
  rw [h]
  simp only [if_neg h1, if_neg h2]
