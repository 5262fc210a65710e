/-! storms -/
/-- how many marks stand ahead of the k-th storm -/
def sxN (t : Nat → Int) (gap : Int) (k : Nat) : Nat → Nat
  | 0 => 0
  | n + 1 => sxN t gap k n + if cnt t gap (n + 1) ≤ k then 1 else 0
theorem sxN_of {t : Nat → Int} {gap : Int} {k f : Nat} : ∀ n, (∀ i, i < f → i < n → cnt t gap (i + 1) ≤ k) → (∀ i, f ≤ i → i < n → k < cnt t gap (i + 1)) → sxN t gap k n = min f n := by
  intro n
  induction n with
  | zero => intro _ _; simp [sxN]
  | succ n ih =>
    intro h1 h2
    simp only [sxN]
    rw [ih (fun i hi hn => h1 i hi (by omega)) (fun i hi hn => h2 i hi (by omega))]
    by_cases e : n < f
    · rw [if_pos (h1 n e (by omega))]
      omega
    · rw [if_neg (by have := h2 n (by omega) (by omega); omega)]
      omega
theorem cnt_mono {t : Nat → Int} {gap : Int} (i : Nat) : ∀ d, cnt t gap i ≤ cnt t gap (i + d) := by
  intro d
  induction d with
  | zero => exact Nat.le_refl _
  | succ d ih =>
    rw [show i + (d + 1) = (i + d) + 1 by omega]
    simp only [cnt]
    omega
theorem cnt_le_of {t : Nat → Int} {gap : Int} {i j : Nat} (h : i ≤ j) : cnt t gap i ≤ cnt t gap j := by
  have := cnt_mono (t := t) (gap := gap) i (j - i)
  rwa [show i + (j - i) = j by omega] at this
def sF (t : Nat → Int) (gap : Int) (n k : Nat) : Nat := sxN t gap k n
theorem sF_first {t : Nat → Int} {gap : Int} {n f : Nat} (hf : f < n) (hb : beg t gap f) : sF t gap n (cnt t gap f) = f := by
  unfold sF
  rw [sxN_of (f := f) n (fun i hi _ => cnt_le_of (by omega)) (fun i hi _ => by have := cnt_le_of (t := t) (gap := gap) (show f + 1 ≤ i + 1 by omega); rw [cnt_b hb] at this; omega)]
  omega
theorem cnt_flat {t : Nat → Int} {gap : Int} {f e : Nat} (hno : ∀ j, f < j → j < e → ¬ beg t gap j) : ∀ d, f + 1 + d ≤ e → cnt t gap (f + 1 + d) = cnt t gap (f + 1) := by
  intro d
  induction d with
  | zero => intro _; rfl
  | succ d ih =>
    intro hd
    rw [show f + 1 + (d + 1) = (f + 1 + d) + 1 by omega, cnt_n (hno (f + 1 + d) (by omega) (by omega))]
    exact ih (by omega)
theorem sF_end {t : Nat → Int} {gap : Int} {n f e : Nat} (hb : beg t gap f) (hfe : f < e) (hen : e ≤ n) (hno : ∀ j, f < j → j < e → ¬ beg t gap j) (he : e = n ∨ beg t gap e) : sF t gap n (cnt t gap f + 1) = e := by
  unfold sF
  have hce : cnt t gap e = cnt t gap f + 1 := by
    have := cnt_flat hno (e - (f + 1)) (by omega)
    rw [show f + 1 + (e - (f + 1)) = e by omega, cnt_b hb] at this
    exact this
  rw [sxN_of (f := e) n (fun i hi _ => by have := cnt_le_of (t := t) (gap := gap) (show i + 1 ≤ e by omega); omega) (fun i hi hin => ?_)]
  · omega
  · rcases he with he | he
    · omega
    · have := cnt_le_of (t := t) (gap := gap) (show e + 1 ≤ i + 1 by omega)
      rw [cnt_b he] at this
      omega
/-- the k-th storm is there -/
theorem cnt_find {t : Nat → Int} {gap : Int} {k : Nat} : ∀ n, k < cnt t gap n → ∃ f, f < n ∧ beg t gap f ∧ cnt t gap f = k := by
  intro n
  induction n with
  | zero => intro h; simp [cnt] at h
  | succ n ih =>
    intro h
    by_cases hb : beg t gap n
    · rw [cnt_b hb] at h
      by_cases e : k < cnt t gap n
      · obtain ⟨f, h1, h2, h3⟩ := ih e
        exact ⟨f, by omega, h2, h3⟩
      · exact ⟨n, by omega, hb, by omega⟩
    · rw [cnt_n hb] at h
      obtain ⟨f, h1, h2, h3⟩ := ih h
      exact ⟨f, by omega, h2, h3⟩
theorem cnt_lt {t : Nat → Int} {gap : Int} {f n : Nat} (hf : f < n) (hb : beg t gap f) : cnt t gap f < cnt t gap n := by
  have := cnt_le_of (t := t) (gap := gap) (show f + 1 ≤ n by omega)
  rw [cnt_b hb] at this
  omega
noncomputable def pkV (t : Nat → Int) (f e : Nat) : Int := Classical.epsilon (isPk t f e)
theorem isPk_un {t : Nat → Int} {f e : Nat} {v w : Int} (h1 : isPk t f e v) (h2 : isPk t f e w) : v = w := by
  obtain ⟨⟨i, j, a1, a2, a3, a4, a5⟩, h1⟩ := h1
  obtain ⟨⟨i', j', b1, b2, b3, b4, b5⟩, h2⟩ := h2
  have c1 := h1 i' j' b1 b2 b3 b4
  have c2 := h2 i j a1 a2 a3 a4
  omega
theorem pkV_of {t : Nat → Int} {f e : Nat} {v : Int} (h : isPk t f e v) : v = pkV t f e := isPk_un h (Classical.epsilon_spec ⟨v, h⟩)
theorem lossTo_ext {t t' : Nat → Int} {c : Int} {f : Nat} : ∀ d, (∀ j, j ≤ f + d → t j = t' j) → lossTo t c f d = lossTo t' c f d := by
  intro d
  induction d with
  | zero => intro _; rfl
  | succ d ih =>
    intro h
    simp only [lossTo]
    rw [ih (fun j hj => h j (by omega)), h (f + 1 + d) (by omega), h (f + d) (by omega)]
theorem isPk_ext {t t' : Nat → Int} {f e : Nat} {v : Int} (h : ∀ j, j < e → t j = t' j) (hp : isPk t f e v) : isPk t' f e v := by
  obtain ⟨⟨i, j, a1, a2, a3, a4, a5⟩, h1⟩ := hp
  refine ⟨⟨i, j, a1, a2, a3, ?_, a5⟩, fun i' j' b1 b2 b3 b4 => h1 i' j' b1 b2 b3 ?_⟩
  · rw [← h j a3, ← h i (by omega)]; exact a4
  · rw [h j' b3, h i' (by omega)]; exact b4
theorem beg_ext {t t' : Nat → Int} {gap : Int} {i : Nat} (h : ∀ j, j ≤ i → t j = t' j) : beg t gap i ↔ beg t' gap i := by
  unfold beg
  rw [h i (Nat.le_refl _), h (i - 1) (by omega)]
def amtV (cap : Int) (f e : Nat) : Int := ((e : Int) - f) * cap
noncomputable def vSto (Ψ : Fs) (k w : Int) : Int :=
  if ¬ (0 ≤ k ∧ k < (cnt (k1 Ψ.1.2.2.2) (Ψ.1.1 18) Ψ.1.2.2.2.length : Int)) ∨ ¬ (0 ≤ w ∧ w ≤ 5) then -1 else
  if w = 0 then (sF (k1 Ψ.1.2.2.2) (Ψ.1.1 18) Ψ.1.2.2.2.length k.toNat : Int)
  else if w = 1 then (sF (k1 Ψ.1.2.2.2) (Ψ.1.1 18) Ψ.1.2.2.2.length (k.toNat + 1) : Int) - sF (k1 Ψ.1.2.2.2) (Ψ.1.1 18) Ψ.1.2.2.2.length k.toNat
  else if w = 2 then k1 Ψ.1.2.2.2 (sF (k1 Ψ.1.2.2.2) (Ψ.1.1 18) Ψ.1.2.2.2.length (k.toNat + 1) - 1) - k1 Ψ.1.2.2.2 (sF (k1 Ψ.1.2.2.2) (Ψ.1.1 18) Ψ.1.2.2.2.length k.toNat)
  else if w = 3 then amtV (Ψ.1.1 11) (sF (k1 Ψ.1.2.2.2) (Ψ.1.1 18) Ψ.1.2.2.2.length k.toNat) (sF (k1 Ψ.1.2.2.2) (Ψ.1.1 18) Ψ.1.2.2.2.length (k.toNat + 1))
  else if w = 4 then lossTo (k1 Ψ.1.2.2.2) (Ψ.1.1 11 * Ψ.1.1 12) (sF (k1 Ψ.1.2.2.2) (Ψ.1.1 18) Ψ.1.2.2.2.length k.toNat) (sF (k1 Ψ.1.2.2.2) (Ψ.1.1 18) Ψ.1.2.2.2.length (k.toNat + 1) - sF (k1 Ψ.1.2.2.2) (Ψ.1.1 18) Ψ.1.2.2.2.length k.toNat - 1)
  else pkV (k1 Ψ.1.2.2.2) (sF (k1 Ψ.1.2.2.2) (Ψ.1.1 18) Ψ.1.2.2.2.length k.toNat) (sF (k1 Ψ.1.2.2.2) (Ψ.1.1 18) Ψ.1.2.2.2.length (k.toNat + 1))
set_option maxRecDepth 100000 in
set_option maxHeartbeats 4000000 in
theorem c_amountOf (lc : Launch) (G : Gc) (E : Wd) (nh : Nat) {Ψ : Fs} {f e : Nat} (h : isX G E Ψ) (hfe : f ≤ e ∧ e ≤ 60) : CI lc G 0 yX11_amountOf cX11_amountOf 3 .int [.ref (gb G + 0), .int (iI (f : Int)), .int (iI (e : Int))] E nh 0 0 (fun r E' => r = amtV (Ψ.1.1 11) f e ∧ E' = E) := by
  refine CI.mk (by decide +kernel) rfl (Nat.le_of_ble_eq_true rfl) ?_
  intro X hG hL cx hR hI
  subst hG; subst hL
  show V X E (nh, 0, 0) 0 [some (.ref (gb (fG X) + 0)), some (.int (iI (f : Int))), some (.int (iI (e : Int)))] []
  obtain ⟨⟨s, sh, ge, mk⟩, hs, tx⟩ := Ψ
  obtain ⟨hxr, hS, hH⟩ := h.split
  simp only at hS hH hxr
  obtain ⟨st, n, b, l, r, fc, fd, B, cr, cn, ng, gf, gs, nm, t, p, v, tk, fell, ⟨s0, s1, s2, s3, s4, s5, s6, s7⟩, q1, q2, q3, q4, q5, q6, q7, ⟨q8, q8n⟩, ⟨q9, q9n⟩, q10, q11⟩ := id hS
  have hx0 := hxr.1
  have a0 : st 0 = s 11 := q1 0 (by omega)
  refine v_iload_n (pc := 0) cx rfl ga2 dX11_amountOf_0 ?_
  refine v_iload_n (pc := 1) cx rfl ga1 dX11_amountOf_1 ?_
  refine v_isub (pc := 2) cx dX11_amountOf_2 ?_
  refine v_aload_n (pc := 3) cx rfl ga0 dX11_amountOf_3 ?_
  refine v_getfield (pc := 4) cx flX11_10 (by assumption) gf0 dX11_amountOf_4 ?_
  refine v_getfield (pc := 7) cx flX11_111 (by assumption) gf0 dX11_amountOf_7 ?_
  refine v_iconst (pc := 10) cx dX11_amountOf_10 ?_
  refine v_iaload (pc := 11) cx (0) (by assumption) (by omega) dX11_amountOf_11 ?_
  refine v_imul (pc := 12) cx dX11_amountOf_12 ?_
  refine v_ireturn (pc := 13) cx hI rfl ?_ dX11_amountOf_13
  refine ⟨?_, rfl⟩
  unfold amtV
  rw [a0]
theorem mul_bd {a b : Int} (ha : 20 ≤ a ∧ a ≤ 500) (hb : 0 ≤ b ∧ b ≤ 20) : 0 ≤ a * b ∧ a * b ≤ 10000 := by
  refine ⟨Int.mul_nonneg (by omega) hb.1, ?_⟩
  have h1 : a * b ≤ 500 * b := Int.mul_le_mul_of_nonneg_right ha.2 hb.1
  omega
set_option maxRecDepth 100000 in
set_option maxHeartbeats 4000000 in
theorem c_lossOf (lc : Launch) (G : Gc) (E : Wd) (nh : Nat) {Ψ : Fs} {f e : Nat} (h : isX G E Ψ) (hk : okX Ψ) (hfe : f < e ∧ e ≤ Ψ.1.2.2.2.length) : CI lc G 3 yX11_lossOf cX11_lossOf 3 .int [.ref (gb G + 0), .int (iI (f : Int)), .int (iI (e : Int))] E nh 0 0 (fun r E' => r = lossTo (k1 Ψ.1.2.2.2) (Ψ.1.1 11 * Ψ.1.1 12) f (e - f - 1) ∧ E' = E) := by
  refine CI.mk (by decide +kernel) rfl (Nat.le_of_ble_eq_true rfl) ?_
  intro X hG hL cx hR hI
  subst hG; subst hL
  show V X E (nh, 0, 0) 0 [some (.ref (gb (fG X) + 0)), some (.int (iI (f : Int))), some (.int (iI (e : Int)))] []
  obtain ⟨⟨s, sh, ge, mk⟩, hs, tx⟩ := Ψ
  obtain ⟨hxr, hS, hH⟩ := h.split
  obtain ⟨⟨hsc, hse, hsh, hge, hmk⟩, -, -⟩ := hk
  simp only at hS hH hxr hsc hse hmk hfe
  obtain ⟨st, n, b, l, r, fc, fd, B, cr, cn, ng, gf, gs, nm, t, p, v, tk, fell, ⟨s0, s1, s2, s3, s4, s5, s6, s7⟩, q1, q2, q3, q4, q5, q6, q7, ⟨q8, q8n⟩, ⟨q9, q9n⟩, q10, q11⟩ := id hS
  simp only at q9
  subst q9
  rw [lst_len] at hfe
  have hx0 := hxr.1
  have a0 : st 0 = s 11 := q1 0 (by omega)
  have a1 : st 1 = s 12 := q1 1 (by omega)
  have s70 := s7.1
  refine v_aload_n (pc := 0) cx rfl ga0 dX11_lossOf_0 ?_
  refine v_getfield (pc := 1) cx flX11_10 (by assumption) gf0 dX11_lossOf_1 ?_
  refine v_getfield (pc := 4) cx flX11_142 (by assumption) gf6 dX11_lossOf_4 ?_
  refine v_iload_n (pc := 7) cx rfl ga1 dX11_lossOf_7 ?_
  refine v_iload_n (pc := 8) cx rfl ga2 dX11_lossOf_8 ?_
  refine v_aload_n (pc := 9) cx rfl ga0 dX11_lossOf_9 ?_
  refine v_getfield (pc := 10) cx flX11_10 (by assumption) gf0 dX11_lossOf_10 ?_
  refine v_getfield (pc := 13) cx flX11_111 (by assumption) gf0 dX11_lossOf_13 ?_
  refine v_iconst (pc := 16) cx dX11_lossOf_16 ?_
  refine v_iaload (pc := 17) cx (0) (by assumption) (by omega) dX11_lossOf_17 ?_
  refine v_aload_n (pc := 18) cx rfl ga0 dX11_lossOf_18 ?_
  refine v_getfield (pc := 19) cx flX11_10 (by assumption) gf0 dX11_lossOf_19 ?_
  refine v_getfield (pc := 22) cx flX11_111 (by assumption) gf0 dX11_lossOf_22 ?_
  refine v_iconst (pc := 25) cx dX11_lossOf_25 ?_
  refine v_iaload (pc := 26) cx (1) (by assumption) (by omega) dX11_lossOf_26 ?_
  refine v_imul (pc := 27) cx dX11_lossOf_27 ?_
  rw [a0, a1]
  refine v_callVI (pc := 28) cx hR (c_Mk_loss _ _ _ _ s7 q9n (okT_of hmk hsc.1.2) hfe.1 hfe.2 (mul_bd hse.1 hse.2.1)) mlX11_258 (by decide) (by assumption) rfl rfl rfl (Nat.le_of_ble_eq_true rfl) ⟨Nat.le_refl _, Nat.le_refl _⟩ dX11_lossOf_28 (fun r2 E2 hP => ?_)
  obtain ⟨rfl, rfl⟩ := hP
  refine v_ireturn (pc := 31) cx hI rfl ?_ dX11_lossOf_31
  refine ⟨?_, rfl⟩
  exact lossTo_ext _ (fun j hj => (k_lst (by omega)).1.symm)
set_option maxRecDepth 100000 in
set_option maxHeartbeats 4000000 in
theorem c_storm (lc : Launch) (G : Gc) (E : Wd) (nh : Nat) {Ψ : Fs} {k w : Int} (h : isX G E Ψ) (hk : okX Ψ) (hb0 : -2147483648 ≤ k ∧ k < 2147483648) (hw : -2147483648 ≤ w ∧ w < 2147483648) : CI lc G 5 yX11_storm cX11_storm 6 .int [.ref (gb G + 0), .int (iI k), .int (iI w)] E nh 0 0 (fun r E' => r = vSto Ψ k w ∧ E' = E) := by
  refine CI.mk (by decide +kernel) rfl (Nat.le_of_ble_eq_true rfl) ?_
  intro X hG hL cx hR hI
  subst hG; subst hL
  show V X E (nh, 0, 0) 0 [some (.ref (gb (fG X) + 0)), some (.int (iI k)), some (.int (iI w)), none, none, none] []
  have hX := h
  have hk0 := hk
  obtain ⟨⟨s, sh, ge, mk⟩, hs, tx⟩ := Ψ
  obtain ⟨hxr, hS, hH⟩ := h.split
  obtain ⟨⟨hsc, hse, hsh, hge, hmk⟩, -, -⟩ := hk
  simp only at hS hH hxr hsc hse hmk
  obtain ⟨st, n, b, l, r, fc, fd, B, cr, cn, ng, gf, gs, nm, t, p, v, tk, fell, ⟨s0, s1, s2, s3, s4, s5, s6, s7⟩, q1, q2, q3, q4, q5, q6, q7, ⟨q8, q8n⟩, ⟨q9, q9n⟩, q10, q11⟩ := id hS
  simp only at q9
  subst q9
  have hx0 := hxr.1
  have a0 : st 0 = s 11 := q1 0 (by omega)
  have a7 : st 7 = s 18 := q1 7 (by omega)
  have hT := okT_of hmk hsc.1.2
  have hg := hse.2.2.2.2.2.2.2
  obtain ⟨s70, s71, s72, s73⟩ := id s7
  have hcn : cnt (k1 (lst t p v nm)) (s 18) (lst t p v nm).length = cnt t (s 18) nm := by rw [lst_len]; exact cnt_ext nm (fun j hj => (k_lst hj).1)
  have hbx : ∀ i, i < nm → (beg t (s 18) i ↔ beg (k1 (lst t p v nm)) (s 18) i) := fun i hi => beg_ext (fun j hj => (k_lst (by omega)).1.symm)
  have hcx : ∀ i, i ≤ nm → cnt (k1 (lst t p v nm)) (s 18) i = cnt t (s 18) i := fun i hi => cnt_ext i (fun j hj => (k_lst (by omega)).1)
  refine v_aload_n (pc := 0) cx rfl ga0 dX11_storm_0 ?_
  refine v_getfield (pc := 1) cx flX11_10 (by assumption) gf0 dX11_storm_1 ?_
  refine v_getfield (pc := 4) cx flX11_111 (by assumption) gf0 dX11_storm_4 ?_
  refine v_bipush (pc := 7) cx (by decide) dX11_storm_7 ?_
  refine v_iaload (pc := 9) cx (7) (by assumption) (by omega) dX11_storm_9 ?_
  refine v_istore_n (pc := 10) cx rfl (sa3 rfl) dX11_storm_10 ?_
  refine v_aload_n (pc := 11) cx rfl ga0 dX11_storm_11 ?_
  refine v_getfield (pc := 12) cx flX11_10 (by assumption) gf0 dX11_storm_12 ?_
  refine v_getfield (pc := 15) cx flX11_142 (by assumption) gf6 dX11_storm_15 ?_
  refine v_iload_n (pc := 18) cx rfl ga1 dX11_storm_18 ?_
  refine v_iload_n (pc := 19) cx rfl ga3 dX11_storm_19 ?_
  rw [a7]
  refine v_callVI (pc := 20) cx hR (c_Mk_firstOfStorm _ _ _ _ s7 q9n hT hg hb0) mlX11_197 (by decide) (by assumption) rfl rfl rfl (Nat.le_of_ble_eq_true rfl) ⟨Nat.le_refl _, Nat.le_refl _⟩ dX11_storm_20 (fun r1 E1 hP => ?_)
  obtain ⟨hor, rfl⟩ := hP
  rcases hor with ⟨f, f1, f2, f3, rfl⟩ | ⟨rfl, hno⟩
  · refine v_istore (pc := 23) cx (sa4 rfl) dX11_storm_23 ?_
    refine v_iload (pc := 25) cx ga4 dX11_storm_25 ?_
    refine v_iconst (pc := 27) cx dX11_storm_27 ?_
    refine v_icmp_ne (pc := 28) cx 33 dX11_storm_28 rfl (by omega) (fun c28 => ?_) (fun c28 => ?_)
    · refine v_aload_n (pc := 33) cx rfl ga0 dX11_storm_33 ?_
      refine v_getfield (pc := 34) cx flX11_10 (by assumption) gf0 dX11_storm_34 ?_
      refine v_getfield (pc := 37) cx flX11_142 (by assumption) gf6 dX11_storm_37 ?_
      refine v_iload (pc := 40) cx ga4 dX11_storm_40 ?_
      refine v_iload_n (pc := 42) cx rfl ga3 dX11_storm_42 ?_
      refine v_callVI (pc := 43) cx hR (c_Mk_endOfStorm _ _ _ _ s7 q9n hT hg f1) mlX11_200 (by decide) (by assumption) rfl rfl rfl (Nat.le_of_ble_eq_true rfl) ⟨Nat.le_refl _, Nat.le_refl _⟩ dX11_storm_43 (fun r2 E2 hP => ?_)
      obtain ⟨⟨e, e1, e2, e3, e4, rfl⟩, rfl⟩ := hP
      have hkn : k.toNat = cnt t (s 18) f := by omega
      have hsf : sF (k1 (lst t p v nm)) (s 18) (lst t p v nm).length k.toNat = f := by
        rw [lst_len, hkn, ← hcx f (by omega)]
        exact sF_first f1 ((hbx f f1).mp f2)
      have hse2 : sF (k1 (lst t p v nm)) (s 18) (lst t p v nm).length (k.toNat + 1) = e := by
        rw [lst_len, hkn, ← hcx f (by omega)]
        refine sF_end ((hbx f f1).mp f2) e1 e2 (fun j hj1 hj2 hb => e3 j hj1 hj2 ((hbx j (by omega)).mpr hb)) ?_
        rcases e4 with e4 | e4
        · exact Or.inl e4
        · by_cases q : e = nm
          · exact Or.inl q
          · exact Or.inr ((hbx e (by omega)).mp e4)
      have hlt := cnt_lt f1 f2
      have hin : 0 ≤ k ∧ k < (cnt (k1 (lst t p v nm)) (s 18) (lst t p v nm).length : Int) := by rw [hcn]; omega
      refine v_istore (pc := 46) cx (sa5 rfl) dX11_storm_46 ?_
      refine v_iload_n (pc := 48) cx rfl ga2 dX11_storm_48 ?_
      rcases (show w = 0 ∨ w = 1 ∨ w = 2 ∨ w = 3 ∨ w = 4 ∨ w = 5 ∨ (w < 0 ∨ 5 < w) by omega) with rfl | rfl | rfl | rfl | rfl | rfl | hw2
      · refine v_tableIn (pc := 49) cx 88 dX11_storm_49 (by omega) rfl rfl ?_
        refine v_iload (pc := 88) cx ga4 dX11_storm_88 ?_
        refine v_ireturn (pc := 90) cx hI rfl ?_ dX11_storm_90
        refine ⟨?_, rfl⟩
        unfold vSto
        simp only [hsf, hse2]
        rw [if_neg (by omega)]
        rfl
      · refine v_tableIn (pc := 49) cx 91 dX11_storm_49 (by omega) rfl rfl ?_
        refine v_iload (pc := 91) cx ga5 dX11_storm_91 ?_
        refine v_iload (pc := 93) cx ga4 dX11_storm_93 ?_
        refine v_isub (pc := 95) cx dX11_storm_95 ?_
        refine v_ireturn (pc := 96) cx hI rfl ?_ dX11_storm_96
        refine ⟨?_, rfl⟩
        unfold vSto
        simp only [hsf, hse2]
        rw [if_neg (by omega)]
        rfl
      · refine v_tableIn (pc := 49) cx 97 dX11_storm_49 (by omega) rfl rfl ?_
        refine v_aload_n (pc := 97) cx rfl ga0 dX11_storm_97 ?_
        refine v_getfield (pc := 98) cx flX11_10 (by assumption) gf0 dX11_storm_98 ?_
        refine v_getfield (pc := 101) cx flX11_142 (by assumption) gf6 dX11_storm_101 ?_
        refine v_iload (pc := 104) cx ga4 dX11_storm_104 ?_
        refine v_iload (pc := 106) cx ga5 dX11_storm_106 ?_
        refine v_iconst (pc := 108) cx dX11_storm_108 ?_
        refine v_isub (pc := 109) cx dX11_storm_109 ?_
        rw [show ((e : Int) - 1) = ((e - 1 : Nat) : Int) by omega]
        refine v_callVI (pc := 110) cx hR (c_Mk_ticksBetween _ _ _ _ s7 q9n (by omega) (by omega)) mlX11_203 (by decide) (by assumption) rfl rfl rfl (Nat.le_of_ble_eq_true rfl) ⟨Nat.le_refl _, Nat.le_refl _⟩ dX11_storm_110 (fun r3 E3 hP => ?_)
        obtain ⟨rfl, rfl⟩ := hP
        refine v_ireturn (pc := 113) cx hI rfl ?_ dX11_storm_113
        refine ⟨?_, rfl⟩
        unfold vSto
        simp only [hsf, hse2, (k_lst (b := t) (l := p) (r := v) (show e - 1 < nm by omega)).1, (k_lst (b := t) (l := p) (r := v) (show f < nm by omega)).1]
        rw [if_neg (by omega)]
        rfl
      · refine v_tableIn (pc := 49) cx 114 dX11_storm_49 (by omega) rfl rfl ?_
        refine v_aload_n (pc := 114) cx rfl ga0 dX11_storm_114 ?_
        refine v_iload (pc := 115) cx ga4 dX11_storm_115 ?_
        refine v_iload (pc := 117) cx ga5 dX11_storm_117 ?_
        refine v_callVI (pc := 119) cx hR (c_amountOf _ _ _ _ hX (by omega)) mlX11_206 (by decide) (by assumption) rfl rfl rfl (Nat.le_of_ble_eq_true rfl) ⟨Nat.le_refl _, Nat.le_refl _⟩ dX11_storm_119 (fun r3 E3 hP => ?_)
        obtain ⟨rfl, rfl⟩ := hP
        refine v_ireturn (pc := 122) cx hI rfl ?_ dX11_storm_122
        refine ⟨?_, rfl⟩
        unfold vSto
        simp only [hsf, hse2]
        rw [if_neg (by omega)]
        rfl
      · refine v_tableIn (pc := 49) cx 123 dX11_storm_49 (by omega) rfl rfl ?_
        refine v_aload_n (pc := 123) cx rfl ga0 dX11_storm_123 ?_
        refine v_iload (pc := 124) cx ga4 dX11_storm_124 ?_
        refine v_iload (pc := 126) cx ga5 dX11_storm_126 ?_
        refine v_callVI (pc := 128) cx hR (c_lossOf _ _ _ _ hX hk0 ⟨e1, by simp only [lst_len]; exact e2⟩) mlX11_209 (by decide) (by assumption) rfl rfl rfl (Nat.le_of_ble_eq_true rfl) ⟨Nat.le_refl _, Nat.le_refl _⟩ dX11_storm_128 (fun r3 E3 hP => ?_)
        obtain ⟨rfl, rfl⟩ := hP
        refine v_ireturn (pc := 131) cx hI rfl ?_ dX11_storm_131
        refine ⟨?_, rfl⟩
        unfold vSto
        simp only [hsf, hse2]
        rw [if_neg (by omega)]
        rfl
      · refine v_tableIn (pc := 49) cx 132 dX11_storm_49 (by omega) rfl rfl ?_
        refine v_aload_n (pc := 132) cx rfl ga0 dX11_storm_132 ?_
        refine v_getfield (pc := 133) cx flX11_10 (by assumption) gf0 dX11_storm_133 ?_
        refine v_getfield (pc := 136) cx flX11_142 (by assumption) gf6 dX11_storm_136 ?_
        refine v_iload (pc := 139) cx ga4 dX11_storm_139 ?_
        refine v_iload (pc := 141) cx ga5 dX11_storm_141 ?_
        refine v_callVI (pc := 143) cx hR (c_Mk_peak _ _ _ _ s7 q9n hT e1 e2) mlX11_212 (by decide) (by assumption) rfl rfl rfl (Nat.le_of_ble_eq_true rfl) ⟨Nat.le_refl _, Nat.le_refl _⟩ dX11_storm_143 (fun r3 E3 hP => ?_)
        obtain ⟨hpk, rfl⟩ := hP
        refine v_ireturn (pc := 146) cx hI rfl ?_ dX11_storm_146
        refine ⟨?_, rfl⟩
        unfold vSto
        simp only [hsf, hse2]
        rw [if_neg (by omega)]
        exact pkV_of (isPk_ext (fun j hj => (k_lst (by omega)).1.symm) hpk)
      · refine v_tableOut (pc := 49) cx 147 dX11_storm_49 (by omega) rfl ?_
        refine v_iconst (pc := 147) cx dX11_storm_147 ?_
        refine v_ireturn (pc := 148) cx hI rfl ?_ dX11_storm_148
        refine ⟨?_, rfl⟩
        unfold vSto
        rw [if_pos (by omega)]
    · omega
  · refine v_istore (pc := 23) cx (sa4 rfl) dX11_storm_23 ?_
    refine v_iload (pc := 25) cx ga4 dX11_storm_25 ?_
    refine v_iconst (pc := 27) cx dX11_storm_27 ?_
    refine v_icmp_ne (pc := 28) cx 33 dX11_storm_28 rfl (by omega) (fun c28 => ?_) (fun c28 => ?_)
    · omega
    · refine v_iconst (pc := 31) cx dX11_storm_31 ?_
      refine v_ireturn (pc := 32) cx hI rfl ?_ dX11_storm_32
      refine ⟨?_, rfl⟩
      unfold vSto
      simp only
      rw [hcn, if_pos]
      left
      intro hq
      obtain ⟨f, f1, f2, f3⟩ := cnt_find (t := t) (gap := s 18) (k := k.toNat) nm (by omega)
      exact hno f f1 f2 (by omega)
/-- a storm's amount and loss -/
def sSum (Ψ : Fs) (k : Nat) : Int := amtV (Ψ.1.1 11) (sF (k1 Ψ.1.2.2.2) (Ψ.1.1 18) Ψ.1.2.2.2.length k) (sF (k1 Ψ.1.2.2.2) (Ψ.1.1 18) Ψ.1.2.2.2.length (k + 1)) + lossTo (k1 Ψ.1.2.2.2) (Ψ.1.1 11 * Ψ.1.1 12) (sF (k1 Ψ.1.2.2.2) (Ψ.1.1 18) Ψ.1.2.2.2.length k) (sF (k1 Ψ.1.2.2.2) (Ψ.1.1 18) Ψ.1.2.2.2.length (k + 1) - sF (k1 Ψ.1.2.2.2) (Ψ.1.1 18) Ψ.1.2.2.2.length k - 1)
def grB (Ψ : Fs) : Nat → Int × Int
  | 0 => (-4, -1)
  | k + 1 => if (grB Ψ k).2 < sSum Ψ k then ((k : Int), sSum Ψ k) else grB Ψ k
def vGre2 (Ψ : Fs) : Int := (grB Ψ (cnt (k1 Ψ.1.2.2.2) (Ψ.1.1 18) Ψ.1.2.2.2.length)).1
/-- where the k-th storm lies -/
theorem sF_at {t : Nat → Int} {gap : Int} {n k : Nat} (hk : k < cnt t gap n) : sF t gap n k < sF t gap n (k + 1) ∧ sF t gap n (k + 1) ≤ n ∧ beg t gap (sF t gap n k) ∧ cnt t gap (sF t gap n k) = k := by
  obtain ⟨f, h1, h2, h3⟩ := cnt_find n hk
  have e1 : sF t gap n k = f := by rw [← h3]; exact sF_first h1 h2
  rw [e1]
  by_cases hk2 : k + 1 < cnt t gap n
  · obtain ⟨e, g1, g2, g3⟩ := cnt_find n hk2
    have e2 : sF t gap n (k + 1) = e := by rw [← g3]; exact sF_first g1 g2
    rw [e2]
    refine ⟨?_, by omega, h2, h3⟩
    rcases Nat.lt_or_ge f e with q | q
    · exact q
    · have := cnt_le_of (t := t) (gap := gap) q
      omega
  · have e2 : sF t gap n (k + 1) = n := by
      unfold sF
      rw [sxN_of (f := n) n (fun i hi _ => by have := cnt_le_of (t := t) (gap := gap) (show i + 1 ≤ n by omega); omega) (fun i hi hin => by omega)]
      omega
    rw [e2]
    exact ⟨h1, Nat.le_refl _, h2, h3⟩
theorem sSum_bd {Ψ : Fs} (hk : okX Ψ) {k : Nat} (h : k < cnt (k1 Ψ.1.2.2.2) (Ψ.1.1 18) Ψ.1.2.2.2.length) : 0 ≤ sSum Ψ k ∧ sSum Ψ k ≤ 1000000 := by
  obtain ⟨⟨hsc, hse, hsh, hge, hmk⟩, -, -⟩ := hk
  obtain ⟨h1, h2, h3, h4⟩ := sF_at h
  unfold sSum
  generalize sF (k1 Ψ.1.2.2.2) (Ψ.1.1 18) Ψ.1.2.2.2.length k = f at *
  generalize sF (k1 Ψ.1.2.2.2) (Ψ.1.1 18) Ψ.1.2.2.2.length (k + 1) = e at *
  have hlen := hmk.1
  have hT : okT (k1 Ψ.1.2.2.2) Ψ.1.2.2.2.length := by
    have e0 : Ψ.1.2.2.2 = lst (k1 Ψ.1.2.2.2) (k2 Ψ.1.2.2.2) (k3 Ψ.1.2.2.2) Ψ.1.2.2.2.length := by
      apply List.ext_getElem
      · rw [lst_len]
      · intro i hi1 hi2
        simp [lst, k1, k2, k3, List.getD_eq_getElem?_getD, hi1]
    exact okT_of (p := k2 Ψ.1.2.2.2) (v := k3 Ψ.1.2.2.2) (by rw [← e0]; exact hmk) hsc.1.2
  have hb := lossTo_bd hT (mul_bd hse.1 hse.2.1) (f := f) (e - f - 1) (by omega)
  have ha : 0 ≤ amtV (Ψ.1.1 11) f e ∧ amtV (Ψ.1.1 11) f e ≤ 30000 := by
    unfold amtV
    refine ⟨Int.mul_nonneg (by omega) (by have := hse.1; omega), ?_⟩
    have g1 : ((e : Int) - f) * Ψ.1.1 11 ≤ 60 * Ψ.1.1 11 := Int.mul_le_mul_of_nonneg_right (by omega) (by have := hse.1; omega)
    have := hse.1
    omega
  omega
theorem grB_bd {Ψ : Fs} (hk : okX Ψ) : ∀ k, k ≤ cnt (k1 Ψ.1.2.2.2) (Ψ.1.1 18) Ψ.1.2.2.2.length → -1 ≤ (grB Ψ k).2 ∧ (grB Ψ k).2 ≤ 1000000 := by
  intro k
  induction k with
  | zero => intro _; simp [grB]
  | succ k ih =>
    intro h
    have h1 := ih (by omega)
    have h2 := sSum_bd hk (show k < _ by omega)
    simp only [grB]
    split
    · simp only; omega
    · exact h1
set_option maxRecDepth 100000 in
set_option maxHeartbeats 4000000 in
theorem c_greatestStorm (lc : Launch) (G : Gc) (E : Wd) (nh : Nat) {Ψ : Fs} (h : isX G E Ψ) (hk : okX Ψ) : CI lc G 5 yX11_greatestStorm cX11_greatestStorm 9 .int [.ref (gb G + 0)] E nh 0 0 (fun r E' => r = vGre2 Ψ ∧ E' = E) := by
  refine CI.mk (by decide +kernel) rfl (Nat.le_of_ble_eq_true rfl) ?_
  intro X hG hL cx hR hI
  subst hG; subst hL
  show V X E (nh, 0, 0) 0 [some (.ref (gb (fG X) + 0)), none, none, none, none, none, none, none, none] []
  have hX := h
  have hk0 := hk
  obtain ⟨⟨s, sh, ge, mk⟩, hs, tx⟩ := Ψ
  obtain ⟨hxr, hS, hH⟩ := h.split
  obtain ⟨⟨hsc, hse, hsh, hge, hmk⟩, -, -⟩ := hk
  simp only at hS hH hxr hsc hse hmk
  obtain ⟨st, n, b, l, r, fc, fd, B, cr, cn, ng, gf, gs, nm, t, p, v, tk, fell, ⟨s0, s1, s2, s3, s4, s5, s6, s7⟩, q1, q2, q3, q4, q5, q6, q7, ⟨q8, q8n⟩, ⟨q9, q9n⟩, q10, q11⟩ := id hS
  simp only at q9
  subst q9
  have hx0 := hxr.1
  have a7 : st 7 = s 18 := q1 7 (by omega)
  have hT := okT_of hmk hsc.1.2
  have hg := hse.2.2.2.2.2.2.2
  obtain ⟨s70, s71, s72, s73⟩ := id s7
  have hcn : cnt (k1 (lst t p v nm)) (s 18) (lst t p v nm).length = cnt t (s 18) nm := by rw [lst_len]; exact cnt_ext nm (fun j hj => (k_lst hj).1)
  have hbx : ∀ i, i < nm → (beg t (s 18) i ↔ beg (k1 (lst t p v nm)) (s 18) i) := fun i hi => beg_ext (fun j hj => (k_lst (by omega)).1.symm)
  have hcx : ∀ i, i ≤ nm → cnt (k1 (lst t p v nm)) (s 18) i = cnt t (s 18) i := fun i hi => cnt_ext i (fun j hj => (k_lst (by omega)).1)
  have hcl := cnt_le t (s 18) nm
  have hgb := grB_bd hk0
  have hsb := fun k => sSum_bd hk0 (k := k)
  simp only [hcn] at hgb hsb
  have loop : ∀ (d k : Nat) (x6 x7 x8 : Option Value), k ≤ cnt t (s 18) nm → cnt t (s 18) nm - k < d → c1 x6 = true → c1 x7 = true → V X E (nh, 0, 0) 32 [some (.ref (gb (fG X) + 0)), some (.int (iI (s 18))), some (.int (iI (cnt t (s 18) nm : Int))), some (.int (iI (grB ((s, sh, ge, lst t p v nm), hs, tx) k).1)), some (.int (iI (grB ((s, sh, ge, lst t p v nm), hs, tx) k).2)), some (.int (iI (k : Int))), x6, x7, x8] [] := by
    intro d
    induction d with
    | zero => intro k x6 x7 x8 hk hd; omega
    | succ d ih =>
      intro k x6 x7 x8 hk hd c6 c7
      have b1 := hgb k hk
      refine v_iload (pc := 32) cx ga5 dX11_greatestStorm_32 ?_
      refine v_iload_n (pc := 34) cx rfl ga2 dX11_greatestStorm_34 ?_
      refine v_icmp_ge (pc := 35) cx 107 dX11_greatestStorm_35 rfl (by omega) (fun c35 => ?_) (fun c35 => ?_)
      · have e : k = cnt t (s 18) nm := by omega
        refine v_iload_n (pc := 107) cx rfl ga3 dX11_greatestStorm_107 ?_
        refine v_ireturn (pc := 108) cx hI rfl ?_ dX11_greatestStorm_108
        refine ⟨?_, rfl⟩
        unfold vGre2
        simp only [hcn]
        rw [e]
      · have b2 := hsb k (by omega)
        refine v_aload_n (pc := 38) cx rfl ga0 dX11_greatestStorm_38 ?_
        refine v_getfield (pc := 39) cx flX11_10 (by assumption) gf0 dX11_greatestStorm_39 ?_
        refine v_getfield (pc := 42) cx flX11_142 (by assumption) gf6 dX11_greatestStorm_42 ?_
        refine v_iload (pc := 45) cx ga5 dX11_greatestStorm_45 ?_
        refine v_iload_n (pc := 47) cx rfl ga1 dX11_greatestStorm_47 ?_
        refine v_callVI (pc := 48) cx hR (c_Mk_firstOfStorm _ _ _ _ s7 q9n hT hg (by omega)) mlX11_197 (by decide) (by assumption) rfl rfl rfl (Nat.le_of_ble_eq_true rfl) ⟨Nat.le_refl _, Nat.le_refl _⟩ dX11_greatestStorm_48 (fun r1 E1 hP => ?_)
        obtain ⟨hor, rfl⟩ := hP
        rcases hor with ⟨f, f1, f2, f3, rfl⟩ | ⟨rfl, hno⟩
        · refine v_istore (pc := 51) cx (sa6 rfl) dX11_greatestStorm_51 ?_
          refine v_aload_n (pc := 53) cx rfl ga0 dX11_greatestStorm_53 ?_
          refine v_getfield (pc := 54) cx flX11_10 (by assumption) gf0 dX11_greatestStorm_54 ?_
          refine v_getfield (pc := 57) cx flX11_142 (by assumption) gf6 dX11_greatestStorm_57 ?_
          refine v_iload (pc := 60) cx ga6 dX11_greatestStorm_60 ?_
          refine v_iload_n (pc := 62) cx rfl ga1 dX11_greatestStorm_62 ?_
          refine v_callVI (pc := 63) cx hR (c_Mk_endOfStorm _ _ _ _ s7 q9n hT hg f1) mlX11_200 (by decide) (by assumption) rfl rfl rfl (Nat.le_of_ble_eq_true rfl) ⟨Nat.le_refl _, Nat.le_refl _⟩ dX11_greatestStorm_63 (fun r2 E2 hP => ?_)
          obtain ⟨⟨e, e1, e2, e3, e4, rfl⟩, rfl⟩ := hP
          have hkn : k = cnt t (s 18) f := by omega
          have hsf : sF (k1 (lst t p v nm)) (s 18) (lst t p v nm).length k = f := by
            rw [lst_len, hkn, ← hcx f (by omega)]
            exact sF_first f1 ((hbx f f1).mp f2)
          have hse2 : sF (k1 (lst t p v nm)) (s 18) (lst t p v nm).length (k + 1) = e := by
            rw [lst_len, hkn, ← hcx f (by omega)]
            refine sF_end ((hbx f f1).mp f2) e1 e2 (fun j hj1 hj2 hb => e3 j hj1 hj2 ((hbx j (by omega)).mpr hb)) ?_
            rcases e4 with e4 | e4
            · exact Or.inl e4
            · by_cases q : e = nm
              · exact Or.inl q
              · exact Or.inr ((hbx e (by omega)).mp e4)
          refine v_istore (pc := 66) cx (sa7 rfl) dX11_greatestStorm_66 ?_
          refine v_aload_n (pc := 68) cx rfl ga0 dX11_greatestStorm_68 ?_
          refine v_iload (pc := 69) cx ga6 dX11_greatestStorm_69 ?_
          refine v_iload (pc := 71) cx ga7 dX11_greatestStorm_71 ?_
          refine v_callVI (pc := 73) cx hR (c_amountOf _ _ _ _ hX (by omega)) mlX11_206 (by decide) (by assumption) rfl rfl rfl (Nat.le_of_ble_eq_true rfl) ⟨Nat.le_refl _, Nat.le_refl _⟩ dX11_greatestStorm_73 (fun r3 E3 hP => ?_)
          obtain ⟨rfl, rfl⟩ := hP
          refine v_aload_n (pc := 76) cx rfl ga0 dX11_greatestStorm_76 ?_
          refine v_iload (pc := 77) cx ga6 dX11_greatestStorm_77 ?_
          refine v_iload (pc := 79) cx ga7 dX11_greatestStorm_79 ?_
          refine v_callVI (pc := 81) cx hR (c_lossOf _ _ _ _ hX hk0 ⟨e1, by simp only [lst_len]; exact e2⟩) mlX11_209 (by decide) (by assumption) rfl rfl rfl (Nat.le_of_ble_eq_true rfl) ⟨Nat.le_refl _, Nat.le_refl _⟩ dX11_greatestStorm_81 (fun r4 E4 hP => ?_)
          obtain ⟨rfl, rfl⟩ := hP
          have hsum : amtV (s 11) f e + lossTo (k1 (lst t p v nm)) (s 11 * s 12) f (e - f - 1) = sSum ((s, sh, ge, lst t p v nm), hs, tx) k := by
            unfold sSum
            simp only [hsf, hse2]
          refine v_iadd (pc := 84) cx dX11_greatestStorm_84 ?_
          rw [hsum]
          refine v_istore (pc := 85) cx (sa8 rfl) dX11_greatestStorm_85 ?_
          refine v_iload (pc := 87) cx ga8 dX11_greatestStorm_87 ?_
          refine v_iload (pc := 89) cx ga4 dX11_greatestStorm_89 ?_
          refine v_icmp_le (pc := 91) cx 101 dX11_greatestStorm_91 rfl (by omega) (fun c91 => ?_) (fun c91 => ?_)
          · refine v_iinc (pc := 101) cx ga5 (sa5 rfl) dX11_greatestStorm_101 ?_
            refine v_goto (pc := 104) cx 32 dX11_greatestStorm_104 rfl ?_
            have e5 : grB ((s, sh, ge, lst t p v nm), hs, tx) (k + 1) = grB ((s, sh, ge, lst t p v nm), hs, tx) k := by
              simp only [grB]
              rw [if_neg (by omega)]
            rw [← e5]
            exact ih (k + 1) _ _ _ (by omega) (by omega) rfl rfl
          · refine v_iload (pc := 94) cx ga8 dX11_greatestStorm_94 ?_
            refine v_istore (pc := 96) cx (sa4 rfl) dX11_greatestStorm_96 ?_
            refine v_iload (pc := 98) cx ga5 dX11_greatestStorm_98 ?_
            refine v_istore_n (pc := 100) cx rfl (sa3 rfl) dX11_greatestStorm_100 ?_
            refine v_iinc (pc := 101) cx ga5 (sa5 rfl) dX11_greatestStorm_101 ?_
            refine v_goto (pc := 104) cx 32 dX11_greatestStorm_104 rfl ?_
            have e5 : grB ((s, sh, ge, lst t p v nm), hs, tx) (k + 1) = ((k : Int), sSum ((s, sh, ge, lst t p v nm), hs, tx) k) := by
              simp only [grB]
              rw [if_pos (by omega)]
            have := ih (k + 1) (some (.int (iI (f : Int)))) (some (.int (iI (e : Int)))) (some (.int (iI (sSum ((s, sh, ge, lst t p v nm), hs, tx) k)))) (by omega) (by omega) rfl rfl
            rw [e5] at this
            exact this
        · obtain ⟨f, f1, f2, f3⟩ := cnt_find (t := t) (gap := s 18) (k := k) nm (by omega)
          exact absurd (by omega) (hno f f1 f2)
  refine v_aload_n (pc := 0) cx rfl ga0 dX11_greatestStorm_0 ?_
  refine v_getfield (pc := 1) cx flX11_10 (by assumption) gf0 dX11_greatestStorm_1 ?_
  refine v_getfield (pc := 4) cx flX11_111 (by assumption) gf0 dX11_greatestStorm_4 ?_
  refine v_bipush (pc := 7) cx (by decide) dX11_greatestStorm_7 ?_
  refine v_iaload (pc := 9) cx (7) (by assumption) (by omega) dX11_greatestStorm_9 ?_
  refine v_istore_n (pc := 10) cx rfl (sa1 rfl) dX11_greatestStorm_10 ?_
  refine v_aload_n (pc := 11) cx rfl ga0 dX11_greatestStorm_11 ?_
  refine v_getfield (pc := 12) cx flX11_10 (by assumption) gf0 dX11_greatestStorm_12 ?_
  refine v_getfield (pc := 15) cx flX11_142 (by assumption) gf6 dX11_greatestStorm_15 ?_
  refine v_iload_n (pc := 18) cx rfl ga1 dX11_greatestStorm_18 ?_
  rw [a7]
  refine v_callVI (pc := 19) cx hR (c_Mk_countStorms _ _ _ _ s7 q9n hT hg) mlX11_149 (by decide) (by assumption) rfl rfl rfl (Nat.le_of_ble_eq_true rfl) ⟨Nat.le_refl _, Nat.le_refl _⟩ dX11_greatestStorm_19 (fun r1 E1 hP => ?_)
  obtain ⟨rfl, rfl⟩ := hP
  refine v_istore_n (pc := 22) cx rfl (sa2 rfl) dX11_greatestStorm_22 ?_
  refine v_bipush (pc := 23) cx (by decide) dX11_greatestStorm_23 ?_
  refine v_istore_n (pc := 25) cx rfl (sa3 rfl) dX11_greatestStorm_25 ?_
  refine v_iconst (pc := 26) cx dX11_greatestStorm_26 ?_
  refine v_istore (pc := 27) cx (sa4 rfl) dX11_greatestStorm_27 ?_
  refine v_iconst (pc := 29) cx dX11_greatestStorm_29 ?_
  refine v_istore (pc := 30) cx (sa5 rfl) dX11_greatestStorm_30 ?_
  exact loop (cnt t (s 18) nm + 1) 0 none none none (Nat.zero_le _) (by omega) rfl rfl
def vGap (Ψ : Fs) : Int := if Ψ.1.2.2.2.length = 0 then -4 else if 1000 < max 1 (mxG (k1 Ψ.1.2.2.2) Ψ.1.2.2.2.length) then -4 else max 1 (mxG (k1 Ψ.1.2.2.2) Ψ.1.2.2.2.length)
theorem mxG_ext {t t' : Nat → Int} : ∀ m, (∀ j, j < m → t j = t' j) → mxG t m = mxG t' m := by
  intro m
  induction m with
  | zero => intro _; rfl
  | succ m ih =>
    intro h
    simp only [mxG]
    rw [ih (fun j hj => h j (by omega)), h m (by omega), h (m - 1) (by omega)]
set_option maxRecDepth 100000 in
set_option maxHeartbeats 4000000 in
theorem c_gapForOne (lc : Launch) (G : Gc) (E : Wd) (nh : Nat) {Ψ : Fs} (h : isX G E Ψ) (hk : okX Ψ) : CI lc G 5 yX11_gapForOne cX11_gapForOne 2 .int [.ref (gb G + 0)] E nh 0 0 (fun r E' => r = vGap Ψ ∧ E' = E) := by
  refine CI.mk (by decide +kernel) rfl (Nat.le_of_ble_eq_true rfl) ?_
  intro X hG hL cx hR hI
  subst hG; subst hL
  show V X E (nh, 0, 0) 0 [some (.ref (gb (fG X) + 0)), none] []
  obtain ⟨⟨s, sh, ge, mk⟩, hs, tx⟩ := Ψ
  obtain ⟨hxr, hS, hH⟩ := h.split
  obtain ⟨⟨hsc, hse, hsh, hge, hmk⟩, -, -⟩ := hk
  simp only at hS hH hxr hsc hse hmk
  obtain ⟨st, n, b, l, r, fc, fd, B, cr, cn, ng, gf, gs, nm, t, p, v, tk, fell, ⟨s0, s1, s2, s3, s4, s5, s6, s7⟩, q1, q2, q3, q4, q5, q6, q7, ⟨q8, q8n⟩, ⟨q9, q9n⟩, q10, q11⟩ := id hS
  simp only at q9
  subst q9
  have hx0 := hxr.1
  have hT := okT_of hmk hsc.1.2
  obtain ⟨s70, s71, s72, s73⟩ := id s7
  have hmx := mxG_bd hT nm (Nat.le_refl _)
  have emx : mxG (k1 (lst t p v nm)) nm = mxG t nm := mxG_ext nm (fun j hj => (k_lst hj).1)
  refine v_aload_n (pc := 0) cx rfl ga0 dX11_gapForOne_0 ?_
  refine v_getfield (pc := 1) cx flX11_10 (by assumption) gf0 dX11_gapForOne_1 ?_
  refine v_getfield (pc := 4) cx flX11_142 (by assumption) gf6 dX11_gapForOne_4 ?_
  refine v_getfield (pc := 7) cx flX11_146 (by assumption) gf3 dX11_gapForOne_7 ?_
  refine v_if_ne (pc := 10) cx 16 dX11_gapForOne_10 rfl (by omega) (fun c10 => ?_) (fun c10 => ?_)
  · refine v_iconst (pc := 16) cx dX11_gapForOne_16 ?_
    refine v_aload_n (pc := 17) cx rfl ga0 dX11_gapForOne_17 ?_
    refine v_getfield (pc := 18) cx flX11_10 (by assumption) gf0 dX11_gapForOne_18 ?_
    refine v_getfield (pc := 21) cx flX11_142 (by assumption) gf6 dX11_gapForOne_21 ?_
    refine v_callVI (pc := 24) cx hR (c_Mk_widestGap _ _ _ _ s7 q9n hT) mlX11_215 (by decide) (by assumption) rfl rfl rfl (Nat.le_of_ble_eq_true rfl) ⟨Nat.le_refl _, Nat.le_refl _⟩ dX11_gapForOne_24 (fun r1 E1 hP => ?_)
    obtain ⟨rfl, rfl⟩ := hP
    refine v_callSI (pc := 27) cx hR (c_max _ _ _ _ (by omega)) mlX11_218 (by decide) rfl (Nat.le_of_ble_eq_true rfl) ⟨Nat.le_refl _, Nat.le_refl _⟩ dX11_gapForOne_27 (fun r2 E2 hP => ?_)
    obtain ⟨rfl, rfl⟩ := hP
    refine v_istore_n (pc := 30) cx rfl (sa1 rfl) dX11_gapForOne_30 ?_
    refine v_iload_n (pc := 31) cx rfl ga1 dX11_gapForOne_31 ?_
    refine v_sipush (pc := 32) cx (by decide) dX11_gapForOne_32 ?_
    refine v_icmp_gt (pc := 35) cx 42 dX11_gapForOne_35 rfl (by omega) (fun c35 => ?_) (fun c35 => ?_)
    · refine v_bipush (pc := 42) cx (by decide) dX11_gapForOne_42 ?_
      refine v_ireturn (pc := 44) cx hI rfl ?_ dX11_gapForOne_44
      refine ⟨?_, rfl⟩
      unfold vGap
      simp only [lst_len, emx]
      rw [if_neg (by omega), if_pos (by omega)]
    · refine v_iload_n (pc := 38) cx rfl ga1 dX11_gapForOne_38 ?_
      refine v_goto (pc := 39) cx 44 dX11_gapForOne_39 rfl ?_
      refine v_ireturn (pc := 44) cx hI rfl ?_ dX11_gapForOne_44
      refine ⟨?_, rfl⟩
      unfold vGap
      simp only [lst_len, emx]
      rw [if_neg (by omega), if_neg (by omega)]
  · refine v_bipush (pc := 13) cx (by decide) dX11_gapForOne_13 ?_
    refine v_ireturn (pc := 15) cx hI rfl ?_ dX11_gapForOne_15
    refine ⟨?_, rfl⟩
    unfold vGap
    simp only [lst_len]
    rw [if_pos (by omega)]
