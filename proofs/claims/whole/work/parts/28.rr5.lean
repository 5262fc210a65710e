def vTyp (Ψ : Fs) (c : Int) : Int := if ¬ (32 ≤ c ∧ c ≤ 126) then -1 else if 100 ≤ Ψ.2.2.length then -3 else (Ψ.2.2.length : Int) + 1
def sTyp (Ψ : Fs) (c : Int) : Fs := if ¬ (32 ≤ c ∧ c ≤ 126) then Ψ else if 100 ≤ Ψ.2.2.length then Ψ else (Ψ.1, Ψ.2.1, Ψ.2.2 ++ [c])
set_option maxRecDepth 100000 in
set_option maxHeartbeats 4000000 in
theorem c_type (lc : Launch) (G : Gc) (E : Wd) (nh : Nat) {Ψ : Fs} {k : Int} (h : isX G E Ψ) (hk : okX Ψ) (hk0 : -2147483648 ≤ k ∧ k < 2147483648) : CI lc G 5 yX11_type cX11_type 2 .int [.ref (gb G + 0), .int (iI k)] E nh 0 0 (fun r E' => r = vTyp Ψ k ∧ isX G E' (sTyp Ψ k) ∧ Out E E' 0 124) := by
  refine CI.mk (by decide +kernel) rfl (Nat.le_of_ble_eq_true rfl) ?_
  intro X hG hL cx hR hI
  subst hG; subst hL
  show V X E (nh, 0, 0) 0 [some (.ref (gb (fG X) + 0)), some (.int (iI k))] []
  have hX := h
  have hlen := hk.2.2.1
  obtain ⟨x0, x1, ⟨τ, x17⟩, x33, ⟨ko, lo0, do0, x115⟩, x118, ⟨b1, b2, b3, b4, b5, b6, b7, x120⟩⟩ := id h
  obtain ⟨ch, ⟨t0, t1⟩, t2⟩ := id x118
  refine v_iload_n (pc := 0) cx rfl ga1 dX11_type_0 ?_
  refine v_bipush (pc := 1) cx (by decide) dX11_type_1 ?_
  refine v_bipush (pc := 3) cx (by decide) dX11_type_3 ?_
  refine v_callSI (pc := 5) cx hR (c_isWithin _ _ _ _ (by omega)) mlX11_51 (by decide) rfl (Nat.le_of_ble_eq_true rfl) ⟨Nat.le_refl _, Nat.le_refl _⟩ dX11_type_5 (fun r1 E1 hP => ?_)
  obtain ⟨w1, rfl⟩ := hP
  refine v_if_ne (pc := 8) cx 13 dX11_type_8 rfl (by omega) (fun c8 => ?_) (fun c8 => ?_)
  · refine v_aload_n (pc := 13) cx rfl ga0 dX11_type_13 ?_
    refine v_getfield (pc := 14) cx flX11_36 (by assumption) gf4 dX11_type_14 ?_
    refine v_getfield (pc := 17) cx flX11_178 (by assumption) gf1 dX11_type_17 ?_
    refine v_bipush (pc := 20) cx (by decide) dX11_type_20 ?_
    refine v_icmp_lt (pc := 22) cx 28 dX11_type_22 rfl (by omega) (fun c22 => ?_) (fun c22 => ?_)
    · refine v_aload_n (pc := 28) cx rfl ga0 dX11_type_28 ?_
      refine v_getfield (pc := 29) cx flX11_36 (by assumption) gf4 dX11_type_29 ?_
      refine v_iload_n (pc := 32) cx rfl ga1 dX11_type_32 ?_
      refine v_i2c (pc := 33) cx (by omega) dX11_type_33 ?_
      refine v_callVV (pc := 34) cx hR (c_Tx_append _ _ _ _ x118 (by omega) (by omega)) mlX11_241 (by decide) (by assumption) rfl rfl rfl (Nat.le_of_ble_eq_true rfl) ⟨Nat.le_refl _, Nat.le_refl _⟩ dX11_type_34 (fun E2 hP => ?_)
      obtain ⟨y118, hF⟩ := hP
      obtain ⟨ch', ⟨u0, u1⟩, u2⟩ := id y118
      replace x0 := (hF _ (by omega)).trans x0
      refine v_aload_n (pc := 37) cx rfl ga0 dX11_type_37 ?_
      refine v_getfield (pc := 38) cx flX11_36 (by assumption) gf4 dX11_type_38 ?_
      refine v_getfield (pc := 41) cx flX11_178 (by assumption) gf1 dX11_type_41 ?_
      refine v_ireturn (pc := 44) cx hI rfl ?_ dX11_type_44
      unfold vTyp sTyp
      rw [if_neg (by omega), if_neg (by omega), if_neg (by omega), if_neg (by omega)]
      refine ⟨by rw [List.length_append]; rfl, ⟨x0, x1.out hF (by omega), ⟨τ, x17.out hF (by omega)⟩, x33.out hF (by omega), ⟨ko, lo0, do0, x115.out hF (by omega)⟩, y118, ⟨b1, b2, b3, b4, b5, b6, b7, x120.out hF (by omega)⟩⟩, fun j hj => hF j (by omega)⟩
    · refine v_bipush (pc := 25) cx (by decide) dX11_type_25 ?_
      refine v_ireturn (pc := 27) cx hI rfl ?_ dX11_type_27
      unfold vTyp sTyp
      rw [if_neg (by omega), if_pos (by omega), if_neg (by omega), if_pos (by omega)]
      exact ⟨rfl, hX, fun _ _ => rfl⟩
  · refine v_iconst (pc := 11) cx dX11_type_11 ?_
    refine v_ireturn (pc := 12) cx hI rfl ?_ dX11_type_12
    unfold vTyp sTyp
    rw [if_pos (by omega), if_pos (by omega)]
    exact ⟨rfl, hX, fun _ _ => rfl⟩
set_option maxRecDepth 100000 in
set_option maxHeartbeats 4000000 in
theorem c_clearText (lc : Launch) (G : Gc) (E : Wd) (nh : Nat) {Ψ : Fs} (h : isX G E Ψ) (hk : okX Ψ) : CI lc G 5 yX11_clearText cX11_clearText 2 .int [.ref (gb G + 0)] E nh 0 0 (fun r E' => r = (Ψ.2.2.length : Int) ∧ isX G E' (Ψ.1, Ψ.2.1, []) ∧ Out E E' 0 124) := by
  refine CI.mk (by decide +kernel) rfl (Nat.le_of_ble_eq_true rfl) ?_
  intro X hG hL cx hR hI
  subst hG; subst hL
  show V X E (nh, 0, 0) 0 [some (.ref (gb (fG X) + 0)), none] []
  obtain ⟨x0, x1, ⟨τ, x17⟩, x33, ⟨ko, lo0, do0, x115⟩, ⟨ch, ⟨t0, t1⟩, t2⟩, ⟨b1, b2, b3, b4, b5, b6, b7, x120⟩⟩ := id h
  refine v_aload_n (pc := 0) cx rfl ga0 dX11_clearText_0 ?_
  refine v_getfield (pc := 1) cx flX11_36 (by assumption) gf4 dX11_clearText_1 ?_
  refine v_getfield (pc := 4) cx flX11_178 (by assumption) gf1 dX11_clearText_4 ?_
  refine v_istore_n (pc := 7) cx rfl (sa1 rfl) dX11_clearText_7 ?_
  refine v_aload_n (pc := 8) cx rfl ga0 dX11_clearText_8 ?_
  refine v_getfield (pc := 9) cx flX11_36 (by assumption) gf4 dX11_clearText_9 ?_
  refine v_iconst (pc := 12) cx dX11_clearText_12 ?_
  refine v_putfield (pc := 13) cx fpX11_178 t0 ⟨rfl, rfl⟩ pf1 dX11_clearText_13 (fun E13 hE13 hF13 => ?_)
  replace x0 := (hF13 _ (by omega)).trans x0
  replace t0 := hE13
  replace t1 := (hF13 _ (by omega)).trans t1
  have hF : Out E E13 118 119 := fun j hj => hF13 j (by omega)
  refine v_iload_n (pc := 16) cx rfl ga1 dX11_clearText_16 ?_
  refine v_ireturn (pc := 17) cx hI rfl ?_ dX11_clearText_17
  exact ⟨rfl, ⟨x0, x1.out hF (by omega), ⟨τ, x17.out hF (by omega)⟩, x33.out hF (by omega), ⟨ko, lo0, do0, x115.out hF (by omega)⟩, ⟨ch, ⟨t0, t1⟩, fun j hj => by simp at hj⟩, ⟨b1, b2, b3, b4, b5, b6, b7, x120.out hF (by omega)⟩⟩, fun j hj => hF j (by omega)⟩
def rdX (Ψ : Fs) : Nat × Int × List (Int × Int × Int) := prs Ψ.2.2 (Ψ.1.1 0) (Ψ.1.2.1.length : Int) 13 [] 0
theorem prs_ok {tx : List Int} {tick told : Int} (htk : 0 ≤ tick) : ∀ (k : Nat) (acc : List (Int × Int × Int)) (p : Nat), told + acc.length ≤ 12 → (∀ x ∈ acc, (tick ≤ x.1 ∧ x.1 ≤ 5000) ∧ (1 ≤ x.2.1 ∧ x.2.1 ≤ 500) ∧ (1 ≤ x.2.2 ∧ x.2.2 ≤ 200)) →
    told + (prs tx tick told k acc p).2.2.length ≤ 12 ∧ (∀ x ∈ (prs tx tick told k acc p).2.2, (tick ≤ x.1 ∧ x.1 ≤ 5000) ∧ (1 ≤ x.2.1 ∧ x.2.1 ≤ 500) ∧ (1 ≤ x.2.2 ∧ x.2.2 ≤ 200)) ∧ 0 ≤ (prs tx tick told k acc p).2.1 ∧ (prs tx tick told k acc p).2.1 ≤ 4 := by
  intro k
  induction k with
  | zero => intro acc p h1 h2; exact ⟨h1, h2, by simp [prs], by simp [prs]⟩
  | succ k ih =>
    intro acc p h1 h2
    have hb := shR_bd (tx := tx) (tick := tick) (told := told) (sz := acc.length) (p := p)
    simp only [prs]
    split
    · split
      · rename_i h3
        have v1 := nv_bd tx p
        have key : ¬ 12 ≤ told + acc.length ∧ ¬ (5000 < tick + nv tx p ∨ ¬ (1 ≤ nv tx (nx tx p) ∧ nv tx (nx tx p) ≤ 500) ∨ ¬ (1 ≤ nv tx (nx tx (nx tx p)) ∧ nv tx (nx tx (nx tx p)) ≤ 200)) := by
          unfold shR at h3
          split at h3
          · exact absurd h3 (by assumption)
          · split at h3
            · exact absurd h3 (by assumption)
            · split at h3
              · exact absurd h3 (by assumption)
              · split at h3
                · omega
                · split at h3
                  · omega
                  · exact ⟨by assumption, by assumption⟩
        refine ih (acc ++ [shV tx tick p]) (shN tx p) (by rw [List.length_append, List.length_singleton]; omega) (fun x hx => ?_)
        rcases List.mem_append.mp hx with hx | hx
        · exact h2 x hx
        · rw [List.mem_singleton.mp hx]
          simp only [shV]
          omega
      · exact ⟨h1, h2, hb.1, hb.2⟩
    · exact ⟨h1, h2, by simp, by simp⟩
theorem rdX_ok {Ψ : Fs} (hk : okX Ψ) : (Ψ.1.2.1.length : Int) + (rdX Ψ).2.2.length ≤ 12 ∧ (∀ x ∈ (rdX Ψ).2.2, (Ψ.1.1 0 ≤ x.1 ∧ x.1 ≤ 5000) ∧ (1 ≤ x.2.1 ∧ x.2.1 ≤ 500) ∧ (1 ≤ x.2.2 ∧ x.2.2 ≤ 200)) ∧ 0 ≤ (rdX Ψ).2.1 ∧ (rdX Ψ).2.1 ≤ 4 := by
  obtain ⟨⟨hsc, hse, hsh, hge, hmk⟩, -, -⟩ := hk
  exact prs_ok hsc.1.1 13 [] 0 (by have := hsh.1; simp; omega) (fun x hx => by simp at hx)
def vFau (Ψ : Fs) (w : Int) : Int := if ¬ (0 ≤ w ∧ w ≤ 1) then -1 else if (rdX Ψ).2.1 = 0 then -4 else if w = 0 then ((rdX Ψ).1 : Int) else (rdX Ψ).2.1
set_option maxRecDepth 100000 in
set_option maxHeartbeats 4000000 in
theorem c_fault (lc : Launch) (G : Gc) (E : Wd) (nh : Nat) {Ψ : Fs} {w : Int} (h : isX G E Ψ) (hk : okX Ψ) (hw : -2147483648 ≤ w ∧ w < 2147483648) : CI lc G 5 yX11_fault cX11_fault 2 .int [.ref (gb G + 0), .int (iI w)] E nh 0 0 (fun r E' => r = vFau Ψ w ∧ isX G E' Ψ ∧ Out E E' 0 124) := by
  refine CI.mk (by decide +kernel) rfl (Nat.le_of_ble_eq_true rfl) ?_
  intro X hG hL cx hR hI
  subst hG; subst hL
  show V X E (nh, 0, 0) 0 [some (.ref (gb (fG X) + 0)), some (.int (iI w))] []
  have hX := h
  obtain ⟨x0, x1, ⟨τ, x17⟩, x33, ⟨ko, lo0, do0, x115⟩, x118, ⟨b1, b2, b3, b4, b5, b6, b7, x120⟩⟩ := id h
  obtain ⟨st, n, b, l, r, fc, fd, B, cr, cn, ng, gf, gs, nm, t, p, v, tk, fell, ⟨s0, s1, s2, s3, s4, s5, s6, s7⟩, q1, q2, q3, q4, q5, q6, q7, ⟨q8, q8n⟩, ⟨q9, q9n⟩, q10, q11⟩ := id x1
  obtain ⟨⟨hsc, hse, hsh, hge, hmk⟩, -, -⟩ := id hk
  have s20 := s2.1
  have x120o := x120.1
  have hn : (n : Int) = (Ψ.1.2.1.length : Int) := by rw [← q2, lst_len]
  refine v_iload_n (pc := 0) cx rfl ga1 dX11_fault_0 ?_
  refine v_iconst (pc := 1) cx dX11_fault_1 ?_
  refine v_iconst (pc := 2) cx dX11_fault_2 ?_
  refine v_callSI (pc := 3) cx hR (c_isWithin _ _ _ _ (by omega)) mlX11_51 (by decide) rfl (Nat.le_of_ble_eq_true rfl) ⟨Nat.le_refl _, Nat.le_refl _⟩ dX11_fault_3 (fun r1 E1 hP => ?_)
  obtain ⟨w1, rfl⟩ := hP
  refine v_if_ne (pc := 6) cx 11 dX11_fault_6 rfl (by omega) (fun c6 => ?_) (fun c6 => ?_)
  · refine v_aload_n (pc := 11) cx rfl ga0 dX11_fault_11 ?_
    refine v_getfield (pc := 12) cx flX11_43 (by assumption) gf5 dX11_fault_12 ?_
    refine v_aload_n (pc := 15) cx rfl ga0 dX11_fault_15 ?_
    refine v_getfield (pc := 16) cx flX11_36 (by assumption) gf4 dX11_fault_16 ?_
    refine v_aload_n (pc := 19) cx rfl ga0 dX11_fault_19 ?_
    refine v_getfield (pc := 20) cx flX11_10 (by assumption) gf0 dX11_fault_20 ?_
    refine v_getfield (pc := 23) cx flX11_47 (by assumption) gf7 dX11_fault_23 ?_
    refine v_aload_n (pc := 26) cx rfl ga0 dX11_fault_26 ?_
    refine v_getfield (pc := 27) cx flX11_10 (by assumption) gf0 dX11_fault_27 ?_
    refine v_getfield (pc := 30) cx flX11_55 (by assumption) gf1 dX11_fault_30 ?_
    refine v_getfield (pc := 33) cx flX11_59 (by assumption) gf3 dX11_fault_33 ?_
    rw [hn, q10]
    refine v_callVV (pc := 36) cx hR (c_Rd_read _ _ _ _ x120 x118 hk.2.2 (by omega) hsc.1 (by have := hsh.1; omega)) mlX11_244 (by decide) (by assumption) rfl rfl rfl (Nat.le_of_ble_eq_true rfl) ⟨Nat.le_refl _, Nat.le_refl _⟩ dX11_fault_36 (fun E2 hP => ?_)
    obtain ⟨⟨pos, nxt, sz, b', l', r', y120, hsz, hacc, hpos⟩, hF⟩ := hP
    replace x0 := (hF _ (by omega)).trans x0
    have y0 := y120.1
    have hrk := rdX_ok hk
    have hre : prs Ψ.2.2 (Ψ.1.1 0) (Ψ.1.2.1.length : Int) 13 [] 0 = rdX Ψ := rfl
    rw [hre] at y120 hacc hpos y0
    have hres : isX (fG X) E2 Ψ := ⟨x0, x1.out hF (by omega), ⟨τ, x17.out hF (by omega)⟩, x33.out hF (by omega), ⟨ko, lo0, do0, x115.out hF (by omega)⟩, x118.out hF (by omega), ⟨_, _, _, _, b', l', r', y120⟩⟩
    have hO : Out E1 E2 0 124 := fun j hj => hF j (by omega)
    refine v_aload_n (pc := 39) cx rfl ga0 dX11_fault_39 ?_
    refine v_getfield (pc := 40) cx flX11_43 (by assumption) gf5 dX11_fault_40 ?_
    refine v_getfield (pc := 43) cx flX11_248 (by assumption) gf5 dX11_fault_43 ?_
    refine v_if_ne (pc := 46) cx 52 dX11_fault_46 rfl (by omega) (fun c46 => ?_) (fun c46 => ?_)
    · refine v_iload_n (pc := 52) cx rfl ga1 dX11_fault_52 ?_
      refine v_if_ne (pc := 53) cx 66 dX11_fault_53 rfl (by omega) (fun c53 => ?_) (fun c53 => ?_)
      · refine v_aload_n (pc := 66) cx rfl ga0 dX11_fault_66 ?_
        refine v_getfield (pc := 67) cx flX11_43 (by assumption) gf5 dX11_fault_67 ?_
        refine v_getfield (pc := 70) cx flX11_248 (by assumption) gf5 dX11_fault_70 ?_
        refine v_ireturn (pc := 73) cx hI rfl ?_ dX11_fault_73
        refine ⟨?_, hres, hO⟩
        unfold vFau
        rw [if_neg (by omega), if_neg (by omega), if_neg (by omega)]
      · refine v_aload_n (pc := 56) cx rfl ga0 dX11_fault_56 ?_
        refine v_getfield (pc := 57) cx flX11_43 (by assumption) gf5 dX11_fault_57 ?_
        refine v_getfield (pc := 60) cx flX11_251 (by assumption) gf4 dX11_fault_60 ?_
        refine v_goto (pc := 63) cx 73 dX11_fault_63 rfl ?_
        refine v_ireturn (pc := 73) cx hI rfl ?_ dX11_fault_73
        refine ⟨?_, hres, hO⟩
        unfold vFau
        rw [if_neg (by omega), if_neg (by omega), if_pos (by omega)]
        exact hpos (by omega)
    · refine v_bipush (pc := 49) cx (by decide) dX11_fault_49 ?_
      refine v_ireturn (pc := 51) cx hI rfl ?_ dX11_fault_51
      refine ⟨?_, hres, hO⟩
      unfold vFau
      rw [if_neg (by omega), if_pos (by omega)]
  · refine v_iconst (pc := 9) cx dX11_fault_9 ?_
    refine v_ireturn (pc := 10) cx hI rfl ?_ dX11_fault_10
    refine ⟨?_, hX, fun _ _ => rfl⟩
    unfold vFau
    rw [if_pos (by omega)]
def vLay (Ψ : Fs) : Int := if (rdX Ψ).2.1 = 0 then ((rdX Ψ).2.2.length : Int) else -2
def sLay (Ψ : Fs) : Fs := if (rdX Ψ).2.1 = 0 then ((Ψ.1.1, (rdX Ψ).2.2.foldl insL Ψ.1.2.1, Ψ.1.2.2), keepH Ψ.2.1 Ψ.1, Ψ.2.2) else Ψ
theorem ok_fold : ∀ (A : List (Int × Int × Int)) {L : List (Int × Int × Int)}, okSh L → L.length + A.length ≤ 12 → (∀ x ∈ A, (0 ≤ x.1 ∧ x.1 ≤ 5000) ∧ (1 ≤ x.2.1 ∧ x.2.1 ≤ 500) ∧ (1 ≤ x.2.2 ∧ x.2.2 ≤ 200)) → okSh (A.foldl insL L) ∧ (A.foldl insL L).length = L.length + A.length := by
  intro A
  induction A with
  | nil => intro L h _ _; exact ⟨h, rfl⟩
  | cons a A ih =>
    intro L h hl ha
    rw [List.length_cons] at hl
    have h1 : okSh (insL L a) := ⟨by rw [insL_len]; omega, fun z hz => by
      rcases insL_mem z hz with rfl | hz
      · exact ha z List.mem_cons_self
      · exact h.2 z hz⟩
    have h2 := ih (L := insL L a) h1 (by rw [insL_len]; omega) (fun x hx => ha x (List.mem_cons_of_mem _ hx))
    rw [List.foldl_cons, List.length_cons]
    rw [insL_len] at h2
    exact ⟨h2.1, by omega⟩
set_option maxRecDepth 100000 in
set_option maxHeartbeats 4000000 in
theorem c_lay (lc : Launch) (G : Gc) (E : Wd) (nh : Nat) {Ψ : Fs} (h : isX G E Ψ) (hk : okX Ψ) : CI lc G 5 yX11_lay cX11_lay 2 .int [.ref (gb G + 0)] E nh 0 0 (fun r E' => r = vLay Ψ ∧ isX G E' (sLay Ψ) ∧ Out E E' 0 124) := by
  refine CI.mk (by decide +kernel) rfl (Nat.le_of_ble_eq_true rfl) ?_
  intro X hG hL cx hR hI
  subst hG; subst hL
  show V X E (nh, 0, 0) 0 [some (.ref (gb (fG X) + 0)), none] []
  obtain ⟨x0, x1, ⟨τ, x17⟩, x33, ⟨ko, lo0, do0, x115⟩, x118, ⟨b1, b2, b3, b4, b5, b6, b7, x120⟩⟩ := id h
  obtain ⟨⟨hsc, hse, hsh, hge, hmk⟩, -, -⟩ := id hk
  have hrk := rdX_ok hk
  have ht0 := hsc.1
  have hre : prs Ψ.2.2 (Ψ.1.1 0) (Ψ.1.2.1.length : Int) 13 [] 0 = rdX Ψ := rfl
  obtain ⟨E0, hE0⟩ : ∃ E0 : Wd, E0 = E := ⟨E, rfl⟩
  have start : ∀ (n : Nat) (b l r : Nat → Int) (st : Nat → Int) (fc fd : Int) (B : BT) (cr cn : Int) (ng : Nat) (gf gs : Nat → Int) (nm : Nat) (t p v : Nat → Int) (tk fell : Int), rSt (fG X) E 1 st n b l r fc fd B cr cn ng gf gs nm t p v tk fell → tk = Ψ.1.1 0 → (n : Int) = (Ψ.1.2.1.length : Int) → V X E (nh, 0, 0) 0 [some (.ref (gb (fG X) + 0)), none] [] := by
    intro n b l r st fc fd B cr cn ng gf gs nm t p v tk fell ⟨s0, s1, s2, s3, s4, s5, s6, s7⟩ q10 hn
    have s20 := s2.1
    have x120o := x120.1
    refine v_aload_n (pc := 0) cx rfl ga0 dX11_lay_0 ?_
    refine v_getfield (pc := 1) cx flX11_43 (by assumption) gf5 dX11_lay_1 ?_
    refine v_aload_n (pc := 4) cx rfl ga0 dX11_lay_4 ?_
    refine v_getfield (pc := 5) cx flX11_36 (by assumption) gf4 dX11_lay_5 ?_
    refine v_aload_n (pc := 8) cx rfl ga0 dX11_lay_8 ?_
    refine v_getfield (pc := 9) cx flX11_10 (by assumption) gf0 dX11_lay_9 ?_
    refine v_getfield (pc := 12) cx flX11_47 (by assumption) gf7 dX11_lay_12 ?_
    refine v_aload_n (pc := 15) cx rfl ga0 dX11_lay_15 ?_
    refine v_getfield (pc := 16) cx flX11_10 (by assumption) gf0 dX11_lay_16 ?_
    refine v_getfield (pc := 19) cx flX11_55 (by assumption) gf1 dX11_lay_19 ?_
    refine v_getfield (pc := 22) cx flX11_59 (by assumption) gf3 dX11_lay_22 ?_
    rw [hn, q10]
    refine v_callVV (pc := 25) cx hR (c_Rd_read _ _ _ _ x120 x118 hk.2.2 (by omega) hsc.1 (by have := hsh.1; omega)) mlX11_244 (by decide) (by assumption) rfl rfl rfl (Nat.le_of_ble_eq_true rfl) ⟨Nat.le_refl _, Nat.le_refl _⟩ dX11_lay_25 (fun E2 hP => ?_)
    obtain ⟨⟨pos, nxt, sz, b', l', r', y120, hsz, hacc, hpos⟩, hF⟩ := hP
    rw [hre] at y120 hacc hpos
    have z0 := (hF _ (by omega)).trans x0
    have y0 := y120.1
    have z1 := x1.out hF (by omega)
    have z33 := x33.out hF (by omega)
    refine v_aload_n (pc := 28) cx rfl ga0 dX11_lay_28 ?_
    refine v_getfield (pc := 29) cx flX11_43 (by assumption) gf5 dX11_lay_29 ?_
    refine v_getfield (pc := 32) cx flX11_248 (by assumption) gf5 dX11_lay_32 ?_
    refine v_if_eq (pc := 35) cx 41 dX11_lay_35 rfl (by omega) (fun c35 => ?_) (fun c35 => ?_)
    · have he : (rdX Ψ).2.1 = 0 := by assumption
      rw [he] at y120 y0
      have z330 := z33.obj
      refine v_aload_n (pc := 41) cx rfl ga0 dX11_lay_41 ?_
      refine v_getfield (pc := 42) cx flX11_22 (by assumption) gf2 dX11_lay_42 ?_
      refine v_aload_n (pc := 45) cx rfl ga0 dX11_lay_45 ?_
      refine v_getfield (pc := 46) cx flX11_10 (by assumption) gf0 dX11_lay_46 ?_
      refine v_callVV (pc := 49) cx hR (c_Hi_keep _ _ _ _ z33 z1 (by omega)) mlX11_64 (by decide) z330 rfl rfl rfl (Nat.le_of_ble_eq_true rfl) ⟨Nat.le_refl _, Nat.le_refl _⟩ dX11_lay_49 (fun E3 hP => ?_)
      obtain ⟨w33, hF3⟩ := hP
      have hlen : (rdX Ψ).2.2.length = sz := by rw [← hacc, lst_len]
      have loop : ∀ (d i : Nat) (E' : Wd) (L : List (Int × Int × Int)), i ≤ sz → sz - i < d → E' 0 = E 0 → rRd (fG X) E' 120 sz pos 0 nxt b' l' r' → isS (fG X) E' 1 (Ψ.1.1, L, Ψ.1.2.2) → okSh L → L.length = Ψ.1.2.1.length + i → L = (lst b' l' r' i).foldl insL Ψ.1.2.1 → isS (fG X) E' 17 τ → isH (fG X) E' 33 (keepH Ψ.2.1 Ψ.1) → rOl (fG X) E' 115 ko lo0 do0 → isTx (fG X) E' 118 Ψ.2.2 → Out E E' 0 124 → V X E' (nh, 0, 0) 54 [some (.ref (gb (fG X) + 0)), some (.int (iI (i : Int)))] [] := by
        intro d
        induction d with
        | zero => intro i E' L h1 h2; omega
        | succ d ih =>
          intro i E' L hi hd v0 y120 hS hL hLl hLe v17 v33 v115 v118 hO
          replace v0 := v0.trans x0
          obtain ⟨st, n, b, l, r, fc, fd, B, cr, cn, ng, gf, gs, nm, t, p, v, tk, fell, ⟨s0, s1, s2, s3, s4, s5, s6, s7⟩, q1, q2, q3, qr⟩ := id hS
          simp only at q2
          have s20 := s2.1
          obtain ⟨y0, y1, y2, y3⟩ := id y120
          have fin : i = sz → V X E' (nh, 0, 0) 115 [some (.ref (gb (fG X) + 0)), some (.int (iI (i : Int)))] [] := by
            intro hi2
            subst hi2
            refine v_aload_n (pc := 115) cx rfl ga0 dX11_lay_115 ?_
            refine v_getfield (pc := 116) cx flX11_43 (by assumption) gf5 dX11_lay_116 ?_
            refine v_getfield (pc := 119) cx flX11_254 (by assumption) gf3 dX11_lay_119 ?_
            refine v_ireturn (pc := 122) cx hI rfl ?_ dX11_lay_122
            unfold vLay sLay
            rw [if_pos he, if_pos he, hlen]
            rw [hacc] at hLe
            subst hLe
            exact ⟨rfl, ⟨v0, hS, ⟨τ, v17⟩, v33, ⟨ko, lo0, do0, v115⟩, v118, ⟨_, _, _, _, b', l', r', y120⟩⟩, hO⟩
          refine v_iload_n (pc := 54) cx rfl ga1 dX11_lay_54 ?_
          refine v_aload_n (pc := 55) cx rfl ga0 dX11_lay_55 ?_
          refine v_getfield (pc := 56) cx flX11_43 (by assumption) gf5 dX11_lay_56 ?_
          refine v_getfield (pc := 59) cx flX11_254 (by assumption) gf3 dX11_lay_59 ?_
          refine v_icmp_ge (pc := 62) cx 115 dX11_lay_62 rfl (by omega) (fun c62 => ?_) (fun c62 => ?_)
          · exact fin (by omega)
          · refine v_iload_n (pc := 65) cx rfl ga1 dX11_lay_65 ?_
            refine v_bipush (pc := 66) cx (by decide) dX11_lay_66 ?_
            refine v_icmp_ge (pc := 68) cx 115 dX11_lay_68 rfl (by omega) (fun c68 => ?_) (fun c68 => ?_)
            · omega
            · have hnL : n = L.length := by rw [← q2, lst_len]
              have hmem : (b' i, l' i, r' i) ∈ (rdX Ψ).2.2 := by rw [← hacc]; exact List.mem_map.mpr ⟨i, List.mem_range.mpr (by omega), rfl⟩
              have hx := hrk.2.1 _ hmem
              simp only at hx
              rw [← q2] at hL
              refine v_aload_n (pc := 71) cx rfl ga0 dX11_lay_71 ?_
              refine v_getfield (pc := 72) cx flX11_10 (by assumption) gf0 dX11_lay_72 ?_
              refine v_getfield (pc := 75) cx flX11_55 (by assumption) gf1 dX11_lay_75 ?_
              refine v_aload_n (pc := 78) cx rfl ga0 dX11_lay_78 ?_
              refine v_getfield (pc := 79) cx flX11_43 (by assumption) gf5 dX11_lay_79 ?_
              refine v_getfield (pc := 82) cx flX11_255 (by assumption) gf0 dX11_lay_82 ?_
              refine v_iload_n (pc := 85) cx rfl ga1 dX11_lay_85 ?_
              refine v_iaload (pc := 86) cx (i) (by assumption) (by omega) dX11_lay_86 ?_
              refine v_aload_n (pc := 87) cx rfl ga0 dX11_lay_87 ?_
              refine v_getfield (pc := 88) cx flX11_43 (by assumption) gf5 dX11_lay_88 ?_
              refine v_getfield (pc := 91) cx flX11_256 (by assumption) gf1 dX11_lay_91 ?_
              refine v_iload_n (pc := 94) cx rfl ga1 dX11_lay_94 ?_
              refine v_iaload (pc := 95) cx (i) (by assumption) (by omega) dX11_lay_95 ?_
              refine v_aload_n (pc := 96) cx rfl ga0 dX11_lay_96 ?_
              refine v_getfield (pc := 97) cx flX11_43 (by assumption) gf5 dX11_lay_97 ?_
              refine v_getfield (pc := 100) cx flX11_257 (by assumption) gf2 dX11_lay_100 ?_
              refine v_iload_n (pc := 103) cx rfl ga1 dX11_lay_103 ?_
              refine v_iaload (pc := 104) cx (i) (by assumption) (by omega) dX11_lay_104 ?_
              refine v_callVI (pc := 105) cx hR (c_Sh_insert _ _ _ _ s2 (by omega) (by omega) (fun j hj => by have := okSh_at hL j hj; omega)) mlX11_68 (by decide) (by assumption) rfl rfl rfl (Nat.le_of_ble_eq_true rfl) ⟨Nat.le_refl _, Nat.le_refl _⟩ dX11_lay_105 (fun v5 E5 hP => ?_)
              obtain ⟨rfl, s2', hF5⟩ := hP
              refine v_pop (pc := 108) cx rfl dX11_lay_108 ?_
              refine v_iinc (pc := 109) cx ga1 (sa1 rfl) dX11_lay_109 ?_
              refine v_goto (pc := 112) cx 54 dX11_lay_112 rfl ?_
              have hLn : insL L (b' i, l' i, r' i) = lst (insF b (insP b (b' i) n) n (b' i)) (insF l (insP b (b' i) n) n (l' i)) (insF r (insP b (b' i) n) n (r' i)) (n + 1) := by rw [← q2, insL_lst]
              refine ih (i + 1) E5 (insL L (b' i, l' i, r' i)) (by omega) (by omega) (((hF5 _ (by omega)).trans v0).trans x0.symm) (y120.out hF5 (by omega)) ⟨st, n + 1, _, _, _, fc, fd, B, cr, cn, ng, gf, gs, nm, t, p, v, tk, fell, ⟨(hF5 _ (by omega)).trans s0, (hF5 _ (by omega)).trans s1, s2', (hF5 _ (by omega)).trans s3, (hF5 _ (by omega)).trans s4, (hF5 _ (by omega)).trans s5, s6.out hF5 (by omega), s7.out hF5 (by omega)⟩, q1, hLn.symm, by omega, qr⟩ ?_ ?_ ?_ (v17.out hF5 (by omega)) (v33.out hF5 (by omega)) (v115.out hF5 (by omega)) (v118.out hF5 (by omega)) (fun j hj => (hF5 j (by omega)).trans (hO j hj))
              · rw [q2] at hL
                refine ⟨by rw [insL_len]; omega, fun z hz => ?_⟩
                rcases insL_mem z hz with rfl | hz
                · simp only; omega
                · exact hL.2 z hz
              · rw [insL_len]; omega
              · rw [lst_succ, List.foldl_append, ← hLe]
                rfl
      refine v_iconst (pc := 52) cx dX11_lay_52 ?_
      refine v_istore_n (pc := 53) cx rfl (sa1 rfl) dX11_lay_53 ?_
      exact loop (sz + 1) 0 E3 Ψ.1.2.1 (by omega) (by omega) ((hF3 _ (by omega)).trans (hF _ (by omega))) (y120.out hF3 (by omega)) (z1.out hF3 (by omega)) hsh (by omega) rfl ((x17.out hF (by omega)).out hF3 (by omega)) w33 ((x115.out hF (by omega)).out hF3 (by omega)) ((x118.out hF (by omega)).out hF3 (by omega)) (fun j hj => (hF3 j (by omega)).trans (hF j (by omega)))
    · refine v_bipush (pc := 38) cx (by decide) dX11_lay_38 ?_
      refine v_ireturn (pc := 40) cx hI rfl ?_ dX11_lay_40
      unfold vLay sLay
      rw [if_neg (by assumption), if_neg (by assumption)]
      exact ⟨rfl, ⟨z0, z1, ⟨τ, x17.out hF (by omega)⟩, z33, ⟨ko, lo0, do0, x115.out hF (by omega)⟩, x118.out hF (by omega), ⟨_, _, _, _, b', l', r', y120⟩⟩, fun j hj => hF j (by omega)⟩
  obtain ⟨st, n, b, l, r, fc, fd, B, cr, cn, ng, gf, gs, nm, t, p, v, tk, fell, hr, q1, q2, q3, q4, q5, q6, q7, q8, q9, q10, q11⟩ := id x1
  exact start n b l r st fc fd B cr cn ng gf gs nm t p v tk fell hr q10 (by rw [← q2, lst_len])
