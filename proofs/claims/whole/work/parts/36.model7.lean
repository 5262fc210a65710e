/-! the reference: storms -/
theorem okT_k {L : List (Int × Int × Int)} {t0 : Int} (h : okMk L t0) (h0 : t0 ≤ 5000) : okT (k1 L) L.length := by
  have e0 : L = lst (k1 L) (k2 L) (k3 L) L.length := by
    apply List.ext_getElem
    · rw [lst_len]
    · intro i hi1 hi2
      simp [lst, k1, k2, k3, List.getD_eq_getElem?_getD, hi1]
  exact okT_of (p := k2 L) (v := k3 L) (by rw [← e0]; exact h) h0
set_option maxRecDepth 100000 in
set_option maxHeartbeats 4000000 in
theorem m_apart (lc : Launch) (G : Gc) (E : Wd) (nh : Nat) {k m : Nat} {st ty aa re rs sm : Int} {d t : Nat → Int} (h0 : E 124 = some (oMd G st ty aa re rs sm)) (hd : E 125 = some (AI G 244 d)) (ht : ∀ j, j < m → d (64 + j) = t j) (hm : m ≤ 60) (hk : 1 ≤ k ∧ k < m) : CI lc G 0 yX12_apart cX12_apart 2 .int [.ref (gb G + 124), .int (iI (k : Int))] E nh 0 0 (fun v E' => v = t k - t (k - 1) ∧ E' = E) := by
  refine CI.mk (by decide +kernel) rfl (Nat.le_of_ble_eq_true rfl) ?_
  intro X hG hL cx hR hI
  subst hG; subst hL
  show V X E (nh, 0, 0) 0 [some (.ref (gb (fG X) + 124)), some (.int (iI (k : Int)))] []
  refine v_aload_n (pc := 0) cx rfl ga0 dX12_apart_0 ?_
  refine v_getfield (pc := 1) cx flX12_7 (by assumption) gf0 dX12_apart_1 ?_
  refine v_bipush (pc := 4) cx (by decide) dX12_apart_4 ?_
  refine v_iload_n (pc := 6) cx rfl ga1 dX12_apart_6 ?_
  refine v_iadd (pc := 7) cx dX12_apart_7 ?_
  refine v_iaload (pc := 8) cx (64 + k) (by assumption) (by omega) dX12_apart_8 ?_
  refine v_aload_n (pc := 9) cx rfl ga0 dX12_apart_9 ?_
  refine v_getfield (pc := 10) cx flX12_7 (by assumption) gf0 dX12_apart_10 ?_
  refine v_bipush (pc := 13) cx (by decide) dX12_apart_13 ?_
  refine v_iload_n (pc := 15) cx rfl ga1 dX12_apart_15 ?_
  refine v_iadd (pc := 16) cx dX12_apart_16 ?_
  refine v_iconst (pc := 17) cx dX12_apart_17 ?_
  refine v_isub (pc := 18) cx dX12_apart_18 ?_
  refine v_iaload (pc := 19) cx (64 + (k - 1)) (by assumption) (by omega) dX12_apart_19 ?_
  refine v_isub (pc := 20) cx dX12_apart_20 ?_
  refine v_ireturn (pc := 21) cx hI rfl ?_ dX12_apart_21
  exact ⟨by rw [ht k (by omega), ht (k - 1) (by omega)], rfl⟩
set_option maxRecDepth 100000 in
set_option maxHeartbeats 4000000 in
theorem m_parts (lc : Launch) (G : Gc) (E : Wd) (nh : Nat) {m : Nat} {st ty aa re rs sm : Int} {d t fi : Nat → Int} (h0 : E 124 = some (oMd G st ty aa re rs sm)) (hd : E 125 = some (AI G 244 d)) (hfi : E 130 = some (AI G 61 fi)) (hn : d 63 = (m : Int)) (hm : m ≤ 60) (ht : ∀ j, j < m → d (64 + j) = t j) (hT : okT t m) (hg : 1 ≤ d 18 ∧ d 18 ≤ 1000) : CV lc G 1 yX12_parts cX12_parts 2 [.ref (gb G + 124)] E nh 0 0 (fun E' => (∃ fi' : Nat → Int, E' 124 = some (oMd G st ty aa re rs (cnt t (d 18) m : Int)) ∧ E' 130 = some (AI G 61 fi') ∧ ∀ k, k ≤ cnt t (d 18) m → fi' k = (sF t (d 18) m k : Int)) ∧ ∀ j, j ≠ 124 → j ≠ 130 → E' j = E j) := by
  refine CV.mk (by decide +kernel) rfl (Nat.le_of_ble_eq_true rfl) ?_
  intro X hG hL cx hR hI hini
  subst hG; subst hL
  show V X E (nh, 0, 0) 0 [some (.ref (gb (fG X) + 124)), none] []
  have loop : ∀ (q k : Nat) (f' : Nat → Int) (E' : Wd), k ≤ m → m - k < q → E' 124 = some (oMd (fG X) st ty aa re rs (cnt t (d 18) k : Int)) → E' 125 = some (AI (fG X) 244 d) → E' 130 = some (AI (fG X) 61 f') → (∀ f, f < k → beg t (d 18) f → f' (cnt t (d 18) f) = (f : Int)) → (∀ j, j ≠ 124 → j ≠ 130 → E' j = E j) → V X E' (nh, 0, 0) 7 [some (.ref (gb (fG X) + 124)), some (.int (iI (k : Int)))] [] := by
    intro q
    induction q with
    | zero => intro k f' E' h1 h2; omega
    | succ q ih =>
      intro k f' E' hk hq h0 hd hfi hin hFr
      have hck := cnt_le t (d 18) k
      refine v_iload_n (pc := 7) cx rfl ga1 dX12_parts_7 ?_
      refine v_aload_n (pc := 8) cx rfl ga0 dX12_parts_8 ?_
      refine v_getfield (pc := 9) cx flX12_7 (by assumption) gf0 dX12_parts_9 ?_
      refine v_bipush (pc := 12) cx (by decide) dX12_parts_12 ?_
      refine v_iaload (pc := 14) cx (63) (by assumption) (by omega) dX12_parts_14 ?_
      refine v_icmp_ge (pc := 15) cx 63 dX12_parts_15 rfl (by omega) (fun c15 => ?_) (fun c15 => ?_)
      · have hFr1 := hFr
        refine v_aload_n (pc := 63) cx rfl ga0 dX12_parts_63 ?_
        refine v_getfield (pc := 64) cx flX12_26 (by assumption) gf10 dX12_parts_64 ?_
        refine v_aload_n (pc := 67) cx rfl ga0 dX12_parts_67 ?_
        refine v_getfield (pc := 68) cx flX12_88 (by assumption) gf11 dX12_parts_68 ?_
        refine v_aload_n (pc := 71) cx rfl ga0 dX12_parts_71 ?_
        refine v_getfield (pc := 72) cx flX12_7 (by assumption) gf0 dX12_parts_72 ?_
        refine v_bipush (pc := 75) cx (by decide) dX12_parts_75 ?_
        refine v_iaload (pc := 77) cx (63) (by assumption) (by omega) dX12_parts_77 ?_
        refine v_iastore (pc := 78) cx (cnt t (d 18) k) hfi (by omega) dX12_parts_78 (fun E78 hE78 hF78 => ?_)
        replace h0 := (hF78 _ (by omega)).trans h0
        replace hfi := hE78
        refine v_return (pc := 79) cx hI ?_ dX12_parts_79
        have e : k = m := by omega
        subst e
        refine ⟨⟨_, h0, hfi, fun k' hk' => ?_⟩, fun j h1 h2 => (hF78 j h2).trans (hFr1 j h1 h2)⟩
        by_cases e : k' = cnt t (d 18) k
        · subst e
          rw [upI_s, hn]
          unfold sF
          rw [sxN_of (f := k) k (fun i hi _ => cnt_le_of (by omega)) (fun i hi hin => by omega)]
          omega
        · rw [upI_n e]
          obtain ⟨f, f1, f2, f3⟩ := cnt_find (t := t) (gap := d 18) k (show k' < cnt t (d 18) k by omega)
          have := hin f f1 f2
          rw [f3] at this
          rw [this, ← f3, sF_first f1 f2]
      · have yes : beg t (d 18) k → V X E' (nh, 0, 0) 37 [some (.ref (gb (fG X) + 124)), some (.int (iI (k : Int)))] [] := by
          intro hb
          have hFr1 := hFr
          refine v_aload_n (pc := 37) cx rfl ga0 dX12_parts_37 ?_
          refine v_getfield (pc := 38) cx flX12_26 (by assumption) gf10 dX12_parts_38 ?_
          refine v_aload_n (pc := 41) cx rfl ga0 dX12_parts_41 ?_
          refine v_getfield (pc := 42) cx flX12_88 (by assumption) gf11 dX12_parts_42 ?_
          refine v_iload_n (pc := 45) cx rfl ga1 dX12_parts_45 ?_
          refine v_iastore (pc := 46) cx (cnt t (d 18) k) hfi (by omega) dX12_parts_46 (fun E46 hE46 hF46 => ?_)
          replace h0 := (hF46 _ (by omega)).trans h0
          replace hd := (hF46 _ (by omega)).trans hd
          replace hfi := hE46
          have hF1 := hF46
          refine v_aload_n (pc := 47) cx rfl ga0 dX12_parts_47 ?_
          refine v_dup (pc := 48) cx rfl dX12_parts_48 ?_
          refine v_getfield (pc := 49) cx flX12_88 (by assumption) gf11 dX12_parts_49 ?_
          refine v_iconst (pc := 52) cx dX12_parts_52 ?_
          refine v_iadd (pc := 53) cx dX12_parts_53 ?_
          refine v_putfield (pc := 54) cx fpX12_88 h0 ⟨rfl, rfl⟩ pf11 dX12_parts_54 (fun E54 hE54 hF54 => ?_)
          replace hd := (hF54 _ (by omega)).trans hd
          replace hfi := (hF54 _ (by omega)).trans hfi
          refine v_iinc (pc := 57) cx ga1 (sa1 rfl) dX12_parts_57 ?_
          refine v_goto (pc := 60) cx 7 dX12_parts_60 rfl ?_
          have e : cnt t (d 18) (k + 1) = cnt t (d 18) k + 1 := cnt_b hb
          refine ih (k + 1) _ _ (by omega) (by omega) (by rw [e]; exact hE54) hd hfi (fun f hf hbf => ?_) (fun j h1 h2 => (hF54 j h1).trans ((hF1 j h2).trans (hFr1 j h1 h2)))
          by_cases e2 : f = k
          · subst e2
            rw [upI_s]
          · have hlt := cnt_lt (show f < k by omega) hbf
            rw [upI_n (by omega)]
            exact hin f (by omega) hbf
        have no : ¬ beg t (d 18) k → V X E' (nh, 0, 0) 57 [some (.ref (gb (fG X) + 124)), some (.int (iI (k : Int)))] [] := by
          intro hb
          refine v_iinc (pc := 57) cx ga1 (sa1 rfl) dX12_parts_57 ?_
          refine v_goto (pc := 60) cx 7 dX12_parts_60 rfl ?_
          have e : cnt t (d 18) (k + 1) = cnt t (d 18) k := cnt_n hb
          refine ih (k + 1) _ _ (by omega) (by omega) (by rw [e]; exact h0) hd hfi (fun f hf hbf => ?_) hFr
          by_cases e2 : f = k
          · subst e2
            exact absurd hbf hb
          · exact hin f (by omega) hbf
        refine v_iload_n (pc := 18) cx rfl ga1 dX12_parts_18 ?_
        refine v_if_eq (pc := 19) cx 37 dX12_parts_19 rfl (by omega) (fun c19 => ?_) (fun c19 => ?_)
        · exact yes (Or.inl (by omega))
        · refine v_aload_n (pc := 22) cx rfl ga0 dX12_parts_22 ?_
          refine v_iload_n (pc := 23) cx rfl ga1 dX12_parts_23 ?_
          refine v_callVI (pc := 24) cx hR (m_apart _ _ _ _ h0 hd ht hm (by omega)) mlX12_94 (by decide) (by assumption) rfl rfl rfl (Nat.le_of_ble_eq_true rfl) ⟨Nat.le_refl _, Nat.le_refl _⟩ dX12_parts_24 (fun v1 E1 hP => ?_)
          obtain ⟨rfl, rfl⟩ := hP
          have g2 := hT.1 k (by omega)
          have g3 := hT.1 (k - 1) (by omega)
          refine v_aload_n (pc := 27) cx rfl ga0 dX12_parts_27 ?_
          refine v_getfield (pc := 28) cx flX12_7 (by assumption) gf0 dX12_parts_28 ?_
          refine v_bipush (pc := 31) cx (by decide) dX12_parts_31 ?_
          refine v_iaload (pc := 33) cx (18) (by assumption) (by omega) dX12_parts_33 ?_
          refine v_icmp_le (pc := 34) cx 57 dX12_parts_34 rfl (by omega) (fun c34 => ?_) (fun c34 => ?_)
          · exact no (fun hb => by rcases hb with hb | hb <;> omega)
          · exact yes (Or.inr (by omega))
  have hFr : ∀ j, j ≠ 124 → j ≠ 130 → E j = E j := fun _ _ _ => rfl
  refine v_aload_n (pc := 0) cx rfl ga0 dX12_parts_0 ?_
  refine v_iconst (pc := 1) cx dX12_parts_1 ?_
  refine v_putfield (pc := 2) cx fpX12_88 h0 ⟨rfl, rfl⟩ pf11 dX12_parts_2 (fun E2 hE2 hF2 => ?_)
  replace hd := (hF2 _ (by omega)).trans hd
  replace hfi := (hF2 _ (by omega)).trans hfi
  refine v_iconst (pc := 5) cx dX12_parts_5 ?_
  refine v_istore_n (pc := 6) cx rfl (sa1 rfl) dX12_parts_6 ?_
  exact loop (m + 1) 0 fi _ (Nat.zero_le _) (by omega) hE2 hd hfi (fun f hf => by omega) (fun j h1 _ => hF2 j h1)
set_option maxRecDepth 100000 in
set_option maxHeartbeats 4000000 in
theorem m_amountOf (lc : Launch) (G : Gc) (E : Wd) (nh : Nat) {k f e : Nat} {st ty aa re rs sm : Int} {d fi : Nat → Int} (h0 : E 124 = some (oMd G st ty aa re rs sm)) (hd : E 125 = some (AI G 244 d)) (hfi : E 130 = some (AI G 61 fi)) (hk : k < 60) (hf : fi k = (f : Int)) (he : fi (k + 1) = (e : Int)) : CI lc G 0 yX12_amountOf cX12_amountOf 2 .int [.ref (gb G + 124), .int (iI (k : Int))] E nh 0 0 (fun v E' => v = amtV (d 11) f e ∧ E' = E) := by
  refine CI.mk (by decide +kernel) rfl (Nat.le_of_ble_eq_true rfl) ?_
  intro X hG hL cx hR hI
  subst hG; subst hL
  show V X E (nh, 0, 0) 0 [some (.ref (gb (fG X) + 124)), some (.int (iI (k : Int)))] []
  refine v_aload_n (pc := 0) cx rfl ga0 dX12_amountOf_0 ?_
  refine v_getfield (pc := 1) cx flX12_26 (by assumption) gf10 dX12_amountOf_1 ?_
  refine v_iload_n (pc := 4) cx rfl ga1 dX12_amountOf_4 ?_
  refine v_iconst (pc := 5) cx dX12_amountOf_5 ?_
  refine v_iadd (pc := 6) cx dX12_amountOf_6 ?_
  refine v_iaload (pc := 7) cx (k + 1) (by assumption) (by omega) dX12_amountOf_7 ?_
  refine v_aload_n (pc := 8) cx rfl ga0 dX12_amountOf_8 ?_
  refine v_getfield (pc := 9) cx flX12_26 (by assumption) gf10 dX12_amountOf_9 ?_
  refine v_iload_n (pc := 12) cx rfl ga1 dX12_amountOf_12 ?_
  refine v_iaload (pc := 13) cx (k) (by assumption) (by omega) dX12_amountOf_13 ?_
  refine v_isub (pc := 14) cx dX12_amountOf_14 ?_
  refine v_aload_n (pc := 15) cx rfl ga0 dX12_amountOf_15 ?_
  refine v_getfield (pc := 16) cx flX12_7 (by assumption) gf0 dX12_amountOf_16 ?_
  refine v_bipush (pc := 19) cx (by decide) dX12_amountOf_19 ?_
  refine v_iaload (pc := 21) cx (11) (by assumption) (by omega) dX12_amountOf_21 ?_
  refine v_imul (pc := 22) cx dX12_amountOf_22 ?_
  refine v_ireturn (pc := 23) cx hI rfl ?_ dX12_amountOf_23
  rw [hf, he]
  exact ⟨rfl, rfl⟩
set_option maxRecDepth 100000 in
set_option maxHeartbeats 4000000 in
theorem m_lossOf (lc : Launch) (G : Gc) (E : Wd) (nh : Nat) {k m f e : Nat} {st ty aa re rs sm : Int} {d t fi : Nat → Int} (h0 : E 124 = some (oMd G st ty aa re rs sm)) (hd : E 125 = some (AI G 244 d)) (hfi : E 130 = some (AI G 61 fi)) (hm : m ≤ 60) (ht : ∀ j, j < m → d (64 + j) = t j) (hT : okT t m) (hk : k < 60) (hf : fi k = (f : Int)) (he : fi (k + 1) = (e : Int)) (hfe : f < e ∧ e ≤ m) (hc : 0 ≤ d 11 * d 12 ∧ d 11 * d 12 ≤ 10000) : CI lc G 1 yX12_lossOf cX12_lossOf 4 .int [.ref (gb G + 124), .int (iI (k : Int))] E nh 0 0 (fun v E' => v = lossTo t (d 11 * d 12) f (e - f - 1) ∧ E' = E) := by
  refine CI.mk (by decide +kernel) rfl (Nat.le_of_ble_eq_true rfl) ?_
  intro X hG hL cx hR hI
  subst hG; subst hL
  show V X E (nh, 0, 0) 0 [some (.ref (gb (fG X) + 124)), some (.int (iI (k : Int))), none, none] []
  have loop : ∀ (q i : Nat), f + 1 + i ≤ e → e - (f + 1 + i) < q → V X E (nh, 0, 0) 11 [some (.ref (gb (fG X) + 124)), some (.int (iI (k : Int))), some (.int (iI (lossTo t (d 11 * d 12) f i))), some (.int (iI ((f + 1 + i : Nat) : Int)))] [] := by
    intro q
    induction q with
    | zero => intro i h1 h2; omega
    | succ q ih =>
      intro i hi hq
      refine v_iload_n (pc := 11) cx rfl ga3 dX12_lossOf_11 ?_
      refine v_aload_n (pc := 12) cx rfl ga0 dX12_lossOf_12 ?_
      refine v_getfield (pc := 13) cx flX12_26 (by assumption) gf10 dX12_lossOf_13 ?_
      refine v_iload_n (pc := 16) cx rfl ga1 dX12_lossOf_16 ?_
      refine v_iconst (pc := 17) cx dX12_lossOf_17 ?_
      refine v_iadd (pc := 18) cx dX12_lossOf_18 ?_
      refine v_iaload (pc := 19) cx (k + 1) (by assumption) (by omega) dX12_lossOf_19 ?_
      refine v_icmp_ge (pc := 20) cx 53 dX12_lossOf_20 rfl (by omega) (fun c20 => ?_) (fun c20 => ?_)
      · refine v_iload_n (pc := 53) cx rfl ga2 dX12_lossOf_53 ?_
        refine v_ireturn (pc := 54) cx hI rfl ?_ dX12_lossOf_54
        rw [show e - f - 1 = i by omega]
        exact ⟨rfl, rfl⟩
      · refine v_iload_n (pc := 23) cx rfl ga2 dX12_lossOf_23 ?_
        refine v_aload_n (pc := 24) cx rfl ga0 dX12_lossOf_24 ?_
        refine v_getfield (pc := 25) cx flX12_7 (by assumption) gf0 dX12_lossOf_25 ?_
        refine v_bipush (pc := 28) cx (by decide) dX12_lossOf_28 ?_
        refine v_iaload (pc := 30) cx (11) (by assumption) (by omega) dX12_lossOf_30 ?_
        refine v_aload_n (pc := 31) cx rfl ga0 dX12_lossOf_31 ?_
        refine v_getfield (pc := 32) cx flX12_7 (by assumption) gf0 dX12_lossOf_32 ?_
        refine v_bipush (pc := 35) cx (by decide) dX12_lossOf_35 ?_
        refine v_iaload (pc := 37) cx (12) (by assumption) (by omega) dX12_lossOf_37 ?_
        refine v_imul (pc := 38) cx dX12_lossOf_38 ?_
        refine v_aload_n (pc := 39) cx rfl ga0 dX12_lossOf_39 ?_
        refine v_iload_n (pc := 40) cx rfl ga3 dX12_lossOf_40 ?_
        refine v_callVI (pc := 41) cx hR (m_apart _ _ _ _ h0 hd ht hm (by omega)) mlX12_94 (by decide) (by assumption) rfl rfl rfl (Nat.le_of_ble_eq_true rfl) ⟨Nat.le_refl _, Nat.le_refl _⟩ dX12_lossOf_41 (fun v2 E2 hP => ?_)
        obtain ⟨rfl, rfl⟩ := hP
        have g2 := hT.1 (f + 1 + i) (by omega)
        have g3 := hT.1 (f + i) (by omega)
        have g4 := hT.2 (f + i) (f + 1 + i) (by omega) (by omega)
        rw [show f + 1 + i - 1 = f + i by omega]
        refine v_idivI (pc := 44) cx (by omega) dX12_lossOf_44 ?_
        refine v_iadd (pc := 45) cx dX12_lossOf_45 ?_
        refine v_istore_n (pc := 46) cx rfl (sa2 rfl) dX12_lossOf_46 ?_
        refine v_iinc (pc := 47) cx ga3 (sa3 rfl) dX12_lossOf_47 ?_
        refine v_goto (pc := 50) cx 11 dX12_lossOf_50 rfl ?_
        exact ih (i + 1) (by omega) (by omega)
  refine v_iconst (pc := 0) cx dX12_lossOf_0 ?_
  refine v_istore_n (pc := 1) cx rfl (sa2 rfl) dX12_lossOf_1 ?_
  refine v_aload_n (pc := 2) cx rfl ga0 dX12_lossOf_2 ?_
  refine v_getfield (pc := 3) cx flX12_26 (by assumption) gf10 dX12_lossOf_3 ?_
  refine v_iload_n (pc := 6) cx rfl ga1 dX12_lossOf_6 ?_
  refine v_iaload (pc := 7) cx (k) (by assumption) (by omega) dX12_lossOf_7 ?_
  refine v_iconst (pc := 8) cx dX12_lossOf_8 ?_
  refine v_iadd (pc := 9) cx dX12_lossOf_9 ?_
  refine v_istore_n (pc := 10) cx rfl (sa3 rfl) dX12_lossOf_10 ?_
  rw [hf]
  exact loop (m + 1) 0 (by omega) (by omega)
set_option maxRecDepth 100000 in
set_option maxHeartbeats 4000000 in
theorem m_peakOf (lc : Launch) (G : Gc) (E : Wd) (nh : Nat) {k m f e : Nat} {st ty aa re rs sm : Int} {d t fi : Nat → Int} (h0 : E 124 = some (oMd G st ty aa re rs sm)) (hd : E 125 = some (AI G 244 d)) (hfi : E 130 = some (AI G 61 fi)) (hm : m ≤ 60) (ht : ∀ j, j < m → d (64 + j) = t j) (hT : okT t m) (hk : k < 60) (hf : fi k = (f : Int)) (he : fi (k + 1) = (e : Int)) (hfe : f < e ∧ e ≤ m) : CI lc G 0 yX12_peakOf cX12_peakOf 6 .int [.ref (gb G + 124), .int (iI (k : Int))] E nh 0 0 (fun v E' => isPk t f e v ∧ E' = E) := by
  refine CI.mk (by decide +kernel) rfl (Nat.le_of_ble_eq_true rfl) ?_
  intro X hG hL cx hR hI
  subst hG; subst hL
  show V X E (nh, 0, 0) 0 [some (.ref (gb (fG X) + 124)), some (.int (iI (k : Int))), none, none, none, none] []
  have inner : ∀ (q x b i : Nat) (pk : Int), f ≤ x → x < e → x ≤ b → b ≤ i → i ≤ e → e - i < q → 0 ≤ pk → pk ≤ 60 → (∀ j, x ≤ j → j < b → t j - t x < 30) → (∀ j, b ≤ j → j < i → 30 ≤ t j - t x) →
      (∀ b' : Nat, x < b' → b' ≤ e → (∀ j, x ≤ j → j < b' → t j - t x < 30) → (∀ j, b' ≤ j → j < e → 30 ≤ t j - t x) → V X E (nh, 0, 0) 81 [some (.ref (gb (fG X) + 124)), some (.int (iI (k : Int))), some (.int (iI pk)), some (.int (iI (x : Int))), some (.int (iI ((b' : Int) - x))), some (.int (iI (e : Int)))] []) →
      V X E (nh, 0, 0) 27 [some (.ref (gb (fG X) + 124)), some (.int (iI (k : Int))), some (.int (iI pk)), some (.int (iI (x : Int))), some (.int (iI ((b : Int) - x))), some (.int (iI (i : Int)))] [] := by
    intro q
    induction q with
    | zero => intro x b i pk h1 h2 h3 h4 h5 h6; omega
    | succ q ih =>
      intro x b i pk hx1 hx2 hxb hbi hi hq hp0 hp1 hin hno kk
      refine v_iload (pc := 27) cx ga5 dX12_peakOf_27 ?_
      refine v_aload_n (pc := 29) cx rfl ga0 dX12_peakOf_29 ?_
      refine v_getfield (pc := 30) cx flX12_26 (by assumption) gf10 dX12_peakOf_30 ?_
      refine v_iload_n (pc := 33) cx rfl ga1 dX12_peakOf_33 ?_
      refine v_iconst (pc := 34) cx dX12_peakOf_34 ?_
      refine v_iadd (pc := 35) cx dX12_peakOf_35 ?_
      refine v_iaload (pc := 36) cx (k + 1) (by assumption) (by omega) dX12_peakOf_36 ?_
      refine v_icmp_ge (pc := 37) cx 81 dX12_peakOf_37 rfl (by omega) (fun c37 => ?_) (fun c37 => ?_)
      · have ei : i = e := by omega
        subst ei
        refine kk b ?_ hbi hin hno
        rcases Nat.lt_or_ge x b with q1 | q1
        · exact q1
        · have := hno x q1 hx2
          omega
      · have t1 := ht i (by omega)
        have t2 := ht x (by omega)
        have g2 := hT.1 i (by omega)
        have g3 := hT.1 x (by omega)
        refine v_iload (pc := 40) cx ga4 dX12_peakOf_40 ?_
        refine v_aload_n (pc := 42) cx rfl ga0 dX12_peakOf_42 ?_
        refine v_getfield (pc := 43) cx flX12_7 (by assumption) gf0 dX12_peakOf_43 ?_
        refine v_bipush (pc := 46) cx (by decide) dX12_peakOf_46 ?_
        refine v_iload (pc := 48) cx ga5 dX12_peakOf_48 ?_
        refine v_iadd (pc := 50) cx dX12_peakOf_50 ?_
        refine v_iaload (pc := 51) cx (64 + i) (by assumption) (by omega) dX12_peakOf_51 ?_
        refine v_aload_n (pc := 52) cx rfl ga0 dX12_peakOf_52 ?_
        refine v_getfield (pc := 53) cx flX12_7 (by assumption) gf0 dX12_peakOf_53 ?_
        refine v_bipush (pc := 56) cx (by decide) dX12_peakOf_56 ?_
        refine v_iload_n (pc := 58) cx rfl ga3 dX12_peakOf_58 ?_
        refine v_iadd (pc := 59) cx dX12_peakOf_59 ?_
        refine v_iaload (pc := 60) cx (64 + x) (by assumption) (by omega) dX12_peakOf_60 ?_
        refine v_isub (pc := 61) cx dX12_peakOf_61 ?_
        refine v_bipush (pc := 62) cx (by decide) dX12_peakOf_62 ?_
        refine v_icmp_ge (pc := 64) cx 71 dX12_peakOf_64 rfl (by omega) (fun c64 => ?_) (fun c64 => ?_)
        · refine v_iconst (pc := 71) cx dX12_peakOf_71 ?_
          refine v_iadd (pc := 72) cx dX12_peakOf_72 ?_
          refine v_istore (pc := 73) cx (sa4 rfl) dX12_peakOf_73 ?_
          refine v_iinc (pc := 75) cx ga5 (sa5 rfl) dX12_peakOf_75 ?_
          refine v_goto (pc := 78) cx 27 dX12_peakOf_78 rfl ?_
          rw [show (b : Int) - x + 0 = (b : Int) - x by omega]
          refine ih x b (i + 1) pk hx1 hx2 hxb (by omega) (by omega) (by omega) hp0 hp1 hin (fun j hj1 hj2 => ?_) kk
          by_cases e2 : j = i
          · subst e2; omega
          · exact hno j hj1 (by omega)
        · have eb : b = i := by
            rcases Nat.lt_or_ge b i with q1 | q1
            · have := hno b (Nat.le_refl _) q1
              have := hT.2 b i q1 (by omega)
              omega
            · omega
          subst eb
          refine v_iconst (pc := 67) cx dX12_peakOf_67 ?_
          refine v_goto (pc := 68) cx 72 dX12_peakOf_68 rfl ?_
          refine v_iadd (pc := 72) cx dX12_peakOf_72 ?_
          refine v_istore (pc := 73) cx (sa4 rfl) dX12_peakOf_73 ?_
          refine v_iinc (pc := 75) cx ga5 (sa5 rfl) dX12_peakOf_75 ?_
          refine v_goto (pc := 78) cx 27 dX12_peakOf_78 rfl ?_
          rw [show (b : Int) - x + 1 = ((b + 1 : Nat) : Int) - x by omega]
          refine ih x (b + 1) (b + 1) pk hx1 hx2 (by omega) (Nat.le_refl _) (by omega) (by omega) hp0 hp1 (fun j hj1 hj2 => ?_) (fun j hj1 hj2 => by omega) kk
          by_cases e2 : j = b
          · subst e2; omega
          · exact hin j hj1 (by omega)
  have loop : ∀ (q x : Nat) (pk : Int) (l4 l5 : Option Value), c1 l4 = true → f ≤ x → x ≤ e → e - x < q → 0 ≤ pk → pk ≤ 60 → ((x = f ∧ pk = 0) ∨ (∃ u y : Nat, f ≤ u ∧ u ≤ y ∧ y < e ∧ t y - t u < 30 ∧ pk = (y : Int) - u + 1)) → (∀ u y : Nat, f ≤ u → u < x → u ≤ y → y < e → t y - t u < 30 → (y : Int) - u + 1 ≤ pk) → V X E (nh, 0, 0) 9 [some (.ref (gb (fG X) + 124)), some (.int (iI (k : Int))), some (.int (iI pk)), some (.int (iI (x : Int))), l4, l5] [] := by
    intro q
    induction q with
    | zero => intro x pk l4 l5 h0 h1 h2 h3; omega
    | succ q ih =>
      intro x pk l4 l5 hl4 hx1 hx2 hq hp0 hp1 hat hup
      refine v_iload_n (pc := 9) cx rfl ga3 dX12_peakOf_9 ?_
      refine v_aload_n (pc := 10) cx rfl ga0 dX12_peakOf_10 ?_
      refine v_getfield (pc := 11) cx flX12_26 (by assumption) gf10 dX12_peakOf_11 ?_
      refine v_iload_n (pc := 14) cx rfl ga1 dX12_peakOf_14 ?_
      refine v_iconst (pc := 15) cx dX12_peakOf_15 ?_
      refine v_iadd (pc := 16) cx dX12_peakOf_16 ?_
      refine v_iaload (pc := 17) cx (k + 1) (by assumption) (by omega) dX12_peakOf_17 ?_
      refine v_icmp_ge (pc := 18) cx 100 dX12_peakOf_18 rfl (by omega) (fun c18 => ?_) (fun c18 => ?_)
      · refine v_iload_n (pc := 100) cx rfl ga2 dX12_peakOf_100 ?_
        refine v_ireturn (pc := 101) cx hI rfl ?_ dX12_peakOf_101
        have ex : x = e := by omega
        subst ex
        rcases hat with ⟨e3, -⟩ | hat
        · omega
        · exact ⟨⟨hat, fun i j h1 h2 h3 h4 => hup i j h1 (by omega) h2 h3 h4⟩, rfl⟩
      · refine v_iconst (pc := 21) cx dX12_peakOf_21 ?_
        refine v_istore (pc := 22) cx (sa4 rfl) dX12_peakOf_22 ?_
        refine v_iload_n (pc := 24) cx rfl ga3 dX12_peakOf_24 ?_
        refine v_istore (pc := 25) cx (sa5 rfl) dX12_peakOf_25 ?_
        have kk := inner (m + 1) x x x pk hx1 (by omega) (Nat.le_refl _) (Nat.le_refl _) (by omega) (by omega) hp0 hp1 (fun j h1 h2 => by omega) (fun j h1 h2 => by omega) (fun b' b1 b2 b3 b4 => ?_)
        · rw [show (x : Int) - x = 0 by omega] at kk
          exact kk
        · have up2 : ∀ pk' : Int, pk ≤ pk' → (b' : Int) - x ≤ pk' → ∀ u y : Nat, f ≤ u → u < x + 1 → u ≤ y → y < e → t y - t u < 30 → (y : Int) - u + 1 ≤ pk' := by
            intro pk' h1 h2 u y hu1 hu2 hy1 hy2 hty
            by_cases eu : u = x
            · subst eu
              rcases Nat.lt_or_ge y b' with q1 | q1
              · omega
              · have := b4 y q1 hy2
                omega
            · have := hup u y hu1 (by omega) hy1 hy2 hty
              omega
          refine v_iload (pc := 81) cx ga4 dX12_peakOf_81 ?_
          refine v_iload_n (pc := 83) cx rfl ga2 dX12_peakOf_83 ?_
          refine v_icmp_le (pc := 84) cx 92 dX12_peakOf_84 rfl (by omega) (fun c84 => ?_) (fun c84 => ?_)
          · refine v_iload_n (pc := 92) cx rfl ga2 dX12_peakOf_92 ?_
            refine v_istore_n (pc := 93) cx rfl (sa2 rfl) dX12_peakOf_93 ?_
            refine v_iinc (pc := 94) cx ga3 (sa3 rfl) dX12_peakOf_94 ?_
            refine v_goto (pc := 97) cx 9 dX12_peakOf_97 rfl ?_
            refine ih (x + 1) pk _ _ rfl (by omega) (by omega) (by omega) hp0 hp1 (Or.inr ?_) (up2 pk (by omega) (by omega))
            rcases hat with ⟨e3, e4⟩ | hat
            · omega
            · exact hat
          · refine v_iload (pc := 87) cx ga4 dX12_peakOf_87 ?_
            refine v_goto (pc := 89) cx 93 dX12_peakOf_89 rfl ?_
            refine v_istore_n (pc := 93) cx rfl (sa2 rfl) dX12_peakOf_93 ?_
            refine v_iinc (pc := 94) cx ga3 (sa3 rfl) dX12_peakOf_94 ?_
            refine v_goto (pc := 97) cx 9 dX12_peakOf_97 rfl ?_
            exact ih (x + 1) _ _ _ rfl (by omega) (by omega) (by omega) (by omega) (by omega) (Or.inr ⟨x, b' - 1, by omega, by omega, by omega, b3 (b' - 1) (by omega) (by omega), by omega⟩) (up2 _ (by omega) (by omega))
  refine v_iconst (pc := 0) cx dX12_peakOf_0 ?_
  refine v_istore_n (pc := 1) cx rfl (sa2 rfl) dX12_peakOf_1 ?_
  refine v_aload_n (pc := 2) cx rfl ga0 dX12_peakOf_2 ?_
  refine v_getfield (pc := 3) cx flX12_26 (by assumption) gf10 dX12_peakOf_3 ?_
  refine v_iload_n (pc := 6) cx rfl ga1 dX12_peakOf_6 ?_
  refine v_iaload (pc := 7) cx (k) (by assumption) (by omega) dX12_peakOf_7 ?_
  refine v_istore_n (pc := 8) cx rfl (sa3 rfl) dX12_peakOf_8 ?_
  rw [hf]
  exact loop (m + 1) f 0 _ _ rfl (Nat.le_refl _) (by omega) (by omega) (by omega) (by omega) (Or.inl ⟨rfl, rfl⟩) (fun u y h1 h2 => by omega)
