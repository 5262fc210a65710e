set_option maxRecDepth 100000 in
set_option maxHeartbeats 4000000 in
theorem c_isWithin (lc : Launch) (G : Gc) (E : Wd) (nh : Nat) {v a b : Int} (h : (-2147483648 ≤ v ∧ v < 2147483648) ∧ (-2147483648 ≤ a ∧ a < 2147483648) ∧ (-2147483648 ≤ b ∧ b < 2147483648)) : CI lc G 0 yX11_isWithin cX11_isWithin 3 .boolean [.int (iI v), .int (iI a), .int (iI b)] E nh 0 0 (fun r E' => ((r = 1 ∧ a ≤ v ∧ v ≤ b) ∨ (r = 0 ∧ (v < a ∨ b < v))) ∧ E' = E) := by
  refine CI.mk (by decide +kernel) rfl (Nat.le_of_ble_eq_true rfl) ?_
  intro X hG hL cx hR hI
  subst hG; subst hL
  show V X E (nh, 0, 0) 0 [some (.int (iI v)), some (.int (iI a)), some (.int (iI b))] []
  refine v_iload_n (pc := 0) cx rfl ga0 dX11_isWithin_0 ?_
  refine v_iload_n (pc := 1) cx rfl ga1 dX11_isWithin_1 ?_
  refine v_icmp_lt (pc := 2) cx 14 dX11_isWithin_2 rfl (by omega) (fun c2 => ?_) (fun c2 => ?_)
  · refine v_iconst (pc := 14) cx dX11_isWithin_14 ?_
    refine v_ireturn (pc := 15) cx hI rfl ?_ dX11_isWithin_15
    exact ⟨Or.inr ⟨rfl, Or.inl c2⟩, rfl⟩
  · refine v_iload_n (pc := 5) cx rfl ga0 dX11_isWithin_5 ?_
    refine v_iload_n (pc := 6) cx rfl ga2 dX11_isWithin_6 ?_
    refine v_icmp_gt (pc := 7) cx 14 dX11_isWithin_7 rfl (by omega) (fun c7 => ?_) (fun c7 => ?_)
    · refine v_iconst (pc := 14) cx dX11_isWithin_14 ?_
      refine v_ireturn (pc := 15) cx hI rfl ?_ dX11_isWithin_15
      exact ⟨Or.inr ⟨rfl, Or.inr c7⟩, rfl⟩
    · refine v_iconst (pc := 10) cx dX11_isWithin_10 ?_
      refine v_goto (pc := 11) cx 15 dX11_isWithin_11 rfl ?_
      refine v_ireturn (pc := 15) cx hI rfl ?_ dX11_isWithin_15
      exact ⟨Or.inl ⟨rfl, c2, c7⟩, rfl⟩
set_option maxRecDepth 100000 in
set_option maxHeartbeats 4000000 in
theorem c_min (lc : Launch) (G : Gc) (E : Wd) (nh : Nat) {a b : Int} (h : (-2147483648 ≤ a ∧ a < 2147483648) ∧ (-2147483648 ≤ b ∧ b < 2147483648)) : CI lc G 0 yJ9_min_7cf53 cJ9_min_7cf53 2 .int [.int (iI a), .int (iI b)] E nh 0 0 (fun r E' => r = min a b ∧ E' = E) := by
  refine CI.mk (by decide +kernel) rfl (Nat.le_of_ble_eq_true rfl) ?_
  intro X hG hL cx hR hI
  subst hG; subst hL
  show V X E (nh, 0, 0) 0 [some (.int (iI a)), some (.int (iI b))] []
  refine v_iload_n (pc := 0) cx rfl ga0 dJ9_min_7cf53_0 ?_
  refine v_iload_n (pc := 1) cx rfl ga1 dJ9_min_7cf53_1 ?_
  refine v_icmp_gt (pc := 2) cx 9 dJ9_min_7cf53_2 rfl (by omega) (fun c2 => ?_) (fun c2 => ?_)
  · refine v_iload_n (pc := 9) cx rfl ga1 dJ9_min_7cf53_9 ?_
    refine v_ireturn (pc := 10) cx hI rfl ?_ dJ9_min_7cf53_10
    exact ⟨by omega, rfl⟩
  · refine v_iload_n (pc := 5) cx rfl ga0 dJ9_min_7cf53_5 ?_
    refine v_goto (pc := 6) cx 10 dJ9_min_7cf53_6 rfl ?_
    refine v_ireturn (pc := 10) cx hI rfl ?_ dJ9_min_7cf53_10
    exact ⟨by omega, rfl⟩
set_option maxRecDepth 100000 in
set_option maxHeartbeats 4000000 in
theorem c_max (lc : Launch) (G : Gc) (E : Wd) (nh : Nat) {a b : Int} (h : (-2147483648 ≤ a ∧ a < 2147483648) ∧ (-2147483648 ≤ b ∧ b < 2147483648)) : CI lc G 0 yJ9_max_7cf53 cJ9_max_7cf53 2 .int [.int (iI a), .int (iI b)] E nh 0 0 (fun r E' => r = max a b ∧ E' = E) := by
  refine CI.mk (by decide +kernel) rfl (Nat.le_of_ble_eq_true rfl) ?_
  intro X hG hL cx hR hI
  subst hG; subst hL
  show V X E (nh, 0, 0) 0 [some (.int (iI a)), some (.int (iI b))] []
  refine v_iload_n (pc := 0) cx rfl ga0 dJ9_max_7cf53_0 ?_
  refine v_iload_n (pc := 1) cx rfl ga1 dJ9_max_7cf53_1 ?_
  refine v_icmp_lt (pc := 2) cx 9 dJ9_max_7cf53_2 rfl (by omega) (fun c2 => ?_) (fun c2 => ?_)
  · refine v_iload_n (pc := 9) cx rfl ga1 dJ9_max_7cf53_9 ?_
    refine v_ireturn (pc := 10) cx hI rfl ?_ dJ9_max_7cf53_10
    exact ⟨by omega, rfl⟩
  · refine v_iload_n (pc := 5) cx rfl ga0 dJ9_max_7cf53_5 ?_
    refine v_goto (pc := 6) cx 10 dJ9_max_7cf53_6 rfl ?_
    refine v_ireturn (pc := 10) cx hI rfl ?_ dJ9_max_7cf53_10
    exact ⟨by omega, rfl⟩
set_option maxRecDepth 100000 in
set_option maxHeartbeats 4000000 in
theorem c_floorDiv (lc : Launch) (G : Gc) (E : Wd) (nh : Nat) {a b : Int} (h : 0 ≤ a ∧ a < 2147483648 ∧ 0 < b ∧ b < 2147483648) : CI lc G 0 yJ9_floorDiv_7cf53 cJ9_floorDiv_7cf53 3 .int [.int (iI a), .int (iI b)] E nh 0 0 (fun r E' => r = a / b ∧ E' = E) := by
  refine CI.mk (by decide +kernel) rfl (Nat.le_of_ble_eq_true rfl) ?_
  intro X hG hL cx hR hI
  subst hG; subst hL
  show V X E (nh, 0, 0) 0 [some (.int (iI a)), some (.int (iI b)), none] []
  refine v_iload_n (pc := 0) cx rfl ga0 dJ9_floorDiv_7cf53_0 ?_
  refine v_iload_n (pc := 1) cx rfl ga1 dJ9_floorDiv_7cf53_1 ?_
  refine v_idivI (pc := 2) cx (by omega) dJ9_floorDiv_7cf53_2 ?_
  refine v_istore_n (pc := 3) cx rfl (sa2 rfl) dJ9_floorDiv_7cf53_3 ?_
  refine v_iload_n (pc := 4) cx rfl ga0 dJ9_floorDiv_7cf53_4 ?_
  refine v_iload_n (pc := 5) cx rfl ga1 dJ9_floorDiv_7cf53_5 ?_
  refine v_ixorI (pc := 6) cx (by omega) dJ9_floorDiv_7cf53_6 (fun x hx1 hx2 => ?_)
  refine v_if_ge (pc := 7) cx 21 dJ9_floorDiv_7cf53_7 rfl (by omega) (fun c7 => ?_) (fun c7 => ?_)
  · refine v_iload_n (pc := 21) cx rfl ga2 dJ9_floorDiv_7cf53_21 ?_
    refine v_ireturn (pc := 22) cx hI rfl ?_ dJ9_floorDiv_7cf53_22
    exact ⟨rfl, rfl⟩
  · omega
set_option maxRecDepth 100000 in
set_option maxHeartbeats 4000000 in
theorem c_quotient (lc : Launch) (G : Gc) (E : Wd) (nh : Nat) {a b : Int} (h : 0 ≤ a ∧ a < 2147483648 ∧ 0 < b ∧ b < 2147483648) : CI lc G 1 yX11_quotient cX11_quotient 2 .int [.int (iI a), .int (iI b)] E nh 0 0 (fun r E' => r = a / b ∧ E' = E) := by
  refine CI.mk (by decide +kernel) rfl (Nat.le_of_ble_eq_true rfl) ?_
  intro X hG hL cx hR hI
  subst hG; subst hL
  show V X E (nh, 0, 0) 0 [some (.int (iI a)), some (.int (iI b))] []
  refine v_iload_n (pc := 0) cx rfl ga1 dX11_quotient_0 ?_
  refine v_if_ne (pc := 1) cx 8 dX11_quotient_1 rfl (by omega) (fun c1 => ?_) (fun c1 => ?_)
  · refine v_iload_n (pc := 8) cx rfl ga0 dX11_quotient_8 ?_
    refine v_iload_n (pc := 9) cx rfl ga1 dX11_quotient_9 ?_
    refine v_callSI (pc := 10) cx hR (c_floorDiv _ _ _ _ h) mlX11_261 (by decide) rfl (Nat.le_of_ble_eq_true rfl) ⟨Nat.le_refl _, Nat.le_refl _⟩ dX11_quotient_10 (fun r E' hP => ?_)
    obtain ⟨rfl, rfl⟩ := hP
    refine v_ireturn (pc := 13) cx hI rfl ?_ dX11_quotient_13
    exact ⟨rfl, rfl⟩
  · omega
def Out (E E' : Wd) (a b : Nat) : Prop := ∀ j : Nat, (j < a ∨ b ≤ j) → E' j = E j

set_option maxRecDepth 100000 in
set_option maxHeartbeats 4000000 in
theorem c_copyRow (lc : Launch) (G : Gc) (E : Wd) (nh : Nat) {os od m : Nat} {f g : Nat → Int} (hm : m < 10000) (ha : E os = some (AI G m f)) (hb : E od = some (AI G m g)) : CV lc G 1 yX11_copyRow cX11_copyRow 2 [.ref (gb G + os), .ref (gb G + od)] E nh 0 0 (fun E' => E' od = some (AI G m (cpyI f g 0 0 m)) ∧ ∀ j, j ≠ od → E' j = E j) := by
  refine CV.mk (by decide +kernel) rfl (Nat.le_of_ble_eq_true rfl) ?_
  intro X hG hL cx hR hI hini
  subst hG; subst hL
  show V X E (nh, 0, 0) 0 [some (.ref (gb (fG X) + os)), some (.ref (gb (fG X) + od))] []
  refine v_aload_n (pc := 0) cx rfl ga0 dX11_copyRow_0 ?_
  refine v_iconst (pc := 1) cx dX11_copyRow_1 ?_
  refine v_aload_n (pc := 2) cx rfl ga1 dX11_copyRow_2 ?_
  refine v_iconst (pc := 3) cx dX11_copyRow_3 ?_
  refine v_aload_n (pc := 4) cx rfl ga0 dX11_copyRow_4 ?_
  refine v_alen (pc := 5) cx (by assumption) rfl dX11_copyRow_5 ?_
  refine v_aload_n (pc := 6) cx rfl ga1 dX11_copyRow_6 ?_
  refine v_alen (pc := 7) cx (by assumption) rfl dX11_copyRow_7 ?_
  refine v_callSI (pc := 8) cx hR (c_min _ _ _ _ ⟨⟨by omega, by omega⟩, ⟨by omega, by omega⟩⟩) mlX11_264 (by decide) rfl (Nat.le_of_ble_eq_true rfl) ⟨Nat.le_refl _, Nat.le_refl _⟩ dX11_copyRow_8 (fun r E' hP => ?_)
  obtain ⟨rfl, rfl⟩ := hP
  rw [show min (m : Int) (m : Int) = (m : Int) by omega]
  refine v_copy (pc := 11) cx 0 0 m hR (by decide) acX11_267 ac_n ac_s ac_i ha hb (by omega) (Nat.le_of_ble_eq_true rfl) dX11_copyRow_11 (fun E1 hE1 hF1 => ?_)
  refine v_return (pc := 14) cx hI ?_ dX11_copyRow_14
  exact ⟨hE1, hF1⟩
