/-! the law's second helper: ticks in one call or in two -/
def aV (Φ : Fs) (j : Nat) : Int := if j < 5 then vAcc Φ j else if j < 11 then vCnt Φ ((j : Int) - 1) else vCnt Φ 2
theorem aV_1 {Ψ Φ : Fs} (h : Ψ.1 = Φ.1) (j : Nat) (hj : j < 12) : aV Ψ j = aV Φ j := by
  unfold aV
  rw [vAcc_1 h, vCnt_1 h (w := (j : Int) - 1) (by omega) (by omega), vCnt_1 h (w := 2) (by omega) (by omega)]
theorem aV_bd {Φ : Fs} {j : Nat} : (j < 5 → vAcc Φ j = aV Φ j) ∧ (¬ j < 5 → j < 11 → vCnt Φ ((j : Int) - 1) = aV Φ j) ∧ (¬ j < 5 → ¬ j < 11 → vCnt Φ 2 = aV Φ j) := by
  unfold aV
  refine ⟨fun h => by rw [if_pos h], fun h1 h2 => by rw [if_neg h1, if_pos h2], fun h1 h2 => by rw [if_neg h1, if_neg h2]⟩
theorem okX_run {Ψ : Fs} {k : Nat} (hk : okX Ψ) (h1 : 1 ≤ k ∧ k ≤ 1000) (h2 : Ψ.1.1 0 + k ≤ 5000) : okX (ticks Ψ.1 k, keepH Ψ.2.1 Ψ.1, Ψ.2.2) := by
  have := kX_run (k := (k : Int)) hk
  rwa [(run_in h1 h2).2] at this
theorem okX_und {σ σ' : Sg} {hs : List Sg} {tx : List Int} (hk : okX (σ', keepH hs σ, tx)) : okX (σ, (keepH hs σ).dropLast, tx) := by
  have := kX_und hk
  rwa [und_keep] at this
set_option maxRecDepth 100000 in
set_option maxHeartbeats 4000000 in
theorem c_parted (lc : Launch) (G : Gc) (E : Wd) (nh : Nat) {Ψ : Fs} {T p : Nat} (h : isX G E Ψ) (hk : okX Ψ) (hp : okP Ψ.1) (hT : 1 ≤ T ∧ T ≤ 1000 ∧ p ≤ T) (ht : Ψ.1.1 0 + T ≤ 5000) (hn : 124 ≤ nh) : CI lc G 7 yL_parted cL_parted 9 .boolean [.ref (gb G + 0), .int (iI (T : Int)), .int (iI (p : Int))] E nh 1 12 (fun r E' => r = 1 ∧ ∃ hs', isX G E' (ticks Ψ.1 T, hs', Ψ.2.2) ∧ okX (ticks Ψ.1 T, hs', Ψ.2.2)) := by
  refine CI.mk (by decide +kernel) rfl (Nat.le_of_ble_eq_true rfl) ?_
  intro X hG hL cx hR hI
  subst hG; subst hL
  show V X E (nh, 0, 0) 0 [some (.ref (gb (fG X) + 0)), some (.int (iI (T : Int))), some (.int (iI (p : Int))), none, none, none, none, none, none] []
  have hx0 := h.1
  have tb := tips_le (σ := Ψ.1) T
  obtain ⟨er, es⟩ := run_in (Ψ := Ψ) (k := T) ⟨hT.1, hT.2.1⟩ ht
  have hk1 := okX_run hk ⟨hT.1, hT.2.1⟩ ht
  have hp1 := okP_ticks hk.1 hp T ht
  obtain ⟨Φ, hΦ⟩ : ∃ Φ : Fs, Φ = (ticks Ψ.1 T, keepH Ψ.2.1 Ψ.1, Ψ.2.2) := ⟨_, rfl⟩
  rw [← hΦ] at hk1 es
  have hΦ1 : Φ.1 = ticks Ψ.1 T := by rw [hΦ]
  rw [← hΦ1] at hp1
  have comp : ∀ (E : Wd) (Θ : Fs) (g : Nat → Int) (w6 w7 : Int), isX (fG X) E Θ → okX Θ → Θ.1 = ticks Ψ.1 T → Θ.2.2 = Ψ.2.2 → E nh = some (AI (fG X) 12 g) → (∀ j, j < 12 → g j = aV Φ j) → ∀ (d k : Nat), k ≤ 12 → 12 - k < d → V X E (nh + 1, 0 + 1, 0 + 12) 178 [some (.ref (gb (fG X) + 0)), some (.int (iI (T : Int))), some (.int (iI (p : Int))), some (.int (iI (tips Ψ.1 T : Int))), some (.ref (gb (fG X) + nh)), some (.int (iI 1)), some (.int (iI w6)), some (.int (iI w7)), some (.int (iI (k : Int)))] [] := by
    intro E Θ g w6 w7 hx hkΘ h1 h2 hA hg d
    have hx0 := hx.1
    induction d with
    | zero => intro k h1 h2; omega
    | succ d ih =>
      intro k hk12 hd
      refine v_iload (pc := 178) cx ga8 dL_parted_178 ?_
      refine v_bipush (pc := 180) cx (by decide) dL_parted_180 ?_
      refine v_icmp_ge (pc := 182) cx 249 dL_parted_182 rfl (by omega) (fun c182 => ?_) (fun c182 => ?_)
      · refine v_iload (pc := 249) cx ga5 dL_parted_249 ?_
        refine v_ireturn (pc := 251) cx hI rfl ?_ dL_parted_251
        refine ⟨rfl, Θ.2.1, ?_⟩
        rw [← h1, ← h2]
        exact ⟨hx, hkΘ⟩
      refine v_iload (pc := 185) cx ga5 dL_parted_185 ?_
      refine v_if_eq (pc := 187) cx 249 dL_parted_187 rfl (by omega) (fun c187 => ?_) (fun c187 => ?_)
      · omega
      have hj : k < 12 := by omega
      obtain ⟨v1, v2, v3⟩ := aV_bd (Φ := Θ) (j := k)
      have e12 : aV Θ k = aV Φ k := aV_1 (by rw [h1, hΦ1]) k hj
      have cmp : ∀ x : Int, x = aV Θ k → V X E (nh + 1, 0 + 1, 0 + 12) 233 [some (.ref (gb (fG X) + 0)), some (.int (iI (T : Int))), some (.int (iI (p : Int))), some (.int (iI (tips Ψ.1 T : Int))), some (.ref (gb (fG X) + nh)), some (.int (iI 1)), some (.int (iI w6)), some (.int (iI w7)), some (.int (iI (k : Int)))] [.int (iI x), .int (iI (g k))] := by
        intro x hx
        rw [hx, hg k hj, e12]
        refine v_same (pc := 233) cx dL_parted_233 240 rfl ?_
        refine v_iconst (pc := 236) cx dL_parted_236 ?_
        refine v_goto (pc := 237) cx 241 dL_parted_237 rfl ?_
        refine v_istore (pc := 241) cx (sa5 rfl) dL_parted_241 ?_
        refine v_iinc (pc := 243) cx ga8 (sa8 rfl) dL_parted_243 ?_
        refine v_goto (pc := 246) cx 178 dL_parted_246 rfl ?_
        exact ih (k + 1) (by omega) (by omega)
      refine v_aload (pc := 190) cx ga4 dL_parted_190 ?_
      refine v_iload (pc := 192) cx ga8 dL_parted_192 ?_
      refine v_iaload (pc := 194) cx (k) (by assumption) (by omega) dL_parted_194 ?_
      refine v_iload (pc := 195) cx ga8 dL_parted_195 ?_
      refine v_iconst (pc := 197) cx dL_parted_197 ?_
      refine v_icmp_ge (pc := 198) cx 210 dL_parted_198 rfl (by omega) (fun c198 => ?_) (fun c198 => ?_)
      · refine v_iload (pc := 210) cx ga8 dL_parted_210 ?_
        refine v_bipush (pc := 212) cx (by decide) dL_parted_212 ?_
        refine v_icmp_ge (pc := 214) cx 228 dL_parted_214 rfl (by omega) (fun c214 => ?_) (fun c214 => ?_)
        · refine v_aload_n (pc := 228) cx rfl ga0 dL_parted_228 ?_
          refine v_iconst (pc := 229) cx dL_parted_229 ?_
          refine v_callVI (pc := 230) cx hR (c_count _ _ _ _ hx hkΘ (by omega)) mlL_15 (by decide) hx0 rfl rfl rfl (Nat.le_of_ble_eq_true rfl) ⟨Nat.le_refl _, Nat.le_refl _⟩ dL_parted_230 (fun r230 E230 hP => ?_)
          obtain ⟨rfl, rfl⟩ := hP
          exact cmp _ (v3 (by omega) (by omega))
        · refine v_aload_n (pc := 217) cx rfl ga0 dL_parted_217 ?_
          refine v_iload (pc := 218) cx ga8 dL_parted_218 ?_
          refine v_iconst (pc := 220) cx dL_parted_220 ?_
          refine v_isub (pc := 221) cx dL_parted_221 ?_
          refine v_callVI (pc := 222) cx hR (c_count _ _ _ _ hx hkΘ (by omega)) mlL_15 (by decide) hx0 rfl rfl rfl (Nat.le_of_ble_eq_true rfl) ⟨Nat.le_refl _, Nat.le_refl _⟩ dL_parted_222 (fun r222 E222 hP => ?_)
          obtain ⟨rfl, rfl⟩ := hP
          refine v_goto (pc := 225) cx 233 dL_parted_225 rfl ?_
          exact cmp _ (v2 (by omega) (by omega))
      · refine v_aload_n (pc := 201) cx rfl ga0 dL_parted_201 ?_
        refine v_iload (pc := 202) cx ga8 dL_parted_202 ?_
        refine v_callVI (pc := 204) cx hR (c_account _ _ _ _ hx hkΘ (by omega)) mlL_9 (by decide) hx0 rfl rfl rfl (Nat.le_of_ble_eq_true rfl) ⟨Nat.le_refl _, Nat.le_refl _⟩ dL_parted_204 (fun r204 E204 hP => ?_)
        obtain ⟨rfl, rfl⟩ := hP
        refine v_goto (pc := 207) cx 233 dL_parted_207 rfl ?_
        exact cmp _ (v1 (by omega))
  have two : ∀ (E : Wd) (Θ : Fs) (g : Nat → Int) (tw : Int), isX (fG X) E Θ → okX Θ → Θ.1 = ticks Ψ.1 T → Θ.2.2 = Ψ.2.2 → E nh = some (AI (fG X) 12 g) → (∀ j, j < 12 → g j = aV Φ j) → (0 ≤ tw ∧ (tips Ψ.1 p : Int) + tw = tips Ψ.1 T) → V X E (nh + 1, 0 + 1, 0 + 12) 152 [some (.ref (gb (fG X) + 0)), some (.int (iI (T : Int))), some (.int (iI (p : Int))), some (.int (iI (tips Ψ.1 T : Int))), some (.ref (gb (fG X) + nh)), some (.int (iI 1)), some (.int (iI (tips Ψ.1 p : Int))), none, none] [.int (iI tw)] := by
    intro E Θ g tw hx hkΘ h1 h2 hA hg htw
    refine v_istore (pc := 152) cx (sa7 rfl) dL_parted_152 ?_
    refine v_iload (pc := 154) cx ga5 dL_parted_154 ?_
    refine v_if_eq (pc := 156) cx 172 dL_parted_156 rfl (by omega) (fun c156 => ?_) (fun c156 => ?_)
    · omega
    refine v_iload (pc := 159) cx ga6 dL_parted_159 ?_
    refine v_iload (pc := 161) cx ga7 dL_parted_161 ?_
    refine v_iadd (pc := 163) cx dL_parted_163 ?_
    refine v_iload_n (pc := 164) cx rfl ga3 dL_parted_164 ?_
    refine v_icmp_ne (pc := 165) cx 172 dL_parted_165 rfl (by omega) (fun c165 => ?_) (fun c165 => ?_)
    · omega
    refine v_iconst (pc := 168) cx dL_parted_168 ?_
    refine v_goto (pc := 169) cx 173 dL_parted_169 rfl ?_
    refine v_istore (pc := 173) cx (sa5 rfl) dL_parted_173 ?_
    refine v_iconst (pc := 175) cx dL_parted_175 ?_
    refine v_istore (pc := 176) cx (sa8 rfl) dL_parted_176 ?_
    exact comp E Θ g _ _ hx hkΘ h1 h2 hA hg 13 0 (by omega) (by omega)
  have one : ∀ (E : Wd) (hs1 : List Sg) (g : Nat → Int), isX (fG X) E (ticks Ψ.1 p, hs1, Ψ.2.2) → okX (ticks Ψ.1 p, hs1, Ψ.2.2) → E nh = some (AI (fG X) 12 g) → (∀ j, j < 12 → g j = aV Φ j) → V X E (nh + 1, 0 + 1, 0 + 12) 134 [some (.ref (gb (fG X) + 0)), some (.int (iI (T : Int))), some (.int (iI (p : Int))), some (.int (iI (tips Ψ.1 T : Int))), some (.ref (gb (fG X) + nh)), some (.int (iI 1)), none, none, none] [.int (iI (tips Ψ.1 p : Int))] := by
    intro E hs1 g hx hkΘ hA hg
    have hx0 := hx.1
    refine v_istore (pc := 134) cx (sa6 rfl) dL_parted_134 ?_
    refine v_iload_n (pc := 136) cx rfl ga2 dL_parted_136 ?_
    refine v_iload_n (pc := 137) cx rfl ga1 dL_parted_137 ?_
    refine v_icmp_ge (pc := 138) cx 151 dL_parted_138 rfl (by omega) (fun c138 => ?_) (fun c138 => ?_)
    · refine v_iconst (pc := 151) cx dL_parted_151 ?_
      have e : p = T := by omega
      exact two E _ g 0 hx hkΘ (by rw [e]) rfl hA hg ⟨Int.le_refl _, by rw [e]; omega⟩
    · have hpt : p < T := by omega
      have h0 : (ticks Ψ.1 p).1 0 = Ψ.1.1 0 + p := ticks_0 p
      have ht2 : (ticks Ψ.1 p).1 0 + ((T - p : Nat) : Int) ≤ 5000 := by omega
      obtain ⟨er2, es2⟩ := run_in (Ψ := (ticks Ψ.1 p, hs1, Ψ.2.2)) (k := T - p) ⟨by omega, by omega⟩ ht2
      have hk2 := okX_run hkΘ (k := T - p) ⟨by omega, by omega⟩ ht2
      have hadd := ticks_add (σ := Ψ.1) p (T - p)
      have hadt := tips_add (σ := Ψ.1) p (T - p)
      rw [show p + (T - p) = T by omega] at hadd hadt
      refine v_aload_n (pc := 141) cx rfl ga0 dL_parted_141 ?_
      refine v_iload_n (pc := 142) cx rfl ga1 dL_parted_142 ?_
      refine v_iload_n (pc := 143) cx rfl ga2 dL_parted_143 ?_
      refine v_isub (pc := 144) cx dL_parted_144 ?_
      rw [show (T : Int) - (p : Int) = ((T - p : Nat) : Int) by omega]
      refine v_callVI (pc := 145) cx hR (c_run _ _ _ _ hx hkΘ (by omega)) mlL_32 (by decide) hx0 rfl rfl rfl (Nat.le_of_ble_eq_true rfl) ⟨Nat.le_refl _, Nat.le_refl _⟩ dL_parted_145 (fun r145 E145 hP => ?_)
      obtain ⟨hv, hx2, hF⟩ := hP
      rw [er2] at hv
      rw [es2] at hx2
      subst hv
      have hA2 := (hF nh (by omega)).trans hA
      refine v_goto (pc := 148) cx 152 dL_parted_148 rfl ?_
      refine two E145 _ g _ hx2 hk2 hadd rfl hA2 hg ⟨by omega, ?_⟩
      show (tips Ψ.1 p : Int) + (tips (ticks Ψ.1 p) (T - p) : Int) = _
      omega
  have fill : ∀ (d i : Nat) (E : Wd) (g : Nat → Int), i ≤ 12 → 12 - i < d → isX (fG X) E Φ → E nh = some (AI (fG X) 12 g) → (∀ j, j < i → g j = aV Φ j) → V X E (nh + 1, 0 + 1, 0 + 12) 44 [some (.ref (gb (fG X) + 0)), some (.int (iI (T : Int))), some (.int (iI (p : Int))), some (.int (iI (tips Ψ.1 T : Int))), some (.ref (gb (fG X) + nh)), some (.int (iI (i : Int))), none, none, none] [] := by
    intro d
    induction d with
    | zero => intro i E g h1 h2; omega
    | succ d ih =>
      intro i E g hi12 hd hx hA hg
      have hx0 := hx.1
      refine v_iload (pc := 44) cx ga5 dL_parted_44 ?_
      refine v_bipush (pc := 46) cx (by decide) dL_parted_46 ?_
      refine v_icmp_ge (pc := 48) cx 100 dL_parted_48 rfl (by omega) (fun c48 => ?_) (fun c48 => ?_)
      · have hg : ∀ j, j < 12 → g j = aV Φ j := fun j hj => hg j (by omega)
        refine v_aload_n (pc := 100) cx rfl ga0 dL_parted_100 ?_
        refine v_callSI (pc := 101) cx hR (c_holds _ _ _ _ hx hk1 hp1) mlL_35 (by decide) rfl (Nat.le_of_ble_eq_true rfl) ⟨Nat.le_refl _, Nat.le_refl _⟩ dL_parted_101 (fun r101 E101 hP => ?_)
        obtain ⟨rfl, rfl⟩ := hP
        refine v_if_eq (pc := 104) cx 118 dL_parted_104 rfl (by omega) (fun c104 => ?_) (fun c104 => ?_)
        · omega
        refine v_aload_n (pc := 107) cx rfl ga0 dL_parted_107 ?_
        refine v_callVI (pc := 108) cx hR (c_undo _ _ _ _ hx hk1) mlL_41 (by decide) hx0 rfl rfl rfl (Nat.le_of_ble_eq_true rfl) ⟨Nat.le_refl _, Nat.le_refl _⟩ dL_parted_108 (fun r108 E108 hP => ?_)
        obtain ⟨hv, hx2, hF⟩ := hP
        have hu : vUnd Φ = (Φ.2.1.length : Int) - 1 := vUnd_pos (by rw [hΦ]; exact keepH_pos)
        have hu2 : 0 < Φ.2.1.length := by rw [hΦ]; exact keepH_pos
        have hu3 := hk1.2.1.1
        rw [hu] at hv
        subst hv
        have hk2 : okX (Ψ.1, (keepH Ψ.2.1 Ψ.1).dropLast, Ψ.2.2) := okX_und (by rw [← hΦ]; exact hk1)
        rw [hΦ, und_keep] at hx2
        have hA2 := (hF nh (by omega)).trans hA
        have hx20 := hx2.1
        refine v_if_lt (pc := 111) cx 118 dL_parted_111 rfl (by omega) (fun c111 => ?_) (fun c111 => ?_)
        · omega
        refine v_iconst (pc := 114) cx dL_parted_114 ?_
        refine v_goto (pc := 115) cx 119 dL_parted_115 rfl ?_
        refine v_istore (pc := 119) cx (sa5 rfl) dL_parted_119 ?_
        refine v_iload_n (pc := 121) cx rfl ga2 dL_parted_121 ?_
        refine v_if_le (pc := 122) cx 133 dL_parted_122 rfl (by omega) (fun c122 => ?_) (fun c122 => ?_)
        · refine v_iconst (pc := 133) cx dL_parted_133 ?_
          have e : p = 0 := by omega
          subst e
          exact one E108 _ g hx2 hk2 hA2 hg
        · have ht2 : Ψ.1.1 0 + (p : Int) ≤ 5000 := by omega
          obtain ⟨er2, es2⟩ := run_in (Ψ := (Ψ.1, (keepH Ψ.2.1 Ψ.1).dropLast, Ψ.2.2)) (k := p) ⟨by omega, by omega⟩ ht2
          have hk3 := okX_run hk2 (k := p) ⟨by omega, by omega⟩ ht2
          refine v_aload_n (pc := 125) cx rfl ga0 dL_parted_125 ?_
          refine v_iload_n (pc := 126) cx rfl ga2 dL_parted_126 ?_
          refine v_callVI (pc := 127) cx hR (c_run _ _ _ _ hx2 hk2 (by omega)) mlL_32 (by decide) hx20 rfl rfl rfl (Nat.le_of_ble_eq_true rfl) ⟨Nat.le_refl _, Nat.le_refl _⟩ dL_parted_127 (fun r127 E127 hP => ?_)
          obtain ⟨hv, hx3, hF3⟩ := hP
          rw [er2] at hv
          rw [es2] at hx3
          subst hv
          have hA3 := (hF3 nh (by omega)).trans hA2
          refine v_goto (pc := 130) cx 134 dL_parted_130 rfl ?_
          exact one E127 _ g hx3 hk3 hA3 hg
      have hi : i < 12 := by omega
      obtain ⟨v1, v2, v3⟩ := aV_bd (Φ := Φ) (j := i)
      have put : ∀ x : Int, x = aV Φ i → V X E (nh + 1, 0 + 1, 0 + 12) 93 [some (.ref (gb (fG X) + 0)), some (.int (iI (T : Int))), some (.int (iI (p : Int))), some (.int (iI (tips Ψ.1 T : Int))), some (.ref (gb (fG X) + nh)), some (.int (iI (i : Int))), none, none, none] [.int (iI x), .int (iI (i : Int)), .ref (gb (fG X) + nh)] := by
        intro x hxv
        have hA1 := hA
        refine v_iastore (pc := 93) cx (i) hA1 (by omega) dL_parted_93 (fun E93 hE93 hF93 => ?_)
        refine v_iinc (pc := 94) cx ga5 (sa5 rfl) dL_parted_94 ?_
        refine v_goto (pc := 97) cx 44 dL_parted_97 rfl ?_
        refine ih (i + 1) E93 _ (by omega) (by omega) (hx.out (x := nh) (y := nh + 1) (fun j hj => hF93 j (by omega)) hn) hE93 (fun j hj => ?_)
        by_cases q : j = i
        · rw [q, upI_s, hxv]
        · rw [upI_n q]
          exact hg j (by omega)
      refine v_aload (pc := 51) cx ga4 dL_parted_51 ?_
      refine v_iload (pc := 53) cx ga5 dL_parted_53 ?_
      refine v_iload (pc := 55) cx ga5 dL_parted_55 ?_
      refine v_iconst (pc := 57) cx dL_parted_57 ?_
      refine v_icmp_ge (pc := 58) cx 70 dL_parted_58 rfl (by omega) (fun c58 => ?_) (fun c58 => ?_)
      · refine v_iload (pc := 70) cx ga5 dL_parted_70 ?_
        refine v_bipush (pc := 72) cx (by decide) dL_parted_72 ?_
        refine v_icmp_ge (pc := 74) cx 88 dL_parted_74 rfl (by omega) (fun c74 => ?_) (fun c74 => ?_)
        · refine v_aload_n (pc := 88) cx rfl ga0 dL_parted_88 ?_
          refine v_iconst (pc := 89) cx dL_parted_89 ?_
          refine v_callVI (pc := 90) cx hR (c_count _ _ _ _ hx hk1 (by omega)) mlL_15 (by decide) hx0 rfl rfl rfl (Nat.le_of_ble_eq_true rfl) ⟨Nat.le_refl _, Nat.le_refl _⟩ dL_parted_90 (fun r90 E90 hP => ?_)
          obtain ⟨rfl, rfl⟩ := hP
          exact put _ (v3 (by omega) (by omega))
        · refine v_aload_n (pc := 77) cx rfl ga0 dL_parted_77 ?_
          refine v_iload (pc := 78) cx ga5 dL_parted_78 ?_
          refine v_iconst (pc := 80) cx dL_parted_80 ?_
          refine v_isub (pc := 81) cx dL_parted_81 ?_
          refine v_callVI (pc := 82) cx hR (c_count _ _ _ _ hx hk1 (by omega)) mlL_15 (by decide) hx0 rfl rfl rfl (Nat.le_of_ble_eq_true rfl) ⟨Nat.le_refl _, Nat.le_refl _⟩ dL_parted_82 (fun r82 E82 hP => ?_)
          obtain ⟨rfl, rfl⟩ := hP
          refine v_goto (pc := 85) cx 93 dL_parted_85 rfl ?_
          exact put _ (v2 (by omega) (by omega))
      · refine v_aload_n (pc := 61) cx rfl ga0 dL_parted_61 ?_
        refine v_iload (pc := 62) cx ga5 dL_parted_62 ?_
        refine v_callVI (pc := 64) cx hR (c_account _ _ _ _ hx hk1 (by omega)) mlL_9 (by decide) hx0 rfl rfl rfl (Nat.le_of_ble_eq_true rfl) ⟨Nat.le_refl _, Nat.le_refl _⟩ dL_parted_64 (fun r64 E64 hP => ?_)
        obtain ⟨rfl, rfl⟩ := hP
        refine v_goto (pc := 67) cx 93 dL_parted_67 rfl ?_
        exact put _ (v1 (by omega))
  refine v_aload_n (pc := 0) cx rfl ga0 dL_parted_0 ?_
  refine v_iload_n (pc := 1) cx rfl ga1 dL_parted_1 ?_
  refine v_callVI (pc := 2) cx hR (c_run _ _ _ _ h hk (by omega)) mlL_32 (by decide) hx0 rfl rfl rfl (Nat.le_of_ble_eq_true rfl) ⟨Nat.zero_le _, Nat.zero_le _⟩ dL_parted_2 (fun r2 E2 hP => ?_)
  obtain ⟨hv, hx1, hF⟩ := hP
  rw [er] at hv
  rw [es] at hx1
  subst hv
  refine v_istore_n (pc := 5) cx rfl (sa3 rfl) dL_parted_5 ?_
  refine v_iload_n (pc := 6) cx rfl ga3 dL_parted_6 ?_
  refine v_if_ge (pc := 7) cx 35 dL_parted_7 rfl (by omega) (fun c7 => ?_) (fun c7 => ?_)
  rotate_left 1
  · omega
  refine v_bipush (pc := 35) cx (by decide) dL_parted_35 ?_
  refine v_newint (pc := 37) cx 12 hR aw_int ⟨rfl, by decide⟩ ⟨Nat.le_of_ble_eq_true rfl, Nat.le_of_ble_eq_true rfl⟩ dL_parted_37 (fun E37 hE37 hF37 => ?_)
  replace hE37 : E37 (nh) = _ := hE37
  replace hF37 : ∀ j, j ≠ nh → E37 j = _ := hF37
  refine v_astore (pc := 39) cx (sa4 rfl) dL_parted_39 ?_
  refine v_iconst (pc := 41) cx dL_parted_41 ?_
  refine v_istore (pc := 42) cx (sa5 rfl) dL_parted_42 ?_
  exact fill 13 0 E37 _ (by omega) (by omega) (hx1.out (x := nh) (y := nh + 1) (fun j hj => hF37 j (by omega)) hn) hE37 (fun j hj => absurd hj (Nat.not_lt_zero _))
