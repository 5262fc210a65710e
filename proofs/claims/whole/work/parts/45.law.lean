/-! the law: its script, its loop, its walk -/
theorem iI_and31 (a : Int) : ∃ r : Int, 0 ≤ r ∧ r ≤ 31 ∧ iI a &&& iI 31 = iI r := by
  have h1 : (iI a &&& iI 31).toBitVec.toNat ≤ 31 := by
    rw [Int32.toBitVec_and, BitVec.toNat_and]
    exact Nat.le_trans Nat.and_le_right (by decide)
  refine ⟨((iI a &&& iI 31).toBitVec.toNat : Int), by omega, by omega, ?_⟩
  rw [iI_nI]
  apply Int32.toBitVec_inj.mp
  simp [nI]
section LawRows
variable {X : Fx} {E : Wd} {z : Nat × Nat × Nat} {pc : Nat} {ls : List (Option Value)} {st : List Value} {cc : ByteArray} {ow : String}
theorem v_iand31 (cx : Cx X cc ow) {a : Int} (hd : decode cc pc = .ok (.iand, 1)) (kk : ∀ r : Int, 0 ≤ r → r ≤ 31 → V X E z (pc + 1) ls (.int (iI r) :: st)) : V X E z pc ls (.int (iI 31) :: .int (iI a) :: st) := by
  obtain ⟨r, h1, h2, h3⟩ := iI_and31 a
  have k := kk r h1 h2
  rw [← h3] at k
  exact v_iand cx hd k
theorem v_sld (cx : Cx X cc ow) {b L : Nat} {xs : Nat → Int32} (hX : va_X b L xs (fS X) (fS X).heap) (hb : b < (fS X).heap.size ∧ b < gb (fG X)) {i : Int} (j : Nat) (hj : i = (j : Int) ∧ j < L ∧ (j : Int) < 2147483648) (hd : decode cc pc = .ok (.iaload, 1)) (kk : V X E z (pc + 1) ls (.int (iI (xs j).toInt) :: st)) : V X E z pc ls (.int (iI i) :: .ref b :: st) := by
  intro H locs L1 h1
  obtain ⟨e1, e2⟩ := iI_in hj.1 hj.2.1 hj.2.2
  have k := kk H locs L1 h1
  rw [← iI_of (xs j)] at k
  exact va_sld cx.1 cx.2.1 hX hb.1 (show ¬ gb (fG X) ≤ b by omega) h1.2.2.1 e1 hd (by rw [e2]; exact k)
theorem v_slen (cx : Cx X cc ow) {b L : Nat} {xs : Nat → Int32} (hX : va_X b L xs (fS X) (fS X).heap) (hb : b < (fS X).heap.size ∧ b < gb (fG X)) (hd : decode cc pc = .ok (.arraylength, 1)) (kk : V X E z (pc + 1) ls (.int (iI (L : Int)) :: st)) : V X E z pc ls (.ref b :: st) := by
  intro H locs L1 h1
  have k := kk H locs L1 h1
  rw [show iI (L : Int) = Int32.ofNat L from Int32.ofInt_eq_ofNat (n := L)] at k
  exact va_slen cx.1 cx.2.1 hX hb.1 (show ¬ gb (fG X) ≤ b by omega) h1.2.2.1 hd k
end LawRows
theorem isM.obj {G : Gc} {E : Wd} {Ψ : Fs} (h : isM G E Ψ) : ∃ fs, E 124 = some (.inr (12, fs)) := by
  obtain ⟨aa, re, rs, sm, d, w, a, c, rd, fi, h1, h2⟩ := h
  exact ⟨_, h1.1⟩
set_option maxRecDepth 100000 in
set_option maxHeartbeats 4000000 in
theorem law_loop {X : Fx} (cx : Cx X cL_law RL) (hR : RM X 8 131 5910) {b L : Nat} {xs : Nat → Int32} (hX : va_X b L xs (fS X) (fS X).heap) (hb : b < (fS X).heap.size ∧ b < gb (fG X)) (hL : L ≤ 2048) (fin : ∀ (E : Wd) (i : Int), V X E (131, 131, 5910) 733 [some (.ref b), some (.ref (gb (fG X) + 0)), some (.ref (gb (fG X) + 124)), some (.int (iI i))] [.int (iI 1)]) : ∀ (q i : Nat) (Ψ : Fs) (E : Wd), i ≤ L + 4 → L + 4 - i < q → okX Ψ → isX (fG X) E Ψ → isM (fG X) E Ψ → V X E (131, 131, 5910) 18 [some (.ref b), some (.ref (gb (fG X) + 0)), some (.ref (gb (fG X) + 124)), some (.int (iI (i : Int)))] [] := by
  intro q
  induction q with
  | zero => intro i Ψ E h1 h2; omega
  | succ q ih =>
    intro i Ψ E hi hq hk hx hm
    have hx0 := hx.1
    obtain ⟨mf, hm0⟩ := hm.obj
    refine v_iload_n (pc := 18) cx rfl ga3 dL_law_18 ?_
    refine v_aload_n (pc := 19) cx rfl ga0 dL_law_19 ?_
    refine v_slen (pc := 20) cx hX hb dL_law_20 ?_
    refine v_iconst (pc := 21) cx dL_law_21 ?_
    refine v_isub (pc := 22) cx dL_law_22 ?_
    refine v_icmp_gt (pc := 23) cx 732 dL_law_23 rfl (by omega) (fun c23 => ?_) (fun c23 => ?_)
    · refine v_iconst (pc := 732) cx dL_law_732 ?_
      exact fin _ _
    · refine v_aload_n (pc := 26) cx rfl ga0 dL_law_26 ?_
      refine v_iload_n (pc := 27) cx rfl ga3 dL_law_27 ?_
      refine v_sld (pc := 28) cx hX hb (i) (by omega) dL_law_28 ?_
      refine v_bipush (pc := 29) cx (by decide) dL_law_29 ?_
      refine v_iand31 (pc := 31) cx dL_law_31 (fun r hr0 hr1 => ?_)
      have g1 := iI_rg (xs (i + 1))
      have g2 := iI_rg (xs (i + 2))
      have g3 := iI_rg (xs (i + 3))
      have nxt : ∀ (Ψ' : Fs) (E' : Wd), okX Ψ' → isX (fG X) E' Ψ' → isM (fG X) E' Ψ' → V X E' (131, 131, 5910) 726 [some (.ref b), some (.ref (gb (fG X) + 0)), some (.ref (gb (fG X) + 124)), some (.int (iI (i : Int)))] [] := by
        intro Ψ' E' h1 h2 h3
        refine v_iinc (pc := 726) cx ga3 (sa3 rfl) dL_law_726 ?_
        refine v_goto (pc := 729) cx 18 dL_law_729 rfl ?_
        exact ih (i + 4) Ψ' E' (by omega) (by omega) h1 h2 h3
      rcases (show r = 0 ∨ r = 1 ∨ r = 2 ∨ r = 3 ∨ r = 4 ∨ r = 5 ∨ r = 6 ∨ r = 7 ∨ r = 8 ∨ r = 9 ∨ r = 10 ∨ r = 11 ∨ r = 12 ∨ r = 13 ∨ r = 14 ∨ r = 15 ∨ r = 16 ∨ r = 17 ∨ r = 18 ∨ r = 19 ∨ r = 20 ∨ r = 21 ∨ r = 22 ∨ r = 23 ∨ 23 < r by omega) with rfl | rfl | rfl | rfl | rfl | rfl | rfl | rfl | rfl | rfl | rfl | rfl | rfl | rfl | rfl | rfl | rfl | rfl | rfl | rfl | rfl | rfl | rfl | rfl | hr2
      · refine v_tableIn (pc := 32) cx 144 dL_law_32 (by omega) rfl rfl ?_
        refine v_aload_n (pc := 144) cx rfl ga1 dL_law_144 ?_
        refine v_aload_n (pc := 145) cx rfl ga0 dL_law_145 ?_
        refine v_iload_n (pc := 146) cx rfl ga3 dL_law_146 ?_
        refine v_iconst (pc := 147) cx dL_law_147 ?_
        refine v_iadd (pc := 148) cx dL_law_148 ?_
        refine v_sld (pc := 149) cx hX hb (i + 1) (by omega) dL_law_149 ?_
        refine v_aload_n (pc := 150) cx rfl ga0 dL_law_150 ?_
        refine v_iload_n (pc := 151) cx rfl ga3 dL_law_151 ?_
        refine v_iconst (pc := 152) cx dL_law_152 ?_
        refine v_iadd (pc := 153) cx dL_law_153 ?_
        refine v_sld (pc := 154) cx hX hb (i + 2) (by omega) dL_law_154 ?_
        refine v_aload_n (pc := 155) cx rfl ga0 dL_law_155 ?_
        refine v_iload_n (pc := 156) cx rfl ga3 dL_law_156 ?_
        refine v_iconst (pc := 157) cx dL_law_157 ?_
        refine v_iadd (pc := 158) cx dL_law_158 ?_
        refine v_sld (pc := 159) cx hX hb (i + 3) (by omega) dL_law_159 ?_
        refine v_callVI (pc := 160) cx hR (c_addShower _ _ _ _ hx hk g1 g2 g3) mlL_13 (by decide) hx0 rfl rfl rfl (Nat.le_of_ble_eq_true rfl) ⟨Nat.le_refl _, Nat.le_refl _⟩ dL_law_160 (fun v1 E1 hP => ?_)
        obtain ⟨hv1, hx1, hF1⟩ := hP
        have hm1 := hm.out hF1 (by omega)
        obtain ⟨mf1, hm0⟩ := hm1.obj
        refine v_aload_n (pc := 163) cx rfl ga2 dL_law_163 ?_
        refine v_aload_n (pc := 164) cx rfl ga0 dL_law_164 ?_
        refine v_iload_n (pc := 165) cx rfl ga3 dL_law_165 ?_
        refine v_iconst (pc := 166) cx dL_law_166 ?_
        refine v_iadd (pc := 167) cx dL_law_167 ?_
        refine v_sld (pc := 168) cx hX hb (i + 1) (by omega) dL_law_168 ?_
        refine v_aload_n (pc := 169) cx rfl ga0 dL_law_169 ?_
        refine v_iload_n (pc := 170) cx rfl ga3 dL_law_170 ?_
        refine v_iconst (pc := 171) cx dL_law_171 ?_
        refine v_iadd (pc := 172) cx dL_law_172 ?_
        refine v_sld (pc := 173) cx hX hb (i + 2) (by omega) dL_law_173 ?_
        refine v_aload_n (pc := 174) cx rfl ga0 dL_law_174 ?_
        refine v_iload_n (pc := 175) cx rfl ga3 dL_law_175 ?_
        refine v_iconst (pc := 176) cx dL_law_176 ?_
        refine v_iadd (pc := 177) cx dL_law_177 ?_
        refine v_sld (pc := 178) cx hX hb (i + 3) (by omega) dL_law_178 ?_
        refine v_callVI (pc := 179) cx hR (r_addShower _ _ _ _ hm1 hk g1 g2 g3) mlL_17 (by decide) hm0 rfl rfl rfl (Nat.le_of_ble_eq_true rfl) ⟨Nat.le_refl _, Nat.le_refl _⟩ dL_law_179 (fun v2 E2 hP => ?_)
        obtain ⟨hv2, hm2, hF2⟩ := hP
        refine v_if_icmp_eqI (pc := 182) cx 726 dL_law_182 rfl (fun c182 => ?_) (fun c182 => ?_)
        · exact nxt _ _ (kX_add hk) (hx1.out hF2 (by omega)) hm2
        · exact absurd (by rw [hv1, hv2]) c182
      · refine v_tableIn (pc := 32) cx 187 dL_law_32 (by omega) rfl rfl ?_
        refine v_aload_n (pc := 187) cx rfl ga1 dL_law_187 ?_
        refine v_aload_n (pc := 188) cx rfl ga0 dL_law_188 ?_
        refine v_iload_n (pc := 189) cx rfl ga3 dL_law_189 ?_
        refine v_iconst (pc := 190) cx dL_law_190 ?_
        refine v_iadd (pc := 191) cx dL_law_191 ?_
        refine v_sld (pc := 192) cx hX hb (i + 1) (by omega) dL_law_192 ?_
        refine v_callVI (pc := 193) cx hR (c_cancel _ _ _ _ hx hk g1) mlL_18 (by decide) hx0 rfl rfl rfl (Nat.le_of_ble_eq_true rfl) ⟨Nat.le_refl _, Nat.le_refl _⟩ dL_law_193 (fun v1 E1 hP => ?_)
        obtain ⟨hv1, hx1, hF1⟩ := hP
        have hm1 := hm.out hF1 (by omega)
        obtain ⟨mf1, hm0⟩ := hm1.obj
        refine v_aload_n (pc := 196) cx rfl ga2 dL_law_196 ?_
        refine v_aload_n (pc := 197) cx rfl ga0 dL_law_197 ?_
        refine v_iload_n (pc := 198) cx rfl ga3 dL_law_198 ?_
        refine v_iconst (pc := 199) cx dL_law_199 ?_
        refine v_iadd (pc := 200) cx dL_law_200 ?_
        refine v_sld (pc := 201) cx hX hb (i + 1) (by omega) dL_law_201 ?_
        refine v_callVI (pc := 202) cx hR (r_cancel _ _ _ _ hm1 hk g1) mlL_22 (by decide) hm0 rfl rfl rfl (Nat.le_of_ble_eq_true rfl) ⟨Nat.le_refl _, Nat.le_refl _⟩ dL_law_202 (fun v2 E2 hP => ?_)
        obtain ⟨hv2, hm2, hF2⟩ := hP
        refine v_if_icmp_eqI (pc := 205) cx 726 dL_law_205 rfl (fun c205 => ?_) (fun c205 => ?_)
        · exact nxt _ _ (kX_can hk) (hx1.out hF2 (by omega)) hm2
        · exact absurd (by rw [hv1, hv2]) c205
      · refine v_tableIn (pc := 32) cx 210 dL_law_32 (by omega) rfl rfl ?_
        refine v_aload_n (pc := 210) cx rfl ga1 dL_law_210 ?_
        refine v_aload_n (pc := 211) cx rfl ga0 dL_law_211 ?_
        refine v_iload_n (pc := 212) cx rfl ga3 dL_law_212 ?_
        refine v_iconst (pc := 213) cx dL_law_213 ?_
        refine v_iadd (pc := 214) cx dL_law_214 ?_
        refine v_sld (pc := 215) cx hX hb (i + 1) (by omega) dL_law_215 ?_
        refine v_aload_n (pc := 216) cx rfl ga0 dL_law_216 ?_
        refine v_iload_n (pc := 217) cx rfl ga3 dL_law_217 ?_
        refine v_iconst (pc := 218) cx dL_law_218 ?_
        refine v_iadd (pc := 219) cx dL_law_219 ?_
        refine v_sld (pc := 220) cx hX hb (i + 2) (by omega) dL_law_220 ?_
        refine v_callVI (pc := 221) cx hR (c_shower _ _ _ _ hx hk g1 g2) mlL_23 (by decide) hx0 rfl rfl rfl (Nat.le_of_ble_eq_true rfl) ⟨Nat.le_refl _, Nat.le_refl _⟩ dL_law_221 (fun v1 E1 hP => ?_)
        obtain ⟨hv1, rfl⟩ := hP
        refine v_aload_n (pc := 224) cx rfl ga2 dL_law_224 ?_
        refine v_aload_n (pc := 225) cx rfl ga0 dL_law_225 ?_
        refine v_iload_n (pc := 226) cx rfl ga3 dL_law_226 ?_
        refine v_iconst (pc := 227) cx dL_law_227 ?_
        refine v_iadd (pc := 228) cx dL_law_228 ?_
        refine v_sld (pc := 229) cx hX hb (i + 1) (by omega) dL_law_229 ?_
        refine v_aload_n (pc := 230) cx rfl ga0 dL_law_230 ?_
        refine v_iload_n (pc := 231) cx rfl ga3 dL_law_231 ?_
        refine v_iconst (pc := 232) cx dL_law_232 ?_
        refine v_iadd (pc := 233) cx dL_law_233 ?_
        refine v_sld (pc := 234) cx hX hb (i + 2) (by omega) dL_law_234 ?_
        refine v_callVI (pc := 235) cx hR (r_shower _ _ _ _ hm hk g1 g2) mlL_27 (by decide) hm0 rfl rfl rfl (Nat.le_of_ble_eq_true rfl) ⟨Nat.le_refl _, Nat.le_refl _⟩ dL_law_235 (fun v2 E2 hP => ?_)
        obtain ⟨hv2, rfl⟩ := hP
        refine v_if_icmp_eqI (pc := 238) cx 726 dL_law_238 rfl (fun c238 => ?_) (fun c238 => ?_)
        · exact nxt _ _ hk hx hm
        · exact absurd (by rw [hv1, hv2]) c238
      · refine v_tableIn (pc := 32) cx 243 dL_law_32 (by omega) rfl rfl ?_
        refine v_aload_n (pc := 243) cx rfl ga1 dL_law_243 ?_
        refine v_aload_n (pc := 244) cx rfl ga0 dL_law_244 ?_
        refine v_iload_n (pc := 245) cx rfl ga3 dL_law_245 ?_
        refine v_iconst (pc := 246) cx dL_law_246 ?_
        refine v_iadd (pc := 247) cx dL_law_247 ?_
        refine v_sld (pc := 248) cx hX hb (i + 1) (by omega) dL_law_248 ?_
        refine v_callVI (pc := 249) cx hR (c_run _ _ _ _ hx hk g1) mlL_28 (by decide) hx0 rfl rfl rfl (Nat.le_of_ble_eq_true rfl) ⟨Nat.le_refl _, Nat.le_refl _⟩ dL_law_249 (fun v1 E1 hP => ?_)
        obtain ⟨hv1, hx1, hF1⟩ := hP
        have hm1 := hm.out hF1 (by omega)
        obtain ⟨mf1, hm0⟩ := hm1.obj
        refine v_aload_n (pc := 252) cx rfl ga2 dL_law_252 ?_
        refine v_aload_n (pc := 253) cx rfl ga0 dL_law_253 ?_
        refine v_iload_n (pc := 254) cx rfl ga3 dL_law_254 ?_
        refine v_iconst (pc := 255) cx dL_law_255 ?_
        refine v_iadd (pc := 256) cx dL_law_256 ?_
        refine v_sld (pc := 257) cx hX hb (i + 1) (by omega) dL_law_257 ?_
        refine v_callVI (pc := 258) cx hR (r_run _ _ _ _ hm1 hk g1) mlL_31 (by decide) hm0 rfl rfl rfl (Nat.le_of_ble_eq_true rfl) ⟨Nat.le_refl _, Nat.le_refl _⟩ dL_law_258 (fun v2 E2 hP => ?_)
        obtain ⟨hv2, hm2, hF2⟩ := hP
        refine v_if_icmp_eqI (pc := 261) cx 726 dL_law_261 rfl (fun c261 => ?_) (fun c261 => ?_)
        · exact nxt _ _ (kX_run hk) (hx1.out hF2 (by omega)) hm2
        · exact absurd (by rw [hv1, hv2]) c261
      · refine v_tableIn (pc := 32) cx 266 dL_law_32 (by omega) rfl rfl ?_
        refine v_aload_n (pc := 266) cx rfl ga1 dL_law_266 ?_
        refine v_callVI (pc := 267) cx hR (c_undo _ _ _ _ hx hk) mlL_32 (by decide) hx0 rfl rfl rfl (Nat.le_of_ble_eq_true rfl) ⟨Nat.le_refl _, Nat.le_refl _⟩ dL_law_267 (fun v1 E1 hP => ?_)
        obtain ⟨hv1, hx1, hF1⟩ := hP
        have hm1 := hm.out hF1 (by omega)
        obtain ⟨mf1, hm0⟩ := hm1.obj
        refine v_aload_n (pc := 270) cx rfl ga2 dL_law_270 ?_
        refine v_callVI (pc := 271) cx hR (r_undo _ _ _ _ hm1 hk) mlL_36 (by decide) hm0 rfl rfl rfl (Nat.le_of_ble_eq_true rfl) ⟨Nat.le_refl _, Nat.le_refl _⟩ dL_law_271 (fun v2 E2 hP => ?_)
        obtain ⟨hv2, hm2, hF2⟩ := hP
        refine v_if_icmp_eqI (pc := 274) cx 726 dL_law_274 rfl (fun c274 => ?_) (fun c274 => ?_)
        · exact nxt _ _ (kX_und hk) (hx1.out hF2 (by omega)) hm2
        · exact absurd (by rw [hv1, hv2]) c274
      · refine v_tableIn (pc := 32) cx 279 dL_law_32 (by omega) rfl rfl ?_
        refine v_aload_n (pc := 279) cx rfl ga1 dL_law_279 ?_
        refine v_aload_n (pc := 280) cx rfl ga0 dL_law_280 ?_
        refine v_iload_n (pc := 281) cx rfl ga3 dL_law_281 ?_
        refine v_iconst (pc := 282) cx dL_law_282 ?_
        refine v_iadd (pc := 283) cx dL_law_283 ?_
        refine v_sld (pc := 284) cx hX hb (i + 1) (by omega) dL_law_284 ?_
        refine v_aload_n (pc := 285) cx rfl ga0 dL_law_285 ?_
        refine v_iload_n (pc := 286) cx rfl ga3 dL_law_286 ?_
        refine v_iconst (pc := 287) cx dL_law_287 ?_
        refine v_iadd (pc := 288) cx dL_law_288 ?_
        refine v_sld (pc := 289) cx hX hb (i + 2) (by omega) dL_law_289 ?_
        refine v_callVI (pc := 290) cx hR (c_set _ _ _ _ hx hk g1 g2) mlL_37 (by decide) hx0 rfl rfl rfl (Nat.le_of_ble_eq_true rfl) ⟨Nat.le_refl _, Nat.le_refl _⟩ dL_law_290 (fun v1 E1 hP => ?_)
        obtain ⟨hv1, hx1, hF1⟩ := hP
        have hm1 := hm.out hF1 (by omega)
        obtain ⟨mf1, hm0⟩ := hm1.obj
        refine v_aload_n (pc := 293) cx rfl ga2 dL_law_293 ?_
        refine v_aload_n (pc := 294) cx rfl ga0 dL_law_294 ?_
        refine v_iload_n (pc := 295) cx rfl ga3 dL_law_295 ?_
        refine v_iconst (pc := 296) cx dL_law_296 ?_
        refine v_iadd (pc := 297) cx dL_law_297 ?_
        refine v_sld (pc := 298) cx hX hb (i + 1) (by omega) dL_law_298 ?_
        refine v_aload_n (pc := 299) cx rfl ga0 dL_law_299 ?_
        refine v_iload_n (pc := 300) cx rfl ga3 dL_law_300 ?_
        refine v_iconst (pc := 301) cx dL_law_301 ?_
        refine v_iadd (pc := 302) cx dL_law_302 ?_
        refine v_sld (pc := 303) cx hX hb (i + 2) (by omega) dL_law_303 ?_
        refine v_callVI (pc := 304) cx hR (r_set _ _ _ _ hm1 hk g1 g2) mlL_40 (by decide) hm0 rfl rfl rfl (Nat.le_of_ble_eq_true rfl) ⟨Nat.le_refl _, Nat.le_refl _⟩ dL_law_304 (fun v2 E2 hP => ?_)
        obtain ⟨hv2, hm2, hF2⟩ := hP
        refine v_if_icmp_eqI (pc := 307) cx 726 dL_law_307 rfl (fun c307 => ?_) (fun c307 => ?_)
        · exact nxt _ _ (kX_set hk) (hx1.out hF2 (by omega)) hm2
        · exact absurd (by rw [hv1, hv2]) c307
      · refine v_tableIn (pc := 32) cx 312 dL_law_32 (by omega) rfl rfl ?_
        refine v_aload_n (pc := 312) cx rfl ga1 dL_law_312 ?_
        refine v_callVI (pc := 313) cx hR (c_wind _ _ _ _ hx hk) mlL_41 (by decide) hx0 rfl rfl rfl (Nat.le_of_ble_eq_true rfl) ⟨Nat.le_refl _, Nat.le_refl _⟩ dL_law_313 (fun v1 E1 hP => ?_)
        obtain ⟨hv1, hx1, hF1⟩ := hP
        have hm1 := hm.out hF1 (by omega)
        obtain ⟨mf1, hm0⟩ := hm1.obj
        refine v_aload_n (pc := 316) cx rfl ga2 dL_law_316 ?_
        refine v_callVI (pc := 317) cx hR (r_wind _ _ _ _ hm1 hk) mlL_44 (by decide) hm0 rfl rfl rfl (Nat.le_of_ble_eq_true rfl) ⟨Nat.le_refl _, Nat.le_refl _⟩ dL_law_317 (fun v2 E2 hP => ?_)
        obtain ⟨hv2, hm2, hF2⟩ := hP
        refine v_if_icmp_eqI (pc := 320) cx 726 dL_law_320 rfl (fun c320 => ?_) (fun c320 => ?_)
        · exact nxt _ _ (kX_win hk) (hx1.out hF2 (by omega)) hm2
        · exact absurd (by rw [hv1, hv2]) c320
      · refine v_tableIn (pc := 32) cx 325 dL_law_32 (by omega) rfl rfl ?_
        refine v_aload_n (pc := 325) cx rfl ga1 dL_law_325 ?_
        refine v_aload_n (pc := 326) cx rfl ga0 dL_law_326 ?_
        refine v_iload_n (pc := 327) cx rfl ga3 dL_law_327 ?_
        refine v_iconst (pc := 328) cx dL_law_328 ?_
        refine v_iadd (pc := 329) cx dL_law_329 ?_
        refine v_sld (pc := 330) cx hX hb (i + 1) (by omega) dL_law_330 ?_
        refine v_aload_n (pc := 331) cx rfl ga0 dL_law_331 ?_
        refine v_iload_n (pc := 332) cx rfl ga3 dL_law_332 ?_
        refine v_iconst (pc := 333) cx dL_law_333 ?_
        refine v_iadd (pc := 334) cx dL_law_334 ?_
        refine v_sld (pc := 335) cx hX hb (i + 2) (by omega) dL_law_335 ?_
        refine v_callVI (pc := 336) cx hR (c_addGears _ _ _ _ hx hk g1 g2) mlL_45 (by decide) hx0 rfl rfl rfl (Nat.le_of_ble_eq_true rfl) ⟨Nat.le_refl _, Nat.le_refl _⟩ dL_law_336 (fun v1 E1 hP => ?_)
        obtain ⟨hv1, hx1, hF1⟩ := hP
        have hm1 := hm.out hF1 (by omega)
        obtain ⟨mf1, hm0⟩ := hm1.obj
        refine v_aload_n (pc := 339) cx rfl ga2 dL_law_339 ?_
        refine v_aload_n (pc := 340) cx rfl ga0 dL_law_340 ?_
        refine v_iload_n (pc := 341) cx rfl ga3 dL_law_341 ?_
        refine v_iconst (pc := 342) cx dL_law_342 ?_
        refine v_iadd (pc := 343) cx dL_law_343 ?_
        refine v_sld (pc := 344) cx hX hb (i + 1) (by omega) dL_law_344 ?_
        refine v_aload_n (pc := 345) cx rfl ga0 dL_law_345 ?_
        refine v_iload_n (pc := 346) cx rfl ga3 dL_law_346 ?_
        refine v_iconst (pc := 347) cx dL_law_347 ?_
        refine v_iadd (pc := 348) cx dL_law_348 ?_
        refine v_sld (pc := 349) cx hX hb (i + 2) (by omega) dL_law_349 ?_
        refine v_callVI (pc := 350) cx hR (r_addGears _ _ _ _ hm1 hk g1 g2) mlL_48 (by decide) hm0 rfl rfl rfl (Nat.le_of_ble_eq_true rfl) ⟨Nat.le_refl _, Nat.le_refl _⟩ dL_law_350 (fun v2 E2 hP => ?_)
        obtain ⟨hv2, hm2, hF2⟩ := hP
        refine v_if_icmp_eqI (pc := 353) cx 726 dL_law_353 rfl (fun c353 => ?_) (fun c353 => ?_)
        · exact nxt _ _ (kX_gad hk) (hx1.out hF2 (by omega)) hm2
        · exact absurd (by rw [hv1, hv2]) c353
      · refine v_tableIn (pc := 32) cx 358 dL_law_32 (by omega) rfl rfl ?_
        refine v_aload_n (pc := 358) cx rfl ga1 dL_law_358 ?_
        refine v_aload_n (pc := 359) cx rfl ga0 dL_law_359 ?_
        refine v_iload_n (pc := 360) cx rfl ga3 dL_law_360 ?_
        refine v_iconst (pc := 361) cx dL_law_361 ?_
        refine v_iadd (pc := 362) cx dL_law_362 ?_
        refine v_sld (pc := 363) cx hX hb (i + 1) (by omega) dL_law_363 ?_
        refine v_callVI (pc := 364) cx hR (c_removeGears _ _ _ _ hx hk g1) mlL_49 (by decide) hx0 rfl rfl rfl (Nat.le_of_ble_eq_true rfl) ⟨Nat.le_refl _, Nat.le_refl _⟩ dL_law_364 (fun v1 E1 hP => ?_)
        obtain ⟨hv1, hx1, hF1⟩ := hP
        have hm1 := hm.out hF1 (by omega)
        obtain ⟨mf1, hm0⟩ := hm1.obj
        refine v_aload_n (pc := 367) cx rfl ga2 dL_law_367 ?_
        refine v_aload_n (pc := 368) cx rfl ga0 dL_law_368 ?_
        refine v_iload_n (pc := 369) cx rfl ga3 dL_law_369 ?_
        refine v_iconst (pc := 370) cx dL_law_370 ?_
        refine v_iadd (pc := 371) cx dL_law_371 ?_
        refine v_sld (pc := 372) cx hX hb (i + 1) (by omega) dL_law_372 ?_
        refine v_callVI (pc := 373) cx hR (r_removeGears _ _ _ _ hm1 hk g1) mlL_52 (by decide) hm0 rfl rfl rfl (Nat.le_of_ble_eq_true rfl) ⟨Nat.le_refl _, Nat.le_refl _⟩ dL_law_373 (fun v2 E2 hP => ?_)
        obtain ⟨hv2, hm2, hF2⟩ := hP
        refine v_if_icmp_eqI (pc := 376) cx 726 dL_law_376 rfl (fun c376 => ?_) (fun c376 => ?_)
        · exact nxt _ _ (kX_gre hk) (hx1.out hF2 (by omega)) hm2
        · exact absurd (by rw [hv1, hv2]) c376
      · refine v_tableIn (pc := 32) cx 381 dL_law_32 (by omega) rfl rfl ?_
        refine v_aload_n (pc := 381) cx rfl ga1 dL_law_381 ?_
        refine v_aload_n (pc := 382) cx rfl ga0 dL_law_382 ?_
        refine v_iload_n (pc := 383) cx rfl ga3 dL_law_383 ?_
        refine v_iconst (pc := 384) cx dL_law_384 ?_
        refine v_iadd (pc := 385) cx dL_law_385 ?_
        refine v_sld (pc := 386) cx hX hb (i + 1) (by omega) dL_law_386 ?_
        refine v_aload_n (pc := 387) cx rfl ga0 dL_law_387 ?_
        refine v_iload_n (pc := 388) cx rfl ga3 dL_law_388 ?_
        refine v_iconst (pc := 389) cx dL_law_389 ?_
        refine v_iadd (pc := 390) cx dL_law_390 ?_
        refine v_sld (pc := 391) cx hX hb (i + 2) (by omega) dL_law_391 ?_
        refine v_callVI (pc := 392) cx hR (c_gear _ _ _ _ hx hk g1 g2) mlL_53 (by decide) hx0 rfl rfl rfl (Nat.le_of_ble_eq_true rfl) ⟨Nat.le_refl _, Nat.le_refl _⟩ dL_law_392 (fun v1 E1 hP => ?_)
        obtain ⟨hv1, rfl⟩ := hP
        refine v_aload_n (pc := 395) cx rfl ga2 dL_law_395 ?_
        refine v_aload_n (pc := 396) cx rfl ga0 dL_law_396 ?_
        refine v_iload_n (pc := 397) cx rfl ga3 dL_law_397 ?_
        refine v_iconst (pc := 398) cx dL_law_398 ?_
        refine v_iadd (pc := 399) cx dL_law_399 ?_
        refine v_sld (pc := 400) cx hX hb (i + 1) (by omega) dL_law_400 ?_
        refine v_aload_n (pc := 401) cx rfl ga0 dL_law_401 ?_
        refine v_iload_n (pc := 402) cx rfl ga3 dL_law_402 ?_
        refine v_iconst (pc := 403) cx dL_law_403 ?_
        refine v_iadd (pc := 404) cx dL_law_404 ?_
        refine v_sld (pc := 405) cx hX hb (i + 2) (by omega) dL_law_405 ?_
        refine v_callVI (pc := 406) cx hR (r_gear _ _ _ _ hm hk g1 g2) mlL_56 (by decide) hm0 rfl rfl rfl (Nat.le_of_ble_eq_true rfl) ⟨Nat.le_refl _, Nat.le_refl _⟩ dL_law_406 (fun v2 E2 hP => ?_)
        obtain ⟨hv2, rfl⟩ := hP
        refine v_if_icmp_eqI (pc := 409) cx 726 dL_law_409 rfl (fun c409 => ?_) (fun c409 => ?_)
        · exact nxt _ _ hk hx hm
        · exact absurd (by rw [hv1, hv2]) c409
      · refine v_tableIn (pc := 32) cx 414 dL_law_32 (by omega) rfl rfl ?_
        refine v_aload_n (pc := 414) cx rfl ga1 dL_law_414 ?_
        refine v_aload_n (pc := 415) cx rfl ga0 dL_law_415 ?_
        refine v_iload_n (pc := 416) cx rfl ga3 dL_law_416 ?_
        refine v_iconst (pc := 417) cx dL_law_417 ?_
        refine v_iadd (pc := 418) cx dL_law_418 ?_
        refine v_sld (pc := 419) cx hX hb (i + 1) (by omega) dL_law_419 ?_
        refine v_callVI (pc := 420) cx hR (c_count _ _ _ _ hx hk g1) mlL_57 (by decide) hx0 rfl rfl rfl (Nat.le_of_ble_eq_true rfl) ⟨Nat.le_refl _, Nat.le_refl _⟩ dL_law_420 (fun v1 E1 hP => ?_)
        obtain ⟨hv1, rfl⟩ := hP
        refine v_aload_n (pc := 423) cx rfl ga2 dL_law_423 ?_
        refine v_aload_n (pc := 424) cx rfl ga0 dL_law_424 ?_
        refine v_iload_n (pc := 425) cx rfl ga3 dL_law_425 ?_
        refine v_iconst (pc := 426) cx dL_law_426 ?_
        refine v_iadd (pc := 427) cx dL_law_427 ?_
        refine v_sld (pc := 428) cx hX hb (i + 1) (by omega) dL_law_428 ?_
        refine v_callVI (pc := 429) cx hR (r_count _ _ _ _ hm hk g1) mlL_60 (by decide) hm0 rfl rfl rfl (Nat.le_of_ble_eq_true rfl) ⟨Nat.le_refl _, Nat.le_refl _⟩ dL_law_429 (fun v2 E2 hP => ?_)
        obtain ⟨hv2, hm2, hF2⟩ := hP
        refine v_if_icmp_eqI (pc := 432) cx 726 dL_law_432 rfl (fun c432 => ?_) (fun c432 => ?_)
        · exact nxt _ _ hk (hx.out hF2 (by omega)) hm2
        · exact absurd (by rw [hv1, hv2]) c432
      · refine v_tableIn (pc := 32) cx 437 dL_law_32 (by omega) rfl rfl ?_
        refine v_aload_n (pc := 437) cx rfl ga1 dL_law_437 ?_
        refine v_aload_n (pc := 438) cx rfl ga0 dL_law_438 ?_
        refine v_iload_n (pc := 439) cx rfl ga3 dL_law_439 ?_
        refine v_iconst (pc := 440) cx dL_law_440 ?_
        refine v_iadd (pc := 441) cx dL_law_441 ?_
        refine v_sld (pc := 442) cx hX hb (i + 1) (by omega) dL_law_442 ?_
        refine v_callVI (pc := 443) cx hR (c_account _ _ _ _ hx hk g1) mlL_61 (by decide) hx0 rfl rfl rfl (Nat.le_of_ble_eq_true rfl) ⟨Nat.le_refl _, Nat.le_refl _⟩ dL_law_443 (fun v1 E1 hP => ?_)
        obtain ⟨hv1, rfl⟩ := hP
        refine v_aload_n (pc := 446) cx rfl ga2 dL_law_446 ?_
        refine v_aload_n (pc := 447) cx rfl ga0 dL_law_447 ?_
        refine v_iload_n (pc := 448) cx rfl ga3 dL_law_448 ?_
        refine v_iconst (pc := 449) cx dL_law_449 ?_
        refine v_iadd (pc := 450) cx dL_law_450 ?_
        refine v_sld (pc := 451) cx hX hb (i + 1) (by omega) dL_law_451 ?_
        refine v_callVI (pc := 452) cx hR (r_account _ _ _ _ hm hk g1) mlL_64 (by decide) hm0 rfl rfl rfl (Nat.le_of_ble_eq_true rfl) ⟨Nat.le_refl _, Nat.le_refl _⟩ dL_law_452 (fun v2 E2 hP => ?_)
        obtain ⟨hv2, rfl⟩ := hP
        refine v_if_icmp_eqI (pc := 455) cx 726 dL_law_455 rfl (fun c455 => ?_) (fun c455 => ?_)
        · exact nxt _ _ hk hx hm
        · exact absurd (by rw [hv1, hv2]) c455
      · refine v_tableIn (pc := 32) cx 460 dL_law_32 (by omega) rfl rfl ?_
        refine v_aload_n (pc := 460) cx rfl ga1 dL_law_460 ?_
        refine v_aload_n (pc := 461) cx rfl ga0 dL_law_461 ?_
        refine v_iload_n (pc := 462) cx rfl ga3 dL_law_462 ?_
        refine v_iconst (pc := 463) cx dL_law_463 ?_
        refine v_iadd (pc := 464) cx dL_law_464 ?_
        refine v_sld (pc := 465) cx hX hb (i + 1) (by omega) dL_law_465 ?_
        refine v_aload_n (pc := 466) cx rfl ga0 dL_law_466 ?_
        refine v_iload_n (pc := 467) cx rfl ga3 dL_law_467 ?_
        refine v_iconst (pc := 468) cx dL_law_468 ?_
        refine v_iadd (pc := 469) cx dL_law_469 ?_
        refine v_sld (pc := 470) cx hX hb (i + 2) (by omega) dL_law_470 ?_
        refine v_callVI (pc := 471) cx hR (c_mark _ _ _ _ hx hk g1 g2) mlL_65 (by decide) hx0 rfl rfl rfl (Nat.le_of_ble_eq_true rfl) ⟨Nat.le_refl _, Nat.le_refl _⟩ dL_law_471 (fun v1 E1 hP => ?_)
        obtain ⟨hv1, rfl⟩ := hP
        refine v_aload_n (pc := 474) cx rfl ga2 dL_law_474 ?_
        refine v_aload_n (pc := 475) cx rfl ga0 dL_law_475 ?_
        refine v_iload_n (pc := 476) cx rfl ga3 dL_law_476 ?_
        refine v_iconst (pc := 477) cx dL_law_477 ?_
        refine v_iadd (pc := 478) cx dL_law_478 ?_
        refine v_sld (pc := 479) cx hX hb (i + 1) (by omega) dL_law_479 ?_
        refine v_aload_n (pc := 480) cx rfl ga0 dL_law_480 ?_
        refine v_iload_n (pc := 481) cx rfl ga3 dL_law_481 ?_
        refine v_iconst (pc := 482) cx dL_law_482 ?_
        refine v_iadd (pc := 483) cx dL_law_483 ?_
        refine v_sld (pc := 484) cx hX hb (i + 2) (by omega) dL_law_484 ?_
        refine v_callVI (pc := 485) cx hR (r_mark _ _ _ _ hm hk g1 g2) mlL_68 (by decide) hm0 rfl rfl rfl (Nat.le_of_ble_eq_true rfl) ⟨Nat.le_refl _, Nat.le_refl _⟩ dL_law_485 (fun v2 E2 hP => ?_)
        obtain ⟨hv2, rfl⟩ := hP
        refine v_if_icmp_eqI (pc := 488) cx 726 dL_law_488 rfl (fun c488 => ?_) (fun c488 => ?_)
        · exact nxt _ _ hk hx hm
        · exact absurd (by rw [hv1, hv2]) c488
      · refine v_tableIn (pc := 32) cx 493 dL_law_32 (by omega) rfl rfl ?_
        refine v_aload_n (pc := 493) cx rfl ga1 dL_law_493 ?_
        refine v_aload_n (pc := 494) cx rfl ga0 dL_law_494 ?_
        refine v_iload_n (pc := 495) cx rfl ga3 dL_law_495 ?_
        refine v_iconst (pc := 496) cx dL_law_496 ?_
        refine v_iadd (pc := 497) cx dL_law_497 ?_
        refine v_sld (pc := 498) cx hX hb (i + 1) (by omega) dL_law_498 ?_
        refine v_aload_n (pc := 499) cx rfl ga0 dL_law_499 ?_
        refine v_iload_n (pc := 500) cx rfl ga3 dL_law_500 ?_
        refine v_iconst (pc := 501) cx dL_law_501 ?_
        refine v_iadd (pc := 502) cx dL_law_502 ?_
        refine v_sld (pc := 503) cx hX hb (i + 2) (by omega) dL_law_503 ?_
        refine v_callVI (pc := 504) cx hR (c_storm _ _ _ _ hx hk g1 g2) mlL_69 (by decide) hx0 rfl rfl rfl (Nat.le_of_ble_eq_true rfl) ⟨Nat.le_refl _, Nat.le_refl _⟩ dL_law_504 (fun v1 E1 hP => ?_)
        obtain ⟨hv1, rfl⟩ := hP
        refine v_aload_n (pc := 507) cx rfl ga2 dL_law_507 ?_
        refine v_aload_n (pc := 508) cx rfl ga0 dL_law_508 ?_
        refine v_iload_n (pc := 509) cx rfl ga3 dL_law_509 ?_
        refine v_iconst (pc := 510) cx dL_law_510 ?_
        refine v_iadd (pc := 511) cx dL_law_511 ?_
        refine v_sld (pc := 512) cx hX hb (i + 1) (by omega) dL_law_512 ?_
        refine v_aload_n (pc := 513) cx rfl ga0 dL_law_513 ?_
        refine v_iload_n (pc := 514) cx rfl ga3 dL_law_514 ?_
        refine v_iconst (pc := 515) cx dL_law_515 ?_
        refine v_iadd (pc := 516) cx dL_law_516 ?_
        refine v_sld (pc := 517) cx hX hb (i + 2) (by omega) dL_law_517 ?_
        refine v_callVI (pc := 518) cx hR (r_storm _ _ _ _ hm hk g1 g2) mlL_72 (by decide) hm0 rfl rfl rfl (Nat.le_of_ble_eq_true rfl) ⟨Nat.le_refl _, Nat.le_refl _⟩ dL_law_518 (fun v2 E2 hP => ?_)
        obtain ⟨hv2, hm2, hF2⟩ := hP
        refine v_if_icmp_eqI (pc := 521) cx 726 dL_law_521 rfl (fun c521 => ?_) (fun c521 => ?_)
        · exact nxt _ _ hk (hx.out hF2 (by omega)) hm2
        · exact absurd (by rw [hv1, hv2]) c521
      · refine v_tableIn (pc := 32) cx 526 dL_law_32 (by omega) rfl rfl ?_
        refine v_aload_n (pc := 526) cx rfl ga1 dL_law_526 ?_
        refine v_callVI (pc := 527) cx hR (c_greatestStorm _ _ _ _ hx hk) mlL_73 (by decide) hx0 rfl rfl rfl (Nat.le_of_ble_eq_true rfl) ⟨Nat.le_refl _, Nat.le_refl _⟩ dL_law_527 (fun v1 E1 hP => ?_)
        obtain ⟨hv1, rfl⟩ := hP
        refine v_aload_n (pc := 530) cx rfl ga2 dL_law_530 ?_
        refine v_callVI (pc := 531) cx hR (r_greatestStorm _ _ _ _ hm hk) mlL_76 (by decide) hm0 rfl rfl rfl (Nat.le_of_ble_eq_true rfl) ⟨Nat.le_refl _, Nat.le_refl _⟩ dL_law_531 (fun v2 E2 hP => ?_)
        obtain ⟨hv2, hm2, hF2⟩ := hP
        refine v_if_icmp_eqI (pc := 534) cx 726 dL_law_534 rfl (fun c534 => ?_) (fun c534 => ?_)
        · exact nxt _ _ hk (hx.out hF2 (by omega)) hm2
        · exact absurd (by rw [hv1, hv2]) c534
      · refine v_tableIn (pc := 32) cx 539 dL_law_32 (by omega) rfl rfl ?_
        refine v_aload_n (pc := 539) cx rfl ga1 dL_law_539 ?_
        refine v_callVI (pc := 540) cx hR (c_gapForOne _ _ _ _ hx hk) mlL_77 (by decide) hx0 rfl rfl rfl (Nat.le_of_ble_eq_true rfl) ⟨Nat.le_refl _, Nat.le_refl _⟩ dL_law_540 (fun v1 E1 hP => ?_)
        obtain ⟨hv1, rfl⟩ := hP
        refine v_aload_n (pc := 543) cx rfl ga2 dL_law_543 ?_
        refine v_callVI (pc := 544) cx hR (r_gapForOne _ _ _ _ hm hk) mlL_80 (by decide) hm0 rfl rfl rfl (Nat.le_of_ble_eq_true rfl) ⟨Nat.le_refl _, Nat.le_refl _⟩ dL_law_544 (fun v2 E2 hP => ?_)
        obtain ⟨hv2, rfl⟩ := hP
        refine v_if_icmp_eqI (pc := 547) cx 726 dL_law_547 rfl (fun c547 => ?_) (fun c547 => ?_)
        · exact nxt _ _ hk hx hm
        · exact absurd (by rw [hv1, hv2]) c547
      · refine v_tableIn (pc := 32) cx 552 dL_law_32 (by omega) rfl rfl ?_
        refine v_aload_n (pc := 552) cx rfl ga1 dL_law_552 ?_
        refine v_aload_n (pc := 553) cx rfl ga0 dL_law_553 ?_
        refine v_iload_n (pc := 554) cx rfl ga3 dL_law_554 ?_
        refine v_iconst (pc := 555) cx dL_law_555 ?_
        refine v_iadd (pc := 556) cx dL_law_556 ?_
        refine v_sld (pc := 557) cx hX hb (i + 1) (by omega) dL_law_557 ?_
        refine v_aload_n (pc := 558) cx rfl ga0 dL_law_558 ?_
        refine v_iload_n (pc := 559) cx rfl ga3 dL_law_559 ?_
        refine v_iconst (pc := 560) cx dL_law_560 ?_
        refine v_iadd (pc := 561) cx dL_law_561 ?_
        refine v_sld (pc := 562) cx hX hb (i + 2) (by omega) dL_law_562 ?_
        refine v_callVI (pc := 563) cx hR (c_ifRun _ _ _ _ hx hk g1 g2) mlL_81 (by decide) hx0 rfl rfl rfl (Nat.le_of_ble_eq_true rfl) ⟨Nat.le_refl _, Nat.le_refl _⟩ dL_law_563 (fun v1 E1 hP => ?_)
        obtain ⟨hv1, hx1, hF1⟩ := hP
        have hm1 := hm.out hF1 (by omega)
        obtain ⟨mf1, hm0⟩ := hm1.obj
        refine v_aload_n (pc := 566) cx rfl ga2 dL_law_566 ?_
        refine v_aload_n (pc := 567) cx rfl ga0 dL_law_567 ?_
        refine v_iload_n (pc := 568) cx rfl ga3 dL_law_568 ?_
        refine v_iconst (pc := 569) cx dL_law_569 ?_
        refine v_iadd (pc := 570) cx dL_law_570 ?_
        refine v_sld (pc := 571) cx hX hb (i + 1) (by omega) dL_law_571 ?_
        refine v_aload_n (pc := 572) cx rfl ga0 dL_law_572 ?_
        refine v_iload_n (pc := 573) cx rfl ga3 dL_law_573 ?_
        refine v_iconst (pc := 574) cx dL_law_574 ?_
        refine v_iadd (pc := 575) cx dL_law_575 ?_
        refine v_sld (pc := 576) cx hX hb (i + 2) (by omega) dL_law_576 ?_
        refine v_callVI (pc := 577) cx hR (r_ifRun _ _ _ _ hm1 hk g1 g2) mlL_84 (by decide) hm0 rfl rfl rfl (Nat.le_of_ble_eq_true rfl) ⟨Nat.le_refl _, Nat.le_refl _⟩ dL_law_577 (fun v2 E2 hP => ?_)
        obtain ⟨hv2, hm2, hF2⟩ := hP
        refine v_if_icmp_eqI (pc := 580) cx 726 dL_law_580 rfl (fun c580 => ?_) (fun c580 => ?_)
        · exact nxt _ _ hk (hx1.out hF2 (by omega)) hm2
        · exact absurd (by rw [hv1, hv2]) c580
      · refine v_tableIn (pc := 32) cx 585 dL_law_32 (by omega) rfl rfl ?_
        refine v_aload_n (pc := 585) cx rfl ga1 dL_law_585 ?_
        refine v_aload_n (pc := 586) cx rfl ga0 dL_law_586 ?_
        refine v_iload_n (pc := 587) cx rfl ga3 dL_law_587 ?_
        refine v_iconst (pc := 588) cx dL_law_588 ?_
        refine v_iadd (pc := 589) cx dL_law_589 ?_
        refine v_sld (pc := 590) cx hX hb (i + 1) (by omega) dL_law_590 ?_
        refine v_aload_n (pc := 591) cx rfl ga0 dL_law_591 ?_
        refine v_iload_n (pc := 592) cx rfl ga3 dL_law_592 ?_
        refine v_iconst (pc := 593) cx dL_law_593 ?_
        refine v_iadd (pc := 594) cx dL_law_594 ?_
        refine v_sld (pc := 595) cx hX hb (i + 2) (by omega) dL_law_595 ?_
        refine v_callVI (pc := 596) cx hR (c_capacityFor _ _ _ _ hx hk g1 g2) mlL_85 (by decide) hx0 rfl rfl rfl (Nat.le_of_ble_eq_true rfl) ⟨Nat.le_refl _, Nat.le_refl _⟩ dL_law_596 (fun v1 E1 hP => ?_)
        obtain ⟨hv1, hx1, hF1⟩ := hP
        have hm1 := hm.out hF1 (by omega)
        obtain ⟨mf1, hm0⟩ := hm1.obj
        refine v_aload_n (pc := 599) cx rfl ga2 dL_law_599 ?_
        refine v_aload_n (pc := 600) cx rfl ga0 dL_law_600 ?_
        refine v_iload_n (pc := 601) cx rfl ga3 dL_law_601 ?_
        refine v_iconst (pc := 602) cx dL_law_602 ?_
        refine v_iadd (pc := 603) cx dL_law_603 ?_
        refine v_sld (pc := 604) cx hX hb (i + 1) (by omega) dL_law_604 ?_
        refine v_aload_n (pc := 605) cx rfl ga0 dL_law_605 ?_
        refine v_iload_n (pc := 606) cx rfl ga3 dL_law_606 ?_
        refine v_iconst (pc := 607) cx dL_law_607 ?_
        refine v_iadd (pc := 608) cx dL_law_608 ?_
        refine v_sld (pc := 609) cx hX hb (i + 2) (by omega) dL_law_609 ?_
        refine v_callVI (pc := 610) cx hR (r_capacityFor _ _ _ _ hm1 hk g1 g2) mlL_88 (by decide) hm0 rfl rfl rfl (Nat.le_of_ble_eq_true rfl) ⟨Nat.le_refl _, Nat.le_refl _⟩ dL_law_610 (fun v2 E2 hP => ?_)
        obtain ⟨hv2, hm2, hF2⟩ := hP
        refine v_if_icmp_eqI (pc := 613) cx 726 dL_law_613 rfl (fun c613 => ?_) (fun c613 => ?_)
        · exact nxt _ _ hk (hx1.out hF2 (by omega)) hm2
        · exact absurd (by rw [hv1, hv2]) c613
      · refine v_tableIn (pc := 32) cx 618 dL_law_32 (by omega) rfl rfl ?_
        refine v_aload_n (pc := 618) cx rfl ga1 dL_law_618 ?_
        refine v_callVI (pc := 619) cx hR (c_untilStop _ _ _ _ hx hk) mlL_89 (by decide) hx0 rfl rfl rfl (Nat.le_of_ble_eq_true rfl) ⟨Nat.le_refl _, Nat.le_refl _⟩ dL_law_619 (fun v1 E1 hP => ?_)
        obtain ⟨hv1, rfl⟩ := hP
        refine v_aload_n (pc := 622) cx rfl ga2 dL_law_622 ?_
        refine v_callVI (pc := 623) cx hR (r_untilStop _ _ _ _ hm hk) mlL_92 (by decide) hm0 rfl rfl rfl (Nat.le_of_ble_eq_true rfl) ⟨Nat.le_refl _, Nat.le_refl _⟩ dL_law_623 (fun v2 E2 hP => ?_)
        obtain ⟨hv2, rfl⟩ := hP
        refine v_if_icmp_eqI (pc := 626) cx 726 dL_law_626 rfl (fun c626 => ?_) (fun c626 => ?_)
        · exact nxt _ _ hk hx hm
        · exact absurd (by rw [hv1, hv2]) c626
      · refine v_tableIn (pc := 32) cx 631 dL_law_32 (by omega) rfl rfl ?_
        refine v_aload_n (pc := 631) cx rfl ga1 dL_law_631 ?_
        refine v_aload_n (pc := 632) cx rfl ga0 dL_law_632 ?_
        refine v_iload_n (pc := 633) cx rfl ga3 dL_law_633 ?_
        refine v_iconst (pc := 634) cx dL_law_634 ?_
        refine v_iadd (pc := 635) cx dL_law_635 ?_
        refine v_sld (pc := 636) cx hX hb (i + 1) (by omega) dL_law_636 ?_
        refine v_callVI (pc := 637) cx hR (c_gearsFor _ _ _ _ hx hk g1) mlL_93 (by decide) hx0 rfl rfl rfl (Nat.le_of_ble_eq_true rfl) ⟨Nat.le_refl _, Nat.le_refl _⟩ dL_law_637 (fun v1 E1 hP => ?_)
        obtain ⟨hv1, rfl⟩ := hP
        refine v_aload_n (pc := 640) cx rfl ga2 dL_law_640 ?_
        refine v_aload_n (pc := 641) cx rfl ga0 dL_law_641 ?_
        refine v_iload_n (pc := 642) cx rfl ga3 dL_law_642 ?_
        refine v_iconst (pc := 643) cx dL_law_643 ?_
        refine v_iadd (pc := 644) cx dL_law_644 ?_
        refine v_sld (pc := 645) cx hX hb (i + 1) (by omega) dL_law_645 ?_
        refine v_callVI (pc := 646) cx hR (r_gearsFor _ _ _ _ hm hk g1) mlL_96 (by decide) hm0 rfl rfl rfl (Nat.le_of_ble_eq_true rfl) ⟨Nat.le_refl _, Nat.le_refl _⟩ dL_law_646 (fun v2 E2 hP => ?_)
        obtain ⟨hv2, rfl⟩ := hP
        refine v_if_icmp_eqI (pc := 649) cx 726 dL_law_649 rfl (fun c649 => ?_) (fun c649 => ?_)
        · exact nxt _ _ hk hx hm
        · exact absurd (by rw [hv1, hv2]) c649
      · refine v_tableIn (pc := 32) cx 654 dL_law_32 (by omega) rfl rfl ?_
        refine v_aload_n (pc := 654) cx rfl ga1 dL_law_654 ?_
        refine v_aload_n (pc := 655) cx rfl ga0 dL_law_655 ?_
        refine v_iload_n (pc := 656) cx rfl ga3 dL_law_656 ?_
        refine v_iconst (pc := 657) cx dL_law_657 ?_
        refine v_iadd (pc := 658) cx dL_law_658 ?_
        refine v_sld (pc := 659) cx hX hb (i + 1) (by omega) dL_law_659 ?_
        refine v_callVI (pc := 660) cx hR (c_type _ _ _ _ hx hk g1) mlL_97 (by decide) hx0 rfl rfl rfl (Nat.le_of_ble_eq_true rfl) ⟨Nat.le_refl _, Nat.le_refl _⟩ dL_law_660 (fun v1 E1 hP => ?_)
        obtain ⟨hv1, hx1, hF1⟩ := hP
        have hm1 := hm.out hF1 (by omega)
        obtain ⟨mf1, hm0⟩ := hm1.obj
        refine v_aload_n (pc := 663) cx rfl ga2 dL_law_663 ?_
        refine v_aload_n (pc := 664) cx rfl ga0 dL_law_664 ?_
        refine v_iload_n (pc := 665) cx rfl ga3 dL_law_665 ?_
        refine v_iconst (pc := 666) cx dL_law_666 ?_
        refine v_iadd (pc := 667) cx dL_law_667 ?_
        refine v_sld (pc := 668) cx hX hb (i + 1) (by omega) dL_law_668 ?_
        refine v_callVI (pc := 669) cx hR (r_type _ _ _ _ hm1 hk g1) mlL_100 (by decide) hm0 rfl rfl rfl (Nat.le_of_ble_eq_true rfl) ⟨Nat.le_refl _, Nat.le_refl _⟩ dL_law_669 (fun v2 E2 hP => ?_)
        obtain ⟨hv2, hm2, hF2⟩ := hP
        refine v_if_icmp_eqI (pc := 672) cx 726 dL_law_672 rfl (fun c672 => ?_) (fun c672 => ?_)
        · exact nxt _ _ (kX_typ hk) (hx1.out hF2 (by omega)) hm2
        · exact absurd (by rw [hv1, hv2]) c672
      · refine v_tableIn (pc := 32) cx 677 dL_law_32 (by omega) rfl rfl ?_
        refine v_aload_n (pc := 677) cx rfl ga1 dL_law_677 ?_
        refine v_callVI (pc := 678) cx hR (c_clearText _ _ _ _ hx hk) mlL_101 (by decide) hx0 rfl rfl rfl (Nat.le_of_ble_eq_true rfl) ⟨Nat.le_refl _, Nat.le_refl _⟩ dL_law_678 (fun v1 E1 hP => ?_)
        obtain ⟨hv1, hx1, hF1⟩ := hP
        have hm1 := hm.out hF1 (by omega)
        obtain ⟨mf1, hm0⟩ := hm1.obj
        refine v_aload_n (pc := 681) cx rfl ga2 dL_law_681 ?_
        refine v_callVI (pc := 682) cx hR (r_clearText _ _ _ _ hm1 hk) mlL_104 (by decide) hm0 rfl rfl rfl (Nat.le_of_ble_eq_true rfl) ⟨Nat.le_refl _, Nat.le_refl _⟩ dL_law_682 (fun v2 E2 hP => ?_)
        obtain ⟨hv2, hm2, hF2⟩ := hP
        refine v_if_icmp_eqI (pc := 685) cx 726 dL_law_685 rfl (fun c685 => ?_) (fun c685 => ?_)
        · exact nxt _ _ (kX_clr hk) (hx1.out hF2 (by omega)) hm2
        · exact absurd (by rw [hv1, hv2]) c685
      · refine v_tableIn (pc := 32) cx 690 dL_law_32 (by omega) rfl rfl ?_
        refine v_aload_n (pc := 690) cx rfl ga1 dL_law_690 ?_
        refine v_aload_n (pc := 691) cx rfl ga0 dL_law_691 ?_
        refine v_iload_n (pc := 692) cx rfl ga3 dL_law_692 ?_
        refine v_iconst (pc := 693) cx dL_law_693 ?_
        refine v_iadd (pc := 694) cx dL_law_694 ?_
        refine v_sld (pc := 695) cx hX hb (i + 1) (by omega) dL_law_695 ?_
        refine v_callVI (pc := 696) cx hR (c_fault _ _ _ _ hx hk g1) mlL_105 (by decide) hx0 rfl rfl rfl (Nat.le_of_ble_eq_true rfl) ⟨Nat.le_refl _, Nat.le_refl _⟩ dL_law_696 (fun v1 E1 hP => ?_)
        obtain ⟨hv1, hx1, hF1⟩ := hP
        have hm1 := hm.out hF1 (by omega)
        obtain ⟨mf1, hm0⟩ := hm1.obj
        refine v_aload_n (pc := 699) cx rfl ga2 dL_law_699 ?_
        refine v_aload_n (pc := 700) cx rfl ga0 dL_law_700 ?_
        refine v_iload_n (pc := 701) cx rfl ga3 dL_law_701 ?_
        refine v_iconst (pc := 702) cx dL_law_702 ?_
        refine v_iadd (pc := 703) cx dL_law_703 ?_
        refine v_sld (pc := 704) cx hX hb (i + 1) (by omega) dL_law_704 ?_
        refine v_callVI (pc := 705) cx hR (r_fault _ _ _ _ hm1 hk g1) mlL_108 (by decide) hm0 rfl rfl rfl (Nat.le_of_ble_eq_true rfl) ⟨Nat.le_refl _, Nat.le_refl _⟩ dL_law_705 (fun v2 E2 hP => ?_)
        obtain ⟨hv2, hm2, hF2⟩ := hP
        refine v_if_icmp_eqI (pc := 708) cx 726 dL_law_708 rfl (fun c708 => ?_) (fun c708 => ?_)
        · exact nxt _ _ hk (hx1.out hF2 (by omega)) hm2
        · exact absurd (by rw [hv1, hv2]) c708
      · refine v_tableIn (pc := 32) cx 713 dL_law_32 (by omega) rfl rfl ?_
        refine v_aload_n (pc := 713) cx rfl ga1 dL_law_713 ?_
        refine v_callVI (pc := 714) cx hR (c_lay _ _ _ _ hx hk) mlL_109 (by decide) hx0 rfl rfl rfl (Nat.le_of_ble_eq_true rfl) ⟨Nat.le_refl _, Nat.le_refl _⟩ dL_law_714 (fun v1 E1 hP => ?_)
        obtain ⟨hv1, hx1, hF1⟩ := hP
        have hm1 := hm.out hF1 (by omega)
        obtain ⟨mf1, hm0⟩ := hm1.obj
        refine v_aload_n (pc := 717) cx rfl ga2 dL_law_717 ?_
        refine v_callVI (pc := 718) cx hR (r_lay _ _ _ _ hm1 hk) mlL_112 (by decide) hm0 rfl rfl rfl (Nat.le_of_ble_eq_true rfl) ⟨Nat.le_refl _, Nat.le_refl _⟩ dL_law_718 (fun v2 E2 hP => ?_)
        obtain ⟨hv2, hm2, hF2⟩ := hP
        refine v_if_icmp_eqI (pc := 721) cx 726 dL_law_721 rfl (fun c721 => ?_) (fun c721 => ?_)
        · exact nxt _ _ (kX_lay hk) (hx1.out hF2 (by omega)) hm2
        · exact absurd (by rw [hv1, hv2]) c721
      · refine v_tableOut (pc := 32) cx 726 dL_law_32 (by omega) rfl ?_
        exact nxt Ψ E hk hx hm
set_option maxRecDepth 100000 in
set_option maxHeartbeats 4000000 in
theorem law_start {X : Fx} (cx : Cx X cL_law RL) (hR : RM X 8 131 5910) {b L : Nat} {xs : Nat → Int32} (hX : va_X b L xs (fS X) (fS X).heap) (hb : b < (fS X).heap.size ∧ b < gb (fG X)) (hL : L ≤ 2048) (fin : ∀ (E : Wd) (i : Int), V X E (131, 131, 5910) 733 [some (.ref b), some (.ref (gb (fG X) + 0)), some (.ref (gb (fG X) + 124)), some (.int (iI i))] [.int (iI 1)]) : V X (fun _ => none) (0, 0, 0) 0 [some (.ref b), none, none, none] [] := by
  refine v_new (pc := 0) cx hR nwL_7 ⟨Nat.le_of_ble_eq_true rfl, Nat.le_of_ble_eq_true rfl⟩ dL_law_0 (fun E0 hE0 hF0 => ?_)
  replace hE0 : E0 (0) = _ := hE0
  replace hF0 : ∀ j, j ≠ 0 → E0 j = _ := hF0
  refine v_dup (pc := 3) cx rfl dL_law_3 ?_
  refine v_callK (pc := 4) cx hR (k_X _ _ _ _ rfl hE0) mlL_9 (by decide) rfl (Nat.le_of_ble_eq_true rfl) ⟨Nat.le_of_ble_eq_true rfl, Nat.le_of_ble_eq_true rfl⟩ dL_law_4 (fun E1 hP => ?_)
  show V X _ (124, 124, 3981) _ _ _
  obtain ⟨hx, hF⟩ := hP
  refine v_astore_n (pc := 7) cx rfl (sa1 rfl) dL_law_7 ?_
  refine v_new (pc := 8) cx hR nwL_10 ⟨Nat.le_of_ble_eq_true rfl, Nat.le_of_ble_eq_true rfl⟩ dL_law_8 (fun E8 hE8 hF8 => ?_)
  replace hE8 : E8 (124) = _ := hE8
  replace hF8 : ∀ j, j ≠ 124 → E8 j = _ := hF8
  refine v_dup (pc := 11) cx rfl dL_law_11 ?_
  replace hx := hx.out (x := 124) (y := 125) (fun j hj => hF8 j (by omega)) (by omega)
  refine v_callK (pc := 12) cx hR (k_Md _ _ _ _ rfl hE8) mlL_12 (by decide) rfl (Nat.le_of_ble_eq_true rfl) ⟨Nat.le_of_ble_eq_true rfl, Nat.le_of_ble_eq_true rfl⟩ dL_law_12 (fun E2 hP => ?_)
  show V X _ (131, 131, 5910) _ _ _
  obtain ⟨hm, hF2⟩ := hP
  replace hx := hx.out hF2 (by omega)
  refine v_astore_n (pc := 15) cx rfl (sa2 rfl) dL_law_15 ?_
  refine v_iconst (pc := 16) cx dL_law_16 ?_
  refine v_istore_n (pc := 17) cx rfl (sa3 rfl) dL_law_17 ?_
  exact law_loop cx hR hX hb hL fin (L + 5) 0 (σ0, [], []) E2 (by omega) (by omega) okX_σ0 hx hm
