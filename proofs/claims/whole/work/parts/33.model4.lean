set_option maxRecDepth 100000 in
set_option maxHeartbeats 4000000 in
theorem m_ticks (lc : Launch) (G : Gc) (E : Wd) (nh : Nat) {σ : Sg} {st ty aa re rs sm : Int} {d : Nat → Int} (h0 : E 124 = some (oMd G st ty aa re rs sm)) (hd : E 125 = some (AI G 244 d)) (hD : isD d σ) (hk : ok σ) (ht : σ.1 0 < 5000) : CI lc G 2 yX12_ticks cX12_ticks 7 .boolean [.ref (gb G + 124)] E nh 0 0 (fun v E' => ((v = 1 ∧ tkTip σ ≠ -1) ∨ (v = 0 ∧ tkTip σ = -1)) ∧ (∃ d', E' 125 = some (AI G 244 d') ∧ isD d' (tick σ)) ∧ Out E E' 125 126) := by
  refine CI.mk (by decide +kernel) rfl (Nat.le_of_ble_eq_true rfl) ?_
  intro X hG hL cx hR hI
  subst hG; subst hL
  show V X E (nh, 0, 0) 0 [some (.ref (gb (fG X) + 124)), none, none, none, none, none, none] []
  have hrb := tkRain_bd hk
  have hrw : tkTip σ = tkR σ.1 (tkRain σ) := rfl
  have htk : tick σ = (tkS σ.1 (tkRain σ), σ.2.1.filter (fun x => decide (σ.1 0 + 1 < x.1 + x.2.1)), σ.2.2.1, if tkTip σ = -1 then σ.2.2.2 else addMk σ.2.2.2 (σ.1 0, plG σ.2.2.1 (σ.1 5) (σ.1 16), tkTip σ)) := rfl
  rw [hrw] at htk hI
  rw [htk] at hI
  have htr : tkRain σ = rainL σ.2.1 (σ.1 0) := rfl
  clear hrw htk
  obtain ⟨s, sh, ge, mk⟩ := σ
  simp only at hrb htr ht hI
  obtain ⟨⟨k0, k1', k2', k3', k4, k5, k6⟩, ⟨e1, e2, e3, e4, e5, e6, e7, e8⟩, k8, k9, k10⟩ := hk
  simp only at k0 k1' k2' k3' k4 k5 k6 e1 e2 e3 e4 e5 e6 e7 e8 k8 k9 k10
  obtain ⟨q1, ⟨q2, q3⟩, ⟨q4, q5⟩, q6, q7⟩ := hD
  simp only at q1 q2 q3 q4 q5 q6 q7
  have ksh : okSh (lst (ar d 27) (ar d 39) (ar d 51) sh.length) := by rw [q5]; exact k8
  have kge : okGe (lst2 (fun j => d (20 + 2 * j)) (fun j => d (21 + 2 * j)) ge.length) := by rw [q3]; exact k9
  have hra : rainTo (ar d 27) (ar d 39) (ar d 51) (d 0) sh.length = tkRain (s, sh, ge, mk) := by rw [rainTo_L, q5, q1 0 (by omega), htr]
  clear htr
  generalize hRn : tkRain (s, sh, ge, mk) = R at *
  have f1 := fT_bd (cap := s 13) (c := s 1) hrb.1
  have eT0 : fTaken R (s 13) (s 1) = min R (max 0 (s 13 - s 1)) := rfl
  have eG0 : fGone R (s 13) (s 1) (s 14) = if R = 0 then min (s 1 + fTaken R (s 13) (s 1)) (s 14) else 0 := rfl
  have eB0 : tkB s R = bS (R - fTaken R (s 13) (s 1)) (if R = 0 then 1 else 0) (s 11) (s 12) (s 15) (s 2, s 3, s 7, s 8, s 9, 0) := rfl
  have eR0 : tkR s R = bR (R - fTaken R (s 13) (s 1)) (if R = 0 then 1 else 0) (s 11) (s 15) (s 2, s 3, s 7, s 8, s 9, 0) := rfl
  have eS1 : tkS s R 1 = s 1 + fTaken R (s 13) (s 1) - fGone R (s 13) (s 1) (s 14) := rfl
  have eS10 : tkS s R 10 = s 10 + fGone R (s 13) (s 1) (s 14) + (tkB s R).2.2.2.2.2 := rfl
  generalize hT : fTaken R (s 13) (s 1) = T at *
  generalize hG : fGone R (s 13) (s 1) (s 14) = W at *
  have hFr : Out E E 125 126 := fun _ _ => rfl
  have ph246 : ∀ (dB : Nat → Int) (E' : Wd) (a1 a2 a3 a7 a8 a9 a10 tp : Int) (MK : List (Int × Int × Int)) (l1 l2 l3 l4 l6 : Option Value), E' 124 = some (oMd (fG X) st ty aa re rs sm) → E' 125 = some (AI (fG X) 244 dB) → Out E E' 125 126 → sc dB (s 0) a1 a2 a3 (s 4) (s 5) (s 6 + R) a7 a8 a9 a10 d MK → (a1 = tkS s R 1 ∧ a2 = tkS s R 2 ∧ a3 = tkS s R 3 ∧ a7 = tkS s R 7 ∧ a8 = tkS s R 8 ∧ a9 = tkS s R 9 ∧ a10 = tkS s R 10) → MK = (if tkR s R = -1 then mk else addMk mk (s 0, plG ge (s 5) (s 16), tkR s R)) → ((tp = 1 ∧ tkR s R ≠ -1) ∨ (tp = 0 ∧ tkR s R = -1)) → V X E' (nh, 0, 0) 246 [some (.ref (gb (fG X) + 124)), l1, l2, l3, l4, some (.int (iI tp)), l6] [] := by
    intro dB E' a1 a2 a3 a7 a8 a9 a10 tp MK l1 l2 l3 l4 l6 h0 hd hFr hsc ha hMK htp
    have ph275 : ∀ (dC : Nat → Int) (E' : Wd) (a4 a5 : Int), E' 124 = some (oMd (fG X) st ty aa re rs sm) → E' 125 = some (AI (fG X) 244 dC) → Out E E' 125 126 → sc dC (s 0) a1 a2 a3 a4 a5 (s 6 + R) a7 a8 a9 a10 d MK → (a4 = tkS s R 4 ∧ a5 = tkS s R 5) → V X E' (nh, 0, 0) 275 [some (.ref (gb (fG X) + 124)), l1, l2, l3, l4, some (.int (iI tp)), l6] [] := by
      intro dC E' a4 a5 h0 hd hFr hsc ha4
      have hc0 : dC 0 = s 0 := hsc.1.1
      refine v_aload_n (pc := 275) cx rfl ga0 dX12_ticks_275 ?_
      refine v_getfield (pc := 276) cx flX12_7 (by assumption) gf0 dX12_ticks_276 ?_
      refine v_iconst (pc := 279) cx dX12_ticks_279 ?_
      refine v_dup2 (pc := 280) cx rfl rfl dX12_ticks_280 ?_
      refine v_iaload (pc := 281) cx (0) (by assumption) (by omega) dX12_ticks_281 ?_
      refine v_iconst (pc := 282) cx dX12_ticks_282 ?_
      refine v_iadd (pc := 283) cx dX12_ticks_283 ?_
      refine v_iastore (pc := 284) cx (0) hd (by omega) dX12_ticks_284 (fun E284 hE284 hF284 => ?_)
      replace h0 := (hF284 _ (by omega)).trans h0
      replace hd := hE284
      replace hFr := fun j hj => (hF284 j (by omega)).trans (hFr j hj)
      replace hsc := sc_0 hsc (show dC 0 + 1 = s 0 + 1 by rw [hc0])
      obtain ⟨dZ, hd, hsc⟩ : ∃ dZ, E284 125 = some (AI (fG X) 244 dZ) ∧ sc dZ (s 0 + 1) a1 a2 a3 a4 a5 (s 6 + R) a7 a8 a9 a10 d MK := ⟨_, hd, hsc⟩
      obtain ⟨⟨z0, z1, z2, z3, z4, z5, z6, z7, z8, z9, z10⟩, zT, zM, zL⟩ := hsc
      have loop : ∀ (w k : Nat) (d' : Nat → Int) (E' : Wd), k ≤ sh.length → k < w → E' 124 = some (oMd (fG X) st ty aa re rs sm) → E' 125 = some (AI (fG X) 244 d') → Out E E' 125 126 → (∀ i, (i < 26 ∨ 63 ≤ i) → d' i = dZ i) → d' 26 = ((cutL sh (s 0 + 1) k).length : Int) → lst (ar d' 27) (ar d' 39) (ar d' 51) (cutL sh (s 0 + 1) k).length = cutL sh (s 0 + 1) k → V X E' (nh, 0, 0) 296 [some (.ref (gb (fG X) + 124)), l1, l2, l3, l4, some (.int (iI tp)), some (.int (iI ((k : Int) - 1)))] [] := by
        intro w
        induction w with
        | zero => intro k d' E' h1 h2; omega
        | succ w ih =>
          intro k d' E' hkl hkw h0 hd hFr hout hn hls
          have hn12 : sh.length ≤ 12 := k8.1
          refine v_iload (pc := 296) cx ga6 dX12_ticks_296 ?_
          refine v_if_lt (pc := 298) cx 343 dX12_ticks_298 rfl (by omega) (fun c298 => ?_) (fun c298 => ?_)
          · have hnt : narrow .boolean (.int (iI tp)) = .int (iI tp) := by rcases htp with ⟨rfl, _⟩ | ⟨rfl, _⟩ <;> rfl
            refine v_iload (pc := 343) cx ga5 dX12_ticks_343 ?_
            refine v_ireturn (pc := 345) cx hI hnt ?_ dX12_ticks_345
            refine ⟨htp, ⟨d', hd, ?_⟩, hFr⟩
            have e0 : k = 0 := by omega
            subst e0
            rw [cutL_0] at hn hls
            refine ⟨fun i hi => ?_, ⟨?_, ?_⟩, ⟨hn, hls⟩, ?_, ?_⟩
            · rw [hout i (by omega)]
              show dZ i = tkS s R i
              obtain ⟨ha1, ha2, ha3, ha7, ha8, ha9, ha10⟩ := ha
              rcases Nat.lt_or_ge i 11 with hi2 | hi2
              · match i, hi2 with
                | 0, _ => exact z0
                | 1, _ => exact z1.trans ha1
                | 2, _ => exact z2.trans ha2
                | 3, _ => exact z3.trans ha3
                | 4, _ => exact z4.trans ha4.1
                | 5, _ => exact z5.trans ha4.2
                | 6, _ => exact z6
                | 7, _ => exact z7.trans ha7
                | 8, _ => exact z8.trans ha8
                | 9, _ => exact z9.trans ha9
                | 10, _ => exact z10.trans ha10
              · obtain ⟨n, rfl⟩ : ∃ n, i = n + 11 := ⟨i - 11, by omega⟩
                rw [zT _ (by omega) (by omega), q1 _ hi]
                rfl
            · rw [hout _ (by omega), zT _ (by omega) (by omega)]
              exact q2
            · refine (lst2_ext (fun j hj => ?_)).trans q3
              have hj : j < ge.length := hj
              have := k9.1
              rw [hout _ (by omega), hout _ (by omega), zT _ (by omega) (by omega), zT _ (by omega) (by omega)]
              exact ⟨rfl, rfl⟩
            · rw [hout _ (by omega)]
              show dZ 63 = ((if tkR s R = -1 then mk else addMk mk (s 0, plG ge (s 5) (s 16), tkR s R)).length : Int)
              rw [← hMK]
              exact zM
            · show lst _ _ _ (if tkR s R = -1 then mk else addMk mk (s 0, plG ge (s 5) (s 16), tkR s R)).length = (if tkR s R = -1 then mk else addMk mk (s 0, plG ge (s 5) (s 16), tkR s R))
              rw [← hMK]
              exact (lst_ext (fun j _ => ⟨hout _ (by omega), hout _ (by omega), hout _ (by omega)⟩)).trans zL
          · obtain ⟨q, rfl⟩ : ∃ q, k = q + 1 := ⟨k - 1, by omega⟩
            have hq : q < sh.length := by omega
            have hcl := cutL_len (t := s 0 + 1) hkl
            have hka := k_of hls (show q < (cutL sh (s 0 + 1) (q + 1)).length by omega)
            have hkb := cutL_at (t := s 0 + 1) hq
            have hkq := k8.2 _ (List.getElem_mem hq)
            rw [← k_get hq] at hkq
            simp only at hkq
            have v1 : d' (27 + q) = k1 sh q := hka.1.trans hkb.1
            have v2 : d' (39 + q) = k2 sh q := hka.2.1.trans hkb.2
            have v0 : d' 0 = s 0 + 1 := (hout 0 (by omega)).trans z0
            refine v_aload_n (pc := 301) cx rfl ga0 dX12_ticks_301 ?_
            refine v_getfield (pc := 302) cx flX12_7 (by assumption) gf0 dX12_ticks_302 ?_
            refine v_bipush (pc := 305) cx (by decide) dX12_ticks_305 ?_
            refine v_iload (pc := 307) cx ga6 dX12_ticks_307 ?_
            refine v_iadd (pc := 309) cx dX12_ticks_309 ?_
            refine v_iaload (pc := 310) cx (27 + q) (by assumption) (by omega) dX12_ticks_310 ?_
            refine v_aload_n (pc := 311) cx rfl ga0 dX12_ticks_311 ?_
            refine v_getfield (pc := 312) cx flX12_7 (by assumption) gf0 dX12_ticks_312 ?_
            refine v_bipush (pc := 315) cx (by decide) dX12_ticks_315 ?_
            refine v_iload (pc := 317) cx ga6 dX12_ticks_317 ?_
            refine v_iadd (pc := 319) cx dX12_ticks_319 ?_
            refine v_iaload (pc := 320) cx (39 + q) (by assumption) (by omega) dX12_ticks_320 ?_
            refine v_iadd (pc := 321) cx dX12_ticks_321 ?_
            refine v_aload_n (pc := 322) cx rfl ga0 dX12_ticks_322 ?_
            refine v_getfield (pc := 323) cx flX12_7 (by assumption) gf0 dX12_ticks_323 ?_
            refine v_iconst (pc := 326) cx dX12_ticks_326 ?_
            refine v_iaload (pc := 327) cx (0) (by assumption) (by omega) dX12_ticks_327 ?_
            refine v_icmp_gt (pc := 328) cx 337 dX12_ticks_328 rfl (by omega) (fun c328 => ?_) (fun c328 => ?_)
            · refine v_iinc (pc := 337) cx ga6 (sa6 rfl) dX12_ticks_337 ?_
              refine v_goto (pc := 340) cx 296 dX12_ticks_340 rfl ?_
              rw [show ((q + 1 : Nat) : Int) - 1 + -1 = (q : Int) - 1 by omega]
              have e := cutL_keep (t := s 0 + 1) hq (by omega)
              rw [← e] at hn hls
              exact ih q d' _ (by omega) (by omega) h0 hd hFr hout hn hls
            · refine v_aload_n (pc := 331) cx rfl ga0 dX12_ticks_331 ?_
              refine v_iload (pc := 332) cx ga6 dX12_ticks_332 ?_
              rw [show ((q + 1 : Nat) : Int) - 1 = (q : Int) by omega]
              refine v_callVV (pc := 334) cx hR (m_drops _ _ _ _ h0 hd hn (by omega) (by omega)) mlX12_56 (by decide) (by assumption) rfl rfl rfl (Nat.le_of_ble_eq_true rfl) ⟨Nat.le_refl _, Nat.le_refl _⟩ dX12_ticks_334 (fun E2 hP => ?_)
              obtain ⟨⟨dD, hd, hn2, hin2, hout2⟩, hF⟩ := hP
              replace h0 := (hF _ (by omega)).trans h0
              replace hFr : Out E E2 125 126 := fun j hj => (hF j hj).trans (hFr j hj)
              refine v_iinc (pc := 337) cx ga6 (sa6 rfl) dX12_ticks_337 ?_
              refine v_goto (pc := 340) cx 296 dX12_ticks_340 rfl ?_
              rw [show (q : Int) + -1 = (q : Int) - 1 by omega]
              have e := cutL_drop (t := s 0 + 1) hq (by omega)
              have el : (cutL sh (s 0 + 1) q).length = (cutL sh (s 0 + 1) (q + 1)).length - 1 := by rw [e, delL_len]
              refine ih q dD _ (by omega) (by omega) h0 hd hFr (fun i hi => (hout2 i hi).trans (hout i hi)) ?_ ?_
              · rw [hn2, el]
                omega
              · rw [el, e]
                conv => rhs; rw [← hls]
                rw [delL_lst]
                exact lst_ext (fun j hj => hin2 j hj)
      have hn26 : dZ 26 = ((cutL sh (s 0 + 1) sh.length).length : Int) := by rw [cutL_n, zT 26 (by omega) (by omega), q4]
      refine v_aload_n (pc := 285) cx rfl ga0 dX12_ticks_285 ?_
      refine v_getfield (pc := 286) cx flX12_7 (by assumption) gf0 dX12_ticks_286 ?_
      refine v_bipush (pc := 289) cx (by decide) dX12_ticks_289 ?_
      refine v_iaload (pc := 291) cx (26) (by assumption) (by omega) dX12_ticks_291 ?_
      refine v_iconst (pc := 292) cx dX12_ticks_292 ?_
      refine v_isub (pc := 293) cx dX12_ticks_293 ?_
      refine v_istore (pc := 294) cx (sa6 rfl) dX12_ticks_294 ?_
      rw [show dZ 26 = (sh.length : Int) by rw [hn26, cutL_n]]
      refine loop (sh.length + 1) sh.length dZ _ (Nat.le_refl _) (by omega) h0 hd hFr (fun _ _ => rfl) hn26 ?_
      rw [cutL_n]
      have := k8.1
      exact (lst_ext (fun j hj => ⟨zT _ (by omega) (by omega), zT _ (by omega) (by omega), zT _ (by omega) (by omega)⟩)).trans q5
    have hc4 : dB 4 = s 4 := hsc.1.2.2.2.2.1
    have hc5 : dB 5 = s 5 := hsc.1.2.2.2.2.2.1
    refine v_aload_n (pc := 246) cx rfl ga0 dX12_ticks_246 ?_
    refine v_getfield (pc := 247) cx flX12_7 (by assumption) gf0 dX12_ticks_247 ?_
    refine v_iconst (pc := 250) cx dX12_ticks_250 ?_
    refine v_iaload (pc := 251) cx (4) (by assumption) (by omega) dX12_ticks_251 ?_
    refine v_if_le (pc := 252) cx 275 dX12_ticks_252 rfl (by omega) (fun c252 => ?_) (fun c252 => ?_)
    · refine ph275 dB E' _ _ h0 hd hFr hsc ⟨?_, ?_⟩
      · show s 4 = if 0 < s 4 then s 4 - 1 else s 4
        rw [if_neg (by omega)]
      · show s 5 = if 0 < s 4 then s 5 + 1 else s 5
        rw [if_neg (by omega)]
    · refine v_aload_n (pc := 255) cx rfl ga0 dX12_ticks_255 ?_
      refine v_getfield (pc := 256) cx flX12_7 (by assumption) gf0 dX12_ticks_256 ?_
      refine v_iconst (pc := 259) cx dX12_ticks_259 ?_
      refine v_dup2 (pc := 260) cx rfl rfl dX12_ticks_260 ?_
      refine v_iaload (pc := 261) cx (4) (by assumption) (by omega) dX12_ticks_261 ?_
      refine v_iconst (pc := 262) cx dX12_ticks_262 ?_
      refine v_isub (pc := 263) cx dX12_ticks_263 ?_
      refine v_iastore (pc := 264) cx (4) hd (by omega) dX12_ticks_264 (fun E264 hE264 hF264 => ?_)
      replace h0 := (hF264 _ (by omega)).trans h0
      replace hd := hE264
      replace hFr := fun j hj => (hF264 j (by omega)).trans (hFr j hj)
      refine v_aload_n (pc := 265) cx rfl ga0 dX12_ticks_265 ?_
      refine v_getfield (pc := 266) cx flX12_7 (by assumption) gf0 dX12_ticks_266 ?_
      refine v_iconst (pc := 269) cx dX12_ticks_269 ?_
      refine v_dup2 (pc := 270) cx rfl rfl dX12_ticks_270 ?_
      refine v_iaload (pc := 271) cx (5) (by assumption) (by omega) dX12_ticks_271 ?_
      refine v_iconst (pc := 272) cx dX12_ticks_272 ?_
      refine v_iadd (pc := 273) cx dX12_ticks_273 ?_
      refine v_iastore (pc := 274) cx (5) hd (by omega) dX12_ticks_274 (fun E274 hE274 hF274 => ?_)
      replace h0 := (hF274 _ (by omega)).trans h0
      replace hd := hE274
      replace hFr := fun j hj => (hF274 j (by omega)).trans (hFr j hj)
      refine ph275 _ _ (s 4 - 1) (s 5 + 1) h0 hd hFr (sc_5 (sc_4 hsc (by rw [hc4])) (by rw [upI_n (by decide), hc5])) ⟨?_, ?_⟩
      · show s 4 - 1 = if 0 < s 4 then s 4 - 1 else s 4
        rw [if_pos (by omega)]
      · show s 5 + 1 = if 0 < s 4 then s 5 + 1 else s 5
        rw [if_pos (by omega)]
  have ph126u : ∀ (dB : Nat → Int) (E' : Wd) (a1 a10 l3 l4 : Int) (l5 l6 : Option Value), 0 < s 3 → E' 124 = some (oMd (fG X) st ty aa re rs sm) → E' 125 = some (AI (fG X) 244 dB) → Out E E' 125 126 → sc dB (s 0) a1 (s 2) (s 3) (s 4) (s 5) (s 6 + R) (s 7) (s 8) (s 9 + (R - T)) a10 d mk → a1 = s 1 + T - W → a10 = s 10 + W → V X E' (nh, 0, 0) 126 [some (.ref (gb (fG X) + 124)), some (.int (iI 1)), some (.int (iI R)), some (.int (iI l3)), some (.int (iI l4)), l5, l6] [] := by
    intro dB E' a1 a10 l3 l4 l5 l6 hu h0 hd hFr hsc ha1 ha10
    have eB : tkB s R = (s 2, s 3 - 1, s 7, s 8, s 9 + (R - T), 0) := by rw [eB0]; unfold bS; rw [if_pos hu]
    have eR : tkR s R = -1 := by rw [eR0]; unfold bR; rw [if_pos hu]
    have hc3 : dB 3 = s 3 := hsc.1.2.2.2.1
    refine v_iload_n (pc := 126) cx rfl ga1 dX12_ticks_126 ?_
    refine v_if_ne (pc := 127) cx 150 dX12_ticks_127 rfl (by omega) (fun c127 => ?_) (fun c127 => ?_)
    · refine v_iconst (pc := 150) cx dX12_ticks_150 ?_
      refine v_istore (pc := 151) cx (sa5 rfl) dX12_ticks_151 ?_
      refine v_iload_n (pc := 153) cx rfl ga1 dX12_ticks_153 ?_
      refine v_if_eq (pc := 154) cx 170 dX12_ticks_154 rfl (by omega) (fun c154 => ?_) (fun c154 => ?_)
      · omega
      · refine v_aload_n (pc := 157) cx rfl ga0 dX12_ticks_157 ?_
        refine v_getfield (pc := 158) cx flX12_7 (by assumption) gf0 dX12_ticks_158 ?_
        refine v_iconst (pc := 161) cx dX12_ticks_161 ?_
        refine v_dup2 (pc := 162) cx rfl rfl dX12_ticks_162 ?_
        refine v_iaload (pc := 163) cx (3) (by assumption) (by omega) dX12_ticks_163 ?_
        refine v_iconst (pc := 164) cx dX12_ticks_164 ?_
        refine v_isub (pc := 165) cx dX12_ticks_165 ?_
        refine v_iastore (pc := 166) cx (3) hd (by omega) dX12_ticks_166 (fun E166 hE166 hF166 => ?_)
        replace h0 := (hF166 _ (by omega)).trans h0
        replace hd := hE166
        replace hFr := fun j hj => (hF166 j (by omega)).trans (hFr j hj)
        refine v_goto (pc := 167) cx 246 dX12_ticks_167 rfl ?_
        refine ph246 _ _ a1 (s 2) (s 3 - 1) (s 7) (s 8) (s 9 + (R - T)) a10 0 mk _ _ _ _ _ h0 hd hFr (sc_3 hsc (by rw [hc3])) ⟨ha1.trans eS1.symm, ?_, ?_, ?_, ?_, ?_, ?_⟩ (by rw [if_pos eR]) (Or.inr ⟨rfl, eR⟩)
        · show _ = (tkB s R).1
          rw [eB]
        · show _ = (tkB s R).2.1
          rw [eB]
        · show _ = (tkB s R).2.2.1
          rw [eB]
        · show _ = (tkB s R).2.2.2.1
          rw [eB]
        · show _ = (tkB s R).2.2.2.2.1
          rw [eB]
        · rw [eS10, eB]
          simp only
          omega
    · omega
  have ph126n : ∀ (dB : Nat → Int) (E' : Wd) (a1 a2 a10 Z l3 l4 : Int) (l5 l6 : Option Value), s 3 ≤ 0 → Z = bGone (s 2) (R - T) (if R = 0 then 1 else 0) (s 15) → E' 124 = some (oMd (fG X) st ty aa re rs sm) → E' 125 = some (AI (fG X) 244 dB) → Out E E' 125 126 → sc dB (s 0) a1 a2 (s 3) (s 4) (s 5) (s 6 + R) (s 7) (s 8) (s 9) a10 d mk → a1 = s 1 + T - W → a2 = s 2 + (R - T) - Z → a10 = s 10 + W + Z → V X E' (nh, 0, 0) 126 [some (.ref (gb (fG X) + 124)), some (.int (iI 0)), some (.int (iI R)), some (.int (iI l3)), some (.int (iI l4)), l5, l6] [] := by
    intro dB E' a1 a2 a10 Z l3 l4 l5 l6 hu hZ h0 hd hFr hsc ha1 ha2 ha10
    have hZb : 0 ≤ Z ∧ Z ≤ s 2 + (R - T) := by
      rw [hZ]
      unfold bGone
      split <;> omega
    have hc2 : dB 2 = a2 := hsc.1.2.2.1
    have hc11 : dB 11 = s 11 := (hsc.2.1 11 (by omega) (by omega)).trans (q1 11 (by omega))
    refine v_iload_n (pc := 126) cx rfl ga1 dX12_ticks_126 ?_
    refine v_if_ne (pc := 127) cx 150 dX12_ticks_127 rfl (by omega) (fun c127 => ?_) (fun c127 => ?_)
    · omega
    · refine v_aload_n (pc := 130) cx rfl ga0 dX12_ticks_130 ?_
      refine v_getfield (pc := 131) cx flX12_7 (by assumption) gf0 dX12_ticks_131 ?_
      refine v_iconst (pc := 134) cx dX12_ticks_134 ?_
      refine v_iaload (pc := 135) cx (2) (by assumption) (by omega) dX12_ticks_135 ?_
      refine v_aload_n (pc := 136) cx rfl ga0 dX12_ticks_136 ?_
      refine v_getfield (pc := 137) cx flX12_7 (by assumption) gf0 dX12_ticks_137 ?_
      refine v_bipush (pc := 140) cx (by decide) dX12_ticks_140 ?_
      refine v_iaload (pc := 142) cx (11) (by assumption) (by omega) dX12_ticks_142 ?_
      refine v_icmp_lt (pc := 143) cx 150 dX12_ticks_143 rfl (by omega) (fun c143 => ?_) (fun c143 => ?_)
      · have eB : tkB s R = (s 2 + (R - T) - Z, s 3, s 7, s 8, s 9, 0 + Z) := by rw [eB0]; unfold bS; rw [if_neg (show ¬ 0 < s 3 by omega), if_neg (show ¬ _ by simp only; rw [← hZ]; omega), ← hZ]
        have eR : tkR s R = -1 := by rw [eR0]; unfold bR; rw [if_neg (show ¬ 0 < s 3 by omega), if_neg (show ¬ _ by simp only; rw [← hZ]; omega)]
        refine v_iconst (pc := 150) cx dX12_ticks_150 ?_
        refine v_istore (pc := 151) cx (sa5 rfl) dX12_ticks_151 ?_
        refine v_iload_n (pc := 153) cx rfl ga1 dX12_ticks_153 ?_
        refine v_if_eq (pc := 154) cx 170 dX12_ticks_154 rfl (by omega) (fun c154 => ?_) (fun c154 => ?_)
        · refine v_iload (pc := 170) cx ga5 dX12_ticks_170 ?_
          refine v_if_eq (pc := 172) cx 246 dX12_ticks_172 rfl (by omega) (fun c172 => ?_) (fun c172 => ?_)
          · refine ph246 dB _ a1 a2 (s 3) (s 7) (s 8) (s 9) a10 0 mk _ _ _ _ _ h0 hd hFr hsc ⟨ha1.trans eS1.symm, ?_, ?_, ?_, ?_, ?_, ?_⟩ (by rw [if_pos eR]) (Or.inr ⟨rfl, eR⟩)
            · show _ = (tkB s R).1
              rw [eB]; exact ha2
            · show _ = (tkB s R).2.1
              rw [eB]
            · show _ = (tkB s R).2.2.1
              rw [eB]
            · show _ = (tkB s R).2.2.2.1
              rw [eB]
            · show _ = (tkB s R).2.2.2.2.1
              rw [eB]
            · rw [eS10, eB]
              simp only
              omega
          · omega
        · omega
      · have eB : tkB s R = (0, s 12, s 7 + s 11, s 8 + (s 2 + (R - T) - Z - s 11), s 9, 0 + Z) := by rw [eB0]; unfold bS; rw [if_neg (show ¬ 0 < s 3 by omega), if_pos (show _ by simp only; rw [← hZ]; omega), ← hZ]
        have eR : tkR s R = s 2 + (R - T) - Z - s 11 := by rw [eR0]; unfold bR; rw [if_neg (show ¬ 0 < s 3 by omega), if_pos (show _ by simp only; rw [← hZ]; omega), ← hZ]
        have hc7 : dB 7 = s 7 := hsc.1.2.2.2.2.2.2.2.1
        have hc8 : dB 8 = s 8 := hsc.1.2.2.2.2.2.2.2.2.1
        refine v_iconst (pc := 146) cx dX12_ticks_146 ?_
        refine v_goto (pc := 147) cx 151 dX12_ticks_147 rfl ?_
        refine v_istore (pc := 151) cx (sa5 rfl) dX12_ticks_151 ?_
        refine v_iload_n (pc := 153) cx rfl ga1 dX12_ticks_153 ?_
        refine v_if_eq (pc := 154) cx 170 dX12_ticks_154 rfl (by omega) (fun c154 => ?_) (fun c154 => ?_)
        · refine v_iload (pc := 170) cx ga5 dX12_ticks_170 ?_
          refine v_if_eq (pc := 172) cx 246 dX12_ticks_172 rfl (by omega) (fun c172 => ?_) (fun c172 => ?_)
          · omega
          · refine v_aload_n (pc := 175) cx rfl ga0 dX12_ticks_175 ?_
            refine v_getfield (pc := 176) cx flX12_7 (by assumption) gf0 dX12_ticks_176 ?_
            refine v_iconst (pc := 179) cx dX12_ticks_179 ?_
            refine v_iaload (pc := 180) cx (2) (by assumption) (by omega) dX12_ticks_180 ?_
            refine v_aload_n (pc := 181) cx rfl ga0 dX12_ticks_181 ?_
            refine v_getfield (pc := 182) cx flX12_7 (by assumption) gf0 dX12_ticks_182 ?_
            refine v_bipush (pc := 185) cx (by decide) dX12_ticks_185 ?_
            refine v_iaload (pc := 187) cx (11) (by assumption) (by omega) dX12_ticks_187 ?_
            refine v_isub (pc := 188) cx dX12_ticks_188 ?_
            refine v_istore (pc := 189) cx (sa6 rfl) dX12_ticks_189 ?_
            refine v_aload_n (pc := 191) cx rfl ga0 dX12_ticks_191 ?_
            refine v_getfield (pc := 192) cx flX12_7 (by assumption) gf0 dX12_ticks_192 ?_
            refine v_bipush (pc := 195) cx (by decide) dX12_ticks_195 ?_
            refine v_dup2 (pc := 197) cx rfl rfl dX12_ticks_197 ?_
            refine v_iaload (pc := 198) cx (7) (by assumption) (by omega) dX12_ticks_198 ?_
            refine v_aload_n (pc := 199) cx rfl ga0 dX12_ticks_199 ?_
            refine v_getfield (pc := 200) cx flX12_7 (by assumption) gf0 dX12_ticks_200 ?_
            refine v_bipush (pc := 203) cx (by decide) dX12_ticks_203 ?_
            refine v_iaload (pc := 205) cx (11) (by assumption) (by omega) dX12_ticks_205 ?_
            refine v_iadd (pc := 206) cx dX12_ticks_206 ?_
            refine v_iastore (pc := 207) cx (7) hd (by omega) dX12_ticks_207 (fun E207 hE207 hF207 => ?_)
            replace h0 := (hF207 _ (by omega)).trans h0
            replace hd := hE207
            replace hFr := fun j hj => (hF207 j (by omega)).trans (hFr j hj)
            refine v_aload_n (pc := 208) cx rfl ga0 dX12_ticks_208 ?_
            refine v_getfield (pc := 209) cx flX12_7 (by assumption) gf0 dX12_ticks_209 ?_
            refine v_bipush (pc := 212) cx (by decide) dX12_ticks_212 ?_
            refine v_dup2 (pc := 214) cx rfl rfl dX12_ticks_214 ?_
            refine v_iaload (pc := 215) cx (8) (by assumption) (by omega) dX12_ticks_215 ?_
            refine v_iload (pc := 216) cx ga6 dX12_ticks_216 ?_
            refine v_iadd (pc := 218) cx dX12_ticks_218 ?_
            refine v_iastore (pc := 219) cx (8) hd (by omega) dX12_ticks_219 (fun E219 hE219 hF219 => ?_)
            replace h0 := (hF219 _ (by omega)).trans h0
            replace hd := hE219
            replace hFr := fun j hj => (hF219 j (by omega)).trans (hFr j hj)
            refine v_aload_n (pc := 220) cx rfl ga0 dX12_ticks_220 ?_
            refine v_getfield (pc := 221) cx flX12_7 (by assumption) gf0 dX12_ticks_221 ?_
            refine v_iconst (pc := 224) cx dX12_ticks_224 ?_
            refine v_iconst (pc := 225) cx dX12_ticks_225 ?_
            refine v_iastore (pc := 226) cx (2) hd (by omega) dX12_ticks_226 (fun E226 hE226 hF226 => ?_)
            replace h0 := (hF226 _ (by omega)).trans h0
            replace hd := hE226
            replace hFr := fun j hj => (hF226 j (by omega)).trans (hFr j hj)
            rw [hc2, hc11]
            obtain ⟨dD, hd, hsc⟩ : ∃ dD, E226 125 = some (AI (fG X) 244 dD) ∧ sc dD (s 0) a1 0 (s 3) (s 4) (s 5) (s 6 + R) (s 7 + s 11) (s 8 + (a2 - s 11)) (s 9) a10 d mk := ⟨_, hd, sc_2 (sc_8 (sc_7 hsc (by rw [hc7, hc11])) (by rw [upI_n (by decide), hc8, hc2, hc11])) rfl⟩
            refine v_aload_n (pc := 227) cx rfl ga0 dX12_ticks_227 ?_
            refine v_iload (pc := 228) cx ga6 dX12_ticks_228 ?_
            obtain ⟨⟨z0, z1, z2, z3, z4, z5, z6, z7, z8, z9, z10⟩, zT, zM, zL⟩ := hsc
            have g16 : dD 16 = s 16 := (zT 16 (by omega) (by omega)).trans (q1 16 (by omega))
            have g12 : dD 12 = s 12 := (zT 12 (by omega) (by omega)).trans (q1 12 (by omega))
            refine v_callVV (pc := 230) cx hR (m_marks _ _ _ _ h0 hd zM k10.1 ((zT 19 (by omega) (by omega)).trans q2) k9.1 (by omega) (fun j hj => by rw [zT _ (by omega) (by have := k9.1; omega)]; exact (okGe_at kge j hj).2)) mlX12_52 (by decide) (by assumption) rfl rfl rfl (Nat.le_of_ble_eq_true rfl) ⟨Nat.le_refl _, Nat.le_refl _⟩ dX12_ticks_230 (fun E2 hP => ?_)
            obtain ⟨⟨m', dE, hd, hm', hmE, hlE, houtE⟩, hF⟩ := hP
            replace h0 := (hF _ (by omega)).trans h0
            replace hFr : Out E E2 125 126 := fun j hj => (hF j hj).trans (hFr j hj)
            rw [zL, z0, z5, g16] at hlE
            have ep : plc (s 5) (fun j => dD (20 + 2 * j)) (fun j => dD (21 + 2 * j)) ge.length (s 16) = plG ge (s 5) (s 16) := by
              have := k9.1
              rw [plc_ext (f' := fun j => d (20 + 2 * j)) (s' := fun j => d (21 + 2 * j)) (fun j hj => ⟨zT _ (by omega) (by omega), zT _ (by omega) (by omega)⟩), ← plG_lst, q3]
            rw [ep] at hlE
            have el : m' = (addMk mk (s 0, plG ge (s 5) (s 16), a2 - s 11)).length := by rw [← hlE, lst_len]
            rw [el] at hmE hlE
            replace hsc : sc dE (s 0) a1 0 (s 3) (s 4) (s 5) (s 6 + R) (s 7 + s 11) (s 8 + (a2 - s 11)) (s 9) a10 d (addMk mk (s 0, plG ge (s 5) (s 16), a2 - s 11)) := ⟨⟨(houtE _ (by omega)).trans z0, (houtE _ (by omega)).trans z1, (houtE _ (by omega)).trans z2, (houtE _ (by omega)).trans z3, (houtE _ (by omega)).trans z4, (houtE _ (by omega)).trans z5, (houtE _ (by omega)).trans z6, (houtE _ (by omega)).trans z7, (houtE _ (by omega)).trans z8, (houtE _ (by omega)).trans z9, (houtE _ (by omega)).trans z10⟩, fun i h1 h2 => (houtE i h2).trans (zT i h1 h2), hmE, hlE⟩
            refine v_aload_n (pc := 233) cx rfl ga0 dX12_ticks_233 ?_
            refine v_getfield (pc := 234) cx flX12_7 (by assumption) gf0 dX12_ticks_234 ?_
            refine v_iconst (pc := 237) cx dX12_ticks_237 ?_
            refine v_aload_n (pc := 238) cx rfl ga0 dX12_ticks_238 ?_
            refine v_getfield (pc := 239) cx flX12_7 (by assumption) gf0 dX12_ticks_239 ?_
            refine v_bipush (pc := 242) cx (by decide) dX12_ticks_242 ?_
            refine v_iaload (pc := 244) cx (12) (by assumption) (by omega) dX12_ticks_244 ?_
            refine v_iastore (pc := 245) cx (3) hd (by omega) dX12_ticks_245 (fun E245 hE245 hF245 => ?_)
            replace h0 := (hF245 _ (by omega)).trans h0
            replace hd := hE245
            replace hFr := fun j hj => (hF245 j (by omega)).trans (hFr j hj)
            refine ph246 _ _ a1 0 (s 12) (s 7 + s 11) (s 8 + (a2 - s 11)) (s 9) a10 1 _ _ _ _ _ _ h0 hd hFr (sc_3 hsc (by rw [houtE 12 (by omega), g12])) ⟨ha1.trans eS1.symm, ?_, ?_, ?_, ?_, ?_, ?_⟩ ?_ (Or.inl ⟨rfl, by omega⟩)
            · show _ = (tkB s R).1
              rw [eB]
            · show _ = (tkB s R).2.1
              rw [eB]
            · show _ = (tkB s R).2.2.1
              rw [eB]
            · show _ = (tkB s R).2.2.2.1
              rw [eB, ha2]
            · show _ = (tkB s R).2.2.2.2.1
              rw [eB]
            · rw [eS10, eB]
              simp only
              omega
            · rw [if_neg (by omega), eR, ha2]
        · omega
  have ph48 : ∀ (u t l3 : Int), t = T → ((u = 1 ∧ 0 < s 3) ∨ (u = 0 ∧ s 3 ≤ 0)) → V X E (nh, 0, 0) 48 [some (.ref (gb (fG X) + 124)), some (.int (iI u)), some (.int (iI R)), some (.int (iI l3)), none, none, none] [.int (iI t)] := by
    intro u t l3 ht2 hu
    subst ht2
    have hsc : sc d (s 0) (s 1) (s 2) (s 3) (s 4) (s 5) (s 6) (s 7) (s 8) (s 9) (s 10) d mk := ⟨⟨q1 _ (by omega), q1 _ (by omega), q1 _ (by omega), q1 _ (by omega), q1 _ (by omega), q1 _ (by omega), q1 _ (by omega), q1 _ (by omega), q1 _ (by omega), q1 _ (by omega), q1 _ (by omega)⟩, fun _ _ _ => rfl, q6, q7⟩
    refine v_istore (pc := 48) cx (sa4 rfl) dX12_ticks_48 ?_
    refine v_aload_n (pc := 50) cx rfl ga0 dX12_ticks_50 ?_
    refine v_getfield (pc := 51) cx flX12_7 (by assumption) gf0 dX12_ticks_51 ?_
    refine v_bipush (pc := 54) cx (by decide) dX12_ticks_54 ?_
    refine v_dup2 (pc := 56) cx rfl rfl dX12_ticks_56 ?_
    refine v_iaload (pc := 57) cx (6) (by assumption) (by omega) dX12_ticks_57 ?_
    refine v_iload_n (pc := 58) cx rfl ga2 dX12_ticks_58 ?_
    refine v_iadd (pc := 59) cx dX12_ticks_59 ?_
    refine v_iastore (pc := 60) cx (6) hd (by omega) dX12_ticks_60 (fun E60 hE60 hF60 => ?_)
    replace h0 := (hF60 _ (by omega)).trans h0
    replace hd := hE60
    replace hFr := fun j hj => (hF60 j (by omega)).trans (hFr j hj)
    refine v_aload_n (pc := 61) cx rfl ga0 dX12_ticks_61 ?_
    refine v_getfield (pc := 62) cx flX12_7 (by assumption) gf0 dX12_ticks_62 ?_
    refine v_iconst (pc := 65) cx dX12_ticks_65 ?_
    refine v_dup2 (pc := 66) cx rfl rfl dX12_ticks_66 ?_
    refine v_iaload (pc := 67) cx (1) (by assumption) (by omega) dX12_ticks_67 ?_
    refine v_iload (pc := 68) cx ga4 dX12_ticks_68 ?_
    refine v_iadd (pc := 70) cx dX12_ticks_70 ?_
    refine v_iastore (pc := 71) cx (1) hd (by omega) dX12_ticks_71 (fun E71 hE71 hF71 => ?_)
    replace h0 := (hF71 _ (by omega)).trans h0
    replace hd := hE71
    replace hFr := fun j hj => (hF71 j (by omega)).trans (hFr j hj)
    obtain ⟨dA, hd, hsc⟩ : ∃ dA, E71 125 = some (AI (fG X) 244 dA) ∧ sc dA (s 0) (s 1 + t) (s 2) (s 3) (s 4) (s 5) (s 6 + R) (s 7) (s 8) (s 9) (s 10) d mk := ⟨_, hd, sc_1 (sc_6 hsc (by rw [q1 6 (by omega)])) (by rw [upI_n (by decide), q1 1 (by omega)])⟩
    have hc2 : dA 2 = s 2 := hsc.1.2.2.1
    have hc9 : dA 9 = s 9 := hsc.1.2.2.2.2.2.2.2.2.2.1
    have hc14 : dA 14 = s 14 := (hsc.2.1 14 (by omega) (by omega)).trans (q1 14 (by omega))
    have hc15 : dA 15 = s 15 := (hsc.2.1 15 (by omega) (by omega)).trans (q1 15 (by omega))
    rcases hu with ⟨rfl, hu⟩ | ⟨rfl, hu⟩
    · refine v_aload_n (pc := 72) cx rfl ga0 dX12_ticks_72 ?_
      refine v_getfield (pc := 73) cx flX12_7 (by assumption) gf0 dX12_ticks_73 ?_
      refine v_iload_n (pc := 76) cx rfl ga1 dX12_ticks_76 ?_
      refine v_if_eq (pc := 77) cx 85 dX12_ticks_77 rfl (by omega) (fun c77 => ?_) (fun c77 => ?_)
      · omega
      · refine v_bipush (pc := 80) cx (by decide) dX12_ticks_80 ?_
        refine v_goto (pc := 82) cx 86 dX12_ticks_82 rfl ?_
        refine v_dup2 (pc := 86) cx rfl rfl dX12_ticks_86 ?_
        refine v_iaload (pc := 87) cx (9) (by assumption) (by omega) dX12_ticks_87 ?_
        refine v_iload_n (pc := 88) cx rfl ga2 dX12_ticks_88 ?_
        refine v_iload (pc := 89) cx ga4 dX12_ticks_89 ?_
        refine v_isub (pc := 91) cx dX12_ticks_91 ?_
        refine v_iadd (pc := 92) cx dX12_ticks_92 ?_
        refine v_iastore (pc := 93) cx (9) hd (by omega) dX12_ticks_93 (fun E93 hE93 hF93 => ?_)
        replace h0 := (hF93 _ (by omega)).trans h0
        replace hd := hE93
        replace hFr := fun j hj => (hF93 j (by omega)).trans (hFr j hj)
        obtain ⟨dB, hd, hsc⟩ : ∃ dB, E93 125 = some (AI (fG X) 244 dB) ∧ sc dB (s 0) (s 1 + t) (s 2) (s 3) (s 4) (s 5) (s 6 + R) (s 7) (s 8) (s 9 + (R - t)) (s 10) d mk := ⟨_, hd, sc_9 hsc (by rw [hc9])⟩
        have hc1 : dB 1 = s 1 + t := hsc.1.2.1
        have hc10 : dB 10 = s 10 := hsc.1.2.2.2.2.2.2.2.2.2.2
        have hc14 : dB 14 = s 14 := (hsc.2.1 14 (by omega) (by omega)).trans (q1 14 (by omega))
        refine v_iload_n (pc := 94) cx rfl ga2 dX12_ticks_94 ?_
        refine v_if_ne (pc := 95) cx 126 dX12_ticks_95 rfl (by omega) (fun c95 => ?_) (fun c95 => ?_)
        · rw [if_neg c95] at eG0
          exact ph126u dB _ _ _ _ _ _ _ hu h0 hd hFr hsc (by omega) (by omega)
        · rw [if_pos c95] at eG0
          refine v_aload_n (pc := 98) cx rfl ga0 dX12_ticks_98 ?_
          refine v_iconst (pc := 99) cx dX12_ticks_99 ?_
          refine v_aload_n (pc := 100) cx rfl ga0 dX12_ticks_100 ?_
          refine v_getfield (pc := 101) cx flX12_7 (by assumption) gf0 dX12_ticks_101 ?_
          refine v_bipush (pc := 104) cx (by decide) dX12_ticks_104 ?_
          refine v_iaload (pc := 106) cx (14) (by assumption) (by omega) dX12_ticks_106 ?_
          refine v_callVV (pc := 107) cx hR (m_dries _ _ _ _ (k := 1) h0 hd (by omega) (by omega)) mlX12_48 (by decide) (by assumption) rfl rfl rfl (Nat.le_of_ble_eq_true rfl) ⟨Nat.le_refl _, Nat.le_refl _⟩ dX12_ticks_107 (fun E2 hP => ?_)
          obtain ⟨hd, hF⟩ := hP
          replace h0 := (hF _ (by omega)).trans h0
          replace hFr : Out E E2 125 126 := fun j hj => (hF j hj).trans (hFr j hj)
          refine v_iload_n (pc := 110) cx rfl ga1 dX12_ticks_110 ?_
          refine v_if_ne (pc := 111) cx 126 dX12_ticks_111 rfl (by omega) (fun c111 => ?_) (fun c111 => ?_)
          · exact ph126u _ _ (s 1 + t - W) (s 10 + W) _ _ _ _ hu h0 hd hFr (sc_10 (sc_1 hsc (by omega)) (by omega)) rfl rfl
          · omega
    · refine v_aload_n (pc := 72) cx rfl ga0 dX12_ticks_72 ?_
      refine v_getfield (pc := 73) cx flX12_7 (by assumption) gf0 dX12_ticks_73 ?_
      refine v_iload_n (pc := 76) cx rfl ga1 dX12_ticks_76 ?_
      refine v_if_eq (pc := 77) cx 85 dX12_ticks_77 rfl (by omega) (fun c77 => ?_) (fun c77 => ?_)
      · refine v_iconst (pc := 85) cx dX12_ticks_85 ?_
        refine v_dup2 (pc := 86) cx rfl rfl dX12_ticks_86 ?_
        refine v_iaload (pc := 87) cx (2) (by assumption) (by omega) dX12_ticks_87 ?_
        refine v_iload_n (pc := 88) cx rfl ga2 dX12_ticks_88 ?_
        refine v_iload (pc := 89) cx ga4 dX12_ticks_89 ?_
        refine v_isub (pc := 91) cx dX12_ticks_91 ?_
        refine v_iadd (pc := 92) cx dX12_ticks_92 ?_
        refine v_iastore (pc := 93) cx (2) hd (by omega) dX12_ticks_93 (fun E93 hE93 hF93 => ?_)
        replace h0 := (hF93 _ (by omega)).trans h0
        replace hd := hE93
        replace hFr := fun j hj => (hF93 j (by omega)).trans (hFr j hj)
        obtain ⟨dB, hd, hsc⟩ : ∃ dB, E93 125 = some (AI (fG X) 244 dB) ∧ sc dB (s 0) (s 1 + t) (s 2 + (R - t)) (s 3) (s 4) (s 5) (s 6 + R) (s 7) (s 8) (s 9) (s 10) d mk := ⟨_, hd, sc_2 hsc (by rw [hc2])⟩
        have hc1 : dB 1 = s 1 + t := hsc.1.2.1
        have hc2 : dB 2 = s 2 + (R - t) := hsc.1.2.2.1
        have hc10 : dB 10 = s 10 := hsc.1.2.2.2.2.2.2.2.2.2.2
        have hc14 : dB 14 = s 14 := (hsc.2.1 14 (by omega) (by omega)).trans (q1 14 (by omega))
        have hc15 : dB 15 = s 15 := (hsc.2.1 15 (by omega) (by omega)).trans (q1 15 (by omega))
        refine v_iload_n (pc := 94) cx rfl ga2 dX12_ticks_94 ?_
        refine v_if_ne (pc := 95) cx 126 dX12_ticks_95 rfl (by omega) (fun c95 => ?_) (fun c95 => ?_)
        · rw [if_neg c95] at eG0
          refine ph126n dB _ _ _ _ 0 _ _ _ _ hu ?_ h0 hd hFr hsc (by omega) (by omega) (by omega)
          unfold bGone
          rw [if_neg c95, if_neg (by decide)]
        · rw [if_pos c95] at eG0
          refine v_aload_n (pc := 98) cx rfl ga0 dX12_ticks_98 ?_
          refine v_iconst (pc := 99) cx dX12_ticks_99 ?_
          refine v_aload_n (pc := 100) cx rfl ga0 dX12_ticks_100 ?_
          refine v_getfield (pc := 101) cx flX12_7 (by assumption) gf0 dX12_ticks_101 ?_
          refine v_bipush (pc := 104) cx (by decide) dX12_ticks_104 ?_
          refine v_iaload (pc := 106) cx (14) (by assumption) (by omega) dX12_ticks_106 ?_
          refine v_callVV (pc := 107) cx hR (m_dries _ _ _ _ (k := 1) h0 hd (by omega) (by omega)) mlX12_48 (by decide) (by assumption) rfl rfl rfl (Nat.le_of_ble_eq_true rfl) ⟨Nat.le_refl _, Nat.le_refl _⟩ dX12_ticks_107 (fun E2 hP => ?_)
          obtain ⟨hd, hF⟩ := hP
          replace h0 := (hF _ (by omega)).trans h0
          replace hFr : Out E E2 125 126 := fun j hj => (hF j hj).trans (hFr j hj)
          obtain ⟨dC, hd, hsc⟩ : ∃ dC, E2 125 = some (AI (fG X) 244 dC) ∧ sc dC (s 0) (s 1 + t - W) (s 2 + (R - t)) (s 3) (s 4) (s 5) (s 6 + R) (s 7) (s 8) (s 9) (s 10 + W) d mk := ⟨_, hd, sc_10 (sc_1 hsc (by omega)) (by omega)⟩
          have hc2 : dC 2 = s 2 + (R - t) := hsc.1.2.2.1
          have hc10 : dC 10 = s 10 + W := hsc.1.2.2.2.2.2.2.2.2.2.2
          have hc15 : dC 15 = s 15 := (hsc.2.1 15 (by omega) (by omega)).trans (q1 15 (by omega))
          refine v_iload_n (pc := 110) cx rfl ga1 dX12_ticks_110 ?_
          refine v_if_ne (pc := 111) cx 126 dX12_ticks_111 rfl (by omega) (fun c111 => ?_) (fun c111 => ?_)
          · omega
          · refine v_aload_n (pc := 114) cx rfl ga0 dX12_ticks_114 ?_
            refine v_iconst (pc := 115) cx dX12_ticks_115 ?_
            refine v_aload_n (pc := 116) cx rfl ga0 dX12_ticks_116 ?_
            refine v_getfield (pc := 117) cx flX12_7 (by assumption) gf0 dX12_ticks_117 ?_
            refine v_bipush (pc := 120) cx (by decide) dX12_ticks_120 ?_
            refine v_iaload (pc := 122) cx (15) (by assumption) (by omega) dX12_ticks_122 ?_
            refine v_callVV (pc := 123) cx hR (m_dries _ _ _ _ (k := 2) h0 hd (by omega) (by omega)) mlX12_48 (by decide) (by assumption) rfl rfl rfl (Nat.le_of_ble_eq_true rfl) ⟨Nat.le_refl _, Nat.le_refl _⟩ dX12_ticks_123 (fun E3 hP => ?_)
            obtain ⟨hd, hF⟩ := hP
            replace h0 := (hF _ (by omega)).trans h0
            replace hFr : Out E E3 125 126 := fun j hj => (hF j hj).trans (hFr j hj)
            refine ph126n _ _ _ _ _ (min (s 2 + (R - t)) (s 15)) _ _ _ _ hu ?_ h0 hd hFr (sc_10 (sc_2 hsc (show _ = s 2 + (R - t) - min (s 2 + (R - t)) (s 15) by omega)) (show _ = s 10 + W + min (s 2 + (R - t)) (s 15) by omega)) rfl rfl rfl
            unfold bGone
            rw [if_pos c95, if_pos (by decide)]
      · omega
  have ph14 : ∀ u : Int, ((u = 1 ∧ 0 < s 3) ∨ (u = 0 ∧ s 3 ≤ 0)) → V X E (nh, 0, 0) 14 [some (.ref (gb (fG X) + 124)), none, none, none, none, none, none] [.int (iI u)] := by
    intro u hu
    have g13 := q1 13 (by omega)
    have g1' := q1 1 (by omega)
    have g0' := q1 0 (by omega)
    refine v_istore_n (pc := 14) cx rfl (sa1 rfl) dX12_ticks_14 ?_
    refine v_aload_n (pc := 15) cx rfl ga0 dX12_ticks_15 ?_
    refine v_callVI (pc := 16) cx hR (m_rain _ _ _ _ h0 hd q4 k8.1 (by omega) (fun j hj => ⟨(okSh_at ksh j hj).1, (okSh_at ksh j hj).2.1⟩)) mlX12_45 (by decide) (by assumption) rfl rfl rfl (Nat.le_of_ble_eq_true rfl) ⟨Nat.le_refl _, Nat.le_refl _⟩ dX12_ticks_16 (fun v1 E2 hP => ?_)
    obtain ⟨rfl, rfl⟩ := hP
    rw [hra]
    refine v_istore_n (pc := 19) cx rfl (sa2 rfl) dX12_ticks_19 ?_
    refine v_aload_n (pc := 20) cx rfl ga0 dX12_ticks_20 ?_
    refine v_getfield (pc := 21) cx flX12_7 (by assumption) gf0 dX12_ticks_21 ?_
    refine v_bipush (pc := 24) cx (by decide) dX12_ticks_24 ?_
    refine v_iaload (pc := 26) cx (13) (by assumption) (by omega) dX12_ticks_26 ?_
    refine v_aload_n (pc := 27) cx rfl ga0 dX12_ticks_27 ?_
    refine v_getfield (pc := 28) cx flX12_7 (by assumption) gf0 dX12_ticks_28 ?_
    refine v_iconst (pc := 31) cx dX12_ticks_31 ?_
    refine v_iaload (pc := 32) cx (1) (by assumption) (by omega) dX12_ticks_32 ?_
    refine v_isub (pc := 33) cx dX12_ticks_33 ?_
    refine v_istore_n (pc := 34) cx rfl (sa3 rfl) dX12_ticks_34 ?_
    refine v_iload_n (pc := 35) cx rfl ga3 dX12_ticks_35 ?_
    refine v_if_le (pc := 36) cx 47 dX12_ticks_36 rfl (by omega) (fun c36 => ?_) (fun c36 => ?_)
    · refine v_iconst (pc := 47) cx dX12_ticks_47 ?_
      exact ph48 u 0 _ (by omega) hu
    · refine v_iload_n (pc := 39) cx rfl ga3 dX12_ticks_39 ?_
      refine v_iload_n (pc := 40) cx rfl ga2 dX12_ticks_40 ?_
      refine v_callSI (pc := 41) cx hR (m_less _ _ _ _ (by omega)) mlX12_41 (by decide) rfl (Nat.le_of_ble_eq_true rfl) ⟨Nat.le_refl _, Nat.le_refl _⟩ dX12_ticks_41 (fun v2 E3 hP => ?_)
      obtain ⟨rfl, rfl⟩ := hP
      refine v_goto (pc := 44) cx 48 dX12_ticks_44 rfl ?_
      exact ph48 u _ _ (by omega) hu
  have g3 := q1 3 (by omega)
  refine v_aload_n (pc := 0) cx rfl ga0 dX12_ticks_0 ?_
  refine v_getfield (pc := 1) cx flX12_7 (by assumption) gf0 dX12_ticks_1 ?_
  refine v_iconst (pc := 4) cx dX12_ticks_4 ?_
  refine v_iaload (pc := 5) cx (3) (by assumption) (by omega) dX12_ticks_5 ?_
  refine v_if_le (pc := 6) cx 13 dX12_ticks_6 rfl (by omega) (fun c6 => ?_) (fun c6 => ?_)
  · refine v_iconst (pc := 13) cx dX12_ticks_13 ?_
    exact ph14 0 (Or.inr ⟨rfl, by omega⟩)
  · refine v_iconst (pc := 9) cx dX12_ticks_9 ?_
    refine v_goto (pc := 10) cx 14 dX12_ticks_10 rfl ?_
    exact ph14 1 (Or.inl ⟨rfl, by omega⟩)
set_option maxRecDepth 100000 in
set_option maxHeartbeats 4000000 in
theorem m_goes (lc : Launch) (G : Gc) (E : Wd) (nh : Nat) {k : Nat} {σ : Sg} {st ty aa re rs sm : Int} {d : Nat → Int} (h0 : E 124 = some (oMd G st ty aa re rs sm)) (hd : E 125 = some (AI G 244 d)) (hD : isD d σ) (hk : ok σ) (ht : σ.1 0 + k ≤ 5000) (hk1 : k ≤ 1000) : CI lc G 3 yX12_goes cX12_goes 4 .int [.ref (gb G + 124), .int (iI (k : Int))] E nh 0 0 (fun v E' => v = (tips σ k : Int) ∧ (∃ d', E' 125 = some (AI G 244 d') ∧ isD d' (ticks σ k)) ∧ Out E E' 125 126) := by
  refine CI.mk (by decide +kernel) rfl (Nat.le_of_ble_eq_true rfl) ?_
  intro X hG hL cx hR hI
  subst hG; subst hL
  show V X E (nh, 0, 0) 0 [some (.ref (gb (fG X) + 124)), some (.int (iI (k : Int))), none, none] []
  have loop : ∀ (w i : Nat) (d' : Nat → Int) (E' : Wd), i ≤ k → k - i < w → E' 124 = some (oMd (fG X) st ty aa re rs sm) → E' 125 = some (AI (fG X) 244 d') → isD d' (ticks σ i) → Out E E' 125 126 → V X E' (nh, 0, 0) 4 [some (.ref (gb (fG X) + 124)), some (.int (iI (k : Int))), some (.int (iI (tips σ i : Int))), some (.int (iI (i : Int)))] [] := by
    intro w
    induction w with
    | zero => intro i d' E' hi hd; omega
    | succ w ih =>
      intro i d' E' hi hw h0 hd hD hFr
      refine v_iload_n (pc := 4) cx rfl ga3 dX12_goes_4 ?_
      refine v_iload_n (pc := 5) cx rfl ga1 dX12_goes_5 ?_
      refine v_icmp_ge (pc := 6) cx 30 dX12_goes_6 rfl (by omega) (fun c6 => ?_) (fun c6 => ?_)
      · refine v_iload_n (pc := 30) cx rfl ga2 dX12_goes_30 ?_
        refine v_ireturn (pc := 31) cx hI rfl ?_ dX12_goes_31
        have e : i = k := by omega
        subst e
        exact ⟨rfl, ⟨d', hd, hD⟩, hFr⟩
      · refine v_iload_n (pc := 9) cx rfl ga2 dX12_goes_9 ?_
        refine v_aload_n (pc := 10) cx rfl ga0 dX12_goes_10 ?_
        refine v_callVI (pc := 11) cx hR (m_ticks _ _ _ _ h0 hd hD (ok_ticks hk i (by omega)) (by rw [ticks_0]; omega)) mlX12_59 (by decide) (by assumption) rfl rfl rfl (Nat.le_of_ble_eq_true rfl) ⟨Nat.le_refl _, Nat.le_refl _⟩ dX12_goes_11 (fun v1 E2 hP => ?_)
        obtain ⟨hv, ⟨d2, hd2, hD2⟩, hF⟩ := hP
        refine v_if_eq (pc := 14) cx 21 dX12_goes_14 rfl (by omega) (fun c14 => ?_) (fun c14 => ?_)
        · refine v_iconst (pc := 21) cx dX12_goes_21 ?_
          refine v_iadd (pc := 22) cx dX12_goes_22 ?_
          refine v_istore_n (pc := 23) cx rfl (sa2 rfl) dX12_goes_23 ?_
          refine v_iinc (pc := 24) cx ga3 (sa3 rfl) dX12_goes_24 ?_
          refine v_goto (pc := 27) cx 4 dX12_goes_27 rfl ?_
          have e : tips σ (i + 1) = tips σ i := by simp only [tips]; rw [if_pos (by omega), Nat.add_zero]
          rw [show (tips σ i : Int) + 0 = (tips σ (i + 1) : Int) by omega]
          exact ih (i + 1) d2 E2 (by omega) (by omega) ((hF _ (by omega)).trans h0) hd2 hD2 (fun j hj => (hF j hj).trans (hFr j hj))
        · refine v_iconst (pc := 17) cx dX12_goes_17 ?_
          refine v_goto (pc := 18) cx 22 dX12_goes_18 rfl ?_
          refine v_iadd (pc := 22) cx dX12_goes_22 ?_
          refine v_istore_n (pc := 23) cx rfl (sa2 rfl) dX12_goes_23 ?_
          refine v_iinc (pc := 24) cx ga3 (sa3 rfl) dX12_goes_24 ?_
          refine v_goto (pc := 27) cx 4 dX12_goes_27 rfl ?_
          have e : tips σ (i + 1) = tips σ i + 1 := by simp only [tips]; rw [if_neg (by omega)]
          rw [show (tips σ i : Int) + 1 = (tips σ (i + 1) : Int) by omega]
          exact ih (i + 1) d2 E2 (by omega) (by omega) ((hF _ (by omega)).trans h0) hd2 hD2 (fun j hj => (hF j hj).trans (hFr j hj))
  refine v_iconst (pc := 0) cx dX12_goes_0 ?_
  refine v_istore_n (pc := 1) cx rfl (sa2 rfl) dX12_goes_1 ?_
  refine v_iconst (pc := 2) cx dX12_goes_2 ?_
  refine v_istore_n (pc := 3) cx rfl (sa3 rfl) dX12_goes_3 ?_
  exact loop (k + 1) 0 d E (by omega) (by omega) h0 hd hD (fun _ _ => rfl)
