/-! rows that the law needs: remainders, shifts, a mask, calls of its own methods, the script in a callee -/
theorem iI_rem {a b : Int} (h : 0 ≤ a ∧ a < 2147483648 ∧ 0 < b ∧ b < 2147483648) : ¬ iI b = 0 ∧ iI a - iI a / iI b * iI b = iI (a % b) := by
  obtain ⟨n, rfl⟩ := Int.eq_ofNat_of_zero_le h.1
  obtain ⟨d, rfl⟩ := Int.eq_ofNat_of_zero_le (by omega : 0 ≤ b)
  refine ⟨fun e => ?_, ?_⟩
  · rw [iI_0, iI_eq ⟨by omega, by omega⟩ ⟨by omega, by omega⟩] at e
    omega
  · rw [show ((n : Int) % (d : Int)) = ((n % d : Nat) : Int) from (Int.natCast_emod n d).symm, iI_nI, iI_nI, iI_nI]
    exact pk_rem (by omega) (by omega) (by omega)
theorem iI_shr {a : Int} (h : 0 ≤ a ∧ a < 2147483648) (s : Int32) (k : Nat) (hs : (s.toBitVec.smod 32).toNat = k) : iI a >>> s = iI (a / ((2 ^ k : Nat) : Int)) := by
  obtain ⟨n, rfl⟩ := Int.eq_ofNat_of_zero_le h.1
  rw [show ((n : Int) / ((2 ^ k : Nat) : Int)) = ((n / 2 ^ k : Nat) : Int) from (Int.natCast_ediv n (2 ^ k)).symm, iI_nI, iI_nI]
  exact pk_shrN (by omega) s k hs
theorem iI_mask (a : Int) : ∃ r : Int, 0 ≤ r ∧ r ≤ 2147483647 ∧ iI a &&& iI 2147483647 = iI r := by
  have h1 : (iI a &&& iI 2147483647).toBitVec.toNat ≤ 2147483647 := by
    rw [Int32.toBitVec_and, BitVec.toNat_and]
    exact Nat.le_trans Nat.and_le_right (by decide)
  refine ⟨((iI a &&& iI 2147483647).toBitVec.toNat : Int), by omega, by omega, ?_⟩
  rw [iI_nI]
  apply Int32.toBitVec_inj.mp
  simp [nI]
/-- a method's start with the law's script beside the world -/
def PreX (G : Gc) (as : List Value) (E : Wd) (n b L : Nat) (xs : Nat → Int32) : Array Value → State → Prop := fun a U => PreC G as E n a U ∧ va_X b L xs U U.heap
theorem PreX.blind {G : Gc} {as : List Value} {E : Wd} {n b L : Nat} {xs : Nat → Int32} : FrameBlind (PreX G as E n b L xs) := fun a U g mk h => ⟨PreC.blind a U g mk h.1, va_X.moved (u := U) (U := U.calling g mk a) (Vm.Alike.refl U.vm) h.2⟩
section LawRows
variable {X : Fx} {E : Wd} {z : Nat × Nat × Nat} {pc : Nat} {ls : List (Option Value)} {st stk : List Value} {cc : ByteArray} {ow : String}
theorem v_iremI (cx : Cx X cc ow) {a b : Int} (h : 0 ≤ a ∧ a < 2147483648 ∧ 0 < b ∧ b < 2147483648) (hd : decode cc pc = .ok (.irem, 1)) (k : V X E z (pc + 1) ls (.int (iI (a % b)) :: st)) : V X E z pc ls (.int (iI b) :: .int (iI a) :: st) :=
  k.st (fun H locs L hl k => lv_irem cx.1 cx.2.1 hd (iI_rem h).1 (by rw [(iI_rem h).2]; exact k))
theorem v_ishrI (cx : Cx X cc ow) {a n : Int} (k0 : Nat) (d : Int) (h : 0 ≤ a ∧ a < 2147483648) (hs : ((iI n &&& 31).toBitVec.smod 32).toNat = k0) (hk : ((2 ^ k0 : Nat) : Int) = d) (hd : decode cc pc = .ok (.ishr, 1)) (k : V X E z (pc + 1) ls (.int (iI (a / d)) :: st)) : V X E z pc ls (.int (iI n) :: .int (iI a) :: st) := by
  subst hk
  exact k.st (fun H locs L hl k => lv_ishr cx.1 cx.2.1 hd (by rw [iI_shr h _ k0 hs]; exact k))
theorem v_maskI (cx : Cx X cc ow) {a : Int} (hd : decode cc pc = .ok (.iand, 1)) (kk : ∀ r : Int, 0 ≤ r → r ≤ 2147483647 → V X E z (pc + 1) ls (.int (iI r) :: st)) : V X E z pc ls (.int (iI 2147483647) :: .int (iI a) :: st) := by
  obtain ⟨r, h1, h2, h3⟩ := iI_mask a
  have k := kk r h1 h2
  rw [← h3] at k
  exact v_iand cx hd k
theorem v_same (cx : Cx X cc ow) {x : Int32} {off : Int} (hd : decode cc pc = .ok (.if_icmp .ne off, 3)) (tgt : Nat) (ht : (pc : Int) + off = (tgt : Int)) (kf : V X E z (pc + 3) ls st) : V X E z pc ls (.int x :: .int x :: st) :=
  fun H locs L h1 => lv_icmp_ne cx.1 cx.2.1 hd ht (fun q => absurd rfl q) (fun _ => kf H locs L h1)
theorem v_sld (cx : Cx X cc ow) {b L : Nat} {xs : Nat → Int32} (hX : va_X b L xs (fS X) (fS X).heap) (hb : b < (fS X).heap.size ∧ b < gb (fG X)) {i : Int} (j : Nat) (hj : i = (j : Int) ∧ j < L ∧ (j : Int) < 2147483648) (hd : decode cc pc = .ok (.iaload, 1)) (kk : V X E z (pc + 1) ls (.int (iI (xs j).toInt) :: st)) : V X E z pc ls (.int (iI i) :: .ref b :: st) := by
  intro H locs L1 h1
  obtain ⟨e1, e2⟩ := iI_in hj.1 hj.2.1 hj.2.2
  have k := kk H locs L1 h1
  rw [← iI_of (xs j)] at k
  exact va_sld cx.1 cx.2.1 hX hb.1 (show ¬ gb (fG X) ≤ b by omega) h1.2.2.1 e1 hd (by rw [e2]; exact k)
theorem v_slen (cx : Cx X cc ow) {b L : Nat} {xs : Nat → Int32} (hX : va_X b L xs (fS X) (fS X).heap) (hb : b < (fS X).heap.size ∧ b < gb (fG X)) (hd : decode cc pc = .ok (.arraylength, 1)) (kk : V X E z (pc + 1) ls (.int (iI (L : Int)) :: st)) : V X E z pc ls (.ref b :: st) := by
  intro H locs L1 h1
  have k := kk H locs L1 h1
  rw [show iI (L : Int) = Int32.ofNat L from Int32.ofInt_eq_ofNat (n := L)] at k
  exact va_slen cx.1 cx.2.1 hX hb.1 (show ¬ gb (fG X) ≤ b by omega) h1.2.2.1 hd k
/-- a static call that makes cells -/
theorem v_callSIm (cx : Cx X cc ow) {lv mc ms lv' mc' ms' nLy idx : Nat} {y : MethodName} {cy : ByteArray} {ty : FieldType} {as : List Value} {P : Int → Wd → Prop} (hR : RM X lv mc ms) (hM : CI (fL X) (fG X) lv' y cy nLy ty as E z.1 mc' ms' P) (hl : MLS ow idx y cy nLy (some ty) as.length) (hlv : lv' + 1 ≤ lv)
    (hstk : stk = as.reverse ++ st) (hcat : (st.map fun v => v.category).sum ≤ 8) (hroom : z.2.1 + mc' ≤ mc ∧ z.2.2 + ms' ≤ ms) (hd : decode cc pc = .ok (.invokestatic idx, 3)) (kk : ∀ (r : Int) (E' : Wd), P r E' → V X E' (z.1 + mc', z.2.1 + mc', z.2.2 + ms') (pc + 3) ls (.int (iI r) :: st)) : V X E z pc ls stk :=
  fun H locs L h1 => after_I h1 (v_runS cx hR h1 hM hl rfl hlv hstk hcat hroom hd) kk
/-- the call of a static method that reads the script -/
theorem v_callX (cx : Cx X cc ow) {lv mc ms lv' nLy idx b L : Nat} {xs : Nat → Int32} {y : MethodName} {cy : ByteArray} {ty : FieldType} {as : List Value} {P : Int → Wd → Prop} (hR : RM X lv mc ms) (hX : va_X b L xs (fS X) (fS X).heap) (hb : b < (fS X).heap.size ∧ b < gb (fG X)) (hM : Met (fL X) y (Cond.code y cy nLy (some ty) :: TB) (rmk lv' 0 0) (PreX (fG X) as E z.1 b L xs) (QI (fG X) P (z.1 + 0)) 0 0 (gO (fG X))) (hl : MLS ow idx y cy nLy (some ty) as.length) (hlv : lv' + 1 ≤ lv)
    (hstk : stk = as.reverse ++ st) (hcat : (st.map fun v => v.category).sum ≤ 8) (hroom : z.2.1 ≤ mc ∧ z.2.2 ≤ ms) (hd : decode cc pc = .ok (.invokestatic idx, 3)) (kk : ∀ (r : Int) (E' : Wd), P r E' → V X E' z (pc + 3) ls (.int (iI r) :: st)) : V X E z pc ls stk := by
  intro H locs L1 h1
  refine after_I (mc := 0) (ms := 0) (as := as) h1 ?_ kk
  obtain ⟨⟨b1, b2, b3, b4, b5⟩, b6⟩ := hl
  have ht := cx.2.2.2.1
  subst hstk
  have hroom := rm_room (mc' := 0) (ms' := 0) hR hroom
  have hpre : ∀ U : State, U.heap = H → (fS X).WarmedH U.vm → PreX (fG X) as E z.1 b L xs as.toArray U := fun U hU hW => ⟨pre_at cx h1 as U hU hW, by
    rw [hU]
    exact va_X.moved hW.alike (hX.kept (h1.2.2.1.2.1 b hb.1 (show ¬ gb (fG X) ≤ b by omega)))⟩
  rcases b5 with b5 | ⟨host, b5⟩
  · exact va_runS (Ts := TB) (fix_of cx h1.2.2.2.2) hM ⟨callB_of _ ht (code_good b2) rfl rfl rfl (ht _ b1) (ht _ b5) b3 (rm_fit hR hlv b4), ht _ b6⟩ ⟨PreX.blind, hpre⟩ rfl rfl h1.2.2.2.1.1 rfl (lv_room hcat) hd hroom
  · exact va_runSN (Ts := TB) (fix_of cx h1.2.2.2.2) hM ⟨va_cnB _ ht (code_good b2) rfl rfl rfl (va_nwTN cx b5) (ht _ b1) b3 (rm_fit hR hlv b4), ht _ b6, trivial⟩ ⟨PreX.blind, hpre⟩ rfl rfl h1.2.2.2.1.1 rfl (lv_room hcat) hd hroom
end LawRows
theorem CIX.mk {l : Launch} {G : Gc} {lv : Nat} {y : MethodName} {cc : ByteArray} {nL : Nat} {ty : FieldType} {as : List Value} {E : Wd} {n b L : Nat} {xs : Nat → Int32} {P : Int → Wd → Prop} (hy : plainFor y = true) (hc : as.all (fun w => w.category == 1) = true) (hn : as.length ≤ nL)
    (body : ∀ X : Fx, fG X = G → fL X = l → Cx X cc y.cls → RM X lv 0 0 → RI X P (n + 0) 0 0 ty → va_X b L xs (fS X) (fS X).heap → b < (fS X).heap.size → V X E (n, 0, 0) 0 (lsO as nL) []) : Met l y (Cond.code y cc nL (some ty) :: TB) (rmk lv 0 0) (PreX G as E n b L xs) (QI G P (n + 0)) 0 0 (gO G) := by
  have hc : ∀ w ∈ as, w.category = 1 := fun w hw => by simpa using List.all_eq_true.mp hc w hw
  refine va_MetF (cc := cc) (maxL := nL) (ret := some ty) hy rfl ?_
  intro p e s m args below meth c s₁ B hml hv
  obtain ⟨⟨rfl, hw, hsz, hkz⟩, hX⟩ := hv
  have hts := atoms_spec (ws := Cond.code y cc nL (some ty) :: TB) B.pre
  have hl := lv_entry as (n := nL) (by rw [lg_sl_len as hc]; exact hn)
  rw [lg_entry_eq]
  have hbl : b < s.heap.size := by
    obtain ⟨scr, h1, -⟩ := hX
    exact (Array.getElem?_eq_some_iff.mp h1).1
  have hb := body (p, l, e, rmk lv 0 0, s, m, as.toArray, below, meth, c, G, MQ below (QI G P (n + 0)) as.toArray s 0 0 (gO G)) rfl rfl ⟨B.exec, B.bytes, findClass_of_methodNamed B.named, fun w hw => hts w (List.mem_cons_of_mem _ hw), hkz, by rw [hsz]; exact Nat.le_add_right _ _⟩ ⟨Nat.le_refl _, Nat.le_refl _, Nat.le_refl _, Nat.le_refl _⟩ ⟨rfl, B.returns, B.notSynchronized⟩ hX hbl
  exact hb s.heap [] _ ⟨hw, hsz, va_S.rf, lsH_entry hc hn hl, by rw [hml]; simp [lsO]; omega⟩
set_option maxRecDepth 100000 in
set_option maxHeartbeats 4000000 in
theorem c_cell (lc : Launch) (G : Gc) (E : Wd) (nh : Nat) {b L : Nat} {xs : Nat → Int32} {k : Nat} (hb : b < gb G) (hL : L ≤ 260) (hk : k < 1000) : Met lc yL_cell (Cond.code yL_cell cL_cell 2 (some .int) :: TB) (rmk 1 0 0) (PreX G [.ref b, .int (iI (k : Int))] E nh b L xs) (QI G (fun r E' => (0 ≤ r ∧ r ≤ 2147483647) ∧ E' = E) (nh + 0)) 0 0 (gO G) := by
  refine CIX.mk (by decide +kernel) rfl (Nat.le_of_ble_eq_true rfl) ?_
  intro X hG hL1 cx hR hI hX hbl
  subst hG; subst hL1
  have hb := And.intro hbl hb
  show V X E (nh, 0, 0) 0 [some (.ref b), some (.int (iI (k : Int)))] []
  have fin : ∀ a : Int, V X E (nh, 0, 0) 19 [some (.ref b), some (.int (iI (k : Int)))] [.int (iI a)] := by
    intro a
    refine v_ldc (pc := 19) cx kcL_8 dL_cell_19 ?_
    refine v_maskI (pc := 21) cx dL_cell_21 (fun r h0 h1 => ?_)
    refine v_ireturn (pc := 22) cx hI rfl ?_ dL_cell_22
    exact ⟨⟨h0, h1⟩, rfl⟩
  refine v_iload_n (pc := 0) cx rfl ga1 dL_cell_0 ?_
  refine v_aload_n (pc := 1) cx rfl ga0 dL_cell_1 ?_
  refine v_slen (pc := 2) cx hX hb dL_cell_2 ?_
  refine v_icmp_ge (pc := 3) cx 12 dL_cell_3 rfl (by omega) (fun c3 => ?_) (fun c3 => ?_)
  · refine v_ldc (pc := 12) cx kcL_7 dL_cell_12 ?_
    refine v_iload_n (pc := 14) cx rfl ga1 dL_cell_14 ?_
    refine v_imul (pc := 15) cx dL_cell_15 ?_
    refine v_bipush (pc := 16) cx (by decide) dL_cell_16 ?_
    refine v_iadd (pc := 18) cx dL_cell_18 ?_
    exact fin _
  · refine v_aload_n (pc := 6) cx rfl ga0 dL_cell_6 ?_
    refine v_iload_n (pc := 7) cx rfl ga1 dL_cell_7 ?_
    refine v_sld (pc := 8) cx hX hb (k) (by omega) dL_cell_8 ?_
    refine v_goto (pc := 9) cx 19 dL_cell_9 rfl ?_
    exact fin _
