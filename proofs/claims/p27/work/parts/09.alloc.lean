/-! rows that make cells, and System.arraycopy -/
theorem hx_find {G : Gc} {s : State} (hK : va_K (gD G) vwCl (gtys G) s) {t : Nat} {ty : FieldType} (ht : (gtys G)[t]? = some (gK G t, ty)) (hty : ∀ C, ty ≠ .object C) : s.vm.findClass ("[" ++ ty.toString) = some (gK G t) := by
  have h := (hK.2 t _ ht).2
  unfold va_RA at h
  cases ty <;> first | exact h | exact absurd rfl (hty _)
def cpyI (f g : Nat → Int) (sp dp n : Nat) : Nat → Int := fun k => if dp ≤ k ∧ k < dp + n then f (sp + (k - dp)) else g k
theorem iI_nn {j : Nat} (h : (j : Int) < 2147483648) : ¬ iI (j : Int) < 0 := by
  rw [iI_0, iI_lt ⟨by omega, h⟩ ⟨by omega, by omega⟩]
  omega
def NW (ow : String) (idx ci N : Nat) (fs : List Value) : Prop := ∃ (C : String) (T : u_T) (ty : Nat → FieldType), vwCl[ci]? = some (C, T, N) ∧ (∀ w ∈ u_ws C T N, w ∈ TB) ∧ Cond.classLink ow idx C ∈ TB ∧ Cond.instantiable C N ∈ TB ∧ Cond.initialized C ∈ TB ∧ (∀ k, k < N → parseFieldDescriptor (T k).2.2.1 = some (ty k)) ∧ (∀ j, j < N → defaultValue (ty j) = vp_V fs j)
section Alloc
variable {X : Fx} {E : Wd} {z : Nat × Nat × Nat} {pc : Nat} {ls ls' : List (Option Value)} {st : List Value} {cc : ByteArray} {ow : String}
theorem v_objInit (cx : Cx X cc ow) {lv mc ms idx o : Nat} (hR : RM X lv mc ms) (hlv : 1 ≤ lv) (hl : Cond.methodLink ow idx Lib.objectInit ∈ TB) (hi : Cond.instanceMethod Lib.objectInit ∈ TB) (hco : Cond.code Lib.objectInit ⟨#[0xb1]⟩ 1 none ∈ TB) (hcat : (st.map fun v => v.category).sum ≤ 8) (hd : decode cc pc = .ok (.invokespecial idx, 3)) (kk : V X E z (pc + 3) ls st) : V X E z pc ls (.ref o :: st) := by
  intro H locs L h1
  have ht := cx.2.2.2.1
  refine W.objInit cx.1 cx.2.1 cx.2.2.1 (ht _ hl) (ht _ hi) (ht _ hco) rfl (h1.2.2.2.1.1.trans h1.2.2.2.2) rfl hd (Nat.le_trans hlv hR.1) (Nat.le_trans ?_ hR.2.1) (kk H locs L h1)
  show 2 * 0 + _ + 12 ≤ 33 * lv
  omega
theorem v_new (cx : Cx X cc ow) {lv mc ms idx ci N : Nat} {fs : List Value} (hR : RM X lv mc ms) (hw : NW ow idx ci N fs) (hroom : z.2.1 + 1 ≤ mc ∧ z.2.2 + N ≤ ms) (hd : decode cc pc = .ok (.new idx, 3)) (kk : ∀ E1 : Wd, E1 z.1 = some (.inr (ci, fs)) → (∀ j, j ≠ z.1 → E1 j = E j) → V X E1 (z.1 + 1, z.2.1 + 1, z.2.2 + N) (pc + 3) ls (.ref (gb (fG X) + z.1) :: st)) : V X E z pc ls st := by
  intro H locs L h1
  obtain ⟨C, T, ty, hc, hin, w1, w2, w3, hty, hfs⟩ := hw
  have ht := cx.2.2.2.1
  have hKn := cx.2.2.2.2.1.1.1 ci _ hc
  refine W.newcK cx.1 cx.2.1 cx.2.2.1 (ht _ w1) (ht _ w2) (ht _ w3) rfl hd (Nat.le_trans hroom.1 hR.2.2.1) (Nat.le_trans hroom.2 hR.2.2.2) hKn.2.1 h1.2.1 fun H1 kC hkC e1 z1 o1 => ?_
  have hS := h1.2.2.1
  refine kk (upW E z.1 (.inr (ci, fs))) upW_s upW_n H1 locs L ⟨fun k x hk => ?_, by rw [z1]; exact Nat.add_assoc _ _ _, ⟨Nat.le_trans hS.1 (by rw [h1.2.1, z1]; omega), fun q g1 g2 => (o1 q (by rw [← h1.2.1]; exact Nat.lt_of_lt_of_le g1 hS.1)).trans (hS.2.1 q g1 g2), hS.2.2⟩, h1.2.2.2⟩
  by_cases hkz : k = z.1
  · subst hkz
    rw [upW_s] at hk
    cases hk
    exact ⟨_, hc, (u_born ty ht hin hKn hkC e1 hty).to hfs⟩
  · rw [upW_n k hkz] at hk
    have := h1.1 k x hk
    exact this.kept (o1 _ (by have := this.lt; rw [h1.2.1] at this; exact this))
theorem v_newarr (cx : Cx X cc ow) {lv mc ms t N : Nat} {a : Int} {atype : ArrayType} {a0 : vp_A} (hR : RM X lv mc ms) (hw : Cond.arrayClass (newarray.typeOf atype) ∈ TB) (ht : (gtys (fG X))[t]? = some (gK (fG X) t, newarray.typeOf atype)) (hob : ∀ C, newarray.typeOf atype ≠ .object C) (ha : a = (N : Int) ∧ (N : Int) < 100000) (hcell : vp_cell (gK (fG X) t) a0 = arrV (gK (fG X) t) N (fun _ => defaultValue (newarray.typeOf atype))) (hb : componentBytes (newarray.typeOf atype) ≤ 8) (hroom : z.2.1 + 1 ≤ mc ∧ z.2.2 + N ≤ ms) (hd : decode cc pc = .ok (.newarray atype, 2))
    (kk : ∀ E1 : Wd, E1 z.1 = some (.inl (gK (fG X) t, a0)) → (∀ j, j ≠ z.1 → E1 j = E j) → V X E1 (z.1 + 1, z.2.1 + 1, z.2.2 + N) (pc + 2) ls (.ref (gb (fG X) + z.1) :: st)) : V X E z pc ls (.int (iI a) :: st) := by
  intro H locs L h1
  obtain ⟨rfl, hN⟩ := ha
  have hts := cx.2.2.2.1
  refine va_newaK cx.1 cx.2.1 (hts _ hw) rfl hd rfl (iI_nn (by omega)) (iI_clamp (by omega)) ?_ (Nat.le_trans hroom.1 hR.2.2.1) (Nat.le_trans hroom.2 hR.2.2.2) h1.2.1 fun H1 cA e1 z1 o1 hAr hNm => ?_
  · have := Nat.mul_le_mul_left N hb
    omega
  · have hcA : cA = gK (fG X) t := Option.some.inj (hNm.symm.trans (hx_find cx.2.2.2.2.1.1 ht hob))
    subst hcA
    have hS := h1.2.2.1
    refine kk (upW E z.1 _) upW_s upW_n H1 locs L ⟨fun k x hk => ?_, by rw [z1]; exact Nat.add_assoc _ _ _, ⟨Nat.le_trans hS.1 (by rw [h1.2.1, z1]; omega), fun q g1 g2 => (o1 q (by rw [← h1.2.1]; exact Nat.lt_of_lt_of_le g1 hS.1)).trans (hS.2.1 q g1 g2), hS.2.2⟩, h1.2.2.2⟩
    by_cases hkz : k = z.1
    · subst hkz
      rw [upW_s] at hk
      cases hk
      show H1[_]? = some (vp_cell _ _)
      rw [hcell]
      exact e1
    · rw [upW_n k hkz] at hk
      have := h1.1 k x hk
      exact this.kept (o1 _ (by have := this.lt; rw [h1.2.1] at this; exact this))
theorem v_newint (cx : Cx X cc ow) {lv mc ms : Nat} (N : Nat) {a : Int} (hR : RM X lv mc ms) (hw : Cond.arrayClass .int ∈ TB) (ha : a = (N : Int) ∧ (N : Int) < 100000) (hroom : z.2.1 + 1 ≤ mc ∧ z.2.2 + N ≤ ms) (hd : decode cc pc = .ok (.newarray .int, 2)) (kk : ∀ E1 : Wd, E1 z.1 = some (AI (fG X) N (fun _ => 0)) → (∀ j, j ≠ z.1 → E1 j = E j) → V X E1 (z.1 + 1, z.2.1 + 1, z.2.2 + N) (pc + 2) ls (.ref (gb (fG X) + z.1) :: st)) : V X E z pc ls (.int (iI a) :: st) :=
  v_newarr cx (t := 0) (atype := .int) hR hw rfl (fun _ h => by cases h) ha rfl (by decide) hroom hd kk
theorem v_newchar (cx : Cx X cc ow) {lv mc ms : Nat} (N : Nat) {a : Int} (hR : RM X lv mc ms) (hw : Cond.arrayClass .char ∈ TB) (ha : a = (N : Int) ∧ (N : Int) < 100000) (hroom : z.2.1 + 1 ≤ mc ∧ z.2.2 + N ≤ ms) (hd : decode cc pc = .ok (.newarray .char, 2)) (kk : ∀ E1 : Wd, E1 z.1 = some (AC (fG X) N (fun _ => 0)) → (∀ j, j ≠ z.1 → E1 j = E j) → V X E1 (z.1 + 1, z.2.1 + 1, z.2.2 + N) (pc + 2) ls (.ref (gb (fG X) + z.1) :: st)) : V X E z pc ls (.int (iI a) :: st) :=
  v_newarr cx (t := 1) (atype := .char) hR hw rfl (fun _ h => by cases h) ha rfl (by decide) hroom hd kk
theorem v_newbool (cx : Cx X cc ow) {lv mc ms : Nat} (N : Nat) {a : Int} (hR : RM X lv mc ms) (hw : Cond.arrayClass .boolean ∈ TB) (ha : a = (N : Int) ∧ (N : Int) < 100000) (hroom : z.2.1 + 1 ≤ mc ∧ z.2.2 + N ≤ ms) (hd : decode cc pc = .ok (.newarray .boolean, 2)) (kk : ∀ E1 : Wd, E1 z.1 = some (AZ (fG X) N (fun _ => 0)) → (∀ j, j ≠ z.1 → E1 j = E j) → V X E1 (z.1 + 1, z.2.1 + 1, z.2.2 + N) (pc + 2) ls (.ref (gb (fG X) + z.1) :: st)) : V X E z pc ls (.int (iI a) :: st) :=
  v_newarr cx (t := 2) (atype := .boolean) hR hw rfl (fun _ h => by cases h) ha rfl (by decide) hroom hd kk
theorem v_newstates (cx : Cx X cc ow) {lv mc ms idx : Nat} (N : Nat) {a : Int} (hR : RM X lv mc ms) (hw : Cond.classLink ow idx RX9 ∈ TB) (ha : a = (N : Int) ∧ (N : Int) < 100000) (hroom : z.2.1 + 1 ≤ mc ∧ z.2.2 + N ≤ ms) (hd : decode cc pc = .ok (.anewarray idx, 3)) (kk : ∀ E1 : Wd, E1 z.1 = some (AS (fG X) N (fun _ => none)) → (∀ j, j ≠ z.1 → E1 j = E j) → V X E1 (z.1 + 1, z.2.1 + 1, z.2.2 + N) (pc + 3) ls (.ref (gb (fG X) + z.1) :: st)) : V X E z pc ls (.int (iI a) :: st) := by
  intro H locs L h1
  obtain ⟨rfl, hN⟩ := ha
  have hts := cx.2.2.2.1
  have hcl : (iI (N : Int)).toNatClampNeg = N := iI_clamp (by omega)
  refine W.anew cx.1 cx.2.1 cx.2.2.1 (hts _ hw) (va_AO.use cx.2.2.2.2.1.2.2.2) rfl hd rfl (iI_nn (by omega)) (by rw [hcl]; omega) (Nat.le_trans hroom.1 hR.2.2.1) (by rw [hcl]; exact Nat.le_trans hroom.2 hR.2.2.2) fun cA kA comp f1 f2 f3 f4 => ?_
  rw [hcl]
  have hcA : cA = gK (fG X) 3 := by
    obtain ⟨kA', comp', g1, g2, g3, g4⟩ := (cx.2.2.2.2.1.1.2 3 _ rfl).2
    exact Option.some.inj (f1.symm.trans g4)
  subst hcA
  generalize hH1 : H.push ({ cls := gK (fG X) 3, slots := Array.replicate N .null, vm := .none } : Cell) = H1
  have z1 : H1.size = H.size + 1 := by rw [← hH1, Array.size_push]
  have e1 : H1[H.size]? = some (arrV (gK (fG X) 3) N (fun _ => .null)) := by rw [← hH1, Array.getElem?_push_size, ← arrV_new]
  have o1 : ∀ q : Nat, q < H.size → H1[q]? = H[q]? := fun q hq => by rw [← hH1, Array.getElem?_push, if_neg (Nat.ne_of_lt hq)]
  have hS := h1.2.2.1
  show W _ _ _ _ _ _ _ _ _ _ _ _ _ _ _ (F0 _ _ _ (.ref H.size :: st))
  rw [h1.2.1]
  rw [h1.2.1] at e1
  refine kk (upW E z.1 _) upW_s upW_n H1 locs L ⟨fun k x hk => ?_, by rw [z1, h1.2.1]; exact Nat.add_assoc _ _ _, ⟨Nat.le_trans hS.1 (by rw [z1]; omega), fun q g1 g2 => (o1 q (Nat.lt_of_lt_of_le g1 hS.1)).trans (hS.2.1 q g1 g2), hS.2.2⟩, h1.2.2.2⟩
  by_cases hkz : k = z.1
  · subst hkz
    rw [upW_s] at hk
    cases hk
    show H1[_]? = some (vp_cell _ _)
    rw [vp_cell_q]
    exact e1
  · rw [upW_n k hkz] at hk
    have := h1.1 k x hk
    exact this.kept (o1 _ this.lt)
theorem v_copyG (cx : Cx X cc ow) {lv mc ms idx od a0 n0 n1 : Nat} {f g : Nat → Int} {sp dp n : Int} {cs : Cell} (jsp jdp jn : Nat) (hR : RM X lv mc ms) (hlv : 1 ≤ lv) (w1 : Cond.methodLink ow idx arraycopyName ∈ TB) (w2 : Cond.native arraycopyName ∈ TB) (w3 : Cond.static arraycopyName ∈ TB) (w4 : Cond.initialized "java/lang/System" ∈ TB)
    (hcs : ∀ H locs L, Rd X E z ls H locs L → H[a0]? = some cs) (har : (fS X).isArrayOf cs .int) (hun : cs.vm ≠ .unknown) (hsz : n0 ≤ cs.slots.size) (hel : ∀ j, j < n0 → cs.slots[j]? = some (.int (iI (f j)))) (he1 : E od = some (AI (fG X) n1 g))
    (hj : sp = (jsp : Int) ∧ dp = (jdp : Int) ∧ n = (jn : Int) ∧ jsp + jn ≤ n0 ∧ jdp + jn ≤ n1 ∧ n0 < 2147483648 ∧ n1 < 2147483648) (hcat : (st.map fun v => v.category).sum ≤ 8) (hd : decode cc pc = .ok (.invokestatic idx, 3))
    (kk : ∀ E1 : Wd, E1 od = some (AI (fG X) n1 (cpyI f g jsp jdp jn)) → (∀ j, j ≠ od → E1 j = E j) → V X E1 z (pc + 3) ls st) : V X E z pc ls (.int (iI n) :: .int (iI dp) :: .ref (gb (fG X) + od) :: .int (iI sp) :: .ref a0 :: st) := by
  intro H locs L h1 T hT X0
  obtain ⟨rfl, rfl, rfl, hb1, hb2, hb3, hb4⟩ := hj
  have hts := cx.2.2.2.1
  have hc0 := hcs H locs L h1
  have hc1 : H[gb (fG X) + od]? = some (vp_cell (gK (fG X) 0) (n1, .inl (fun j => iI (g j)))) := h1.1 od _ he1
  obtain ⟨hob, k0, hk0, cm0, hkk0⟩ := har
  obtain ⟨-, k1, hk1, cm1, hkk1⟩ := (cx.2.2.2.2.1.1.2 0 _ rfl).1 n1 (fun j => .int (iI (g j)))
  have cl1 : (iI (jsp : Int)).toNatClampNeg = jsp := iI_clamp (by omega)
  have cl2 : (iI (jdp : Int)).toNatClampNeg = jdp := iI_clamp (by omega)
  have cl3 : (iI (jn : Int)).toNatClampNeg = jn := iI_clamp (by omega)
  have t1 : (iI (jsp : Int)).toInt = jsp := iI_toInt ⟨by omega, by omega⟩
  have t2 : (iI (jdp : Int)).toInt = jdp := iI_toInt ⟨by omega, by omega⟩
  have t3 : (iI (jn : Int)).toInt = jn := iI_toInt ⟨by omega, by omega⟩
  obtain ⟨vm', X', step⟩ := X0.arraycopy cx.1 cx.2.2.1 (hts _ w1) (hts _ w2) (hts _ w3) (hts _ w4) (src := a0) (dst := gb (fG X) + od) (cs := cs) (cd := vp_cell (gK (fG X) 0) (n1, .inl (fun j => iI (g j)))) (srcPos := iI (jsp : Int)) (destPos := iI (jdp : Int)) (n := iI (jn : Int)) (by rw [hT]; exact hc0) (by rw [hT]; exact hc1)
    hob (fun _ h => by cases h) hun (fun h => by cases h) hk0 hk1 hkk0 hkk1 (by simp [refKind]) (iI_nn (by omega)) (iI_nn (by omega)) (iI_nn (by omega))
    (by rw [t1, t3]; omega)
    (by rw [t2, t3]; show ¬ _ > ((arrV (gK (fG X) 0) n1 (fun j => .int (iI (g j)))).slots.size : Int); rw [arrV_size]; omega)
    (fun vm₁ _ i hi => by
      rw [cl3] at hi
      have e : cs.slots.getD ((iI (jsp : Int)).toNatClampNeg + i) .null = .int (iI (f (jsp + i))) := by
        rw [cl1, Array.getD_eq_getD_getElem?, hel _ (by omega)]
        rfl
      refine ⟨?_, ?_⟩
      · rw [e]
        rfl
      · rw [e]
        exact trivial)
    (g := F0 (fM X) pc L (.int (iI (jn : Int)) :: .int (iI (jdp : Int)) :: .ref (gb (fG X) + od) :: .int (iI (jsp : Int)) :: .ref a0 :: st)) rfl (h1.2.2.2.1.1.trans h1.2.2.2.2) (rest := st) rfl (by rw [cx.2.1]; exact hd) (Nat.le_trans hlv hR.1) (Nat.le_trans (by
      show 2 * 0 + _ + (7 + 11) ≤ 33 * lv
      omega) hR.2.1)
  have e1 : copied cs (vp_cell (gK (fG X) 0) (n1, .inl (fun j => iI (g j)))) (iI (jsp : Int)) (iI (jdp : Int)) (iI (jn : Int)) = vp_cell (gK (fG X) 0) (n1, .inl (fun j => iI (cpyI f g jsp jdp jn j))) := by
    show (arrV (gK (fG X) 0) n1 (fun j => .int (iI (g j)))).storeRun (iI (jdp : Int)).toNatClampNeg (cs.stretch (iI (jsp : Int)).toNatClampNeg (iI (jn : Int)).toNatClampNeg) = arrV (gK (fG X) 0) n1 (fun j => .int (iI (cpyI f g jsp jdp jn j)))
    rw [cl1, cl2, cl3]
    have e : cs.stretch jsp jn = (List.range jn).map (fun i => .int (iI (f (jsp + i)))) := by
      unfold Cell.stretch
      apply List.map_congr_left
      intro i hi
      have hi' := List.mem_range.mp hi
      rw [Array.getD_eq_getD_getElem?, hel _ (by omega)]
      rfl
    rw [e, Cell.storeRun, va_pairs]
    congr 1
    funext k
    simp only [cpyI, List.length_map, List.length_range, Nat.add_zero]
    by_cases h : jdp ≤ k ∧ k < jdp + jn
    · rw [if_pos h, if_pos h, List.getD_eq_getElem?_getD, List.getElem?_map, List.getElem?_range (by omega)]
      rfl
    · rw [if_neg h, if_neg h]
  rw [e1] at X' step
  generalize hnc : vp_cell (gK (fG X) 0) (n1, .inl (fun j => iI (cpyI f g jsp jdp jn j))) = nc at X' step
  have hl : gb (fG X) + od < H.size := (Array.getElem?_eq_some_iff.mp hc1).1
  have hheap : ((T.setVm vm').setCell (gb (fG X) + od) nc).heap = H.setIfInBounds (gb (fG X) + od) nc := by rw [← hT]; rfl
  have oq : ∀ q : Nat, q ≠ gb (fG X) + od → (H.setIfInBounds (gb (fG X) + od) nc)[q]? = H[q]? := fun q hq => by simp [Array.getElem?_setIfInBounds, Ne.symm hq]
  have hS := h1.2.2.1
  obtain ⟨t, a1, b1⟩ := kk _ upW_s upW_n _ _ L ⟨h1.1.upd (show (H.setIfInBounds (gb (fG X) + od) nc)[gb (fG X) + od]? = some _ by simp [Array.getElem?_setIfInBounds, hl, ← hnc]) oq, by simp; exact h1.2.1, ⟨by simp; exact hS.1, fun q g1 g2 => by
      rw [oq q (fun e => g2 (by rw [e]; exact gO_o))]
      exact hS.2.1 q g1 g2, fun q hq => by
      rcases List.mem_append.mp hq with h | h
      · exact hS.2.2 q h
      · obtain ⟨z, -, hz⟩ := List.mem_map.mp h
        rw [← hz]
        exact gO_o⟩, h1.2.2.2⟩ _ hheap X'
  exact ⟨t, step t a1, b1⟩
theorem v_copy (cx : Cx X cc ow) {lv mc ms idx od os n0 n1 : Nat} {f g : Nat → Int} {sp dp n : Int} (jsp jdp jn : Nat) (hR : RM X lv mc ms) (hlv : 1 ≤ lv) (w1 : Cond.methodLink ow idx arraycopyName ∈ TB) (w2 : Cond.native arraycopyName ∈ TB) (w3 : Cond.static arraycopyName ∈ TB) (w4 : Cond.initialized "java/lang/System" ∈ TB)
    (he0 : E os = some (AI (fG X) n0 f)) (he1 : E od = some (AI (fG X) n1 g))
    (hj : sp = (jsp : Int) ∧ dp = (jdp : Int) ∧ n = (jn : Int) ∧ jsp + jn ≤ n0 ∧ jdp + jn ≤ n1 ∧ n0 < 2147483648 ∧ n1 < 2147483648) (hcat : (st.map fun v => v.category).sum ≤ 8) (hd : decode cc pc = .ok (.invokestatic idx, 3))
    (kk : ∀ E1 : Wd, E1 od = some (AI (fG X) n1 (cpyI f g jsp jdp jn)) → (∀ j, j ≠ od → E1 j = E j) → V X E1 z (pc + 3) ls st) : V X E z pc ls (.int (iI n) :: .int (iI dp) :: .ref (gb (fG X) + od) :: .int (iI sp) :: .ref (gb (fG X) + os) :: st) :=
  v_copyG cx (cs := vp_cell (gK (fG X) 0) (n0, .inl (fun j => iI (f j)))) jsp jdp jn hR hlv w1 w2 w3 w4 (fun H locs L h1 => h1.1 os _ he0) ((cx.2.2.2.2.1.1.2 0 _ rfl).1 n0 (fun j => .int (iI (f j)))) (fun h => by cases h) (by show n0 ≤ (arrV _ _ _).slots.size; rw [arrV_size]; exact Nat.le_refl _) (fun j hj => by show (arrV _ _ _).slots[_]? = _; rw [arrV_read _ _ hj]) he1 hj hcat hd kk
theorem v_copyT (cx : Cx X cc ow) {lv mc ms idx od i n1 : Nat} {g : Nat → Int} {sp dp n : Int} (jsp jdp jn : Nat) (hR : RM X lv mc ms) (hlv : 1 ≤ lv) (w1 : Cond.methodLink ow idx arraycopyName ∈ TB) (w2 : Cond.native arraycopyName ∈ TB) (w3 : Cond.static arraycopyName ∈ TB) (w4 : Cond.initialized "java/lang/System" ∈ TB)
    (hi : i < 3) (he1 : E od = some (AI (fG X) n1 g))
    (hj : sp = (jsp : Int) ∧ dp = (jdp : Int) ∧ n = (jn : Int) ∧ jsp + jn ≤ 8 ∧ jdp + jn ≤ n1 ∧ n1 < 2147483648) (hcat : (st.map fun v => v.category).sum ≤ 8) (hd : decode cc pc = .ok (.invokestatic idx, 3))
    (kk : ∀ E1 : Wd, E1 od = some (AI (fG X) n1 (cpyI (tbV i) g jsp jdp jn)) → (∀ j, j ≠ od → E1 j = E j) → V X E1 z (pc + 3) ls st) : V X E z pc ls (.int (iI n) :: .int (iI dp) :: .ref (gb (fG X) + od) :: .int (iI sp) :: .ref (gT (fG X) i) :: st) := by
  obtain ⟨cell, c1, c2, c3, c4, c5, c6, c7⟩ := (cx.2.2.2.2.1.2.1 i hi).2
  exact v_copyG cx (cs := cell) (n0 := 8) jsp jdp jn hR hlv w1 w2 w3 w4 (fun H locs L h1 => by rw [h1.2.2.1.2.1 _ (Array.getElem?_eq_some_iff.mp c1).1 c7]; exact c1) c2 c3 c4 c6 he1 ⟨hj.1, hj.2.1, hj.2.2.1, hj.2.2.2.1, hj.2.2.2.2.1, by omega, hj.2.2.2.2.2⟩ hcat hd kk
end Alloc
