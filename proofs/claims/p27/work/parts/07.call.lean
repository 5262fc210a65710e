/-! contracts, entry, return, calls, over the judgement V -/
def rmk (lv mc ms : Nat) : Room := { frames := lv, cells := mc, slots := ms, locals := 33 * lv }
def PreC (G : Gc) (as : List Value) (E : Wd) (n : Nat) : Array Value → State → Prop := fun a U => a = as.toArray ∧ wdH G E U.heap ∧ U.heap.size = gb G + n ∧ KZ G U U.heap
def QI (G : Gc) (P : Int → Wd → Prop) (n : Nat) : Array Value → State → Outcome → State → Prop := fun _ st o t => (∃ (r : Int) (E' : Wd), o = .returned (some (.int (iI r))) ∧ P r E' ∧ wdH G E' t.heap ∧ t.heap.size = gb G + n) ∧ va_F (gO G) st t
def QV (G : Gc) (P : Wd → Prop) (n : Nat) : Array Value → State → Outcome → State → Prop := fun _ st o t => (∃ (E' : Wd), o = .returned none ∧ P E' ∧ wdH G E' t.heap ∧ t.heap.size = gb G + n) ∧ va_F (gO G) st t
/-- a method's contract: it answers an int -/
def CI (l : Launch) (G : Gc) (lv : Nat) (y : MethodName) (cc : ByteArray) (nL : Nat) (ty : FieldType) (as : List Value) (E : Wd) (n mc ms : Nat) (P : Int → Wd → Prop) : Prop :=
  Met l y (Cond.code y cc nL (some ty) :: TB) (rmk lv mc ms) (PreC G as E n) (QI G P (n + mc)) mc ms (gO G)
/-- a method's contract: it answers nothing -/
def CV (l : Launch) (G : Gc) (lv : Nat) (y : MethodName) (cc : ByteArray) (nL : Nat) (as : List Value) (E : Wd) (n mc ms : Nat) (P : Wd → Prop) : Prop :=
  Met l y (Cond.code y cc nL none :: TB) (rmk lv mc ms) (PreC G as E n) (QV G P (n + mc)) mc ms (gO G)
theorem PreC.blind {G : Gc} {as : List Value} {E : Wd} {n : Nat} : FrameBlind (PreC G as E n) := fun a U g mk h => ⟨h.1, h.2.1, h.2.2.1, h.2.2.2.calling⟩
/-! the entry -/
def lsO (as : List Value) (nL : Nat) : List (Option Value) := as.map some ++ List.replicate (nL - as.length) none
theorem lv_args_mem : ∀ (as : List Value) (k i : Nat) (v : Value), (∀ w ∈ as, w.category = 1) → as[i]? = some v → (k + i, v) ∈ lv_args k as := by
  intro as
  induction as with
  | nil => intro k i v _ h; simp at h
  | cons a l ih =>
    intro k i v hc h
    cases i with
    | zero =>
      simp at h
      subst h
      simp [lv_args]
    | succ j =>
      have := ih (k + 1) j v (fun w hw => hc w (List.mem_cons_of_mem _ hw)) (by simpa using h)
      have ha := hc a List.mem_cons_self
      simp only [lv_args]
      rw [ha]
      rw [show k + (j + 1) = k + 1 + j by omega]
      exact List.mem_cons_of_mem _ this
theorem lsH_entry {as : List Value} {nL : Nat} (hc : ∀ w ∈ as, w.category = 1) (hn : as.length ≤ nL) {L : Array Slot} (h : lv_has L nL (lv_args 0 as)) : lsH L (lsO as nL) := by
  have hlen : (lsO as nL).length = nL := by simp [lsO]; omega
  refine ⟨by rw [hlen]; exact h.1, h.2.1, fun q hq => h.2.2 q ?_⟩
  rw [al_mem] at hq
  unfold lsO at hq
  by_cases hl : q.1 < as.length
  · rw [List.getElem?_append_left (by simpa using hl), List.getElem?_map] at hq
    rw [Option.map_eq_some_iff] at hq
    obtain ⟨v, hv, he⟩ := hq
    cases he
    have := lv_args_mem as 0 q.1 q.2 hc hv
    simpa using this
  · rw [List.getElem?_append_right (by simpa using hl)] at hq
    rw [List.getElem?_replicate] at hq
    split at hq <;> cases hq
theorem lg_sl_len : ∀ (as : List Value), (∀ w ∈ as, w.category = 1) → (lg_sl as).length = as.length := by
  intro as
  induction as with
  | nil => intro _; rfl
  | cons a l ih =>
    intro hc
    have ha := hc a List.mem_cons_self
    have := ih (fun w hw => hc w (List.mem_cons_of_mem _ hw))
    simp [lg_sl, ha] at this ⊢
    omega
def RM (X : Fx) (lv mc ms : Nat) : Prop := lv ≤ (fR X).frames ∧ 33 * lv ≤ (fR X).locals ∧ mc ≤ (fR X).cells ∧ ms ≤ (fR X).slots
def RI (X : Fx) (P : Int → Wd → Prop) (n mc ms : Nat) (ty : FieldType) : Prop := fQ X = MQ (fB X) (QI (fG X) P n) (fA X) (fS X) mc ms (gO (fG X)) ∧ (fMe X).sig.returnType = some ty ∧ (fMe X).locks = false
def RV (X : Fx) (P : Wd → Prop) (n mc ms : Nat) : Prop := fQ X = MQ (fB X) (QV (fG X) P n) (fA X) (fS X) mc ms (gO (fG X)) ∧ (fMe X).sig.returnType = none ∧ (fMe X).locks = false
theorem CI.mk {l : Launch} {G : Gc} {lv : Nat} {y : MethodName} {cc : ByteArray} {nL : Nat} {ty : FieldType} {as : List Value} {E : Wd} {n mc ms : Nat} {P : Int → Wd → Prop} (hy : plainFor y = true) (hc : as.all (fun w => w.category == 1) = true) (hn : as.length ≤ nL)
    (body : ∀ X : Fx, fG X = G → fL X = l → Cx X cc y.cls → RM X lv mc ms → RI X P (n + mc) mc ms ty → V X E (n, 0, 0) 0 (lsO as nL) []) : CI l G lv y cc nL ty as E n mc ms P := by
  have hc : ∀ w ∈ as, w.category = 1 := fun w hw => by simpa using List.all_eq_true.mp hc w hw
  refine va_MetF (cc := cc) (maxL := nL) (ret := some ty) hy rfl ?_
  intro p e s m args below meth c s₁ B hml hv
  obtain ⟨rfl, hw, hsz, hkz⟩ := hv
  have hts := atoms_spec (ws := Cond.code y cc nL (some ty) :: TB) B.pre
  have hl := lv_entry as (n := nL) (by rw [lg_sl_len as hc]; exact hn)
  rw [lg_entry_eq]
  have hb := body (p, l, e, rmk lv mc ms, s, m, as.toArray, below, meth, c, G, MQ below (QI G P (n + mc)) as.toArray s mc ms (gO G)) rfl rfl ⟨B.exec, B.bytes, findClass_of_methodNamed B.named, fun w hw => hts w (List.mem_cons_of_mem _ hw), hkz, by rw [hsz]; exact Nat.le_add_right _ _⟩ ⟨Nat.le_refl _, Nat.le_refl _, Nat.le_refl _, Nat.le_refl _⟩ ⟨rfl, B.returns, B.notSynchronized⟩
  exact hb s.heap [] _ ⟨hw, hsz, va_S.rf, lsH_entry hc hn hl, by rw [hml]; simp [lsO]; omega⟩
theorem CV.mk {l : Launch} {G : Gc} {lv : Nat} {y : MethodName} {cc : ByteArray} {nL : Nat} {as : List Value} {E : Wd} {n mc ms : Nat} {P : Wd → Prop} (hy : plainFor y = true) (hc : as.all (fun w => w.category == 1) = true) (hn : as.length ≤ nL)
    (body : ∀ X : Fx, fG X = G → fL X = l → Cx X cc y.cls → RM X lv mc ms → RV X P (n + mc) mc ms → (y.name = "<init>" → (fMe X).name = "<init>") → V X E (n, 0, 0) 0 (lsO as nL) []) : CV l G lv y cc nL as E n mc ms P := by
  have hc : ∀ w ∈ as, w.category = 1 := fun w hw => by simpa using List.all_eq_true.mp hc w hw
  refine va_MetF (cc := cc) (maxL := nL) (ret := none) hy rfl ?_
  intro p e s m args below meth c s₁ B hml hv
  obtain ⟨rfl, hw, hsz, hkz⟩ := hv
  have hts := atoms_spec (ws := Cond.code y cc nL none :: TB) B.pre
  have hl := lv_entry as (n := nL) (by rw [lg_sl_len as hc]; exact hn)
  rw [lg_entry_eq]
  have hb := body (p, l, e, rmk lv mc ms, s, m, as.toArray, below, meth, c, G, MQ below (QV G P (n + mc)) as.toArray s mc ms (gO G)) rfl rfl ⟨B.exec, B.bytes, findClass_of_methodNamed B.named, fun w hw => hts w (List.mem_cons_of_mem _ hw), hkz, by rw [hsz]; exact Nat.le_add_right _ _⟩ ⟨Nat.le_refl _, Nat.le_refl _, Nat.le_refl _, Nat.le_refl _⟩ ⟨rfl, B.returns, B.notSynchronized⟩ (fun h => by rw [← h]; exact (name_of_methodNamed B.named B.method).1)
  exact hb s.heap [] _ ⟨hw, hsz, va_S.rf, lsH_entry hc hn hl, by rw [hml]; simp [lsO]; omega⟩
section Call
variable {X : Fx} {E : Wd} {z : Nat × Nat × Nat} {pc : Nat} {ls ls' : List (Option Value)} {st stk : List Value} {cc : ByteArray} {ow : String}
theorem v_ireturn (cx : Cx X cc ow) {P : Int → Wd → Prop} {n mc ms : Nat} {ty : FieldType} (hI : RI X P n mc ms ty) {r : Int} (hty : narrow ty (.int (iI r)) = .int (iI r)) (hP : P r E) (hd : decode cc pc = .ok (.ireturn, 1)) : V X E (n, mc, ms) pc ls [.int (iI r)] := by
  intro H locs L h1
  obtain ⟨q1, q2, q3⟩ := hI
  show W _ _ _ _ _ _ _ _ _ _ _ _ _ _ (fQ X) _
  rw [q1]
  exact W.zret (ty := ty) cx.1 cx.2.1 q2 hty (fun t ht hW => ⟨⟨r, E, rfl, hP, by rw [ht]; exact h1.1, by rw [ht]; exact h1.2.1⟩, h1.2.2.1.F ht⟩) h1.2.2.1.2.2 hd q3
theorem v_return (cx : Cx X cc ow) {P : Wd → Prop} {n mc ms : Nat} (hI : RV X P n mc ms) (hP : P E) (hd : decode cc pc = .ok (.return_, 1)) : V X E (n, mc, ms) pc ls [] := by
  intro H locs L h1
  obtain ⟨q1, q2, q3⟩ := hI
  show W _ _ _ _ _ _ _ _ _ _ _ _ _ _ (fQ X) _
  rw [q1]
  exact W.vret cx.1 cx.2.1 q2 (fun t ht hW => ⟨⟨E, rfl, hP, by rw [ht]; exact h1.1, by rw [ht]; exact h1.2.1⟩, h1.2.2.1.F ht⟩) h1.2.2.1.2.2 hd q3
/-- what the tables say of a call of an instance method -/
def MLB (ow : String) (idx : Nat) (y : MethodName) (cy : ByteArray) (nLy : Nat) (ret : Option FieldType) (na : Nat) : Prop :=
  Cond.initialized y.cls ∈ TB ∧ Cond.code y cy nLy ret ∈ TB ∧ (y.cls ≠ "java/lang/invoke/MethodHandle" ∧ y.cls ≠ "java/lang/invoke/VarHandle" ∧ (parseMethodDescriptor y.desc).map (fun d => d.parameters.length) = some na) ∧ nLy ≤ 14 ∧ (Cond.methodLink ow idx y ∈ TB ∨ ∃ host, Cond.methodLinkNest ow idx y host ∈ TN)
def MLV (ow : String) (idx : Nat) (y : MethodName) (cy : ByteArray) (nLy : Nat) (ret : Option FieldType) (na : Nat) : Prop :=
  MLB ow idx y cy nLy ret na ∧ Cond.methodLink ow idx y ∈ TB ∧ Cond.instanceMethod y ∈ TB ∧ Cond.selects y.cls y y ∈ TB
def MLS (ow : String) (idx : Nat) (y : MethodName) (cy : ByteArray) (nLy : Nat) (ret : Option FieldType) (na : Nat) : Prop :=
  MLB ow idx y cy nLy ret na ∧ Cond.static y ∈ TB
def MLI (ow : String) (idx : Nat) (y : MethodName) (cy : ByteArray) (nLy : Nat) (na : Nat) : Prop :=
  MLB ow idx y cy nLy none na ∧ y.name = "<init>" ∧ Cond.instanceMethod y ∈ TB
theorem code_good {y : MethodName} {cy : ByteArray} {nLy : Nat} {ret : Option FieldType} (h : Cond.code y cy nLy ret ∈ TB) : GoodIn TB (Cond.code y cy nLy ret :: TB) := fun w hw => by
  rcases List.mem_cons.mp hw with rfl | hw
  · exact TB_good _ h
  · exact TB_good w hw
theorem rm_fit {lv lv' mc ms mc' ms' nL : Nat} (hR : RM X lv mc ms) (h1 : lv' + 1 ≤ lv) (h2 : nL ≤ 14) : (rmk lv' mc' ms').frames + 1 ≤ (fR X).frames ∧ 8 + (nL + 11) + (rmk lv' mc' ms').locals ≤ (fR X).locals := by
  refine ⟨Nat.le_trans h1 hR.1, Nat.le_trans ?_ hR.2.1⟩
  show 8 + (nL + 11) + 33 * lv' ≤ 33 * lv
  omega
theorem rm_room {lv mc ms mc' ms' : Nat} (hR : RM X lv mc ms) (h : z.2.1 + mc' ≤ mc ∧ z.2.2 + ms' ≤ ms) : z.2.1 + mc' ≤ (fR X).cells ∧ z.2.2 + ms' ≤ (fR X).slots := ⟨Nat.le_trans h.1 hR.2.2.1, Nat.le_trans h.2 hR.2.2.2⟩
theorem pre_at (cx : Cx X cc ow) {H : Heap} {locs : List Loc} {L : Array Slot} (h1 : Rd X E z ls H locs L) (as : List Value) : ∀ U : State, U.heap = H → (fS X).WarmedH U.vm → PreC (fG X) as E z.1 as.toArray U := fun U hU hW => ⟨rfl, by rw [hU]; exact h1.1, by rw [hU]; exact h1.2.1, cx.2.2.2.2.1.move hW (fun a ha hn => by rw [hU]; exact h1.2.2.1.2.1 a ha hn)⟩
theorem S_call {G : Gc} {H0 H H' : Heap} {locs Lx : List Loc} (h : va_S (gO G) H0 H locs) (hz : H.size ≤ H'.size) (hk : ∀ q : Nat, q < H.size → ¬ gO G q → H'[q]? = H[q]?) (hL : ∀ q ∈ Lx, gO G q.base) : va_S (gO G) H0 H' (locs ++ Lx) :=
  ⟨Nat.le_trans h.1 hz, fun q h1 h2 => (hk q (Nat.lt_of_lt_of_le h1 h.1) h2).trans (h.2.1 q h1 h2), fun q hq => (List.mem_append.mp hq).elim (h.2.2 q) (hL q)⟩
/-- behind a run that answers an int -/
theorem after_I {as : List Value} {P : Int → Wd → Prop} {mc ms : Nat} {H : Heap} {locs : List Loc} {L : Array Slot} (h1 : Rd X E z ls H locs L)
    (hr : va_Run (fP X) (fL X) (fE X) (fR X) (fS X) (fM X) (fA X) (fB X) (fMe X) (fC X) H locs z.2.1 z.2.2 mc ms (F0 (fM X) pc L stk) st (QI (fG X) P (z.1 + mc) as.toArray) (gO (fG X)))
    (kk : ∀ (r : Int) (E' : Wd), P r E' → V X E' (z.1 + mc, z.2.1 + mc, z.2.2 + ms) (pc + 3) ls (.int (iI r) :: st)) : WX X H locs z pc L stk := by
  intro T hT X0
  obtain ⟨v, st₀, t, T', Lx, h0, X', hL, e1, e2, ⟨⟨r, E', hv, hp, hw, hsz⟩, hz, hk⟩, stp⟩ := hr T hT X0
  cases hv
  rw [h0] at hz hk
  obtain ⟨t2, a1, b1⟩ := kk r E' hp T'.heap (locs ++ Lx) L ⟨by rw [e1]; exact hw, by rw [e1]; exact hsz, S_call h1.2.2.1 (by rw [e1]; exact hz) (fun q g1 g2 => by rw [e1]; exact hk q g1 g2) hL, h1.2.2.2⟩ T' rfl X'
  exact ⟨t2, stp t2 a1, b1⟩
theorem after_V {as : List Value} {P : Wd → Prop} {mc ms : Nat} {H : Heap} {locs : List Loc} {L : Array Slot} (h1 : Rd X E z ls H locs L)
    (hr : va_Run (fP X) (fL X) (fE X) (fR X) (fS X) (fM X) (fA X) (fB X) (fMe X) (fC X) H locs z.2.1 z.2.2 mc ms (F0 (fM X) pc L stk) st (QV (fG X) P (z.1 + mc) as.toArray) (gO (fG X)))
    (kk : ∀ (E' : Wd), P E' → V X E' (z.1 + mc, z.2.1 + mc, z.2.2 + ms) (pc + 3) ls st) : WX X H locs z pc L stk := by
  intro T hT X0
  obtain ⟨v, st₀, t, T', Lx, h0, X', hL, e1, e2, ⟨⟨E', hv, hp, hw, hsz⟩, hz, hk⟩, stp⟩ := hr T hT X0
  cases hv
  rw [h0] at hz hk
  obtain ⟨t2, a1, b1⟩ := kk E' hp T'.heap (locs ++ Lx) L ⟨by rw [e1]; exact hw, by rw [e1]; exact hsz, S_call h1.2.2.1 (by rw [e1]; exact hz) (fun q g1 g2 => by rw [e1]; exact hk q g1 g2) hL, h1.2.2.2⟩ T' rfl X'
  exact ⟨t2, stp t2 a1, b1⟩
theorem fix_of (cx : Cx X cc ow) (hl : ls.length = (fC X).maxLocals) : CallFix (fP X) (fM X) (fC X) cc ls.length (fS X) (fA X) TB ow := ⟨cx.1, cx.2.1, hl.symm, cx.2.2.1, cx.2.2.2.1⟩
theorem v_runV (cx : Cx X cc ow) {lv mc ms lv' mc' ms' nLy idx n o ci : Nat} {y : MethodName} {cy : ByteArray} {ret : Option FieldType} {as : List Value} {Qc : Array Value → State → Outcome → State → Prop} {fs : List Value} {qc : vw_C} (hR : RM X lv mc ms) {H : Heap} {locs : List Loc} {L : Array Slot} (h1 : Rd X E z ls H locs L)
    (hM : Met (fL X) y (Cond.code y cy nLy ret :: TB) (rmk lv' mc' ms') (PreC (fG X) (.ref (gb (fG X) + o) :: as) E z.1) Qc mc' ms' (gO (fG X))) (hl : MLV ow idx y cy nLy ret n) (hn : as.length = n) (hlv : lv' + 1 ≤ lv) (he : E o = some (.inr (ci, fs))) (hq : vwCl[ci]? = some qc) (hqc : qc.1 = y.cls)
    (hstk : stk = as.reverse ++ .ref (gb (fG X) + o) :: st) (hcat : (st.map fun v => v.category).sum ≤ 8) (hroom : z.2.1 + mc' ≤ mc ∧ z.2.2 + ms' ≤ ms) (hd : decode cc pc = .ok (.invokevirtual idx, 3)) :
    va_Run (fP X) (fL X) (fE X) (fR X) (fS X) (fM X) (fA X) (fB X) (fMe X) (fC X) H locs z.2.1 z.2.2 mc' ms' (F0 (fM X) pc L stk) st (Qc (Value.ref (gb (fG X) + o) :: as).toArray) (gO (fG X)) := by
  obtain ⟨⟨b1, b2, b3, b4, -⟩, b5, b6, b7⟩ := hl
  have ht := cx.2.2.2.1
  subst hstk
  replace hroom := rm_room hR hroom
  have hp := h1.1 o _ he
  refine va_runV (C := y.cls) (Ts := TB) (n := n) (fix_of cx h1.2.2.2.2) hM ⟨callB_of n ht (code_good b2) rfl rfl rfl (ht _ b1) (ht _ b5) b3 (rm_fit hR hlv b4), ht _ b6, ht _ b7⟩ ⟨PreC.blind, ?_, pre_at cx h1 _⟩ rfl hn h1.2.2.2.1.1 rfl (lv_room hcat) hd hroom
  have := va_recv cx.2.2.2.2.1.1 (h1.1.one he) hq (q0 := 0) rfl
  rw [hqc] at this
  exact this
theorem va_nwTN (cx : Cx X cc ow) {w : Cond} (h : w ∈ TN) : va_Nw w (fS X) := cx.2.2.2.2.1.2.2.1 w h
theorem v_runS (cx : Cx X cc ow) {lv mc ms lv' mc' ms' nLy idx n : Nat} {y : MethodName} {cy : ByteArray} {ret : Option FieldType} {as : List Value} {Qc : Array Value → State → Outcome → State → Prop} (hR : RM X lv mc ms) {H : Heap} {locs : List Loc} {L : Array Slot} (h1 : Rd X E z ls H locs L)
    (hM : Met (fL X) y (Cond.code y cy nLy ret :: TB) (rmk lv' mc' ms') (PreC (fG X) as E z.1) Qc mc' ms' (gO (fG X))) (hl : MLS ow idx y cy nLy ret n) (hn : as.length = n) (hlv : lv' + 1 ≤ lv)
    (hstk : stk = as.reverse ++ st) (hcat : (st.map fun v => v.category).sum ≤ 8) (hroom : z.2.1 + mc' ≤ mc ∧ z.2.2 + ms' ≤ ms) (hd : decode cc pc = .ok (.invokestatic idx, 3)) :
    va_Run (fP X) (fL X) (fE X) (fR X) (fS X) (fM X) (fA X) (fB X) (fMe X) (fC X) H locs z.2.1 z.2.2 mc' ms' (F0 (fM X) pc L stk) st (Qc as.toArray) (gO (fG X)) := by
  obtain ⟨⟨b1, b2, b3, b4, b5⟩, b6⟩ := hl
  have ht := cx.2.2.2.1
  subst hstk
  replace hroom := rm_room hR hroom
  rcases b5 with b5 | ⟨host, b5⟩
  · exact va_runS (Ts := TB) (n := n) (fix_of cx h1.2.2.2.2) hM ⟨callB_of n ht (code_good b2) rfl rfl rfl (ht _ b1) (ht _ b5) b3 (rm_fit hR hlv b4), ht _ b6⟩ ⟨PreC.blind, pre_at cx h1 _⟩ rfl hn h1.2.2.2.1.1 rfl (lv_room hcat) hd hroom
  · exact va_runSN (Ts := TB) (n := n) (fix_of cx h1.2.2.2.2) hM ⟨va_cnB n ht (code_good b2) rfl rfl rfl (va_nwTN cx b5) (ht _ b1) b3 (rm_fit hR hlv b4), ht _ b6, trivial⟩ ⟨PreC.blind, pre_at cx h1 _⟩ rfl hn h1.2.2.2.1.1 rfl (lv_room hcat) hd hroom
theorem v_runI (cx : Cx X cc ow) {lv mc ms lv' mc' ms' nLy idx n a : Nat} {y : MethodName} {cy : ByteArray} {as : List Value} {Qc : Array Value → State → Outcome → State → Prop} (hR : RM X lv mc ms) {H : Heap} {locs : List Loc} {L : Array Slot} (h1 : Rd X E z ls H locs L)
    (hM : Met (fL X) y (Cond.code y cy nLy none :: TB) (rmk lv' mc' ms') (PreC (fG X) (.ref a :: as) E z.1) Qc mc' ms' (gO (fG X))) (hl : MLI ow idx y cy nLy n) (hn : as.length = n) (hlv : lv' + 1 ≤ lv)
    (hstk : stk = as.reverse ++ .ref a :: st) (hcat : (st.map fun v => v.category).sum ≤ 8) (hroom : z.2.1 + mc' ≤ mc ∧ z.2.2 + ms' ≤ ms) (hd : decode cc pc = .ok (.invokespecial idx, 3)) :
    va_Run (fP X) (fL X) (fE X) (fR X) (fS X) (fM X) (fA X) (fB X) (fMe X) (fC X) H locs z.2.1 z.2.2 mc' ms' (F0 (fM X) pc L stk) st (Qc (Value.ref a :: as).toArray) (gO (fG X)) := by
  obtain ⟨⟨b1, b2, b3, b4, b5⟩, b6, b7⟩ := hl
  have ht := cx.2.2.2.1
  subst hstk
  replace hroom := rm_room hR hroom
  rcases b5 with b5 | ⟨host, b5⟩
  · exact va_runI (Ts := TB) (n := n) (fix_of cx h1.2.2.2.2) hM ⟨callB_of n ht (code_good b2) rfl rfl rfl (ht _ b1) (ht _ b5) b3 (rm_fit hR hlv b4), b6, ht _ b7⟩ ⟨PreC.blind, pre_at cx h1 _⟩ rfl hn h1.2.2.2.1.1 rfl (lv_room hcat) hd hroom
  · exact va_runIN (Ts := TB) (n := n) (fix_of cx h1.2.2.2.2) hM ⟨va_cnB n ht (code_good b2) rfl rfl rfl (va_nwTN cx b5) (ht _ b1) b3 (rm_fit hR hlv b4), b6, ht _ b7⟩ ⟨PreC.blind, pre_at cx h1 _⟩ rfl hn h1.2.2.2.1.1 rfl (lv_room hcat) hd hroom
theorem v_callVI (cx : Cx X cc ow) {lv mc ms lv' nLy idx o ci : Nat} {y : MethodName} {cy : ByteArray} {ty : FieldType} {as : List Value} {P : Int → Wd → Prop} {fs : List Value} {qc : vw_C} (hR : RM X lv mc ms) (hM : CI (fL X) (fG X) lv' y cy nLy ty (.ref (gb (fG X) + o) :: as) E z.1 0 0 P) (hl : MLV ow idx y cy nLy (some ty) as.length) (hlv : lv' + 1 ≤ lv) (he : E o = some (.inr (ci, fs))) (hq : vwCl[ci]? = some qc) (hqc : qc.1 = y.cls)
    (hstk : stk = as.reverse ++ .ref (gb (fG X) + o) :: st) (hcat : (st.map fun v => v.category).sum ≤ 8) (hroom : z.2.1 ≤ mc ∧ z.2.2 ≤ ms) (hd : decode cc pc = .ok (.invokevirtual idx, 3)) (kk : ∀ (r : Int) (E' : Wd), P r E' → V X E' z (pc + 3) ls (.int (iI r) :: st)) : V X E z pc ls stk :=
  fun H locs L h1 => after_I h1 (v_runV cx hR h1 hM hl rfl hlv he hq hqc hstk hcat hroom hd) kk
theorem v_callVV (cx : Cx X cc ow) {lv mc ms lv' nLy idx o ci : Nat} {y : MethodName} {cy : ByteArray} {as : List Value} {P : Wd → Prop} {fs : List Value} {qc : vw_C} (hR : RM X lv mc ms) (hM : CV (fL X) (fG X) lv' y cy nLy (.ref (gb (fG X) + o) :: as) E z.1 0 0 P) (hl : MLV ow idx y cy nLy none as.length) (hlv : lv' + 1 ≤ lv) (he : E o = some (.inr (ci, fs))) (hq : vwCl[ci]? = some qc) (hqc : qc.1 = y.cls)
    (hstk : stk = as.reverse ++ .ref (gb (fG X) + o) :: st) (hcat : (st.map fun v => v.category).sum ≤ 8) (hroom : z.2.1 ≤ mc ∧ z.2.2 ≤ ms) (hd : decode cc pc = .ok (.invokevirtual idx, 3)) (kk : ∀ (E' : Wd), P E' → V X E' z (pc + 3) ls st) : V X E z pc ls stk :=
  fun H locs L h1 => after_V h1 (v_runV cx hR h1 hM hl rfl hlv he hq hqc hstk hcat hroom hd) kk
theorem v_callSI (cx : Cx X cc ow) {lv mc ms lv' nLy idx : Nat} {y : MethodName} {cy : ByteArray} {ty : FieldType} {as : List Value} {P : Int → Wd → Prop} (hR : RM X lv mc ms) (hM : CI (fL X) (fG X) lv' y cy nLy ty as E z.1 0 0 P) (hl : MLS ow idx y cy nLy (some ty) as.length) (hlv : lv' + 1 ≤ lv)
    (hstk : stk = as.reverse ++ st) (hcat : (st.map fun v => v.category).sum ≤ 8) (hroom : z.2.1 ≤ mc ∧ z.2.2 ≤ ms) (hd : decode cc pc = .ok (.invokestatic idx, 3)) (kk : ∀ (r : Int) (E' : Wd), P r E' → V X E' z (pc + 3) ls (.int (iI r) :: st)) : V X E z pc ls stk :=
  fun H locs L h1 => after_I h1 (v_runS cx hR h1 hM hl rfl hlv hstk hcat hroom hd) kk
theorem v_callSV (cx : Cx X cc ow) {lv mc ms lv' nLy idx : Nat} {y : MethodName} {cy : ByteArray} {as : List Value} {P : Wd → Prop} (hR : RM X lv mc ms) (hM : CV (fL X) (fG X) lv' y cy nLy as E z.1 0 0 P) (hl : MLS ow idx y cy nLy none as.length) (hlv : lv' + 1 ≤ lv)
    (hstk : stk = as.reverse ++ st) (hcat : (st.map fun v => v.category).sum ≤ 8) (hroom : z.2.1 ≤ mc ∧ z.2.2 ≤ ms) (hd : decode cc pc = .ok (.invokestatic idx, 3)) (kk : ∀ (E' : Wd), P E' → V X E' z (pc + 3) ls st) : V X E z pc ls stk :=
  fun H locs L h1 => after_V h1 (v_runS cx hR h1 hM hl rfl hlv hstk hcat hroom hd) kk
theorem v_callK (cx : Cx X cc ow) {lv mc ms lv' mc' ms' nLy idx a : Nat} {y : MethodName} {cy : ByteArray} {as : List Value} {P : Wd → Prop} (hR : RM X lv mc ms) (hM : CV (fL X) (fG X) lv' y cy nLy (.ref a :: as) E z.1 mc' ms' P) (hl : MLI ow idx y cy nLy as.length) (hlv : lv' + 1 ≤ lv)
    (hstk : stk = as.reverse ++ .ref a :: st) (hcat : (st.map fun v => v.category).sum ≤ 8) (hroom : z.2.1 + mc' ≤ mc ∧ z.2.2 + ms' ≤ ms) (hd : decode cc pc = .ok (.invokespecial idx, 3)) (kk : ∀ (E' : Wd), P E' → V X E' (z.1 + mc', z.2.1 + mc', z.2.2 + ms') (pc + 3) ls st) : V X E z pc ls stk :=
  fun H locs L h1 => after_V h1 (v_runI cx hR h1 hM hl rfl hlv hstk hcat hroom hd) kk
end Call
