/-! numbers: every int of the machine is iI of a whole number -/
def iI (z : Int) : Int32 := Int32.ofInt z
theorem iI_add (a b : Int) : iI a + iI b = iI (a + b) := (Int32.ofInt_add a b).symm
theorem iI_sub (a b : Int) : iI a - iI b = iI (a - b) := (Int32.ofInt_sub a b).symm
theorem iI_mul (a b : Int) : iI a * iI b = iI (a * b) := (Int32.ofInt_mul a b).symm
theorem iI_of (x : Int32) : x = iI x.toInt := (Int32.ofInt_toInt x).symm
theorem iI_rg (x : Int32) : -2147483648 ≤ x.toInt ∧ x.toInt < 2147483648 := ⟨by have := Int32.le_toInt x; simpa using this, by have := Int32.toInt_lt x; simpa using this⟩
theorem iI_toInt {a : Int} (h : -2147483648 ≤ a ∧ a < 2147483648) : (iI a).toInt = a := Int32.toInt_ofInt_of_le (by simpa using h.1) (by simpa using h.2)
theorem iI_lt {a b : Int} (ha : -2147483648 ≤ a ∧ a < 2147483648) (hb : -2147483648 ≤ b ∧ b < 2147483648) : iI a < iI b ↔ a < b := by
  rw [Int32.lt_iff_toInt_lt, iI_toInt ha, iI_toInt hb]
theorem iI_le {a b : Int} (ha : -2147483648 ≤ a ∧ a < 2147483648) (hb : -2147483648 ≤ b ∧ b < 2147483648) : iI a ≤ iI b ↔ a ≤ b := by
  rw [Int32.le_iff_toInt_le, iI_toInt ha, iI_toInt hb]
theorem iI_eq {a b : Int} (ha : -2147483648 ≤ a ∧ a < 2147483648) (hb : -2147483648 ≤ b ∧ b < 2147483648) : iI a = iI b ↔ a = b := by
  rw [← Int32.toInt_inj, iI_toInt ha, iI_toInt hb]
theorem iI_0 : (0 : Int32) = iI 0 := rfl
theorem iI_clamp {j : Nat} (h : (j : Int) < 2147483648) : (iI (j : Int)).toNatClampNeg = j := by
  show (iI (j : Int)).toInt.toNat = j
  rw [iI_toInt ⟨by omega, h⟩]
  rfl
theorem iI_in {i : Int} {j n : Nat} (hi : i = (j : Int)) (hj : j < n) (hn : (j : Int) < 2147483648) : vp_in (iI i) n ∧ (iI i).toNatClampNeg = j := by
  subst hi
  refine ⟨fun h => ?_, iI_clamp hn⟩
  rcases h with h | h
  · rw [iI_0, iI_lt ⟨by omega, hn⟩ ⟨by omega, by omega⟩] at h
    omega
  · rw [iI_clamp hn] at h
    omega
/-! the world: what lies at the places behind the law's first free address -/
abbrev Wd : Type := Nat → Option va_E
abbrev Gc : Type := va_G × (Nat → ClassId) × Nat × (Nat → Nat)
abbrev gD (G : Gc) : va_G := G.1
abbrev gK (G : Gc) : Nat → ClassId := G.2.1
abbrev gb (G : Gc) : Nat := G.2.2.1
abbrev gT (G : Gc) : Nat → Nat := G.2.2.2
def gtys (G : Gc) : List (ClassId × FieldType) := [(gK G 0, .int), (gK G 1, .char), (gK G 2, .boolean), (gK G 3, .object RX9)]
def gO (G : Gc) : Nat → Prop := fun q => gb G ≤ q
def wdH (G : Gc) (E : Wd) (H : Heap) : Prop := ∀ (k : Nat) (x : va_E), E k = some x → va_at (gD G) vwCl (gb G + k, x) H
abbrev AI (G : Gc) (n : Nat) (g : Nat → Int) : va_E := .inl (gK G 0, n, .inl (fun j => iI (g j)))
abbrev AC (G : Gc) (n : Nat) (g : Nat → Int) : va_E := .inl (gK G 1, n, .inl (fun j => iI (g j)))
abbrev AZ (G : Gc) (n : Nat) (g : Nat → Int) : va_E := .inl (gK G 2, n, .inl (fun j => iI (g j)))
abbrev AS (G : Gc) (n : Nat) (g : Nat → Option Nat) : va_E := .inl (gK G 3, n, .inr (.inr (.inr (.inr (fun j => (g j).map (fun o => gb G + o))))))
/-! the static tables -/
def tbN : Nat → String
  | 0 => "LEAST_VALUES"
  | 1 => "GREATEST_VALUES"
  | _ => "FIRST_VALUES"
def tbV (i j : Nat) : Int := (([[20, 0, 0, 0, 0, 10, 1, 1], [500, 20, 200, 50, 50, 1000, 2000, 1000], [100, 2, 10, 1, 0, 360, 500, 60]] : List (List Int)).getD i []).getD j 0
def Zf (G : Gc) (U : State) (H : Heap) : Prop := ∀ i, i < 3 → va_Z RX11 (tbN i) "[I" (.ref (gT G i)) (gO G) U H ∧ va_T .int (gT G i) 8 (fun j => .int (iI (tbV i j))) (gO G) U H
def KZ (G : Gc) (U : State) (H : Heap) : Prop := va_K (gD G) vwCl (gtys G) U ∧ Zf G U H ∧ (∀ w ∈ TN, va_Nw w U) ∧ va_AO RX9 U
theorem TN_warm {s U : State} (hW : s.WarmedH U.vm) (h : ∀ w ∈ TN, va_Nw w s) : ∀ w ∈ TN, va_Nw w U := by
  intro w hw
  have h1 := h w hw
  have h2 := (List.mem_filter.mp hw).2
  cases w <;> first | exact va_Nw.warmM hW h1 | exact va_Nw.warmF hW h1 | cases h2
theorem TN_same {u U : State} (hv : u.vm = U.vm) (h : ∀ w ∈ TN, va_Nw w u) : ∀ w ∈ TN, va_Nw w U := by
  intro w hw
  have h1 := h w hw
  have h2 := (List.mem_filter.mp hw).2
  cases w <;> first | exact va_Nw.same rfl hv h1 | cases h2
theorem KZ.move {G : Gc} {s U : State} {H H1 : Heap} (hW : s.WarmedH U.vm) (hh : ∀ a : Nat, a < H.size → ¬ gO G a → H1[a]? = H[a]?) (h : KZ G s H) : KZ G U H1 :=
  ⟨va_K.moved hW.alike h.1, fun i hi => ⟨(va_Z.moved hW.alike (h.2.1 i hi).1).kept hh, (va_T.moved hW.alike (h.2.1 i hi).2).kept hh⟩, TN_warm hW h.2.2.1, va_AO.moved hW.alike h.2.2.2⟩
theorem KZ.calling {G : Gc} {U : State} {H : Heap} {g : JFrame} {mk : MethodId} {a : Array Value} (h : KZ G U H) : KZ G (U.calling g mk a) H :=
  ⟨va_K.moved (u := U) (U := U.calling g mk a) (Vm.Alike.refl U.vm) h.1, fun i hi => ⟨va_Z.moved (u := U) (U := U.calling g mk a) (Vm.Alike.refl U.vm) (h.2.1 i hi).1, va_T.moved (u := U) (U := U.calling g mk a) (Vm.Alike.refl U.vm) (h.2.1 i hi).2⟩, TN_same (u := U) (U := U.calling g mk a) rfl h.2.2.1, va_AO.moved (u := U) (U := U.calling g mk a) (Vm.Alike.refl U.vm) h.2.2.2⟩
/-! the locals: a place each, what stands there where it is known -/
def al (ls : List (Option Value)) : List (Nat × Value) := (List.range ls.length).filterMap (fun i => (ls.getD i none).map (fun v => (i, v)))
theorem al_mem {ls : List (Option Value)} {q : Nat × Value} : q ∈ al ls ↔ ls[q.1]? = some (some q.2) := by
  unfold al
  rw [List.mem_filterMap]
  constructor
  · rintro ⟨i, hi, h⟩
    rw [Option.map_eq_some_iff] at h
    obtain ⟨v, hv, rfl⟩ := h
    have hl := List.mem_range.mp hi
    rw [List.getD_eq_getElem?_getD] at hv
    rw [List.getElem?_eq_getElem hl] at hv ⊢
    simpa using hv
  · intro h
    have hl : q.1 < ls.length := (List.getElem?_eq_some_iff.mp h).1
    refine ⟨q.1, List.mem_range.mpr hl, ?_⟩
    rw [List.getD_eq_getElem?_getD, h]
    rfl
def lsH (L : Array Slot) (ls : List (Option Value)) : Prop := lv_has L ls.length (al ls)
def c1 : Option Value → Bool
  | some (.long _) => false
  | some (.double _) => false
  | _ => true
theorem lsH.get {L : Array Slot} {ls : List (Option Value)} {i : Nat} {v : Value} (h : lsH L ls) (hi : ls[i]? = some (some v)) : L[i]? = some (.val v) := h.2.2 (i, v) (al_mem.mpr hi)
def SetA (i : Nat) (v : Value) (ls ls' : List (Option Value)) : Prop := i < ls.length ∧ ls' = ls.set i (some v) ∧ ∀ j w, j + 1 = i → ls[j]? = some (some w) → ¬ w.category = 2
theorem lsH.set {L' : Array Slot} {ls ls' : List (Option Value)} {i : Nat} {v : Value} (hs : SetA i v ls ls') (h : lv_has L' ls.length ((i, v) :: (al ls).filter (fun q => !(q.1 == i) && !(q.1 + 1 == i && q.2.category == 2)))) : lsH L' ls' := by
  obtain ⟨h1, rfl, h2⟩ := hs
  refine ⟨by rw [List.length_set]; exact h.1, h.2.1, fun q hq => ?_⟩
  rw [al_mem] at hq
  by_cases he : q.1 = i
  · have e : q.2 = v := by
      rw [he, List.getElem?_set_self h1] at hq
      exact (Option.some.inj (Option.some.inj hq)).symm
    have := h.2.2 (i, v) List.mem_cons_self
    rw [he, e]; exact this
  · rw [List.getElem?_set_ne (Ne.symm he)] at hq
    refine h.2.2 q (List.mem_cons_of_mem _ (List.mem_filter.mpr ⟨al_mem.mpr hq, ?_⟩))
    have e2 : (q.1 + 1 == i && q.2.category == 2) = false := by
      by_cases h3 : q.1 + 1 = i
      · have := h2 q.1 q.2 h3 hq
        simp [this]
      · simp [h3]
    simp [he, e2]
def SetL (i : Nat) (v : Value) (ls ls' : List (Option Value)) : Prop := i + 1 < ls.length ∧ ls' = (ls.set i (some v)).set (i + 1) none ∧ ∀ j w, j + 1 = i → ls[j]? = some (some w) → ¬ w.category = 2
theorem lsH.setL {L' : Array Slot} {ls ls' : List (Option Value)} {i : Nat} {v : Value} (hs : SetL i v ls ls') (h : lv_has L' ls.length ((i, v) :: (al ls).filter (fun q => !(q.1 == i) && (!(q.1 == i + 1) && !(q.1 + 1 == i && q.2.category == 2))))) : lsH L' ls' := by
  obtain ⟨h1, rfl, h2⟩ := hs
  refine ⟨by rw [List.length_set, List.length_set]; exact h.1, h.2.1, fun q hq => ?_⟩
  rw [al_mem] at hq
  by_cases he1 : q.1 = i + 1
  · rw [he1, List.getElem?_set_self (by rw [List.length_set]; exact h1)] at hq
    cases hq
  · rw [List.getElem?_set_ne (Ne.symm he1)] at hq
    by_cases he : q.1 = i
    · have e : q.2 = v := by
        rw [he, List.getElem?_set_self (by omega)] at hq
        exact (Option.some.inj (Option.some.inj hq)).symm
      have := h.2.2 (i, v) List.mem_cons_self
      rw [he, e]; exact this
    · rw [List.getElem?_set_ne (Ne.symm he)] at hq
      refine h.2.2 q (List.mem_cons_of_mem _ (List.mem_filter.mpr ⟨al_mem.mpr hq, ?_⟩))
      have e2 : (q.1 + 1 == i && q.2.category == 2) = false := by
        by_cases h3 : q.1 + 1 = i
        · have := h2 q.1 q.2 h3 hq
          simp [this]
        · simp [h3]
      simp [he, he1, e2]
theorem c1_cat {w : Value} (h : c1 (some w) = true) : ¬ w.category = 2 := by
  cases w <;> simp_all [c1, Value.category]
theorem SetA.mk0 {v : Value} {a : Option Value} {l : List (Option Value)} : SetA 0 v (a :: l) (some v :: l) := ⟨by simp, rfl, fun j w h => by omega⟩
theorem SetA.mk {pre l : List (Option Value)} {a b : Option Value} {v : Value} {i : Nat} (hi : pre.length + 1 = i) (h : c1 a = true) : SetA i v (pre ++ a :: b :: l) (pre ++ a :: some v :: l) := by
  subst hi
  refine ⟨by simp, ?_, fun j w hj h9 => ?_⟩
  · simp [List.set_append]
  · have : j = pre.length := by omega
    subst this
    rw [List.getElem?_append_right (Nat.le_refl _)] at h9
    simp at h9
    subst h9
    exact c1_cat h
theorem set_pre {α : Type} (pre m : List α) (k : Nat) (x : α) : (pre ++ m).set (pre.length + k) x = pre ++ m.set k x := by
  induction pre with
  | nil => simp
  | cons a p ih =>
    rw [List.length_cons, show p.length + 1 + k = (p.length + k) + 1 by omega]
    simp only [List.cons_append, List.set_cons_succ, ih]
theorem SetL.mk {pre l : List (Option Value)} {a b d : Option Value} {v : Value} {i : Nat} (hi : pre.length + 1 = i) (h : c1 a = true) : SetL i v (pre ++ a :: b :: d :: l) (pre ++ a :: some v :: none :: l) := by
  subst hi
  refine ⟨by simp; omega, ?_, fun j w hj h9 => ?_⟩
  · rw [set_pre, show pre.length + 1 + 1 = pre.length + 2 from rfl, set_pre]
    rfl
  · have : j = pre.length := by omega
    subst this
    rw [List.getElem?_append_right (Nat.le_refl _)] at h9
    simp at h9
    subst h9
    exact c1_cat h
/-! the judgement: from this place of a method, with this world, these locals and this stack, the machine comes to its goal -/
abbrev Fx : Type := Program × Launch × Env × Room × State × MethodId × Array Value × List Frame × Method × Code × Gc × (State → Prop)
abbrev fP (X : Fx) : Program := X.1
abbrev fL (X : Fx) : Launch := X.2.1
abbrev fE (X : Fx) : Env := X.2.2.1
abbrev fR (X : Fx) : Room := X.2.2.2.1
abbrev fS (X : Fx) : State := X.2.2.2.2.1
abbrev fM (X : Fx) : MethodId := X.2.2.2.2.2.1
abbrev fA (X : Fx) : Array Value := X.2.2.2.2.2.2.1
abbrev fB (X : Fx) : List Frame := X.2.2.2.2.2.2.2.1
abbrev fMe (X : Fx) : Method := X.2.2.2.2.2.2.2.2.1
abbrev fC (X : Fx) : Code := X.2.2.2.2.2.2.2.2.2.1
abbrev fG (X : Fx) : Gc := X.2.2.2.2.2.2.2.2.2.2.1
abbrev fQ (X : Fx) : State → Prop := X.2.2.2.2.2.2.2.2.2.2.2
abbrev WX (X : Fx) (H : Heap) (locs : List Loc) (z : Nat × Nat × Nat) (pc : Nat) (L : Array Slot) (st : List Value) : Prop := W (fP X) (fL X) (fE X) (fR X) (fS X) (fM X) (fA X) (fB X) (fMe X) (fC X) H locs z.2.1 z.2.2 (fQ X) (F0 (fM X) pc L st)
def Rd (X : Fx) (E : Wd) (z : Nat × Nat × Nat) (ls : List (Option Value)) (H : Heap) (locs : List Loc) (L : Array Slot) : Prop :=
  wdH (fG X) E H ∧ H.size = gb (fG X) + z.1 ∧ va_S (gO (fG X)) (fS X).heap H locs ∧ lsH L ls ∧ ls.length = (fC X).maxLocals
def V (X : Fx) (E : Wd) (z : Nat × Nat × Nat) (pc : Nat) (ls : List (Option Value)) (st : List Value) : Prop :=
  ∀ (H : Heap) (locs : List Loc) (L : Array Slot), Rd X E z ls H locs L → WX X H locs z pc L st
def Cx (X : Fx) (cc : ByteArray) (ow : String) : Prop :=
  (fP X).tables.exec = Jvm.exec ∧ (fC X).code = cc ∧ (fS X).vm.findClass ow = some (fM X).cls ∧ (∀ w ∈ TB, w.before (fA X) (fS X) = true) ∧ KZ (fG X) (fS X) (fS X).heap ∧ gb (fG X) ≤ (fS X).heap.size
/-- a step that touches neither the heap nor the locals -/
theorem V.st {X : Fx} {E : Wd} {z : Nat × Nat × Nat} {pc pc' : Nat} {ls : List (Option Value)} {st st' : List Value} (h : ∀ (H : Heap) (locs : List Loc) (L : Array Slot), lsH L ls → WX X H locs z pc' L st' → WX X H locs z pc L st) (k : V X E z pc' ls st') : V X E z pc ls st :=
  fun H locs L h1 => h H locs L h1.2.2.2.1 (k H locs L h1)
/-- a step that stores a local -/
theorem V.lo {X : Fx} {E : Wd} {z : Nat × Nat × Nat} {pc pc' : Nat} {ls ls' : List (Option Value)} {st st' : List Value} (hl : ls'.length = ls.length) (h : ∀ (H : Heap) (locs : List Loc) (L : Array Slot), lsH L ls → (∀ L', lsH L' ls' → WX X H locs z pc' L' st') → WX X H locs z pc L st) (k : V X E z pc' ls' st') : V X E z pc ls st :=
  fun H locs L h1 => h H locs L h1.2.2.2.1 (fun L' hL' => k H locs L' ⟨h1.1, h1.2.1, h1.2.2.1, hL', hl.trans h1.2.2.2.2⟩)
