/-! rows of the memory, over the judgement V -/
def upW (E : Wd) (o : Nat) (e : va_E) : Wd := fun j => if j = o then some e else E j
theorem upW_s {E : Wd} {o : Nat} {e : va_E} : upW E o e o = some e := by simp [upW]
theorem upW_n {E : Wd} {o : Nat} {e : va_E} : ∀ j, j ≠ o → upW E o e j = E j := fun j h => by simp [upW, h]
def upI (g : Nat → Int) (j : Nat) (x : Int) : Nat → Int := fun q => if q = j then x else g q
theorem upI_s {g : Nat → Int} {j : Nat} {x : Int} : upI g j x j = x := by simp [upI]
theorem upI_n {g : Nat → Int} {j q : Nat} {x : Int} (h : q ≠ j) : upI g j x q = g q := by simp [upI, h]
theorem upI_a (g : Nat → Int) (j : Nat) (x : Int) (q : Nat) : upI g j x q = if q = j then x else g q := rfl
def upO (g : Nat → Option Nat) (j : Nat) (x : Option Nat) : Nat → Option Nat := fun q => if q = j then x else g q
theorem upO_a (g : Nat → Option Nat) (j : Nat) (x : Option Nat) (q : Nat) : upO g j x q = if q = j then x else g q := rfl
theorem wdH.one {G : Gc} {E : Wd} {H : Heap} {o : Nat} {e : va_E} (h : wdH G E H) (he : E o = some e) : va_P (gD G) vwCl [(gb G + o, e)] H := fun k q hk => by
  match k, hk with
  | 0, hk => cases hk; exact h o e he
  | k + 1, hk => simp at hk
theorem wdH.upd {G : Gc} {E : Wd} {H H1 : Heap} {o : Nat} {e : va_E} (h : wdH G E H) (he : va_at (gD G) vwCl (gb G + o, e) H1) (oq : ∀ q : Nat, q ≠ gb G + o → H1[q]? = H[q]?) : wdH G (upW E o e) H1 := by
  intro k x hk
  by_cases hko : k = o
  · subst hko
    rw [upW_s] at hk
    cases hk
    exact he
  · rw [upW_n k hko] at hk
    exact (h k x hk).kept (oq _ (by show gb G + k ≠ _; omega))
theorem gO_o {G : Gc} {o : Nat} : gO G (gb G + o) := Nat.le_add_right _ _
def FL (ow : String) (idx ci k : Nat) : Prop := ∃ (C : String) (T : u_T) (N : Nat), vwCl[ci]? = some (C, T, N) ∧ k < N ∧ (∀ w ∈ u_ws C T N, w ∈ TB) ∧ Cond.fieldLink ow idx (T k).1 (T k).2.1 (T k).2.2.1 ∈ TB
def FP (ow : String) (idx ci k : Nat) (fin : Bool) (ty : FieldType) : Prop := ∃ (C : String) (T : u_T) (N : Nat) (ty0 : Nat → FieldType), vwCl[ci]? = some (C, T, N) ∧ k < N ∧ (∀ w ∈ u_ws C T N, w ∈ TB) ∧ Cond.fieldLink ow idx (T k).1 (T k).2.1 (T k).2.2.1 ∈ TB ∧ (∀ k, k < N → parseFieldDescriptor (T k).2.2.1 = some (ty0 k)) ∧ (∀ a, a < N → ∀ b, b < N → a ≠ b → (T a).2.1 ≠ (T b).2.1) ∧ ty0 k = ty ∧ (T k).2.2.2 = fin ∧ (fin = true → (T k).1 = ow)
def PF (k : Nat) (v : Value) (fs fs' : List Value) : Prop := k < fs.length ∧ fs' = fs.set k v
theorem pf0 {v a : Value} {l : List Value} : PF 0 v (a :: l) (v :: l) := ⟨by simp, rfl⟩
theorem pf1 {v x0 a : Value} {l : List Value} : PF 1 v (x0 :: a :: l) (x0 :: v :: l) := ⟨by simp, rfl⟩
theorem pf2 {v x0 x1 a : Value} {l : List Value} : PF 2 v (x0 :: x1 :: a :: l) (x0 :: x1 :: v :: l) := ⟨by simp, rfl⟩
theorem pf3 {v x0 x1 x2 a : Value} {l : List Value} : PF 3 v (x0 :: x1 :: x2 :: a :: l) (x0 :: x1 :: x2 :: v :: l) := ⟨by simp, rfl⟩
theorem pf4 {v x0 x1 x2 x3 a : Value} {l : List Value} : PF 4 v (x0 :: x1 :: x2 :: x3 :: a :: l) (x0 :: x1 :: x2 :: x3 :: v :: l) := ⟨by simp, rfl⟩
theorem pf5 {v x0 x1 x2 x3 x4 a : Value} {l : List Value} : PF 5 v (x0 :: x1 :: x2 :: x3 :: x4 :: a :: l) (x0 :: x1 :: x2 :: x3 :: x4 :: v :: l) := ⟨by simp, rfl⟩
theorem pf6 {v x0 x1 x2 x3 x4 x5 a : Value} {l : List Value} : PF 6 v (x0 :: x1 :: x2 :: x3 :: x4 :: x5 :: a :: l) (x0 :: x1 :: x2 :: x3 :: x4 :: x5 :: v :: l) := ⟨by simp, rfl⟩
theorem pf7 {v x0 x1 x2 x3 x4 x5 x6 a : Value} {l : List Value} : PF 7 v (x0 :: x1 :: x2 :: x3 :: x4 :: x5 :: x6 :: a :: l) (x0 :: x1 :: x2 :: x3 :: x4 :: x5 :: x6 :: v :: l) := ⟨by simp, rfl⟩
theorem pf8 {v x0 x1 x2 x3 x4 x5 x6 x7 a : Value} {l : List Value} : PF 8 v (x0 :: x1 :: x2 :: x3 :: x4 :: x5 :: x6 :: x7 :: a :: l) (x0 :: x1 :: x2 :: x3 :: x4 :: x5 :: x6 :: x7 :: v :: l) := ⟨by simp, rfl⟩
theorem pf9 {v x0 x1 x2 x3 x4 x5 x6 x7 x8 a : Value} {l : List Value} : PF 9 v (x0 :: x1 :: x2 :: x3 :: x4 :: x5 :: x6 :: x7 :: x8 :: a :: l) (x0 :: x1 :: x2 :: x3 :: x4 :: x5 :: x6 :: x7 :: x8 :: v :: l) := ⟨by simp, rfl⟩
theorem pf10 {v x0 x1 x2 x3 x4 x5 x6 x7 x8 x9 a : Value} {l : List Value} : PF 10 v (x0 :: x1 :: x2 :: x3 :: x4 :: x5 :: x6 :: x7 :: x8 :: x9 :: a :: l) (x0 :: x1 :: x2 :: x3 :: x4 :: x5 :: x6 :: x7 :: x8 :: x9 :: v :: l) := ⟨by simp, rfl⟩
theorem pf11 {v x0 x1 x2 x3 x4 x5 x6 x7 x8 x9 x10 a : Value} {l : List Value} : PF 11 v (x0 :: x1 :: x2 :: x3 :: x4 :: x5 :: x6 :: x7 :: x8 :: x9 :: x10 :: a :: l) (x0 :: x1 :: x2 :: x3 :: x4 :: x5 :: x6 :: x7 :: x8 :: x9 :: x10 :: v :: l) := ⟨by simp, rfl⟩
section Mem
variable {X : Fx} {E : Wd} {z : Nat × Nat × Nat} {pc : Nat} {ls ls' : List (Option Value)} {st : List Value} {cc : ByteArray} {ow : String}
theorem v_getfield (cx : Cx X cc ow) {idx ci k o : Nat} {fs : List Value} {v : Value} (hf : FL ow idx ci k) (he : E o = some (.inr (ci, fs))) (hv : fs[k]? = some v) (hd : decode cc pc = .ok (.getfield idx, 3)) (kk : V X E z (pc + 3) ls (v :: st)) : V X E z pc ls (.ref (gb (fG X) + o) :: st) := by
  intro H locs L h1
  obtain ⟨C, T, N, hc, hk, hin, hl⟩ := hf
  exact va_get cx.1 cx.2.1 cx.2.2.2.1 hin cx.2.2.1 cx.2.2.2.2.1.1 (h1.1.one he) 0 rfl hc k hk (cx.2.2.2.1 _ hl) (fun _ h => h) hv hd (kk H locs L h1)
theorem v_putfield (cx : Cx X cc ow) {idx ci k o : Nat} {fs fs' : List Value} {v : Value} {ty : FieldType} (hf : FP ow idx ci k false ty) (he : E o = some (.inr (ci, fs))) (hn : narrow ty v = v ∧ fits ty v = true) (hs : PF k v fs fs') (hd : decode cc pc = .ok (.putfield idx, 3)) (kk : ∀ E1 : Wd, E1 o = some (.inr (ci, fs')) → (∀ j, j ≠ o → E1 j = E j) → V X E1 z (pc + 3) ls st) : V X E z pc ls (v :: .ref (gb (fG X) + o) :: st) := by
  intro H locs L h1
  obtain ⟨C, T, N, ty0, hc, hk, hin, hl, hty, hnm, ht, hfin, -⟩ := hf
  obtain ⟨hlt, rfl⟩ := hs
  have hts := cx.2.2.2.1
  have hK := cx.2.2.2.2.1.1
  have hap := va_apart (own := ow) hts hin ty0 hty hnm hK hc
  obtain ⟨r, h2, cell, q1, q2, q3, q4⟩ := h1.1 o _ he
  have hr : r = (C, T, N) := Option.some.inj (h2.symm.trans hc)
  subst hr
  obtain ⟨hS, hfc, kC, hkC, hkind⟩ := hK.1 ci _ hc
  obtain ⟨cf, kf, fi, f, hi, hsl⟩ := hS k hk
  have hlay := hts _ (hin _ (u_in_lay hk))
  unfold u_lay at hlay
  rw [if_neg (by rw [hfin]; decide)] at hlay
  have hst := (u_facts hfc hkC (u_lays hts hin hk) hi).1
  have h6 := u_store hfc hkC hkind hlay hi (hty k hk) (by rw [ht]; exact hn.1) (by rw [ht]; exact hn.2)
  refine W.putK cx.1 cx.2.1 (f := f) ⟨cx.2.2.1, hts _ hl, ⟨_, _, _, hi⟩, hst⟩ (by rw [q2]; exact h6) q1 q3 (by rw [hsl]; exact k2_hasslot (q4 k hk)) rfl rfl hd fun H' e1 e2 e3 => ?_
  rw [hsl] at e1 ⊢
  exact kk _ upW_s upW_n H' _ L ⟨h1.1.upd ⟨_, hc, t_OB.to (V := updV (vp_V fs) k v) ⟨_, e1, q2, q3, t_set q4 hap hk v⟩ (fun j _ => vp_updV_set hlt v j)⟩ e3, by rw [e2]; exact h1.2.1, h1.2.2.1.put e2 e3 gO_o, h1.2.2.2⟩
theorem v_putfieldF (cx : Cx X cc ow) (hini : (fMe X).name = "<init>") {idx ci k o : Nat} {fs fs' : List Value} {v : Value} {ty : FieldType} (hf : FP ow idx ci k true ty) (he : E o = some (.inr (ci, fs))) (hn : narrow ty v = v ∧ fits ty v = true) (hs : PF k v fs fs') (hd : decode cc pc = .ok (.putfield idx, 3)) (kk : ∀ E1 : Wd, E1 o = some (.inr (ci, fs')) → (∀ j, j ≠ o → E1 j = E j) → V X E1 z (pc + 3) ls st) : V X E z pc ls (v :: .ref (gb (fG X) + o) :: st) := by
  intro H locs L h1
  obtain ⟨C, T, N, ty0, hc, hk, hin, hl, hty, hnm, ht, hfin, hdecl⟩ := hf
  obtain ⟨hlt, rfl⟩ := hs
  have hts := cx.2.2.2.1
  have hK := cx.2.2.2.2.1.1
  have hown := cx.2.2.1
  have hap := va_apart (own := ow) hts hin ty0 hty hnm hK hc
  obtain ⟨r, h2, cell, q1, q2, q3, q4⟩ := h1.1 o _ he
  have hr : r = (C, T, N) := Option.some.inj (h2.symm.trans hc)
  subst hr
  obtain ⟨hS, hfc, kC, hkC, hkind⟩ := hK.1 ci _ hc
  obtain ⟨cf, kf, fi, f, hi, hsl⟩ := hS k hk
  have hlay := hts _ (hin _ (u_in_lay hk))
  unfold u_lay at hlay
  rw [if_pos hfin] at hlay
  have hst := (u_facts hfc hkC (u_lays hts hin hk) hi).1
  have hcf : (fM X).cls = cf := by
    obtain ⟨_, _, c', _, _, _, -, -, hf', -, -, -, hown2, -⟩ := Cond.laysFinal_spec hlay
    have e1 : c' = cf := by have := hi.symm.trans hf'; simp at this; exact this.1.symm
    rw [hdecl rfl] at hown2
    rw [← e1]; exact Option.some.inj (hown.symm.trans hown2)
  have h6 := u_fits hfc hkC hkind (Or.inr hlay) hi (hty k hk) (by rw [ht]; exact hn.1) (by rw [ht]; exact hn.2)
  refine W.putFinK cx.1 cx.2.1 hown (hts _ hl) hi hst hcf hini (by rw [q2]; exact h6) q1 q3 (by rw [hsl]; exact k2_hasslot (q4 k hk)) rfl rfl hd fun H' e1 e2 e3 => ?_
  rw [hsl] at e1 ⊢
  exact kk _ upW_s upW_n H' _ L ⟨h1.1.upd ⟨_, hc, t_OB.to (V := updV (vp_V fs) k v) ⟨_, e1, q2, q3, t_set q4 hap hk v⟩ (fun j _ => vp_updV_set hlt v j)⟩ e3, by rw [e2]; exact h1.2.1, h1.2.2.1.put e2 e3 gO_o, h1.2.2.2⟩
theorem v_iaload (cx : Cx X cc ow) {o n : Nat} {g : Nat → Int} {i : Int} (j : Nat) (he : E o = some (AI (fG X) n g)) (hj : i = (j : Int) ∧ j < n ∧ (j : Int) < 2147483648) (hd : decode cc pc = .ok (.iaload, 1)) (kk : V X E z (pc + 1) ls (.int (iI (g j)) :: st)) : V X E z pc ls (.int (iI i) :: .ref (gb (fG X) + o) :: st) := by
  intro H locs L h1
  obtain ⟨e1, e2⟩ := iI_in hj.1 hj.2.1 hj.2.2
  exact va_iald cx.1 cx.2.1 cx.2.2.2.2.1.1 (h1.1.one he) 0 0 rfl rfl e1 hd (by rw [e2]; exact kk H locs L h1)
theorem v_caload (cx : Cx X cc ow) {o n : Nat} {g : Nat → Int} {i : Int} (j : Nat) (he : E o = some (AC (fG X) n g)) (hj : i = (j : Int) ∧ j < n ∧ (j : Int) < 2147483648) (hd : decode cc pc = .ok (.caload, 1)) (kk : V X E z (pc + 1) ls (.int (iI (g j)) :: st)) : V X E z pc ls (.int (iI i) :: .ref (gb (fG X) + o) :: st) := by
  intro H locs L h1
  obtain ⟨e1, e2⟩ := iI_in hj.1 hj.2.1 hj.2.2
  exact va_cald cx.1 cx.2.1 cx.2.2.2.2.1.1 (h1.1.one he) 0 1 rfl rfl e1 hd (by rw [e2]; exact kk H locs L h1)
theorem v_baload (cx : Cx X cc ow) {o n : Nat} {g : Nat → Int} {i : Int} (j : Nat) (he : E o = some (AZ (fG X) n g)) (hj : i = (j : Int) ∧ j < n ∧ (j : Int) < 2147483648) (hd : decode cc pc = .ok (.baload, 1)) (kk : V X E z (pc + 1) ls (.int (iI (g j)) :: st)) : V X E z pc ls (.int (iI i) :: .ref (gb (fG X) + o) :: st) := by
  intro H locs L h1
  obtain ⟨e1, e2⟩ := iI_in hj.1 hj.2.1 hj.2.2
  exact va_zald cx.1 cx.2.1 cx.2.2.2.2.1.1 (h1.1.one he) 0 2 rfl rfl e1 hd (by rw [e2]; exact kk H locs L h1)
theorem v_aaload (cx : Cx X cc ow) {o n r : Nat} {g : Nat → Option Nat} {i : Int} (j : Nat) (he : E o = some (AS (fG X) n g)) (hj : i = (j : Int) ∧ j < n ∧ (j : Int) < 2147483648) (hr : g j = some r) (hd : decode cc pc = .ok (.aaload, 1)) (kk : V X E z (pc + 1) ls (.ref (gb (fG X) + r) :: st)) : V X E z pc ls (.int (iI i) :: .ref (gb (fG X) + o) :: st) := by
  intro H locs L h1
  obtain ⟨e1, e2⟩ := iI_in hj.1 hj.2.1 hj.2.2
  exact va_aldq cx.1 cx.2.1 cx.2.2.2.2.1.1 (h1.1.one he) 0 3 rfl rfl e1 hd (by rw [e2, hr]; exact kk H locs L h1)
theorem v_alen (cx : Cx X cc ow) {o n : Nat} {a : Nat × ((Nat → Int32) ⊕ (Nat → Int64) ⊕ (Nat → UInt32) ⊕ (Nat → UInt64) ⊕ (Nat → Option Nat))} (he : E o = some (.inl (gK (fG X) 0, a))) (hn : a.1 = n) (hd : decode cc pc = .ok (.arraylength, 1)) (kk : V X E z (pc + 1) ls (.int (iI (n : Int)) :: st)) : V X E z pc ls (.ref (gb (fG X) + o) :: st) := by
  intro H locs L h1
  subst hn
  exact va_alen cx.1 cx.2.1 cx.2.2.2.2.1.1 (h1.1.one he) 0 0 rfl rfl (Int32.ofInt_eq_ofNat (n := a.1)).symm hd (kk H locs L h1)
theorem AI_upd {G : Gc} {n j : Nat} {g : Nat → Int} {x : Int} {c : ClassId} : (.inl (c, n, .inl (upd (fun q => iI (g q)) j (iI x))) : va_E) = .inl (c, n, .inl (fun q => iI (upI g j x q))) := by
  congr 4
  funext q
  by_cases h : q = j <;> simp [upd, upI, h]
theorem v_iastore (cx : Cx X cc ow) {o n : Nat} {g : Nat → Int} {i x : Int} (j : Nat) (he : E o = some (AI (fG X) n g)) (hj : i = (j : Int) ∧ j < n ∧ (j : Int) < 2147483648) (hd : decode cc pc = .ok (.iastore, 1)) (kk : ∀ E1 : Wd, E1 o = some (AI (fG X) n (upI g j x)) → (∀ j, j ≠ o → E1 j = E j) → V X E1 z (pc + 1) ls st) : V X E z pc ls (.int (iI x) :: .int (iI i) :: .ref (gb (fG X) + o) :: st) := by
  intro H locs L h1
  obtain ⟨e1, e2⟩ := iI_in hj.1 hj.2.1 hj.2.2
  refine W.iast cx.1 cx.2.1 (h1.1 o _ he) ((cx.2.2.2.2.1.1.2 0 _ rfl).1 n (fun j => .int (iI (g j)))) (fun q => by cases q) (by show ¬ (iI i < 0 ∨ (arrV _ _ _).slots.size ≤ _); rw [arrV_size]; exact e1) rfl rfl hd fun H1 e z1 oq => ?_
  refine kk _ upW_s upW_n H1 _ L ⟨h1.1.upd ?_ oq, by rw [z1]; exact h1.2.1, h1.2.2.1.put z1 oq gO_o, h1.2.2.2⟩
  show H1[_]? = some (vp_cell _ _)
  rw [e, e2]
  rw [vp_cell_i, vp_cell_i, arrV_store]
  congr 2
  funext q
  by_cases hq : q = j
  · subst hq
    simp [updV, upI]
  · simp [updV, upI, hq]
theorem v_castore (cx : Cx X cc ow) {o n : Nat} {g : Nat → Int} {i x : Int} (j : Nat) (he : E o = some (AC (fG X) n g)) (hj : i = (j : Int) ∧ j < n ∧ (j : Int) < 2147483648) (hx : narrow .char (.int (iI x)) = .int (iI x)) (hd : decode cc pc = .ok (.castore, 1)) (kk : ∀ E1 : Wd, E1 o = some (AC (fG X) n (upI g j x)) → (∀ j, j ≠ o → E1 j = E j) → V X E1 z (pc + 1) ls st) : V X E z pc ls (.int (iI x) :: .int (iI i) :: .ref (gb (fG X) + o) :: st) := by
  intro H locs L h1
  obtain ⟨e1, e2⟩ := iI_in hj.1 hj.2.1 hj.2.2
  refine W.cast cx.1 cx.2.1 (h1.1 o _ he) ((cx.2.2.2.2.1.1.2 1 _ rfl).1 n (fun j => .int (iI (g j)))) (fun q => by cases q) (by show ¬ (iI i < 0 ∨ (arrV _ _ _).slots.size ≤ _); rw [arrV_size]; exact e1) rfl rfl hd fun H1 e z1 oq => ?_
  refine kk _ upW_s upW_n H1 _ L ⟨h1.1.upd ?_ oq, by rw [z1]; exact h1.2.1, h1.2.2.1.put z1 oq gO_o, h1.2.2.2⟩
  show H1[_]? = some (vp_cell _ _)
  rw [e, e2, hx]
  rw [vp_cell_i, vp_cell_i, arrV_store]
  congr 2
  funext q
  by_cases hq : q = j
  · subst hq
    simp [updV, upI]
  · simp [updV, upI, hq]
theorem v_bastore (cx : Cx X cc ow) {o n : Nat} {g : Nat → Int} {i x : Int} (j : Nat) (he : E o = some (AZ (fG X) n g)) (hj : i = (j : Int) ∧ j < n ∧ (j : Int) < 2147483648) (hx : narrow .boolean (.int (iI x)) = .int (iI x)) (hd : decode cc pc = .ok (.bastore, 1)) (kk : ∀ E1 : Wd, E1 o = some (AZ (fG X) n (upI g j x)) → (∀ j, j ≠ o → E1 j = E j) → V X E1 z (pc + 1) ls st) : V X E z pc ls (.int (iI x) :: .int (iI i) :: .ref (gb (fG X) + o) :: st) := by
  intro H locs L h1
  obtain ⟨e1, e2⟩ := iI_in hj.1 hj.2.1 hj.2.2
  refine W.zast cx.1 cx.2.1 (h1.1 o _ he) ((cx.2.2.2.2.1.1.2 2 _ rfl).1 n (fun j => .int (iI (g j)))) (fun q => by cases q) (by show ¬ (iI i < 0 ∨ (arrV _ _ _).slots.size ≤ _); rw [arrV_size]; exact e1) rfl rfl hd fun H1 e z1 oq => ?_
  refine kk _ upW_s upW_n H1 _ L ⟨h1.1.upd ?_ oq, by rw [z1]; exact h1.2.1, h1.2.2.1.put z1 oq gO_o, h1.2.2.2⟩
  show H1[_]? = some (vp_cell _ _)
  rw [e, e2, hx]
  rw [vp_cell_i, vp_cell_i, arrV_store]
  congr 2
  funext q
  by_cases hq : q = j
  · subst hq
    simp [updV, upI]
  · simp [updV, upI, hq]
theorem v_aastore (cx : Cx X cc ow) {o n r : Nat} {g : Nat → Option Nat} {i : Int} {fs : List Value} (j : Nat) (he : E o = some (AS (fG X) n g)) (hj : i = (j : Int) ∧ j < n ∧ (j : Int) < 2147483648) (hr : E r = some (.inr (9, fs))) (hd : decode cc pc = .ok (.aastore, 1)) (kk : ∀ E1 : Wd, E1 o = some (AS (fG X) n (upO g j (some r))) → (∀ j, j ≠ o → E1 j = E j) → V X E1 z (pc + 1) ls st) : V X E z pc ls (.ref (gb (fG X) + r) :: .int (iI i) :: .ref (gb (fG X) + o) :: st) := by
  intro H locs L h1
  obtain ⟨e1, e2⟩ := iI_in hj.1 hj.2.1 hj.2.2
  have h0 : ¬ iI i < 0 := fun q => e1 (Or.inl q)
  have hK := cx.2.2.2.2.1.1
  obtain ⟨r', hr', cellV, g1, g2, g3, -⟩ := h1.1 r _ hr
  have hcls := (hK.1 9 _ rfl).2
  obtain ⟨kA, comp, k1, k2, k3, -⟩ := (hK.2 3 _ rfl).2
  have hcomp : comp = (gD (fG X)).1 9 := Option.some.inj (k3.symm.trans hcls.1)
  subst hcomp
  obtain ⟨kC, hkC, -⟩ := hcls.2
  refine W.aast cx.1 cx.2.1 (h1.1 o _ he) (fun q h => by cases h) (fun h => by cases h) k1 k2 rfl hkC ⟨h0, by show _ < (arrV _ _ _).slots.size; rw [arrV_size, e2]; exact hj.2.1⟩ g1 (fun q h => by rw [g3] at h; cases h) (by rw [g2]; exact hkC) (by rw [g2]; exact va_assign hcls) rfl rfl hd fun H1 e z1 oq => ?_
  refine kk _ upW_s upW_n H1 _ L ⟨h1.1.upd ?_ oq, by rw [z1]; exact h1.2.1, h1.2.2.1.put z1 oq gO_o, h1.2.2.2⟩
  show H1[_]? = some (vp_cell _ _)
  rw [e, e2]
  rw [vp_cell_q, vp_cell_q, arrV_store]
  congr 2
  funext q
  by_cases hq : q = j
  · subst hq
    simp [updV, upO, va_rf]
  · simp [updV, upO, hq]
theorem v_getstatic (cx : Cx X cc ow) {idx : Nat} (i : Nat) (hi : i < 3) (hl : Cond.fieldLink ow idx RX11 (tbN i) "[I" ∈ TB) (hd : decode cc pc = .ok (.getstatic idx, 3)) (kk : V X E z (pc + 3) ls (.ref (gT (fG X) i) :: st)) : V X E z pc ls st := by
  intro H locs L h1
  exact va_gets cx.1 cx.2.1 (cx.2.2.2.2.1.2.1 i hi).1 h1.2.2.1 cx.2.2.1 (cx.2.2.2.1 _ hl) (fun _ h => h) hd (kk H locs L h1)
theorem v_tload (cx : Cx X cc ow) {i : Nat} {a : Int} (j : Nat) (hi : i < 3) (hj : a = (j : Int) ∧ j < 8 ∧ (j : Int) < 2147483648) (hd : decode cc pc = .ok (.iaload, 1)) (kk : V X E z (pc + 1) ls (.int (iI (tbV i j)) :: st)) : V X E z pc ls (.int (iI a) :: .ref (gT (fG X) i) :: st) := by
  intro H locs L h1
  obtain ⟨e1, e2⟩ := iI_in hj.1 hj.2.1 hj.2.2
  exact va_ti cx.1 cx.2.1 (cx.2.2.2.2.1.2.1 i hi).2 h1.2.2.1 e1 (by rw [e2]) hd (kk H locs L h1)
theorem v_tlen (cx : Cx X cc ow) {i : Nat} (hi : i < 3) (hd : decode cc pc = .ok (.arraylength, 1)) (kk : V X E z (pc + 1) ls (.int (iI 8) :: st)) : V X E z pc ls (.ref (gT (fG X) i) :: st) := by
  intro H locs L h1
  exact va_tlen cx.1 cx.2.1 (cx.2.2.2.2.1.2.1 i hi).2 h1.2.2.1 rfl hd (kk H locs L h1)
end Mem
