/-! the text, and what it says -/
def rTx (G : Gc) (E : Wd) (o : Nat) (n : Nat) (ch : Nat → Int) : Prop :=
  E o = some (.inr (10, [.ref (gb G + (o + 1)), .int (iI (n : Int))])) ∧ E (o + 1) = some (AC G 100 ch)
theorem rTx.out {G : Gc} {E E' : Wd} {o n : Nat} {ch : Nat → Int} {x y : Nat} (h : rTx G E o n ch) (hE : Out E E' x y) (hxy : o + 2 ≤ x ∨ y ≤ o) : rTx G E' o n ch :=
  ⟨(hE _ (by omega)).trans h.1, (hE _ (by omega)).trans h.2⟩
/-- the sign at a place, 0 behind the end -/
def chr (tx : List Int) (p : Nat) : Int := tx.getD p 0
def okTx (tx : List Int) : Prop := tx.length ≤ 100 ∧ ∀ c ∈ tx, 32 ≤ c ∧ c ≤ 126
def isTx (G : Gc) (E : Wd) (o : Nat) (tx : List Int) : Prop := ∃ ch, rTx G E o tx.length ch ∧ ∀ j, j < tx.length → ch j = chr tx j
theorem isTx.out {G : Gc} {E E' : Wd} {o : Nat} {tx : List Int} {x y : Nat} (h : isTx G E o tx) (hE : Out E E' x y) (hxy : o + 2 ≤ x ∨ y ≤ o) : isTx G E' o tx := by
  obtain ⟨ch, h1, h2⟩ := h
  exact ⟨ch, h1.out hE hxy, h2⟩
theorem isTx.obj {G : Gc} {E : Wd} {o : Nat} {tx : List Int} (h : isTx G E o tx) : ∃ fs, E o = some (.inr (10, fs)) := by
  obtain ⟨ch, h1, h2⟩ := h
  exact ⟨_, h1.1⟩
theorem chr_out {tx : List Int} {p : Nat} (h : tx.length ≤ p) : chr tx p = 0 := by
  unfold chr
  rw [List.getD_eq_getElem?_getD, List.getElem?_eq_none h]
  rfl
theorem chr_bd {tx : List Int} (h : okTx tx) (p : Nat) : chr tx p = 0 ∨ (32 ≤ chr tx p ∧ chr tx p ≤ 126) := by
  by_cases hp : p < tx.length
  · right
    have : chr tx p = tx[p] := by
      unfold chr
      rw [List.getD_eq_getElem?_getD, List.getElem?_eq_getElem hp]
      rfl
    rw [this]
    exact h.2 _ (List.getElem_mem hp)
  · left
    exact chr_out (by omega)
theorem nar_char {x : Int} (h : 0 ≤ x ∧ x < 65536) : narrow .char (.int (iI x)) = .int (iI x) := by
  obtain ⟨k, rfl⟩ := Int.eq_ofNat_of_zero_le h.1
  rw [iI_nI]
  exact (pk_charN (by omega)).1
def dgs (tx : List Int) : Nat → Nat → Nat
  | 0, _ => 0
  | k + 1, p => if 48 ≤ chr tx p ∧ chr tx p ≤ 57 then dgs tx k (p + 1) + 1 else 0
def nval (tx : List Int) (p : Nat) : Nat → Int
  | 0 => 0
  | k + 1 => 10 * nval tx p k + (chr tx (p + k) - 48)
def tkRe (tx : List Int) (p : Nat) (sg : Int) : Int := if dgs tx 4 p = 0 then 1 else if chr tx (p + dgs tx 4 p) = sg then 0 else 2
def nx (tx : List Int) (p : Nat) : Nat := p + dgs tx 4 p + 1
def nv (tx : List Int) (p : Nat) : Int := nval tx p (dgs tx 4 p)
theorem dgs_le (tx : List Int) : ∀ k p, dgs tx k p ≤ k := by
  intro k
  induction k with
  | zero => intro p; exact Nat.le_refl _
  | succ k ih =>
    intro p
    simp only [dgs]
    split
    · have := ih (p + 1); omega
    · omega
theorem dgs_all (tx : List Int) : ∀ k p j, j < dgs tx k p → 48 ≤ chr tx (p + j) ∧ chr tx (p + j) ≤ 57 := by
  intro k
  induction k with
  | zero => intro p j hj; simp [dgs] at hj
  | succ k ih =>
    intro p j hj
    simp only [dgs] at hj
    split at hj
    · rename_i h
      cases j with
      | zero => exact h
      | succ j =>
        have := ih (p + 1) j (by omega)
        rw [show p + (j + 1) = p + 1 + j by omega]
        exact this
    · omega
theorem nval_bd (tx : List Int) (p : Nat) : ∀ k, (∀ j, j < k → 48 ≤ chr tx (p + j) ∧ chr tx (p + j) ≤ 57) → 0 ≤ nval tx p k ∧ nval tx p k < 10 ^ k := by
  intro k
  induction k with
  | zero => intro _; simp [nval]
  | succ k ih =>
    intro h
    have h1 := ih (fun j hj => h j (by omega))
    have h2 := h k (by omega)
    simp only [nval]
    rw [Int.pow_succ]
    generalize (10 : Int) ^ k = w at *
    omega
theorem nv_bd (tx : List Int) (p : Nat) : 0 ≤ nv tx p ∧ nv tx p ≤ 9999 := by
  have h := nval_bd tx p (dgs tx 4 p) (fun j hj => dgs_all tx 4 p j hj)
  have h2 := dgs_le tx 4 p
  unfold nv
  have : dgs tx 4 p = 0 ∨ dgs tx 4 p = 1 ∨ dgs tx 4 p = 2 ∨ dgs tx 4 p = 3 ∨ dgs tx 4 p = 4 := by omega
  rcases this with e | e | e | e | e <;> rw [e] at h ⊢ <;> simp at h <;> omega
def rRd (G : Gc) (E : Wd) (o : Nat) (sz pos rea nxt : Int) (b l r : Nat → Int) : Prop :=
  E o = some (.inr (7, [.ref (gb G + (o + 1)), .ref (gb G + (o + 2)), .ref (gb G + (o + 3)), .int (iI sz), .int (iI pos), .int (iI rea), .int (iI nxt)])) ∧ E (o + 1) = some (AI G 12 b) ∧ E (o + 2) = some (AI G 12 l) ∧ E (o + 3) = some (AI G 12 r)
theorem rRd.out {G : Gc} {E E' : Wd} {o : Nat} {sz pos rea nxt : Int} {b l r : Nat → Int} {x y : Nat} (h : rRd G E o sz pos rea nxt b l r) (hE : Out E E' x y) (hxy : o + 4 ≤ x ∨ y ≤ o) : rRd G E' o sz pos rea nxt b l r :=
  ⟨(hE _ (by omega)).trans h.1, (hE _ (by omega)).trans h.2.1, (hE _ (by omega)).trans h.2.2.1, (hE _ (by omega)).trans h.2.2.2⟩