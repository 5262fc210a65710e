/-! what the calls do, over the abstract state: the recorder, the history, the text -/
abbrev Fs : Type := Sg × List Sg × List Int
def k1 (L : List (Int × Int × Int)) (j : Nat) : Int := (L.getD j d3).1
def k2 (L : List (Int × Int × Int)) (j : Nat) : Int := (L.getD j d3).2.1
def k3 (L : List (Int × Int × Int)) (j : Nat) : Int := (L.getD j d3).2.2
def g1 (L : List (Int × Int)) (j : Nat) : Int := (L.getD j d2).1
def g2 (L : List (Int × Int)) (j : Nat) : Int := (L.getD j d2).2
def insI (L : List (Int × Int × Int)) (x : Int) : Nat := insP (k1 L) x L.length
def insL (L : List (Int × Int × Int)) (x : Int × Int × Int) : List (Int × Int × Int) := lst (insF (k1 L) (insI L x.1) L.length x.1) (insF (k2 L) (insI L x.1) L.length x.2.1) (insF (k3 L) (insI L x.1) L.length x.2.2) (L.length + 1)
def delL (L : List (Int × Int × Int)) (k : Nat) : List (Int × Int × Int) := lst (delF (k1 L) k L.length) (delF (k2 L) k L.length) (delF (k3 L) k L.length) (L.length - 1)
def delG (L : List (Int × Int)) (k : Nat) : List (Int × Int) := lst2 (delF (g1 L) k L.length) (delF (g2 L) k L.length) (L.length - 1)
theorem k_lst {b l r : Nat → Int} {m j : Nat} (h : j < m) : k1 (lst b l r m) j = b j ∧ k2 (lst b l r m) j = l j ∧ k3 (lst b l r m) j = r j := by
  unfold k1 k2 k3
  rw [lst_at h]
  exact ⟨rfl, rfl, rfl⟩
theorem g_lst {f s : Nat → Int} {m j : Nat} (h : j < m) : g1 (lst2 f s m) j = f j ∧ g2 (lst2 f s m) j = s j := by
  unfold g1 g2
  rw [lst2_at h]
  exact ⟨rfl, rfl⟩
theorem insP_ext {b b' : Nat → Int} {x : Int} : ∀ m, (∀ j, j < m → b j = b' j) → insP b x m = insP b' x m := by
  intro m
  induction m with
  | zero => intro _; rfl
  | succ m ih =>
    intro h
    simp only [insP]
    rw [ih (fun j hj => h j (by omega)), h m (by omega)]
theorem insI_lst {b l r : Nat → Int} {m : Nat} {x : Int} : insI (lst b l r m) x = insP b x m := by
  unfold insI
  rw [lst_len]
  exact insP_ext m (fun j hj => (k_lst hj).1)
theorem insF_ext {f g : Nat → Int} {p m j : Nat} {x : Int} (h : ∀ j, j < m → f j = g j) (hp : p ≤ m) (hj : j < m + 1) : insF f p m x j = insF g p m x j := by
  unfold insF
  by_cases h1 : j < p
  · rw [if_pos h1, if_pos h1, h j (by omega)]
  · rw [if_neg h1, if_neg h1]
    by_cases h2 : j = p
    · rw [if_pos h2, if_pos h2]
    · rw [if_neg h2, if_neg h2, if_pos (by omega), if_pos (by omega), h (j - 1) (by omega)]
theorem insL_lst {b l r : Nat → Int} {m : Nat} {x y w : Int} : insL (lst b l r m) (x, y, w) = lst (insF b (insP b x m) m x) (insF l (insP b x m) m y) (insF r (insP b x m) m w) (m + 1) := by
  unfold insL
  simp only [insI_lst, lst_len]
  have hp := insP_le b x m
  exact lst_ext (fun j hj => ⟨insF_ext (fun i hi => (k_lst hi).1) hp hj, insF_ext (fun i hi => (k_lst hi).2.1) hp hj, insF_ext (fun i hi => (k_lst hi).2.2) hp hj⟩)
theorem delF_ext {f g : Nat → Int} {k m j : Nat} (h : ∀ j, j < m → f j = g j) (hj : j < m - 1) : delF f k m j = delF g k m j := by
  unfold delF
  by_cases h1 : k ≤ j ∧ j + 1 < m
  · rw [if_pos h1, if_pos h1, h (j + 1) (by omega)]
  · rw [if_neg h1, if_neg h1, h j (by omega)]
theorem delL_lst {b l r : Nat → Int} {m k : Nat} : delL (lst b l r m) k = lst (delF b k m) (delF l k m) (delF r k m) (m - 1) := by
  unfold delL
  simp only [lst_len]
  exact lst_ext (fun j hj => ⟨delF_ext (fun i hi => (k_lst hi).1) hj, delF_ext (fun i hi => (k_lst hi).2.1) hj, delF_ext (fun i hi => (k_lst hi).2.2) hj⟩)
theorem delG_lst {f s : Nat → Int} {m k : Nat} : delG (lst2 f s m) k = lst2 (delF f k m) (delF s k m) (m - 1) := by
  unfold delG
  simp only [lst2_len]
  exact lst2_ext (fun j hj => ⟨delF_ext (fun i hi => (g_lst hi).1) hj, delF_ext (fun i hi => (g_lst hi).2) hj⟩)
theorem insL_mem {L : List (Int × Int × Int)} {x : Int × Int × Int} : ∀ z ∈ insL L x, z = x ∨ z ∈ L := by
  intro z hz
  unfold insL lst at hz
  obtain ⟨j, hj, rfl⟩ := List.mem_map.mp hz
  have hj := List.mem_range.mp hj
  have hp : insI L x.1 ≤ L.length := insP_le _ _ _
  have hm : ∀ i, i < L.length → (k1 L i, k2 L i, k3 L i) ∈ L := by
    intro i hi
    unfold k1 k2 k3
    rw [List.getD_eq_getElem?_getD, List.getElem?_eq_getElem hi]
    exact List.getElem_mem hi
  unfold insF
  by_cases h1 : j < insI L x.1
  · right
    simp only [if_pos h1]
    exact hm j (by omega)
  · by_cases h2 : j = insI L x.1
    · left
      simp only [if_neg h1, if_pos h2]
    · right
      simp only [if_neg h1, if_neg h2, if_pos (show j ≤ L.length by omega)]
      exact hm (j - 1) (by omega)
theorem insL_len {L : List (Int × Int × Int)} {x : Int × Int × Int} : (insL L x).length = L.length + 1 := by unfold insL; rw [lst_len]
theorem delL_mem {L : List (Int × Int × Int)} {k : Nat} : ∀ z ∈ delL L k, z ∈ L := by
  intro z hz
  unfold delL lst at hz
  obtain ⟨j, hj, rfl⟩ := List.mem_map.mp hz
  have hj := List.mem_range.mp hj
  have hm : ∀ i, i < L.length → (k1 L i, k2 L i, k3 L i) ∈ L := by
    intro i hi
    unfold k1 k2 k3
    rw [List.getD_eq_getElem?_getD, List.getElem?_eq_getElem hi]
    exact List.getElem_mem hi
  unfold delF
  by_cases h1 : k ≤ j ∧ j + 1 < L.length
  · simp only [if_pos h1]
    exact hm (j + 1) h1.2
  · simp only [if_neg h1]
    exact hm j (by omega)
theorem delL_len {L : List (Int × Int × Int)} {k : Nat} : (delL L k).length = L.length - 1 := by unfold delL; rw [lst_len]
theorem delG_mem {L : List (Int × Int)} {k : Nat} : ∀ z ∈ delG L k, z ∈ L := by
  intro z hz
  unfold delG lst2 at hz
  obtain ⟨j, hj, rfl⟩ := List.mem_map.mp hz
  have hj := List.mem_range.mp hj
  have hm : ∀ i, i < L.length → (g1 L i, g2 L i) ∈ L := by
    intro i hi
    unfold g1 g2
    rw [List.getD_eq_getElem?_getD, List.getElem?_eq_getElem hi]
    exact List.getElem_mem hi
  unfold delF
  by_cases h1 : k ≤ j ∧ j + 1 < L.length
  · simp only [if_pos h1]
    exact hm (j + 1) h1.2
  · simp only [if_neg h1]
    exact hm j (by omega)
theorem delG_len {L : List (Int × Int)} {k : Nat} : (delG L k).length = L.length - 1 := by unfold delG; rw [lst2_len]
/-! what always holds of the whole -/
def okX (Ψ : Fs) : Prop := ok Ψ.1 ∧ (Ψ.2.1.length ≤ 5 ∧ ∀ τ ∈ Ψ.2.1, ok τ) ∧ okTx Ψ.2.2
theorem ok_keep {hs : List Sg} {σ : Sg} (h : hs.length ≤ 5 ∧ ∀ τ ∈ hs, ok τ) (hσ : ok σ) : (keepH hs σ).length ≤ 5 ∧ ∀ τ ∈ keepH hs σ, ok τ := by
  unfold keepH
  refine ⟨?_, fun τ hτ => ?_⟩
  · rw [List.length_append, List.length_singleton]
    split
    · rw [List.length_tail]; omega
    · omega
  · rcases List.mem_append.mp hτ with h1 | h1
    · split at h1
      · exact h.2 τ (List.mem_of_mem_tail h1)
      · exact h.2 τ h1
    · rw [List.mem_singleton.mp h1]; exact hσ
/-- the class's object, its parts at their places -/
def isX (G : Gc) (E : Wd) (Ψ : Fs) : Prop :=
  E 0 = some (.inr (11, [.ref (gb G + 1), .ref (gb G + 17), .ref (gb G + 33), .ref (gb G + 115), .ref (gb G + 118), .ref (gb G + 120)])) ∧ isS G E 1 Ψ.1 ∧ (∃ τ, isS G E 17 τ) ∧ isH G E 33 Ψ.2.1 ∧ (∃ k lf dy, rOl G E 115 k lf dy) ∧ isTx G E 118 Ψ.2.2 ∧ (∃ sz pos rea nxt b l r, rRd G E 120 sz pos rea nxt b l r)
theorem isX.out {G : Gc} {E E' : Wd} {Ψ : Fs} {x y : Nat} (h : isX G E Ψ) (hE : Out E E' x y) (hxy : 124 ≤ x) : isX G E' Ψ := by
  obtain ⟨h0, h1, ⟨τ, h2⟩, h3, ⟨k, lf, dy, h4⟩, h5, ⟨sz, pos, rea, nxt, b, l, r, h6⟩⟩ := h
  exact ⟨(hE _ (by omega)).trans h0, h1.out hE (by omega), ⟨τ, h2.out hE (by omega)⟩, h3.out hE (by omega), ⟨k, lf, dy, h4.out hE (by omega)⟩, h5.out hE (by omega), ⟨sz, pos, rea, nxt, b, l, r, h6.out hE (by omega)⟩⟩
/-- all but the state at 1 and the history -/
def isXr (G : Gc) (E : Wd) (tx : List Int) : Prop :=
  E 0 = some (.inr (11, [.ref (gb G + 1), .ref (gb G + 17), .ref (gb G + 33), .ref (gb G + 115), .ref (gb G + 118), .ref (gb G + 120)])) ∧ (∃ τ, isS G E 17 τ) ∧ (∃ k lf dy, rOl G E 115 k lf dy) ∧ isTx G E 118 tx ∧ (∃ sz pos rea nxt b l r, rRd G E 120 sz pos rea nxt b l r)
theorem isX.split {G : Gc} {E : Wd} {Ψ : Fs} (h : isX G E Ψ) : isXr G E Ψ.2.2 ∧ isS G E 1 Ψ.1 ∧ isH G E 33 Ψ.2.1 := ⟨⟨h.1, h.2.2.1, h.2.2.2.2.1, h.2.2.2.2.2.1, h.2.2.2.2.2.2⟩, h.2.1, h.2.2.2.1⟩
theorem isX.join {G : Gc} {E : Wd} {σ : Sg} {hs : List Sg} {tx : List Int} (h : isXr G E tx) (h1 : isS G E 1 σ) (h2 : isH G E 33 hs) : isX G E (σ, hs, tx) := ⟨h.1, h1, h.2.1, h2, h.2.2.1, h.2.2.2.1, h.2.2.2.2⟩
theorem isXr.out {G : Gc} {E E' : Wd} {tx : List Int} {x y : Nat} (h : isXr G E tx) (hE : Out E E' x y) (hxy : (1 ≤ x ∧ y ≤ 17) ∨ (33 ≤ x ∧ y ≤ 115)) : isXr G E' tx := by
  obtain ⟨h0, ⟨τ, h2⟩, ⟨k, lf, dy, h4⟩, h5, ⟨sz, pos, rea, nxt, b, l, r, h6⟩⟩ := h
  exact ⟨(hE _ (by omega)).trans h0, ⟨τ, h2.out hE (by omega)⟩, ⟨k, lf, dy, h4.out hE (by omega)⟩, h5.out hE (by omega), ⟨sz, pos, rea, nxt, b, l, r, h6.out hE (by omega)⟩⟩
theorem isH.obj {G : Gc} {E : Wd} {o : Nat} {hs : List Sg} (h : isH G E o hs) : E o = some (.inr (4, [.ref (gb G + (o + 1)), .int (iI (hs.length : Int))])) := by
  obtain ⟨a, h⟩ := h
  exact h.1
