/-! the reference: one tick -/
def sc (d : Nat → Int) (a0 a1 a2 a3 a4 a5 a6 a7 a8 a9 a10 : Int) (d0 : Nat → Int) (L : List (Int × Int × Int)) : Prop :=
  (d 0 = a0 ∧ d 1 = a1 ∧ d 2 = a2 ∧ d 3 = a3 ∧ d 4 = a4 ∧ d 5 = a5 ∧ d 6 = a6 ∧ d 7 = a7 ∧ d 8 = a8 ∧ d 9 = a9 ∧ d 10 = a10) ∧ (∀ i, 11 ≤ i → i < 63 → d i = d0 i) ∧ d 63 = (L.length : Int) ∧ lst (ar d 64) (ar d 124) (ar d 184) L.length = L
theorem sc_far {d d0 : Nat → Int} {L : List (Int × Int × Int)} {k : Nat} {x : Int} (h : (∀ i, 11 ≤ i → i < 63 → d i = d0 i) ∧ d 63 = (L.length : Int) ∧ lst (ar d 64) (ar d 124) (ar d 184) L.length = L) (hk : k < 11) : (∀ i, 11 ≤ i → i < 63 → upI d k x i = d0 i) ∧ upI d k x 63 = (L.length : Int) ∧ lst (ar (upI d k x) 64) (ar (upI d k x) 124) (ar (upI d k x) 184) L.length = L :=
  ⟨fun i h1 h2 => (upI_n (by omega)).trans (h.1 i h1 h2), (upI_n (by omega)).trans h.2.1, (lst_ext (fun j _ => ⟨upI_n (by omega), upI_n (by omega), upI_n (by omega)⟩)).trans h.2.2⟩
theorem sc_0 {d d0 : Nat → Int} {a0 a1 a2 a3 a4 a5 a6 a7 a8 a9 a10 x y : Int} {L : List (Int × Int × Int)} (h : sc d a0 a1 a2 a3 a4 a5 a6 a7 a8 a9 a10 d0 L) (hx : x = y) : sc (upI d 0 x) y a1 a2 a3 a4 a5 a6 a7 a8 a9 a10 d0 L := by
  obtain ⟨⟨e0, e1, e2, e3, e4, e5, e6, e7, e8, e9, e10⟩, h2⟩ := h
  exact ⟨⟨upI_s.trans hx, (upI_n (by decide)).trans e1, (upI_n (by decide)).trans e2, (upI_n (by decide)).trans e3, (upI_n (by decide)).trans e4, (upI_n (by decide)).trans e5, (upI_n (by decide)).trans e6, (upI_n (by decide)).trans e7, (upI_n (by decide)).trans e8, (upI_n (by decide)).trans e9, (upI_n (by decide)).trans e10⟩, sc_far h2 (by omega)⟩
theorem sc_1 {d d0 : Nat → Int} {a0 a1 a2 a3 a4 a5 a6 a7 a8 a9 a10 x y : Int} {L : List (Int × Int × Int)} (h : sc d a0 a1 a2 a3 a4 a5 a6 a7 a8 a9 a10 d0 L) (hx : x = y) : sc (upI d 1 x) a0 y a2 a3 a4 a5 a6 a7 a8 a9 a10 d0 L := by
  obtain ⟨⟨e0, e1, e2, e3, e4, e5, e6, e7, e8, e9, e10⟩, h2⟩ := h
  exact ⟨⟨(upI_n (by decide)).trans e0, upI_s.trans hx, (upI_n (by decide)).trans e2, (upI_n (by decide)).trans e3, (upI_n (by decide)).trans e4, (upI_n (by decide)).trans e5, (upI_n (by decide)).trans e6, (upI_n (by decide)).trans e7, (upI_n (by decide)).trans e8, (upI_n (by decide)).trans e9, (upI_n (by decide)).trans e10⟩, sc_far h2 (by omega)⟩
theorem sc_2 {d d0 : Nat → Int} {a0 a1 a2 a3 a4 a5 a6 a7 a8 a9 a10 x y : Int} {L : List (Int × Int × Int)} (h : sc d a0 a1 a2 a3 a4 a5 a6 a7 a8 a9 a10 d0 L) (hx : x = y) : sc (upI d 2 x) a0 a1 y a3 a4 a5 a6 a7 a8 a9 a10 d0 L := by
  obtain ⟨⟨e0, e1, e2, e3, e4, e5, e6, e7, e8, e9, e10⟩, h2⟩ := h
  exact ⟨⟨(upI_n (by decide)).trans e0, (upI_n (by decide)).trans e1, upI_s.trans hx, (upI_n (by decide)).trans e3, (upI_n (by decide)).trans e4, (upI_n (by decide)).trans e5, (upI_n (by decide)).trans e6, (upI_n (by decide)).trans e7, (upI_n (by decide)).trans e8, (upI_n (by decide)).trans e9, (upI_n (by decide)).trans e10⟩, sc_far h2 (by omega)⟩
theorem sc_3 {d d0 : Nat → Int} {a0 a1 a2 a3 a4 a5 a6 a7 a8 a9 a10 x y : Int} {L : List (Int × Int × Int)} (h : sc d a0 a1 a2 a3 a4 a5 a6 a7 a8 a9 a10 d0 L) (hx : x = y) : sc (upI d 3 x) a0 a1 a2 y a4 a5 a6 a7 a8 a9 a10 d0 L := by
  obtain ⟨⟨e0, e1, e2, e3, e4, e5, e6, e7, e8, e9, e10⟩, h2⟩ := h
  exact ⟨⟨(upI_n (by decide)).trans e0, (upI_n (by decide)).trans e1, (upI_n (by decide)).trans e2, upI_s.trans hx, (upI_n (by decide)).trans e4, (upI_n (by decide)).trans e5, (upI_n (by decide)).trans e6, (upI_n (by decide)).trans e7, (upI_n (by decide)).trans e8, (upI_n (by decide)).trans e9, (upI_n (by decide)).trans e10⟩, sc_far h2 (by omega)⟩
theorem sc_4 {d d0 : Nat → Int} {a0 a1 a2 a3 a4 a5 a6 a7 a8 a9 a10 x y : Int} {L : List (Int × Int × Int)} (h : sc d a0 a1 a2 a3 a4 a5 a6 a7 a8 a9 a10 d0 L) (hx : x = y) : sc (upI d 4 x) a0 a1 a2 a3 y a5 a6 a7 a8 a9 a10 d0 L := by
  obtain ⟨⟨e0, e1, e2, e3, e4, e5, e6, e7, e8, e9, e10⟩, h2⟩ := h
  exact ⟨⟨(upI_n (by decide)).trans e0, (upI_n (by decide)).trans e1, (upI_n (by decide)).trans e2, (upI_n (by decide)).trans e3, upI_s.trans hx, (upI_n (by decide)).trans e5, (upI_n (by decide)).trans e6, (upI_n (by decide)).trans e7, (upI_n (by decide)).trans e8, (upI_n (by decide)).trans e9, (upI_n (by decide)).trans e10⟩, sc_far h2 (by omega)⟩
theorem sc_5 {d d0 : Nat → Int} {a0 a1 a2 a3 a4 a5 a6 a7 a8 a9 a10 x y : Int} {L : List (Int × Int × Int)} (h : sc d a0 a1 a2 a3 a4 a5 a6 a7 a8 a9 a10 d0 L) (hx : x = y) : sc (upI d 5 x) a0 a1 a2 a3 a4 y a6 a7 a8 a9 a10 d0 L := by
  obtain ⟨⟨e0, e1, e2, e3, e4, e5, e6, e7, e8, e9, e10⟩, h2⟩ := h
  exact ⟨⟨(upI_n (by decide)).trans e0, (upI_n (by decide)).trans e1, (upI_n (by decide)).trans e2, (upI_n (by decide)).trans e3, (upI_n (by decide)).trans e4, upI_s.trans hx, (upI_n (by decide)).trans e6, (upI_n (by decide)).trans e7, (upI_n (by decide)).trans e8, (upI_n (by decide)).trans e9, (upI_n (by decide)).trans e10⟩, sc_far h2 (by omega)⟩
theorem sc_6 {d d0 : Nat → Int} {a0 a1 a2 a3 a4 a5 a6 a7 a8 a9 a10 x y : Int} {L : List (Int × Int × Int)} (h : sc d a0 a1 a2 a3 a4 a5 a6 a7 a8 a9 a10 d0 L) (hx : x = y) : sc (upI d 6 x) a0 a1 a2 a3 a4 a5 y a7 a8 a9 a10 d0 L := by
  obtain ⟨⟨e0, e1, e2, e3, e4, e5, e6, e7, e8, e9, e10⟩, h2⟩ := h
  exact ⟨⟨(upI_n (by decide)).trans e0, (upI_n (by decide)).trans e1, (upI_n (by decide)).trans e2, (upI_n (by decide)).trans e3, (upI_n (by decide)).trans e4, (upI_n (by decide)).trans e5, upI_s.trans hx, (upI_n (by decide)).trans e7, (upI_n (by decide)).trans e8, (upI_n (by decide)).trans e9, (upI_n (by decide)).trans e10⟩, sc_far h2 (by omega)⟩
theorem sc_7 {d d0 : Nat → Int} {a0 a1 a2 a3 a4 a5 a6 a7 a8 a9 a10 x y : Int} {L : List (Int × Int × Int)} (h : sc d a0 a1 a2 a3 a4 a5 a6 a7 a8 a9 a10 d0 L) (hx : x = y) : sc (upI d 7 x) a0 a1 a2 a3 a4 a5 a6 y a8 a9 a10 d0 L := by
  obtain ⟨⟨e0, e1, e2, e3, e4, e5, e6, e7, e8, e9, e10⟩, h2⟩ := h
  exact ⟨⟨(upI_n (by decide)).trans e0, (upI_n (by decide)).trans e1, (upI_n (by decide)).trans e2, (upI_n (by decide)).trans e3, (upI_n (by decide)).trans e4, (upI_n (by decide)).trans e5, (upI_n (by decide)).trans e6, upI_s.trans hx, (upI_n (by decide)).trans e8, (upI_n (by decide)).trans e9, (upI_n (by decide)).trans e10⟩, sc_far h2 (by omega)⟩
theorem sc_8 {d d0 : Nat → Int} {a0 a1 a2 a3 a4 a5 a6 a7 a8 a9 a10 x y : Int} {L : List (Int × Int × Int)} (h : sc d a0 a1 a2 a3 a4 a5 a6 a7 a8 a9 a10 d0 L) (hx : x = y) : sc (upI d 8 x) a0 a1 a2 a3 a4 a5 a6 a7 y a9 a10 d0 L := by
  obtain ⟨⟨e0, e1, e2, e3, e4, e5, e6, e7, e8, e9, e10⟩, h2⟩ := h
  exact ⟨⟨(upI_n (by decide)).trans e0, (upI_n (by decide)).trans e1, (upI_n (by decide)).trans e2, (upI_n (by decide)).trans e3, (upI_n (by decide)).trans e4, (upI_n (by decide)).trans e5, (upI_n (by decide)).trans e6, (upI_n (by decide)).trans e7, upI_s.trans hx, (upI_n (by decide)).trans e9, (upI_n (by decide)).trans e10⟩, sc_far h2 (by omega)⟩
theorem sc_9 {d d0 : Nat → Int} {a0 a1 a2 a3 a4 a5 a6 a7 a8 a9 a10 x y : Int} {L : List (Int × Int × Int)} (h : sc d a0 a1 a2 a3 a4 a5 a6 a7 a8 a9 a10 d0 L) (hx : x = y) : sc (upI d 9 x) a0 a1 a2 a3 a4 a5 a6 a7 a8 y a10 d0 L := by
  obtain ⟨⟨e0, e1, e2, e3, e4, e5, e6, e7, e8, e9, e10⟩, h2⟩ := h
  exact ⟨⟨(upI_n (by decide)).trans e0, (upI_n (by decide)).trans e1, (upI_n (by decide)).trans e2, (upI_n (by decide)).trans e3, (upI_n (by decide)).trans e4, (upI_n (by decide)).trans e5, (upI_n (by decide)).trans e6, (upI_n (by decide)).trans e7, (upI_n (by decide)).trans e8, upI_s.trans hx, (upI_n (by decide)).trans e10⟩, sc_far h2 (by omega)⟩
theorem sc_10 {d d0 : Nat → Int} {a0 a1 a2 a3 a4 a5 a6 a7 a8 a9 a10 x y : Int} {L : List (Int × Int × Int)} (h : sc d a0 a1 a2 a3 a4 a5 a6 a7 a8 a9 a10 d0 L) (hx : x = y) : sc (upI d 10 x) a0 a1 a2 a3 a4 a5 a6 a7 a8 a9 y d0 L := by
  obtain ⟨⟨e0, e1, e2, e3, e4, e5, e6, e7, e8, e9, e10⟩, h2⟩ := h
  exact ⟨⟨(upI_n (by decide)).trans e0, (upI_n (by decide)).trans e1, (upI_n (by decide)).trans e2, (upI_n (by decide)).trans e3, (upI_n (by decide)).trans e4, (upI_n (by decide)).trans e5, (upI_n (by decide)).trans e6, (upI_n (by decide)).trans e7, (upI_n (by decide)).trans e8, (upI_n (by decide)).trans e9, upI_s.trans hx⟩, sc_far h2 (by omega)⟩
def isD (d : Nat → Int) (σ : Sg) : Prop :=
  (∀ i, i < 19 → d i = σ.1 i) ∧ (d 19 = (σ.2.2.1.length : Int) ∧ lst2 (fun j => d (20 + 2 * j)) (fun j => d (21 + 2 * j)) σ.2.2.1.length = σ.2.2.1) ∧ (d 26 = (σ.2.1.length : Int) ∧ lst (ar d 27) (ar d 39) (ar d 51) σ.2.1.length = σ.2.1) ∧ d 63 = (σ.2.2.2.length : Int) ∧ lst (ar d 64) (ar d 124) (ar d 184) σ.2.2.2.length = σ.2.2.2
theorem isD.ext {d d' : Nat → Int} {σ : Sg} (h : isD d σ) (he : ∀ i, i < 244 → d' i = d i) (hk : ok σ) : isD d' σ := by
  obtain ⟨h1, ⟨h2, h3⟩, ⟨h4, h5⟩, h6, h7⟩ := h
  have n1 := hk.2.2.1.1
  have n2 := hk.2.2.2.1.1
  have n3 := hk.2.2.2.2.1
  exact ⟨fun i hi => (he i (by omega)).trans (h1 i hi), ⟨(he _ (by omega)).trans h2, (lst2_ext (fun j hj => ⟨he _ (by omega), he _ (by omega)⟩)).trans h3⟩, ⟨(he _ (by omega)).trans h4, (lst_ext (fun j hj => ⟨he _ (by omega), he _ (by omega), he _ (by omega)⟩)).trans h5⟩, (he _ (by omega)).trans h6, (lst_ext (fun j hj => ⟨he _ (by omega), he _ (by omega), he _ (by omega)⟩)).trans h7⟩
theorem k_of {L : List (Int × Int × Int)} {b l r : Nat → Int} (h : lst b l r L.length = L) {j : Nat} (hj : j < L.length) : b j = k1 L j ∧ l j = k2 L j ∧ r j = k3 L j := by
  have e := k_lst (b := b) (l := l) (r := r) hj
  rw [h] at e
  exact ⟨e.1.symm, e.2.1.symm, e.2.2.symm⟩
theorem g_of {L : List (Int × Int)} {f s : Nat → Int} (h : lst2 f s L.length = L) {j : Nat} (hj : j < L.length) : f j = g1 L j ∧ s j = g2 L j := by
  have e := g_lst (f := f) (s := s) hj
  rw [h] at e
  exact ⟨e.1.symm, e.2.symm⟩
theorem k_get {L : List (Int × Int × Int)} {j : Nat} (hj : j < L.length) : (k1 L j, k2 L j, k3 L j) = L[j] := by
  unfold k1 k2 k3
  rw [List.getD_eq_getElem?_getD, List.getElem?_eq_getElem hj]
  rfl
theorem g_get {L : List (Int × Int)} {j : Nat} (hj : j < L.length) : (g1 L j, g2 L j) = L[j] := by
  unfold g1 g2
  rw [List.getD_eq_getElem?_getD, List.getElem?_eq_getElem hj]
  rfl
theorem delL_er {L : List (Int × Int × Int)} {k : Nat} (h : k < L.length) : delL L k = L.eraseIdx k := by
  apply List.ext_getElem
  · rw [delL_len, List.length_eraseIdx_of_lt h]
  · intro j h1 h2
    rw [delL_len] at h1
    rw [List.getElem_eraseIdx]
    have e : (delL L k)[j]'(by rw [delL_len]; exact h1) = (delF (k1 L) k L.length j, delF (k2 L) k L.length j, delF (k3 L) k L.length j) := by
      rw [← k_get]
      exact congr (congrArg Prod.mk (k_lst h1).1) (congr (congrArg Prod.mk (k_lst h1).2.1) (k_lst h1).2.2)
    rw [e]
    unfold delF
    by_cases c : j < k
    · rw [dif_pos c, if_neg (by omega), if_neg (by omega), if_neg (by omega)]
      exact k_get (by omega)
    · rw [dif_neg c, if_pos (by omega), if_pos (by omega), if_pos (by omega)]
      exact k_get (by omega)
theorem delL_mid {A F : List (Int × Int × Int)} {x : Int × Int × Int} {k : Nat} (h : k = A.length) : delL (A ++ x :: F) k = A ++ F := by
  subst h
  rw [delL_er (by simp), List.eraseIdx_append_of_length_le (Nat.le_refl _)]
  simp
/-- the reference's showers behind the k-th, those that ended taken away -/
def cutL (L : List (Int × Int × Int)) (t : Int) (k : Nat) : List (Int × Int × Int) := L.take k ++ (L.drop k).filter (fun x => decide (t < x.1 + x.2.1))
theorem cutL_n (L : List (Int × Int × Int)) (t : Int) : cutL L t L.length = L := by
  unfold cutL
  rw [List.take_length, List.drop_length]
  simp
theorem cutL_0 (L : List (Int × Int × Int)) (t : Int) : cutL L t 0 = L.filter (fun x => decide (t < x.1 + x.2.1)) := by
  unfold cutL
  simp
theorem cutL_mid {L : List (Int × Int × Int)} {t : Int} {q : Nat} (hq : q < L.length) : cutL L t (q + 1) = L.take q ++ L[q] :: (L.drop (q + 1)).filter (fun x => decide (t < x.1 + x.2.1)) := by
  unfold cutL
  rw [List.take_succ_eq_append_getElem hq, List.append_assoc]
  rfl
theorem cutL_keep {L : List (Int × Int × Int)} {t : Int} {q : Nat} (hq : q < L.length) (h : t < k1 L q + k2 L q) : cutL L t q = cutL L t (q + 1) := by
  have e := k_get hq
  rw [cutL_mid hq]
  unfold cutL
  rw [List.drop_eq_getElem_cons hq, List.filter_cons_of_pos (by rw [← e]; exact decide_eq_true h)]
theorem cutL_drop {L : List (Int × Int × Int)} {t : Int} {q : Nat} (hq : q < L.length) (h : k1 L q + k2 L q ≤ t) : cutL L t q = delL (cutL L t (q + 1)) q := by
  have e := k_get hq
  rw [cutL_mid hq, delL_mid (by simp; omega)]
  unfold cutL
  rw [List.drop_eq_getElem_cons hq, List.filter_cons_of_neg (by rw [← e]; simp; omega)]
theorem cutL_len {L : List (Int × Int × Int)} {t : Int} {q : Nat} (hq : q ≤ L.length) : q ≤ (cutL L t q).length ∧ (cutL L t q).length ≤ L.length := by
  unfold cutL
  have := List.length_filter_le (fun x : Int × Int × Int => decide (t < x.1 + x.2.1)) (L.drop q)
  rw [List.length_append, List.length_take]
  rw [List.length_drop] at this
  omega
theorem cutL_at {L : List (Int × Int × Int)} {t : Int} {q : Nat} (hq : q < L.length) : k1 (cutL L t (q + 1)) q = k1 L q ∧ k2 (cutL L t (q + 1)) q = k2 L q := by
  have e : (cutL L t (q + 1)).getD q d3 = L.getD q d3 := by
    rw [cutL_mid hq, List.getD_eq_getElem?_getD, List.getD_eq_getElem?_getD, List.getElem?_append_right (by simp; omega)]
    simp [Nat.min_eq_left (Nat.le_of_lt hq), hq]
  unfold k1 k2
  rw [e]
  exact ⟨rfl, rfl⟩
