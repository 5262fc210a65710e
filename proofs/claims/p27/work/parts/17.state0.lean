/-! the abstract state: numbers (0 tick, 1 film, 2 content, 3 ticks of the tip, 4 reserve, 5 count, 6 fell, 7 tipped, 8 over, 9 lost, 10 dried, 11.. settings), showers, gears, marks -/
abbrev Sg : Type := (Nat → Int) × List (Int × Int × Int) × List (Int × Int) × List (Int × Int × Int)
def lst2 (f s : Nat → Int) (m : Nat) : List (Int × Int) := (List.range m).map (fun j => (f j, s j))
def rainL (L : List (Int × Int × Int)) (t : Int) : Int := (L.map (fun x => if x.1 ≤ t ∧ t < x.1 + x.2.1 then x.2.2 else 0)).sum
theorem rainTo_L {b l r : Nat → Int} {t : Int} : ∀ m, rainTo b l r t m = rainL (lst b l r m) t := by
  intro m
  induction m with
  | zero => rfl
  | succ m ih =>
    simp only [rainTo]
    rw [lst_succ, ih]
    simp [rainL, List.sum_append]
theorem lst_at {b l r : Nat → Int} {m j : Nat} (h : j < m) (d : Int × Int × Int) : (lst b l r m).getD j d = (b j, l j, r j) := by
  simp [lst, List.getD_eq_getElem?_getD, h]
theorem lst2_at {f s : Nat → Int} {m j : Nat} (h : j < m) (d : Int × Int) : (lst2 f s m).getD j d = (f j, s j) := by
  simp [lst2, List.getD_eq_getElem?_getD, h]
theorem lst2_len {f s : Nat → Int} {m : Nat} : (lst2 f s m).length = m := by simp [lst2]
theorem lst2_ext {f s f' s' : Nat → Int} {m : Nat} (h : ∀ j, j < m → f j = f' j ∧ s j = s' j) : lst2 f s m = lst2 f' s' m := by
  apply List.map_congr_left
  intro j hj
  obtain ⟨h1, h2⟩ := h j (List.mem_range.mp hj)
  rw [h1, h2]
abbrev d3 : Int × Int × Int := (0, 0, 0)
abbrev d2 : Int × Int := (0, 0)
theorem pL_ext {c : Int64} {f g : Nat → Int} : ∀ m, (∀ j, j < m → f j = g j) → pL c f m = pL c g m := by
  intro m
  induction m with
  | zero => intro _; rfl
  | succ m ih =>
    intro h
    simp only [pL]
    rw [ih (fun j hj => h j (by omega)), h m (by omega)]
theorem plc_ext {cn te : Int} {f s f' s' : Nat → Int} {m : Nat} (h : ∀ j, j < m → f j = f' j ∧ s j = s' j) : plc cn f s m te = plc cn f' s' m te := by
  unfold plc
  rw [pL_ext m (fun j hj => (h j hj).1), pL_ext m (fun j hj => (h j hj).2)]
def plG (ge : List (Int × Int)) (cn te : Int) : Int := plc cn (fun j => (ge.getD j d2).1) (fun j => (ge.getD j d2).2) ge.length te
theorem plG_lst {f s : Nat → Int} {m : Nat} {cn te : Int} : plG (lst2 f s m) cn te = plc cn f s m te := by
  unfold plG
  rw [lst2_len]
  exact plc_ext (fun j hj => by rw [lst2_at hj]; exact ⟨rfl, rfl⟩)
/-! one tick -/
def tkB (s : Nat → Int) (rain : Int) : BT := bS (rain - fTaken rain (s 13) (s 1)) (if rain = 0 then 1 else 0) (s 11) (s 12) (s 15) (s 2, s 3, s 7, s 8, s 9, 0)
def tkR (s : Nat → Int) (rain : Int) : Int := bR (rain - fTaken rain (s 13) (s 1)) (if rain = 0 then 1 else 0) (s 11) (s 15) (s 2, s 3, s 7, s 8, s 9, 0)
def tkS (s : Nat → Int) (rain : Int) : Nat → Int := fun i => match i with
  | 0 => s 0 + 1
  | 1 => s 1 + fTaken rain (s 13) (s 1) - fGone rain (s 13) (s 1) (s 14)
  | 2 => (tkB s rain).1
  | 3 => (tkB s rain).2.1
  | 4 => if 0 < s 4 then s 4 - 1 else s 4
  | 5 => if 0 < s 4 then s 5 + 1 else s 5
  | 6 => s 6 + rain
  | 7 => (tkB s rain).2.2.1
  | 8 => (tkB s rain).2.2.2.1
  | 9 => (tkB s rain).2.2.2.2.1
  | 10 => s 10 + fGone rain (s 13) (s 1) (s 14) + (tkB s rain).2.2.2.2.2
  | i + 11 => s (i + 11)
def tkRain (σ : Sg) : Int := rainL σ.2.1 (σ.1 0)
def tkTip (σ : Sg) : Int := tkR σ.1 (tkRain σ)
def tick (σ : Sg) : Sg := (tkS σ.1 (tkRain σ), σ.2.1.filter (fun x => decide (σ.1 0 + 1 < x.1 + x.2.1)), σ.2.2.1,
  if tkTip σ = -1 then σ.2.2.2 else addMk σ.2.2.2 (σ.1 0, plG σ.2.2.1 (σ.1 5) (σ.1 16), tkTip σ))
def ticks (σ : Sg) : Nat → Sg
  | 0 => σ
  | k + 1 => tick (ticks σ k)
def tips (σ : Sg) : Nat → Nat
  | 0 => 0
  | k + 1 => tips σ k + if tkTip (ticks σ k) = -1 then 0 else 1
/-! what always holds -/
def okSc (s : Nat → Int) : Prop :=
  (0 ≤ s 0 ∧ s 0 ≤ 5000) ∧ (0 ≤ s 1 ∧ s 1 ≤ 200) ∧ 0 ≤ s 2 ∧ (0 ≤ s 3 ∧ s 3 ≤ 20) ∧ (0 ≤ s 4 ∧ s 4 ≤ 2000) ∧ (0 ≤ s 5 ∧ s 5 ≤ s 0) ∧ (s 6 ≤ 2400 * s 0 ∧ 0 ≤ s 7 ∧ 0 ≤ s 8 ∧ 0 ≤ s 9 ∧ 0 ≤ s 10 ∧ s 6 = s 7 + s 8 + s 9 + s 10 + s 1 + s 2)
def okSe (s : Nat → Int) : Prop :=
  (20 ≤ s 11 ∧ s 11 ≤ 500) ∧ (0 ≤ s 12 ∧ s 12 ≤ 20) ∧ (0 ≤ s 13 ∧ s 13 ≤ 200) ∧ (0 ≤ s 14 ∧ s 14 ≤ 50) ∧ (0 ≤ s 15 ∧ s 15 ≤ 50) ∧ (10 ≤ s 16 ∧ s 16 ≤ 1000) ∧ (1 ≤ s 17 ∧ s 17 ≤ 2000) ∧ (1 ≤ s 18 ∧ s 18 ≤ 1000)
def okSh (L : List (Int × Int × Int)) : Prop := L.length ≤ 12 ∧ ∀ x ∈ L, (0 ≤ x.1 ∧ x.1 ≤ 5000) ∧ (1 ≤ x.2.1 ∧ x.2.1 ≤ 500) ∧ (1 ≤ x.2.2 ∧ x.2.2 ≤ 200)
def okGe (L : List (Int × Int)) : Prop := L.length ≤ 3 ∧ ∀ x ∈ L, (8 ≤ x.1 ∧ x.1 ≤ 120) ∧ (8 ≤ x.2 ∧ x.2 ≤ 120)
def okMk (L : List (Int × Int × Int)) (t0 : Int) : Prop := L.length ≤ 60 ∧ (∀ x ∈ L, 0 ≤ x.1 ∧ x.1 < t0) ∧ L.Pairwise (fun x y => x.1 < y.1)
def ok (σ : Sg) : Prop := okSc σ.1 ∧ okSe σ.1 ∧ okSh σ.2.1 ∧ okGe σ.2.2.1 ∧ okMk σ.2.2.2 (σ.1 0)
theorem rainL_bd {L : List (Int × Int × Int)} (h : ∀ x ∈ L, (0 ≤ x.1 ∧ x.1 ≤ 5000) ∧ (1 ≤ x.2.1 ∧ x.2.1 ≤ 500) ∧ (1 ≤ x.2.2 ∧ x.2.2 ≤ 200)) (t : Int) : 0 ≤ rainL L t ∧ rainL L t ≤ 200 * L.length := by
  induction L with
  | nil => exact ⟨Int.le_refl _, by simp [rainL]⟩
  | cons a L ih =>
    have h1 := h a List.mem_cons_self
    have h2 := ih (fun x hx => h x (List.mem_cons_of_mem _ hx))
    have e : rainL (a :: L) t = (if a.1 ≤ t ∧ t < a.1 + a.2.1 then a.2.2 else 0) + rainL L t := by simp [rainL]
    rw [e, List.length_cons]
    split <;> omega
theorem tkRain_bd {σ : Sg} (h : ok σ) : 0 ≤ tkRain σ ∧ tkRain σ ≤ 2400 := by
  have h1 := rainL_bd h.2.2.1.2 (σ.1 0)
  have h2 := h.2.2.1.1
  unfold tkRain
  omega
theorem tkS_se {s : Nat → Int} {rain : Int} (h : okSe s) : okSe (tkS s rain) := h
theorem fT_bd {rain cap c : Int} (hr : 0 ≤ rain) : 0 ≤ fTaken rain cap c ∧ fTaken rain cap c ≤ rain ∧ (cap ≤ c → fTaken rain cap c = 0) ∧ (c ≤ cap → c + fTaken rain cap c ≤ cap) := by
  unfold fTaken
  omega
theorem tkS_sc {s : Nat → Int} {rain : Int} (h : okSc s) (hs : okSe s) (hr : 0 ≤ rain ∧ rain ≤ 2400) (ht : s 0 < 5000) : okSc (tkS s rain) := by
  obtain ⟨h0, h1, h2, h3, h4, h5, h6⟩ := h
  obtain ⟨e1, e2, e3, e4, e5, e6, e7, e8⟩ := hs
  have f1 := fT_bd (cap := s 13) (c := s 1) hr.1
  have f2 : 0 ≤ fGone rain (s 13) (s 1) (s 14) ∧ fGone rain (s 13) (s 1) (s 14) ≤ s 1 + fTaken rain (s 13) (s 1) := by
    unfold fGone
    split <;> omega
  have f3 : 0 ≤ bGone (s 2) (rain - fTaken rain (s 13) (s 1)) (if rain = 0 then 1 else 0) (s 15) ∧ bGone (s 2) (rain - fTaken rain (s 13) (s 1)) (if rain = 0 then 1 else 0) (s 15) ≤ s 2 + (rain - fTaken rain (s 13) (s 1)) := by
    unfold bGone
    split <;> omega
  unfold okSc
  simp only [tkS, tkB, bS]
  generalize fTaken rain (s 13) (s 1) = tk at *
  generalize fGone rain (s 13) (s 1) (s 14) = go at *
  generalize bGone (s 2) (rain - tk) (if rain = 0 then 1 else 0) (s 15) = bg at *
  by_cases c1 : 0 < s 3
  · simp only [if_pos c1]
    by_cases c4 : 0 < s 4
    · simp only [if_pos c4]; omega
    · simp only [if_neg c4]; omega
  · simp only [if_neg c1]
    by_cases c2 : s 11 ≤ s 2 + (rain - tk) - bg
    · simp only [if_pos c2]
      by_cases c4 : 0 < s 4
      · simp only [if_pos c4]; omega
      · simp only [if_neg c4]; omega
    · simp only [if_neg c2]
      by_cases c4 : 0 < s 4
      · simp only [if_pos c4]; omega
      · simp only [if_neg c4]; omega
theorem ok_addMk {L : List (Int × Int × Int)} {t0 : Int} (h : okMk L t0) (h0 : 0 ≤ t0) (p v : Int) : okMk (addMk L (t0, p, v)) (t0 + 1) := by
  obtain ⟨h1, h2, h3⟩ := h
  have key : ∀ M : List (Int × Int × Int), M.length ≤ 59 → (∀ x ∈ M, 0 ≤ x.1 ∧ x.1 < t0) → M.Pairwise (fun x y => x.1 < y.1) → okMk (M ++ [(t0, p, v)]) (t0 + 1) := by
    intro M m1 m2 m3
    refine ⟨by simp; omega, fun x hx => ?_, ?_⟩
    · rcases List.mem_append.mp hx with hx | hx
      · have := m2 x hx; omega
      · rw [List.mem_singleton.mp hx]; exact ⟨h0, by show t0 < t0 + 1; omega⟩
    · rw [List.pairwise_append]
      refine ⟨m3, List.pairwise_singleton _ _, fun a ha b hb => ?_⟩
      rw [List.mem_singleton.mp hb]
      exact (m2 a ha).2
  unfold addMk
  split
  · rename_i e
    refine key _ (by simp; omega) (fun x hx => h2 x (List.mem_of_mem_tail hx)) h3.tail
  · exact key _ (by omega) h2 h3
theorem okMk_le {L : List (Int × Int × Int)} {t0 t1 : Int} (h : okMk L t0) (h1 : t0 ≤ t1) : okMk L t1 := ⟨h.1, fun x hx => by have := h.2.1 x hx; omega, h.2.2⟩
theorem ok_tick {σ : Sg} (h : ok σ) (ht : σ.1 0 < 5000) : ok (tick σ) := by
  have hr := tkRain_bd h
  obtain ⟨h1, h2, h3, h4, h5⟩ := h
  refine ⟨tkS_sc h1 h2 hr ht, tkS_se h2, ⟨Nat.le_trans (List.length_filter_le _ _) h3.1, fun x hx => h3.2 x (List.mem_filter.mp hx).1⟩, h4, ?_⟩
  show okMk (if tkTip σ = -1 then σ.2.2.2 else addMk σ.2.2.2 (σ.1 0, plG σ.2.2.1 (σ.1 5) (σ.1 16), tkTip σ)) (σ.1 0 + 1)
  split
  · exact okMk_le h5 (by omega)
  · exact ok_addMk h5 h1.1.1 _ _
theorem ticks_0 {σ : Sg} : ∀ k, (ticks σ k).1 0 = σ.1 0 + k := by
  intro k
  induction k with
  | zero => simp [ticks]
  | succ k ih =>
    show (ticks σ k).1 0 + 1 = _
    rw [ih]
    omega
theorem ok_ticks {σ : Sg} (h : ok σ) : ∀ k : Nat, σ.1 0 + k ≤ 5000 → ok (ticks σ k) := by
  intro k
  induction k with
  | zero => intro _; exact h
  | succ k ih =>
    intro hk
    exact ok_tick (ih (by omega)) (by rw [ticks_0]; omega)
theorem tips_le {σ : Sg} : ∀ k, tips σ k ≤ k := by
  intro k
  induction k with
  | zero => exact Nat.le_refl _
  | succ k ih => simp only [tips]; split <;> omega
theorem okT_of {t p v : Nat → Int} {m : Nat} {t0 : Int} (h : okMk (lst t p v m) t0) (h0 : t0 ≤ 5000) : okT t m := by
  obtain ⟨h1, h2, h3⟩ := h
  have hm : ∀ j, j < m → (t j, p j, v j) ∈ lst t p v m := fun j hj => List.mem_map.mpr ⟨j, List.mem_range.mpr hj, rfl⟩
  refine ⟨fun i hi => by have := h2 _ (hm i hi); simp only at this; omega, fun i j hij hj => ?_⟩
  rw [List.pairwise_iff_getElem] at h3
  have := h3 i j (by rw [lst_len]; omega) (by rw [lst_len]; exact hj) hij
  simpa [lst] using this
theorem okSh_at {b l r : Nat → Int} {m : Nat} (h : okSh (lst b l r m)) : ∀ j, j < m → (0 ≤ b j ∧ b j ≤ 5000) ∧ (1 ≤ l j ∧ l j ≤ 500) ∧ (1 ≤ r j ∧ r j ≤ 200) := fun j hj => h.2 (b j, l j, r j) (List.mem_map.mpr ⟨j, List.mem_range.mpr hj, rfl⟩)
theorem okGe_at {f s : Nat → Int} {m : Nat} (h : okGe (lst2 f s m)) : ∀ j, j < m → (8 ≤ f j ∧ f j ≤ 120) ∧ (8 ≤ s j ∧ s j ≤ 120) := fun j hj => h.2 (f j, s j) (List.mem_map.mpr ⟨j, List.mem_range.mpr hj, rfl⟩)
