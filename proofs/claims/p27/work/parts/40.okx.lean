/-! what always holds is kept by every call -/
theorem okSc_hi {s : Nat → Int} {k : Nat} {x : Int} (h : okSc s) (hk : 11 ≤ k) : okSc (upI s k x) := by
  unfold okSc at *
  rw [upI_n (show (0 : Nat) ≠ k by omega), upI_n (show (1 : Nat) ≠ k by omega), upI_n (show (2 : Nat) ≠ k by omega), upI_n (show (3 : Nat) ≠ k by omega), upI_n (show (4 : Nat) ≠ k by omega), upI_n (show (5 : Nat) ≠ k by omega), upI_n (show (6 : Nat) ≠ k by omega), upI_n (show (7 : Nat) ≠ k by omega), upI_n (show (8 : Nat) ≠ k by omega), upI_n (show (9 : Nat) ≠ k by omega), upI_n (show (10 : Nat) ≠ k by omega)]
  exact h
theorem kX_add {Ψ : Fs} {b l r : Int} (h : okX Ψ) : okX (sAdd Ψ b l r) := by
  unfold sAdd
  split
  · exact h
  · split
    · exact h
    · obtain ⟨⟨h1, h2, h3, h4, h5⟩, h6, h7⟩ := h
      refine ⟨⟨h1, h2, ⟨by rw [insL_len]; omega, fun z hz => ?_⟩, h4, h5⟩, ok_keep h6 ⟨h1, h2, h3, h4, h5⟩, h7⟩
      have := h1.1
      rcases insL_mem z hz with rfl | hz
      · simp only; omega
      · exact h3.2 z hz
theorem kX_can {Ψ : Fs} {k : Int} (h : okX Ψ) : okX (sCan Ψ k) := by
  unfold sCan
  split
  · exact h
  · split
    · exact h
    · obtain ⟨⟨h1, h2, h3, h4, h5⟩, h6, h7⟩ := h
      exact ⟨⟨h1, h2, ⟨by rw [delL_len]; have := h3.1; omega, fun z hz => h3.2 z (delL_mem z hz)⟩, h4, h5⟩, ok_keep h6 ⟨h1, h2, h3, h4, h5⟩, h7⟩
theorem kX_run {Ψ : Fs} {k : Int} (h : okX Ψ) : okX (sRun Ψ k) := by
  unfold sRun
  split
  · obtain ⟨e1, e2, e3⟩ := eTk_0 (by assumption)
    exact ⟨ok_ticks h.1 _ (by omega), ok_keep h.2.1 h.1, h.2.2⟩
  · exact h
theorem kX_und {Ψ : Fs} (h : okX Ψ) : okX (sUnd Ψ) := by
  obtain ⟨σ, hs, tx⟩ := Ψ
  unfold sUnd
  simp only
  cases e : hs.getLast? with
  | none => exact h
  | some τ =>
    have hm : τ ∈ hs := List.mem_of_getLast? e
    refine ⟨h.2.1.2 τ hm, ⟨?_, fun z hz => h.2.1.2 z (List.dropLast_subset _ hz)⟩, h.2.2⟩
    have := h.2.1.1
    simp only [List.length_dropLast] at this ⊢
    omega
theorem kX_set {Ψ : Fs} {w x : Int} (h : okX Ψ) : okX (sSet Ψ w x) := by
  unfold sSet
  split
  · exact h
  · rename_i hg
    obtain ⟨g1, g2⟩ : (0 ≤ w ∧ w ≤ 7) ∧ (tbV 0 w.toNat ≤ x ∧ x ≤ tbV 1 w.toNat) := by
      refine ⟨?_, ?_⟩
      · exact Classical.byContradiction (fun q => hg (Or.inl q))
      · exact Classical.byContradiction (fun q => hg (Or.inr q))
    obtain ⟨⟨h1, h2, h3, h4, h5⟩, h6, h7⟩ := h
    refine ⟨⟨okSc_hi h1 (by omega), ?_, h3, h4, ?_⟩, ok_keep h6 ⟨h1, h2, h3, h4, h5⟩, h7⟩
    · obtain ⟨e1, e2, e3, e4, e5, e6, e7, e8⟩ := h2
      have t0 : tbV 0 0 = 20 ∧ tbV 1 0 = 500 := by decide
      have t1 : tbV 0 1 = 0 ∧ tbV 1 1 = 20 := by decide
      have t2 : tbV 0 2 = 0 ∧ tbV 1 2 = 200 := by decide
      have t3 : tbV 0 3 = 0 ∧ tbV 1 3 = 50 := by decide
      have t4 : tbV 0 4 = 0 ∧ tbV 1 4 = 50 := by decide
      have t5 : tbV 0 5 = 10 ∧ tbV 1 5 = 1000 := by decide
      have t6 : tbV 0 6 = 1 ∧ tbV 1 6 = 2000 := by decide
      have t7 : tbV 0 7 = 1 ∧ tbV 1 7 = 1000 := by decide
      rcases (show w = 0 ∨ w = 1 ∨ w = 2 ∨ w = 3 ∨ w = 4 ∨ w = 5 ∨ w = 6 ∨ w = 7 by omega) with rfl | rfl | rfl | rfl | rfl | rfl | rfl | rfl
      · have g2 : tbV 0 0 ≤ x ∧ x ≤ tbV 1 0 := g2
        refine ⟨?_, ?_, ?_, ?_, ?_, ?_, ?_, ?_⟩
        · show 20 ≤ upI Ψ.1.1 11 x 11 ∧ upI Ψ.1.1 11 x 11 ≤ 500
          rw [upI_s]; omega
        all_goals exact (by first | exact e1 | exact e2 | exact e3 | exact e4 | exact e5 | exact e6 | exact e7 | exact e8)
      · have g2 : tbV 0 1 ≤ x ∧ x ≤ tbV 1 1 := g2
        exact ⟨e1, ⟨by show 0 ≤ upI Ψ.1.1 12 x 12; rw [upI_s]; omega, by show upI Ψ.1.1 12 x 12 ≤ 20; rw [upI_s]; omega⟩, e3, e4, e5, e6, e7, e8⟩
      · have g2 : tbV 0 2 ≤ x ∧ x ≤ tbV 1 2 := g2
        exact ⟨e1, e2, ⟨by show 0 ≤ upI Ψ.1.1 13 x 13; rw [upI_s]; omega, by show upI Ψ.1.1 13 x 13 ≤ 200; rw [upI_s]; omega⟩, e4, e5, e6, e7, e8⟩
      · have g2 : tbV 0 3 ≤ x ∧ x ≤ tbV 1 3 := g2
        exact ⟨e1, e2, e3, ⟨by show 0 ≤ upI Ψ.1.1 14 x 14; rw [upI_s]; omega, by show upI Ψ.1.1 14 x 14 ≤ 50; rw [upI_s]; omega⟩, e5, e6, e7, e8⟩
      · have g2 : tbV 0 4 ≤ x ∧ x ≤ tbV 1 4 := g2
        exact ⟨e1, e2, e3, e4, ⟨by show 0 ≤ upI Ψ.1.1 15 x 15; rw [upI_s]; omega, by show upI Ψ.1.1 15 x 15 ≤ 50; rw [upI_s]; omega⟩, e6, e7, e8⟩
      · have g2 : tbV 0 5 ≤ x ∧ x ≤ tbV 1 5 := g2
        exact ⟨e1, e2, e3, e4, e5, ⟨by show 10 ≤ upI Ψ.1.1 16 x 16; rw [upI_s]; omega, by show upI Ψ.1.1 16 x 16 ≤ 1000; rw [upI_s]; omega⟩, e7, e8⟩
      · have g2 : tbV 0 6 ≤ x ∧ x ≤ tbV 1 6 := g2
        exact ⟨e1, e2, e3, e4, e5, e6, ⟨by show 1 ≤ upI Ψ.1.1 17 x 17; rw [upI_s]; omega, by show upI Ψ.1.1 17 x 17 ≤ 2000; rw [upI_s]; omega⟩, e8⟩
      · have g2 : tbV 0 7 ≤ x ∧ x ≤ tbV 1 7 := g2
        exact ⟨e1, e2, e3, e4, e5, e6, e7, ⟨by show 1 ≤ upI Ψ.1.1 18 x 18; rw [upI_s]; omega, by show upI Ψ.1.1 18 x 18 ≤ 1000; rw [upI_s]; omega⟩⟩
    · show okMk Ψ.1.2.2.2 (upI Ψ.1.1 (11 + w.toNat) x 0)
      rw [upI_n (by omega)]
      exact h5
theorem kX_win {Ψ : Fs} (h : okX Ψ) : okX (sWin Ψ) := by
  obtain ⟨⟨h1, h2, h3, h4, h5⟩, h6, h7⟩ := h
  have e7 := h2.2.2.2.2.2.2.1
  refine ⟨⟨?_, h2, h3, h4, h5⟩, ok_keep h6 ⟨h1, h2, h3, h4, h5⟩, h7⟩
  obtain ⟨q0, q1, q2, q3, q4, q5⟩ := h1
  exact ⟨q0, q1, q2, q3, ⟨by show 0 ≤ upI Ψ.1.1 4 (Ψ.1.1 17) 4; rw [upI_s]; omega, by show upI Ψ.1.1 4 (Ψ.1.1 17) 4 ≤ 2000; rw [upI_s]; omega⟩, q5⟩
theorem kX_gad {Ψ : Fs} {x y : Int} (h : okX Ψ) : okX (sGad Ψ x y) := by
  unfold sGad
  split
  · exact h
  · split
    · exact h
    · obtain ⟨⟨h1, h2, h3, h4, h5⟩, h6, h7⟩ := h
      refine ⟨⟨h1, h2, h3, ⟨by rw [List.length_append, List.length_singleton]; omega, fun z hz => ?_⟩, h5⟩, ok_keep h6 ⟨h1, h2, h3, h4, h5⟩, h7⟩
      rcases List.mem_append.mp hz with hz | hz
      · exact h4.2 z hz
      · rw [List.mem_singleton.mp hz]
        simp only
        omega
theorem kX_gre {Ψ : Fs} {k : Int} (h : okX Ψ) : okX (sGre Ψ k) := by
  unfold sGre
  split
  · exact h
  · obtain ⟨⟨h1, h2, h3, h4, h5⟩, h6, h7⟩ := h
    exact ⟨⟨h1, h2, h3, ⟨by rw [delG_len]; have := h4.1; omega, fun z hz => h4.2 z (delG_mem z hz)⟩, h5⟩, ok_keep h6 ⟨h1, h2, h3, h4, h5⟩, h7⟩