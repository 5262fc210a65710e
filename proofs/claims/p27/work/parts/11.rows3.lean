theorem iI_nI (n : Nat) : iI (n : Int) = nI n := Int32.ofInt_eq_ofNat (n := n)
theorem iI_div {a b : Int} (h : 0 ≤ a ∧ a < 2147483648 ∧ 0 < b ∧ b < 2147483648) : ¬ iI b = 0 ∧ iI a / iI b = iI (a / b) := by
  obtain ⟨n, rfl⟩ := Int.eq_ofNat_of_zero_le h.1
  obtain ⟨d, rfl⟩ := Int.eq_ofNat_of_zero_le (by omega : 0 ≤ b)
  refine ⟨fun e => ?_, ?_⟩
  · rw [iI_0, iI_eq ⟨by omega, by omega⟩ ⟨by omega, by omega⟩] at e
    omega
  · rw [show ((n : Int) / (d : Int)) = ((n / d : Nat) : Int) from (Int.natCast_ediv n d).symm, iI_nI, iI_nI, iI_nI]
    exact pk_div (by omega) (by omega) (by omega)
theorem iI_xor {a b : Int} (h : 0 ≤ a ∧ a < 2147483648 ∧ 0 ≤ b ∧ b < 2147483648) : ∃ k : Int, 0 ≤ k ∧ k < 2147483648 ∧ iI a ^^^ iI b = iI k := by
  obtain ⟨n, rfl⟩ := Int.eq_ofNat_of_zero_le h.1
  obtain ⟨d, rfl⟩ := Int.eq_ofNat_of_zero_le (by omega : 0 ≤ b)
  have e : nI n ^^^ nI d = nI (n ^^^ d) := by
    apply Int32.toBitVec_inj.mp
    simp [nI, Int32.toBitVec_xor]
  have h3 : n ^^^ d < 2 ^ 31 := Nat.xor_lt_two_pow (by omega) (by omega)
  exact ⟨((n ^^^ d : Nat) : Int), by omega, by omega, by rw [iI_nI, iI_nI, iI_nI, e]⟩
section Rows3
variable {X : Fx} {E : Wd} {z : Nat × Nat × Nat} {pc : Nat} {ls ls' : List (Option Value)} {st : List Value} {cc : ByteArray} {ow : String}
theorem v_idivI (cx : Cx X cc ow) {a b : Int} (h : 0 ≤ a ∧ a < 2147483648 ∧ 0 < b ∧ b < 2147483648) (hd : decode cc pc = .ok (.idiv, 1)) (k : V X E z (pc + 1) ls (.int (iI (a / b)) :: st)) : V X E z pc ls (.int (iI b) :: .int (iI a) :: st) :=
  v_idiv cx (iI_div h).1 hd (by rw [(iI_div h).2]; exact k)
theorem v_ixorI (cx : Cx X cc ow) {a b : Int} (h : 0 ≤ a ∧ a < 2147483648 ∧ 0 ≤ b ∧ b < 2147483648) (hd : decode cc pc = .ok (.ixor, 1)) (k : ∀ x : Int, 0 ≤ x → x < 2147483648 → V X E z (pc + 1) ls (.int (iI x) :: st)) : V X E z pc ls (.int (iI b) :: .int (iI a) :: st) := by
  obtain ⟨x, h1, h2, h3⟩ := iI_xor h
  exact (k x h1 h2).st (fun H locs L hl k => lv_ixor cx.1 cx.2.1 hd (by rw [h3]; exact k))
theorem v_getstaticN (cx : Cx X cc ow) {idx : Nat} (i : Nat) (hi : i < 3) {host : String} (hl : Cond.fieldLinkNest ow idx RX11 (tbN i) "[I" host ∈ TN) (hd : decode cc pc = .ok (.getstatic idx, 3)) (kk : V X E z (pc + 3) ls (.ref (gT (fG X) i) :: st)) : V X E z pc ls st := by
  intro H locs L h1
  exact va_getsN cx.1 cx.2.1 (cx.2.2.2.2.1.2.1 i hi).1 h1.2.2.1 cx.2.2.1 (va_Nw.use rfl (va_nwTN cx hl)) (fun _ h => h) hd (kk H locs L h1)
end Rows3
