/-! VALUES of the operations and of the small methods, on numbers that fit -/
theorem mx_of (n : Nat) : Int32.ofInt (n : Int) = nI n := by
  unfold nI
  rw [← Int32.ofInt_eq_ofNat]
theorem mx_sl : ∀ n, n < 32 → ((nI n &&& 31).toBitVec.smod 32).toNat = n := by decide +kernel
theorem mx_su : ∀ n, n < 32 → (((nI n).toUInt32 &&& Int32.toUInt32 31).toBitVec % 32).toNat = n := by decide +kernel
theorem mx_shl {a : Int} {k : Nat} (hk : k < 32) (h0 : 0 ≤ a) (h : a * 2 ^ k < 2147483648) : mi_shl a (k : Int) = a * 2 ^ k := by
  obtain ⟨n, rfl⟩ := Int.eq_ofNat_of_zero_le h0
  have h' : n * 2 ^ k < 2147483648 := by
    have : ((n * 2 ^ k : Nat) : Int) < 2147483648 := by rw [Int.natCast_mul, Int.natCast_pow]; exact h
    omega
  unfold mi_shl
  rw [mx_of, mx_of, pk_shlN _ k (mx_sl k hk) (by omega), nI_toInt (by omega), Int.natCast_mul, Int.natCast_pow]
  rfl
theorem mx_shr {a : Int} {k : Nat} (hk : k < 32) (h0 : 0 ≤ a) (h : a < 2147483648) : mi_shr a (k : Int) = a / 2 ^ k := by
  obtain ⟨n, rfl⟩ := Int.eq_ofNat_of_zero_le h0
  unfold mi_shr
  have h2 : n / 2 ^ k ≤ n := Nat.div_le_self _ _
  rw [mx_of, mx_of, pk_shrN (by omega) _ k (mx_sl k hk), nI_toInt (by omega), Int.natCast_ediv, Int.natCast_pow]
  rfl
theorem mx_shl1 {a : Int} (h0 : 0 ≤ a) (h : a < 1073741824) : mi_shl a 1 = a * 2 := by
  have := mx_shl (a := a) (k := 1) (by decide) h0 (by omega)
  exact this
theorem mx_shl3 {a : Int} (h0 : 0 ≤ a) (h : a < 16777216) : mi_shl a 3 = a * 8 := by
  have := mx_shl (a := a) (k := 3) (by decide) h0 (by omega)
  exact this
theorem mx_shl4 {a : Int} (h0 : 0 ≤ a) (h : a < 16777216) : mi_shl a 4 = a * 16 := by
  have := mx_shl (a := a) (k := 4) (by decide) h0 (by omega)
  exact this
theorem mx_shr2 {a : Int} (h0 : 0 ≤ a) (h : a < 2147483648) : mi_shr a 2 = a / 4 := by
  have := mx_shr (a := a) (k := 2) (by decide) h0 h
  exact this
theorem mx_shr3 {a : Int} (h0 : 0 ≤ a) (h : a < 2147483648) : mi_shr a 3 = a / 8 := by
  have := mx_shr (a := a) (k := 3) (by decide) h0 h
  exact this
theorem mx_shr4 {a : Int} (h0 : 0 ≤ a) (h : a < 2147483648) : mi_shr a 4 = a / 16 := by
  have := mx_shr (a := a) (k := 4) (by decide) h0 h
  exact this
/-- a number fits -/
def mx_R (z : Int) : Prop := -2147483648 ≤ z ∧ z < 2147483648
theorem mx_wr {z : Int} (h : mx_R z) : mi_wr z = z := mi_wr_id h.1 h.2
theorem mx_l {z : Int} (h1 : -2147483648 ≤ z) (h2 : z < 2147483648) : mx_R z := ⟨h1, h2⟩
section
variable {μ : mi_M} {v x y d a b c : Int}
theorem mx_spot (hy : 0 ≤ y) (h : y < 16777216) : mv136 v x y μ = 192 * v + 16 * y + x := by
  unfold mv136; rw [mx_shl4 hy h]; omega
theorem mx_cell (hx : 0 ≤ x) (hx' : x < 16) (hy : 0 ≤ y) (hy' : y < 16) : mv137 x y d μ = 8 * (16 * y + x) + d := by
  unfold mv137; rw [mx_spot hy (by omega), mx_shl3 (by omega) (by omega)]; omega
theorem mx_within (ha : mx_R a) (hb : mx_R b) (hc : mx_R c) : mv134 a b c μ = if b ≤ a ∧ a ≤ c then 1 else 0 := by
  unfold mv134; rw [mx_wr ha, mx_wr hb, mx_wr hc]; split <;> (try split) <;> (try split) <;> omega
theorem mx_view (ha : mx_R a) : mv135 a μ = if 0 ≤ a ∧ a ≤ 1 then 1 else 0 := by
  unfold mv135; rw [mx_wr ha, mi_wr_id (z := 1) (by decide) (by decide)]; split <;> (try split) <;> (try split) <;> omega
theorem mx_abs (ha : mx_R a) : mv258 a μ = if a < 0 then -a else a := by unfold mv258; rw [mx_wr ha]
theorem mx_max (ha : mx_R a) (hb : mx_R b) : mv260 a b μ = if a < b then b else a := by unfold mv260; rw [mx_wr ha, mx_wr hb]
theorem mx_min (ha : mx_R a) (hb : mx_R b) : mv261 a b μ = if b < a then b else a := by unfold mv261; rw [mx_wr ha, mx_wr hb]
theorem mx_withinM (ha : mx_R a) (hb : mx_R b) (hc : mx_R c) : mv144 a b c μ = if b ≤ a ∧ a ≤ c then 1 else 0 := by
  unfold mv144; rw [mx_wr ha, mx_wr hb, mx_wr hc]; split <;> (try split) <;> (try split) <;> omega
end
