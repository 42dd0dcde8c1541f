/-! what a shift costs at a place -/
def sp_cost (m : Int → Int) (x y d : Int) : Int := if x < d then (if m 3 = 1 then 8 else 24) else (pc_n 32 ((sp_code m 0 x y).toNat ^^^ (sp_code m 1 (x - d) y).toNat) : Int)
theorem sp_code_b {m : Int → Int} (hm : sc_ok m) (v x y : Int) : 0 ≤ sp_code m v x y ∧ sp_code m v x y < 33554432 := by
  obtain ⟨-, -, -, ⟨f1, f2⟩, -⟩ := id hm
  have h := sp_call_b (m := m) (v := v) (x := x) (y := y) (2 * m 3 + 1).toNat (-(m 3)) 0 0 (by decide) (by decide)
  have hk : 0 + (2 * m 3 + 1).toNat * (2 * m 3 + 1).toNat ≤ 25 := by
    have : (2 * m 3 + 1).toNat ≤ 5 := by omega
    have := Nat.mul_le_mul this this
    omega
  have hp : (2 : Int) ^ (0 + (2 * m 3 + 1).toNat * (2 * m 3 + 1).toNat) ≤ 2 ^ 25 := by
    have := Nat.pow_le_pow_right (n := 2) (by decide) hk
    exact_mod_cast this
  have hq : (2 : Int) ^ 25 = 33554432 := by decide
  refine ⟨h.1, ?_⟩
  have := h.2
  unfold sp_code
  omega
theorem pc_le : ∀ (k n : Nat), pc_n k n ≤ k
  | 0, _ => Nat.le_refl _
  | k + 1, n => by
    have := pc_le k (n / 2)
    show n % 2 + pc_n k (n / 2) ≤ k + 1
    omega
theorem sp_cost_b {m : Int → Int} (x y d : Int) : 0 ≤ sp_cost m x y d ∧ sp_cost m x y d ≤ 32 := by
  unfold sp_cost
  have := pc_le 32 ((sp_code m 0 x y).toNat ^^^ (sp_code m 1 (x - d) y).toNat)
  split
  · split <;> omega
  · omega
theorem sp_xor {a b : Int} (ha : 0 ≤ a) (ha' : a < 33554432) (hb : 0 ≤ b) (hb' : b < 33554432) : mi_xor a b = ((a.toNat ^^^ b.toNat : Nat) : Int) ∧ a.toNat ^^^ b.toNat < 33554432 := by
  obtain ⟨n, rfl⟩ := Int.eq_ofNat_of_zero_le ha
  obtain ⟨k, rfl⟩ := Int.eq_ofNat_of_zero_le hb
  refine ⟨mx_xorN (by omega) (by omega), ?_⟩
  exact Nat.xor_lt_two_pow (n := 25) (x := n) (y := k) (by omega) (by omega)
section
variable {X : mi_X} {Q : mi_R → mi_G → mi_M → Prop} {u : mi_U} {μ : mi_M} {m : Int → Int}
theorem mx_cost {x y d : Int} (hm : sc_ok (sc_m μ)) (hc : mp_is μ 67 (sc_m μ) (sp_code (sc_m μ))) (hx : 0 ≤ x) (hx' : x < sc_m μ 0) (hy : 0 ≤ y) (hy' : y < sc_m μ 1) (hd : 0 ≤ d) (hd' : d < 8) : mp35_66 x y d μ ∧ mv35_66 x y d μ = sp_cost (sc_m μ) x y d := by
  obtain ⟨⟨w1, w2⟩, ⟨g1, g2⟩, -, ⟨f1, f2⟩, -⟩ := id hm
  unfold mp35_66 mv35_66 sp_cost
  rw [mi_wr_id (z := x - d) (by omega) (by omega)]
  by_cases e : x < d
  · rw [if_pos (show x - d < 0 by omega), if_pos (show x - d < 0 by omega), if_pos e]
    refine ⟨trivial, ?_⟩
    have e3 : μ 2 1 = sc_m μ 3 := (sc_m_c μ).2.2.1 1 (by decide) (by decide)
    unfold mv90_1
    rw [e3, mi_wr_id (z := sc_m μ 3) (by omega) (by omega), mi_wr_id (z := 1) (by decide) (by decide)]
  · rw [if_neg (show ¬ x - d < 0 by omega), if_neg (show ¬ x - d < 0 by omega), if_neg e]
    simp only [mx_spot hy (show y < 16777216 by omega)]
    refine ⟨⟨by omega, by omega⟩, ?_⟩
    have b0 := sp_code_b hm 0 x y
    have b1 := sp_code_b hm 1 (x - d) y
    have hz := sp_xor b0.1 b0.2 b1.1 b1.2
    rw [hc 0 x y (by decide) (by decide) hx hx' hy hy', hc 1 (x - d) y (by decide) (by decide) (by omega) (by omega) hy hy', hz.1, mx_count (by omega)]
theorem mx_costR {x y d : Int} (hm : sc_ok (μ 87)) (hc : mp_is μ 92 (μ 87) (sp_code (μ 87))) (hx : 0 ≤ x) (hx' : x < μ 87 0) (hy : 0 ≤ y) (hy' : y < μ 87 1) (hd : 0 ≤ d) (hd' : d < 8) : mp192_86 x y d μ ∧ mv192_86 x y d μ = sp_cost (μ 87) x y d := by
  obtain ⟨⟨w1, w2⟩, ⟨g1, g2⟩, -, ⟨f1, f2⟩, -⟩ := id hm
  unfold mp192_86 mv192_86 sp_cost
  rw [mi_wr_id (z := x) (by omega) (by omega), mi_wr_id (z := d) (by omega) (by omega)]
  by_cases e : x < d
  · rw [if_pos e, if_pos e, if_pos e, mi_wr_id (z := μ 87 3) (by omega) (by omega), mi_wr_id (z := 1) (by decide) (by decide)]
    exact ⟨trivial, rfl⟩
  · rw [if_neg e, if_neg e, if_neg e]
    simp only [mx_spotR]
    have b0 := sp_code_b hm 0 x y
    have b1 := sp_code_b hm 1 (x - d) y
    have hz := sp_xor b0.1 b0.2 b1.1 b1.2
    rw [hc 0 x y (by decide) (by decide) hx hx' hy hy', hc 1 (x - d) y (by decide) (by decide) (by omega) (by omega) hy hy', hz.1]
    refine ⟨⟨by omega, by omega, ?_⟩, ?_⟩
    · unfold mp191; omega
    · unfold mv191; rw [Int.toNat_natCast]
end
