/-! BITS: the number of ones, by the library's way and by the reference's -/
def pc_n : Nat → Nat → Nat
  | 0, _ => 0
  | k + 1, n => n % 2 + pc_n k (n / 2)
theorem pc_and (a b : Nat) : nI a &&& nI b = nI (a &&& b) := by
  apply Int32.toBitVec_inj.1
  show BitVec.ofNat 32 a &&& BitVec.ofNat 32 b = BitVec.ofNat 32 (a &&& b)
  apply BitVec.eq_of_getLsbD_eq
  intro i hi
  simp [hi]
theorem pc_xor (a b : Nat) : nI a ^^^ nI b = nI (a ^^^ b) := by
  apply Int32.toBitVec_inj.1
  show BitVec.ofNat 32 a ^^^ BitVec.ofNat 32 b = BitVec.ofNat 32 (a ^^^ b)
  apply BitVec.eq_of_getLsbD_eq
  intro i hi
  simp [hi]
theorem mx_andN {a b : Nat} (h : a < 2147483648) : mi_and (a : Int) (b : Int) = ((a &&& b : Nat) : Int) := by
  unfold mi_and
  have : a &&& b ≤ a := Nat.and_le_left
  rw [mx_of, mx_of, pc_and, nI_toInt (by omega)]
theorem mx_xorN {a b : Nat} (h : a < 2 ^ 31) (h' : b < 2 ^ 31) : mi_xor (a : Int) (b : Int) = ((a ^^^ b : Nat) : Int) := by
  unfold mi_xor
  rw [mx_of, mx_of, pc_xor, nI_toInt (Nat.xor_lt_two_pow h h')]
theorem mx_ushrN {a : Nat} {k : Nat} (hk : k < 32) (h : a < 2147483648) : mi_ushr (a : Int) (k : Int) = ((a / 2 ^ k : Nat) : Int) := by
  unfold mi_ushr
  have : a / 2 ^ k ≤ a := Nat.div_le_self _ _
  rw [mx_of, mx_of, pk_ushrN (by omega) _ k (mx_su k hk), nI_toInt (by omega)]
/-- the lowest one is taken away -/
theorem pc_low : ∀ (k n : Nat), 0 < n → n < 2 ^ k → pc_n k (n &&& (n - 1)) + 1 = pc_n k n
  | 0, n, h, h' => by rw [Nat.pow_zero] at h'; omega
  | k + 1, n, h, h' => by
    rw [Nat.pow_succ] at h'
    have e1 : (n &&& (n - 1)) % 2 = 0 := by
      have := @Nat.and_mod_two_eq_one n (n - 1)
      omega
    have e2 : (n &&& (n - 1)) / 2 = (n / 2) &&& ((n - 1) / 2) := Nat.and_div_two
    show ((n &&& (n - 1)) % 2 + pc_n k ((n &&& (n - 1)) / 2)) + 1 = n % 2 + pc_n k (n / 2)
    rw [e1, e2]
    by_cases hp : n % 2 = 1
    · rw [show (n - 1) / 2 = n / 2 by omega, Nat.and_self]; omega
    · rw [show (n - 1) / 2 = n / 2 - 1 by omega]
      have := pc_low k (n / 2) (by omega) (by omega)
      omega
theorem pc_cat : ∀ (j k x y : Nat), x < 2 ^ j → pc_n (j + k) (x + 2 ^ j * y) = pc_n j x + pc_n k y
  | 0, k, x, y, h => by
    rw [Nat.pow_zero] at h
    have : x = 0 := by omega
    subst this
    rw [Nat.pow_zero, Nat.zero_add, Nat.zero_add, Nat.one_mul]
    show pc_n k y = 0 + pc_n k y
    omega
  | j + 1, k, x, y, h => by
    rw [show j + 1 + k = (j + k) + 1 by omega]
    show (x + 2 ^ (j + 1) * y) % 2 + pc_n (j + k) ((x + 2 ^ (j + 1) * y) / 2) = (x % 2 + pc_n j (x / 2)) + pc_n k y
    rw [Nat.pow_succ] at h ⊢
    have e : 2 ^ j * 2 * y = 2 * (2 ^ j * y) := by rw [Nat.mul_comm (2 ^ j) 2, Nat.mul_assoc]
    rw [e, show (x + 2 * (2 ^ j * y)) % 2 = x % 2 by omega, show (x + 2 * (2 ^ j * y)) / 2 = x / 2 + 2 ^ j * y by omega, pc_cat j k (x / 2) y (by omega)]
    omega
theorem pc_split {p q s r : Nat} (hp : p < 256) (hs : s < 256) : (p + 256 * q) &&& (s + 256 * r) = (p &&& s) + 256 * (q &&& r) := by
  have h1 := @Nat.and_mod_two_pow (p + 256 * q) (s + 256 * r) 8
  have h2 := @Nat.and_div_two_pow (p + 256 * q) (s + 256 * r) 8
  rw [show 2 ^ 8 = 256 from rfl, show (p + 256 * q) % 256 = p by omega, show (s + 256 * r) % 256 = s by omega] at h1
  rw [show 2 ^ 8 = 256 from rfl, show (p + 256 * q) / 256 = q by omega, show (s + 256 * r) / 256 = r by omega] at h2
  omega
theorem pc_a8 : ∀ x, x < 256 → ∀ b, b < 2 → (x / 2 + 128 * b) &&& 85 = (x / 2) &&& 85 := by decide +kernel
theorem pc_b8 : ∀ x, x < 256 → ∀ b, b < 4 → (x / 4 + 64 * b) &&& 51 = (x / 4) &&& 51 := by decide +kernel
theorem pc_c8 : ∀ x, x < 69 → ∀ b, b < 5 → (x + x / 16 + 16 * b) &&& 15 = (x + x / 16) &&& 15 ∧ x + x / 16 + 16 * b < 256 := by decide +kernel
def pc_A (x : Nat) : Nat := x - ((x / 2) &&& 85)
def pc_B (x : Nat) : Nat := (x &&& 51) + ((x / 4) &&& 51)
def pc_C (x : Nat) : Nat := (x + x / 16) &&& 15
theorem pc_one : ∀ x, x < 256 → pc_C (pc_B (pc_A x)) = pc_n 8 x ∧ pc_A x < 256 ∧ pc_B (pc_A x) < 69 ∧ pc_B (pc_A x) % 16 < 5 ∧ (x / 2) &&& 85 ≤ x ∧ pc_n 8 x ≤ 8 := by decide +kernel
theorem pc_As {x y M : Nat} (h : x < 256) (hM : (y / 2) &&& M ≤ y) : (x + 256 * y) - (((x + 256 * y) / 2) &&& (85 + 256 * M)) = pc_A x + 256 * (y - ((y / 2) &&& M)) := by
  have e : (x + 256 * y) / 2 = (x / 2 + 128 * (y % 2)) + 256 * (y / 2) := by omega
  rw [e, pc_split (by omega) (by decide), pc_a8 x h _ (by omega)]
  have := (pc_one x h).2.2.2.2.1
  unfold pc_A
  omega
theorem pc_Bs {x y M : Nat} (h : x < 256) : ((x + 256 * y) &&& (51 + 256 * M)) + (((x + 256 * y) / 4) &&& (51 + 256 * M)) = pc_B x + 256 * ((y &&& M) + ((y / 4) &&& M)) := by
  have e : (x + 256 * y) / 4 = (x / 4 + 64 * (y % 4)) + 256 * (y / 4) := by omega
  rw [e, pc_split (by omega) (by decide), pc_split (by omega) (by decide), pc_b8 x h _ (by omega)]
  unfold pc_B
  omega
theorem pc_Cs {x y M : Nat} (h : x < 69) (hy : y % 16 < 5) : ((x + 256 * y) + (x + 256 * y) / 16) &&& (15 + 256 * M) = pc_C x + 256 * ((y + y / 16) &&& M) := by
  have e : (x + 256 * y) + (x + 256 * y) / 16 = (x + x / 16 + 16 * (y % 16)) + 256 * (y + y / 16) := by omega
  have h8 := pc_c8 x h _ hy
  rw [e, pc_split h8.2 (by decide), h8.1]
  rfl
def pc_s1 (n : Nat) : Nat := n - ((n / 2) &&& 1431655765)
def pc_s2 (n : Nat) : Nat := (n &&& 858993459) + ((n / 4) &&& 858993459)
def pc_s3 (n : Nat) : Nat := (n + n / 16) &&& 252645135
theorem pc_half (y M : Nat) : (y / 2) &&& M ≤ y := Nat.le_trans Nat.and_le_left (Nat.div_le_self _ _)
theorem pc_s {x y z t : Nat} (hx : x < 256) (hy : y < 256) (hz : z < 256) (ht : t < 256) : pc_s3 (pc_s2 (pc_s1 (x + 256 * (y + 256 * (z + 256 * t))))) = pc_n 8 x + 256 * (pc_n 8 y + 256 * (pc_n 8 z + 256 * pc_n 8 t)) := by
  have px := pc_one x hx
  have py := pc_one y hy
  have pz := pc_one z hz
  have pt := pc_one t ht
  have e1 : pc_s1 (x + 256 * (y + 256 * (z + 256 * t))) = pc_A x + 256 * (pc_A y + 256 * (pc_A z + 256 * pc_A t)) := by
    unfold pc_s1
    rw [show 1431655765 = 85 + 256 * (85 + 256 * (85 + 256 * 85)) from rfl, pc_As hx (pc_half _ _), pc_As hy (pc_half _ _), pc_As hz (pc_half _ _)]
    rfl
  have e2 : pc_s2 (pc_A x + 256 * (pc_A y + 256 * (pc_A z + 256 * pc_A t))) = pc_B (pc_A x) + 256 * (pc_B (pc_A y) + 256 * (pc_B (pc_A z) + 256 * pc_B (pc_A t))) := by
    unfold pc_s2
    rw [show 858993459 = 51 + 256 * (51 + 256 * (51 + 256 * 51)) from rfl, pc_Bs px.2.1, pc_Bs py.2.1, pc_Bs pz.2.1]
    rfl
  have e3 : pc_s3 (pc_B (pc_A x) + 256 * (pc_B (pc_A y) + 256 * (pc_B (pc_A z) + 256 * pc_B (pc_A t)))) = pc_C (pc_B (pc_A x)) + 256 * (pc_C (pc_B (pc_A y)) + 256 * (pc_C (pc_B (pc_A z)) + 256 * pc_C (pc_B (pc_A t)))) := by
    unfold pc_s3
    rw [show 252645135 = 15 + 256 * (15 + 256 * (15 + 256 * 15)) from rfl, pc_Cs px.2.2.1 (by omega), pc_Cs py.2.2.1 (by omega), pc_Cs pz.2.2.1 (by omega)]
    rfl
  rw [e1, e2, e3, px.1, py.1, pz.1, pt.1]
theorem pc_fin {a b c d n : Nat} (ha : a ≤ 8) (hb : b ≤ 8) (hc : c ≤ 8) (hd : d ≤ 8) (h : n = a + 256 * (b + 256 * (c + 256 * d))) : (n + n / 256 + (n + n / 256) / 65536) % 64 = a + (b + (c + d)) := by
  have e1 : n / 256 = b + 256 * (c + 256 * d) := by omega
  have e2 : (n + n / 256) / 65536 = c + d + 256 * d := by rw [e1, h]; omega
  rw [e2, e1, h]
  omega
theorem mx_count {n : Nat} {μ : mi_M} (h : n < 2147483648) : mv257 (n : Int) μ = (pc_n 32 n : Int) := by
  have hn : n = n % 256 + 256 * (n / 256 % 256 + 256 * (n / 65536 % 256 + 256 * (n / 16777216))) := by omega
  have hc := pc_s (x := n % 256) (y := n / 256 % 256) (z := n / 65536 % 256) (t := n / 16777216) (by omega) (by omega) (by omega) (by omega)
  rw [← hn] at hc
  have b0 := (pc_one (n % 256) (by omega)).2.2.2.2.2
  have b1 := (pc_one (n / 256 % 256) (by omega)).2.2.2.2.2
  have b2 := (pc_one (n / 65536 % 256) (by omega)).2.2.2.2.2
  have b3 := (pc_one (n / 16777216) (by omega)).2.2.2.2.2
  have hs : pc_n 32 n = pc_n 8 (n % 256) + (pc_n 8 (n / 256 % 256) + (pc_n 8 (n / 65536 % 256) + pc_n 8 (n / 16777216))) := by
    have c1 := pc_cat 8 24 (n % 256) (n / 256 % 256 + 256 * (n / 65536 % 256 + 256 * (n / 16777216))) (by omega)
    have c2 := pc_cat 8 16 (n / 256 % 256) (n / 65536 % 256 + 256 * (n / 16777216)) (by omega)
    have c3 := pc_cat 8 8 (n / 65536 % 256) (n / 16777216) (by omega)
    rw [show 2 ^ 8 = 256 from rfl] at c1 c2 c3
    rw [← hn] at c1
    rw [c1, c2, c3]
  have l1 : pc_s1 n ≤ n := Nat.sub_le _ _
  have l2 : pc_s2 (pc_s1 n) ≤ 858993459 + 858993459 := Nat.add_le_add Nat.and_le_right Nat.and_le_right
  have l3 : pc_s3 (pc_s2 (pc_s1 n)) ≤ 252645135 := Nat.and_le_right
  have s1 : (n : Int) - mi_and (mi_ushr (n : Int) 1) 1431655765 = (pc_s1 n : Int) := by
    have := mx_ushrN (a := n) (k := 1) (by decide) h
    rw [show mi_ushr (n : Int) 1 = ((n / 2 : Nat) : Int) from this, show mi_and ((n / 2 : Nat) : Int) 1431655765 = ((n / 2 &&& 1431655765 : Nat) : Int) from mx_andN (by omega)]
    have := pc_half n 1431655765
    unfold pc_s1
    omega
  have s2 : mi_and (pc_s1 n : Int) 858993459 + mi_and (mi_ushr (pc_s1 n : Int) 2) 858993459 = (pc_s2 (pc_s1 n) : Int) := by
    have := mx_ushrN (a := pc_s1 n) (k := 2) (by decide) (by omega)
    rw [show mi_ushr (pc_s1 n : Int) 2 = ((pc_s1 n / 4 : Nat) : Int) from this, show mi_and (pc_s1 n : Int) 858993459 = ((pc_s1 n &&& 858993459 : Nat) : Int) from mx_andN (by omega), show mi_and ((pc_s1 n / 4 : Nat) : Int) 858993459 = ((pc_s1 n / 4 &&& 858993459 : Nat) : Int) from mx_andN (by omega)]
    unfold pc_s2
    omega
  have s3 : mi_and ((pc_s2 (pc_s1 n) : Int) + mi_ushr (pc_s2 (pc_s1 n) : Int) 4) 252645135 = (pc_s3 (pc_s2 (pc_s1 n)) : Int) := by
    have := mx_ushrN (a := pc_s2 (pc_s1 n)) (k := 4) (by decide) (by omega)
    rw [show mi_ushr (pc_s2 (pc_s1 n) : Int) 4 = ((pc_s2 (pc_s1 n) / 16 : Nat) : Int) from this, ← Int.natCast_add, show mi_and ((pc_s2 (pc_s1 n) + pc_s2 (pc_s1 n) / 16 : Nat) : Int) 252645135 = ((pc_s2 (pc_s1 n) + pc_s2 (pc_s1 n) / 16 &&& 252645135 : Nat) : Int) from mx_andN (by omega)]
    rfl
  unfold mv257
  rw [s1, s2, s3]
  generalize pc_s3 (pc_s2 (pc_s1 n)) = c at hc l3
  have s4 : mi_ushr (c : Int) 8 = ((c / 256 : Nat) : Int) := mx_ushrN (a := c) (k := 8) (by decide) (by omega)
  rw [s4, ← Int.natCast_add, show mi_ushr ((c + c / 256 : Nat) : Int) 16 = (((c + c / 256) / 65536 : Nat) : Int) from mx_ushrN (k := 16) (by decide) (by omega), ← Int.natCast_add, show mi_and ((c + c / 256 + (c + c / 256) / 65536 : Nat) : Int) 63 = ((c + c / 256 + (c + c / 256) / 65536 &&& 63 : Nat) : Int) from mx_andN (by omega)]
  have := Nat.and_two_pow_sub_one_eq_mod (c + c / 256 + (c + c / 256) / 65536) 6
  rw [show 2 ^ 6 - 1 = 63 from rfl, show 2 ^ 6 = 64 from rfl] at this
  rw [this, hs, pc_fin b0 b1 b2 b3 hc]
/-! the reference's way -/
def mp191 (a0 : Int) (μ : mi_M) : Prop := 0 ≤ a0 ∧ a0 < 2147483648
def mv191 (a0 : Int) (μ : mi_M) : Int := (pc_n 32 a0.toNat : Int)
section
variable {X : mi_X} {Q : mi_R → mi_G → mi_M → Prop} {u : mi_U} {μ : mi_M}
theorem ml191 {f : Nat → Nat} (h0 : f 0 = 0) (hf : ∀ n, 0 < n → n < 2147483648 → f (n &&& (n - 1)) + 1 = f n) (k : Nat) : ∀ (n : Nat) (l : Int), f n ≤ k → n < 2147483648 → Q (.inl (some (.inl (l + (f n : Int))))) mi_G0 μ → mk191_4 X Q u l (n : Int) μ := by
  induction k with
  | zero =>
    intro n l hk hn hq
    rcases Nat.eq_zero_or_pos n with e | e
    · apply mh191_4
      rw [mi_wr_id (by omega) (by omega), if_pos (by omega)]
      rw [e, h0, show l + ((0 : Nat) : Int) = l by omega] at hq
      exact hq
    · have := hf n (by omega) hn
      omega
  | succ k ih =>
    intro n l hk hn hq
    rcases Nat.eq_zero_or_pos n with e | e
    · apply mh191_4
      rw [mi_wr_id (by omega) (by omega), if_pos (by omega)]
      rw [e, h0, show l + ((0 : Nat) : Int) = l by omega] at hq
      exact hq
    · apply mh191_4
      have hl := hf n (by omega) hn
      have ha : n &&& (n - 1) ≤ n := Nat.and_le_left
      rw [mi_wr_id (by omega) (by omega), if_neg (by omega), show (n : Int) - 1 = ((n - 1 : Nat) : Int) by omega, mx_andN hn]
      refine ih (n &&& (n - 1)) (l + 1) (by omega) (by omega) ?_
      rw [show l + 1 + (f (n &&& (n - 1)) : Int) = l + (f n : Int) by omega]
      exact hq
theorem mc191 {a0 : Int} (hp : mp191 a0 μ) (hq : Q (.inl (some (.inl (mv191 a0 μ)))) mi_G0 μ) : mi_cok X 191 [(.inl a0)] mi_G0 μ u Q := by
  obtain ⟨n, rfl⟩ := Int.eq_ofNat_of_zero_le hp.1
  apply me191
  have h2 := hp.2
  refine ml191 (f := pc_n 32) (by decide) (fun n h1 h2 => pc_low 32 n h1 (by omega)) (pc_n 32 n) n 0 (Nat.le_refl _) (by omega) ?_
  rw [Int.zero_add]
  exact hq
end
