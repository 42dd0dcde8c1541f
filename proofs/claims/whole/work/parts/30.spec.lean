/-! WHAT A SCENE IS (in the reference's row of numbers) and how class and reference hold it -/
def sc_ok (m : Int → Int) : Prop := (3 ≤ m 0 ∧ m 0 ≤ 16) ∧ (3 ≤ m 1 ∧ m 1 ≤ 12) ∧ (1 ≤ m 2 ∧ m 2 ≤ 7) ∧ (1 ≤ m 3 ∧ m 3 ≤ 2) ∧ (0 ≤ m 4 ∧ m 4 ≤ m 5 ∧ m 5 ≤ 60) ∧ (1 ≤ m 6 ∧ m 6 ≤ 255) ∧ (0 ≤ m 7 ∧ m 7 ≤ 3) ∧ (1 ≤ m 8 ∧ m 8 ≤ 50) ∧ (1 ≤ m 9 ∧ m 9 ≤ 999) ∧ ∀ j, 10 ≤ j → j < 394 → 0 ≤ m j ∧ m j ≤ 15
def sc_c (m : Int → Int) (μ : mi_M) : Prop := μ 1 0 = m 0 ∧ μ 1 1 = m 1 ∧ (∀ j, 0 ≤ j → j < 8 → μ 2 j = m (2 + j)) ∧ ∀ j, 0 ≤ j → j < 384 → μ 3 j = m (10 + j)
def sc_r (m : Int → Int) (μ : mi_M) : Prop := ∀ j, 0 ≤ j → j < 394 → μ 87 j = m j
/-! codes -/
def sp_near (n hi : Int) : Int := if n < 0 then 0 else if hi < n then hi else n
def sp_val (m : Int → Int) (v x y : Int) : Int := m (10 + (192 * v + 16 * y + x))
def sp_cv (m : Int → Int) (v x y i j : Int) : Int := sp_val m v (sp_near (x + i) (m 0 - 1)) (sp_near (y + j) (m 1 - 1))
def sp_bit (m : Int → Int) (v x y i j acc : Int) : Int := if i = 0 ∧ j = 0 then acc else 2 * acc + (if sp_cv m v x y i j < sp_val m v x y then 1 else 0)
def sp_crow (m : Int → Int) (v x y j : Int) : Nat → Int → Int → Int
  | 0, _, acc => acc
  | n + 1, i, acc => sp_crow m v x y j n (i + 1) (sp_bit m v x y i j acc)
def sp_call (m : Int → Int) (v x y : Int) : Nat → Int → Int → Int
  | 0, _, acc => acc
  | n + 1, j, acc => sp_call m v x y n (j + 1) (sp_crow m v x y j (2 * m 3 + 1).toNat (-(m 3)) acc)
def sp_code (m : Int → Int) (v x y : Int) : Int := sp_call m v x y (2 * m 3 + 1).toNat (-(m 3)) 0
section
variable {m : Int → Int} {v x y i j acc : Int}
theorem sp_near_in {n hi : Int} (h : 0 ≤ hi) : 0 ≤ sp_near n hi ∧ sp_near n hi ≤ hi := by
  unfold sp_near; split <;> (try split) <;> omega
theorem sp_bit_b {k : Nat} (h0 : 0 ≤ acc) (h : acc < 2 ^ k) : 0 ≤ sp_bit m v x y i j acc ∧ sp_bit m v x y i j acc < 2 ^ (k + 1) := by
  unfold sp_bit
  rw [Int.pow_succ]
  split
  · omega
  · split <;> omega
theorem sp_crow_b : ∀ (n : Nat) (i acc : Int) (k : Nat), 0 ≤ acc → acc < 2 ^ k → 0 ≤ sp_crow m v x y j n i acc ∧ sp_crow m v x y j n i acc < 2 ^ (k + n)
  | 0, i, acc, k, h0, h => ⟨h0, h⟩
  | n + 1, i, acc, k, h0, h => by
    have b := sp_bit_b (m := m) (v := v) (x := x) (y := y) (i := i) (j := j) h0 h
    have := sp_crow_b n (i + 1) (sp_bit m v x y i j acc) (k + 1) b.1 b.2
    rw [show k + (n + 1) = k + 1 + n by omega]
    exact this
end
/-! the class's codes -/
section
variable {X : mi_X} {Q : mi_R → mi_G → mi_M → Prop} {u : mi_U} {μ : mi_M} {m : Int → Int}
theorem sc_near (a b : Int) (ha : mx_R a) (hb : mx_R b) : mv33 a b μ = sp_near a b := by
  unfold mv33 sp_near; rw [mx_wr ha, mx_wr hb]
theorem mx_val (hm : sc_ok m) {v x y : Int} (hv : 0 ≤ v) (hv' : v ≤ 1) (hx : 0 ≤ x) (hx' : x < 16) (hy : 0 ≤ y) (hy' : y < 12) : 0 ≤ sp_val m v x y ∧ sp_val m v x y ≤ 15 := by
  unfold sp_val; exact hm.2.2.2.2.2.2.2.2.2 _ (by omega) (by omega)
theorem ml32_72 (hm : sc_ok m) (hs : sc_c m μ) {v x y j : Int} (hv : 0 ≤ v) (hv' : v ≤ 1) (hx : 0 ≤ x) (hx' : x < m 0) (hy : 0 ≤ y) (hy' : y < m 1) (hj : -(m 3) ≤ j) (hj' : j ≤ m 3) :
    ∀ (n : Nat) (i acc : Int) (k : Nat), i + n = m 3 + 1 → -(m 3) ≤ i → 0 ≤ acc → acc < 2 ^ k → k + n ≤ 26 →
    mk32_66_36 X Q u v x y (m 3) (sp_val m v x y) (sp_crow m v x y j n i acc) (y + j + 1) μ →
    mk32_66_72 X Q u v x y (m 3) (sp_val m v x y) acc (y + j) (192 * v + 16 * sp_near (y + j) (m 1 - 1)) (x + i) μ := by
  obtain ⟨⟨w1, w2⟩, ⟨g1, g2⟩, -, ⟨f1, f2⟩, -⟩ := id hm
  have hn := sp_near_in (n := y + j) (hi := m 1 - 1) (by omega)
  intro n
  induction n with
  | zero =>
    intro i acc k e1 e2 a0 a1 hk h
    apply mh32_66_72
    rw [mi_wr_id (by omega) (by omega), mi_wr_id (by omega) (by omega), if_pos (by omega)]
    exact h
  | succ n ih =>
    intro i acc k e1 e2 a0 a1 hk h
    have hp : (2 : Int) ^ k ≤ 2 ^ 25 := by
      have : 2 ^ k ≤ 2 ^ 25 := Nat.pow_le_pow_right (by decide) (show k ≤ 25 by omega)
      exact_mod_cast this
    have hq : (2 : Int) ^ 25 = 33554432 := by decide
    have hn2 := sp_near_in (n := x + i) (hi := m 0 - 1) (by omega)
    have hb := sp_bit_b (m := m) (v := v) (x := x) (y := y) (i := i) (j := j) a0 a1
    have ih' := ih (i + 1) (sp_bit m v x y i j acc) (k + 1) (by omega) (by omega) hb.1 hb.2 (by omega) h
    rw [show x + (i + 1) = x + i + 1 by omega] at ih'
    have hvs := mx_val hm hv hv' hx (show x < 16 by omega) hy (show y < 12 by omega)
    have hvt := mx_val hm hv hv' hn2.1 (show sp_near (x + i) (m 0 - 1) < 16 by omega) hn.1 (show sp_near (y + j) (m 1 - 1) < 12 by omega)
    have hld : μ 3 (192 * v + 16 * sp_near (y + j) (m 1 - 1) + sp_near (x + i) (m 0 - 1)) = sp_cv m v x y i j := by
      rw [hs.2.2.2 _ (by omega) (by omega)]; rfl
    have hcv : 0 ≤ sp_cv m v x y i j ∧ sp_cv m v x y i j ≤ 15 := hvt
    have hs0 : μ 1 0 = m 0 := hs.1
    apply mh32_66_72
    rw [mi_wr_id (z := x + m 3) (by omega) (by omega), mi_wr_id (z := x + i) (by omega) (by omega), if_neg (by omega), mi_wr_id (z := x) (by omega) (by omega), mi_wr_id (z := y + j) (by omega) (by omega), mi_wr_id (z := y) (by omega) (by omega), hs0, sc_near _ _ ⟨by omega, by omega⟩ ⟨by omega, by omega⟩, hld, mi_wr_id (z := sp_cv m v x y i j) (by omega) (by omega), mi_wr_id (z := sp_val m v x y) (by omega) (by omega), mx_shl1 a0 (by omega)]
    have hi : (0 ≤ 192 * v + 16 * sp_near (y + j) (m 1 - 1) + sp_near (x + i) (m 0 - 1) ∧ 192 * v + 16 * sp_near (y + j) (m 1 - 1) + sp_near (x + i) (m 0 - 1) < 384) := by omega
    have hst : ¬ (i = 0 ∧ j = 0) → (if sp_cv m v x y i j < sp_val m v x y then acc * 2 + 1 else acc * 2 + 0) = sp_bit m v x y i j acc := by
      intro hne
      unfold sp_bit
      rw [if_neg hne]
      split <;> omega
    by_cases ei : i = 0
    · by_cases ej : j = 0
      · rw [if_pos (by omega), if_pos (by omega)]
        have : sp_bit m v x y i j acc = acc := by unfold sp_bit; rw [if_pos ⟨ei, ej⟩]
        rw [this] at ih'
        exact ih'
      · rw [if_pos (by omega), if_neg (by omega), hst (by omega)]
        exact ⟨hi, ih'⟩
    · rw [if_neg (by omega), hst (by omega)]
      exact ⟨hi, ih'⟩
end
