/-! a way is laid place by place -/
def wy_i (m : Int → Int) (r x : Int) : Int := if wy_x r < 0 then m 0 - 1 - x else x
def wy_j (m : Int → Int) (r y : Int) : Int := if wy_y r < 0 then m 1 - 1 - y else y
def wy_is (μ : mi_M) (c : Nat) (m : Int → Int) (r : Int) : Prop := ∀ x y d, 0 ≤ x → x < m 0 → 0 ≤ y → y < m 1 → 0 ≤ d → d ≤ m 2 → μ c (8 * (16 * y + x) + d) = sp_way m r x y d
def wy_to (μ : mi_M) (c : Nat) (m : Int → Int) (r py px pd : Int) : Prop := ∀ x y d, 0 ≤ x → x < m 0 → 0 ≤ y → y < m 1 → 0 ≤ d → d ≤ m 2 → (wy_j m r y < py ∨ wy_j m r y = py ∧ (wy_i m r x < px ∨ wy_i m r x = px ∧ d < pd)) → μ c (8 * (16 * y + x) + d) = sp_way m r x y d
theorem wy_ij {m : Int → Int} {r x : Int} (hx : 0 ≤ x) (hx' : x < m 0) : 0 ≤ wy_i m r x ∧ wy_i m r x < m 0 := by unfold wy_i; split <;> omega
theorem wy_jj {m : Int → Int} {r y : Int} (hy : 0 ≤ y) (hy' : y < m 1) : 0 ≤ wy_j m r y ∧ wy_j m r y < m 1 := by unfold wy_j; split <;> omega
theorem wy_ii {m : Int → Int} {r x : Int} : wy_i m r (wy_i m r x) = x := by unfold wy_i; split <;> omega
theorem wy_jjj {m : Int → Int} {r y : Int} : wy_j m r (wy_j m r y) = y := by unfold wy_j; split <;> omega
section
variable {μ : mi_M} {c : Nat} {m : Int → Int} {r : Int}
theorem wy_to0 : wy_to μ c m r 0 0 0 := fun x y d h1 h2 h3 h4 h5 h6 h7 => by
  have := wy_ij (m := m) (r := r) h1 h2
  have := wy_jj (m := m) (r := r) h3 h4
  omega
theorem wy_toY {y : Int} (h : wy_to μ c m r y (m 0) 0) : wy_to μ c m r (y + 1) 0 0 := fun x y' d h1 h2 h3 h4 h5 h6 h7 => by
  have := wy_ij (m := m) (r := r) h1 h2
  exact h x y' d h1 h2 h3 h4 h5 h6 (by omega)
theorem wy_toX {y x : Int} (h : wy_to μ c m r y x (m 2 + 1)) : wy_to μ c m r y (x + 1) 0 := fun x' y' d h1 h2 h3 h4 h5 h6 h7 => h x' y' d h1 h2 h3 h4 h5 h6 (by omega)
theorem wy_toE (h : wy_to μ c m r (m 1) 0 0) : wy_is μ c m r := fun x y d h1 h2 h3 h4 h5 h6 => by
  have := wy_jj (m := m) (r := r) h3 h4
  exact h x y d h1 h2 h3 h4 h5 h6 (by omega)
theorem wy_toD {y x d a : Int} (hm : m 0 ≤ 16) (hn : m 2 ≤ 7) (h : wy_to μ c m r y x d) (hx : 0 ≤ wy_i m r x) (hx' : wy_i m r x < m 0) (hd : 0 ≤ d) (hd' : d ≤ m 2) (ha : a = sp_way m r (wy_i m r x) (wy_j m r y) d) : wy_to (mi_set μ c (8 * (16 * wy_j m r y + wy_i m r x) + d) a) c m r y x (d + 1) := by
  intro x' y' d' h1 h2 h3 h4 h5 h6 h7
  rw [ms_same]
  by_cases e : y' = wy_j m r y ∧ x' = wy_i m r x ∧ d' = d
  · obtain ⟨rfl, rfl, rfl⟩ := e
    rw [if_pos rfl, ha]
  · rw [if_neg (by omega)]
    refine h x' y' d' h1 h2 h3 h4 h5 h6 ?_
    have e1 : y' = wy_j m r y ↔ wy_j m r y' = y := ⟨fun g => by rw [g, wy_jjj], fun g => by rw [← g, wy_jjj]⟩
    have e2 : x' = wy_i m r x ↔ wy_i m r x' = x := ⟨fun g => by rw [g, wy_ii], fun g => by rw [← g, wy_ii]⟩
    rw [e1, e2] at e
    omega
/-- the place ahead comes first -/
theorem wy_pre {x y : Int} (h : 0 ≤ r) (h' : r < 8) : wy_j m r (y - wy_y r) < wy_j m r y ∨ wy_j m r (y - wy_y r) = wy_j m r y ∧ wy_i m r (x - wy_x r) < wy_i m r x := by
  obtain ⟨c1, c2, c3⟩ := wy_cases h h'
  unfold wy_i wy_j
  rcases c1 with e | e | e <;> rcases c2 with g | g | g <;> simp only [e, g] <;> (first | omega | (simp; omega) | exact absurd ⟨e, g⟩ c3)
end
