/-! WAYS: what a way tells at a place -/
def wy_x (r : Int) : Int := if r = 0 ∨ r = 4 ∨ r = 6 then 1 else if r = 1 ∨ r = 5 ∨ r = 7 then -1 else 0
def wy_y (r : Int) : Int := if r = 2 ∨ r = 4 ∨ r = 7 then 1 else if r = 3 ∨ r = 5 ∨ r = 6 then -1 else 0
/-- is a place inside -/
def sc_in (m : Int → Int) (x y : Int) : Prop := 0 ≤ x ∧ x < m 0 ∧ 0 ≤ y ∧ y < m 1
/-- with so many steps at most towards the border -/
noncomputable def sp_wv (m : Int → Int) (r : Int) : Nat → Int → Int → Int → Int
  | 0, x, y, d => sp_cost m x y d
  | n + 1, x, y, d => sp_cost m x y d + @ite Int (sc_in m (x - wy_x r) (y - wy_y r)) (Classical.propDecidable _) (tb_v (fun e => sp_wv m r n (x - wy_x r) (y - wy_y r) e) (m 2) (m 4) (m 5) d) 0
noncomputable def sp_way (m : Int → Int) (r x y d : Int) : Int := sp_wv m r 16 x y d
/-- how far the border is -/
def wy_far (m : Int → Int) (r x y : Int) : Int := if wy_x r = 1 then x else if wy_x r = -1 then m 0 - 1 - x else if wy_y r = 1 then y else m 1 - 1 - y
theorem wy_cases {r : Int} (h : 0 ≤ r) (h' : r < 8) : (wy_x r = 1 ∨ wy_x r = -1 ∨ wy_x r = 0) ∧ (wy_y r = 1 ∨ wy_y r = -1 ∨ wy_y r = 0) ∧ ¬ (wy_x r = 0 ∧ wy_y r = 0) := by
  rcases (show r = 0 ∨ r = 1 ∨ r = 2 ∨ r = 3 ∨ r = 4 ∨ r = 5 ∨ r = 6 ∨ r = 7 by omega) with rfl | rfl | rfl | rfl | rfl | rfl | rfl | rfl <;> decide
theorem wy_next {m : Int → Int} {r x y : Int} (h : 0 ≤ r) (h' : r < 8) (hi : sc_in m x y) (hn : sc_in m (x - wy_x r) (y - wy_y r)) : 0 ≤ wy_far m r (x - wy_x r) (y - wy_y r) ∧ wy_far m r (x - wy_x r) (y - wy_y r) = wy_far m r x y - 1 := by
  obtain ⟨c1, c2, c3⟩ := wy_cases h h'
  unfold sc_in at hi hn
  unfold wy_far
  rcases c1 with e | e | e <;> rcases c2 with g | g | g <;> simp only [e, g] at hn ⊢ <;> (first | omega | (simp; omega) | exact absurd ⟨e, g⟩ c3)
