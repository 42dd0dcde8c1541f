/-! the equation of ways -/
theorem wy_in {m : Int → Int} {r x y : Int} (h : 0 ≤ r) (h' : r < 8) (hi : sc_in m x y) : 0 ≤ wy_far m r x y ∧ (m 0 ≤ 16 → m 1 ≤ 12 → wy_far m r x y < 16) := by
  obtain ⟨c1, c2, c3⟩ := wy_cases h h'
  unfold sc_in at hi
  unfold wy_far
  split
  · omega
  · split
    · omega
    · split <;> omega
theorem sp_wv_s {m : Int → Int} {r : Int} (h : 0 ≤ r) (h' : r < 8) : ∀ (n : Nat) (x y d : Int), sc_in m x y → wy_far m r x y ≤ n → 0 ≤ d → d ≤ m 2 → sp_wv m r n x y d = sp_wv m r (n + 1) x y d
  | 0, x, y, d, hi, hf, hd, hd' => by
    have hn : ¬ sc_in m (x - wy_x r) (y - wy_y r) := fun hc => by
      have := wy_next h h' hi hc
      omega
    show sp_cost m x y d = sp_cost m x y d + @ite Int (sc_in m (x - wy_x r) (y - wy_y r)) (Classical.propDecidable _) _ 0
    rw [if_neg hn, Int.add_zero]
  | n + 1, x, y, d, hi, hf, hd, hd' => by
    show sp_cost m x y d + @ite Int (sc_in m (x - wy_x r) (y - wy_y r)) (Classical.propDecidable _) (tb_v (fun e => sp_wv m r n (x - wy_x r) (y - wy_y r) e) (m 2) (m 4) (m 5) d) 0 = sp_cost m x y d + @ite Int (sc_in m (x - wy_x r) (y - wy_y r)) (Classical.propDecidable _) (tb_v (fun e => sp_wv m r (n + 1) (x - wy_x r) (y - wy_y r) e) (m 2) (m 4) (m 5) d) 0
    by_cases hc : sc_in m (x - wy_x r) (y - wy_y r)
    · rw [if_pos hc, if_pos hc, tb_eq hd hd' (fun e h1 h2 => sp_wv_s h h' n (x - wy_x r) (y - wy_y r) e hc (by have := wy_next h h' hi hc; omega) h1 h2)]
    · rw [if_neg hc, if_neg hc]
theorem sp_way_in {m : Int → Int} (hm : sc_ok m) {r x y d : Int} (h : 0 ≤ r) (h' : r < 8) (hi : sc_in m x y) (hd : 0 ≤ d) (hd' : d ≤ m 2) (hc : sc_in m (x - wy_x r) (y - wy_y r)) : sp_way m r x y d = sp_cost m x y d + tb_v (fun e => sp_way m r (x - wy_x r) (y - wy_y r) e) (m 2) (m 4) (m 5) d := by
  obtain ⟨⟨w1, w2⟩, ⟨g1, g2⟩, -⟩ := id hm
  unfold sp_way
  rw [sp_wv_s h h' 16 x y d hi (by have := (wy_in h h' hi).2 w2 g2; omega) hd hd']
  show sp_cost m x y d + @ite Int (sc_in m (x - wy_x r) (y - wy_y r)) (Classical.propDecidable _) (tb_v (fun e => sp_wv m r 16 (x - wy_x r) (y - wy_y r) e) (m 2) (m 4) (m 5) d) 0 = _
  rw [if_pos hc]
theorem sp_way_out {m : Int → Int} {r x y d : Int} (hc : ¬ sc_in m (x - wy_x r) (y - wy_y r)) : sp_way m r x y d = sp_cost m x y d := by
  unfold sp_way
  show sp_cost m x y d + @ite Int (sc_in m (x - wy_x r) (y - wy_y r)) (Classical.propDecidable _) _ 0 = _
  rw [if_neg hc, Int.add_zero]
theorem sp_way_b {m : Int → Int} (hm : sc_ok m) {r x y d : Int} (hd : 0 ≤ d) (hd' : d ≤ m 2) : 0 ≤ sp_way m r x y d ∧ sp_way m r x y d ≤ 92 := by
  obtain ⟨-, -, -, -, ⟨p1, p2, p3⟩, -⟩ := id hm
  have b := sp_cost_b (m := m) x y d
  unfold sp_way
  show 0 ≤ sp_cost m x y d + @ite Int (sc_in m (x - wy_x r) (y - wy_y r)) (Classical.propDecidable _) (tb_v (fun e => sp_wv m r 15 (x - wy_x r) (y - wy_y r) e) (m 2) (m 4) (m 5) d) 0 ∧ sp_cost m x y d + @ite Int (sc_in m (x - wy_x r) (y - wy_y r)) (Classical.propDecidable _) (tb_v (fun e => sp_wv m r 15 (x - wy_x r) (y - wy_y r) e) (m 2) (m 4) (m 5) d) 0 ≤ 92
  have t := tb_b (f := fun e => sp_wv m r 15 (x - wy_x r) (y - wy_y r) e) (n := m 2) (A := m 4) (B := m 5) hd hd' p1 (by omega)
  by_cases hc : sc_in m (x - wy_x r) (y - wy_y r)
  · rw [if_pos hc]; omega
  · rw [if_neg hc]; omega
