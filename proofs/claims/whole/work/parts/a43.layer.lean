/-! layer, clear, count -/
section
variable {μ : mi_M}
def lyb (m : Int → Int) (n a0 a1 a2 a3 a4 : Int) : Prop := (-20 ≤ a0 ∧ a0 ≤ 20) ∧ (-20 ≤ a1 ∧ a1 ≤ 20) ∧ (1 ≤ a2 ∧ a2 ≤ 40) ∧ (1 ≤ a3 ∧ a3 ≤ 40) ∧ (0 ≤ a4 ∧ a4 ≤ m 2) ∧ n < 6
noncomputable def lm_c (a0 a1 a2 a3 a4 a5 : Int) (μ : mi_M) : mi_M := (mi_set (mi_set (mi_set (mi_set (mi_set (mi_set (mi_set μ 5 (μ 4 0) a0) 6 (μ 4 0) a1) 7 (μ 4 0) a2) 8 (μ 4 0) a3) 9 (μ 4 0) a4) 10 (μ 4 0) a5) 4 0 ((μ 4 0) + 1))
noncomputable def lm_r (a0 a1 a2 a3 a4 a5 : Int) (μ : mi_M) : mi_M := (mi_set (mi_set (mi_set (mi_set (mi_set (mi_set (mi_set (mi_set μ 86 0 0) 89 (6 * (μ 86 5)) a0) 89 ((6 * (μ 86 5)) + 1) a1) 89 ((6 * (μ 86 5)) + 2) a2) 89 ((6 * (μ 86 5)) + 3) a3) 89 ((6 * (μ 86 5)) + 4) a4) 89 ((6 * (μ 86 5)) + 5) a5) 86 5 ((μ 86 5) + 1))
theorem v88_is {a : Int} (hm : sc_ok (sc_m μ)) (r : mx_R a) : mv88_1 a μ = if 0 ≤ a ∧ a ≤ sc_m μ 2 then 1 else 0 := by
  obtain ⟨-, -, ⟨f1, f2⟩, -⟩ := id hm
  have e : μ 2 0 = sc_m μ 2 := d_is (by decide) (by decide)
  unfold mv88_1
  rw [mx_wr r, e, mi_wr_id (z := sc_m μ 2) (by omega) (by omega)]
  by_cases c : 0 ≤ a ∧ a ≤ sc_m μ 2
  · rw [if_pos c]; (repeat' split) <;> omega
  · rw [if_neg c]; (repeat' split) <;> omega
theorem ly_c {a0 a1 a2 a3 a4 a5 : Int} (hm : sc_ok (sc_m μ)) (h4 : 0 ≤ μ 4 0 ∧ μ 4 0 ≤ 6) (r0 : mx_R a0) (r1 : mx_R a1) (r2 : mx_R a2) (r3 : mx_R a3) (r4 : mx_R a4) : mp102_0 a0 a1 a2 a3 a4 a5 μ ∧ (lyb (sc_m μ) (μ 4 0) a0 a1 a2 a3 a4 → mv102_0 a0 a1 a2 a3 a4 a5 μ = μ 4 0 ∧ mm102_0 a0 a1 a2 a3 a4 a5 μ = lm_c a0 a1 a2 a3 a4 a5 μ) ∧ (¬ lyb (sc_m μ) (μ 4 0) a0 a1 a2 a3 a4 → mv102_0 a0 a1 a2 a3 a4 a5 μ = -1 ∧ mm102_0 a0 a1 a2 a3 a4 a5 μ = μ) := by
  have w6 : mi_wr 6 = 6 := by decide
  unfold mp102_0 mv102_0 mm102_0 lyb
  rw [mx_within r0 (by unfold mx_R; omega) (by unfold mx_R; omega), mx_within r1 (by unfold mx_R; omega) (by unfold mx_R; omega), mx_within r2 (by unfold mx_R; omega) (by unfold mx_R; omega), mx_within r3 (by unfold mx_R; omega) (by unfold mx_R; omega), v88_is hm r4, mi_wr_id (z := μ 4 0) (by omega) (by omega), w6]
  by_cases c0 : -20 ≤ a0 ∧ a0 ≤ 20
  rotate_left
  · simp only [if_neg c0, if_pos w_00]; exact ⟨trivial, fun h => absurd h.1 c0, fun _ => ⟨by first | trivial | rfl, by first | trivial | rfl⟩⟩
  by_cases c1 : -20 ≤ a1 ∧ a1 ≤ 20
  rotate_left
  · simp only [if_pos c0, if_neg w_10, if_neg c1, if_pos w_00]; exact ⟨trivial, fun h => absurd h.2.1 c1, fun _ => ⟨by first | trivial | rfl, by first | trivial | rfl⟩⟩
  by_cases c2 : 1 ≤ a2 ∧ a2 ≤ 40
  rotate_left
  · simp only [if_pos c0, if_pos c1, if_neg w_10, if_neg c2, if_pos w_00]; exact ⟨trivial, fun h => absurd h.2.2.1 c2, fun _ => ⟨by first | trivial | rfl, by first | trivial | rfl⟩⟩
  by_cases c3 : 1 ≤ a3 ∧ a3 ≤ 40
  rotate_left
  · simp only [if_pos c0, if_pos c1, if_pos c2, if_neg w_10, if_neg c3, if_pos w_00]; exact ⟨trivial, fun h => absurd h.2.2.2.1 c3, fun _ => ⟨by first | trivial | rfl, by first | trivial | rfl⟩⟩
  by_cases c4 : 0 ≤ a4 ∧ a4 ≤ sc_m μ 2
  rotate_left
  · simp only [if_pos c0, if_pos c1, if_pos c2, if_pos c3, if_neg w_10, if_neg c4, if_pos w_00]; exact ⟨trivial, fun h => absurd h.2.2.2.2.1 c4, fun _ => ⟨by first | trivial | rfl, by first | trivial | rfl⟩⟩
  by_cases c5 : μ 4 0 < 6
  rotate_left
  · simp only [if_pos c0, if_pos c1, if_pos c2, if_pos c3, if_pos c4, if_neg w_10, if_neg c5]; exact ⟨trivial, fun h => absurd h.2.2.2.2.2 c5, fun _ => ⟨by first | trivial | rfl, by first | trivial | rfl⟩⟩
  simp only [if_pos c0, if_pos c1, if_pos c2, if_pos c3, if_pos c4, if_neg w_10, if_pos c5]
  exact ⟨by omega, fun _ => ⟨by first | trivial | rfl, by first | trivial | rfl⟩, fun h => absurd ⟨c0, c1, c2, c3, c4, c5⟩ h⟩
theorem ly_r {a0 a1 a2 a3 a4 a5 : Int} (hm : sc_ok (μ 87)) (h4 : 0 ≤ μ 86 5 ∧ μ 86 5 ≤ 6) (r0 : mx_R a0) (r1 : mx_R a1) (r2 : mx_R a2) (r3 : mx_R a3) (r4 : mx_R a4) : mp173_86 a0 a1 a2 a3 a4 a5 μ ∧ (lyb (μ 87) (μ 86 5) a0 a1 a2 a3 a4 → mv173_86 a0 a1 a2 a3 a4 a5 μ = μ 86 5 ∧ mm173_86 a0 a1 a2 a3 a4 a5 μ = lm_r a0 a1 a2 a3 a4 a5 μ) ∧ (¬ lyb (μ 87) (μ 86 5) a0 a1 a2 a3 a4 → mv173_86 a0 a1 a2 a3 a4 a5 μ = -1 ∧ mm173_86 a0 a1 a2 a3 a4 a5 μ = mi_set μ 86 0 0) := by
  have w6 : mi_wr 6 = 6 := by decide
  obtain ⟨-, -, ⟨f1, f2⟩, -⟩ := id hm
  unfold mp173_86 mv173_86 mm173_86 lyb
  rw [mx_withinM r0 (by unfold mx_R; omega) (by unfold mx_R; omega), mx_withinM r1 (by unfold mx_R; omega) (by unfold mx_R; omega), mx_withinM r2 (by unfold mx_R; omega) (by unfold mx_R; omega), mx_withinM r3 (by unfold mx_R; omega) (by unfold mx_R; omega), mx_withinM r4 (by unfold mx_R; omega) (by unfold mx_R; omega), mi_wr_id (z := μ 86 5) (by omega) (by omega), w6]
  by_cases c0 : -20 ≤ a0 ∧ a0 ≤ 20
  rotate_left
  · simp only [if_neg c0, if_pos w_00]; exact ⟨trivial, fun h => absurd h.1 c0, fun _ => ⟨by first | trivial | rfl, by first | trivial | rfl⟩⟩
  by_cases c1 : -20 ≤ a1 ∧ a1 ≤ 20
  rotate_left
  · simp only [if_pos c0, if_neg w_10, if_neg c1, if_pos w_00]; exact ⟨trivial, fun h => absurd h.2.1 c1, fun _ => ⟨by first | trivial | rfl, by first | trivial | rfl⟩⟩
  by_cases c2 : 1 ≤ a2 ∧ a2 ≤ 40
  rotate_left
  · simp only [if_pos c0, if_pos c1, if_neg w_10, if_neg c2, if_pos w_00]; exact ⟨trivial, fun h => absurd h.2.2.1 c2, fun _ => ⟨by first | trivial | rfl, by first | trivial | rfl⟩⟩
  by_cases c3 : 1 ≤ a3 ∧ a3 ≤ 40
  rotate_left
  · simp only [if_pos c0, if_pos c1, if_pos c2, if_neg w_10, if_neg c3, if_pos w_00]; exact ⟨trivial, fun h => absurd h.2.2.2.1 c3, fun _ => ⟨by first | trivial | rfl, by first | trivial | rfl⟩⟩
  by_cases c4 : 0 ≤ a4 ∧ a4 ≤ μ 87 2
  rotate_left
  · simp only [if_pos c0, if_pos c1, if_pos c2, if_pos c3, if_neg w_10, if_neg c4, if_pos w_00]; exact ⟨trivial, fun h => absurd h.2.2.2.2.1 c4, fun _ => ⟨by first | trivial | rfl, by first | trivial | rfl⟩⟩
  by_cases c5 : μ 86 5 = 6
  · simp only [if_pos c0, if_pos c1, if_pos c2, if_pos c3, if_pos c4, if_neg w_10, if_pos c5]; exact ⟨trivial, fun h => by have := h.2.2.2.2.2; omega, fun _ => ⟨by first | trivial | rfl, by first | trivial | rfl⟩⟩
  simp only [if_pos c0, if_pos c1, if_pos c2, if_pos c3, if_pos c4, if_neg w_10, if_neg c5]
  exact ⟨by omega, fun _ => ⟨by first | omega | trivial, by first | trivial | rfl⟩, fun h => absurd ⟨c0, c1, c2, c3, c4, by omega⟩ h⟩
theorem st_layer {a0 a1 a2 a3 a4 a5 : Int} (h : inv μ) (r0 : mx_R a0) (r1 : mx_R a1) (r2 : mx_R a2) (r3 : mx_R a3) (r4 : mx_R a4) : mp102_0 a0 a1 a2 a3 a4 a5 μ ∧ mp173_86 a0 a1 a2 a3 a4 a5 (mm102_0 a0 a1 a2 a3 a4 a5 μ) ∧ mv102_0 a0 a1 a2 a3 a4 a5 μ = mv173_86 a0 a1 a2 a3 a4 a5 (mm102_0 a0 a1 a2 a3 a4 a5 μ) ∧ inv (mm173_86 a0 a1 a2 a3 a4 a5 (mm102_0 a0 a1 a2 a3 a4 a5 μ)) := by
  obtain ⟨⟨m1, m2⟩, hci, ⟨l1, l2⟩, htp, hpa, him⟩ := id h
  have hb := l1.1
  have e4 : μ 4 0 = μ 86 5 := l2.1
  obtain ⟨c1, c2, c3⟩ := ly_c (μ := μ) (a0 := a0) (a1 := a1) (a2 := a2) (a3 := a3) (a4 := a4) (a5 := a5) (inv_A h).1 (by omega) r0 r1 r2 r3 r4
  rw [m2, e4] at c2 c3
  by_cases c : lyb (μ 87) (μ 86 5) a0 a1 a2 a3 a4
  · obtain ⟨g1, g2⟩ := c2 c
    have f0 : fr_l [4, 5, 6, 7, 8, 9, 10] μ (lm_c a0 a1 a2 a3 a4 a5 μ) := fr_ls (fr_ls (fr_ls (fr_ls (fr_ls (fr_ls (fr_ls (fr_lr _ _) (by decide) _ _) (by decide) _ _) (by decide) _ _) (by decide) _ _) (by decide) _ _) (by decide) _ _) (by decide) _ _
    have e86 : lm_c a0 a1 a2 a3 a4 a5 μ 86 = μ 86 := f0 86 (by decide)
    have e87 : lm_c a0 a1 a2 a3 a4 a5 μ 87 = μ 87 := f0 87 (by decide)
    have e89 : lm_c a0 a1 a2 a3 a4 a5 μ 89 = μ 89 := f0 89 (by decide)
    obtain ⟨d1, d2, d3⟩ := ly_r (μ := lm_c a0 a1 a2 a3 a4 a5 μ) (a0 := a0) (a1 := a1) (a2 := a2) (a3 := a3) (a4 := a4) (a5 := a5) (by rw [e87]; exact m1) (by rw [e86]; exact hb) r0 r1 r2 r3 r4
    rw [e86, e87] at d2
    obtain ⟨k1, k2⟩ := d2 c
    rw [g2, g1, k1, k2]
    refine ⟨c1, d1, rfl, ?_⟩
    have f1 : fr_l [86, 89] (lm_c a0 a1 a2 a3 a4 a5 μ) (lm_r a0 a1 a2 a3 a4 a5 (lm_c a0 a1 a2 a3 a4 a5 μ)) := fr_ls (fr_ls (fr_ls (fr_ls (fr_ls (fr_ls (fr_ls (fr_ls (fr_lr _ _) (by decide) _ _) (by decide) _ _) (by decide) _ _) (by decide) _ _) (by decide) _ _) (by decide) _ _) (by decide) _ _) (by decide) _ _
    have k : ∀ q, (¬ (4 ≤ q ∧ q ≤ 10)) → q ≠ 86 → q ≠ 89 → lm_r a0 a1 a2 a3 a4 a5 (lm_c a0 a1 a2 a3 a4 a5 μ) q = μ q := fun q q1 q2 q3 => (f1 q (by simp only [List.mem_cons, List.not_mem_nil, or_false, not_or]; exact ⟨q2, q3⟩)).trans (f0 q (by simp only [List.mem_cons, List.not_mem_nil, or_false, not_or]; omega))
    have v86 : ∀ j, lm_r a0 a1 a2 a3 a4 a5 (lm_c a0 a1 a2 a3 a4 a5 μ) 86 j = if j = 5 then μ 86 5 + 1 else if j = 0 then 0 else μ 86 j := fun j => by
      unfold lm_r
      rw [ms_same, ms_other _ (by decide), ms_other _ (by decide), ms_other _ (by decide), ms_other _ (by decide), ms_other _ (by decide), ms_other _ (by decide), ms_same, e86]
    have v89 : ∀ j, lm_r a0 a1 a2 a3 a4 a5 (lm_c a0 a1 a2 a3 a4 a5 μ) 89 j = if j = 6 * μ 86 5 + 5 then a5 else if j = 6 * μ 86 5 + 4 then a4 else if j = 6 * μ 86 5 + 3 then a3 else if j = 6 * μ 86 5 + 2 then a2 else if j = 6 * μ 86 5 + 1 then a1 else if j = 6 * μ 86 5 then a0 else μ 89 j := fun j => by
      unfold lm_r
      rw [ms_other _ (by decide), ms_same, ms_same, ms_same, ms_same, ms_same, ms_same, ms_other _ (by decide), e86, e89]
    have l : ∀ q, q ≠ 86 → q ≠ 89 → lm_r a0 a1 a2 a3 a4 a5 (lm_c a0 a1 a2 a3 a4 a5 μ) q = lm_c a0 a1 a2 a3 a4 a5 μ q := fun q q2 q3 => f1 q (by simp only [List.mem_cons, List.not_mem_nil, or_false, not_or]; exact ⟨q2, q3⟩)
    have v5 : lm_r a0 a1 a2 a3 a4 a5 (lm_c a0 a1 a2 a3 a4 a5 μ) 86 5 = μ 86 5 + 1 := by rw [v86, if_pos rfl]
    have fe : ∀ j, j ≠ 0 → j ≠ 5 → lm_r a0 a1 a2 a3 a4 a5 (lm_c a0 a1 a2 a3 a4 a5 μ) 86 j = μ 86 j := fun j x y => by rw [v86, if_neg y, if_neg x]
    obtain ⟨b0, b1, b2, b3, b4, b5⟩ := c
    have m27 : μ 87 2 ≤ 7 := by obtain ⟨-, -, ⟨-, f2⟩, -⟩ := id m1; exact f2
    refine ⟨sm_fr (k 1 (by omega) (by decide) (by decide)) (k 2 (by omega) (by decide) (by decide)) (k 3 (by omega) (by decide) (by decide)) (k 87 (by omega) (by decide) (by decide)) ⟨m1, m2⟩, ci_fr (L := [4, 5, 6, 7, 8, 9, 10, 86, 89]) (fun q hq => k q ?_ ?_ ?_) rfl hci, ⟨⟨by rw [v5]; omega, fun i i1 i2 => ?_⟩, ?_, fun i i1 i2 => ?_⟩, tp_fr (by rw [k 11 (by omega) (by decide) (by decide)]) (k 12 (by omega) (by decide) (by decide)) (k 90 (by omega) (by decide) (by decide)) (fe 7 (by decide) (by decide)) htp, pa_fr (fun q hq => k q (by omega) (by omega) (by omega)) (k 88 (by omega) (by decide) (by decide)) (fe 3 (by decide) (by decide)) hpa, im_fr (fun q q1 q2 => k q (by omega) (by omega) (by omega)) (k 102 (by omega) (by decide) (by decide)) (fe 26 (by decide) (by decide)) him⟩
    · simp only [List.mem_cons, List.not_mem_nil, or_false, not_or] at hq; omega
    · intro e; exact hq (by rw [e]; decide)
    · intro e; exact hq (by rw [e]; decide)
    · rw [v5] at i2
      rw [v89, v89, v89, v89, v89]
      by_cases z : i = μ 86 5
      · subst z
        rw [if_neg (show ¬ (6 * μ 86 5 = 6 * μ 86 5 + 5) by omega), if_neg (show ¬ (6 * μ 86 5 = 6 * μ 86 5 + 4) by omega), if_neg (show ¬ (6 * μ 86 5 = 6 * μ 86 5 + 3) by omega), if_neg (show ¬ (6 * μ 86 5 = 6 * μ 86 5 + 2) by omega), if_neg (show ¬ (6 * μ 86 5 = 6 * μ 86 5 + 1) by omega), if_pos (show 6 * μ 86 5 = 6 * μ 86 5 from rfl)]
        rw [if_neg (show ¬ (6 * μ 86 5 + 1 = 6 * μ 86 5 + 5) by omega), if_neg (show ¬ (6 * μ 86 5 + 1 = 6 * μ 86 5 + 4) by omega), if_neg (show ¬ (6 * μ 86 5 + 1 = 6 * μ 86 5 + 3) by omega), if_neg (show ¬ (6 * μ 86 5 + 1 = 6 * μ 86 5 + 2) by omega), if_pos (show 6 * μ 86 5 + 1 = 6 * μ 86 5 + 1 from rfl)]
        rw [if_neg (show ¬ (6 * μ 86 5 + 2 = 6 * μ 86 5 + 5) by omega), if_neg (show ¬ (6 * μ 86 5 + 2 = 6 * μ 86 5 + 4) by omega), if_neg (show ¬ (6 * μ 86 5 + 2 = 6 * μ 86 5 + 3) by omega), if_pos (show 6 * μ 86 5 + 2 = 6 * μ 86 5 + 2 from rfl)]
        rw [if_neg (show ¬ (6 * μ 86 5 + 3 = 6 * μ 86 5 + 5) by omega), if_neg (show ¬ (6 * μ 86 5 + 3 = 6 * μ 86 5 + 4) by omega), if_pos (show 6 * μ 86 5 + 3 = 6 * μ 86 5 + 3 from rfl)]
        rw [if_neg (show ¬ (6 * μ 86 5 + 4 = 6 * μ 86 5 + 5) by omega), if_pos (show 6 * μ 86 5 + 4 = 6 * μ 86 5 + 4 from rfl)]
        omega
      · simp (disch := omega) only [if_neg]
        exact l1.2 i i1 (by omega)
    · rw [l 4 (by decide) (by decide), v5]
      unfold lm_c
      rw [ms_same, if_pos rfl, e4]
    · obtain ⟨x1, x2, x3, x4, x5, x6⟩ := l2.2 i i1 i2
      rw [l 5 (by decide) (by decide), l 6 (by decide) (by decide), l 7 (by decide) (by decide), l 8 (by decide) (by decide), l 9 (by decide) (by decide), l 10 (by decide) (by decide), v89, v89, v89, v89, v89, v89]
      unfold lm_c
      rw [ms_other _ (by decide), ms_other _ (by decide), ms_other _ (by decide), ms_other _ (by decide), ms_other _ (by decide), ms_other _ (by decide), ms_same]
      rw [ms_other _ (by decide), ms_other _ (by decide), ms_other _ (by decide), ms_other _ (by decide), ms_other _ (by decide), ms_same, ms_other _ (by decide)]
      rw [ms_other _ (by decide), ms_other _ (by decide), ms_other _ (by decide), ms_other _ (by decide), ms_same, ms_other _ (by decide), ms_other _ (by decide)]
      rw [ms_other _ (by decide), ms_other _ (by decide), ms_other _ (by decide), ms_same, ms_other _ (by decide), ms_other _ (by decide), ms_other _ (by decide)]
      rw [ms_other _ (by decide), ms_other _ (by decide), ms_same, ms_other _ (by decide), ms_other _ (by decide), ms_other _ (by decide), ms_other _ (by decide)]
      rw [ms_other _ (by decide), ms_same, ms_other _ (by decide), ms_other _ (by decide), ms_other _ (by decide), ms_other _ (by decide), ms_other _ (by decide), e4]
      by_cases z : i = μ 86 5
      · subst z
        simp (disch := omega) only [if_neg, if_pos]
        exact ⟨rfl, rfl, rfl, rfl, rfl, rfl⟩
      · simp (disch := omega) only [if_neg]
        exact ⟨x1, x2, x3, x4, x5, x6⟩
  · obtain ⟨g1, g2⟩ := c3 c
    obtain ⟨d1, d2, d3⟩ := ly_r (μ := μ) (a0 := a0) (a1 := a1) (a2 := a2) (a3 := a3) (a4 := a4) (a5 := a5) m1 hb r0 r1 r2 r3 r4
    obtain ⟨k1, k2⟩ := d3 c
    rw [g2, g1, k1, k2]
    exact ⟨c1, d1, rfl, inv_0 h⟩
theorem st_clear (h : inv μ) : mv103_0 μ = mv174_86 (mm103_0 μ) ∧ inv (mm174_86 (mm103_0 μ)) := by
  obtain ⟨m, hci, ⟨l1, l2⟩, htp, hpa, him⟩ := id h
  have e4 : μ 4 0 = μ 86 5 := l2.1
  unfold mv103_0 mv174_86 mm174_86 mm103_0
  refine ⟨by rw [ms_other _ (by decide)]; exact e4, ?_⟩
  have k : ∀ q, q ≠ 86 → q ≠ 4 → mi_set (mi_set (mi_set μ 4 0 0) 86 0 0) 86 5 0 q = μ q := fun q q1 q2 => by rw [ms_other _ q1, ms_other _ q1, ms_other _ q2]
  have v86 : ∀ j, mi_set (mi_set (mi_set μ 4 0 0) 86 0 0) 86 5 0 86 j = if j = 5 then 0 else if j = 0 then 0 else μ 86 j := fun j => by rw [ms_same, ms_same, ms_other _ (by decide)]
  have v4 : mi_set (mi_set (mi_set μ 4 0 0) 86 0 0) 86 5 0 4 0 = 0 := by rw [ms_other _ (by decide), ms_other _ (by decide), ms_same, if_pos rfl]
  have v5 : mi_set (mi_set (mi_set μ 4 0 0) 86 0 0) 86 5 0 86 5 = 0 := by rw [v86, if_pos rfl]
  have fe : ∀ j, j ≠ 0 → j ≠ 5 → mi_set (mi_set (mi_set μ 4 0 0) 86 0 0) 86 5 0 86 j = μ 86 j := fun j x y => by rw [v86, if_neg y, if_neg x]
  revert k v4 v5 fe
  clear v86
  generalize mi_set (mi_set (mi_set μ 4 0 0) 86 0 0) 86 5 0 = ν
  intro k v4 v5 fe
  refine ⟨sm_fr (k 1 (by decide) (by decide)) (k 2 (by decide) (by decide)) (k 3 (by decide) (by decide)) (k 87 (by decide) (by decide)) m, ci_fr (L := [4, 86]) (fun q hq => ?_) rfl hci, ⟨⟨by rw [v5]; decide, fun i i1 i2 => by rw [v5] at i2; omega⟩, by rw [v4, v5], fun i i1 i2 => ?_⟩, tp_fr (by rw [k 11 (by decide) (by decide)]) (k 12 (by decide) (by decide)) (k 90 (by decide) (by decide)) (fe 7 (by decide) (by decide)) htp, pa_fr (fun q hq => k q (by omega) (by omega)) (k 88 (by decide) (by decide)) (fe 3 (by decide) (by decide)) hpa, im_fr (fun q q1 q2 => k q (by omega) (by omega)) (k 102 (by decide) (by decide)) (fe 26 (by decide) (by decide)) him⟩
  · simp only [List.mem_cons, List.not_mem_nil, or_false, not_or] at hq
    exact k q hq.2 hq.1
  · rw [k 5 (by decide) (by decide), k 6 (by decide) (by decide), k 7 (by decide) (by decide), k 8 (by decide) (by decide), k 9 (by decide) (by decide), k 10 (by decide) (by decide), k 89 (by decide) (by decide)]
    exact l2.2 i i1 i2
theorem st_count {a0 : Int} (h : inv μ) (r : mx_R a0) : mp133_0 a0 μ ∧ mp247_86 a0 μ ∧ mv133_0 a0 μ = mv247_86 a0 μ ∧ inv (mm247_86 a0 μ) := by
  obtain ⟨⟨m1, m2⟩, -, ⟨-, l2⟩, ⟨t1, -⟩, ⟨-, p3, -⟩, -⟩ := id h
  have w10' : mi_wr 10 = 10 := by decide
  have w11 : mi_wr 11 = 11 := by decide
  have w12 : mi_wr 12 = 12 := by decide
  have e4 : μ 4 0 = μ 86 5 := l2.1
  have d : ∀ a, 2 ≤ a → a ≤ 9 → μ 2 (a - 2) = μ 87 a := fun a x y => by
    rw [← m2]; unfold sc_m; rw [if_neg (by omega), if_pos (by omega)]
  have e10 : μ 1 0 = μ 87 0 := by rw [← m2]; rfl
  have e11 : μ 1 1 = μ 87 1 := by rw [← m2]; rfl
  unfold mp133_0 mp247_86 mv133_0 mv247_86
  rw [mx_within r (by unfold mx_R; omega) (by unfold mx_R; omega), mx_withinM r (by unfold mx_R; omega) (by unfold mx_R; omega), mx_wr r, w10', w11, w12]
  refine ⟨?_, ?_, ?_, inv_0 h⟩
  · by_cases c : 2 ≤ a0 ∧ a0 ≤ 9
    · simp only [if_pos c, if_neg w_10]
      have h8 : (0 ≤ a0 - 2 ∧ a0 - 2 < 8) = True := eq_true (by omega)
      simp only [h8, ite_self]
    · simp only [if_neg c, if_pos w_00]
      simp only [ite_self]
  · by_cases c : 0 ≤ a0 ∧ a0 ≤ 9
    · simp only [if_pos c, if_neg w_10]; omega
    · simp only [if_neg c, if_pos w_00]
  · by_cases c : 2 ≤ a0 ∧ a0 ≤ 9
    · simp only [if_pos c, if_pos (show 0 ≤ a0 ∧ a0 ≤ 9 by omega), if_neg w_10, d a0 c.1 c.2]
      (repeat' split) <;> first | rfl | omega
    · simp only [if_neg c, if_pos w_00]
      by_cases c0 : a0 = 0
      · simp only [if_pos c0, if_pos (show 0 ≤ a0 ∧ a0 ≤ 9 by omega), if_neg w_10]; rw [e10, c0]
      by_cases c1 : a0 = 0 + 1
      · simp only [if_neg c0, if_pos c1, if_pos (show 0 ≤ a0 ∧ a0 ≤ 9 by omega), if_neg w_10]; rw [e11, c1]; rfl
      · simp only [if_neg (show ¬ (0 ≤ a0 ∧ a0 ≤ 9) by omega), if_pos w_00, e4, p3, t1]
        (repeat' split) <;> first | rfl | omega
end
