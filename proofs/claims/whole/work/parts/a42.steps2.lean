/-! EACH CALL KEEPS IT: images, the tape, texts -/
section
variable {μ μ0 ν : mi_M}
theorem lyR_cg {n : Int} {L L' : Int → Int} (h : ∀ j, 0 ≤ j → j < 36 → L' j = L j) (hl : lyR n L) : lyR n L' := by
  refine ⟨hl.1, fun l h1 h2 => ?_⟩
  have := hl.1
  rw [h (6 * l) (by omega) (by omega), h (6 * l + 1) (by omega) (by omega), h (6 * l + 2) (by omega) (by omega), h (6 * l + 3) (by omega) (by omega), h (6 * l + 4) (by omega) (by omega)]
  exact hl.2 l h1 h2
theorem im1_cg {c : Nat} {o b : Int} (h : ∀ q, c ≤ q → q ≤ c + 10 → ν q = μ q) (h102 : ∀ j, 0 ≤ j → j < 431 → ν 102 (o + j) = μ 102 (o + j)) (hi : im1 c o b μ) : im1 c o b ν := by
  obtain ⟨i1, i2⟩ := hi
  refine ⟨by rw [h c (by omega) (by omega)]; exact i1, fun hb => ?_⟩
  obtain ⟨j1, j2, j3, j4, j5⟩ := i2 hb
  have g : ∀ j, 0 ≤ j → j < 36 → ν 102 (o + 394 + j) = μ 102 (o + 394 + j) := fun j a b => by
    rw [show o + 394 + j = o + (394 + j) by omega]; exact h102 _ (by omega) (by omega)
  refine ⟨sc_cg (f := fun j => μ 102 (o + j)) (fun j a b => h102 j a (by omega)) j1, fun j a b => ?_, ?_, ?_, fun l a b => ?_⟩
  · rw [sk_eq (ν := ν) (μ := μ) (c := c + 1) (h _ (by omega) (by omega)) (h _ (by omega) (by omega)) (h _ (by omega) (by omega)), h102 j a (by omega)]; exact j2 j a b
  · rw [h102 430 (by decide) (by decide)]; exact lyR_cg (fun j a b => g j a b) j3
  · rw [h (c + 4) (by omega) (by omega), h102 430 (by decide) (by decide)]; exact j4
  · show ν (c + 4 + 1) l = ν 102 (o + 394 + 6 * l) ∧ ν (c + 4 + 2) l = ν 102 (o + 394 + (6 * l + 1)) ∧ ν (c + 4 + 3) l = ν 102 (o + 394 + (6 * l + 2)) ∧ ν (c + 4 + 4) l = ν 102 (o + 394 + (6 * l + 3)) ∧ ν (c + 4 + 5) l = ν 102 (o + 394 + (6 * l + 4)) ∧ ν (c + 4 + 6) l = ν 102 (o + 394 + (6 * l + 5))
    rw [h (c + 4 + 1) (by omega) (by omega), h (c + 4 + 2) (by omega) (by omega), h (c + 4 + 3) (by omega) (by omega), h (c + 4 + 4) (by omega) (by omega), h (c + 4 + 5) (by omega) (by omega), h (c + 4 + 6) (by omega) (by omega), g _ (by omega) (by omega), g _ (by omega) (by omega), g _ (by omega) (by omega), g _ (by omega) (by omega), g _ (by omega) (by omega), g _ (by omega) (by omega)]
    exact j5 l a b
theorem im_new {c : Nat} {o : Int} (hc : 43 < c) (hc' : c + 10 < 66) (h : inv μ) (h1 : imC c μ μ0) (h2 : imR o μ0 ν) : im1 c o 1 ν := by
  obtain ⟨⟨m1, m2⟩, -, ⟨l1, l2⟩, -, -, -⟩ := h
  obtain ⟨a1, a2, a3, a4, a5⟩ := h1
  obtain ⟨r1, r2, r3, r4, r5, r6, r7⟩ := h2
  have e86 : μ0 86 = μ 86 := a1 86 (by omega)
  have e87 : μ0 87 = μ 87 := a1 87 (by omega)
  have e89 : μ0 89 = μ 89 := a1 89 (by omega)
  have k : ∀ q, q ≠ 86 → q ≠ 102 → ν q = μ0 q := fun q q1 q2 => r1 q (by simp only [List.mem_cons, List.not_mem_nil, or_false, not_or]; exact ⟨q1, q2⟩)
  rw [e87] at r4
  rw [e89] at r5
  rw [e86] at r6
  refine ⟨by rw [k c (by omega) (by omega)]; exact a2, fun _ => ⟨sc_cg (f := μ 87) (fun j x y => r4 j x y) m1, fun j x y => ?_, ?_, ?_, fun l x y => ?_⟩⟩
  · rw [sk_eq (ν := ν) (μ := μ0) (c := c + 1) (k _ (by omega) (by omega)) (k _ (by omega) (by omega)) (k _ (by omega) (by omega)), a3 j x y, r4 j x y, m2]
  · rw [r6]; exact lyR_cg (L := μ 89) (fun j x y => r5 j x y) l1
  · rw [k (c + 4) (by omega) (by omega), a4, r6]; exact l2.1
  · obtain ⟨c1, c2, c3, c4, c5, c6⟩ := l2.2 l x y
    show ν (c + 4 + 1) l = ν 102 (o + 394 + 6 * l) ∧ ν (c + 4 + 2) l = ν 102 (o + 394 + (6 * l + 1)) ∧ ν (c + 4 + 3) l = ν 102 (o + 394 + (6 * l + 2)) ∧ ν (c + 4 + 4) l = ν 102 (o + 394 + (6 * l + 3)) ∧ ν (c + 4 + 5) l = ν 102 (o + 394 + (6 * l + 4)) ∧ ν (c + 4 + 6) l = ν 102 (o + 394 + (6 * l + 5))
    rw [k (c + 4 + 1) (by omega) (by omega), k (c + 4 + 2) (by omega) (by omega), k (c + 4 + 3) (by omega) (by omega), k (c + 4 + 4) (by omega) (by omega), k (c + 4 + 5) (by omega) (by omega), k (c + 4 + 6) (by omega) (by omega), a5 1 (by decide) (by decide) l x y, a5 2 (by decide) (by decide) l x y, a5 3 (by decide) (by decide) l x y, a5 4 (by decide) (by decide) l x y, a5 5 (by decide) (by decide) l x y, a5 6 (by decide) (by decide) l x y, r5 _ (by omega) (by omega), r5 _ (by omega) (by omega), r5 _ (by omega) (by omega), r5 _ (by omega) (by omega), r5 _ (by omega) (by omega), r5 _ (by omega) (by omega)]
    exact ⟨c1, c2, c3, c4, c5, c6⟩
/-- all but images, when an image is made -/
theorem im_rest {c : Nat} {o : Int} (hc : 43 < c) (hc' : c + 10 < 66) (h : inv μ) (h1 : imC c μ μ0) (h2 : imR o μ0 ν) (hi : im ν) : inv ν := by
  obtain ⟨m, hci, hly, htp, hpa, -⟩ := h
  obtain ⟨a1, -⟩ := h1
  obtain ⟨r1, r2, -⟩ := h2
  have e86 : μ0 86 = μ 86 := a1 86 (by omega)
  have k : ∀ q, q ≤ 43 ∨ 66 ≤ q → q ≠ 86 → q ≠ 102 → ν q = μ q := fun q q0 q1 q2 => (r1 q (by simp only [List.mem_cons, List.not_mem_nil, or_false, not_or]; exact ⟨q1, q2⟩)).trans (a1 q (by omega))
  have f : ∀ j, j ≠ 0 → j ≠ 26 → ν 86 j = μ 86 j := fun j x y => by rw [r2 j x y, e86]
  have hci' : ci ν := by
    refine ci_fr (L := [44, 45, 46, 47, 48, 49, 50, 51, 52, 53, 54, 55, 56, 57, 58, 59, 60, 61, 62, 63, 64, 65, 86, 102]) (fun q hq => k q ?_ ?_ ?_) rfl hci
    · simp only [List.mem_cons, List.not_mem_nil, or_false, not_or] at hq; omega
    · intro e; exact hq (by rw [e]; decide)
    · intro e; exact hq (by rw [e]; decide)
  exact ⟨sm_fr (k 1 (by omega) (by decide) (by decide)) (k 2 (by omega) (by decide) (by decide)) (k 3 (by omega) (by decide) (by decide)) (k 87 (by omega) (by decide) (by decide)) m, hci', ly_fr (fun q _ _ => k q (by omega) (by omega) (by omega)) (k 89 (by omega) (by decide) (by decide)) (f 5 (by decide) (by decide)) hly, tp_fr (by rw [k 11 (by omega) (by decide) (by decide)]) (k 12 (by omega) (by decide) (by decide)) (k 90 (by omega) (by decide) (by decide)) (f 7 (by decide) (by decide)) htp, pa_fr (fun q _ => k q (by omega) (by omega) (by omega)) (k 88 (by omega) (by decide) (by decide)) (f 3 (by decide) (by decide)) hpa, hi⟩
theorem st_image {a0 : Int} (h : inv μ) (r0 : mx_R a0) : mp131_0 a0 μ ∧ ∀ v0 μ0, mq131_0 a0 μ v0 μ0 → mp245_86 a0 μ0 ∧ ∀ v1 μ1, mq245_86 a0 μ0 v1 μ1 → v0 = v1 ∧ inv μ1 := by
  obtain ⟨-, -, -, -, -, b26, i0, i1⟩ := id h
  refine ⟨r0, fun v0 μ0 hq => ?_⟩
  rcases hq with ⟨rfl, rfl, hc⟩ | ⟨rfl, rfl, hc⟩ | ⟨hn, rfl, rfl⟩
  · have e86 : μ0 86 = μ 86 := hc.1 86 (by omega)
    refine ⟨⟨r0, by rw [e86]; exact b26⟩, fun v1 μ1 hr => ?_⟩
    rcases hr with ⟨-, rfl, hr, h26⟩ | ⟨hn, -, -⟩
    · rw [e86, if_pos rfl] at h26
      rw [show (431 * 0 : Int) = 0 by decide] at hr
      refine ⟨rfl, im_rest (c := 44) (by decide) (by decide) h hc hr ⟨by omega, ?_, ?_⟩⟩
      · have : bit (μ1 86 26) 0 = 1 := by unfold bit; rw [if_pos rfl]; omega
        rw [this]; exact im_new (by decide) (by decide) h hc hr
      · have : bit (μ1 86 26) 1 = bit (μ 86 26) 1 := by unfold bit; rw [if_neg (by decide), if_neg (by decide)]; omega
        rw [this]
        refine im1_cg (fun q q1 q2 => ?_) (fun j j1 j2 => ?_) i1
        · rw [hr.1 q (by simp only [List.mem_cons, List.not_mem_nil, or_false, not_or]; omega), hc.1 q (by omega)]
        · rw [hr.2.2.2.2.2.2 (431 + j) (by omega), hc.1 102 (by omega)]
    · exact absurd (by decide) hn
  · have e86 : μ0 86 = μ 86 := hc.1 86 (by omega)
    refine ⟨⟨r0, by rw [e86]; exact b26⟩, fun v1 μ1 hr => ?_⟩
    rcases hr with ⟨-, rfl, hr, h26⟩ | ⟨hn, -, -⟩
    · rw [e86, if_neg (by decide)] at h26
      rw [show (431 * 1 : Int) = 431 by decide] at hr
      refine ⟨rfl, im_rest (c := 55) (by decide) (by decide) h hc hr ⟨by omega, ?_, ?_⟩⟩
      · have : bit (μ1 86 26) 0 = bit (μ 86 26) 0 := by unfold bit; rw [if_pos rfl, if_pos rfl]; omega
        rw [this]
        refine im1_cg (fun q q1 q2 => ?_) (fun j j1 j2 => ?_) i0
        · rw [hr.1 q (by simp only [List.mem_cons, List.not_mem_nil, or_false, not_or]; omega), hc.1 q (by omega)]
        · rw [hr.2.2.2.2.2.2 (0 + j) (by omega), hc.1 102 (by omega)]
      · have : bit (μ1 86 26) 1 = 1 := by unfold bit; rw [if_neg (by decide)]; omega
        rw [this]; exact im_new (by decide) (by decide) h hc hr
    · exact absurd (by decide) hn
  · refine ⟨⟨r0, b26⟩, fun v1 μ1 hr => ?_⟩
    rcases hr with ⟨hy, -, -⟩ | ⟨-, rfl, hr⟩
    · exact absurd hy hn
    · exact ⟨rfl, inv_set h rfl hr⟩
/-- back to an image -/
theorem bk_inv {c : Nat} {o : Int} (hc : 43 < c) (hc' : c + 10 < 66) (h : inv μ) (hi : im1 c o 1 μ) (h1 : bkC c μ μ0) (h2 : bkR o μ0 ν) : inv ν := by
  obtain ⟨⟨m1, m2⟩, hci, hly, htp, hpa, him⟩ := id h
  obtain ⟨-, i2⟩ := hi
  obtain ⟨j1, j2, j3, j4, j5⟩ := i2 rfl
  obtain ⟨a1, a2, a3, a4, a5, a6, a7⟩ := h1
  obtain ⟨r1, r2, r3, r4, r5, r6, r7⟩ := h2
  have k0 : ∀ q, (11 ≤ q ∧ q ≤ 16) ∨ (18 ≤ q ∧ q ≤ 65) ∨ 86 ≤ q → μ0 q = μ q := fun q hq => a1 q (by simp only [List.mem_cons, List.not_mem_nil, or_false, not_or]; omega)
  have k : ∀ q, q ≠ 86 → q ≠ 87 → q ≠ 89 → ν q = μ0 q := fun q q1 q2 q3 => r1 q (by simp only [List.mem_cons, List.not_mem_nil, or_false, not_or]; exact ⟨q1, q2, q3⟩)
  have e86 : μ0 86 = μ 86 := k0 86 (by omega)
  have e102 : μ0 102 = μ 102 := k0 102 (by omega)
  have e87 : μ0 87 = μ 87 := k0 87 (by omega)
  rw [e102, e87] at r6
  rw [e102] at r5 r7
  refine ⟨⟨sc_cg (f := fun j => μ 102 (o + j)) (fun j x y => by rw [r6 j, if_pos ⟨x, y⟩]) j1, ?_⟩, ci_fr (L := [86, 87, 89]) r1 rfl a7, ⟨?_, ?_, fun l x y => ?_⟩, tp_fr (by rw [k 11 (by decide) (by decide) (by decide), k0 11 (by omega)]) ((k 12 (by decide) (by decide) (by decide)).trans (k0 12 (by omega))) ((k 90 (by decide) (by decide) (by decide)).trans (k0 90 (by omega))) (by rw [r2 7 (by decide) (by decide) (by decide), e86]) htp, ?_, im_fr (fun q q1 q2 => (k q (by omega) (by omega) (by omega)).trans (k0 q (by omega))) ((k 102 (by decide) (by decide) (by decide)).trans e102) (by rw [r2 26 (by decide) (by decide) (by decide), e86]) him⟩
  · funext j
    rw [sc_m_fr (k 1 (by decide) (by decide) (by decide)) (k 2 (by decide) (by decide) (by decide)) (k 3 (by decide) (by decide) (by decide)), a2 j, r6 j, m2]
    by_cases z : 0 ≤ j ∧ j < 394
    · rw [if_pos z, if_pos z]; exact j2 j z.1 z.2
    · rw [if_neg z, if_neg z]
  · exact lyr_R.mpr (by rw [r5]; exact lyR_cg (fun j x y => r7 j x y) j3)
  · rw [k 4 (by decide) (by decide) (by decide), a3, r5]; exact j4
  · obtain ⟨c1, c2, c3, c4, c5, c6⟩ := j5 l x y
    rw [k 5 (by decide) (by decide) (by decide), k 6 (by decide) (by decide) (by decide), k 7 (by decide) (by decide) (by decide), k 8 (by decide) (by decide) (by decide), k 9 (by decide) (by decide) (by decide), k 10 (by decide) (by decide) (by decide), r7 _ (by omega) (by omega), r7 _ (by omega) (by omega), r7 _ (by omega) (by omega), r7 _ (by omega) (by omega), r7 _ (by omega) (by omega), r7 _ (by omega) (by omega)]
    exact ⟨(a4 1 (by decide) (by decide) l x y).trans c1, (a4 2 (by decide) (by decide) l x y).trans c2, (a4 3 (by decide) (by decide) l x y).trans c3, (a4 4 (by decide) (by decide) l x y).trans c4, (a4 5 (by decide) (by decide) l x y).trans c5, (a4 6 (by decide) (by decide) l x y).trans c6⟩
  · have e17 : ν 17 = μ0 17 := k 17 (by decide) (by decide) (by decide)
    have := hpa.1.2
    refine ⟨⟨by rw [e17, a5]; decide, by rw [e17, a6]; exact this⟩, by rw [e17, a5, r4], fun a x y => ?_⟩
    rw [e17, a5] at y; omega
theorem st_back {a0 : Int} (h : inv μ) (r0 : mx_R a0) : mp132_0 a0 μ ∧ ∀ v0 μ0, mq132_0 a0 μ v0 μ0 → mp246_86 a0 μ0 ∧ ∀ v1 μ1, mq246_86 a0 μ0 v1 μ1 → v0 = v1 ∧ inv μ1 := by
  obtain ⟨-, hci, -, -, -, b26, i0, i1⟩ := id h
  have bb : ∀ i, (0 ≤ bit (μ 86 26) i ∧ bit (μ 86 26) i ≤ 1) := fun i => by unfold bit; split <;> omega
  have t0 : μ 44 0 = bit (μ 86 26) 0 := i0.1
  have t1 : μ 55 0 = bit (μ 86 26) 1 := i1.1
  refine ⟨⟨r0, hci.1, by rw [t0]; exact bb 0, by rw [t1]; exact bb 1⟩, fun v0 μ0 hq => ?_⟩
  rcases hq with ⟨rfl, hm, rfl, hc⟩ | ⟨rfl, hm, rfl, hc⟩ | ⟨hn, rfl, rfl⟩
  · have e86 : μ0 86 = μ 86 := hc.1 86 (by decide)
    refine ⟨⟨r0, by rw [e86]; exact b26⟩, fun v1 μ1 hr => ?_⟩
    unfold mq246_86 at hr
    rw [e86] at hr
    rcases hr with ⟨-, rfl, hr⟩ | ⟨hn, -, -⟩
    · rw [show (431 * 0 : Int) = 0 by decide] at hr
      refine ⟨rfl, bk_inv (c := 44) (o := 0) (by decide) (by decide) h ?_ hc hr⟩
      rw [← t0, hm] at i0; exact i0
    · exact absurd ⟨by decide, t0.symm.trans hm⟩ hn
  · have e86 : μ0 86 = μ 86 := hc.1 86 (by decide)
    refine ⟨⟨r0, by rw [e86]; exact b26⟩, fun v1 μ1 hr => ?_⟩
    unfold mq246_86 at hr
    rw [e86] at hr
    rcases hr with ⟨-, rfl, hr⟩ | ⟨hn, -, -⟩
    · rw [show (431 * 1 : Int) = 431 by decide] at hr
      refine ⟨rfl, bk_inv (c := 55) (o := 431) (by decide) (by decide) h ?_ hc hr⟩
      rw [← t1, hm] at i1; exact i1
    · exact absurd ⟨by decide, t1.symm.trans hm⟩ hn
  · refine ⟨⟨r0, b26⟩, fun v1 μ1 hr => ?_⟩
    rcases hr with ⟨⟨hb, hy⟩, -, -⟩ | ⟨-, rfl, hr⟩
    · refine absurd ?_ hn
      rcases (show a0 = 0 ∨ a0 = 1 by omega) with rfl | rfl
      · exact Or.inl ⟨rfl, t0.trans hy⟩
      · exact Or.inr ⟨rfl, t1.trans hy⟩
    · exact ⟨rfl, inv_set h rfl hr⟩
/-- feed -/
theorem st_feed {a0 a1 a2 a3 a4 : Int} (h : inv μ) (r0 : mx_R a0) (r1 : mx_R a1) (r2 : mx_R a2) (r3 : mx_R a3) (r4 : mx_R a4) : mp97r a0 a1 a2 a3 a4 μ ∧ ∀ v0 μ0, mq97r a0 a1 a2 a3 a4 μ v0 μ0 → mp154_86 a0 a1 a2 a3 a4 μ0 ∧ ∀ v1 μ1, mq154_86 a0 a1 a2 a3 a4 μ0 v1 μ1 → v0 = v1 ∧ inv μ1 := by
  obtain ⟨m, hci, hly, ⟨t1, t2, t3⟩, hpa, him⟩ := id h
  refine ⟨⟨by omega, by omega⟩, fun v0 μ0 ⟨h1, h2⟩ => ?_⟩
  by_cases c : μ 11 0 + 20 ≤ 700
  · obtain ⟨rfl, f1, f2, f3, f4⟩ := h1 c
    have e86 : μ0 86 = μ 86 := f1 86 (by decide)
    have e90 : μ0 90 = μ 90 := f1 90 (by decide)
    refine ⟨⟨by rw [e86]; exact t2, r0, r1, r2, r3, r4⟩, fun v1 μ1 ⟨g1, g2⟩ => ?_⟩
    rw [e86] at g1
    obtain ⟨rfl, k1, k2, k3, k4⟩ := g1 (by omega)
    have e7 : mi_set μ0 86 0 0 86 7 = μ 86 7 := by rw [ms_same, if_neg (by decide), e86]
    have e90' : mi_set μ0 86 0 0 90 = μ 90 := by rw [ms_other _ (by decide), e90]
    rw [e7] at k2 k4
    rw [e90'] at k4
    have l : ∀ q, q ≠ 86 → q ≠ 90 → q ≠ 11 → q ≠ 12 → μ1 q = μ q := fun q q1 q2 q3 q4 => by
      rw [k1 q (by simp only [List.mem_cons, List.not_mem_nil, or_false, not_or]; exact ⟨q1, q2⟩), ms_other _ q1, f1 q (by simp only [List.mem_cons, List.not_mem_nil, or_false, not_or]; exact ⟨q3, q4⟩)]
    have f : ∀ j, j ≠ 0 → j ≠ 7 → μ1 86 j = μ 86 j := fun j x y => by rw [k3 j y, ms_same, if_neg x, e86]
    have l11 : ∀ q, q ≠ 86 → q ≠ 90 → μ1 q = μ0 q := fun q q1 q2 => by
      rw [k1 q (by simp only [List.mem_cons, List.not_mem_nil, or_false, not_or]; exact ⟨q1, q2⟩), ms_other _ q1]
    refine ⟨by rw [t1], sm_fr (l 1 (by decide) (by decide) (by decide) (by decide)) (l 2 (by decide) (by decide) (by decide) (by decide)) (l 3 (by decide) (by decide) (by decide) (by decide)) (l 87 (by decide) (by decide) (by decide) (by decide)) m, ci_fr (L := [11, 12, 86, 90]) (fun q hq => ?_) rfl hci, ly_fr (fun q _ _ => l q (by omega) (by omega) (by omega) (by omega)) (l 89 (by decide) (by decide) (by decide) (by decide)) (f 5 (by decide) (by decide)) hly, ⟨?_, ?_, ?_⟩, pa_fr (fun q _ => l q (by omega) (by omega) (by omega) (by omega)) (l 88 (by decide) (by decide) (by decide) (by decide)) (f 3 (by decide) (by decide)) hpa, im_fr (fun q _ _ => l q (by omega) (by omega) (by omega) (by omega)) (l 102 (by decide) (by decide) (by decide) (by decide)) (f 26 (by decide) (by decide)) him⟩
    · simp only [List.mem_cons, List.not_mem_nil, or_false, not_or] at hq
      exact l q hq.2.2.1 hq.2.2.2 hq.1 hq.2.1
    · rw [l11 11 (by decide) (by decide), f2, k2, t1]
    · rw [k2]; omega
    · rw [l11 12 (by decide) (by decide), f4, k4, t1, t3]
  · obtain ⟨rfl, rfl⟩ := h2 (by omega)
    refine ⟨⟨t2, r0, r1, r2, r3, r4⟩, fun v1 μ1 ⟨g1, g2⟩ => ?_⟩
    obtain ⟨rfl, hr⟩ := g2 (by omega)
    exact ⟨rfl, inv_set h rfl hr⟩
/-- a text -/
theorem AT_no {q : Nat} (h : (4 ≤ q ∧ q ≤ 10) ∨ q = 12 ∨ (43 ≤ q ∧ q ≤ 65) ∨ 86 ≤ q) : q ∉ AT := by
  simp only [List.mem_cons, List.not_mem_nil, or_false, not_or]; omega
theorem st_text {a0 : Int} (h : inv μ) (r0 : mx_R a0) : mp98_0 a0 μ ∧ ∀ v0 μ0, mq98_0 a0 μ v0 μ0 → mp168_86 a0 μ0 ∧ ∀ v1 μ1, mq168_86 a0 μ0 v1 μ1 → v0 = v1 ∧ inv μ1 := by
  obtain ⟨⟨m1, m2⟩, hci, hly, ⟨t1, t2, t3⟩, hpa, him⟩ := id h
  have b3 := inv_3 h
  refine ⟨⟨(inv_A h).1, inv_P h, by rw [t1]; exact t2, r0⟩, fun v0 μ0 ⟨h1, h2⟩ => ?_⟩
  by_cases c : 0 ≤ a0 ∧ a0 ≤ μ 11 0
  · obtain ⟨e11, h3, h4⟩ := h2 c
    rw [m2, t3] at h3 h4
    by_cases d : (txs (byt (μ 90)) a0 (μ 87 8) (μ 87 9)).1 = 0
    · obtain ⟨k1, k2, k3, k4, k5⟩ := h4 d
      have k : ∀ q, (4 ≤ q ∧ q ≤ 10) ∨ q = 12 ∨ (43 ≤ q ∧ q ≤ 65) ∨ 86 ≤ q → μ0 q = μ q := fun q hq => k2 q (AT_no hq)
      have e86 : μ0 86 = μ 86 := k 86 (by omega)
      have e87 : μ0 87 = μ 87 := k 87 (by omega)
      have e90 : μ0 90 = μ 90 := k 90 (by omega)
      have ok : sc_ok (txs (byt (μ 90)) a0 (μ 87 8) (μ 87 9)).2.2 := by
        obtain ⟨-, -, -, -, -, -, -, hl8, hf9, -⟩ := id m1
        exact txs_ok c.1 hl8 hf9 d
      refine ⟨⟨by rw [e87]; exact m1, by unfold mp148_86; rw [e86]; exact b3, by rw [e86]; exact t2, r0⟩, fun v1 μ1 ⟨_, g2⟩ => ?_⟩
      rw [e86, e90, e87] at g2
      obtain ⟨g3, g4, g5, -, g6⟩ := g2 (by omega)
      obtain ⟨n1, n2, n3, n4⟩ := g6 d
      have l : ∀ q, q ≤ 85 ∨ q = 89 ∨ q = 90 ∨ q = 102 → μ1 q = μ0 q := fun q hq => n2 q (by simp only [List.mem_cons, List.not_mem_nil, or_false, not_or]; omega)
      have ev : sc_m μ1 = μ1 87 := by
        funext j
        rw [sc_m_fr (l 1 (by omega)) (l 2 (by omega)) (l 3 (by omega)), k4 j, n4 j]
      refine ⟨k1.trans n1.symm, ⟨sc_cg (fun j x y => by rw [n4 j, if_pos ⟨x, y⟩]) ok, ev⟩, ci_fr (L := [86, 87, 88, 91, 104]) n2 rfl k5, ly_fr (fun q q1 q2 => (l q (by omega)).trans (k q (by omega))) ((l 89 (by omega)).trans (k 89 (by omega))) (g3 5 (by decide)) hly, ⟨?_, ?_, ?_⟩, act_pa hpa m1 m2 k3 n3 (by rw [e86]) e87 (k 88 (by omega)) (fun q hq => l q (by omega)), im_fr (fun q q1 q2 => (l q (by omega)).trans (k q (by omega))) ((l 102 (by omega)).trans (k 102 (by omega))) (g3 26 (by decide)) him⟩
      · rw [l 11 (by omega), e11, g5]
      · rw [g5]; decide
      · rw [l 12 (by omega), l 90 (by omega), k 12 (by omega), e90]; exact t3
    · obtain ⟨k1, k2⟩ := h3 d
      have k : ∀ q, q ≠ 11 → q ≠ 13 → q ≠ 14 → q ≠ 15 → q ≠ 16 → μ0 q = μ q := fun q q1 q2 q3 q4 q5 => k2 q (by simp only [List.mem_cons, List.not_mem_nil, or_false, not_or]; exact ⟨q1, q2, q3, q4, q5⟩)
      have e86 : μ0 86 = μ 86 := k2 86 (by decide)
      have e87 : μ0 87 = μ 87 := k2 87 (by decide)
      have e90 : μ0 90 = μ 90 := k2 90 (by decide)
      refine ⟨⟨by rw [e87]; exact m1, by unfold mp148_86; rw [e86]; exact b3, by rw [e86]; exact t2, r0⟩, fun v1 μ1 ⟨_, g2⟩ => ?_⟩
      rw [e86, e90, e87] at g2
      obtain ⟨g3, g4, g5, g6, -⟩ := g2 (by omega)
      obtain ⟨n1, n2, n3⟩ := g6 d
      have l : ∀ q, q ≠ 86 → q ≠ 91 → q ≠ 104 → μ1 q = μ0 q := fun q q1 q2 q3 => n2 q (by simp only [List.mem_cons, List.not_mem_nil, or_false, not_or]; exact ⟨q1, q2, q3⟩)
      refine ⟨k1.trans n1.symm, sm_fr ((l 1 (by decide) (by decide) (by decide)).trans (k2 1 (by decide))) ((l 2 (by decide) (by decide) (by decide)).trans (k2 2 (by decide))) ((l 3 (by decide) (by decide) (by decide)).trans (k2 3 (by decide))) ((l 87 (by decide) (by decide) (by decide)).trans e87) ⟨m1, m2⟩, ci_fr (L := [86, 91, 104]) n2 rfl (ci_fr (L := [11, 13, 14, 15, 16]) k2 rfl hci), ly_fr (fun q q1 q2 => (l q (by omega) (by omega) (by omega)).trans (k q (by omega) (by omega) (by omega) (by omega) (by omega))) ((l 89 (by decide) (by decide) (by decide)).trans (k2 89 (by decide))) (g3 5 (by decide)) hly, ⟨?_, ?_, ?_⟩, pa_fr (fun q hq => (l q (by omega) (by omega) (by omega)).trans (k q (by omega) (by omega) (by omega) (by omega) (by omega))) ((l 88 (by decide) (by decide) (by decide)).trans (k2 88 (by decide))) n3 hpa, im_fr (fun q q1 q2 => (l q (by omega) (by omega) (by omega)).trans (k q (by omega) (by omega) (by omega) (by omega) (by omega))) ((l 102 (by decide) (by decide) (by decide)).trans (k2 102 (by decide))) (g3 26 (by decide)) him⟩
      · rw [l 11 (by decide) (by decide) (by decide), e11, g5]
      · rw [g5]; decide
      · rw [l 12 (by decide) (by decide) (by decide), l 90 (by decide) (by decide) (by decide), k2 12 (by decide), e90]; exact t3
  · obtain ⟨rfl, rfl⟩ := h1 c
    refine ⟨⟨m1, b3, t2, r0⟩, fun v1 μ1 ⟨g1, _⟩ => ?_⟩
    obtain ⟨rfl, hr⟩ := g1 (by rw [← t1]; exact c)
    exact ⟨rfl, inv_set h rfl hr⟩
end
