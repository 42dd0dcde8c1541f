/-! EACH ACT KEEPS IT -/
section
variable {m : Int → Int}
theorem ok_4 {v : Int} (hm : sc_ok m) (h : 0 ≤ v ∧ v ≤ m 5) : sc_ok (vlf 4 v m) := by
  obtain ⟨a, b, c, d, e, f, g, i, k, l⟩ := hm
  unfold sc_ok
  rw [vlf_n (show (0 : Int) ≠ 4 by decide), vlf_n (show (1 : Int) ≠ 4 by decide), vlf_n (show (2 : Int) ≠ 4 by decide), vlf_n (show (3 : Int) ≠ 4 by decide), vlf_s, vlf_n (show (5 : Int) ≠ 4 by decide), vlf_n (show (6 : Int) ≠ 4 by decide), vlf_n (show (7 : Int) ≠ 4 by decide), vlf_n (show (8 : Int) ≠ 4 by decide), vlf_n (show (9 : Int) ≠ 4 by decide)]
  exact ⟨a, b, c, d, ⟨h.1, h.2, e.2.2⟩, f, g, i, k, fun j h1 h2 => by rw [vlf_n (by omega)]; exact l j h1 h2⟩
theorem ok_5 {v : Int} (hm : sc_ok m) (h : m 4 ≤ v ∧ v ≤ 60) : sc_ok (vlf 5 v m) := by
  obtain ⟨a, b, c, d, e, f, g, i, k, l⟩ := hm
  unfold sc_ok
  rw [vlf_n (show (0 : Int) ≠ 5 by decide), vlf_n (show (1 : Int) ≠ 5 by decide), vlf_n (show (2 : Int) ≠ 5 by decide), vlf_n (show (3 : Int) ≠ 5 by decide), vlf_n (show (4 : Int) ≠ 5 by decide), vlf_s, vlf_n (show (6 : Int) ≠ 5 by decide), vlf_n (show (7 : Int) ≠ 5 by decide), vlf_n (show (8 : Int) ≠ 5 by decide), vlf_n (show (9 : Int) ≠ 5 by decide)]
  exact ⟨a, b, c, d, ⟨e.1, h.1, h.2⟩, f, g, i, k, fun j h1 h2 => by rw [vlf_n (by omega)]; exact l j h1 h2⟩
theorem ok_8 {v : Int} (hm : sc_ok m) (h : 1 ≤ v ∧ v ≤ 50) : sc_ok (vlf 8 v m) := by
  obtain ⟨a, b, c, d, e, f, g, i, k, l⟩ := hm
  unfold sc_ok
  rw [vlf_n (show (0 : Int) ≠ 8 by decide), vlf_n (show (1 : Int) ≠ 8 by decide), vlf_n (show (2 : Int) ≠ 8 by decide), vlf_n (show (3 : Int) ≠ 8 by decide), vlf_n (show (4 : Int) ≠ 8 by decide), vlf_n (show (5 : Int) ≠ 8 by decide), vlf_n (show (6 : Int) ≠ 8 by decide), vlf_n (show (7 : Int) ≠ 8 by decide), vlf_s, vlf_n (show (9 : Int) ≠ 8 by decide)]
  exact ⟨a, b, c, d, e, f, g, h, k, fun j h1 h2 => by rw [vlf_n (by omega)]; exact l j h1 h2⟩
theorem ok_9 {v : Int} (hm : sc_ok m) (h : 1 ≤ v ∧ v ≤ 999) : sc_ok (vlf 9 v m) := by
  obtain ⟨a, b, c, d, e, f, g, i, k, l⟩ := hm
  unfold sc_ok
  rw [vlf_n (show (0 : Int) ≠ 9 by decide), vlf_n (show (1 : Int) ≠ 9 by decide), vlf_n (show (2 : Int) ≠ 9 by decide), vlf_n (show (3 : Int) ≠ 9 by decide), vlf_n (show (4 : Int) ≠ 9 by decide), vlf_n (show (5 : Int) ≠ 9 by decide), vlf_n (show (6 : Int) ≠ 9 by decide), vlf_n (show (7 : Int) ≠ 9 by decide), vlf_n (show (8 : Int) ≠ 9 by decide), vlf_s]
  exact ⟨a, b, c, d, e, f, g, i, h, fun j h1 h2 => by rw [vlf_n (by omega)]; exact l j h1 h2⟩
theorem ok_tn {a b : Int} (hm : sc_ok m) (h : tnb m a b) : sc_ok (vlf (2 + a) b m) := by
  rcases h with ⟨rfl, h⟩ | ⟨rfl, h⟩ | ⟨rfl, h⟩ | ⟨rfl, h⟩ | ⟨rfl, h⟩ | ⟨rfl, h⟩ | ⟨rfl, h⟩ | ⟨rfl, h⟩
  · exact ok_2 hm h
  · exact ok_3 hm h
  · exact ok_4 hm h
  · exact ok_5 hm h
  · exact ok_6 hm h
  · exact ok_7 hm h
  · exact ok_8 hm h
  · exact ok_9 hm h
theorem ok_sz {w h : Int} (hm : sc_ok m) (hb : szb w h) : sc_ok (szf w h m) := by
  obtain ⟨a, b, c, d, e, f, g, i, k, l⟩ := hm
  refine ⟨hb.1, hb.2, c, d, e, f, g, i, k, fun j h1 h2 => ?_⟩
  unfold szf
  rw [if_neg (by omega), if_neg (by omega), if_pos ⟨h1, h2⟩]
  decide
end
section
variable {μ : mi_M}
theorem inv_set {a b : mi_M} (h : inv μ) (h1 : a = μ) (h2 : rno a b) : inv b := by rw [h2, h1]; exact inv_0 h
theorem st_size {a0 a1 : Int} (h : inv μ) (r0 : mx_R a0) (r1 : mx_R a1) : mp99_0 a0 a1 μ ∧ ∀ v0 μ0, mq99_0 a0 a1 μ v0 μ0 → mp169_86 a0 a1 μ0 ∧ ∀ v1 μ1, mq169_86 a0 a1 μ0 v1 μ1 → v0 = v1 ∧ inv μ1 := by
  refine ⟨⟨inv_P h, r0, r1⟩, fun v0 μ0 ⟨h1, h2⟩ => ?_⟩
  have hm := h.1
  by_cases c : szb a0 a1
  · obtain ⟨rfl, ha⟩ := h1 c
    have e86 : μ0 86 = μ 86 := ha.1 86 (by decide)
    have e87 : μ0 87 = μ 87 := ha.1 87 (by decide)
    refine ⟨⟨by unfold mp148_86; rw [e86]; exact inv_3 h, r0, r1⟩, fun v1 μ1 ⟨g1, g2⟩ => ?_⟩
    obtain ⟨rfl, hr⟩ := g1 c
    refine ⟨rfl, inv_act h ha hr (by rw [hm.2, e87]) ?_⟩
    rw [e87]; exact ok_sz hm.1 c
  · obtain ⟨rfl, rfl⟩ := h2 c
    refine ⟨⟨inv_3 h, r0, r1⟩, fun v1 μ1 ⟨g1, g2⟩ => ?_⟩
    obtain ⟨rfl, hr⟩ := g2 c
    exact ⟨rfl, inv_set h rfl hr⟩
theorem st_value {a0 a1 a2 a3 : Int} (h : inv μ) (r0 : mx_R a0) (r1 : mx_R a1) (r2 : mx_R a2) (r3 : mx_R a3) : mp100_0 a0 a1 a2 a3 μ ∧ ∀ v0 μ0, mq100_0 a0 a1 a2 a3 μ v0 μ0 → mp170_86 a0 a1 a2 a3 μ0 ∧ ∀ v1 μ1, mq170_86 a0 a1 a2 a3 μ0 v1 μ1 → v0 = v1 ∧ inv μ1 := by
  have hm := h.1
  refine ⟨⟨(inv_A h).1, inv_P h, r0, r1, r2, r3⟩, fun v0 μ0 ⟨h1, h2⟩ => ?_⟩
  by_cases c : vlb (sc_m μ) a0 a1 a2 a3
  · obtain ⟨h3, ha⟩ := h1 c
    have e86 : μ0 86 = μ 86 := ha.1 86 (by decide)
    have e87 : μ0 87 = μ 87 := ha.1 87 (by decide)
    refine ⟨⟨by rw [e87]; exact hm.1, by unfold mp148_86; rw [e86]; exact inv_3 h, r0, r1, r2, r3⟩, fun v1 μ1 ⟨g1, g2⟩ => ?_⟩
    rw [e87] at g1
    rw [hm.2] at c h3 ha
    obtain ⟨g3, hr⟩ := g1 c
    obtain ⟨⟨⟨v1', v2'⟩, x1, x2, y1, y2⟩, c2⟩ := c
    exact ⟨h3.trans g3.symm, inv_act h ha hr rfl (ok_v hm.1 (by omega) c2)⟩
  · obtain ⟨rfl, rfl⟩ := h2 c
    refine ⟨⟨hm.1, inv_3 h, r0, r1, r2, r3⟩, fun v1 μ1 ⟨g1, g2⟩ => ?_⟩
    rw [hm.2] at c
    obtain ⟨rfl, hr⟩ := g2 c
    exact ⟨rfl, inv_set h rfl hr⟩
theorem st_tune {a0 a1 : Int} (h : inv μ) (r0 : mx_R a0) (r1 : mx_R a1) : mp101_0 a0 a1 μ ∧ ∀ v0 μ0, mq101_0 a0 a1 μ v0 μ0 → mp172_86 a0 a1 μ0 ∧ ∀ v1 μ1, mq172_86 a0 a1 μ0 v1 μ1 → v0 = v1 ∧ inv μ1 := by
  have hm := h.1
  refine ⟨⟨inv_A h, inv_p h, r0, r1⟩, fun v0 μ0 ⟨h1, h2⟩ => ?_⟩
  by_cases c : tnb (sc_m μ) a0 a1
  · obtain ⟨h3, ha⟩ := h1 c
    have e86 : μ0 86 = μ 86 := ha.1 86 (by decide)
    have e87 : μ0 87 = μ 87 := ha.1 87 (by decide)
    refine ⟨⟨by rw [e87]; exact hm.1, by unfold mp148_86; rw [e86]; exact inv_3 h, r0, r1⟩, fun v1 μ1 ⟨g1, g2⟩ => ?_⟩
    rw [e87] at g1
    rw [hm.2] at c h3 ha
    obtain ⟨g3, hr⟩ := g1 c
    exact ⟨h3.trans g3.symm, inv_act h ha hr rfl (ok_tn hm.1 c)⟩
  · obtain ⟨rfl, rfl⟩ := h2 c
    refine ⟨⟨hm.1, inv_3 h, r0, r1⟩, fun v1 μ1 ⟨g1, g2⟩ => ?_⟩
    rw [hm.2] at c
    obtain ⟨rfl, hr⟩ := g2 c
    exact ⟨rfl, inv_set h rfl hr⟩
theorem st_draw (h : inv μ) : mp104_0 μ ∧ ∀ v0 μ0, mq104_0 μ v0 μ0 → mp178_86 μ0 ∧ ∀ v1 μ1, mq178_86 μ0 v1 μ1 → v0 = v1 ∧ inv μ1 := by
  have hm := h.1
  refine ⟨⟨inv_L h, inv_p h⟩, fun v0 μ0 ⟨ha, h3⟩ => ?_⟩
  have e86 : μ0 86 = μ 86 := ha.1 86 (by decide)
  have e87 : μ0 87 = μ 87 := ha.1 87 (by decide)
  have e89 : μ0 89 = μ 89 := ha.1 89 (by decide)
  refine ⟨⟨by rw [e87]; exact hm.1, lyr_fr (by rw [e86]) e89 h.2.2.1.1, by unfold mp148_86; rw [e86]; exact inv_3 h⟩, fun v1 μ1 ⟨hr, g3⟩ => ?_⟩
  have ef : ∀ m, dwf μ0 m = dwf μ m := fun m => by
    unfold dwf
    rw [show (fun v x y => mv177_86 v x y μ0) = (fun v x y => mv177_86 v x y μ) from funext fun v => funext fun x => funext fun y => tx_fr (by rw [e86]) e89]
  rw [hm.2] at ha h3
  rw [e87, ef] at hr
  refine ⟨?_, inv_act h ha hr rfl (dwf_ok hm.1)⟩
  rw [h3, g3, e87]; unfold dwr; rw [e86, e89]
theorem st_undo (h : inv μ) : mp130_0 μ ∧ ∀ v0 μ0, mq130_0 μ v0 μ0 → mp149_86 μ0 ∧ ∀ v1 μ1, mq149_86 μ0 v1 μ1 → v0 = v1 ∧ inv μ1 := by
  obtain ⟨⟨m1, m2⟩, hci, hly, htp, hpa, him⟩ := id h
  obtain ⟨⟨p1, p2⟩, p3, p4⟩ := id hpa
  have b3 := inv_3 h
  refine ⟨inv_P h, fun v0 μ0 ⟨h1, h2⟩ => ?_⟩
  by_cases c : μ 17 0 = 0
  · obtain ⟨rfl, rfl⟩ := h1 c
    refine ⟨b3, fun v1 μ1 ⟨g1, g2, g3, g4, g5, g6⟩ => ?_⟩
    have c3 : μ0 86 3 = 0 := by rw [← p3]; exact c
    rw [if_pos c3] at g3 g4
    have e87 : μ1 87 = μ0 87 := funext fun j => by rw [g6 j, if_neg (fun hh => hh.1 c3)]
    have l : ∀ q, q ≠ 86 → μ1 q = μ0 q := fun q q1 => by
      by_cases z : q = 87
      · rw [z]; exact e87
      · exact g1 q (by simp only [List.mem_cons, List.not_mem_nil, or_false, not_or]; exact ⟨q1, z⟩)
    refine ⟨g4.symm, inv_q h (fun q hq => l q (fun e => hq (by rw [e]; decide))) (by rw [g3, c3]) (g2 5 (by decide) (by decide)) (g2 7 (by decide) (by decide)) (g2 26 (by decide) (by decide)) (ci_fr (L := [86]) (fun q hq => l q (fun e => hq (by rw [e]; decide))) rfl hci)⟩
  · obtain ⟨k1, k2, k3, k4, k5, k6, k7⟩ := h2 c
    have e86 : μ0 86 = μ 86 := k2 86 (by decide)
    have e87 : μ0 87 = μ 87 := k2 87 (by decide)
    have e88 : μ0 88 = μ 88 := k2 88 (by decide)
    refine ⟨by unfold mp149_86; rw [e86]; exact b3, fun v1 μ1 ⟨g1, g2, g3, g4, g5, g6⟩ => ?_⟩
    have c3 : ¬ μ 86 3 = 0 := by rw [← p3]; exact c
    rw [e86, if_neg c3] at g3 g4
    have epr : ∀ a, pr_ μ0 a = pr_ μ a := fun a => by unfold pr_; rw [e88, e86]
    have l : ∀ q, q ≠ 86 → q ≠ 87 → μ1 q = μ0 q := fun q q1 q2 => g1 q (by simp only [List.mem_cons, List.not_mem_nil, or_false, not_or]; exact ⟨q1, q2⟩)
    have k : ∀ q, (4 ≤ q ∧ q ≤ 12) ∨ (18 ≤ q ∧ q ≤ 65) ∨ 88 ≤ q → μ0 q = μ q := fun q hq => k2 q (by simp only [List.mem_cons, List.not_mem_nil, or_false, not_or]; omega)
    obtain ⟨t1, t2⟩ := p4 0 (by decide) (by have := p1; omega)
    have ev : ∀ j, μ1 87 j = if 0 ≤ j ∧ j < 394 then pr_ μ 0 j else μ 87 j := fun j => by
      rw [g6 j, e86, epr, e87]
      by_cases z : 0 ≤ j ∧ j < 394
      · rw [if_pos ⟨c3, z⟩, if_pos z]
      · rw [if_neg (fun hh => z hh.2), if_neg z]
    refine ⟨by rw [k1, g4, p3], ⟨sc_cg (f := pr_ μ 0) (fun j j1 j2 => by rw [ev j, if_pos ⟨j1, j2⟩]) t1, ?_⟩, ci_fr (L := [86, 87]) g1 rfl k7, ly_fr (fun q q1 q2 => (l q (by omega) (by omega)).trans (k q (by omega))) ((l 89 (by decide) (by decide)).trans (k 89 (by omega))) (by rw [g2 5 (by decide) (by decide), e86]) hly, tp_fr (by rw [l 11 (by decide) (by decide), k 11 (by omega)]) ((l 12 (by decide) (by decide)).trans (k 12 (by omega))) ((l 90 (by decide) (by decide)).trans (k 90 (by omega))) (by rw [g2 7 (by decide) (by decide), e86]) htp, ?_, im_fr (fun q q1 q2 => (l q (by omega) (by omega)).trans (k q (by omega))) ((l 102 (by decide) (by decide)).trans (k 102 (by omega))) (by rw [g2 26 (by decide) (by decide), e86]) him⟩
    · funext j
      rw [sc_m_fr (l 1 (by decide) (by decide)) (l 2 (by decide) (by decide)) (l 3 (by decide) (by decide)), k5 j, ev j, m2]
      by_cases z : 0 ≤ j ∧ j < 394
      · rw [if_pos z, if_pos z]; exact t2 j z.1 z.2
      · rw [if_neg z, if_neg z]
    · have e17 : μ1 17 = μ0 17 := l 17 (by decide) (by decide)
      have epr1 : ∀ a, pr_ μ1 a = pr_ μ (a + 1) := fun a => by
        unfold pr_
        rw [g3, l 88 (by decide) (by decide), e88, show μ 86 3 - 1 - 1 - a = μ 86 3 - 1 - (a + 1) by omega]
      refine ⟨⟨by rw [e17, k3]; omega, by rw [e17]; exact k4⟩, by rw [e17, k3, g3, p3], fun a a1 a2 => ?_⟩
      rw [e17, k3] at a2
      rw [epr1, pc_fr (fun q hq => l q (by omega) (by omega)), k6]
      exact p4 (a + 1) (by omega) (by omega)
end
