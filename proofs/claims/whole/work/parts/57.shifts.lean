/-! shifts -/
noncomputable def sp_sl (m : Int → Int) (x y : Int) : Int := am (fun d => sp_sum m x y d) (m 2).toNat
def sr_n (m : Int → Int) (x : Int) : Int := if m 2 < m 0 - 1 - x then m 2 else m 0 - 1 - x
noncomputable def sp_sr (m : Int → Int) (x y : Int) : Int := am (fun d => sp_sum m (x + d) y d) (sr_n m x).toNat
noncomputable def sp_sh (m : Int → Int) (v x y : Int) : Int := if v = 0 then sp_sl m x y else sp_sr m x y
theorem sp_sl_b {m : Int → Int} (hm : sc_ok m) (x y : Int) : 0 ≤ sp_sl m x y ∧ sp_sl m x y ≤ m 2 := by
  obtain ⟨-, -, ⟨f1, f2⟩, -⟩ := id hm
  have := am_b (f := fun d => sp_sum m x y d) (m 2).toNat
  unfold sp_sl; omega
theorem sp_sr_b {m : Int → Int} (hm : sc_ok m) {x : Int} (hx' : x < m 0) (y : Int) : 0 ≤ sp_sr m x y ∧ sp_sr m x y ≤ m 2 ∧ x + sp_sr m x y < m 0 := by
  obtain ⟨-, -, ⟨f1, f2⟩, -⟩ := id hm
  have := am_b (f := fun d => sp_sum m (x + d) y d) (sr_n m x).toNat
  have : 0 ≤ sr_n m x ∧ sr_n m x ≤ m 2 ∧ sr_n m x ≤ m 0 - 1 - x := by unfold sr_n; split <;> omega
  unfold sp_sr; omega
theorem sp_sh_b {m : Int → Int} (hm : sc_ok m) (v : Int) {x : Int} (hx' : x < m 0) (y : Int) : 0 ≤ sp_sh m v x y ∧ sp_sh m v x y ≤ m 2 := by
  have := sp_sl_b hm x y
  have := sp_sr_b hm hx' y
  unfold sp_sh; split <;> omega
def mp13_71 (a0 a1 : Int) (μ : mi_M) : Prop := sc_ok (sc_m μ) ∧ sc_in (sc_m μ) a0 a1 ∧ ct_is μ 69 (sc_m μ) (sc_m μ 2 + 1) (sp_sum (sc_m μ))
noncomputable def mv13_71 (a0 a1 : Int) (μ : mi_M) : Int := sp_sl (sc_m μ) a0 a1
def mp14_71 (a0 a1 : Int) (μ : mi_M) : Prop := mp13_71 a0 a1 μ
noncomputable def mv14_71 (a0 a1 : Int) (μ : mi_M) : Int := sp_sr (sc_m μ) a0 a1
def mp204_86 (a0 a1 : Int) (μ : mi_M) : Prop := sc_ok (μ 87) ∧ sc_in (μ 87) a0 a1 ∧ ct_is μ 94 (μ 87) (μ 87 2 + 1) (sp_sum (μ 87))
noncomputable def mv204_86 (a0 a1 : Int) (μ : mi_M) : Int := sp_sl (μ 87) a0 a1
def mp205_86 (a0 a1 : Int) (μ : mi_M) : Prop := mp204_86 a0 a1 μ
noncomputable def mv205_86 (a0 a1 : Int) (μ : mi_M) : Int := sp_sr (μ 87) a0 a1
section
variable {X : mi_X} {Q : mi_R → mi_G → mi_M → Prop} {u : mi_U} {μ : mi_M}
theorem mc13_71 {a0 a1 : Int} (hp : mp13_71 a0 a1 μ) (hq : Q (.inl (some (.inl (mv13_71 a0 a1 μ)))) mi_G0 μ) : mi_cok X 13 [(.inr (.inl (some 71))), (.inl a0), (.inl a1)] mi_G0 μ u Q := by
  obtain ⟨hm, ⟨hx, hx', hy, hy'⟩, hs⟩ := hp
  obtain ⟨⟨w1, w2⟩, ⟨g1, g2⟩, ⟨f1, f2⟩, -⟩ := id hm
  have s2 : μ 2 0 = sc_m μ 2 := (sc_m_c μ).2.2.1 0 (by decide) (by decide)
  apply me13_71
  rw [mx_cell hx (by omega) hy (by omega), Int.add_zero]
  refine qp_u (A := fun d acc => mk13_71_13 X Q u (8 * (16 * a1 + a0)) acc d μ) (fun d acc => acc = am (fun d => sp_sum (sc_m μ) a0 a1 d) (d - 1).toNat) (a := 1) (n := sc_m μ 2 + 1) (by omega) ?_ ?_ rfl
  · rintro acc rfl
    apply mh13_71_13
    rw [s2, mi_wr_id (by omega) (by omega), mi_wr_id (by omega) (by omega), if_pos (by omega), show sc_m μ 2 + 1 - 1 = sc_m μ 2 by omega]
    exact hq
  · rintro d acc hd hd' rfl k
    have hb := am_b (f := fun d => sp_sum (sc_m μ) a0 a1 d) (d - 1).toNat
    have b1 := sp_sum_b hm (x := a0) (y := a1) (d := d) (by omega) (by omega)
    have b2 := sp_sum_b hm (x := a0) (y := a1) (d := am (fun d => sp_sum (sc_m μ) a0 a1 d) (d - 1).toNat) (by omega) (by omega)
    apply mh13_71_13
    rw [s2, mi_wr_id (by omega) (by omega), mi_wr_id (by omega) (by omega), if_neg (by omega), hs a0 a1 d hx hx' hy hy' (by omega) (by omega), hs a0 a1 _ hx hx' hy hy' hb.1 (by omega), mi_wr_id (by omega) (by omega), mi_wr_id (by omega) (by omega)]
    refine ⟨by omega, by omega, k _ ?_⟩
    have := am_s (f := fun d => sp_sum (sc_m μ) a0 a1 d) (i := d - 1) (by omega)
    rw [show d - 1 + 1 = d by omega] at this
    rw [show d + 1 - 1 = d by omega, this]
theorem mc204_86 {a0 a1 : Int} (hp : mp204_86 a0 a1 μ) (hq : Q (.inl (some (.inl (mv204_86 a0 a1 μ)))) mi_G0 μ) : mi_cok X 204 [(.inr (.inl (some 86))), (.inl a0), (.inl a1)] mi_G0 μ u Q := by
  obtain ⟨hm, ⟨hx, hx', hy, hy'⟩, hs⟩ := hp
  obtain ⟨⟨w1, w2⟩, ⟨g1, g2⟩, ⟨f1, f2⟩, -⟩ := id hm
  apply me204_86
  refine qp_u (A := fun d acc => mk204_86_5 X Q u a0 a1 acc d μ) (fun d acc => acc = am (fun d => sp_sum (μ 87) a0 a1 d) (d - 1).toNat) (a := 1) (n := μ 87 2 + 1) (by omega) ?_ ?_ rfl
  · rintro acc rfl
    apply mh204_86_5
    rw [mi_wr_id (by omega) (by omega), mi_wr_id (by omega) (by omega), if_pos (by omega), show μ 87 2 + 1 - 1 = μ 87 2 by omega]
    exact hq
  · rintro d acc hd hd' rfl k
    have hb := am_b (f := fun d => sp_sum (μ 87) a0 a1 d) (d - 1).toNat
    have b1 := sp_sum_b hm (x := a0) (y := a1) (d := d) (by omega) (by omega)
    have b2 := sp_sum_b hm (x := a0) (y := a1) (d := am (fun d => sp_sum (μ 87) a0 a1 d) (d - 1).toNat) (by omega) (by omega)
    apply mh204_86_5
    rw [mx_cellR, mx_cellR, mi_wr_id (by omega) (by omega), mi_wr_id (by omega) (by omega), if_neg (by omega), hs a0 a1 d hx hx' hy hy' (by omega) (by omega), hs a0 a1 _ hx hx' hy hy' hb.1 (by omega), mi_wr_id (by omega) (by omega), mi_wr_id (by omega) (by omega)]
    refine ⟨by omega, by omega, k _ ?_⟩
    have := am_s (f := fun d => sp_sum (μ 87) a0 a1 d) (i := d - 1) (by omega)
    rw [show d - 1 + 1 = d by omega] at this
    rw [show d + 1 - 1 = d by omega, this]
theorem mc14_71 {a0 a1 : Int} (hp : mp14_71 a0 a1 μ) (hq : Q (.inl (some (.inl (mv14_71 a0 a1 μ)))) mi_G0 μ) : mi_cok X 14 [(.inr (.inl (some 71))), (.inl a0), (.inl a1)] mi_G0 μ u Q := by
  obtain ⟨hm, ⟨hx, hx', hy, hy'⟩, hs⟩ := hp
  obtain ⟨⟨w1, w2⟩, ⟨g1, g2⟩, ⟨f1, f2⟩, -⟩ := id hm
  have s0 : μ 1 0 = sc_m μ 0 := rfl
  have s2 : μ 2 0 = sc_m μ 2 := (sc_m_c μ).2.2.1 0 (by decide) (by decide)
  have hn : 0 ≤ sr_n (sc_m μ) a0 ∧ sr_n (sc_m μ) a0 ≤ sc_m μ 2 ∧ sr_n (sc_m μ) a0 ≤ sc_m μ 0 - 1 - a0 ∧ (sr_n (sc_m μ) a0 = sc_m μ 2 ∨ sr_n (sc_m μ) a0 = sc_m μ 0 - 1 - a0) := by unfold sr_n; split <;> omega
  apply me14_71
  refine qp_u (A := fun d acc => mk14_71_5 X Q u a0 a1 acc d μ) (fun d acc => acc = am (fun d => sp_sum (sc_m μ) (a0 + d) a1 d) (d - 1).toNat) (a := 1) (n := sr_n (sc_m μ) a0 + 1) (by omega) ?_ ?_ rfl
  · rintro acc rfl
    have hq' : Q (.inl (some (.inl (am (fun d => sp_sum (sc_m μ) (a0 + d) a1 d) (sr_n (sc_m μ) a0 + 1 - 1).toNat)))) mi_G0 μ := by
      rw [show sr_n (sc_m μ) a0 + 1 - 1 = sr_n (sc_m μ) a0 by omega]; exact hq
    apply mh14_71_5
    rw [s2, s0, mi_wr_id (z := sc_m μ 2) (by omega) (by omega), mi_wr_id (z := sr_n (sc_m μ) a0 + 1) (by omega) (by omega), mi_wr_id (z := a0 + (sr_n (sc_m μ) a0 + 1)) (by omega) (by omega), mi_wr_id (z := sc_m μ 0) (by omega) (by omega)]
    by_cases e : sc_m μ 2 < sr_n (sc_m μ) a0 + 1
    · rw [if_pos e]; exact hq'
    · rw [if_neg e, if_neg (by omega)]; exact hq'
  · rintro d acc hd hd' rfl k
    have hb := am_b (f := fun d => sp_sum (sc_m μ) (a0 + d) a1 d) (d - 1).toNat
    have b1 := sp_sum_b hm (x := a0 + d) (y := a1) (d := d) (by omega) (by omega)
    have b2 := sp_sum_b hm (x := a0 + am (fun d => sp_sum (sc_m μ) (a0 + d) a1 d) (d - 1).toNat) (y := a1) (d := am (fun d => sp_sum (sc_m μ) (a0 + d) a1 d) (d - 1).toNat) (by omega) (by omega)
    apply mh14_71_5
    rw [s2, s0, mx_cell (by omega) (by omega) hy (by omega), mx_cell (by omega) (by omega) hy (by omega), mi_wr_id (z := sc_m μ 2) (by omega) (by omega), mi_wr_id (z := d) (by omega) (by omega), if_neg (by omega), mi_wr_id (z := a0 + d) (by omega) (by omega), mi_wr_id (z := sc_m μ 0) (by omega) (by omega), if_pos (by omega), hs (a0 + d) a1 d (by omega) (by omega) hy hy' (by omega) (by omega), hs (a0 + am (fun d => sp_sum (sc_m μ) (a0 + d) a1 d) (d - 1).toNat) a1 _ (by omega) (by omega) hy hy' hb.1 (by omega), mi_wr_id (z := sp_sum (sc_m μ) (a0 + d) a1 d) (by omega) (by omega), mi_wr_id (by omega) (by omega)]
    refine ⟨by omega, by omega, k _ ?_⟩
    have := am_s (f := fun d => sp_sum (sc_m μ) (a0 + d) a1 d) (i := d - 1) (by omega)
    rw [show d - 1 + 1 = d by omega] at this
    rw [show d + 1 - 1 = d by omega, this]
theorem mc205_86 {a0 a1 : Int} (hp : mp205_86 a0 a1 μ) (hq : Q (.inl (some (.inl (mv205_86 a0 a1 μ)))) mi_G0 μ) : mi_cok X 205 [(.inr (.inl (some 86))), (.inl a0), (.inl a1)] mi_G0 μ u Q := by
  obtain ⟨hm, ⟨hx, hx', hy, hy'⟩, hs⟩ := hp
  obtain ⟨⟨w1, w2⟩, ⟨g1, g2⟩, ⟨f1, f2⟩, -⟩ := id hm
  have hn : 0 ≤ sr_n (μ 87) a0 ∧ sr_n (μ 87) a0 ≤ μ 87 2 ∧ sr_n (μ 87) a0 ≤ μ 87 0 - 1 - a0 ∧ (sr_n (μ 87) a0 = μ 87 2 ∨ sr_n (μ 87) a0 = μ 87 0 - 1 - a0) := by unfold sr_n; split <;> omega
  apply me205_86
  refine qp_u (A := fun d acc => mk205_86_5 X Q u a0 a1 acc d μ) (fun d acc => acc = am (fun d => sp_sum (μ 87) (a0 + d) a1 d) (d - 1).toNat) (a := 1) (n := sr_n (μ 87) a0 + 1) (by omega) ?_ ?_ rfl
  · rintro acc rfl
    have hq' : Q (.inl (some (.inl (am (fun d => sp_sum (μ 87) (a0 + d) a1 d) (sr_n (μ 87) a0 + 1 - 1).toNat)))) mi_G0 μ := by
      rw [show sr_n (μ 87) a0 + 1 - 1 = sr_n (μ 87) a0 by omega]; exact hq
    apply mh205_86_5
    rw [mi_wr_id (z := μ 87 2) (by omega) (by omega), mi_wr_id (z := sr_n (μ 87) a0 + 1) (by omega) (by omega), mi_wr_id (z := a0 + (sr_n (μ 87) a0 + 1)) (by omega) (by omega), mi_wr_id (z := μ 87 0) (by omega) (by omega)]
    by_cases e : μ 87 2 < sr_n (μ 87) a0 + 1
    · rw [if_pos e]; exact hq'
    · rw [if_neg e, if_neg (by omega)]; exact hq'
  · rintro d acc hd hd' rfl k
    have hb := am_b (f := fun d => sp_sum (μ 87) (a0 + d) a1 d) (d - 1).toNat
    have b1 := sp_sum_b hm (x := a0 + d) (y := a1) (d := d) (by omega) (by omega)
    have b2 := sp_sum_b hm (x := a0 + am (fun d => sp_sum (μ 87) (a0 + d) a1 d) (d - 1).toNat) (y := a1) (d := am (fun d => sp_sum (μ 87) (a0 + d) a1 d) (d - 1).toNat) (by omega) (by omega)
    apply mh205_86_5
    rw [mx_cellR, mx_cellR, mi_wr_id (z := μ 87 2) (by omega) (by omega), mi_wr_id (z := d) (by omega) (by omega), if_neg (by omega), mi_wr_id (z := a0 + d) (by omega) (by omega), mi_wr_id (z := μ 87 0) (by omega) (by omega), if_pos (by omega), hs (a0 + d) a1 d (by omega) (by omega) hy hy' (by omega) (by omega), hs (a0 + am (fun d => sp_sum (μ 87) (a0 + d) a1 d) (d - 1).toNat) a1 _ (by omega) (by omega) hy hy' hb.1 (by omega), mi_wr_id (z := sp_sum (μ 87) (a0 + d) a1 d) (by omega) (by omega), mi_wr_id (by omega) (by omega)]
    refine ⟨by omega, by omega, k _ ?_⟩
    have := am_s (f := fun d => sp_sum (μ 87) (a0 + d) a1 d) (i := d - 1) (by omega)
    rw [show d - 1 + 1 = d by omega] at this
    rw [show d + 1 - 1 = d by omega, this]
end
