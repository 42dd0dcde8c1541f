/-! holes, energy, truth, wrong (the class) -/
def sp_cov (L : Int → Int) (n x y : Int) : Prop := 0 ≤ sp_la L n 0 x y ∧ (x - L (6 * sp_la L n 0 x y + 4) < 0 ∨ sp_la L n 1 (x - L (6 * sp_la L n 0 x y + 4)) y ≠ sp_la L n 0 x y)
noncomputable def sp_tr (L : Int → Int) (n x y : Int) : Int := if sp_la L n 0 x y = -1 then -1 else L (6 * sp_la L n 0 x y + 4)
noncomputable def sq_truth (m L : Int → Int) (n x y w : Int) : Int := iif (sc_in m x y ∧ 0 ≤ w ∧ w ≤ 1) (if w = 0 then sp_tr L n x y else iif (sp_cov L n x y) 1 0) (-1)
def sp_wq (m L : Int → Int) (n b w x y : Int) : Prop := 0 ≤ sp_la L n 0 x y ∧ ¬ (-b ≤ sp_fill m 0 x y - L (6 * sp_la L n 0 x y + 4) ∧ sp_fill m 0 x y - L (6 * sp_la L n 0 x y + 4) ≤ b) ∧ (w = 0 ∨ (w = 1 ∧ sp_cov L n x y) ∨ (w = 2 ∧ ¬ sp_cov L n x y))
noncomputable def sq_wrong (m L : Int → Int) (n b w : Int) : Int := iif ((0 ≤ b ∧ b ≤ 7) ∧ 0 ≤ w ∧ w ≤ 2) (sm2 (fun x y => iif (sp_wq m L n b w x y) 1 0) (m 0) (m 1)) (-1)
noncomputable def sq_holes (m : Int → Int) (t : Int) : Int := iif (0 ≤ t ∧ t ≤ 4) (sm2 (fun x y => if sp_bt m t x y = -2 then 1 else 0) (m 0) (m 1)) (-1)
noncomputable def sq_en (m : Int → Int) (w : Int) : Int := iif (0 ≤ w ∧ w ≤ 2) (if w = 0 then sp_en m (sp_fill m 0) else if w = 1 then sp_en m (sp_sh m 0) else sm (fun y => sp_rp m y) (m 1).toNat) (-1)
theorem val_b {m : Int → Int} (hm : sc_ok m) {v x y : Int} (h : sc_at m v x y) : 0 ≤ sp_val m v x y ∧ sp_val m v x y ≤ 15 := by
  obtain ⟨⟨w1, w2⟩, ⟨g1, g2⟩, -⟩ := id hm
  obtain ⟨⟨h1, h2⟩, h3, h4, h5, h6⟩ := h
  exact mx_val hm h1 h2 h3 (by omega) h5 (by omega)
theorem bt_b {m : Int → Int} (hm : sc_ok m) {t x y : Int} (hi : sc_in m x y) : -2 ≤ sp_bt m t x y ∧ sp_bt m t x y ≤ 15 := by
  have b0 := cf_b (g := sp_to t 0 (fun i => sp_fill m 0 i y)) (f := fun i => sp_fill m 0 i y) (x := x) (m 0).toNat
  have b1 := cf_b (g := sp_to t 1 (fun i => sp_fill m 1 i y)) (f := fun i => sp_fill m 1 i y) (x := x) (m 0).toNat
  obtain ⟨⟨w1, w2⟩, ⟨g1, g2⟩, -⟩ := id hm
  obtain ⟨a1, a2, a3, a4⟩ := id hi
  unfold sp_bt
  by_cases c0 : sp_cf m 0 t x y = -1
  · rw [if_pos c0]
    by_cases c1 : sp_cf m 1 t x y = -1
    · rw [if_pos c1]; omega
    · rw [if_neg c1]
      have := val_b hm (v := 1) (x := sp_cf m 1 t x y) (y := y) ⟨by decide, by unfold sp_cf at c1 ⊢; omega, by unfold sp_cf at c1 ⊢; omega, a3, a4⟩
      omega
  · rw [if_neg c0]
    have := val_b hm (v := 0) (x := sp_cf m 0 t x y) (y := y) ⟨by decide, by unfold sp_cf at c0 ⊢; omega, by unfold sp_cf at c0 ⊢; omega, a3, a4⟩
    omega
section
variable {X : mi_X} {Q : mi_R → mi_G → mi_M → Prop} {u : mi_U} {μ : mi_M}
theorem lyr_fr {μ ν : mi_M} (e5 : ν 86 5 = μ 86 5) (e89 : ν 89 = μ 89) (h : lyr μ) : lyr ν := by
  unfold lyr; rw [e5, e89]; exact h
theorem lyc_fr {μ ν : mi_M} (e5 : ν 86 5 = μ 86 5) (e89 : ν 89 = μ 89) (h4 : ν 4 0 = μ 4 0) (h : ∀ q, 5 ≤ q → q ≤ 10 → ν q = μ q) (hc : lyc μ) : lyc ν := by
  unfold lyc
  rw [e5, e89, h4, h 5 (by decide) (by decide), h 6 (by decide) (by decide), h 7 (by decide) (by decide), h 8 (by decide) (by decide), h 9 (by decide) (by decide), h 10 (by decide) (by decide)]
  exact hc
theorem mx_cov {x y : Int} (hr : lyr μ) (hc : lyc μ) (hx : -50 ≤ x) (hx' : x ≤ 50) (hy : -50 ≤ y) (hy' : y ≤ 50) : mp6_4 (sp_la (μ 89) (μ 86 5) 0 x y) x y μ ∧ mv6_4 (sp_la (μ 89) (μ 86 5) 0 x y) x y μ = iif (sp_cov (μ 89) (μ 86 5) x y) 1 0 := by
  have hm1 : mi_wr (-1) = -1 := by decide
  have lb := sp_la_b (L := μ 89) (n := μ 86 5) (v := 0) (x := x) (y := y) hr.1.1
  unfold mp6_4 mv6_4
  rw [hm1, mi_wr_id (z := sp_la (μ 89) (μ 86 5) 0 x y) (by have := hr.1; omega) (by have := hr.1; omega)]
  by_cases c : sp_la (μ 89) (μ 86 5) 0 x y = -1
  · rw [if_pos c, if_pos c, iif_f (fun h => by have := h.1; omega)]; exact ⟨trivial, rfl⟩
  · rw [if_neg c, if_neg c]
    obtain ⟨b1, b2, b3, b4, b5⟩ := hr.2 _ (show 0 ≤ sp_la (μ 89) (μ 86 5) 0 x y by omega) lb.2
    have e9 := (hc.2 _ (show 0 ≤ sp_la (μ 89) (μ 86 5) 0 x y by omega) (by have := hr.1; omega)).2.2.2.2.1
    have lb1 := sp_la_b (L := μ 89) (n := μ 86 5) (v := 1) (x := x - μ 89 (6 * sp_la (μ 89) (μ 86 5) 0 x y + 4)) (y := y) hr.1.1
    rw [e9, mi_wr_id (by omega) (by omega)]
    by_cases c2 : x - μ 89 (6 * sp_la (μ 89) (μ 86 5) 0 x y + 4) < 0
    · rw [if_pos c2, if_pos c2, iif_t (c := sp_cov (μ 89) (μ 86 5) x y) ⟨by omega, Or.inl c2⟩]
      exact ⟨⟨by have := hr.1; omega, trivial⟩, rfl⟩
    · rw [if_neg c2, if_neg c2]
      refine ⟨⟨by have := hr.1; omega, hr, hc, by decide, by omega, by omega⟩, ?_⟩
      show (if mi_wr (sp_la (μ 89) (μ 86 5) 1 (x - μ 89 (6 * sp_la (μ 89) (μ 86 5) 0 x y + 4)) y) = _ then (0 : Int) else 1) = _
      rw [mi_wr_id (by have := hr.1; omega) (by have := hr.1; omega)]
      by_cases c3 : sp_la (μ 89) (μ 86 5) 1 (x - μ 89 (6 * sp_la (μ 89) (μ 86 5) 0 x y + 4)) y = sp_la (μ 89) (μ 86 5) 0 x y
      · rw [if_pos c3, iif_f (fun h => h.2.elim c2 (fun h => h c3))]
      · rw [if_neg c3, iif_t (c := sp_cov (μ 89) (μ 86 5) x y) ⟨by omega, Or.inr c3⟩]
def mp124_0 (a0 : Int) (μ : mi_M) : Prop := cvA μ ∧ mx_R a0
def mq124_0 (a0 : Int) (μ : mi_M) (r : Int) (ν : mi_M) : Prop := cq μ ν ∧ r = sq_holes (sc_m μ) a0
theorem mc124_0 {a0 : Int} (hp : mp124_0 a0 μ) (hq : ∀ r ν, mq124_0 a0 μ r ν → Q (.inl (some (.inl r))) mi_G0 ν) : mi_cok X 124 [(.inr (.inl (some 0))), (.inl a0)] mi_G0 μ u Q := by
  obtain ⟨hA, r0⟩ := hp
  have hm := hA.1
  obtain ⟨⟨w1, w2⟩, ⟨g1, g2⟩, -⟩ := id hm
  have hm2 : mi_wr (-2) = -2 := by decide
  apply me124_0
  rw [mx_within r0 ⟨by decide, by decide⟩ ⟨by decide, by decide⟩]
  by_cases c : 0 ≤ a0 ∧ a0 ≤ 4
  · rw [if_pos c, if_neg w_10]
    refine ⟨rch hA (by decide) (by decide), fun ν hν => ?_⟩
    obtain ⟨hcq, es, hcv⟩ := rch_q hν
    have e0 : ν 1 0 = sc_m μ 0 := congrFun es 0
    have e1 : ν 1 1 = sc_m μ 1 := congrFun es 1
    refine qp_2 (A := fun y acc => mk124_0_20 X Q u a0 acc y ν) (B := fun y x acc => mk124_0_34 X Q u a0 acc y x ν) (I := fun y x acc => acc = sm2a (fun x y => if sp_bt (sc_m μ) a0 x y = -2 then 1 else 0) (sc_m μ 0) y x) (w := sc_m μ 0) (h := sc_m μ 1) (by omega) (by omega) ?_ ?_ ?_ ?_ sm2_0.symm
    · rintro acc rfl
      apply mh124_0_20
      rw [e1, if_neg (Int.lt_irrefl _), sm2_e]
      exact hq _ _ ⟨hcq, (iif_t c).symm⟩
    · rintro y acc hy hy' hi k
      apply mh124_0_20
      rw [e1, mi_wr_id (by omega) (by omega), mi_wr_id (by omega) (by omega), if_pos (by omega)]
      exact k acc hi
    · rintro y x acc hy hy' hx hx' rfl k
      have hi : sc_in (sc_m μ) x y := ⟨hx, hx', hy, hy'⟩
      obtain ⟨p1, p2⟩ := mx_bt (μ := ν) (t := a0) (x := x) (y := y) (by rw [es]; exact hm) c.1 c.2 (by rw [es]; exact hi) (hcv.2.2.2.2 (by decide))
      rw [es] at p2
      have bb := bt_b hm (t := a0) hi
      apply mh124_0_34
      rw [e0, p2, hm2, mi_wr_id (z := x) (by omega) (by omega), mi_wr_id (z := sc_m μ 0) (by omega) (by omega), if_pos hx', mi_wr_id (z := sp_bt (sc_m μ) a0 x y) (by omega) (by omega)]
      refine ⟨p1, k _ ?_⟩
      rw [sm2_x hx]
      split <;> omega
    · rintro y acc hy hy' rfl k
      apply mh124_0_34
      rw [e0, if_neg (Int.lt_irrefl _)]
      exact k _ (sm2_y hy).symm
  · rw [if_neg c, if_pos w_00]
    exact hq _ _ ⟨cq_r hA, (iif_f c).symm⟩
def mp128_0 (a0 : Int) (μ : mi_M) : Prop := cvA μ ∧ mx_R a0
def mq128_0 (a0 : Int) (μ : mi_M) (r : Int) (ν : mi_M) : Prop := cq μ ν ∧ r = sq_en (sc_m μ) a0
theorem mc128_0 {a0 : Int} (hp : mp128_0 a0 μ) (hq : ∀ r ν, mq128_0 a0 μ r ν → Q (.inl (some (.inl r))) mi_G0 ν) : mi_cok X 128 [(.inr (.inl (some 0))), (.inl a0)] mi_G0 μ u Q := by
  obtain ⟨hA, r0⟩ := hp
  have hm := hA.1
  obtain ⟨⟨w1, w2⟩, ⟨g1, g2⟩, -⟩ := id hm
  have h11 : mi_wr 1 = 1 := by decide
  apply me128_0
  rw [mx_within r0 ⟨by decide, by decide⟩ ⟨by decide, by decide⟩, mx_wr r0, h11]
  by_cases c : 0 ≤ a0 ∧ a0 ≤ 2
  · rw [if_pos c, if_neg w_10]
    by_cases c0 : a0 = 0
    · rw [if_pos c0]
      refine ⟨rch hA (by decide) (by decide), fun ν hν => ?_⟩
      obtain ⟨hcq, es, hcv⟩ := rch_q hν
      refine ⟨⟨by rw [es]; exact hm, (hcv.1 (by decide)).2, is_in1 (hcv.2.2.2.2 (by decide)) (by decide) (by decide)⟩, hq _ _ ⟨hcq, ?_⟩⟩
      unfold sq_en mv29_71_74
      rw [iif_t c, if_pos c0, es]
    · rw [if_neg c0]
      by_cases c1 : a0 = 1
      · rw [if_pos c1]
        refine ⟨rch hA (by decide) (by decide), fun ν hν => ?_⟩
        obtain ⟨hcq, es, hcv⟩ := rch_q hν
        refine ⟨⟨by rw [es]; exact hm, (hcv.1 (by decide)).2, is_in1 (hcv.2.2.1 (by decide)) (by decide) (by decide)⟩, hq _ _ ⟨hcq, ?_⟩⟩
        unfold sq_en mv29_71_72
        rw [iif_t c, if_neg c0, if_pos c1, es]
      · rw [if_neg c1]
        refine ⟨rch hA (by decide) (by decide), fun ν0 hν => ?_⟩
        obtain ⟨hcq0, es0, hcv0⟩ := rch_q hν
        refine qp_u (σ := Int × mi_M) (A := fun y s => mk128_0_69 X Q u s.1 y s.2) (fun y s => s.1 = sm (fun y => sp_rp (sc_m μ) y) y.toNat ∧ cq μ s.2 ∧ 1 ≤ s.2 0 11) (a := 0) (n := sc_m μ 1) (by omega) ?_ ?_ (s := (0, ν0)) ⟨rfl, hcq0, hν.2.2⟩
        · rintro ⟨acc, ν⟩ ⟨h1, hcq, h2⟩
          dsimp only at h1 hcq h2
          have es : sc_m ν = sc_m μ := sc_m_frl hcq.1 (by decide) (by decide) (by decide)
          have e1 : ν 1 1 = sc_m μ 1 := congrFun es 1
          show mk128_0_69 X Q u acc (sc_m μ 1) ν
          apply mh128_0_69
          rw [e1, if_neg (Int.lt_irrefl _)]
          refine hq _ _ ⟨hcq, ?_⟩
          unfold sq_en
          rw [iif_t c, if_neg c0, if_neg c1]; exact h1
        · rintro y ⟨acc, ν⟩ hy hy' ⟨h1, hcq, h2⟩ k
          dsimp only at h1 hcq h2
          have es : sc_m ν = sc_m μ := sc_m_frl hcq.1 (by decide) (by decide) (by decide)
          have e1 : ν 1 1 = sc_m μ 1 := congrFun es 1
          obtain ⟨b1, tw, b3, b4⟩ := id hcq.2
          show mk128_0_69 X Q u acc y ν
          apply mh128_0_69
          rw [e1, mi_wr_id (by omega) (by omega), mi_wr_id (by omega) (by omega), if_pos hy']
          refine ⟨⟨by rw [es]; exact hm, by rw [es]; exact ⟨hy, hy'⟩, (b4.1 h2).2⟩, fun r ρ ⟨q1, q2, q3⟩ => ?_⟩
          rw [es] at q2
          have hfin : cq μ ρ := ⟨fr_lt hcq.1 (fr_lm q1 rfl), ⟨by rw [q1 0 (by decide)]; exact b1, tw_fr q1 rfl tw, fun h => by rw [q1 0 (by decide)] at h; rw [q1 66 (by decide)]; exact b3 h, by rw [q1 0 (by decide)]; exact cvu_fr q1 rfl (fun _ => by decide) (fun _ => by decide) (fun _ => by decide) (fun _ => by decide) (fun _ => by decide) b4⟩⟩
          refine k (acc + r, ρ) ⟨?_, hfin, ?_⟩
          · show acc + r = _
            rw [sm_s hy, h1, q2]
          · show 1 ≤ ρ 0 11
            rw [q1 0 (by decide)]; exact h2
  · rw [if_neg c, if_pos w_00]
    exact hq _ _ ⟨cq_r hA, (iif_f c).symm⟩
/-- asked of layers, too -/
def cvL (μ : mi_M) : Prop := cvA μ ∧ lyr μ ∧ lyc μ
def mp129_0 (a0 a1 : Int) (μ : mi_M) : Prop := cvL μ ∧ mx_R a0 ∧ mx_R a1
def mq129_0 (a0 a1 : Int) (μ : mi_M) (r : Int) (ν : mi_M) : Prop := cq μ ν ∧ r = sq_wrong (sc_m μ) (μ 89) (μ 86 5) a0 a1
theorem mx_wrong {b w x y : Int} (hm : sc_ok (sc_m μ)) (hr : lyr μ) (hc : lyc μ) (hb : 0 ≤ b) (hb' : b ≤ 7) (hw : 0 ≤ w) (hw' : w ≤ 2) (hi : sc_in (sc_m μ) x y) (hf : mp_is μ 74 (sc_m μ) (sp_fill (sc_m μ))) : mp142_0 x y b w μ ∧ mv142_0 x y b w μ = iif (sp_wq (sc_m μ) (μ 89) (μ 86 5) b w x y) 1 0 := by
  obtain ⟨⟨w1, w2⟩, ⟨g1, g2⟩, ⟨f1, f2⟩, -⟩ := id hm
  obtain ⟨a1, a2, a3, a4⟩ := id hi
  have hm1 : mi_wr (-1) = -1 := by decide
  have h11 : mi_wr 1 = 1 := by decide
  have lb := sp_la_b (L := μ 89) (n := μ 86 5) (v := 0) (x := x) (y := y) hr.1.1
  have fb := sp_fill_b hm (v := 0) (x := x) (y := y) a2
  obtain ⟨p1, p2⟩ := mx_cov (x := x) (y := y) hr hc (by omega) (by omega) (by omega) (by omega)
  have el : mv4_4 0 x y μ = sp_la (μ 89) (μ 86 5) 0 x y := rfl
  have hp4 : mp4_4 0 x y μ := ⟨hr, hc, by decide, by omega, by omega⟩
  unfold mp142_0 mv142_0
  rw [el, p2, mx_spot a3 (by omega), hf 0 x y (by decide) (by decide) a1 a2 a3 a4, hm1, h11, w_00, mi_wr_id (z := sp_la (μ 89) (μ 86 5) 0 x y) (by have := hr.1; omega) (by have := hr.1; omega), mi_wr_id (z := b) (by omega) (by omega), mi_wr_id (z := w) (by omega) (by omega)]
  by_cases c : sp_la (μ 89) (μ 86 5) 0 x y = -1
  · rw [if_pos c, if_pos c, iif_f (fun h => by have := h.1; omega)]; exact ⟨⟨hp4, trivial⟩, rfl⟩
  · obtain ⟨b1, b2, b3, b4, b5⟩ := hr.2 _ (show 0 ≤ sp_la (μ 89) (μ 86 5) 0 x y by omega) lb.2
    have e9 := (hc.2 _ (show 0 ≤ sp_la (μ 89) (μ 86 5) 0 x y by omega) (by have := hr.1; omega)).2.2.2.2.1
    rw [if_neg c, if_neg c, e9, mx_abs ⟨by omega, by omega⟩, mi_wr_id (z := if sp_fill (sc_m μ) 0 x y - μ 89 (6 * sp_la (μ 89) (μ 86 5) 0 x y + 4) < 0 then -(sp_fill (sc_m μ) 0 x y - μ 89 (6 * sp_la (μ 89) (μ 86 5) 0 x y + 4)) else sp_fill (sc_m μ) 0 x y - μ 89 (6 * sp_la (μ 89) (μ 86 5) 0 x y + 4)) (by split <;> omega) (by split <;> omega)]
    by_cases c2 : -b ≤ sp_fill (sc_m μ) 0 x y - μ 89 (6 * sp_la (μ 89) (μ 86 5) 0 x y + 4) ∧ sp_fill (sc_m μ) 0 x y - μ 89 (6 * sp_la (μ 89) (μ 86 5) 0 x y + 4) ≤ b
    · have hn : ¬ b < (if sp_fill (sc_m μ) 0 x y - μ 89 (6 * sp_la (μ 89) (μ 86 5) 0 x y + 4) < 0 then -(sp_fill (sc_m μ) 0 x y - μ 89 (6 * sp_la (μ 89) (μ 86 5) 0 x y + 4)) else sp_fill (sc_m μ) 0 x y - μ 89 (6 * sp_la (μ 89) (μ 86 5) 0 x y + 4)) := by split <;> omega
      rw [if_neg hn, if_neg hn, iif_f (fun h => h.2.1 c2)]
      exact ⟨⟨hp4, by omega, by have := hr.1; omega, trivial⟩, rfl⟩
    · have hn : b < (if sp_fill (sc_m μ) 0 x y - μ 89 (6 * sp_la (μ 89) (μ 86 5) 0 x y + 4) < 0 then -(sp_fill (sc_m μ) 0 x y - μ 89 (6 * sp_la (μ 89) (μ 86 5) 0 x y + 4)) else sp_fill (sc_m μ) 0 x y - μ 89 (6 * sp_la (μ 89) (μ 86 5) 0 x y + 4)) := by split <;> omega
      rw [if_pos hn, if_pos hn]
      have l0 : 0 ≤ sp_la (μ 89) (μ 86 5) 0 x y := by omega
      by_cases c0 : w = 0
      · rw [if_pos c0, if_pos c0, iif_t (c := sp_wq (sc_m μ) (μ 89) (μ 86 5) b w x y) ⟨l0, c2, Or.inl c0⟩]
        exact ⟨⟨hp4, by omega, by have := hr.1; omega, trivial⟩, rfl⟩
      · rw [if_neg c0, if_neg c0]
        refine ⟨⟨hp4, by omega, by have := hr.1; omega, p1⟩, ?_⟩
        by_cases hcv : sp_cov (μ 89) (μ 86 5) x y
        · rw [iif_t hcv, h11]
          by_cases c1 : w = 1
          · rw [if_pos c1, if_pos rfl, iif_t (c := sp_wq (sc_m μ) (μ 89) (μ 86 5) b w x y) ⟨l0, c2, Or.inr (Or.inl ⟨c1, hcv⟩)⟩]
          · rw [if_neg c1, if_neg (by decide), iif_f (fun h => h.2.2.elim (fun h => c0 h) (fun h => h.elim (fun h => c1 h.1) (fun h => h.2 hcv)))]
        · rw [iif_f hcv, w_00]
          by_cases c1 : w = 1
          · rw [if_pos c1, if_neg (by decide), iif_f (fun h => h.2.2.elim (fun h => c0 h) (fun h => h.elim (fun h => hcv h.2) (fun h => by have := h.1; omega)))]
          · rw [if_neg c1, if_pos rfl, iif_t (c := sp_wq (sc_m μ) (μ 89) (μ 86 5) b w x y) ⟨l0, c2, Or.inr (Or.inr ⟨by omega, hcv⟩)⟩]
theorem mc129_0 {a0 a1 : Int} (hp : mp129_0 a0 a1 μ) (hq : ∀ r ν, mq129_0 a0 a1 μ r ν → Q (.inl (some (.inl r))) mi_G0 ν) : mi_cok X 129 [(.inr (.inl (some 0))), (.inl a0), (.inl a1)] mi_G0 μ u Q := by
  obtain ⟨⟨hA, hr, hc⟩, r0, r1⟩ := hp
  have hm := hA.1
  obtain ⟨⟨w1, w2⟩, ⟨g1, g2⟩, -⟩ := id hm
  apply me129_0
  rw [mx_within r0 ⟨by decide, by decide⟩ ⟨by decide, by decide⟩, mx_within r1 ⟨by decide, by decide⟩ ⟨by decide, by decide⟩]
  by_cases c : 0 ≤ a0 ∧ a0 ≤ 7
  · rw [if_pos c, if_neg w_10]
    by_cases c1 : 0 ≤ a1 ∧ a1 ≤ 2
    · rw [if_pos c1, if_neg w_10]
      refine ⟨rch hA (by decide) (by decide), fun ν hν => ?_⟩
      obtain ⟨hcq, es, hcv⟩ := rch_q hν
      have e0 : ν 1 0 = sc_m μ 0 := congrFun es 0
      have e1 : ν 1 1 = sc_m μ 1 := congrFun es 1
      have e86 : ν 86 = μ 86 := hcq.1 86 (by decide)
      have e89 : ν 89 = μ 89 := hcq.1 89 (by decide)
      have hr' : lyr ν := lyr_fr (by rw [e86]) e89 hr
      have hc' : lyc ν := lyc_fr (by rw [e86]) e89 (by rw [hcq.1 4 (by decide)]) (fun q h1 h2 => hcq.1 q (by
        rcases (show q = 5 ∨ q = 6 ∨ q = 7 ∨ q = 8 ∨ q = 9 ∨ q = 10 by omega) with rfl | rfl | rfl | rfl | rfl | rfl <;> decide)) hc
      refine qp_2 (A := fun y acc => mk129_0_31 X Q u a0 a1 acc y ν) (B := fun y x acc => mk129_0_46 X Q u a0 a1 acc y x ν) (I := fun y x acc => acc = sm2a (fun x y => iif (sp_wq (sc_m μ) (μ 89) (μ 86 5) a0 a1 x y) 1 0) (sc_m μ 0) y x) (w := sc_m μ 0) (h := sc_m μ 1) (by omega) (by omega) ?_ ?_ ?_ ?_ sm2_0.symm
      · rintro acc rfl
        apply mh129_0_31
        rw [e1, if_neg (Int.lt_irrefl _), sm2_e]
        exact hq _ _ ⟨hcq, (iif_t ⟨c, c1⟩).symm⟩
      · rintro y acc hy hy' hi k
        apply mh129_0_31
        rw [e1, mi_wr_id (by omega) (by omega), mi_wr_id (by omega) (by omega), if_pos (by omega)]
        exact k acc hi
      · rintro y x acc hy hy' hx hx' rfl k
        have hi : sc_in (sc_m μ) x y := ⟨hx, hx', hy, hy'⟩
        obtain ⟨p1, p2⟩ := mx_wrong (μ := ν) (b := a0) (w := a1) (x := x) (y := y) (by rw [es]; exact hm) hr' hc' c.1 c.2 c1.1 c1.2 (by rw [es]; exact hi) (hcv.2.2.2.2 (by decide))
        rw [es, e86, e89] at p2
        apply mh129_0_46
        rw [e0, p2, mi_wr_id (z := x) (by omega) (by omega), mi_wr_id (z := sc_m μ 0) (by omega) (by omega), if_pos hx']
        refine ⟨p1, k _ ?_⟩
        rw [sm2_x hx]
        by_cases cw : sp_wq (sc_m μ) (μ 89) (μ 86 5) a0 a1 x y
        · rw [iif_t cw, if_neg w_10]
        · rw [iif_f cw, if_pos w_00]
      · rintro y acc hy hy' rfl k
        apply mh129_0_46
        rw [e0, if_neg (Int.lt_irrefl _)]
        exact k _ (sm2_y hy).symm
    · rw [if_neg c1, if_pos w_00]
      exact hq _ _ ⟨cq_r hA, (iif_f (fun h => c1 h.2)).symm⟩
  · rw [if_neg c, if_pos w_00]
    exact hq _ _ ⟨cq_r hA, (iif_f (fun h => c h.1)).symm⟩
def mp105r (a0 a1 a2 : Int) (μ : mi_M) : Prop := cvL μ ∧ mx_R a0 ∧ mx_R a1 ∧ mx_R a2
def mq105r (a0 a1 a2 : Int) (μ : mi_M) (r : Int) (ν : mi_M) : Prop := cq μ ν ∧ r = sq_truth (sc_m μ) (μ 89) (μ 86 5) a0 a1 a2
theorem mc105r {a0 a1 a2 : Int} (hp : mp105r a0 a1 a2 μ) (hq : ∀ r ν, mq105r a0 a1 a2 μ r ν → Q (.inl (some (.inl r))) mi_G0 ν) : mi_cok X 105 [(.inr (.inl (some 0))), (.inl a0), (.inl a1), (.inl a2)] mi_G0 μ u Q := by
  obtain ⟨⟨hA, hr, hc⟩, r0, r1, r2⟩ := hp
  have hm := hA.1
  obtain ⟨⟨w1, w2⟩, ⟨g1, g2⟩, -⟩ := id hm
  have hm1 : mi_wr (-1) = -1 := by decide
  have h11 : mi_wr 1 = 1 := by decide
  have key : mp105_0 a0 a1 a2 μ ∧ mv105_0 a0 a1 a2 μ = sq_truth (sc_m μ) (μ 89) (μ 86 5) a0 a1 a2 := by
    unfold mp105_0 mv105_0
    rw [hm1, h11, mx_wr r2]
    by_cases c : sc_at (sc_m μ) 0 a0 a1
    · obtain ⟨-, x1, x2, y1, y2⟩ := id c
      rw [mx_atT hm c, if_neg w_10, if_neg w_10]
      by_cases c2 : 0 ≤ a2 ∧ a2 ≤ 1
      · have lb := sp_la_b (L := μ 89) (n := μ 86 5) (v := 0) (x := a0) (y := a1) hr.1.1
        obtain ⟨p1, p2⟩ := mx_cov (x := a0) (y := a1) hr hc (by omega) (by omega) (by omega) (by omega)
        have el : mv4_4 0 a0 a1 μ = sp_la (μ 89) (μ 86 5) 0 a0 a1 := rfl
        have hp4 : mp4_4 0 a0 a1 μ := ⟨hr, hc, by decide, by omega, by omega⟩
        rw [if_neg (show ¬ a2 < 0 by omega), if_neg (show ¬ a2 < 0 by omega), if_neg (show ¬ 1 < a2 by omega), if_neg (show ¬ 1 < a2 by omega), el, p2, mi_wr_id (z := sp_la (μ 89) (μ 86 5) 0 a0 a1) (by have := hr.1; omega) (by have := hr.1; omega)]
        unfold sq_truth
        rw [iif_t (c := sc_in (sc_m μ) a0 a1 ∧ 0 ≤ a2 ∧ a2 ≤ 1) ⟨c.2, c2⟩]
        by_cases c3 : a2 = 1
        · rw [if_pos c3, if_pos c3, if_neg (show ¬ a2 = 0 by omega)]
          refine ⟨⟨hp4, p1⟩, ?_⟩
          by_cases hcv : sp_cov (μ 89) (μ 86 5) a0 a1
          · rw [iif_t hcv, if_neg w_10]
          · rw [iif_f hcv, if_pos w_00]
        · rw [if_neg c3, if_neg c3, if_pos (show a2 = 0 by omega)]
          unfold sp_tr
          by_cases c4 : sp_la (μ 89) (μ 86 5) 0 a0 a1 = -1
          · rw [if_pos c4, if_pos c4, if_pos c4]; exact ⟨⟨hp4, trivial⟩, rfl⟩
          · rw [if_neg c4, if_neg c4, if_neg c4, (hc.2 _ (show 0 ≤ sp_la (μ 89) (μ 86 5) 0 a0 a1 by omega) (by have := hr.1; omega)).2.2.2.2.1]
            exact ⟨⟨hp4, by have := hr.1; omega⟩, rfl⟩
      · have hno : sq_truth (sc_m μ) (μ 89) (μ 86 5) a0 a1 a2 = -1 := iif_f (fun h => c2 h.2)
        by_cases c3 : a2 < 0
        · rw [if_pos c3, if_pos c3, hno]; exact ⟨trivial, rfl⟩
        · rw [if_neg c3, if_neg c3, if_pos (show 1 < a2 by omega), if_pos (show 1 < a2 by omega), hno]; exact ⟨trivial, rfl⟩
    · rw [mx_atF hm ⟨by decide, by decide⟩ r0 r1 c, if_pos w_00, if_pos w_00]
      exact ⟨trivial, (iif_f (fun h => c (at_0.mpr h.1))).symm⟩
  exact mc105_0 key.1 (hq _ _ ⟨cq_r hA, key.2⟩)
end
