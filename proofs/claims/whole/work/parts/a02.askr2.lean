/-! ground, wrong, truth (the reference) -/
theorem sm2a_b {f : Int → Int → Int} {w y x : Int} (h : ∀ x y, 0 ≤ f x y) : 0 ≤ sm2a f w y x := by
  have h1 := sm_0le (f := fun y => sm (fun x => f x y) w.toNat) y.toNat (fun y _ _ => sm_0le _ (fun x _ _ => h x y))
  have h2 := sm_0le (f := fun x => f x y) x.toNat (fun x _ _ => h x y)
  unfold sm2a; omega
section
variable {X : mi_X} {Q : mi_R → mi_G → mi_M → Prop} {u : mi_U} {μ : mi_M}
def mp234_86 (a0 : Int) (μ : mi_M) : Prop := sc_ok (μ 87) ∧ mx_R a0
def mq234_86 (a0 : Int) (μ : mi_M) (r : Int) (ν : mi_M) : Prop := rq μ ν ∧ r = sq_ground (μ 87) a0
theorem mc234_86 {a0 : Int} (hp : mp234_86 a0 μ) (hq : ∀ r ν, mq234_86 a0 μ r ν → Q (.inl (some (.inl r))) mi_G0 ν) : mi_cok X 234 [(.inr (.inl (some 86))), (.inl a0)] mi_G0 μ u Q := by
  obtain ⟨hm, r0⟩ := hp
  obtain ⟨⟨w1, w2⟩, ⟨g1, g2⟩, ⟨f1, f2⟩, -⟩ := id hm
  have w8 : mi_wr 8 = 8 := by decide
  have h11 : mi_wr 1 = 1 := by decide
  have hb := hm_b hm 0 0
  apply me234_86
  rw [mx_withinM r0 ⟨by decide, by decide⟩ ⟨by decide, by decide⟩]
  by_cases c : 0 ≤ a0 ∧ a0 ≤ 2
  · rw [if_pos c, if_neg w_10]
    refine ⟨show sc_ok (mi_set μ 86 0 0 87) by rw [th_87]; exact hm, fun ν ⟨hf, hc⟩ => ?_⟩
    rw [th_87] at hc
    obtain ⟨hrq, ht, e87, e89⟩ := rq_of hf rfl rfl
    have hc' : rc4 ν (ν 87) := by rw [e87]; exact hc
    have ev : sq_ground (μ 87) a0 = sp_gd (μ 87) a0 := iif_t c
    have nn : ∀ x y, (0 : Int) ≤ (fun x y => if sp_kn (μ 87) 0 x y = 0 then (1 : Int) else 0) x y := fun x y => by dsimp only; split <;> omega
    -- which are sure
    refine qp_2 (A := fun y any => mk234_86_33 X Q u a0 0 0 (-1) any y ν) (B := fun y x any => mk234_86_47 X Q u a0 0 0 (-1) any y x ν) (I := fun y x any => (any = 0 ∧ sm2a (fun x y => if sp_kn (μ 87) 0 x y = 0 then 1 else 0) (μ 87 0) y x = 0) ∨ (any = 1 ∧ 0 < sm2a (fun x y => if sp_kn (μ 87) 0 x y = 0 then 1 else 0) (μ 87 0) y x)) (w := μ 87 0) (h := μ 87 1) (by omega) (by omega) ?_ ?_ ?_ ?_ (Or.inl ⟨rfl, sm2_0⟩)
    · rintro any ha
      rw [sm2_e] at ha
      have ha' : (any = 0 ∧ sp_hm (μ 87) 0 0 = 0) ∨ (any = 1 ∧ 0 < sp_hm (μ 87) 0 0) := ha
      apply mh234_86_33
      rw [e87, if_neg (Int.lt_irrefl _)]
      rcases ha' with ⟨rfl, hz⟩ | ⟨rfl, hz⟩
      · apply mh234_86_97
        rw [w8, if_neg (by decide), if_pos w_00, if_pos w_00]
        exact hq _ _ ⟨hrq, by rw [ev]; unfold sp_gd; rw [if_pos hz]⟩
      · refine qp_u (σ := Int × Int × Int) (A := fun q s => mk234_86_97 X Q u a0 s.1 s.2.1 s.2.2 1 q ν) (fun q s => s = g2_v (μ 87) q.toNat ∧ (-1 ≤ s.2.2 ∧ s.2.2 ≤ 192)) (a := 0) (n := 9) (by omega) ?_ ?_ (s := (0, 0, -1)) ⟨rfl, by decide⟩
        · rintro s ⟨hs, -⟩
          rw [show (9 : Int).toNat = 9 from rfl] at hs
          apply mh234_86_97
          rw [w8, if_pos (by decide), if_neg w_10, h11, mi_wr_id (z := a0) (by omega) (by omega)]
          refine hq _ _ ⟨hrq, ?_⟩
          rw [ev]
          unfold sp_gd
          rw [if_neg (show ¬ sp_hm (μ 87) 0 0 = 0 by omega), ← hs]
        · rintro q s hq0 hq' ⟨hs, hsb⟩ k
          apply mh234_86_97
          rw [w8, mi_wr_id (z := q) (by omega) (by omega), if_neg (by omega), if_neg w_10]
          refine qp_u (σ := Int × Int × Int) (A := fun p s => mk234_86_112 X Q u a0 s.1 s.2.1 s.2.2 1 q p ν) (fun p s' => s' = g1_v (μ 87) q p.toNat s ∧ (-1 ≤ s'.2.2 ∧ s'.2.2 ≤ 192)) (a := 0) (n := 8 * μ 87 2 + 1) (by omega) ?_ ?_ (s := s) ⟨rfl, hsb⟩
          · rintro t ⟨ht, htb⟩
            apply mh234_86_112
            rw [e87, mi_wr_id (by omega) (by omega), mi_wr_id (by omega) (by omega), if_pos (by omega)]
            exact k t ⟨by rw [ht, hs, g2_s hq0], htb⟩
          · rintro p t hp hp' ⟨ht, htb⟩ k
            have vb := vt_b hm p q
            have ev2 : mv232_86 p q ν = sp_vt (μ 87) p q := by unfold mv232_86; rw [e87]
            have hg := g1_s (m := μ 87) (q := q) (s := s) hp
            rw [← ht] at hg
            apply mh234_86_112
            rw [e87, ev2, mi_wr_id (z := 8 * μ 87 2) (by omega) (by omega), mi_wr_id (z := p) (by omega) (by omega), if_neg (by omega), mi_wr_id (z := t.2.2) (by omega) (by omega), mi_wr_id (z := sp_vt (μ 87) p q) (by omega) (by omega)]
            refine ⟨⟨by rw [e87]; exact hm, by omega, by omega, hc'⟩, ?_⟩
            by_cases c2 : t.2.2 < sp_vt (μ 87) p q
            · rw [if_pos c2] at hg ⊢
              exact k (p, q, sp_vt (μ 87) p q) ⟨hg.symm, by dsimp only; omega⟩
            · rw [if_neg c2] at hg ⊢
              exact k t ⟨hg.symm, htb⟩
    · rintro y any hy hy' hi k
      apply mh234_86_33
      rw [e87, mi_wr_id (by omega) (by omega), mi_wr_id (by omega) (by omega), if_pos (by omega)]
      exact k any hi
    · rintro y x any hy hy' hx hx' ha k
      have hi : sc_in (μ 87) x y := ⟨hx, hx', hy, hy'⟩
      have kb := sp_kn_b (m := μ 87) (v := 0) (x := x) (y := y)
      have sb := sm2a_b (w := μ 87 0) (y := y) (x := x) nn
      obtain ⟨p1, p2⟩ := mx_now (μ := ν) (v := 0) (x := x) (y := y) (by rw [e87]; exact hm) hc' (by decide) (by decide) (by rw [e87]; exact hi)
      rw [e87] at p2
      apply mh234_86_47
      rw [p2, e87, mi_wr_id (z := x) (by omega) (by omega), mi_wr_id (z := μ 87 0) (by omega) (by omega), if_pos hx', mi_wr_id (z := sp_kn (μ 87) 0 x y) (by omega) (by omega)]
      rcases ha with ⟨rfl, hz⟩ | ⟨rfl, hz⟩
      · rw [if_pos w_00]
        refine ⟨p1, k _ ?_⟩
        rw [sm2_x hx, hz]
        by_cases c2 : sp_kn (μ 87) 0 x y = 0
        · rw [if_pos c2]; exact Or.inr ⟨rfl, by decide⟩
        · rw [if_neg c2]; exact Or.inl ⟨rfl, rfl⟩
      · rw [if_neg w_10]
        refine k _ (Or.inr ⟨rfl, ?_⟩)
        rw [sm2_x hx]
        have := nn x y
        dsimp only at this
        omega
    · rintro y any hy hy' ha k
      apply mh234_86_47
      rw [e87, if_neg (Int.lt_irrefl _)]
      exact k any (by rw [sm2_y hy]; exact ha)
  · rw [if_neg c, if_pos w_00]
    exact hq _ _ ⟨rq_0 μ 0, (iif_f c).symm⟩
/-- truth and what is covered -/
theorem mx_trR {x y : Int} (hr : lyr μ) (hx : -50 ≤ x) (hx' : x ≤ 50) (hy : -50 ≤ y) (hy' : y ≤ 50) : mp179_86 x y μ ∧ mv179_86 x y μ = sp_tr (μ 89) (μ 86 5) x y := by
  have lb := sp_la_b (L := μ 89) (n := μ 86 5) (v := 0) (x := x) (y := y) hr.1.1
  have el : mv176_86 0 x y μ = sp_la (μ 89) (μ 86 5) 0 x y := rfl
  have h6 := hr.1
  unfold mp179_86 mv179_86 sp_tr
  rw [el, mi_wr_id (z := sp_la (μ 89) (μ 86 5) 0 x y) (by omega) (by omega)]
  have hp : mp176_86 0 x y μ := ⟨hr, by decide, by omega, by omega⟩
  by_cases c : sp_la (μ 89) (μ 86 5) 0 x y = -1
  · rw [if_pos (show sp_la (μ 89) (μ 86 5) 0 x y < 0 by omega), if_pos (show sp_la (μ 89) (μ 86 5) 0 x y < 0 by omega), if_pos c]; exact ⟨⟨hp, trivial⟩, rfl⟩
  · rw [if_neg (show ¬ sp_la (μ 89) (μ 86 5) 0 x y < 0 by omega), if_neg (show ¬ sp_la (μ 89) (μ 86 5) 0 x y < 0 by omega), if_neg c]; exact ⟨⟨hp, by omega⟩, rfl⟩
theorem mx_covR {x y : Int} (hr : lyr μ) (hx : -50 ≤ x) (hx' : x ≤ 50) (hy : -50 ≤ y) (hy' : y ≤ 50) : mp180_86 x y μ ∧ mv180_86 x y μ = iif (sp_cov (μ 89) (μ 86 5) x y) 1 0 := by
  have lb := sp_la_b (L := μ 89) (n := μ 86 5) (v := 0) (x := x) (y := y) hr.1.1
  have el : mv176_86 0 x y μ = sp_la (μ 89) (μ 86 5) 0 x y := rfl
  have h6 := hr.1
  obtain ⟨t1, t2⟩ := mx_trR hr hx hx' hy hy'
  have hp : mp176_86 0 x y μ := ⟨hr, by decide, by omega, by omega⟩
  unfold mp180_86 mv180_86
  rw [el, t2, mi_wr_id (z := sp_la (μ 89) (μ 86 5) 0 x y) (by omega) (by omega)]
  by_cases c : sp_la (μ 89) (μ 86 5) 0 x y = -1
  · rw [if_pos (show sp_la (μ 89) (μ 86 5) 0 x y < 0 by omega), if_pos (show sp_la (μ 89) (μ 86 5) 0 x y < 0 by omega), iif_f (fun h => by have := h.1; omega)]; exact ⟨⟨hp, t1, trivial⟩, rfl⟩
  · obtain ⟨b1, b2, b3, b4, b5⟩ := hr.2 _ (show 0 ≤ sp_la (μ 89) (μ 86 5) 0 x y by omega) lb.2
    have et : sp_tr (μ 89) (μ 86 5) x y = μ 89 (6 * sp_la (μ 89) (μ 86 5) 0 x y + 4) := if_neg c
    have lb1 := sp_la_b (L := μ 89) (n := μ 86 5) (v := 1) (x := x - μ 89 (6 * sp_la (μ 89) (μ 86 5) 0 x y + 4)) (y := y) hr.1.1
    have el1 : mv176_86 1 (x - μ 89 (6 * sp_la (μ 89) (μ 86 5) 0 x y + 4)) y μ = sp_la (μ 89) (μ 86 5) 1 (x - μ 89 (6 * sp_la (μ 89) (μ 86 5) 0 x y + 4)) y := rfl
    rw [if_neg (show ¬ sp_la (μ 89) (μ 86 5) 0 x y < 0 by omega), if_neg (show ¬ sp_la (μ 89) (μ 86 5) 0 x y < 0 by omega), et, el1, mi_wr_id (z := x - μ 89 (6 * sp_la (μ 89) (μ 86 5) 0 x y + 4)) (by omega) (by omega), mi_wr_id (z := sp_la (μ 89) (μ 86 5) 1 (x - μ 89 (6 * sp_la (μ 89) (μ 86 5) 0 x y + 4)) y) (by omega) (by omega)]
    by_cases c2 : x - μ 89 (6 * sp_la (μ 89) (μ 86 5) 0 x y + 4) < 0
    · rw [if_pos c2, if_pos c2, iif_t (c := sp_cov (μ 89) (μ 86 5) x y) ⟨by omega, Or.inl c2⟩]
      exact ⟨⟨hp, t1, trivial⟩, rfl⟩
    · rw [if_neg c2, if_neg c2]
      refine ⟨⟨hp, t1, hr, by decide, by omega, by omega⟩, ?_⟩
      by_cases c3 : sp_la (μ 89) (μ 86 5) 1 (x - μ 89 (6 * sp_la (μ 89) (μ 86 5) 0 x y + 4)) y = sp_la (μ 89) (μ 86 5) 0 x y
      · rw [if_pos c3, iif_f (fun h => h.2.elim c2 (fun h => h c3))]
      · rw [if_neg c3, iif_t (c := sp_cov (μ 89) (μ 86 5) x y) ⟨by omega, Or.inr c3⟩]
def mp181r (a0 a1 a2 : Int) (μ : mi_M) : Prop := sc_ok (μ 87) ∧ lyr μ ∧ mx_R a0 ∧ mx_R a1 ∧ mx_R a2
def mq181r (a0 a1 a2 : Int) (μ : mi_M) (r : Int) (ν : mi_M) : Prop := rq μ ν ∧ r = sq_truth (μ 87) (μ 89) (μ 86 5) a0 a1 a2
theorem mc181r {a0 a1 a2 : Int} (hp : mp181r a0 a1 a2 μ) (hq : ∀ r ν, mq181r a0 a1 a2 μ r ν → Q (.inl (some (.inl r))) mi_G0 ν) : mi_cok X 181 [(.inr (.inl (some 86))), (.inl a0), (.inl a1), (.inl a2)] mi_G0 μ u Q := by
  obtain ⟨hm, hr, r0, r1, r2⟩ := hp
  obtain ⟨⟨w1, w2⟩, ⟨g1, g2⟩, -⟩ := id hm
  have e5 : mi_set μ 86 0 0 86 5 = μ 86 5 := by rw [ms_same, if_neg (by decide)]
  have e89 : mi_set μ 86 0 0 89 = μ 89 := ms_other μ (by decide) _ _
  have hr' : lyr (mi_set μ 86 0 0) := lyr_fr e5 e89 hr
  have key : mp181_86 a0 a1 a2 μ ∧ mv181_86 a0 a1 a2 μ = sq_truth (μ 87) (μ 89) (μ 86 5) a0 a1 a2 := by
    unfold mp181_86 mv181_86
    rw [th_pl, mx_withinM r2 ⟨by decide, by decide⟩ ⟨by decide, by decide⟩, mx_wr r2]
    by_cases c : sc_in (μ 87) a0 a1
    · obtain ⟨x1, x2, y1, y2⟩ := id c
      rw [mx_placeT hm c, if_neg w_10, if_neg w_10]
      by_cases c2 : 0 ≤ a2 ∧ a2 ≤ 1
      · obtain ⟨t1, t2⟩ := mx_trR (μ := mi_set μ 86 0 0) (x := a0) (y := a1) hr' (by omega) (by omega) (by omega) (by omega)
        obtain ⟨v1, v2⟩ := mx_covR (μ := mi_set μ 86 0 0) (x := a0) (y := a1) hr' (by omega) (by omega) (by omega) (by omega)
        rw [e5, e89] at t2 v2
        rw [if_pos c2, if_neg w_10, if_neg w_10, t2, v2]
        unfold sq_truth
        rw [iif_t (c := sc_in (μ 87) a0 a1 ∧ 0 ≤ a2 ∧ a2 ≤ 1) ⟨c, c2⟩]
        by_cases c3 : a2 = 0
        · rw [if_pos c3, if_pos c3, if_pos c3]; exact ⟨t1, rfl⟩
        · rw [if_neg c3, if_neg c3, if_neg c3]
          refine ⟨v1, ?_⟩
          by_cases hcv : sp_cov (μ 89) (μ 86 5) a0 a1
          · rw [iif_t hcv, if_neg w_10]
          · rw [iif_f hcv, if_pos w_00]
      · rw [if_neg c2, if_pos w_00, if_pos w_00]
        exact ⟨trivial, (iif_f (fun h => c2 h.2)).symm⟩
    · rw [mx_placeF hm r0 r1 c, if_pos w_00, if_pos w_00]
      exact ⟨trivial, (iif_f (fun h => c h.1)).symm⟩
  exact mc181_86 key.1 (hq _ _ ⟨rq_0 μ 0, key.2⟩)
def mp244_86 (a0 a1 : Int) (μ : mi_M) : Prop := sc_ok (μ 87) ∧ lyr μ ∧ mx_R a0 ∧ mx_R a1
def mq244_86 (a0 a1 : Int) (μ : mi_M) (r : Int) (ν : mi_M) : Prop := rq μ ν ∧ r = sq_wrong (μ 87) (μ 89) (μ 86 5) a0 a1
theorem mc244_86 {a0 a1 : Int} (hp : mp244_86 a0 a1 μ) (hq : ∀ r ν, mq244_86 a0 a1 μ r ν → Q (.inl (some (.inl r))) mi_G0 ν) : mi_cok X 244 [(.inr (.inl (some 86))), (.inl a0), (.inl a1)] mi_G0 μ u Q := by
  obtain ⟨hm, hr, r0, r1⟩ := hp
  obtain ⟨⟨w1, w2⟩, ⟨g1, g2⟩, -⟩ := id hm
  have h11 : mi_wr 1 = 1 := by decide
  apply me244_86
  rw [mx_withinM r0 ⟨by decide, by decide⟩ ⟨by decide, by decide⟩, mx_withinM r1 ⟨by decide, by decide⟩ ⟨by decide, by decide⟩]
  by_cases c : 0 ≤ a0 ∧ a0 ≤ 7
  · rw [if_pos c, if_neg w_10]
    by_cases c1 : 0 ≤ a1 ∧ a1 ≤ 2
    · rw [if_pos c1, if_neg w_10]
      refine ⟨show sc_ok (mi_set μ 86 0 0 87) by rw [th_87]; exact hm, fun ν ⟨hf, hc⟩ => ?_⟩
      rw [th_87] at hc
      obtain ⟨hrq, ht, e87, e89⟩ := rq_of hf rfl rfl
      have e5 : ν 86 5 = μ 86 5 := hrq.2 5 (by decide)
      have hr' : lyr ν := lyr_fr e5 e89 hr
      refine qp_2 (A := fun y acc => mk244_86_35 X Q u a0 a1 acc y ν) (B := fun y x acc => mk244_86_49 X Q u a0 a1 acc y x ν) (I := fun y x acc => acc = sm2a (fun x y => iif (sp_wq (μ 87) (μ 89) (μ 86 5) a0 a1 x y) 1 0) (μ 87 0) y x) (w := μ 87 0) (h := μ 87 1) (by omega) (by omega) ?_ ?_ ?_ ?_ sm2_0.symm
      · rintro acc rfl
        apply mh244_86_35
        rw [e87, if_neg (Int.lt_irrefl _), sm2_e]
        exact hq _ _ ⟨hrq, (iif_t ⟨c, c1⟩).symm⟩
      · rintro y acc hy hy' hi k
        apply mh244_86_35
        rw [e87, mi_wr_id (by omega) (by omega), mi_wr_id (by omega) (by omega), if_pos (by omega)]
        exact k acc hi
      · rintro y x acc hy hy' hx hx' rfl k
        have fb := sp_fill_b hm (v := 0) (x := x) (y := y) hx'
        have lb := sp_la_b (L := μ 89) (n := μ 86 5) (v := 0) (x := x) (y := y) hr.1.1
        have h6 := hr.1
        obtain ⟨t1, t2⟩ := mx_trR (μ := ν) (x := x) (y := y) hr' (by omega) (by omega) (by omega) (by omega)
        obtain ⟨v1, v2⟩ := mx_covR (μ := ν) (x := x) (y := y) hr' (by omega) (by omega) (by omega) (by omega)
        rw [e5, e89] at t2 v2
        have step : ∀ z, z = sm2a (fun x y => iif (sp_wq (μ 87) (μ 89) (μ 86 5) a0 a1 x y) 1 0) (μ 87 0) y x + iif (sp_wq (μ 87) (μ 89) (μ 86 5) a0 a1 x y) 1 0 → mk244_86_49 X Q u a0 a1 z y (x + 1) ν := fun z hz => k z (by rw [sm2_x hx]; exact hz)
        apply mh244_86_49
        rw [t2, v2, mx_spotR, hc.2 0 x y (by decide) (by decide) hx hx' hy hy', e87, h11, w_00, mi_wr_id (z := x) (by omega) (by omega), mi_wr_id (z := μ 87 0) (by omega) (by omega), if_pos hx', mi_wr_id (z := a1) (by omega) (by omega)]
        refine ⟨t1, ?_⟩
        by_cases d0 : sp_la (μ 89) (μ 86 5) 0 x y = -1
        · have et : sp_tr (μ 89) (μ 86 5) x y = -1 := if_pos d0
          rw [et, if_pos (by decide)]
          exact step _ (by rw [iif_f (fun h => by have := h.1; omega)])
        · have et : sp_tr (μ 89) (μ 86 5) x y = μ 89 (6 * sp_la (μ 89) (μ 86 5) 0 x y + 4) := if_neg d0
          obtain ⟨b1, b2, b3, b4, b5⟩ := hr.2 _ (show 0 ≤ sp_la (μ 89) (μ 86 5) 0 x y by omega) lb.2
          have l0 : 0 ≤ sp_la (μ 89) (μ 86 5) 0 x y := by omega
          rw [et, mi_wr_id (z := μ 89 (6 * sp_la (μ 89) (μ 86 5) 0 x y + 4)) (by omega) (by omega), if_neg (by omega), mx_withinM ⟨by omega, by omega⟩ ⟨by omega, by omega⟩ ⟨by omega, by omega⟩]
          refine ⟨by omega, ?_⟩
          by_cases d1 : -a0 ≤ sp_fill (μ 87) 0 x y - μ 89 (6 * sp_la (μ 89) (μ 86 5) 0 x y + 4) ∧ sp_fill (μ 87) 0 x y - μ 89 (6 * sp_la (μ 89) (μ 86 5) 0 x y + 4) ≤ a0
          · rw [if_pos d1, if_neg w_10]
            exact step _ (by rw [iif_f (fun h => h.2.1 d1)])
          · rw [if_neg d1, if_pos w_00]
            by_cases d2 : a1 = 0
            · rw [if_pos d2]
              exact step _ (by rw [iif_t (c := sp_wq (μ 87) (μ 89) (μ 86 5) a0 a1 x y) ⟨l0, d1, Or.inl d2⟩])
            · rw [if_neg d2]
              refine ⟨v1, step _ ?_⟩
              by_cases hcv : sp_cov (μ 89) (μ 86 5) x y
              · rw [iif_t hcv, h11]
                by_cases c3 : a1 = 1
                · rw [if_pos c3, if_pos rfl, iif_t (c := sp_wq (μ 87) (μ 89) (μ 86 5) a0 a1 x y) ⟨l0, d1, Or.inr (Or.inl ⟨c3, hcv⟩)⟩]
                · rw [if_neg c3, if_neg (by decide), iif_f (fun h => h.2.2.elim (fun h => d2 h) (fun h => h.elim (fun h => c3 h.1) (fun h => h.2 hcv)))]
              · rw [iif_f hcv, w_00]
                by_cases c3 : a1 = 1
                · rw [if_pos c3, if_neg (by decide), iif_f (fun h => h.2.2.elim (fun h => d2 h) (fun h => h.elim (fun h => hcv h.2) (fun h => by have := h.1; omega)))]
                · rw [if_neg c3, if_pos rfl, iif_t (c := sp_wq (μ 87) (μ 89) (μ 86 5) a0 a1 x y) ⟨l0, d1, Or.inr (Or.inr ⟨by omega, hcv⟩)⟩]
      · rintro y acc hy hy' rfl k
        apply mh244_86_49
        rw [e87, if_neg (Int.lt_irrefl _)]
        exact k _ (sm2_y hy).symm
    · rw [if_neg c1, if_pos w_00]
      exact hq _ _ ⟨rq_0 μ 0, (iif_f (fun h => c1 h.2)).symm⟩
  · rw [if_neg c, if_pos w_00]
    exact hq _ _ ⟨rq_0 μ 0, (iif_f (fun h => c h.1)).symm⟩
end
