/-! a row by itself: both -/
def mp80_81 (y : Int) (μ : mi_M) : Prop := sc_ok (sc_m μ) ∧ (0 ≤ y ∧ y < sc_m μ 1) ∧ ct_is μ 68 (sc_m μ) 8 (sp_cost (sc_m μ))
def mq80_81 (y : Int) (μ : mi_M) (r : Int) (ν : mi_M) : Prop := fr_l [82, 83] μ ν ∧ r = sp_rp (sc_m μ) y ∧ ∀ x, 0 ≤ x → x < sc_m μ 0 → ν 82 x = cx (sc_m μ) y x
def mp240_86 (y : Int) (μ : mi_M) : Prop := sc_ok (μ 87) ∧ (0 ≤ y ∧ y < μ 87 1) ∧ mp_is μ 92 (μ 87) (sp_code (μ 87))
def mq240_86 (y : Int) (μ : mi_M) (r : Int) (ν : mi_M) : Prop := fr_l [100, 101] μ ν ∧ r = sp_rp (μ 87) y ∧ ∀ x, 0 ≤ x → x < μ 87 0 → ν 101 x = cx (μ 87) y x
/-- totals ahead of a place and a shift -/
def to_to (ν : mi_M) (c : Nat) (m : Int → Int) (y px pd : Int) : Prop := ∀ x d, 0 ≤ x → x < m 0 → 0 ≤ d → d ≤ m 2 → (x < px ∨ x = px ∧ d < pd) → ν c (8 * x + d) = tx m y x d
section
variable {X : mi_X} {Q : mi_R → mi_G → mi_M → Prop} {u : mi_U} {μ : mi_M}
theorem to_d {ν : mi_M} {c : Nat} {m : Int → Int} {y px pd a : Int} (hn : m 2 ≤ 7) (hd : 0 ≤ pd) (hd' : pd ≤ m 2) (h : to_to ν c m y px pd) (ha : a = tx m y px pd) : to_to (mi_set ν c (8 * px + pd) a) c m y px (pd + 1) := fun x d h1 h2 h3 h4 h5 => by
  rw [ms_same]
  by_cases e : x = px ∧ d = pd
  · obtain ⟨rfl, rfl⟩ := e
    rw [if_pos rfl, ha]
  · rw [if_neg (by omega)]; exact h x d h1 h2 h3 h4 (by omega)
theorem to_x {ν : mi_M} {c : Nat} {m : Int → Int} {y px : Int} (h : to_to ν c m y px (m 2 + 1)) : to_to ν c m y (px + 1) 0 := fun x d h1 h2 h3 h4 h5 => h x d h1 h2 h3 h4 (by omega)
theorem mc80_81 {y : Int} (hp : mp80_81 y μ) (hq : ∀ r ν, mq80_81 y μ r ν → Q (.inl (some (.inl r))) mi_G0 ν) : mi_cok X 80 [(.inr (.inl (some 81))), (.inl y)] mi_G0 μ u Q := by
  obtain ⟨hm, ⟨hy, hy'⟩, hc⟩ := hp
  obtain ⟨⟨w1, w2⟩, ⟨g1, g2⟩, ⟨f1, f2⟩, -⟩ := id hm
  have s0 : μ 1 0 = sc_m μ 0 := rfl
  have s2 : μ 2 0 = sc_m μ 2 := (sc_m_c μ).2.2.1 0 (by decide) (by decide)
  -- what bestBefore says
  have bef : ∀ ν x d, fr_l [82, 83] μ ν → 1 ≤ x → x < sc_m μ 0 → 0 ≤ d → d ≤ 7 → (∀ e, 0 ≤ e → e ≤ sc_m μ 2 → ν 83 (8 * (x - 1) + e) = tx (sc_m μ) y (x - 1) e) → mp81_81 x d ν ∧ mv81_81 x d ν = am (fun e => tx (sc_m μ) y (x - 1) e + sp_st (sc_m μ) e d) (sc_m μ 2).toNat := fun ν x d hf h1 h2 h3 h4 ht => by
    have es : sc_m ν = sc_m μ := sc_m_frl hf (by decide) (by decide) (by decide)
    refine ⟨⟨by rw [es]; exact hm, by omega, by omega, fun e e1 e2 => ?_⟩, ?_⟩
    · rw [es] at e2
      rw [ht e e1 e2]
      have := tx_b hm (y := y) (x := x - 1) (d := e) (by omega)
      omega
    · unfold mv81_81
      rw [es]
      exact am_eq _ (fun e e1 e2 => by rw [ht e e1 (by omega)])
  apply me80_81
  rw [s0, s2]
  refine qp_u (A := fun x ν => mk80_81_23 X Q u y (sc_m μ 2) (sc_m μ 0 - 1) x ν) (fun x ν => fr_l [82, 83] μ ν ∧ to_to ν 83 (sc_m μ) y x 0) (a := 0) (n := sc_m μ 0) (by omega) ?_ ?_ ⟨fr_lr _ _, fun x d h1 h2 h3 h4 h5 => by omega⟩
  · rintro ν0 ⟨hf0, ht0⟩
    have hT : ∀ x d, 0 ≤ x → x < sc_m μ 0 → 0 ≤ d → d ≤ sc_m μ 2 → ν0 83 (8 * x + d) = tx (sc_m μ) y x d := fun x d h1 h2 h3 h4 => ht0 x d h1 h2 h3 h4 (by omega)
    apply mh80_81_23
    rw [mi_wr_id (by omega) (by omega), mi_wr_id (by omega) (by omega), if_pos (by omega), mx_shl3 (by omega) (by omega), show (sc_m μ 0 - 1) * 8 = 8 * (sc_m μ 0 - 1) by omega]
    refine qp_u (A := fun d b => mk80_81_119 X Q u (sc_m μ 2) (sc_m μ 0 - 1) (8 * (sc_m μ 0 - 1)) b d ν0) (fun d b => b = am (fun e => tx (sc_m μ) y (sc_m μ 0 - 1) e) (d - 1).toNat) (a := 1) (n := sc_m μ 2 + 1) (by omega) ?_ ?_ rfl
    · rintro b hb
      rw [show sc_m μ 2 + 1 - 1 = sc_m μ 2 by omega, ← cx_l] at hb
      subst hb
      have cb := cx_b hm (y := y) (x := sc_m μ 0 - 1) (by omega)
      apply mh80_81_119
      rw [mi_wr_id (by omega) (by omega), mi_wr_id (by omega) (by omega), if_pos (by omega)]
      refine ⟨by omega, ?_⟩
      refine qp_d (A := fun x ν => mk80_81_174 X Q u (8 * (sc_m μ 0 - 1)) (cx (sc_m μ) y (sc_m μ 0 - 1)) x ν) (fun x ν => fr_l [82, 83] μ ν ∧ ν 83 = ν0 83 ∧ ∀ i, x ≤ i → i < sc_m μ 0 → ν 82 i = cx (sc_m μ) y i) (a := sc_m μ 0 - 1) (n := 0) (by omega) ?_ ?_ ⟨fr_ls hf0 (by decide) _ _, ms_other _ (by decide) _ _, fun i h1 h2 => ?_⟩
      · rintro ν ⟨hf, h83, hch⟩
        apply mh80_81_174
        rw [if_neg (by decide), h83, hT _ _ (by omega) (by omega) cb.1 cb.2]
        refine ⟨by omega, hq _ ν ⟨hf, ?_, fun x h1 h2 => hch x h1 h2⟩⟩
        rw [cx_l]
        exact am_ls (f := fun e => tx (sc_m μ) y (sc_m μ 0 - 1) e) (sc_m μ 2).toNat
      · rintro x ν hx hx' ⟨hf, h83, hch⟩ k
        have cbx := cx_b hm (y := y) (x := x) (by omega)
        obtain ⟨p1, p2⟩ := bef ν x (cx (sc_m μ) y x) hf (by omega) (by omega) cbx.1 (by omega) (fun e e1 e2 => by rw [h83]; exact hT (x - 1) e (by omega) (by omega) e1 e2)
        apply mh80_81_174
        rw [mi_wr_id (by omega) (by omega), if_pos hx, hch x (Int.le_refl _) (by omega), p2]
        refine ⟨by omega, p1, by omega, k _ ⟨fr_ls hf (by decide) _ _, by rw [ms_other _ (by decide)]; exact h83, fun i h1 h2 => ?_⟩⟩
        rw [ms_same]
        by_cases e : i = x - 1
        · have hcs := cx_s (m := sc_m μ) (y := y) (x := x - 1) (by omega)
          rw [show x - 1 + 1 = x by omega] at hcs
          rw [if_pos e, e, hcs]
        · rw [if_neg e]; exact hch i (by omega) h2
      · rw [ms_same, if_pos (by omega), show i = sc_m μ 0 - 1 by omega]
    · rintro d b hd hd' rfl k
      have hb := am_b (f := fun e => tx (sc_m μ) y (sc_m μ 0 - 1) e) (d - 1).toNat
      have b1 := tx_b hm (y := y) (x := sc_m μ 0 - 1) (d := d) (by omega)
      have b2 := tx_b hm (y := y) (x := sc_m μ 0 - 1) (d := am (fun e => tx (sc_m μ) y (sc_m μ 0 - 1) e) (d - 1).toNat) (by omega)
      apply mh80_81_119
      rw [mi_wr_id (z := sc_m μ 2) (by omega) (by omega), mi_wr_id (z := d) (by omega) (by omega), if_neg (by omega), hT _ d (by omega) (by omega) (by omega) (by omega), hT _ _ (by omega) (by omega) hb.1 (by omega), mi_wr_id (by omega) (by omega), mi_wr_id (by omega) (by omega)]
      refine ⟨by omega, by omega, k _ ?_⟩
      have := am_s (f := fun e => tx (sc_m μ) y (sc_m μ 0 - 1) e) (i := d - 1) (by omega)
      rw [show d - 1 + 1 = d by omega] at this
      rw [show d + 1 - 1 = d by omega, this]
  · rintro x ν hx hx' ⟨hf, ht⟩ k
    apply mh80_81_23
    rw [mi_wr_id (by omega) (by omega), mi_wr_id (by omega) (by omega), if_neg (by omega)]
    refine qp_u (A := fun d ν => mk80_81_32 X Q u y (sc_m μ 2) (sc_m μ 0 - 1) x d ν) (fun d ν => fr_l [82, 83] μ ν ∧ to_to ν 83 (sc_m μ) y x d) (a := 0) (n := sc_m μ 2 + 1) (by omega) ?_ ?_ ⟨hf, ht⟩
    · rintro ν ⟨hf, ht⟩
      apply mh80_81_32
      rw [mi_wr_id (by omega) (by omega), mi_wr_id (by omega) (by omega), if_pos (by omega)]
      exact k ν ⟨hf, to_x ht⟩
    · rintro d ν hd hd' ⟨hf, ht⟩ k
      apply mh80_81_32
      rw [mi_wr_id (z := sc_m μ 2) (by omega) (by omega), mi_wr_id (z := d) (by omega) (by omega), if_neg (by omega), mi_wr_id (z := x) (by omega) (by omega), mx_cell hx (by omega) hy (by omega), mx_shl3 hx (by omega), show x * 8 + d = 8 * x + d by omega, hf 68 (by decide), hc x y d hx hx' hy hy' hd (by omega)]
      by_cases c : x = 0
      · subst c
        rw [if_pos rfl]
        exact ⟨by omega, by omega, k _ ⟨fr_ls hf (by decide) _ _, to_d f2 hd (by omega) ht (by rw [tx_0, Int.add_zero])⟩⟩
      · obtain ⟨p1, p2⟩ := bef ν x d hf (by omega) hx' hd (by omega) (fun e e1 e2 => ht (x - 1) e (by omega) (by omega) e1 e2 (by omega))
        have hb := am_b (f := fun e => tx (sc_m μ) y (x - 1) e + sp_st (sc_m μ) e d) (sc_m μ 2).toNat
        have es : sc_m ν = sc_m μ := sc_m_frl hf (by decide) (by decide) (by decide)
        obtain ⟨p3, p4⟩ := mx_pb (μ := ν) (a0 := x) (a1 := d) (e := am (fun e => tx (sc_m μ) y (x - 1) e + sp_st (sc_m μ) e d) (sc_m μ 2).toNat) (by rw [es]; exact hm) (by omega) (by omega) hd (by omega) hb.1 (by omega)
        rw [if_neg c, p2, p4]
        refine ⟨p1, p3, by omega, by omega, k _ ⟨fr_ls hf (by decide) _ _, to_d f2 hd (by omega) ht ?_⟩⟩
        have := tx_s (m := sc_m μ) (y := y) (x := x - 1) (d := d) (by omega)
        rw [show x - 1 + 1 = x by omega] at this
        rw [this, es, ht (x - 1) _ (by omega) (by omega) hb.1 (by omega) (by omega)]
        exact congrArg _ (am_ls (f := fun e => tx (sc_m μ) y (x - 1) e + sp_st (sc_m μ) e d) (sc_m μ 2).toNat)
theorem mc240_86 {y : Int} (hp : mp240_86 y μ) (hq : ∀ r ν, mq240_86 y μ r ν → Q (.inl (some (.inl r))) mi_G0 ν) : mi_cok X 240 [(.inr (.inl (some 86))), (.inl y)] mi_G0 μ u Q := by
  obtain ⟨hm, ⟨hy, hy'⟩, hc⟩ := hp
  obtain ⟨⟨w1, w2⟩, ⟨g1, g2⟩, ⟨f1, f2⟩, -⟩ := id hm
  have hcost : ∀ ν x d, fr_l [100, 101] μ ν → 0 ≤ x → x < μ 87 0 → 0 ≤ d → d ≤ 7 → mp192_86 x y d ν ∧ mv192_86 x y d ν = sp_cost (μ 87) x y d := fun ν x d hf h1 h2 h3 h4 => by
    have e87 : ν 87 = μ 87 := hf 87 (by decide)
    have := mx_costR (μ := ν) (x := x) (y := y) (d := d) (by rw [e87]; exact hm) (by rw [e87]; exact mp_is_fr (hf 92 (by decide)) hc) h1 (by rw [e87]; exact h2) hy (by rw [e87]; exact hy') h3 (by omega)
    rw [e87] at this; exact this
  have hstep : ∀ ν d e, fr_l [100, 101] μ ν → 0 ≤ d → d ≤ 7 → 0 ≤ e → e ≤ 7 → mv239_86 d e ν = sp_st (μ 87) e d := fun ν d e hf h1 h2 h3 h4 => by
    have e87 : ν 87 = μ 87 := hf 87 (by decide)
    rw [mx_stepR ⟨h1, h2⟩ ⟨h3, h4⟩, e87, st_y]
  apply me240_86
  refine qp_u (A := fun x ν => mk240_86_2 X Q u y x ν) (fun x ν => fr_l [100, 101] μ ν ∧ to_to ν 100 (μ 87) y x 0) (a := 0) (n := μ 87 0) (by omega) ?_ ?_ ⟨fr_lr _ _, fun x d h1 h2 h3 h4 h5 => by omega⟩
  · rintro ν0 ⟨hf0, ht0⟩
    have hT : ∀ x d, 0 ≤ x → x < μ 87 0 → 0 ≤ d → d ≤ μ 87 2 → ν0 100 (8 * x + d) = tx (μ 87) y x d := fun x d h1 h2 h3 h4 => ht0 x d h1 h2 h3 h4 (by omega)
    apply mh240_86_2
    rw [hf0 87 (by decide), if_neg (Int.lt_irrefl _)]
    refine qp_u (A := fun d b => mk240_86_138 X Q u y b d ν0) (fun d b => (d = 0 ∧ b = 100000000) ∨ (0 < d ∧ b = ls_t (fun e => tx (μ 87) y (μ 87 0 - 1) e) (d - 1).toNat)) (a := 0) (n := μ 87 2 + 1) (by omega) ?_ ?_ (Or.inl ⟨rfl, rfl⟩)
    · rintro b hb
      have hb' : b = sp_rp (μ 87) y := by
        rcases hb with ⟨h1, -⟩ | ⟨-, h2⟩
        · omega
        · rw [show μ 87 2 + 1 - 1 = μ 87 2 by omega] at h2; exact h2
      subst hb'
      apply mh240_86_138
      rw [hf0 87 (by decide), mi_wr_id (by omega) (by omega), mi_wr_id (by omega) (by omega), if_pos (by omega)]
      -- going back
      refine qp_d (σ := Int × mi_M) (A := fun x s => mk240_86_199 X Q u y s.1 (sp_rp (μ 87) y) x s.2) (fun x s => fr_l [100, 101] μ s.2 ∧ s.2 100 = ν0 100 ∧ (∀ i, x < i → i < μ 87 0 → s.2 101 i = cx (μ 87) y i) ∧ (x = μ 87 0 - 1 → s.1 = sp_rp (μ 87) y) ∧ (x < μ 87 0 - 1 → 0 ≤ x → s.1 = ls_t (fun e => tx (μ 87) y x e + sp_st (μ 87) e (cx (μ 87) y (x + 1))) (μ 87 2).toNat)) (a := μ 87 0 - 1) (n := -1) (by omega) ?_ ?_ (s := (sp_rp (μ 87) y, ν0)) ⟨hf0, rfl, fun i h1 h2 => by omega, fun _ => rfl, fun h => by omega⟩
      · rintro ⟨due, ν⟩ ⟨hf, h100, hch, -⟩
        show mk240_86_199 X Q u y due (sp_rp (μ 87) y) (-1) ν
        apply mh240_86_199
        rw [if_pos (by decide)]
        exact hq _ ν ⟨hf, rfl, fun x h1 h2 => hch x (by omega) h2⟩
      · rintro x ⟨due, ν⟩ hx hx' ⟨hf, h100, hch, hd1, hd2⟩ k
        dsimp only at hf h100 hch hd1 hd2
        show mk240_86_199 X Q u y due (sp_rp (μ 87) y) x ν
        have cb := cx_b hm (y := y) (x := x) (by omega)
        -- the sum that is looked for
        have fin : ∀ d, d = cx (μ 87) y x → (0 ≤ x ∧ x < 16) ∧ (0 ≤ 8 * x + d ∧ 8 * x + d < 128) ∧ mp192_86 x y d (mi_set ν 101 x d) ∧ mk240_86_199 X Q u y (ν 100 (8 * x + d) - mv192_86 x y d (mi_set ν 101 x d)) (sp_rp (μ 87) y) (x + -1) (mi_set ν 101 x d) := by
          rintro d rfl
          have hf' : fr_l [100, 101] μ (mi_set ν 101 x (cx (μ 87) y x)) := fr_ls hf (by decide) _ _
          obtain ⟨c1, c2⟩ := hcost _ x (cx (μ 87) y x) hf' (by omega) (by omega) cb.1 (by omega)
          refine ⟨by omega, by omega, c1, ?_⟩
          rw [c2, h100, hT x _ (by omega) (by omega) cb.1 cb.2]
          refine k (tx (μ 87) y x (cx (μ 87) y x) - sp_cost (μ 87) x y (cx (μ 87) y x), mi_set ν 101 x (cx (μ 87) y x)) ⟨hf', (ms_other ν (by decide : 100 ≠ 101) x (cx (μ 87) y x)).trans h100, fun i h1 h2 => ?_, fun h => ?_, fun h h' => ?_⟩
          · show mi_set ν 101 x (cx (μ 87) y x) 101 i = _
            rw [ms_same]
            by_cases e : i = x
            · rw [if_pos e, e]
            · rw [if_neg e]; exact hch i (by omega) h2
          · omega
          · show tx (μ 87) y x (cx (μ 87) y x) - sp_cost (μ 87) x y (cx (μ 87) y x) = _
            have := tx_s (m := μ 87) (y := y) (x := x - 1) (d := cx (μ 87) y x) h'
            rw [show x - 1 + 1 = x by omega] at this ⊢
            omega
        apply mh240_86_199
        rw [mi_wr_id (z := x) (by omega) (by omega), if_neg (by omega)]
        -- either the last place or one ahead of it
        have sel : ∀ d, 0 ≤ d → d ≤ μ 87 2 → ∀ (f : Int → Int), (x = μ 87 0 - 1 → f = fun e => tx (μ 87) y x e) → (x < μ 87 0 - 1 → f = fun e => tx (μ 87) y x e + sp_st (μ 87) e (cx (μ 87) y (x + 1))) → (f d = ls_t f (μ 87 2).toNat → d = cx (μ 87) y x) → (f d ≠ ls_t f (μ 87 2).toNat → mk240_86_207 X Q u y due (sp_rp (μ 87) y) x (d + 1) ν) → mk240_86_207 X Q u y due (sp_rp (μ 87) y) x d ν := by
          intro d h1 h2 f hfa hfb hF hN
          have bt := tx_b hm (y := y) (x := x) (d := d) (by omega)
          have e100 : ν 100 (8 * x + d) = tx (μ 87) y x d := by rw [h100]; exact hT x d (by omega) (by omega) h1 h2
          obtain ⟨ee, ee1, ee2, ee3⟩ := ls_in (f := f) (μ 87 2).toNat
          have bt2 := tx_b hm (y := y) (x := x) (d := ee) (by omega)
          apply mh240_86_207
          rw [hf 87 (by decide), mi_wr_id (z := x) (by omega) (by omega), mi_wr_id (z := μ 87 0 - 1) (by omega) (by omega)]
          refine ⟨by omega, ?_⟩
          by_cases c : x = μ 87 0 - 1
          · have hf1 := hfa c
            have hdue : due = ls_t f (μ 87 2).toNat := by rw [hd1 c, hf1, c]; rfl
            have fe : f d = tx (μ 87) y x d := by rw [hf1]
            have fe2 : f ee = tx (μ 87) y x ee := by rw [hf1]
            rw [if_pos c, e100, hdue, mi_wr_id (z := tx (μ 87) y x d + 0) (by omega) (by omega), mi_wr_id (z := ls_t f (μ 87 2).toNat) (by omega) (by omega), Int.add_zero, ← fe]
            by_cases c2 : f d = ls_t f (μ 87 2).toNat
            · rw [if_pos c2]
              have := fin d (hF c2)
              rw [e100, ← fe] at this; exact this
            · rw [if_neg c2, ← hdue]; exact hN c2
          · have hf1 := hfb (by omega)
            have hdue : due = ls_t f (μ 87 2).toNat := by rw [hd2 (by omega) (by omega), hf1]
            have cb1 := cx_b hm (y := y) (x := x + 1) (by omega)
            have fe : f d = tx (μ 87) y x d + sp_st (μ 87) d (cx (μ 87) y (x + 1)) := by rw [hf1]
            have fe2 : f ee = tx (μ 87) y x ee + sp_st (μ 87) ee (cx (μ 87) y (x + 1)) := by rw [hf1]
            have sb := st_b hm d (cx (μ 87) y (x + 1))
            have sb2 := st_b hm ee (cx (μ 87) y (x + 1))
            rw [if_neg c, hch (x + 1) (by omega) (by omega), hstep ν d _ hf h1 (by omega) cb1.1 (by omega), st_y, e100, hdue, mi_wr_id (z := tx (μ 87) y x d + sp_st (μ 87) d (cx (μ 87) y (x + 1))) (by omega) (by omega), mi_wr_id (z := ls_t f (μ 87 2).toNat) (by omega) (by omega), ← fe]
            refine ⟨by omega, ?_⟩
            by_cases c2 : f d = ls_t f (μ 87 2).toNat
            · rw [if_pos c2]
              have := fin d (hF c2)
              rw [e100] at this; exact this
            · rw [if_neg c2, ← hdue]; exact hN c2
        have hf0' : ∃ f : Int → Int, (x = μ 87 0 - 1 → f = fun e => tx (μ 87) y x e) ∧ (x < μ 87 0 - 1 → f = fun e => tx (μ 87) y x e + sp_st (μ 87) e (cx (μ 87) y (x + 1))) ∧ cx (μ 87) y x = am f (μ 87 2).toNat := by
          by_cases c : x = μ 87 0 - 1
          · exact ⟨fun e => tx (μ 87) y x e, fun _ => rfl, fun h => by omega, by rw [c]; exact cx_l⟩
          · exact ⟨fun e => tx (μ 87) y x e + sp_st (μ 87) e (cx (μ 87) y (x + 1)), fun h => by omega, fun _ => rfl, cx_s (by omega)⟩
        obtain ⟨f, hfa, hfb, hcx⟩ := hf0'
        have hal := am_ls (f := f) (μ 87 2).toNat
        refine qp_u (σ := Unit) (A := fun d _ => mk240_86_207 X Q u y due (sp_rp (μ 87) y) x d ν) (fun d _ => True) (a := 0) (n := cx (μ 87) y x) cb.1 ?_ ?_ (s := ()) trivial
        · rintro - -
          refine sel _ cb.1 cb.2 f hfa hfb (fun _ => rfl) (fun h => absurd ?_ h)
          rw [hcx]; exact hal
        · rintro d - hd hd' - k2
          refine sel d hd (by omega) f hfa hfb (fun h => ?_) (fun _ => k2 () trivial)
          rw [hcx] at hd'
          have := am_lt (f := f) (μ 87 2).toNat d hd hd'
          omega
    · rintro d b hd hd' hI k
      have bt := tx_b hm (y := y) (x := μ 87 0 - 1) (d := d) (by omega)
      have bb : 0 ≤ b ∧ b ≤ 100000000 := by
        rcases hI with ⟨-, rfl⟩ | ⟨h, rfl⟩
        · omega
        · obtain ⟨e, e1, e2, e3⟩ := ls_in (f := fun e => tx (μ 87) y (μ 87 0 - 1) e) (d - 1).toNat
          have := tx_b hm (y := y) (x := μ 87 0 - 1) (d := e) (by omega)
          rw [e3]; omega
      apply mh240_86_138
      rw [hf0 87 (by decide), mi_wr_id (z := μ 87 2) (by omega) (by omega), mi_wr_id (z := d) (by omega) (by omega), if_neg (by omega), hT _ d (by omega) (by omega) hd (by omega), mi_wr_id (z := tx (μ 87) y (μ 87 0 - 1) d) (by omega) (by omega), mi_wr_id (z := b) (by omega) (by omega)]
      refine ⟨by omega, k _ (Or.inr ⟨by omega, ?_⟩)⟩
      rw [show d + 1 - 1 = d by omega]
      rcases hI with ⟨rfl, rfl⟩ | ⟨h, rfl⟩
      · rw [if_pos (by omega)]; rfl
      · have := ls_s (f := fun e => tx (μ 87) y (μ 87 0 - 1) e) (i := d - 1) (by omega)
        rw [show d - 1 + 1 = d by omega] at this
        exact this.symm
  · rintro x ν hx hx' ⟨hf, ht⟩ k
    apply mh240_86_2
    rw [hf 87 (by decide), mi_wr_id (by omega) (by omega), mi_wr_id (by omega) (by omega), if_pos (by omega)]
    refine qp_u (A := fun d ν => mk240_86_14 X Q u y x d ν) (fun d ν => fr_l [100, 101] μ ν ∧ to_to ν 100 (μ 87) y x d) (a := 0) (n := μ 87 2 + 1) (by omega) ?_ ?_ ⟨hf, ht⟩
    · rintro ν ⟨hf, ht⟩
      apply mh240_86_14
      rw [hf 87 (by decide), mi_wr_id (by omega) (by omega), mi_wr_id (by omega) (by omega), if_pos (by omega)]
      exact k ν ⟨hf, to_x ht⟩
    · rintro d ν hd hd' ⟨hf, ht⟩ k
      obtain ⟨c1, c2⟩ := hcost ν x d hf hx hx' hd (by omega)
      have fin : ∀ z, z + sp_cost (μ 87) x y d = tx (μ 87) y x d → mp192_86 x y d ν ∧ (0 ≤ 8 * x + d ∧ 8 * x + d < 128) ∧ mk240_86_14 X Q u y x (d + 1) (mi_set ν 100 (8 * x + d) (z + mv192_86 x y d ν)) := fun z hz => by
        rw [c2]
        exact ⟨c1, by omega, k _ ⟨fr_ls hf (by decide) _ _, to_d f2 hd (by omega) ht hz⟩⟩
      apply mh240_86_14
      rw [hf 87 (by decide), mi_wr_id (z := μ 87 2) (by omega) (by omega), mi_wr_id (z := d) (by omega) (by omega), if_neg (by omega), mi_wr_id (z := x) (by omega) (by omega)]
      by_cases c : x = 0
      · subst c
        rw [if_pos rfl]
        apply mh240_86_39
        rw [hf 87 (by decide), mi_wr_id (z := μ 87 2) (by omega) (by omega), w_00, if_neg (by omega), if_neg (by decide)]
        exact fin 0 (by rw [tx_0]; omega)
      · rw [if_neg c]
        refine qp_u (A := fun e l => mk240_86_39 X Q u y x d l e ν) (fun e l => (e = 0 ∧ l = 100000000) ∨ (0 < e ∧ l = ls_t (fun e => tx (μ 87) y (x - 1) e + sp_st (μ 87) e d) (e - 1).toNat)) (a := 0) (n := μ 87 2 + 1) (by omega) ?_ ?_ (Or.inl ⟨rfl, rfl⟩)
        · rintro l hl
          apply mh240_86_39
          rw [hf 87 (by decide), mi_wr_id (z := μ 87 2) (by omega) (by omega), mi_wr_id (z := μ 87 2 + 1) (by omega) (by omega), if_pos (by omega)]
          refine fin l ?_
          rcases hl with ⟨h1, -⟩ | ⟨-, rfl⟩
          · omega
          · have := tx_s (m := μ 87) (y := y) (x := x - 1) (d := d) (by omega)
            rw [show x - 1 + 1 = x by omega] at this
            rw [show μ 87 2 + 1 - 1 = μ 87 2 by omega]
            omega
        · rintro e l he he' hI k2
          have bt := tx_b hm (y := y) (x := x - 1) (d := e) (by omega)
          have sb := st_b hm e d
          have bb : 0 ≤ l ∧ l ≤ 100000000 := by
            rcases hI with ⟨-, rfl⟩ | ⟨h, rfl⟩
            · omega
            · obtain ⟨e', e1, e2, e3⟩ := ls_in (f := fun e => tx (μ 87) y (x - 1) e + sp_st (μ 87) e d) (e - 1).toNat
              have := tx_b hm (y := y) (x := x - 1) (d := e') (by omega)
              have := st_b hm e' d
              rw [e3]; omega
          apply mh240_86_39
          rw [hf 87 (by decide), mi_wr_id (z := μ 87 2) (by omega) (by omega), mi_wr_id (z := e) (by omega) (by omega), if_neg (by omega), mi_wr_id (z := x) (by omega) (by omega), if_pos (by omega), ht (x - 1) e (by omega) (by omega) he (by omega) (by omega), hstep ν d e hf hd (by omega) he (by omega), mi_wr_id (z := tx (μ 87) y (x - 1) e + sp_st (μ 87) e d) (by omega) (by omega), mi_wr_id (z := l) (by omega) (by omega)]
          refine ⟨by omega, k2 _ (Or.inr ⟨by omega, ?_⟩)⟩
          rw [show e + 1 - 1 = e by omega]
          rcases hI with ⟨rfl, rfl⟩ | ⟨h, rfl⟩
          · rw [if_pos (by omega)]; rfl
          · have := ls_s (f := fun e => tx (μ 87) y (x - 1) e + sp_st (μ 87) e d) (i := e - 1) (by omega)
            rw [show e - 1 + 1 = e by omega] at this
            exact this.symm
end
