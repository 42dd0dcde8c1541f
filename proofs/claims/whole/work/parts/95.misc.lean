/-! the ground; places that are asked; values between -/
noncomputable def iif (c : Prop) (a b : Int) : Int := @ite Int c (Classical.propDecidable c) a b
theorem iif_t {c : Prop} {a b : Int} (h : c) : iif c a b = a := if_pos h
theorem iif_f {c : Prop} {a b : Int} (h : ¬ c) : iif c a b = b := if_neg h
noncomputable def g1_v (m : Int → Int) (q : Int) : Nat → Int × Int × Int → Int × Int × Int
  | 0, s => s
  | n + 1, s => if (g1_v m q n s).2.2 < sp_vt m n q then ((n : Int), q, sp_vt m n q) else g1_v m q n s
noncomputable def g2_v (m : Int → Int) : Nat → Int × Int × Int
  | 0 => (0, 0, -1)
  | n + 1 => g1_v m n (8 * m 2 + 1).toNat (g2_v m n)
theorem g1_s {m : Int → Int} {q i : Int} {s : Int × Int × Int} (h : 0 ≤ i) : g1_v m q (i + 1).toNat s = if (g1_v m q i.toNat s).2.2 < sp_vt m i q then (i, q, sp_vt m i q) else g1_v m q i.toNat s := by
  obtain ⟨n, rfl⟩ := Int.eq_ofNat_of_zero_le h
  rw [show ((n : Int) + 1).toNat = n + 1 by omega, show ((n : Int)).toNat = n by omega]
  rfl
theorem g2_s {m : Int → Int} {i : Int} (h : 0 ≤ i) : g2_v m (i + 1).toNat = g1_v m i (8 * m 2 + 1).toNat (g2_v m i.toNat) := by
  obtain ⟨n, rfl⟩ := Int.eq_ofNat_of_zero_le h
  rw [show ((n : Int) + 1).toNat = n + 1 by omega, show ((n : Int)).toNat = n by omega]
  rfl
noncomputable def sp_gd (m : Int → Int) (what : Int) : Int := if sp_hm m 0 0 = 0 then -1 else if what = 0 then (g2_v m 9).1 else if what = 1 then (g2_v m 9).2.1 else (g2_v m 9).2.2
theorem hm_b {m : Int → Int} (hm : sc_ok m) (v k : Int) : 0 ≤ sp_hm m v k ∧ sp_hm m v k ≤ 192 := by
  obtain ⟨⟨w1, w2⟩, ⟨g1, g2⟩, -⟩ := id hm
  exact sm2_b (by omega) w2 (by omega) g2 (fun x y => by split <;> omega)
def mp10_84 (a0 : Int) (μ : mi_M) : Prop := mp8_84 μ ∧ (0 ≤ a0 ∧ a0 ≤ 2)
def mq10_84 (a0 : Int) (μ : mi_M) (r : Int) (ν : mi_M) : Prop := fr_1 85 μ ν ∧ r = sp_gd (sc_m μ) a0
section
variable {X : mi_X} {Q : mi_R → mi_G → mi_M → Prop} {u : mi_U} {μ : mi_M}
theorem mc10_84 {a0 : Int} (hp : mp10_84 a0 μ) (hq : ∀ r ν, mq10_84 a0 μ r ν → Q (.inl (some (.inl r))) mi_G0 ν) : mi_cok X 10 [(.inr (.inl (some 84))), (.inl a0)] mi_G0 μ u Q := by
  obtain ⟨hp8, h0, h0'⟩ := hp
  have hm := hp8.1
  obtain ⟨-, -, ⟨f1, f2⟩, -⟩ := id hm
  have hb := hm_b hm 0 0
  have w8 : mi_wr 8 = 8 := by decide
  have w2 : mi_wr 2 = 2 := by decide
  have s2 : μ 2 0 = sc_m μ 2 := (sc_m_c μ).2.2.1 0 (by decide) (by decide)
  apply me10_84
  refine ⟨hp8, fun r ν ⟨hf, hr, hl⟩ => ?_⟩
  subst hr
  have es : sc_m ν = sc_m μ := sc_m_fr (hf 1 (by decide)) (hf 2 (by decide)) (hf 3 (by decide))
  have e20 : ν 2 0 = sc_m μ 2 := by rw [hf 2 (by decide)]; exact s2
  rw [mi_wr_id (by omega) (by omega)]
  by_cases c0 : sp_hm (sc_m μ) 0 0 = 0
  · rw [if_pos c0]
    exact hq _ ν ⟨hf, by unfold sp_gd; rw [if_pos c0]⟩
  · rw [if_neg c0]
    refine qp_u (σ := Int × Int × Int) (A := fun q s => mk10_84_19 X Q u a0 s.1 s.2.1 s.2.2 q ν) (fun q s => s = g2_v (sc_m μ) q.toNat ∧ (-1 ≤ s.2.2 ∧ s.2.2 ≤ 192)) (a := 0) (n := 9) (by omega) ?_ ?_ (s := (0, 0, -1)) ⟨rfl, by decide⟩
    · rintro s ⟨hs, -⟩
      rw [show (9 : Int).toNat = 9 from rfl] at hs
      apply mh10_84_19
      rw [w8, if_pos (by decide), w2, mi_wr_id (z := a0) (by omega) (by omega)]
      refine hq _ ν ⟨hf, ?_⟩
      unfold sp_gd
      rw [if_neg c0, ← hs]
      rcases (show a0 = 0 ∨ a0 = 1 ∨ a0 = 2 by omega) with rfl | rfl | rfl <;> rfl
    · rintro q s hq0 hq' ⟨hs, hsb⟩ k
      apply mh10_84_19
      rw [w8, mi_wr_id (z := q) (by omega) (by omega), if_neg (by omega)]
      refine qp_u (σ := Int × Int × Int) (A := fun p s => mk10_84_29 X Q u a0 s.1 s.2.1 s.2.2 q p ν) (fun p s' => s' = g1_v (sc_m μ) q p.toNat s ∧ (-1 ≤ s'.2.2 ∧ s'.2.2 ≤ 192)) (a := 0) (n := 8 * sc_m μ 2 + 1) (by omega) ?_ ?_ (s := s) ⟨rfl, hsb⟩
      · rintro t ⟨ht, htb⟩
        apply mh10_84_29
        rw [e20, mi_wr_id (by omega) (by omega), mi_wr_id (by omega) (by omega), if_pos (by omega)]
        exact k t ⟨by rw [ht, hs, g2_s hq0], htb⟩
      · rintro p t hp hp' ⟨ht, htb⟩ k
        have vb := vt_b hm p q
        have ev : mv9_84 p q ν = sp_vt (sc_m μ) p q := by unfold mv9_84; rw [es]
        have hg := g1_s (m := sc_m μ) (q := q) (s := s) hp
        rw [← ht] at hg
        apply mh10_84_29
        rw [e20, ev, mi_wr_id (z := 8 * sc_m μ 2) (by omega) (by omega), mi_wr_id (z := p) (by omega) (by omega), if_neg (by omega), mi_wr_id (z := t.2.2) (by omega) (by omega), mi_wr_id (z := sp_vt (sc_m μ) p q) (by omega) (by omega)]
        refine ⟨⟨by rw [es]; exact hm, by omega, by omega, by rw [es]; exact hl⟩, ?_⟩
        by_cases c : t.2.2 < sp_vt (sc_m μ) p q
        · rw [if_pos c] at hg ⊢
          exact k (p, q, sp_vt (sc_m μ) p q) ⟨hg.symm, by dsimp only; omega⟩
        · rw [if_neg c] at hg ⊢
          exact k t ⟨hg.symm, htb⟩
theorem mc138_0 {a0 a1 a2 : Int} (h : if mi_wr (mv87_1 a0 a1 a2 μ) = 0 then Q (.inr ()) mi_G0 μ else Q (.inl none) mi_G0 μ) : mi_cok X 138 [(.inr (.inl (some 0))), (.inl a0), (.inl a1), (.inl a2)] mi_G0 μ (1, 6) Q :=
  me138_0 (mi_ite (fun h => ⟨⟨Nat.le_refl _, Nat.le_refl _⟩, h⟩) (fun h => h) h)
/-- is a place of a view there -/
def sc_at (m : Int → Int) (v x y : Int) : Prop := (0 ≤ v ∧ v ≤ 1) ∧ sc_in m x y
theorem mx_atT {v x y : Int} (hm : sc_ok (sc_m μ)) (h : sc_at (sc_m μ) v x y) : mv87_1 v x y μ = 1 := by
  unfold mv87_1
  rw [mx_view ⟨by have := h.1; omega, by have := h.1; omega⟩, mx_hasT hm h.2, if_pos h.1, if_neg w_10, if_neg w_10]
theorem mx_atF {v x y : Int} (hm : sc_ok (sc_m μ)) (hv : mx_R v) (hx : mx_R x) (hy : mx_R y) (h : ¬ sc_at (sc_m μ) v x y) : mv87_1 v x y μ = 0 := by
  unfold mv87_1
  rw [mx_view hv]
  by_cases c : 0 ≤ v ∧ v ≤ 1
  · rw [if_pos c, if_neg w_10, mx_hasF hm hx hy (fun h' => h ⟨c, h'⟩), if_pos w_00]
  · rw [if_neg c, if_pos w_00]
theorem mx_atTR {v x y : Int} (hm : sc_ok (μ 87)) (h : sc_at (μ 87) v x y) : mv151_86 v x y μ = 1 := by
  unfold mv151_86
  rw [mx_withinM ⟨by have := h.1; omega, by have := h.1; omega⟩ ⟨by decide, by decide⟩ ⟨by decide, by decide⟩, mx_placeT hm h.2, if_pos h.1, if_neg w_10, if_neg w_10]
theorem mx_atFR {v x y : Int} (hm : sc_ok (μ 87)) (hv : mx_R v) (hx : mx_R x) (hy : mx_R y) (h : ¬ sc_at (μ 87) v x y) : mv151_86 v x y μ = 0 := by
  unfold mv151_86
  rw [mx_withinM hv ⟨by decide, by decide⟩ ⟨by decide, by decide⟩]
  by_cases c : 0 ≤ v ∧ v ≤ 1
  · rw [if_pos c, if_neg w_10, mx_placeF hm hx hy (fun h' => h ⟨c, h'⟩), if_pos w_00]
  · rw [if_neg c, if_pos w_00]
/-- is a shift one -/
theorem mx_shT {d : Int} (hm : sc_ok (sc_m μ)) (h : 0 ≤ d ∧ d ≤ sc_m μ 2) : mv88_1 d μ = 1 := by
  obtain ⟨-, -, ⟨f1, f2⟩, -⟩ := id hm
  have s2 : μ 2 0 = sc_m μ 2 := (sc_m_c μ).2.2.1 0 (by decide) (by decide)
  unfold mv88_1
  rw [s2, mi_wr_id (z := d) (by omega) (by omega), mi_wr_id (z := sc_m μ 2) (by omega) (by omega), if_neg (by omega), if_neg (by omega)]
theorem mx_shF {d : Int} (hm : sc_ok (sc_m μ)) (hd : mx_R d) (h : ¬ (0 ≤ d ∧ d ≤ sc_m μ 2)) : mv88_1 d μ = 0 := by
  obtain ⟨-, -, ⟨f1, f2⟩, -⟩ := id hm
  have s2 : μ 2 0 = sc_m μ 2 := (sc_m_c μ).2.2.1 0 (by decide) (by decide)
  unfold mv88_1
  rw [s2, mx_wr hd, mi_wr_id (z := sc_m μ 2) (by omega) (by omega)]
  split
  · rfl
  · rw [if_pos (by omega)]
theorem mx_shTR {x y d : Int} (hm : sc_ok (μ 87)) (h : sc_in (μ 87) x y ∧ 0 ≤ d ∧ d ≤ μ 87 2) : mv193_86 x y d μ = 1 := by
  obtain ⟨-, -, ⟨f1, f2⟩, -⟩ := id hm
  have h2 := h.2
  unfold mv193_86
  rw [mx_placeT hm h.1, if_neg w_10, mx_withinM ⟨by omega, by omega⟩ ⟨by decide, by decide⟩ ⟨by omega, by omega⟩, if_pos h2, if_neg w_10]
theorem mx_shFR {x y d : Int} (hm : sc_ok (μ 87)) (hx : mx_R x) (hy : mx_R y) (hd : mx_R d) (h : ¬ (sc_in (μ 87) x y ∧ 0 ≤ d ∧ d ≤ μ 87 2)) : mv193_86 x y d μ = 0 := by
  obtain ⟨-, -, ⟨f1, f2⟩, -⟩ := id hm
  unfold mv193_86
  by_cases c : sc_in (μ 87) x y
  · rw [mx_placeT hm c, if_neg w_10, mx_withinM hd ⟨by decide, by decide⟩ ⟨by omega, by omega⟩, if_neg (fun h' => h ⟨c, h'⟩), if_pos w_00]
  · rw [mx_placeF hm hx hy c, if_pos w_00]
/-- the value between -/
theorem mx_bt {t x y : Int} (hm : sc_ok (sc_m μ)) (ht : 0 ≤ t) (ht' : t ≤ 4) (hi : sc_in (sc_m μ) x y) (hf : mp_is μ 74 (sc_m μ) (sp_fill (sc_m μ))) : mp26_71 t x y μ ∧ mv26_71 t x y μ = sp_bt (sc_m μ) t x y := by
  obtain ⟨⟨w1, w2⟩, ⟨g1, g2⟩, -⟩ := id hm
  obtain ⟨a1, a2, a3, a4⟩ := id hi
  have hm1 : mi_wr (-1) = -1 := by decide
  have b0 := cf_b (g := sp_to t 0 (fun i => sp_fill (sc_m μ) 0 i y)) (f := fun i => sp_fill (sc_m μ) 0 i y) (x := x) (sc_m μ 0).toNat
  have b1 := cf_b (g := sp_to t 1 (fun i => sp_fill (sc_m μ) 1 i y)) (f := fun i => sp_fill (sc_m μ) 1 i y) (x := x) (sc_m μ 0).toNat
  have e0 : mv27_71 0 t x y μ = sp_cf (sc_m μ) 0 t x y := rfl
  have e1 : mv27_71 1 t x y μ = sp_cf (sc_m μ) 1 t x y := rfl
  have b0' : -1 ≤ sp_cf (sc_m μ) 0 t x y ∧ sp_cf (sc_m μ) 0 t x y < sc_m μ 0 := by unfold sp_cf; omega
  have b1' : -1 ≤ sp_cf (sc_m μ) 1 t x y ∧ sp_cf (sc_m μ) 1 t x y < sc_m μ 0 := by unfold sp_cf; omega
  have hv : ∀ v i, 0 ≤ v → v ≤ 1 → 0 ≤ i → i < sc_m μ 0 → μ 3 (192 * v + 16 * y + i) = sp_val (sc_m μ) v i y := fun v i h1 h2 h3 h4 => (sc_m_c μ).2.2.2 _ (by omega) (by omega)
  unfold mp26_71 mv26_71 sp_bt
  simp only [mx_spot a3 (show y < 16777216 by omega)]
  rw [e0, e1, hm1, mi_wr_id (z := sp_cf (sc_m μ) 0 t x y) (by omega) (by omega), mi_wr_id (z := sp_cf (sc_m μ) 1 t x y) (by omega) (by omega)]
  have p0 : mp27_71 0 t x y μ := ⟨hm, by decide, ⟨ht, ht'⟩, hi, hf⟩
  have p1 : mp27_71 1 t x y μ := ⟨hm, by decide, ⟨ht, ht'⟩, hi, hf⟩
  by_cases c0 : sp_cf (sc_m μ) 0 t x y = -1
  · rw [if_pos c0, if_pos c0, if_pos c0]
    by_cases c1 : sp_cf (sc_m μ) 1 t x y = -1
    · rw [if_pos c1, if_pos c1]
      exact ⟨⟨p0, p1, trivial⟩, by rw [if_pos c1]⟩
    · rw [if_neg c1, if_neg c1, if_neg c1]
      exact ⟨⟨p0, p1, by omega⟩, hv 1 _ (by decide) (by decide) (by omega) (by omega)⟩
  · rw [if_neg c0, if_neg c0, if_neg c0]
    exact ⟨⟨p0, by omega⟩, hv 0 _ (by decide) (by decide) (by omega) (by omega)⟩
theorem mx_btR {t x y : Int} (hm : sc_ok (μ 87)) (ht : 0 ≤ t) (ht' : t ≤ 4) (hi : sc_in (μ 87) x y) (hf : mp_is μ 99 (μ 87) (sp_fill (μ 87))) : mp236_86 t x y μ ∧ mv236_86 t x y μ = sp_bt (μ 87) t x y := by
  obtain ⟨⟨w1, w2⟩, ⟨g1, g2⟩, -⟩ := id hm
  obtain ⟨a1, a2, a3, a4⟩ := id hi
  have b0 := cf_b (g := sp_to t 0 (fun i => sp_fill (μ 87) 0 i y)) (f := fun i => sp_fill (μ 87) 0 i y) (x := x) (μ 87 0).toNat
  have b1 := cf_b (g := sp_to t 1 (fun i => sp_fill (μ 87) 1 i y)) (f := fun i => sp_fill (μ 87) 1 i y) (x := x) (μ 87 0).toNat
  have e0 : mv235_86 0 t x y μ = sp_cf (μ 87) 0 t x y := rfl
  have e1 : mv235_86 1 t x y μ = sp_cf (μ 87) 1 t x y := rfl
  have b0' : -1 ≤ sp_cf (μ 87) 0 t x y ∧ sp_cf (μ 87) 0 t x y < μ 87 0 := by unfold sp_cf; omega
  have b1' : -1 ≤ sp_cf (μ 87) 1 t x y ∧ sp_cf (μ 87) 1 t x y < μ 87 0 := by unfold sp_cf; omega
  unfold mp236_86 mv236_86 sp_bt
  rw [e0, e1, mi_wr_id (z := sp_cf (μ 87) 0 t x y) (by omega) (by omega), mi_wr_id (z := sp_cf (μ 87) 1 t x y) (by omega) (by omega)]
  have p0 : mp235_86 0 t x y μ := ⟨hm, by decide, ⟨ht, ht'⟩, hi, hf⟩
  have p1 : mp235_86 1 t x y μ := ⟨hm, by decide, ⟨ht, ht'⟩, hi, hf⟩
  by_cases c0 : sp_cf (μ 87) 0 t x y = -1
  · rw [if_pos (show sp_cf (μ 87) 0 t x y < 0 by omega), if_pos (show sp_cf (μ 87) 0 t x y < 0 by omega), if_pos c0]
    by_cases c1 : sp_cf (μ 87) 1 t x y = -1
    · rw [if_pos (show sp_cf (μ 87) 1 t x y < 0 by omega), if_pos (show sp_cf (μ 87) 1 t x y < 0 by omega), if_pos c1]
      exact ⟨⟨p0, p1, trivial⟩, rfl⟩
    · rw [if_neg (show ¬ sp_cf (μ 87) 1 t x y < 0 by omega), if_neg (show ¬ sp_cf (μ 87) 1 t x y < 0 by omega), if_neg c1]
      obtain ⟨q1, q2⟩ := sc_valR (μ := μ) (v := 1) (x := sp_cf (μ 87) 1 t x y) (y := y) (by decide) (by decide) (by omega) (by omega) a3 (by omega)
      exact ⟨⟨p0, p1, q1⟩, q2⟩
  · rw [if_neg (show ¬ sp_cf (μ 87) 0 t x y < 0 by omega), if_neg (show ¬ sp_cf (μ 87) 0 t x y < 0 by omega), if_neg c0]
    obtain ⟨q1, q2⟩ := sc_valR (μ := μ) (v := 0) (x := sp_cf (μ 87) 0 t x y) (y := y) (by decide) (by decide) (by omega) (by omega) a3 (by omega)
    exact ⟨⟨p0, q1⟩, q2⟩
/-- the greatest piece -/
theorem mx_great {v : Int} (hp : mp57_76 v μ) : mp58_76 v μ ∧ mv58_76 v μ = gm_v (sc_m μ) v 192 := by
  obtain ⟨hm, ⟨hv, hv'⟩, hc⟩ := id hp
  have hm1 : mi_wr (-1) = -1 := by decide
  obtain ⟨h1, h2⟩ := gm_rd (m := sc_m μ) (v := v)
  unfold mp58_76 mv58_76
  rw [hm1]
  by_cases c : sp_rd (sc_m μ) v 0 = -1
  · have e : mv59_76 v 0 μ = -1 := by unfold mv59_76; rw [if_pos c]
    rw [e, hm1, if_pos rfl, if_pos rfl, h1 c]
    exact ⟨⟨⟨hp, by decide, by decide⟩, trivial⟩, rfl⟩
  · obtain ⟨⟨r1, r2⟩, hk, hz⟩ := h2 c
    have rb := rk_b (m := sc_m μ) (v := v) r1
    have e : mv59_76 v 0 μ = rk (sc_m μ) v (sp_rd (sc_m μ) v 0) := by unfold mv59_76; rw [if_neg c]
    rw [e, mi_wr_id (by omega) (by omega), if_neg (by omega), if_neg (by omega), show v * 192 + rk (sc_m μ) v (sp_rd (sc_m μ) v 0) = 192 * v + rk (sc_m μ) v (sp_rd (sc_m μ) v 0) by omega, hc.2.1 _ r1 r2 hk.1, hz]
    exact ⟨⟨⟨hp, by decide, by decide⟩, by omega⟩, rfl⟩
end
