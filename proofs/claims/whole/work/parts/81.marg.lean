/-! margins, prices of maps, how many of a kind, fine shifts -/
def lg_v (f : Int → Int) (s : Int) : Nat → Int
  | 0 => 100000000
  | k + 1 => if ¬ (-1 ≤ (k : Int) - s ∧ (k : Int) - s ≤ 1) ∧ f k < lg_v f s k then f k else lg_v f s k
theorem lg_s {f : Int → Int} {s i : Int} (h : 0 ≤ i) : lg_v f s (i + 1).toNat = if ¬ (-1 ≤ i - s ∧ i - s ≤ 1) ∧ f i < lg_v f s i.toNat then f i else lg_v f s i.toNat := by
  obtain ⟨n, rfl⟩ := Int.eq_ofNat_of_zero_le h
  rw [show ((n : Int) + 1).toNat = n + 1 by omega, show ((n : Int)).toNat = n by omega]
  rfl
theorem lg_b {f : Int → Int} {s a b : Int} (hb : b < 100000000) : ∀ n : Nat, (∀ d : Int, 0 ≤ d → d < n → a ≤ f d ∧ f d ≤ b) → lg_v f s n = 100000000 ∨ (a ≤ lg_v f s n ∧ lg_v f s n ≤ b)
  | 0, _ => Or.inl rfl
  | n + 1, h => by
    have := lg_b (s := s) hb n (fun d h1 h2 => h d h1 (by omega))
    have h2 := h n (by omega) (by omega)
    unfold lg_v
    split
    · exact Or.inr h2
    · exact this
noncomputable def sp_mg (m : Int → Int) (x y : Int) : Int := if lg_v (fun d => sp_sum m x y d) (sp_sl m x y) (m 2 + 1).toNat = 100000000 then -1 else lg_v (fun d => sp_sum m x y d) (sp_sl m x y) (m 2 + 1).toNat - sp_sum m x y (sp_sl m x y)
theorem sl_le {m : Int → Int} {x y d : Int} (hd : 0 ≤ d) (hd' : d ≤ m 2) : sp_sum m x y (sp_sl m x y) ≤ sp_sum m x y d := by
  have h1 := am_ls (f := fun d => sp_sum m x y d) (m 2).toNat
  have h2 := ls_le (f := fun d => sp_sum m x y d) (m 2).toNat d hd (by omega)
  have h3 : sp_sum m x y (sp_sl m x y) = ls_t (fun d => sp_sum m x y d) (m 2).toNat := h1
  omega
noncomputable def fd_v (a b : Int) : Int := mv259 a b (fun _ _ => 0)
theorem mx_fd (a b : Int) (μ : mi_M) : mv259 a b μ = fd_v a b := rfl
noncomputable def sp_fine (m : Int → Int) (x y : Int) : Int := if sp_sl m x y < 1 ∨ ¬ sp_sl m x y < m 2 then 16 * sp_sl m x y else 16 * sp_sl m x y + (if 0 < sp_sum m x y (sp_sl m x y - 1) + sp_sum m x y (sp_sl m x y + 1) - 2 * sp_sum m x y (sp_sl m x y) then fd_v (8 * (sp_sum m x y (sp_sl m x y - 1) - sp_sum m x y (sp_sl m x y + 1))) (sp_sum m x y (sp_sl m x y - 1) + sp_sum m x y (sp_sl m x y + 1) - 2 * sp_sum m x y (sp_sl m x y)) else 0)
def sp_st (m : Int → Int) (d e : Int) : Int := if d = e then 0 else if d - e = 1 ∨ e - d = 1 then m 4 else m 5
noncomputable def sp_e1 (m : Int → Int) (f : Int → Int → Int) (x y : Int) : Int := sp_cost m x y (f x y) + ((if x + 1 < m 0 then sp_st m (f x y) (f (x + 1) y) else 0) + (if y + 1 < m 1 then sp_st m (f x y) (f x (y + 1)) else 0))
noncomputable def sp_en (m : Int → Int) (f : Int → Int → Int) : Int := sm2 (sp_e1 m f) (m 0) (m 1)
def mp15_71 (a0 a1 : Int) (μ : mi_M) : Prop := sc_ok (sc_m μ) ∧ sc_in (sc_m μ) a0 a1 ∧ ct_is μ 69 (sc_m μ) (sc_m μ 2 + 1) (sp_sum (sc_m μ)) ∧ mp_is μ 72 (sc_m μ) (sp_sh (sc_m μ))
noncomputable def mv15_71 (a0 a1 : Int) (μ : mi_M) : Int := sp_mg (sc_m μ) a0 a1
def mp20_71 (a0 a1 : Int) (μ : mi_M) : Prop := sc_ok (sc_m μ) ∧ (0 ≤ a0 ∧ a0 ≤ 1) ∧ mx_R a1 ∧ mp_is μ 73 (sc_m μ) (sp_kn (sc_m μ))
noncomputable def sp_hm (m : Int → Int) (v k : Int) : Int := sm2 (fun x y => if sp_kn m v x y = k then 1 else 0) (m 0) (m 1)
noncomputable def mv20_71 (a0 a1 : Int) (μ : mi_M) : Int := sp_hm (sc_m μ) a0 a1
section
variable {X : mi_X} {Q : mi_R → mi_G → mi_M → Prop} {u : mi_U} {μ : mi_M}
theorem mc15_71 {a0 a1 : Int} (hp : mp15_71 a0 a1 μ) (hq : Q (.inl (some (.inl (mv15_71 a0 a1 μ)))) mi_G0 μ) : mi_cok X 15 [(.inr (.inl (some 71))), (.inl a0), (.inl a1)] mi_G0 μ u Q := by
  obtain ⟨hm, ⟨hx, hx', hy, hy'⟩, hs, hh⟩ := hp
  obtain ⟨⟨w1, w2⟩, ⟨g1, g2⟩, ⟨f1, f2⟩, -⟩ := id hm
  have s2 : μ 2 0 = sc_m μ 2 := (sc_m_c μ).2.2.1 0 (by decide) (by decide)
  have sb := sp_sl_b hm a0 a1
  have e0 : μ 72 (192 * 0 + 16 * a1 + a0) = sp_sl (sc_m μ) a0 a1 := hh 0 a0 a1 (by decide) (by decide) hx hx' hy hy'
  have hm1 : mi_wr (-1) = -1 := by decide
  have h22 : mi_wr 2 = 2 := by decide
  apply me15_71
  rw [mx_spot hy (by omega), mx_cell hx (by omega) hy (by omega), e0, Int.add_zero]
  refine ⟨by omega, ?_⟩
  refine qp_u (A := fun d b => mk15_71_26 X Q u (sp_sl (sc_m μ) a0 a1) (8 * (16 * a1 + a0)) b d μ) (fun d b => b = if lg_v (fun d => sp_sum (sc_m μ) a0 a1 d) (sp_sl (sc_m μ) a0 a1) d.toNat = 100000000 then -1 else lg_v (fun d => sp_sum (sc_m μ) a0 a1 d) (sp_sl (sc_m μ) a0 a1) d.toNat - sp_sum (sc_m μ) a0 a1 (sp_sl (sc_m μ) a0 a1)) (a := 0) (n := sc_m μ 2 + 1) (by omega) ?_ ?_ rfl
  · rintro b rfl
    apply mh15_71_26
    rw [s2, mi_wr_id (by omega) (by omega), mi_wr_id (by omega) (by omega), if_pos (by omega)]
    exact hq
  · rintro d b hd hd' hI k
    have b1 := sp_sum_b hm (x := a0) (y := a1) (d := d) hd (by omega)
    have b2 := sp_sum_b hm (x := a0) (y := a1) (d := sp_sl (sc_m μ) a0 a1) sb.1 sb.2
    have le1 := sl_le (m := sc_m μ) (x := a0) (y := a1) hd (show d ≤ sc_m μ 2 by omega)
    have lb := lg_b (f := fun d => sp_sum (sc_m μ) a0 a1 d) (s := sp_sl (sc_m μ) a0 a1) (a := sp_sum (sc_m μ) a0 a1 (sp_sl (sc_m μ) a0 a1)) (b := 736) (by decide) d.toNat (fun e h1 h2 => ⟨sl_le h1 (by omega), (sp_sum_b hm h1 (by omega)).2⟩)
    have bb : -1 ≤ b ∧ b ≤ 736 := by rw [hI]; split <;> omega
    apply mh15_71_26
    rw [s2, mi_wr_id (z := sc_m μ 2) (by omega) (by omega), mi_wr_id (z := d) (by omega) (by omega), if_neg (by omega), hs a0 a1 d hx hx' hy hy' hd hd', hs a0 a1 _ hx hx' hy hy' sb.1 (by omega), mx_abs ⟨by omega, by omega⟩, h22, hm1, mi_wr_id (z := b) (by omega) (by omega), mi_wr_id (z := sp_sum (sc_m μ) a0 a1 d - sp_sum (sc_m μ) a0 a1 (sp_sl (sc_m μ) a0 a1)) (by omega) (by omega), mi_wr_id (z := if d - sp_sl (sc_m μ) a0 a1 < 0 then -(d - sp_sl (sc_m μ) a0 a1) else d - sp_sl (sc_m μ) a0 a1) (by split <;> omega) (by split <;> omega)]
    refine ⟨by omega, by omega, k _ ?_⟩
    rw [lg_s hd]
    generalize lg_v (fun d => sp_sum (sc_m μ) a0 a1 d) (sp_sl (sc_m μ) a0 a1) d.toNat = L at hI lb ⊢
    generalize sp_sum (sc_m μ) a0 a1 d = A at *
    generalize sp_sum (sc_m μ) a0 a1 (sp_sl (sc_m μ) a0 a1) = B at *
    generalize sp_sl (sc_m μ) a0 a1 = s at *
    subst hI
    by_cases c1 : -1 ≤ d - s ∧ d - s ≤ 1
    · rw [if_pos (by split <;> omega), if_neg (show ¬ (¬ (-1 ≤ d - s ∧ d - s ≤ 1) ∧ A < L) from fun h => h.1 c1)]
    · rw [if_neg (by split <;> omega)]
      rcases lb with rfl | lb
      · rw [if_pos rfl, if_pos rfl, if_pos (show ¬ (-1 ≤ d - s ∧ d - s ≤ 1) ∧ A < 100000000 from ⟨c1, by omega⟩), if_neg (by omega)]
      · rw [if_neg (show ¬ L = 100000000 by omega), if_neg (by omega)]
        by_cases c2 : A < L
        · rw [if_pos (by omega), if_pos (show ¬ (-1 ≤ d - s ∧ d - s ≤ 1) ∧ A < L from ⟨c1, c2⟩), if_neg (by omega)]
        · rw [if_neg (by omega), if_neg (show ¬ (¬ (-1 ≤ d - s ∧ d - s ≤ 1) ∧ A < L) from fun h => c2 h.2), if_neg (by omega)]
theorem mc20_71 {a0 a1 : Int} (hp : mp20_71 a0 a1 μ) (hq : Q (.inl (some (.inl (mv20_71 a0 a1 μ)))) mi_G0 μ) : mi_cok X 20 [(.inr (.inl (some 71))), (.inl a0), (.inl a1)] mi_G0 μ u Q := by
  obtain ⟨hm, ⟨hv, hv'⟩, h1, hk⟩ := hp
  obtain ⟨⟨w1, w2⟩, ⟨g1, g2⟩, -⟩ := id hm
  apply me20_71
  refine qp_2 (A := fun y acc => mk20_71_5 X Q u a0 a1 acc y μ) (B := fun y x acc => mk20_71_20 X Q u a0 a1 acc y x μ) (I := fun y x acc => acc = sm2a (fun x y => if sp_kn (sc_m μ) a0 x y = a1 then 1 else 0) (sc_m μ 0) y x) (w := sc_m μ 0) (h := sc_m μ 1) (by omega) (by omega) ?_ ?_ ?_ ?_ sm2_0.symm
  · rintro acc rfl
    apply mh20_71_5
    rw [← sc_m1 μ, if_neg (by omega), sm2_e]
    exact hq
  · rintro y acc hy hy' hi k
    apply mh20_71_5
    rw [← sc_m1 μ, mi_wr_id (by omega) (by omega), mi_wr_id (by omega) (by omega), if_pos (by omega)]
    exact k acc hi
  · rintro y x acc hy hy' hx hx' rfl k
    have kb := sp_kn_b (m := sc_m μ) (v := a0) (x := x) (y := y)
    apply mh20_71_20
    rw [mx_spot hy (by omega), ← sc_m0 μ, mi_wr_id (z := x) (by omega) (by omega), mi_wr_id (z := sc_m μ 0) (by omega) (by omega), if_pos (by omega), hk a0 x y hv hv' hx hx' hy hy', mi_wr_id (z := sp_kn (sc_m μ) a0 x y) (by omega) (by omega), mx_wr h1]
    refine ⟨by omega, k _ ?_⟩
    rw [sm2_x hx]
    split <;> omega
  · rintro y acc hy hy' rfl k
    apply mh20_71_20
    rw [← sc_m0 μ, if_neg (by omega)]
    exact k _ (sm2_y hy).symm
theorem mx_fine {a0 a1 : Int} (hm : sc_ok (sc_m μ)) (hi : sc_in (sc_m μ) a0 a1) (hs : ct_is μ 69 (sc_m μ) (sc_m μ 2 + 1) (sp_sum (sc_m μ))) (hh : mp_is μ 72 (sc_m μ) (sp_sh (sc_m μ))) : mp16_71 a0 a1 μ ∧ mv16_71 a0 a1 μ = sp_fine (sc_m μ) a0 a1 := by
  obtain ⟨⟨w1, w2⟩, ⟨g1, g2⟩, ⟨f1, f2⟩, -⟩ := id hm
  obtain ⟨hx, hx', hy, hy'⟩ := id hi
  have s2 : μ 2 0 = sc_m μ 2 := (sc_m_c μ).2.2.1 0 (by decide) (by decide)
  have sb := sp_sl_b hm a0 a1
  have e0 : μ 72 (192 * 0 + 16 * a1 + a0) = sp_sl (sc_m μ) a0 a1 := hh 0 a0 a1 (by decide) (by decide) hx hx' hy hy'
  have h11 : mi_wr 1 = 1 := by decide
  unfold mp16_71 mv16_71 sp_fine
  rw [mx_spot hy (by omega), mx_cell hx (by omega) hy (by omega), e0, s2, h11, mi_wr_id (z := sp_sl (sc_m μ) a0 a1) (by omega) (by omega), mi_wr_id (z := sc_m μ 2) (by omega) (by omega)]
  by_cases c1 : sp_sl (sc_m μ) a0 a1 < 1
  · rw [if_pos c1, if_pos c1, if_pos (Or.inl c1)]
    exact ⟨⟨by omega, trivial⟩, rfl⟩
  · by_cases c2 : sp_sl (sc_m μ) a0 a1 < sc_m μ 2
    · have b1 := sp_sum_b hm (x := a0) (y := a1) (d := sp_sl (sc_m μ) a0 a1 - 1) (by omega) (by omega)
      have b2 := sp_sum_b hm (x := a0) (y := a1) (d := sp_sl (sc_m μ) a0 a1) (by omega) (by omega)
      have b3 := sp_sum_b hm (x := a0) (y := a1) (d := sp_sl (sc_m μ) a0 a1 + 1) (by omega) (by omega)
      have r1 := hs a0 a1 (sp_sl (sc_m μ) a0 a1 - 1) hx hx' hy hy' (by omega) (by omega)
      have r2 := hs a0 a1 (sp_sl (sc_m μ) a0 a1) hx hx' hy hy' (by omega) (by omega)
      have r3 := hs a0 a1 (sp_sl (sc_m μ) a0 a1 + 1) hx hx' hy hy' (by omega) (by omega)
      rw [if_neg c1, if_pos c2, if_neg c1, if_pos c2, if_neg (show ¬ (sp_sl (sc_m μ) a0 a1 < 1 ∨ ¬ sp_sl (sc_m μ) a0 a1 < sc_m μ 2) by omega), show 8 * (16 * a1 + a0) + sp_sl (sc_m μ) a0 a1 - 1 = 8 * (16 * a1 + a0) + (sp_sl (sc_m μ) a0 a1 - 1) by omega, show 8 * (16 * a1 + a0) + sp_sl (sc_m μ) a0 a1 + 1 = 8 * (16 * a1 + a0) + (sp_sl (sc_m μ) a0 a1 + 1) by omega, r1, r2, r3, mi_wr_id (by omega) (by omega), mx_fd]
      by_cases c3 : 0 < sp_sum (sc_m μ) a0 a1 (sp_sl (sc_m μ) a0 a1 - 1) + sp_sum (sc_m μ) a0 a1 (sp_sl (sc_m μ) a0 a1 + 1) - 2 * sp_sum (sc_m μ) a0 a1 (sp_sl (sc_m μ) a0 a1)
      · rw [if_pos c3, if_pos c3, if_pos c3]
        refine ⟨⟨by omega, by omega, by omega, by omega, ?_⟩, rfl⟩
        unfold mp259; rw [mi_wr_id (by omega) (by omega)]; omega
      · rw [if_neg c3, if_neg c3, if_neg c3, Int.add_zero]
        exact ⟨⟨by omega, by omega, by omega, by omega, trivial⟩, rfl⟩
    · rw [if_neg c1, if_neg c2, if_neg c1, if_neg c2, if_pos (Or.inr c2)]
      exact ⟨⟨by omega, trivial⟩, rfl⟩
theorem mx_step {d e : Int} (hd : 0 ≤ d ∧ d ≤ 7) (he : 0 ≤ e ∧ e ≤ 7) : mv91_1 d e μ = sp_st (sc_m μ) d e := by
  have s4 : μ 2 2 = sc_m μ 4 := (sc_m_c μ).2.2.1 2 (by decide) (by decide)
  have s5 : μ 2 3 = sc_m μ 5 := (sc_m_c μ).2.2.1 3 (by decide) (by decide)
  have h11 : mi_wr 1 = 1 := by decide
  unfold mv91_1 sp_st
  rw [mi_wr_id (z := d) (by omega) (by omega), mi_wr_id (z := e) (by omega) (by omega), mx_abs ⟨by omega, by omega⟩, mi_wr_id (by split <;> omega) (by split <;> omega), h11, s4, s5]
  by_cases c : d = e
  · rw [if_pos c, if_pos c]
  · rw [if_neg c, if_neg c]
    by_cases c2 : d - e = 1 ∨ e - d = 1
    · rw [if_pos (by split <;> omega), if_pos c2]
    · rw [if_neg (by split <;> omega), if_neg c2]
theorem mx_stepR {d e : Int} (hd : 0 ≤ d ∧ d ≤ 7) (he : 0 ≤ e ∧ e ≤ 7) : mv239_86 d e μ = sp_st (μ 87) d e := by
  unfold mv239_86 sp_st
  simp (disch := omega) only [mi_wr_id]
  by_cases c : d = e
  · subst c
    simp
  · by_cases c2 : d - e = 1 ∨ e - d = 1
    · rw [if_neg c, if_pos c2]
      split <;> (try split) <;> (try split) <;> first | rfl | (exfalso; omega)
    · rw [if_neg c, if_neg c2]
      split <;> (try split) <;> (try split) <;> first | rfl | (exfalso; omega)
def mp29_71_74 (μ : mi_M) : Prop := sc_ok (sc_m μ) ∧ ct_is μ 68 (sc_m μ) 8 (sp_cost (sc_m μ)) ∧ in1 μ 74 (sc_m μ) 0 (sp_fill (sc_m μ) 0)
noncomputable def mv29_71_74 (μ : mi_M) : Int := sp_en (sc_m μ) (sp_fill (sc_m μ) 0)
theorem mc29_71_74 (hp : mp29_71_74 μ) (hq : Q (.inl (some (.inl (mv29_71_74 μ)))) mi_G0 μ) : mi_cok X 29 [(.inr (.inl (some 71))), (.inr (.inl (some 74)))] mi_G0 μ u Q := by
  obtain ⟨hm, hc, hf⟩ := hp
  obtain ⟨⟨w1, w2⟩, ⟨g1, g2⟩, ⟨f1, f2⟩, -⟩ := id hm
  have hb : ∀ x y, sc_in (sc_m μ) x y → 0 ≤ sp_fill (sc_m μ) 0 x y ∧ sp_fill (sc_m μ) 0 x y ≤ 7 := fun x y hi => by
    obtain ⟨a1, a2, a3, a4⟩ := hi
    have := sp_fill_b hm (v := 0) (x := x) (y := y) (by omega)
    omega
  apply me29_71_74
  refine qp_2 (A := fun y acc => mk29_71_74_4 X Q u acc y μ) (B := fun y x acc => mk29_71_74_18 X Q u acc y x μ) (I := fun y x acc => acc = sm2a (sp_e1 (sc_m μ) (sp_fill (sc_m μ) 0)) (sc_m μ 0) y x) (w := sc_m μ 0) (h := sc_m μ 1) (by omega) (by omega) ?_ ?_ ?_ ?_ sm2_0.symm
  · rintro acc rfl
    apply mh29_71_74_4
    rw [← sc_m1 μ, if_neg (by omega), sm2_e]
    exact hq
  · rintro y acc hy hy' hi k
    apply mh29_71_74_4
    rw [← sc_m1 μ, mi_wr_id (by omega) (by omega), mi_wr_id (by omega) (by omega), if_pos (by omega)]
    exact k acc hi
  · rintro y x acc hy hy' hx hx' rfl k
    have hi : sc_in (sc_m μ) x y := ⟨hx, hx', hy, hy'⟩
    have b0 := hb x y hi
    have h0 := hf x y hi
    apply mh29_71_74_18
    simp only [mx_spot hy (show y < 16777216 by omega), mx_spot (show 0 ≤ y + 1 by omega) (show y + 1 < 16777216 by omega), mx_cell hx (show x < 16 by omega) hy (show y < 16 by omega)]
    rw [← sc_m0 μ, ← sc_m1 μ, mi_wr_id (z := x) (by omega) (by omega), mi_wr_id (z := sc_m μ 0) (by omega) (by omega), if_pos (by omega), h0, mi_wr_id (z := x + 1) (by omega) (by omega), mi_wr_id (z := y + 1) (by omega) (by omega), mi_wr_id (z := sc_m μ 1) (by omega) (by omega), hc x y _ hx hx' hy hy' b0.1 (by omega)]
    refine ⟨by omega, by omega, ?_⟩
    have eI : ∀ z, z = sm2a (sp_e1 (sc_m μ) (sp_fill (sc_m μ) 0)) (sc_m μ 0) y x + sp_e1 (sc_m μ) (sp_fill (sc_m μ) 0) x y → mk29_71_74_18 X Q u z y (x + 1) μ := fun z hz => k z (by rw [sm2_x hx]; exact hz)
    have e1 : sp_e1 (sc_m μ) (sp_fill (sc_m μ) 0) x y = sp_cost (sc_m μ) x y (sp_fill (sc_m μ) 0 x y) + ((if x + 1 < sc_m μ 0 then sp_st (sc_m μ) (sp_fill (sc_m μ) 0 x y) (sp_fill (sc_m μ) 0 (x + 1) y) else 0) + (if y + 1 < sc_m μ 1 then sp_st (sc_m μ) (sp_fill (sc_m μ) 0 x y) (sp_fill (sc_m μ) 0 x (y + 1)) else 0)) := rfl
    by_cases c1 : x + 1 < sc_m μ 0
    · have i1 : sc_in (sc_m μ) (x + 1) y := ⟨by omega, c1, hy, hy'⟩
      rw [if_pos c1, hf (x + 1) y i1, mx_step b0 (hb _ _ i1)]
      rw [if_pos c1] at e1
      refine ⟨by omega, ?_⟩
      by_cases c2 : y + 1 < sc_m μ 1
      · have i2 : sc_in (sc_m μ) x (y + 1) := ⟨hx, hx', by omega, c2⟩
        rw [if_pos c2] at e1 ⊢
        rw [hf x (y + 1) i2, mx_step b0 (hb _ _ i2)]
        exact ⟨by omega, eI _ (by rw [e1]; omega)⟩
      · rw [if_neg c2] at e1 ⊢
        exact eI _ (by rw [e1]; omega)
    · rw [if_neg c1] at e1 ⊢
      by_cases c2 : y + 1 < sc_m μ 1
      · have i2 : sc_in (sc_m μ) x (y + 1) := ⟨hx, hx', by omega, c2⟩
        rw [if_pos c2] at e1 ⊢
        rw [hf x (y + 1) i2, mx_step b0 (hb _ _ i2)]
        exact ⟨by omega, eI _ (by rw [e1]; omega)⟩
      · rw [if_neg c2] at e1 ⊢
        exact eI _ (by rw [e1]; omega)
  · rintro y acc hy hy' rfl k
    apply mh29_71_74_18
    rw [← sc_m0 μ, if_neg (by omega)]
    exact k _ (sm2_y hy).symm
def mp29_71_72 (μ : mi_M) : Prop := sc_ok (sc_m μ) ∧ ct_is μ 68 (sc_m μ) 8 (sp_cost (sc_m μ)) ∧ in1 μ 72 (sc_m μ) 0 (sp_sh (sc_m μ) 0)
noncomputable def mv29_71_72 (μ : mi_M) : Int := sp_en (sc_m μ) (sp_sh (sc_m μ) 0)
theorem mc29_71_72 (hp : mp29_71_72 μ) (hq : Q (.inl (some (.inl (mv29_71_72 μ)))) mi_G0 μ) : mi_cok X 29 [(.inr (.inl (some 71))), (.inr (.inl (some 72)))] mi_G0 μ u Q := by
  obtain ⟨hm, hc, hf⟩ := hp
  obtain ⟨⟨w1, w2⟩, ⟨g1, g2⟩, ⟨f1, f2⟩, -⟩ := id hm
  have hb : ∀ x y, sc_in (sc_m μ) x y → 0 ≤ sp_sh (sc_m μ) 0 x y ∧ sp_sh (sc_m μ) 0 x y ≤ 7 := fun x y hi => by
    obtain ⟨a1, a2, a3, a4⟩ := hi
    have := sp_sh_b hm 0 (x := x) (by omega) (y)
    omega
  apply me29_71_72
  refine qp_2 (A := fun y acc => mk29_71_72_4 X Q u acc y μ) (B := fun y x acc => mk29_71_72_18 X Q u acc y x μ) (I := fun y x acc => acc = sm2a (sp_e1 (sc_m μ) (sp_sh (sc_m μ) 0)) (sc_m μ 0) y x) (w := sc_m μ 0) (h := sc_m μ 1) (by omega) (by omega) ?_ ?_ ?_ ?_ sm2_0.symm
  · rintro acc rfl
    apply mh29_71_72_4
    rw [← sc_m1 μ, if_neg (by omega), sm2_e]
    exact hq
  · rintro y acc hy hy' hi k
    apply mh29_71_72_4
    rw [← sc_m1 μ, mi_wr_id (by omega) (by omega), mi_wr_id (by omega) (by omega), if_pos (by omega)]
    exact k acc hi
  · rintro y x acc hy hy' hx hx' rfl k
    have hi : sc_in (sc_m μ) x y := ⟨hx, hx', hy, hy'⟩
    have b0 := hb x y hi
    have h0 := hf x y hi
    apply mh29_71_72_18
    simp only [mx_spot hy (show y < 16777216 by omega), mx_spot (show 0 ≤ y + 1 by omega) (show y + 1 < 16777216 by omega), mx_cell hx (show x < 16 by omega) hy (show y < 16 by omega)]
    rw [← sc_m0 μ, ← sc_m1 μ, mi_wr_id (z := x) (by omega) (by omega), mi_wr_id (z := sc_m μ 0) (by omega) (by omega), if_pos (by omega), h0, mi_wr_id (z := x + 1) (by omega) (by omega), mi_wr_id (z := y + 1) (by omega) (by omega), mi_wr_id (z := sc_m μ 1) (by omega) (by omega), hc x y _ hx hx' hy hy' b0.1 (by omega)]
    refine ⟨by omega, by omega, ?_⟩
    have eI : ∀ z, z = sm2a (sp_e1 (sc_m μ) (sp_sh (sc_m μ) 0)) (sc_m μ 0) y x + sp_e1 (sc_m μ) (sp_sh (sc_m μ) 0) x y → mk29_71_72_18 X Q u z y (x + 1) μ := fun z hz => k z (by rw [sm2_x hx]; exact hz)
    have e1 : sp_e1 (sc_m μ) (sp_sh (sc_m μ) 0) x y = sp_cost (sc_m μ) x y (sp_sh (sc_m μ) 0 x y) + ((if x + 1 < sc_m μ 0 then sp_st (sc_m μ) (sp_sh (sc_m μ) 0 x y) (sp_sh (sc_m μ) 0 (x + 1) y) else 0) + (if y + 1 < sc_m μ 1 then sp_st (sc_m μ) (sp_sh (sc_m μ) 0 x y) (sp_sh (sc_m μ) 0 x (y + 1)) else 0)) := rfl
    by_cases c1 : x + 1 < sc_m μ 0
    · have i1 : sc_in (sc_m μ) (x + 1) y := ⟨by omega, c1, hy, hy'⟩
      rw [if_pos c1, hf (x + 1) y i1, mx_step b0 (hb _ _ i1)]
      rw [if_pos c1] at e1
      refine ⟨by omega, ?_⟩
      by_cases c2 : y + 1 < sc_m μ 1
      · have i2 : sc_in (sc_m μ) x (y + 1) := ⟨hx, hx', by omega, c2⟩
        rw [if_pos c2] at e1 ⊢
        rw [hf x (y + 1) i2, mx_step b0 (hb _ _ i2)]
        exact ⟨by omega, eI _ (by rw [e1]; omega)⟩
      · rw [if_neg c2] at e1 ⊢
        exact eI _ (by rw [e1]; omega)
    · rw [if_neg c1] at e1 ⊢
      by_cases c2 : y + 1 < sc_m μ 1
      · have i2 : sc_in (sc_m μ) x (y + 1) := ⟨hx, hx', by omega, c2⟩
        rw [if_pos c2] at e1 ⊢
        rw [hf x (y + 1) i2, mx_step b0 (hb _ _ i2)]
        exact ⟨by omega, eI _ (by rw [e1]; omega)⟩
      · rw [if_neg c2] at e1 ⊢
        exact eI _ (by rw [e1]; omega)
  · rintro y acc hy hy' rfl k
    apply mh29_71_72_18
    rw [← sc_m0 μ, if_neg (by omega)]
    exact k _ (sm2_y hy).symm
def mp242_86_99 (μ : mi_M) : Prop := sc_ok (μ 87) ∧ mp_is μ 92 (μ 87) (sp_code (μ 87)) ∧ in1 μ 99 (μ 87) 0 (sp_fill (μ 87) 0)
noncomputable def mv242_86_99 (μ : mi_M) : Int := sp_en (μ 87) (sp_fill (μ 87) 0)
theorem mc242_86_99 (hp : mp242_86_99 μ) (hq : Q (.inl (some (.inl (mv242_86_99 μ)))) mi_G0 μ) : mi_cok X 242 [(.inr (.inl (some 86))), (.inr (.inl (some 99)))] mi_G0 μ u Q := by
  obtain ⟨hm, hc, hf⟩ := hp
  obtain ⟨⟨w1, w2⟩, ⟨g1, g2⟩, ⟨f1, f2⟩, -⟩ := id hm
  have hb : ∀ x y, sc_in (μ 87) x y → 0 ≤ sp_fill (μ 87) 0 x y ∧ sp_fill (μ 87) 0 x y ≤ 7 := fun x y hi => by
    obtain ⟨a1, a2, a3, a4⟩ := hi
    have := sp_fill_b hm (v := 0) (x := x) (y := y) (by omega)
    omega
  apply me242_86_99
  refine qp_2 (A := fun y acc => mk242_86_99_4 X Q u acc y μ) (B := fun y x acc => mk242_86_99_17 X Q u acc y x μ) (I := fun y x acc => acc = sm2a (sp_e1 (μ 87) (sp_fill (μ 87) 0)) (μ 87 0) y x) (w := μ 87 0) (h := μ 87 1) (by omega) (by omega) ?_ ?_ ?_ ?_ sm2_0.symm
  · rintro acc rfl
    apply mh242_86_99_4
    rw [if_neg (by omega), sm2_e]
    exact hq
  · rintro y acc hy hy' hi k
    apply mh242_86_99_4
    rw [mi_wr_id (by omega) (by omega), mi_wr_id (by omega) (by omega), if_pos (by omega)]
    exact k acc hi
  · rintro y x acc hy hy' hx hx' rfl k
    have hi : sc_in (μ 87) x y := ⟨hx, hx', hy, hy'⟩
    have b0 := hb x y hi
    have h0 := hf x y hi
    apply mh242_86_99_17
    simp only [mx_spotR]
    obtain ⟨p1, p2⟩ := mx_costR (μ := μ) (x := x) (y := y) (d := sp_fill (μ 87) 0 x y) hm hc hx hx' hy hy' b0.1 (by omega)
    rw [mi_wr_id (z := x) (by omega) (by omega), mi_wr_id (z := μ 87 0) (by omega) (by omega), if_pos (by omega), h0, mi_wr_id (z := x + 1) (by omega) (by omega), mi_wr_id (z := y + 1) (by omega) (by omega), mi_wr_id (z := μ 87 1) (by omega) (by omega), p2]
    refine ⟨by omega, p1, ?_⟩
    have eI : ∀ z, z = sm2a (sp_e1 (μ 87) (sp_fill (μ 87) 0)) (μ 87 0) y x + sp_e1 (μ 87) (sp_fill (μ 87) 0) x y → mk242_86_99_17 X Q u z y (x + 1) μ := fun z hz => k z (by rw [sm2_x hx]; exact hz)
    have e1 : sp_e1 (μ 87) (sp_fill (μ 87) 0) x y = sp_cost (μ 87) x y (sp_fill (μ 87) 0 x y) + ((if x + 1 < μ 87 0 then sp_st (μ 87) (sp_fill (μ 87) 0 x y) (sp_fill (μ 87) 0 (x + 1) y) else 0) + (if y + 1 < μ 87 1 then sp_st (μ 87) (sp_fill (μ 87) 0 x y) (sp_fill (μ 87) 0 x (y + 1)) else 0)) := rfl
    by_cases c1 : x + 1 < μ 87 0
    · have i1 : sc_in (μ 87) (x + 1) y := ⟨by omega, c1, hy, hy'⟩
      rw [if_pos c1, hf (x + 1) y i1, mx_stepR b0 (hb _ _ i1)]
      rw [if_pos c1] at e1
      refine ⟨by omega, ?_⟩
      by_cases c2 : y + 1 < μ 87 1
      · have i2 : sc_in (μ 87) x (y + 1) := ⟨hx, hx', by omega, c2⟩
        rw [if_pos c2] at e1 ⊢
        rw [hf x (y + 1) i2, mx_stepR b0 (hb _ _ i2)]
        exact ⟨by omega, eI _ (by rw [e1]; omega)⟩
      · rw [if_neg c2] at e1 ⊢
        exact eI _ (by rw [e1]; omega)
    · rw [if_neg c1] at e1 ⊢
      by_cases c2 : y + 1 < μ 87 1
      · have i2 : sc_in (μ 87) x (y + 1) := ⟨hx, hx', by omega, c2⟩
        rw [if_pos c2] at e1 ⊢
        rw [hf x (y + 1) i2, mx_stepR b0 (hb _ _ i2)]
        exact ⟨by omega, eI _ (by rw [e1]; omega)⟩
      · rw [if_neg c2] at e1 ⊢
        exact eI _ (by rw [e1]; omega)
  · rintro y acc hy hy' rfl k
    apply mh242_86_99_17
    rw [if_neg (by omega)]
    exact k _ (sm2_y hy).symm
def mp242_86_95 (μ : mi_M) : Prop := sc_ok (μ 87) ∧ mp_is μ 92 (μ 87) (sp_code (μ 87)) ∧ in1 μ 95 (μ 87) 0 (sp_sh (μ 87) 0)
noncomputable def mv242_86_95 (μ : mi_M) : Int := sp_en (μ 87) (sp_sh (μ 87) 0)
theorem mc242_86_95 (hp : mp242_86_95 μ) (hq : Q (.inl (some (.inl (mv242_86_95 μ)))) mi_G0 μ) : mi_cok X 242 [(.inr (.inl (some 86))), (.inr (.inl (some 95)))] mi_G0 μ u Q := by
  obtain ⟨hm, hc, hf⟩ := hp
  obtain ⟨⟨w1, w2⟩, ⟨g1, g2⟩, ⟨f1, f2⟩, -⟩ := id hm
  have hb : ∀ x y, sc_in (μ 87) x y → 0 ≤ sp_sh (μ 87) 0 x y ∧ sp_sh (μ 87) 0 x y ≤ 7 := fun x y hi => by
    obtain ⟨a1, a2, a3, a4⟩ := hi
    have := sp_sh_b hm 0 (x := x) (by omega) (y)
    omega
  apply me242_86_95
  refine qp_2 (A := fun y acc => mk242_86_95_4 X Q u acc y μ) (B := fun y x acc => mk242_86_95_17 X Q u acc y x μ) (I := fun y x acc => acc = sm2a (sp_e1 (μ 87) (sp_sh (μ 87) 0)) (μ 87 0) y x) (w := μ 87 0) (h := μ 87 1) (by omega) (by omega) ?_ ?_ ?_ ?_ sm2_0.symm
  · rintro acc rfl
    apply mh242_86_95_4
    rw [if_neg (by omega), sm2_e]
    exact hq
  · rintro y acc hy hy' hi k
    apply mh242_86_95_4
    rw [mi_wr_id (by omega) (by omega), mi_wr_id (by omega) (by omega), if_pos (by omega)]
    exact k acc hi
  · rintro y x acc hy hy' hx hx' rfl k
    have hi : sc_in (μ 87) x y := ⟨hx, hx', hy, hy'⟩
    have b0 := hb x y hi
    have h0 := hf x y hi
    apply mh242_86_95_17
    simp only [mx_spotR]
    obtain ⟨p1, p2⟩ := mx_costR (μ := μ) (x := x) (y := y) (d := sp_sh (μ 87) 0 x y) hm hc hx hx' hy hy' b0.1 (by omega)
    rw [mi_wr_id (z := x) (by omega) (by omega), mi_wr_id (z := μ 87 0) (by omega) (by omega), if_pos (by omega), h0, mi_wr_id (z := x + 1) (by omega) (by omega), mi_wr_id (z := y + 1) (by omega) (by omega), mi_wr_id (z := μ 87 1) (by omega) (by omega), p2]
    refine ⟨by omega, p1, ?_⟩
    have eI : ∀ z, z = sm2a (sp_e1 (μ 87) (sp_sh (μ 87) 0)) (μ 87 0) y x + sp_e1 (μ 87) (sp_sh (μ 87) 0) x y → mk242_86_95_17 X Q u z y (x + 1) μ := fun z hz => k z (by rw [sm2_x hx]; exact hz)
    have e1 : sp_e1 (μ 87) (sp_sh (μ 87) 0) x y = sp_cost (μ 87) x y (sp_sh (μ 87) 0 x y) + ((if x + 1 < μ 87 0 then sp_st (μ 87) (sp_sh (μ 87) 0 x y) (sp_sh (μ 87) 0 (x + 1) y) else 0) + (if y + 1 < μ 87 1 then sp_st (μ 87) (sp_sh (μ 87) 0 x y) (sp_sh (μ 87) 0 x (y + 1)) else 0)) := rfl
    by_cases c1 : x + 1 < μ 87 0
    · have i1 : sc_in (μ 87) (x + 1) y := ⟨by omega, c1, hy, hy'⟩
      rw [if_pos c1, hf (x + 1) y i1, mx_stepR b0 (hb _ _ i1)]
      rw [if_pos c1] at e1
      refine ⟨by omega, ?_⟩
      by_cases c2 : y + 1 < μ 87 1
      · have i2 : sc_in (μ 87) x (y + 1) := ⟨hx, hx', by omega, c2⟩
        rw [if_pos c2] at e1 ⊢
        rw [hf x (y + 1) i2, mx_stepR b0 (hb _ _ i2)]
        exact ⟨by omega, eI _ (by rw [e1]; omega)⟩
      · rw [if_neg c2] at e1 ⊢
        exact eI _ (by rw [e1]; omega)
    · rw [if_neg c1] at e1 ⊢
      by_cases c2 : y + 1 < μ 87 1
      · have i2 : sc_in (μ 87) x (y + 1) := ⟨hx, hx', by omega, c2⟩
        rw [if_pos c2] at e1 ⊢
        rw [hf x (y + 1) i2, mx_stepR b0 (hb _ _ i2)]
        exact ⟨by omega, eI _ (by rw [e1]; omega)⟩
      · rw [if_neg c2] at e1 ⊢
        exact eI _ (by rw [e1]; omega)
  · rintro y acc hy hy' rfl k
    apply mh242_86_95_17
    rw [if_neg (by omega)]
    exact k _ (sm2_y hy).symm
end
