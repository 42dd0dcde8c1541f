/-! votes for lines of the ground -/
noncomputable def sp_v1 (m : Int → Int) (y s : Int) : Nat → Int := sm (fun x => if sp_kn m 0 x y = 0 ∧ sp_sh m 0 x y = s then 1 else 0)
noncomputable def sp_vt (m : Int → Int) (p q : Int) : Int := sm (fun y => sp_v1 m y ((p + q * y + 4) / 8) (m 0).toNat) (m 1).toNat
theorem v1_b {m : Int → Int} (y s : Int) (n : Nat) : 0 ≤ sp_v1 m y s n ∧ sp_v1 m y s n ≤ n := by
  have := sm_b (f := fun x => if sp_kn m 0 x y = 0 ∧ sp_sh m 0 x y = s then (1 : Int) else 0) (a := 1) (by decide) n (fun i _ _ => by split <;> omega)
  unfold sp_v1; omega
theorem vt_b {m : Int → Int} (hm : sc_ok m) (p q : Int) : 0 ≤ sp_vt m p q ∧ sp_vt m p q ≤ 192 := by
  obtain ⟨⟨w1, w2⟩, ⟨g1, g2⟩, -⟩ := id hm
  have := sm_b (f := fun y => sp_v1 m y ((p + q * y + 4) / 8) (m 0).toNat) (a := 16) (by decide) (m 1).toNat (fun y _ _ => by have := v1_b (m := m) y ((p + q * y + 4) / 8) (m 0).toNat; constructor <;> omega)
  unfold sp_vt; omega
/-- how often each row has each shift -/
def li_is (μ : mi_M) (m : Int → Int) : Prop := ∀ y s, 0 ≤ y → y < m 1 → 0 ≤ s → s < 8 → μ 85 (8 * y + s) = sp_v1 m y s (m 0).toNat
def mp8_84 (μ : mi_M) : Prop := sc_ok (sc_m μ) ∧ mp_is μ 72 (sc_m μ) (sp_sh (sc_m μ)) ∧ mp_is μ 73 (sc_m μ) (sp_kn (sc_m μ))
def mq8_84 (μ : mi_M) (r : Int) (ν : mi_M) : Prop := fr_1 85 μ ν ∧ r = sp_hm (sc_m μ) 0 0 ∧ li_is ν (sc_m μ)
def mp9_84 (a0 a1 : Int) (μ : mi_M) : Prop := sc_ok (sc_m μ) ∧ (0 ≤ a0 ∧ a0 ≤ 56) ∧ (0 ≤ a1 ∧ a1 ≤ 8) ∧ li_is μ (sc_m μ)
noncomputable def mv9_84 (a0 a1 : Int) (μ : mi_M) : Int := sp_vt (sc_m μ) a0 a1
def mp232_86 (a0 a1 : Int) (μ : mi_M) : Prop := sc_ok (μ 87) ∧ (0 ≤ a0 ∧ a0 ≤ 56) ∧ (0 ≤ a1 ∧ a1 ≤ 8) ∧ rc4 μ (μ 87)
noncomputable def mv232_86 (a0 a1 : Int) (μ : mi_M) : Int := sp_vt (μ 87) a0 a1
theorem mul_c {q y : Int} (hq : 0 ≤ q) (hq' : q ≤ 8) (hy : 0 ≤ y) (hy' : y < 12) : 0 ≤ q * y ∧ q * y ≤ 96 := by
  have h1 := Int.mul_nonneg hq hy
  have h2 := Int.mul_le_mul_of_nonneg_right hq' hy
  omega
section
variable {X : mi_X} {Q : mi_R → mi_G → mi_M → Prop} {u : mi_U} {μ : mi_M}
theorem mc8_84 (hp : mp8_84 μ) (hq : ∀ r ν, mq8_84 μ r ν → Q (.inl (some (.inl r))) mi_G0 ν) : mi_cok X 8 [(.inr (.inl (some 84)))] mi_G0 μ u Q := by
  obtain ⟨hm, hs, hk⟩ := hp
  obtain ⟨⟨w1, w2⟩, ⟨g1, g2⟩, ⟨f1, f2⟩, -⟩ := id hm
  have h96 : mi_wr 96 = 96 := by decide
  apply me8_84
  refine qp_u (A := fun i ν => mk8_84_2 X Q u i ν) (fun i ν => fr_1 85 μ ν ∧ ∀ j, 0 ≤ j → j < i → ν 85 j = 0) (a := 0) (n := 96) (by omega) ?_ ?_ ⟨fr_r _ _, fun j h1 h2 => by omega⟩
  · rintro ν0 ⟨hf0, hz⟩
    apply mh8_84_2
    rw [h96, if_neg (by decide)]
    refine qp_2 (σ := Int × mi_M) (A := fun y s => mk8_84_25 X Q u s.1 y s.2) (B := fun y x s => mk8_84_38 X Q u s.1 y x s.2) (I := fun py px s => fr_1 85 μ s.2 ∧ s.1 = sm2a (fun x y => if sp_kn (sc_m μ) 0 x y = 0 then 1 else 0) (sc_m μ 0) py px ∧ ∀ y t, 0 ≤ y → y < sc_m μ 1 → 0 ≤ t → t < 8 → s.2 85 (8 * y + t) = if y < py then sp_v1 (sc_m μ) y t (sc_m μ 0).toNat else if y = py then sp_v1 (sc_m μ) y t px.toNat else 0) (w := sc_m μ 0) (h := sc_m μ 1) (by omega) (by omega) ?_ ?_ ?_ ?_ (s := (0, ν0)) ⟨hf0, sm2_0.symm, fun y t h1 h2 h3 h4 => ?_⟩
    · rintro ⟨acc, ν⟩ ⟨hf, rfl, ht⟩
      dsimp only at hf ht
      show mk8_84_25 X Q u (sm2a (fun x y => if sp_kn (sc_m μ) 0 x y = 0 then 1 else 0) (sc_m μ 0) (sc_m μ 1) 0) (sc_m μ 1) ν
      apply mh8_84_25
      rw [hf 1 (by decide), ← sc_m1 μ, if_neg (by omega), sm2_e]
      refine hq _ ν ⟨hf, rfl, fun y t h1 h2 h3 h4 => ?_⟩
      rw [ht y t h1 h2 h3 h4, if_pos h2]
    · rintro y ⟨acc, ν⟩ hy hy' ⟨hf, ht⟩ k
      dsimp only at hf
      show mk8_84_25 X Q u acc y ν
      apply mh8_84_25
      rw [hf 1 (by decide), ← sc_m1 μ, mi_wr_id (by omega) (by omega), mi_wr_id (by omega) (by omega), if_pos (by omega)]
      exact k (acc, ν) ⟨hf, ht⟩
    · rintro y x ⟨acc, ν⟩ hy hy' hx hx' ⟨hf, rfl, ht⟩ k
      dsimp only at hf ht
      show mk8_84_38 X Q u (sm2a (fun x y => if sp_kn (sc_m μ) 0 x y = 0 then 1 else 0) (sc_m μ 0) y x) y x ν
      have kb := sp_kn_b (m := sc_m μ) (v := 0) (x := x) (y := y)
      have sb := sp_sh_b hm 0 hx' y
      have e0 : ν 1 0 = sc_m μ 0 := by rw [hf 1 (by decide)]; rfl
      apply mh8_84_38
      rw [mx_spot hy (by omega), mx_shl3 hy (by omega), e0, mi_wr_id (z := x) (by omega) (by omega), mi_wr_id (z := sc_m μ 0) (by omega) (by omega), if_pos (by omega), hf 73 (by decide), hf 72 (by decide), hk 0 x y (by decide) (by decide) hx hx' hy hy', hs 0 x y (by decide) (by decide) hx hx' hy hy', mi_wr_id (z := sp_kn (sc_m μ) 0 x y) (by omega) (by omega)]
      refine ⟨by omega, ?_⟩
      have v1s : ∀ t, sp_v1 (sc_m μ) y t (x + 1).toNat = sp_v1 (sc_m μ) y t x.toNat + (if sp_kn (sc_m μ) 0 x y = 0 ∧ sp_sh (sc_m μ) 0 x y = t then 1 else 0) := fun t => by unfold sp_v1; rw [sm_s hx]
      by_cases c : sp_kn (sc_m μ) 0 x y = 0
      · rw [if_pos c]
        refine ⟨by omega, by omega, by omega, k (sm2a (fun x y => if sp_kn (sc_m μ) 0 x y = 0 then 1 else 0) (sc_m μ 0) y x + 1, mi_set ν 85 (y * 8 + sp_sh (sc_m μ) 0 x y) (ν 85 (y * 8 + sp_sh (sc_m μ) 0 x y) + 1)) ⟨fr_s hf _ _, ?_, fun y' t h1 h2 h3 h4 => ?_⟩⟩
        · show sm2a _ _ y x + 1 = _
          rw [sm2_x hx, if_pos c]
        · show mi_set ν 85 (y * 8 + sp_sh (sc_m μ) 0 x y) (ν 85 (y * 8 + sp_sh (sc_m μ) 0 x y) + 1) 85 (8 * y' + t) = _
          rw [ms_same]
          by_cases ee : y' = y ∧ t = sp_sh (sc_m μ) 0 x y
          · obtain ⟨rfl, rfl⟩ := ee
            have := ht y' (sp_sh (sc_m μ) 0 x y') h1 h2 h3 h4
            rw [if_neg (by omega), if_pos rfl] at this
            rw [if_pos (by omega), if_neg (by omega), if_pos rfl, v1s, if_pos ⟨c, rfl⟩, show y' * 8 + sp_sh (sc_m μ) 0 x y' = 8 * y' + sp_sh (sc_m μ) 0 x y' by omega, this]
          · rw [if_neg (by omega), ht y' t h1 h2 h3 h4]
            by_cases c1 : y' < y
            · rw [if_pos c1, if_pos c1]
            · rw [if_neg c1, if_neg c1]
              by_cases c2 : y' = y
              · subst c2
                rw [if_pos rfl, if_pos rfl, v1s, if_neg (fun h => ee ⟨rfl, h.2.symm⟩), Int.add_zero]
              · rw [if_neg c2, if_neg c2]
      · rw [if_neg c]
        refine k (sm2a (fun x y => if sp_kn (sc_m μ) 0 x y = 0 then 1 else 0) (sc_m μ 0) y x, ν) ⟨hf, ?_, fun y' t h1 h2 h3 h4 => ?_⟩
        · show sm2a _ _ y x = _
          rw [sm2_x hx, if_neg c, Int.add_zero]
        · show ν 85 (8 * y' + t) = _
          rw [ht y' t h1 h2 h3 h4]
          by_cases c1 : y' < y
          · rw [if_pos c1, if_pos c1]
          · rw [if_neg c1, if_neg c1]
            by_cases c2 : y' = y
            · subst c2
              rw [if_pos rfl, if_pos rfl, v1s, if_neg (fun h => c h.1), Int.add_zero]
            · rw [if_neg c2, if_neg c2]
    · rintro y ⟨acc, ν⟩ hy hy' ⟨hf, rfl, ht⟩ k
      dsimp only at hf ht
      show mk8_84_38 X Q u (sm2a (fun x y => if sp_kn (sc_m μ) 0 x y = 0 then 1 else 0) (sc_m μ 0) y (sc_m μ 0)) y (sc_m μ 0) ν
      apply mh8_84_38
      rw [hf 1 (by decide), ← sc_m0 μ, if_neg (by omega)]
      refine k (_, ν) ⟨hf, (sm2_y hy).symm, fun y' t h1 h2 h3 h4 => ?_⟩
      show ν 85 (8 * y' + t) = _
      rw [ht y' t h1 h2 h3 h4]
      by_cases c1 : y' < y
      · rw [if_pos c1, if_pos (by omega)]
      · rw [if_neg c1]
        by_cases c2 : y' = y
        · subst c2
          rw [if_pos rfl, if_pos (by omega)]
        · rw [if_neg c2, if_neg (by omega)]
          by_cases c3 : y' = y + 1
          · rw [if_pos c3]; rfl
          · rw [if_neg c3]
    · show ν0 85 (8 * y + t) = _
      rw [hz _ (by omega) (by omega), if_neg (by omega)]
      by_cases c3 : y = 0
      · rw [if_pos c3]; rfl
      · rw [if_neg c3]
  · rintro i ν hi hi' ⟨hf, hz⟩ k
    apply mh8_84_2
    rw [h96, mi_wr_id (by omega) (by omega), if_pos hi']
    refine ⟨by omega, k _ ⟨fr_s hf _ _, fun j h1 h2 => ?_⟩⟩
    rw [ms_same]
    by_cases e : j = i
    · rw [if_pos e]
    · rw [if_neg e, hz j h1 (by omega)]
theorem mc9_84 {a0 a1 : Int} (hp : mp9_84 a0 a1 μ) (hq : Q (.inl (some (.inl (mv9_84 a0 a1 μ)))) mi_G0 μ) : mi_cok X 9 [(.inr (.inl (some 84))), (.inl a0), (.inl a1)] mi_G0 μ u Q := by
  obtain ⟨hm, ⟨p1, p2⟩, ⟨q1, q2⟩, hl⟩ := hp
  obtain ⟨⟨w1, w2⟩, ⟨g1, g2⟩, ⟨f1, f2⟩, -⟩ := id hm
  have s2 : μ 2 0 = sc_m μ 2 := (sc_m_c μ).2.2.1 0 (by decide) (by decide)
  apply me9_84
  refine qp_u (A := fun y acc => mk9_84_5 X Q u a0 a1 acc y μ) (fun y acc => acc = sm (fun y => sp_v1 (sc_m μ) y ((a0 + a1 * y + 4) / 8) (sc_m μ 0).toNat) y.toNat) (a := 0) (n := sc_m μ 1) (by omega) ?_ ?_ rfl
  · rintro acc rfl
    apply mh9_84_5
    rw [← sc_m1 μ, if_neg (by omega)]
    exact hq
  · rintro y acc hy hy' rfl k
    have mb := mul_c q1 q2 hy (by omega)
    apply mh9_84_5
    rw [mx_shl3 hy (by omega), mx_shr3 (by omega) (by omega), ← sc_m1 μ, mi_wr_id (z := y) (by omega) (by omega), mi_wr_id (z := sc_m μ 1) (by omega) (by omega), if_pos hy']
    have es : mv88_1 ((a0 + a1 * y + 4) / 8) μ = if sc_m μ 2 < (a0 + a1 * y + 4) / 8 then 0 else 1 := by
      unfold mv88_1
      rw [s2, mi_wr_id (z := (a0 + a1 * y + 4) / 8) (by omega) (by omega), mi_wr_id (z := sc_m μ 2) (by omega) (by omega), if_neg (by omega)]
    rw [es]
    by_cases c : sc_m μ 2 < (a0 + a1 * y + 4) / 8
    · rw [if_pos c, if_pos w_00]
      refine k _ ?_
      rw [sm_s hy]
      have : sp_v1 (sc_m μ) y ((a0 + a1 * y + 4) / 8) (sc_m μ 0).toNat = 0 := by
        unfold sp_v1
        refine sm_z _ (fun x h1 h2 => ?_)
        have := sp_sh_b hm 0 (x := x) (by omega) y
        rw [if_neg (fun h => by omega)]
      rw [this, Int.add_zero]
    · rw [if_neg c, if_neg w_10, show y * 8 + (a0 + a1 * y + 4) / 8 = 8 * y + (a0 + a1 * y + 4) / 8 by omega, hl y _ hy hy' (by omega) (by omega)]
      exact ⟨by omega, k _ (by rw [sm_s hy])⟩
theorem mc232_86 {a0 a1 : Int} (hp : mp232_86 a0 a1 μ) (hq : Q (.inl (some (.inl (mv232_86 a0 a1 μ)))) mi_G0 μ) : mi_cok X 232 [(.inr (.inl (some 86))), (.inl a0), (.inl a1)] mi_G0 μ u Q := by
  obtain ⟨hm, ⟨p1, p2⟩, ⟨q1, q2⟩, hrc⟩ := hp
  obtain ⟨⟨w1, w2⟩, ⟨g1, g2⟩, ⟨f1, f2⟩, -⟩ := id hm
  apply me232_86
  refine qp_2 (A := fun y acc => mk232_86_5 X Q u a0 a1 acc y μ) (B := fun y x acc => mk232_86_19 X Q u a0 a1 acc y x μ) (I := fun y x acc => acc = sm2a (fun x y => if sp_kn (μ 87) 0 x y = 0 ∧ sp_sh (μ 87) 0 x y = (a0 + a1 * y + 4) / 8 then 1 else 0) (μ 87 0) y x) (w := μ 87 0) (h := μ 87 1) (by omega) (by omega) ?_ ?_ ?_ ?_ sm2_0.symm
  · rintro acc rfl
    apply mh232_86_5
    rw [if_neg (by omega), sm2_e]
    exact hq
  · rintro y acc hy hy' hi k
    apply mh232_86_5
    rw [mi_wr_id (by omega) (by omega), mi_wr_id (by omega) (by omega), if_pos (by omega)]
    exact k acc hi
  · rintro y x acc hy hy' hx hx' rfl k
    have hi : sc_in (μ 87) x y := ⟨hx, hx', hy, hy'⟩
    have mb := mul_c q1 q2 hy (by omega)
    have kb := sp_kn_b (m := μ 87) (v := 0) (x := x) (y := y)
    have sb := sp_sh_b hm 0 hx' y
    obtain ⟨n1, n2⟩ := mx_now hm hrc (v := 0) (by decide) (by decide) hi
    apply mh232_86_19
    rw [n2, mx_spotR, mx_div (by omega) (by omega) (by decide) (by decide), mi_wr_id (z := x) (by omega) (by omega), mi_wr_id (z := μ 87 0) (by omega) (by omega), if_pos hx', mi_wr_id (z := sp_kn (μ 87) 0 x y) (by omega) (by omega), hrc.1.2.2 0 x y (by decide) (by decide) hx hx' hy hy', mi_wr_id (z := sp_sh (μ 87) 0 x y) (by omega) (by omega), mi_wr_id (z := (a0 + a1 * y + 4) / 8) (by omega) (by omega)]
    refine ⟨n1, ?_⟩
    by_cases c : sp_kn (μ 87) 0 x y = 0
    · rw [if_pos c]
      refine ⟨by omega, k _ ?_⟩
      rw [sm2_x hx]
      by_cases c2 : sp_sh (μ 87) 0 x y = (a0 + a1 * y + 4) / 8
      · rw [if_pos c2, if_pos ⟨c, c2⟩]
      · rw [if_neg c2, if_neg (fun h => c2 h.2)]
    · rw [if_neg c]
      refine k _ ?_
      rw [sm2_x hx, if_neg (fun h => c h.1)]
  · rintro y acc hy hy' rfl k
    apply mh232_86_19
    rw [if_neg (by omega)]
    exact k _ (sm2_y hy).symm
end
