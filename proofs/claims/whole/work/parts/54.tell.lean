/-! tell (the class) -/
theorem wy_toN {ν ρ : mi_M} {c : Nat} {m : Int → Int} {r y x : Int} (hm : m 0 ≤ 16) (hn : m 2 ≤ 7) (h : wy_to ν c m r y x 0) (hx : 0 ≤ wy_i m r x) (hx' : wy_i m r x < m 0) (h1 : ∀ d, 0 ≤ d → d ≤ m 2 → ρ c (8 * (16 * wy_j m r y + wy_i m r x) + d) = sp_way m r (wy_i m r x) (wy_j m r y) d) (h2 : ∀ j, (j < 8 * (16 * wy_j m r y + wy_i m r x) ∨ 8 * (16 * wy_j m r y + wy_i m r x) + m 2 < j) → ρ c j = ν c j) : wy_to ρ c m r y (x + 1) 0 := by
  intro x' y' d' g1 g2 g3 g4 g5 g6 g7
  by_cases e : y' = wy_j m r y ∧ x' = wy_i m r x
  · obtain ⟨rfl, rfl⟩ := e
    exact h1 d' g5 g6
  · rw [h2 _ (by omega)]
    refine h x' y' d' g1 g2 g3 g4 g5 g6 ?_
    have e1 : y' = wy_j m r y ↔ wy_j m r y' = y := ⟨fun g => by rw [g, wy_jjj], fun g => by rw [← g, wy_jjj]⟩
    have e2 : x' = wy_i m r x ↔ wy_i m r x' = x := ⟨fun g => by rw [g, wy_ii], fun g => by rw [← g, wy_ii]⟩
    rw [e1, e2] at e
    omega
def mp42_66 (r : Int) (μ : mi_M) : Prop := sc_ok (sc_m μ) ∧ (0 ≤ r ∧ r < 8) ∧ ct_is μ 68 (sc_m μ) 8 (sp_cost (sc_m μ)) ∧ (-1 ≤ μ 66 5 ∧ μ 66 5 < 8) ∧ (μ 66 5 = r → wy_is μ 70 (sc_m μ) r)
def mq42_66 (r : Int) (μ ν : mi_M) : Prop := fr_l [66, 70] μ ν ∧ ν 66 5 = r ∧ wy_is ν 70 (sc_m μ) r
section
variable {X : mi_X} {Q : mi_R → mi_G → mi_M → Prop} {u : mi_U} {μ : mi_M}
theorem mc42_66 {r : Int} (hp : mp42_66 r μ) (hq : ∀ ν, mq42_66 r μ ν → Q (.inl none) mi_G0 ν) : mi_cok X 42 [(.inr (.inl (some 66))), (.inl r)] mi_G0 μ u Q := by
  obtain ⟨hm, ⟨hr, hr'⟩, hc, ⟨t1, t2⟩, ht0⟩ := hp
  obtain ⟨⟨w1, w2⟩, ⟨g1, g2⟩, ⟨f1, f2⟩, -⟩ := id hm
  obtain ⟨c1, c2, c3⟩ := wy_cases hr hr'
  have s0 : μ 1 0 = sc_m μ 0 := rfl
  have s1 : μ 1 1 = sc_m μ 1 := rfl
  have s2 : μ 2 0 = sc_m μ 2 := (sc_m_c μ).2.2.1 0 (by decide) (by decide)
  have s4 : μ 2 2 = sc_m μ 4 := (sc_m_c μ).2.2.1 2 (by decide) (by decide)
  have s5 : μ 2 3 = sc_m μ 5 := (sc_m_c μ).2.2.1 3 (by decide) (by decide)
  apply me42_66
  rw [mi_wr_id (z := μ 66 5) (by omega) (by omega), mi_wr_id (z := r) (by omega) (by omega)]
  by_cases e0 : μ 66 5 = r
  · rw [if_pos e0]
    exact hq μ ⟨fr_lr _ _, e0, ht0 e0⟩
  rw [if_neg e0, wy_xC hr hr', wy_yC hr hr']
  refine ⟨⟨hr, hr'⟩, ⟨hr, hr'⟩, ?_⟩
  refine qp_2 (A := fun j ν => mk42_66_24 X Q u r (wy_x r) (wy_y r) j ν) (B := fun j i ν => mk42_66_62 X Q u r (wy_x r) (wy_y r) j (wy_j (sc_m μ) r j) i ν) (I := fun j i ν => fr_1 70 μ ν ∧ wy_to ν 70 (sc_m μ) r j i 0) (w := sc_m μ 0) (h := sc_m μ 1) (by omega) (by omega) ?_ ?_ ?_ ?_ ⟨fr_r _ _, wy_to0⟩
  · rintro ν ⟨hf, ht⟩
    apply mh42_66_24
    rw [hf 1 (by decide), s1, if_neg (by omega)]
    refine hq _ ⟨fr_ls (fr_lm (fr_l1 hf) rfl) (by decide) _ _, ?_, ?_⟩
    · rw [ms_same, if_pos rfl]
    · intro x y d h1 h2 h3 h4 h5 h6
      rw [ms_other _ (by decide)]
      exact wy_toE ht x y d h1 h2 h3 h4 h5 h6
  · rintro j ν hj hj' ⟨hf, ht⟩ k
    apply mh42_66_24
    rw [hf 1 (by decide), s1, mi_wr_id (z := j) (by omega) (by omega), mi_wr_id (z := sc_m μ 1) (by omega) (by omega), if_pos (by omega), mi_wr_id (z := wy_y r) (by omega) (by omega)]
    exact k ν ⟨hf, ht⟩
  · rintro j i ν hj hj' hi hi' ⟨hf, ht⟩ k
    have hx := wy_ij (m := sc_m μ) (r := r) hi hi'
    have hy := wy_jj (m := sc_m μ) (r := r) hj hj'
    have es : sc_m ν = sc_m μ := sc_m_fr (hf 1 (by decide)) (hf 2 (by decide)) (hf 3 (by decide))
    have e2 : ν 2 = μ 2 := hf 2 (by decide)
    have e68 : ν 68 = μ 68 := hf 68 (by decide)
    have hin : sc_in (sc_m μ) (wy_i (sc_m μ) r i) (wy_j (sc_m μ) r j) := ⟨hx.1, hx.2, hy.1, hy.2⟩
    have key : if mi_wr (mv86_1 (wy_i (sc_m μ) r i - wy_x r) (wy_j (sc_m μ) r j - wy_y r) ν) = 0 then
        mp43_66 (mv137 (wy_i (sc_m μ) r i) (wy_j (sc_m μ) r j) 0 ν) ν ∧ (∀ (μ2 : mi_M), mq43_66 (mv137 (wy_i (sc_m μ) r i) (wy_j (sc_m μ) r j) 0 ν) ν μ2 → mk42_66_62 X Q u r (wy_x r) (wy_y r) j (wy_j (sc_m μ) r j) (i + 1) μ2)
      else
        mp44_66 (mv137 (wy_i (sc_m μ) r i) (wy_j (sc_m μ) r j) 0 ν) (mv137 (wy_i (sc_m μ) r i - wy_x r) (wy_j (sc_m μ) r j - wy_y r) 0 ν) ν ∧ (∀ (μ3 : mi_M), mq44_66 (mv137 (wy_i (sc_m μ) r i) (wy_j (sc_m μ) r j) 0 ν) (mv137 (wy_i (sc_m μ) r i - wy_x r) (wy_j (sc_m μ) r j - wy_y r) 0 ν) ν μ3 → mk42_66_62 X Q u r (wy_x r) (wy_y r) j (wy_j (sc_m μ) r j) (i + 1) μ3) := by
      rw [mx_cell hx.1 (by omega) hy.1 (by omega), Int.add_zero]
      by_cases hc' : sc_in (sc_m μ) (wy_i (sc_m μ) r i - wy_x r) (wy_j (sc_m μ) r j - wy_y r)
      · rw [mx_hasT (by rw [es]; exact hm) (by rw [es]; exact hc'), if_neg (by decide)]
        obtain ⟨n1, n2, n3, n4⟩ := id hc'
        rw [mx_cell n1 (by omega) n3 (by omega), Int.add_zero]
        have ha : ∀ e, 0 ≤ e → e ≤ sc_m μ 2 → ν 70 (8 * (16 * (wy_j (sc_m μ) r j - wy_y r) + (wy_i (sc_m μ) r i - wy_x r)) + e) = sp_way (sc_m μ) r (wy_i (sc_m μ) r i - wy_x r) (wy_j (sc_m μ) r j - wy_y r) e := by
          intro e h1 h2
          refine ht _ _ e n1 n2 n3 n4 h1 h2 ?_
          have := wy_pre (m := sc_m μ) (x := wy_i (sc_m μ) r i) (y := wy_j (sc_m μ) r j) hr hr'
          rw [wy_ii, wy_jjj] at this
          omega
        refine ⟨⟨by rw [es]; exact hm, by omega, ?_⟩, ?_⟩
        · intro e h1 h2
          rw [e2, s2] at h2
          rw [ha e h1 h2]
          have := sp_way_b hm (r := r) (x := wy_i (sc_m μ) r i - wy_x r) (y := wy_j (sc_m μ) r j - wy_y r) h1 h2
          omega
        · rintro ρ ⟨q1, q2, q3⟩
          rw [e2, s2] at q2 q3
          refine k ρ ⟨fun q hq => (q1 q hq).trans (hf q hq), wy_toN w2 f2 ht hx.1 hx.2 (fun d h1 h2 => ?_) q3⟩
          rw [q2 d h1 h2, sp_way_in hm hr hr' hin h1 h2 hc', e68, s4, s5, hc _ _ d hx.1 hx.2 hy.1 hy.2 h1 (by omega), tb_eq h1 h2 ha]
      · rw [mx_hasF (by rw [es]; exact hm) ⟨by omega, by omega⟩ ⟨by omega, by omega⟩ (by rw [es]; exact hc'), if_pos (by decide)]
        refine ⟨⟨by rw [es]; exact hm, by omega⟩, ?_⟩
        rintro ρ ⟨q1, q2, q3⟩
        rw [e2, s2] at q2 q3
        refine k ρ ⟨fun q hq => (q1 q hq).trans (hf q hq), wy_toN w2 f2 ht hx.1 hx.2 (fun d h1 h2 => ?_) q3⟩
        rw [q2 d h1 h2, e68, hc _ _ d hx.1 hx.2 hy.1 hy.2 h1 (by omega), sp_way_out hc']
    apply mh42_66_62
    rw [hf 1 (by decide), s0, mi_wr_id (z := i) (by omega) (by omega), mi_wr_id (z := sc_m μ 0) (by omega) (by omega), if_pos (by omega), mi_wr_id (z := wy_x r) (by omega) (by omega)]
    by_cases e2 : wy_x r < 0
    · have ew : wy_i (sc_m μ) r i = sc_m μ 0 - 1 - i := if_pos e2
      rw [ew] at key
      rw [if_pos e2]; exact key
    · have ew : wy_i (sc_m μ) r i = i := if_neg e2
      rw [ew] at key
      rw [if_neg e2]; exact key
  · rintro j ν hj hj' ⟨hf, ht⟩ k
    apply mh42_66_62
    rw [hf 1 (by decide), s0, if_neg (by omega)]
    exact k ν ⟨hf, wy_toY ht⟩
end
