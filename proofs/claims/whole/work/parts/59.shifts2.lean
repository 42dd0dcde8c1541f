/-! makeSums; all shifts are laid -/
def mp40_66 (μ : mi_M) : Prop := sc_ok (sc_m μ) ∧ ct_is μ 68 (sc_m μ) 8 (sp_cost (sc_m μ)) ∧ tw_ok μ
def mq40_66 (μ ν : mi_M) : Prop := fr_l [66, 69, 70] μ ν ∧ ct_is ν 69 (sc_m μ) (sc_m μ 2 + 1) (sp_sum (sc_m μ)) ∧ tw_ok ν
def mp12_71 (μ : mi_M) : Prop := sc_ok (sc_m μ) ∧ ct_is μ 69 (sc_m μ) (sc_m μ 2 + 1) (sp_sum (sc_m μ))
def mq12_71 (μ ν : mi_M) : Prop := fr_1 72 μ ν ∧ mp_is ν 72 (sc_m μ) (sp_sh (sc_m μ))
def mp206_86 (μ : mi_M) : Prop := sc_ok (μ 87)
def mq206_86 (μ ν : mi_M) : Prop := fr_l [92, 93, 94, 95] μ ν ∧ mp_is ν 92 (μ 87) (sp_code (μ 87)) ∧ ct_is ν 94 (μ 87) (μ 87 2 + 1) (sp_sum (μ 87)) ∧ mp_is ν 95 (μ 87) (sp_sh (μ 87))
section
variable {X : mi_X} {Q : mi_R → mi_G → mi_M → Prop} {u : mi_U} {μ : mi_M}
theorem sc_m_frl {L : List Nat} {μ ν : mi_M} (h : fr_l L μ ν) (h1 : 1 ∉ L) (h2 : 2 ∉ L) (h3 : 3 ∉ L) : sc_m ν = sc_m μ := sc_m_fr (h 1 h1) (h 2 h2) (h 3 h3)
theorem mc40_66 (hp : mp40_66 μ) (hq : ∀ ν, mq40_66 μ ν → Q (.inl none) mi_G0 ν) : mi_cok X 40 [(.inr (.inl (some 66)))] mi_G0 μ u Q := by
  obtain ⟨hm, hc, htw⟩ := hp
  obtain ⟨⟨w1, w2⟩, ⟨g1, g2⟩, ⟨f1, f2⟩, -⟩ := id hm
  have h1536 : mi_wr 1536 = 1536 := by decide
  have h8 : mi_wr 8 = 8 := by decide
  have s6 : μ 2 4 = sc_m μ 6 := (sc_m_c μ).2.2.1 4 (by decide) (by decide)
  apply me40_66
  refine qp_u (A := fun i ν => mk40_66_2 X Q u i ν) (fun i ν => fr_1 69 μ ν ∧ ∀ j, 0 ≤ j → j < i → ν 69 j = 0) (a := 0) (n := 1536) (by omega) ?_ ?_ ⟨fr_r _ _, fun j h1 h2 => by omega⟩
  · rintro ν0 ⟨hf1, hz⟩
    apply mh40_66_2
    rw [h1536, if_neg (by decide)]
    have hfa : fr_l [66, 69, 70] μ ν0 := fr_lm (fr_l1 hf1) rfl
    have hta : tw_ok ν0 := by
      have es : sc_m ν0 = sc_m μ := sc_m_frl hfa (by decide) (by decide) (by decide)
      refine ⟨by rw [hf1 66 (by decide)]; exact htw.1, fun r h1 h2 => ?_⟩
      rw [hf1 66 (by decide)] at h2
      rw [es]
      exact wy_is_fr (hf1 70 (by decide)) (htw.2 r h1 h2)
    refine qp_u (A := fun r ν => mk40_66_24 X Q u r ν) (fun r ν => fr_l [66, 69, 70] μ ν ∧ tw_ok ν ∧ ∀ x y d, 0 ≤ x → x < sc_m μ 0 → 0 ≤ y → y < sc_m μ 1 → 0 ≤ d → d ≤ sc_m μ 2 → ν 69 (8 * (16 * y + x) + d) = sm (sp_part (sc_m μ) x y d) r.toNat) (a := 0) (n := 8) (by omega) ?_ ?_ ⟨hfa, hta, fun x y d h1 h2 h3 h4 h5 h6 => by rw [hz _ (by omega) (by omega)]; rfl⟩
    · rintro ν ⟨hf, hc, hs⟩
      apply mh40_66_24
      rw [h8, if_neg (by decide)]
      exact hq ν ⟨hf, fun x y d h1 h2 h3 h4 h5 h6 => hs x y d h1 h2 h3 h4 h5 (by omega), hc⟩
    · rintro r ν hr hr' ⟨hf, ht, hs⟩ k
      have es : sc_m ν = sc_m μ := sc_m_frl hf (by decide) (by decide) (by decide)
      apply mh40_66_24
      rw [h8, mi_wr_id (z := r) (by omega) (by omega), if_pos hr', hf 2 (by decide), s6]
      by_cases e : mi_wr (mi_and (mi_shr (sc_m μ 6) r) 1) = mi_wr 1
      · rw [if_pos e]
        refine ⟨⟨by rw [es]; exact hm, ⟨hr, hr'⟩, by rw [es]; exact ct_is_fr (hf 68 (by decide)) hc, ht.1, fun e => ht.2 r hr e⟩, fun ρ ⟨hf2, ht2, hw⟩ => ?_⟩
        have es2 : sc_m ρ = sc_m ν := sc_m_frl hf2 (by decide) (by decide) (by decide)
        refine ⟨show sc_ok (sc_m ρ) by rw [es2, es]; exact hm, fun σ ⟨hf3, h3⟩ => ?_⟩
        rw [es2, es] at h3
        rw [es] at hw
        have es3 : sc_m σ = sc_m μ := (sc_m_frl (fr_l1 hf3) (by decide) (by decide) (by decide)).trans (es2.trans es)
        refine k σ ⟨fr_lt hf (fr_lt (fr_lm hf2 rfl) (fr_lm (fr_l1 hf3) rfl)), ⟨by rw [hf3 66 (by decide), ht2]; omega, fun r' h1 h2 => ?_⟩, fun x y d a1 a2 a3 a4 a5 a6 => ?_⟩
        · rw [hf3 66 (by decide), ht2] at h2
          subst h2
          rw [es3]
          exact wy_is_fr (hf3 70 (by decide)) hw
        · rw [h3 x y d a1 a2 a3 a4 a5 (by omega), hw x y d a1 a2 a3 a4 a5 a6, hf2 69 (by decide), hs x y d a1 a2 a3 a4 a5 a6, sm_s hr]
          unfold sp_part
          rw [if_pos e]
      · rw [if_neg e]
        refine k ν ⟨hf, ht, fun x y d a1 a2 a3 a4 a5 a6 => ?_⟩
        rw [hs x y d a1 a2 a3 a4 a5 a6, sm_s hr]
        unfold sp_part
        rw [if_neg e, Int.add_zero]
  · rintro i ν hi hi' ⟨hf, hz⟩ k
    apply mh40_66_2
    rw [h1536, mi_wr_id (by omega) (by omega), if_pos hi']
    refine ⟨by omega, k _ ⟨fr_s hf _ _, fun j h1 h2 => ?_⟩⟩
    rw [ms_same]
    by_cases e : j = i
    · rw [if_pos e]
    · rw [if_neg e, hz j h1 (by omega)]
theorem mc12_71 (hp : mp12_71 μ) (hq : ∀ ν, mq12_71 μ ν → Q (.inl none) mi_G0 ν) : mi_cok X 12 [(.inr (.inl (some 71)))] mi_G0 μ u Q := by
  obtain ⟨hm, hc⟩ := hp
  obtain ⟨⟨w1, w2⟩, ⟨g1, g2⟩, -⟩ := id hm
  apply me12_71
  refine qp_2 (A := fun y ν => mk12_71_2 X Q u y ν) (B := fun y x ν => mk12_71_15 X Q u y x ν) (I := fun y x ν => fr_1 72 μ ν ∧ mp_to ν 72 (sc_m μ) (sp_sh (sc_m μ)) y x) (w := sc_m μ 0) (h := sc_m μ 1) (by omega) (by omega) ?_ ?_ ?_ ?_ ⟨fr_r _ _, mp_to0⟩
  · rintro ν ⟨hf, ht⟩
    apply mh12_71_2
    rw [hf 1 (by decide), ← sc_m1 μ, if_neg (by omega)]
    exact hq ν ⟨hf, mp_toE ht⟩
  · rintro y ν hy hy' ⟨hf, ht⟩ k
    apply mh12_71_2
    rw [hf 1 (by decide), ← sc_m1 μ, mi_wr_id (by omega) (by omega), mi_wr_id (by omega) (by omega), if_pos (by omega)]
    exact k ν ⟨hf, ht⟩
  · rintro y x ν hy hy' hx hx' ⟨hf, ht⟩ k
    have es : sc_m ν = sc_m μ := sc_m_fr (hf 1 (by decide)) (hf 2 (by decide)) (hf 3 (by decide))
    have e0 : ν 1 0 = sc_m μ 0 := by rw [hf 1 (by decide)]; rfl
    apply mh12_71_15
    simp only [mx_spot hy (show y < 16777216 by omega)]
    rw [e0, mi_wr_id (by omega) (by omega), mi_wr_id (by omega) (by omega), if_pos (by omega)]
    have hs1 : ct_is ν 69 (sc_m μ) (sc_m μ 2 + 1) (sp_sum (sc_m μ)) := ct_is_fr (hf 69 (by decide)) hc
    refine ⟨⟨by rw [es]; exact hm, by rw [es]; exact ⟨hx, hx', hy, hy'⟩, by rw [es]; exact hs1⟩, by omega, ⟨by rw [sc_m_set _ (by decide), es]; exact hm, by rw [sc_m_set _ (by decide), es]; exact ⟨hx, hx', hy, hy'⟩, by rw [sc_m_set _ (by decide), es]; exact ct_is_fr (ms_other _ (by decide) _ _) hs1⟩, by omega, k _ ⟨fr_s (fr_s hf _ _) _ _, mp_toX w2 ht hx hx' hy (by omega) ?_ ?_⟩⟩
    · unfold mv13_71; rw [es]; rfl
    · unfold mv14_71; rw [sc_m_set _ (by decide), es]; rfl
  · rintro y ν hy hy' ⟨hf, ht⟩ k
    apply mh12_71_15
    rw [hf 1 (by decide), ← sc_m0 μ, if_neg (by omega)]
    exact k ν ⟨hf, mp_toY ht⟩
theorem mc206_86 (hp : mp206_86 μ) (hq : ∀ ν, mq206_86 μ ν → Q (.inl none) mi_G0 ν) : mi_cok X 206 [(.inr (.inl (some 86)))] mi_G0 μ u Q := by
  have hm : sc_ok (μ 87) := hp
  obtain ⟨⟨w1, w2⟩, ⟨g1, g2⟩, -⟩ := id hm
  apply me206_86
  refine ⟨hm, fun μ0 ⟨hf0, hc0, hs0⟩ => ?_⟩
  have e87 : μ0 87 = μ 87 := hf0 87 (by decide)
  refine qp_2 (A := fun y ν => mk206_86_6 X Q u y ν) (B := fun y x ν => mk206_86_18 X Q u y x ν) (I := fun y x ν => fr_1 95 μ0 ν ∧ mp_to ν 95 (μ 87) (sp_sh (μ 87)) y x) (w := μ 87 0) (h := μ 87 1) (by omega) (by omega) ?_ ?_ ?_ ?_ ⟨fr_r _ _, mp_to0⟩
  · rintro ν ⟨hf, ht⟩
    apply mh206_86_6
    rw [hf 87 (by decide), e87, if_neg (by omega)]
    exact hq ν ⟨fr_lt (fr_lm hf0 rfl) (fr_lm (fr_l1 hf) rfl), mp_is_fr (hf 92 (by decide)) hc0, ct_is_fr (hf 94 (by decide)) hs0, mp_toE ht⟩
  · rintro y ν hy hy' ⟨hf, ht⟩ k
    apply mh206_86_6
    rw [hf 87 (by decide), e87, mi_wr_id (by omega) (by omega), mi_wr_id (by omega) (by omega), if_pos (by omega)]
    exact k ν ⟨hf, ht⟩
  · rintro y x ν hy hy' hx hx' ⟨hf, ht⟩ k
    have es : ν 87 = μ 87 := (hf 87 (by decide)).trans e87
    apply mh206_86_18
    simp only [mx_spotR]
    rw [es, mi_wr_id (by omega) (by omega), mi_wr_id (by omega) (by omega), if_pos (by omega)]
    have hs1 : ct_is ν 94 (μ 87) (μ 87 2 + 1) (sp_sum (μ 87)) := ct_is_fr (hf 94 (by decide)) hs0
    refine ⟨⟨by rw [es]; exact hm, by rw [es]; exact ⟨hx, hx', hy, hy'⟩, by rw [es]; exact hs1⟩, by omega, ⟨by rw [ms_other _ (by decide), es]; exact hm, by rw [ms_other _ (by decide), es]; exact ⟨hx, hx', hy, hy'⟩, by rw [ms_other _ (by decide : 87 ≠ 95), es]; exact ct_is_fr (ms_other _ (by decide) _ _) hs1⟩, by omega, k _ ⟨fr_s (fr_s hf _ _) _ _, mp_toX w2 ht hx hx' hy (by omega) ?_ ?_⟩⟩
    · unfold mv204_86; rw [es]; rfl
    · unfold mv205_86; rw [ms_other _ (by decide), es]; rfl
  · rintro y ν hy hy' ⟨hf, ht⟩ k
    apply mh206_86_18
    rw [hf 87 (by decide), e87, if_neg (by omega)]
    exact k ν ⟨hf, mp_toY ht⟩
end
