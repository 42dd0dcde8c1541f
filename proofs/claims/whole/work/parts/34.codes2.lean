/-! all codes are laid -/
def mp31_66 (μ : mi_M) : Prop := sc_ok (sc_m μ)
def mq31_66 (μ ν : mi_M) : Prop := fr_1 67 μ ν ∧ mp_is ν 67 (sc_m μ) (sp_code (sc_m μ))
def mp186_86 (μ : mi_M) : Prop := sc_ok (μ 87)
def mq186_86 (μ ν : mi_M) : Prop := fr_1 92 μ ν ∧ mp_is ν 92 (μ 87) (sp_code (μ 87))
theorem sc_m_fr {μ ν : mi_M} (h1 : ν 1 = μ 1) (h2 : ν 2 = μ 2) (h3 : ν 3 = μ 3) : sc_m ν = sc_m μ := by
  unfold sc_m; rw [h1, h2, h3]
theorem sc_m_set (μ : mi_M) {r : Nat} (h : 3 < r) (j v : Int) : sc_m (mi_set μ r j v) = sc_m μ := sc_m_fr (ms_other μ (by omega) j v) (ms_other μ (by omega) j v) (ms_other μ (by omega) j v)
section
variable {X : mi_X} {Q : mi_R → mi_G → mi_M → Prop} {u : mi_U} {μ : mi_M} {m : Int → Int}
theorem mc31_66 (hp : mp31_66 μ) (hq : ∀ ν, mq31_66 μ ν → Q (.inl none) mi_G0 ν) : mi_cok X 31 [(.inr (.inl (some 66)))] mi_G0 μ u Q := by
  have hm : sc_ok (sc_m μ) := hp
  obtain ⟨⟨w1, w2⟩, ⟨g1, g2⟩, -⟩ := id hm
  apply me31_66
  refine qp_2 (A := fun y ν => mk31_66_2 X Q u y ν) (B := fun y x ν => mk31_66_15 X Q u y x ν) (I := fun y x ν => fr_1 67 μ ν ∧ mp_to ν 67 (sc_m μ) (sp_code (sc_m μ)) y x) (w := sc_m μ 0) (h := sc_m μ 1) (by omega) (by omega) ?_ ?_ ?_ ?_ ⟨fr_r _ _, mp_to0⟩
  · rintro ν ⟨hf, ht⟩
    apply mh31_66_2
    rw [hf 1 (by decide), ← sc_m1 μ, mi_wr_id (by omega) (by omega), if_neg (by omega)]
    exact hq ν ⟨hf, mp_toE ht⟩
  · rintro y ν hy hy' ⟨hf, ht⟩ k
    apply mh31_66_2
    rw [hf 1 (by decide), ← sc_m1 μ, mi_wr_id (by omega) (by omega), mi_wr_id (by omega) (by omega), if_pos (by omega)]
    exact k ν ⟨hf, ht⟩
  · rintro y x ν hy hy' hx hx' ⟨hf, ht⟩ k
    have es : sc_m ν = sc_m μ := sc_m_fr (hf 1 (by decide)) (hf 2 (by decide)) (hf 3 (by decide))
    apply mh31_66_15
    simp only [mx_spot hy (show y < 16777216 by omega)]
    have e0 : ν 1 0 = sc_m μ 0 := by rw [hf 1 (by decide)]; rfl
    have e1 : ν 1 1 = sc_m μ 1 := by rw [hf 1 (by decide)]; rfl
    rw [e0, mi_wr_id (by omega) (by omega), mi_wr_id (by omega) (by omega), if_pos (by omega)]
    refine ⟨⟨by rw [es]; exact hm, by omega, by omega, hx, by rw [e0]; exact hx', hy, by rw [e1]; exact hy'⟩, by omega, ⟨by rw [sc_m_set _ (by decide), es]; exact hm, by omega, by omega, hx, by rw [ms_other _ (by decide), e0]; exact hx', hy, by rw [ms_other _ (by decide), e1]; exact hy'⟩, by omega, k _ ⟨fr_s (fr_s hf _ _) _ _, mp_toX w2 ht hx hx' hy (by omega) ?_ ?_⟩⟩
    · unfold mv32_66; rw [es]
    · unfold mv32_66; rw [sc_m_set _ (by decide), es]
  · rintro y ν hy hy' ⟨hf, ht⟩ k
    apply mh31_66_15
    rw [hf 1 (by decide), ← sc_m0 μ, mi_wr_id (by omega) (by omega), if_neg (by omega)]
    exact k ν ⟨hf, mp_toY ht⟩
theorem mx_spotR {v x y : Int} : mv185 v x y μ = 192 * v + 16 * y + x := by unfold mv185; omega
theorem mc186_86 (hp : mp186_86 μ) (hq : ∀ ν, mq186_86 μ ν → Q (.inl none) mi_G0 ν) : mi_cok X 186 [(.inr (.inl (some 86)))] mi_G0 μ u Q := by
  have hm : sc_ok (μ 87) := hp
  obtain ⟨⟨w1, w2⟩, ⟨g1, g2⟩, -⟩ := id hm
  apply me186_86
  refine qp_2 (A := fun y ν => mk186_86_2 X Q u y ν) (B := fun y x ν => mk186_86_14 X Q u y x ν) (I := fun y x ν => fr_1 92 μ ν ∧ mp_to ν 92 (μ 87) (sp_code (μ 87)) y x) (w := μ 87 0) (h := μ 87 1) (by omega) (by omega) ?_ ?_ ?_ ?_ ⟨fr_r _ _, mp_to0⟩
  · rintro ν ⟨hf, ht⟩
    apply mh186_86_2
    rw [hf 87 (by decide), mi_wr_id (by omega) (by omega), if_neg (by omega)]
    exact hq ν ⟨hf, mp_toE ht⟩
  · rintro y ν hy hy' ⟨hf, ht⟩ k
    apply mh186_86_2
    rw [hf 87 (by decide), mi_wr_id (by omega) (by omega), mi_wr_id (by omega) (by omega), if_pos (by omega)]
    exact k ν ⟨hf, ht⟩
  · rintro y x ν hy hy' hx hx' ⟨hf, ht⟩ k
    have es : ν 87 = μ 87 := hf 87 (by decide)
    apply mh186_86_14
    simp only [mx_spotR]
    rw [es, mi_wr_id (by omega) (by omega), mi_wr_id (by omega) (by omega), if_pos (by omega)]
    refine ⟨⟨by rw [es]; exact hm, by omega, by omega, hx, by rw [es]; exact hx', hy, by rw [es]; exact hy'⟩, by omega, ⟨by rw [ms_other _ (by decide), es]; exact hm, by omega, by omega, hx, by rw [ms_other _ (by decide), es]; exact hx', hy, by rw [ms_other _ (by decide), es]; exact hy'⟩, by omega, k _ ⟨fr_s (fr_s hf _ _) _ _, mp_toX w2 ht hx hx' hy (by omega) ?_ ?_⟩⟩
    · unfold mv184_86; rw [es]
    · unfold mv184_86; rw [ms_other _ (by decide), es]
  · rintro y ν hy hy' ⟨hf, ht⟩ k
    apply mh186_86_14
    rw [hf 87 (by decide), mi_wr_id (by omega) (by omega), if_neg (by omega)]
    exact k ν ⟨hf, mp_toY ht⟩
end
