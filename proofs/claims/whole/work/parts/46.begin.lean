/-! begin (the class) -/
def mp43_66 (a0 : Int) (μ : mi_M) : Prop := sc_ok (sc_m μ) ∧ (0 ≤ a0 ∧ a0 + 8 ≤ 1536)
def mq43_66 (a0 : Int) (μ ν : mi_M) : Prop := fr_1 70 μ ν ∧ (∀ d, 0 ≤ d → d ≤ μ 2 0 → ν 70 (a0 + d) = μ 68 (a0 + d)) ∧ ∀ j, (j < a0 ∨ a0 + μ 2 0 < j) → ν 70 j = μ 70 j
section
variable {X : mi_X} {Q : mi_R → mi_G → mi_M → Prop} {u : mi_U} {μ : mi_M}
theorem mc43_66 {a0 : Int} (hp : mp43_66 a0 μ) (hq : ∀ ν, mq43_66 a0 μ ν → Q (.inl none) mi_G0 ν) : mi_cok X 43 [(.inr (.inl (some 66))), (.inl a0)] mi_G0 μ u Q := by
  obtain ⟨hm, b1, b2⟩ := hp
  obtain ⟨-, -, ⟨f1, f2⟩, -⟩ := id hm
  have hs := sc_m_c μ
  have d0 : μ 2 0 = sc_m μ 2 := hs.2.2.1 0 (by decide) (by decide)
  rw [← d0] at f1 f2
  apply me43_66
  refine qp_u (A := fun d ν => mk43_66_2 X Q u a0 d ν) (fun d ν => fr_1 70 μ ν ∧ (∀ e, 0 ≤ e → e < d → ν 70 (a0 + e) = μ 68 (a0 + e)) ∧ ∀ j, (j < a0 ∨ a0 + μ 2 0 < j) → ν 70 j = μ 70 j) (a := 0) (n := μ 2 0 + 1) (by omega) ?_ ?_ ⟨fr_r _ _, fun e h1 h2 => by omega, fun _ _ => rfl⟩
  · rintro ν ⟨hf, h1, h2⟩
    apply mh43_66_2
    rw [hf 2 (by decide), mi_wr_id (by omega) (by omega), mi_wr_id (by omega) (by omega), if_pos (by omega)]
    exact hq ν ⟨hf, fun d e1 e2 => h1 d e1 (by omega), h2⟩
  · rintro d ν hd hd' ⟨hf, h1, h2⟩ k
    apply mh43_66_2
    rw [hf 2 (by decide), mi_wr_id (by omega) (by omega), mi_wr_id (by omega) (by omega), if_neg (by omega)]
    refine ⟨by omega, by omega, k _ ⟨fr_s hf _ _, fun e h3 h4 => ?_, fun j hj => ?_⟩⟩
    · rw [ms_same]
      by_cases ee : e = d
      · subst ee; rw [if_pos rfl, hf 68 (by decide)]
      · rw [if_neg (by omega)]; exact h1 e h3 (by omega)
    · rw [ms_same, if_neg (by omega)]; exact h2 j hj
end
