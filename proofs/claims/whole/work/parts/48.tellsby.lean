/-! tellsBy (the reference) -/
def mp199_86 (a0 a1 a2 : Int) (μ : mi_M) : Prop := mp198_86_93 a0 a1 μ ∧ 0 ≤ a2 ∧ a2 ≤ μ 87 2
def mv199_86 (a0 a1 a2 : Int) (μ : mi_M) : Int := tb_v (fun e => μ 93 (8 * (16 * a1 + a0) + e)) (μ 87 2) (μ 87 4) (μ 87 5) a2
section
variable {X : mi_X} {Q : mi_R → mi_G → mi_M → Prop} {u : mi_U} {μ : mi_M}
theorem mc199_86 {a0 a1 a2 : Int} (hp : mp199_86 a0 a1 a2 μ) (hq : Q (.inl (some (.inl (mv199_86 a0 a1 a2 μ)))) mi_G0 μ) : mi_cok X 199 [(.inr (.inl (some 86))), (.inl a0), (.inl a1), (.inl a2)] mi_G0 μ u Q := by
  obtain ⟨hp, hd, hd'⟩ := hp
  obtain ⟨hm, ⟨hx, hx', hy, hy'⟩, hR⟩ := id hp
  obtain ⟨⟨w1, w2⟩, ⟨g1, g2⟩, ⟨f1, f2⟩, -, ⟨p1, p2, p3⟩, -⟩ := id hm
  have hl : 0 ≤ mv198_86_93 a0 a1 μ ∧ mv198_86_93 a0 a1 μ < 100000000 := by
    unfold mv198_86_93
    obtain ⟨e, e1, e2, e3⟩ := ls_in (f := fun d => μ 93 (8 * (16 * a1 + a0) + d)) (μ 87 2).toNat
    have := hR e e1 (by omega)
    rw [e3]; exact this
  have r0 := hR a2 hd hd'
  have r1 : 0 < a2 → 0 ≤ μ 93 (8 * (16 * a1 + a0) + (a2 - 1)) ∧ μ 93 (8 * (16 * a1 + a0) + (a2 - 1)) < 100000000 := fun _ => hR _ (by omega) (by omega)
  have r2 : a2 < μ 87 2 → 0 ≤ μ 93 (8 * (16 * a1 + a0) + (a2 + 1)) ∧ μ 93 (8 * (16 * a1 + a0) + (a2 + 1)) < 100000000 := fun _ => hR _ (by omega) (by omega)
  -- the least of the last three
  have end3 : ∀ z, 0 ≤ z → z < 100000100 → (if mv198_86_93 a0 a1 μ + μ 87 5 < z then mv198_86_93 a0 a1 μ + μ 87 5 else z) - mv198_86_93 a0 a1 μ = mv199_86 a0 a1 a2 μ → mk199_86_115 X Q u (mv198_86_93 a0 a1 μ) z μ := by
    intro z h1 h2 h3
    apply mh199_86_115
    rw [mi_wr_id (z := mv198_86_93 a0 a1 μ + μ 87 5) (by omega) (by omega), mi_wr_id (z := z) (by omega) (by omega)]
    rw [← h3] at hq
    split
    · rename_i e; rw [if_pos e] at hq; exact hq
    · rename_i e; rw [if_neg e] at hq; exact hq
  have ev : mv199_86 a0 a1 a2 μ = tb_2 (fun e => μ 93 (8 * (16 * a1 + a0) + e)) (μ 87 2) (μ 87 4) (μ 87 5) a2 - mv198_86_93 a0 a1 μ := rfl
  have el : ls_t (fun e => μ 93 (8 * (16 * a1 + a0) + e)) (μ 87 2).toNat = mv198_86_93 a0 a1 μ := rfl
  have end2 : ∀ z, 0 ≤ z → z < 100000100 → (if mv198_86_93 a0 a1 μ + μ 87 5 < z then mv198_86_93 a0 a1 μ + μ 87 5 else z) = tb_1 (fun e => μ 93 (8 * (16 * a1 + a0) + e)) (μ 87 2) (μ 87 4) (μ 87 5) a2 → mk199_86_67 X Q u a0 a1 a2 (mv198_86_93 a0 a1 μ) z μ := by
    intro z h1 h2 h3
    apply mh199_86_67
    simp only [mx_cellR]
    rw [mi_wr_id (z := a2) (by omega) (by omega), mi_wr_id (z := μ 87 2) (by omega) (by omega)]
    by_cases c2 : a2 < μ 87 2
    · have := r2 c2
      rw [if_pos c2, mi_wr_id (z := μ 93 (8 * (16 * a1 + a0) + (a2 + 1)) + μ 87 4) (by omega) (by omega), mi_wr_id (z := z) (by omega) (by omega)]
      refine ⟨by omega, end3 _ (by split <;> omega) (by split <;> omega) ?_⟩
      rw [ev]
      unfold tb_2
      rw [if_pos c2, ← h3]
      dsimp only
      split <;> (try split) <;> (try split) <;> (try split) <;> (try split) <;> omega
    · rw [if_neg c2]
      refine end3 _ h1 h2 ?_
      rw [ev]
      unfold tb_2
      rw [if_neg c2, ← h3]
  apply me199_86
  simp only [mx_cellR]
  refine ⟨hp, by omega, ?_⟩
  rw [mi_wr_id (z := a2) (by omega) (by omega)]
  by_cases c1 : 0 < a2
  · have := r1 c1
    rw [if_pos c1, mi_wr_id (z := μ 93 (8 * (16 * a1 + a0) + (a2 - 1)) + μ 87 4) (by omega) (by omega), mi_wr_id (z := μ 93 (8 * (16 * a1 + a0) + a2)) (by omega) (by omega)]
    refine ⟨by omega, end2 _ (by split <;> omega) (by split <;> omega) ?_⟩
    unfold tb_1 tb_0
    rw [if_pos c1, el]
    dsimp only
    split <;> (try split) <;> (try split) <;> (try split) <;> (try split) <;> omega
  · rw [if_neg c1]
    refine end2 _ (by omega) (by omega) ?_
    unfold tb_1 tb_0
    rw [if_neg c1, el]
    dsimp only
    split <;> (try split) <;> omega
end
