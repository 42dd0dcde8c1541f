/-! feed -/
section
variable {X : mi_X} {Q : mi_R → mi_G → mi_M → Prop} {u : mi_U} {μ : mi_M}
def mp97r (a0 a1 a2 a3 a4 : Int) (μ : mi_M) : Prop := 0 ≤ μ 11 0 ∧ μ 11 0 ≤ 700
def mq97r (a0 a1 a2 a3 a4 : Int) (μ : mi_M) (r : Int) (ν : mi_M) : Prop := (μ 11 0 + 20 ≤ 700 → r = μ 11 0 + 20 ∧ fdq 11 0 12 a0 a1 a2 a3 a4 μ ν) ∧ (700 < μ 11 0 + 20 → r = -1 ∧ ν = μ)
theorem mc97r {a0 a1 a2 a3 a4 : Int} (hp : mp97r a0 a1 a2 a3 a4 μ) (hq : ∀ r ν, mq97r a0 a1 a2 a3 a4 μ r ν → Q (.inl (some (.inl r))) mi_G0 ν) : mi_cok X 97 [(.inr (.inl (some 0))), (.inl a0), (.inl a1), (.inl a2), (.inl a3), (.inl a4)] mi_G0 μ u Q := by
  obtain ⟨h1, h2⟩ := hp
  by_cases c : μ 11 0 + 20 ≤ 700
  · have w : mv93_11 20 μ = 1 := by
      unfold mv93_11
      rw [mi_wr_id (by omega) (by omega), mi_wr_id (by omega) (by omega)]
      first | rw [if_pos (by omega)] | rw [if_neg (by omega)]
    obtain ⟨p0, q0⟩ := ap_is (μ := μ) (a0 := a0) h1 (by omega)
    have e0 := q0.2.1
    obtain ⟨p1, q1⟩ := ap_is (μ := mm94_11 a0 μ) (a0 := a1) (by omega) (by omega)
    have e1 := q1.2.1
    obtain ⟨p2, q2⟩ := ap_is (μ := mm94_11 a1 (mm94_11 a0 μ)) (a0 := a2) (by omega) (by omega)
    have e2 := q2.2.1
    obtain ⟨p3, q3⟩ := ap_is (μ := mm94_11 a2 (mm94_11 a1 (mm94_11 a0 μ))) (a0 := a3) (by omega) (by omega)
    have e3 := q3.2.1
    obtain ⟨p4, q4⟩ := ap_is (μ := mm94_11 a3 (mm94_11 a2 (mm94_11 a1 (mm94_11 a0 μ)))) (a0 := a4) (by omega) (by omega)
    have hf := fdq_of q0 q1 q2 q3 q4
    refine mc97_0 ?_ ?_
    · unfold mp97_0; rw [w, if_neg w_10]; exact ⟨p0, p1, p2, p3, p4⟩
    · unfold mv97_0 mm97_0; rw [w, if_neg w_10, if_neg w_10]
      exact hq _ _ ⟨fun _ => ⟨hf.2.1, hf⟩, fun h => by omega⟩
  · have w : mv93_11 20 μ = 0 := by
      unfold mv93_11
      rw [mi_wr_id (by omega) (by omega), mi_wr_id (by omega) (by omega)]
      first | rw [if_neg (by omega)] | rw [if_pos (by omega)]
    refine mc97_0 ?_ ?_
    · unfold mp97_0; rw [w, if_pos w_00]; trivial
    · unfold mv97_0 mm97_0; rw [w, if_pos w_00, if_pos w_00]
      exact hq _ _ ⟨fun h => by omega, fun _ => ⟨rfl, rfl⟩⟩
def mp154_86 (a0 a1 a2 a3 a4 : Int) (μ : mi_M) : Prop := (0 ≤ μ 86 7 ∧ μ 86 7 ≤ 700) ∧ mx_R a0 ∧ mx_R a1 ∧ mx_R a2 ∧ mx_R a3 ∧ mx_R a4
def mq154_86 (a0 a1 a2 a3 a4 : Int) (μ : mi_M) (r : Int) (ν : mi_M) : Prop := (μ 86 7 + 20 ≤ 700 → r = μ 86 7 + 20 ∧ fdq 86 7 90 a0 a1 a2 a3 a4 (mi_set μ 86 0 0) ν) ∧ (700 < μ 86 7 + 20 → r = -1 ∧ rno μ ν)
theorem mc154_86 {a0 a1 a2 a3 a4 : Int} (hp : mp154_86 a0 a1 a2 a3 a4 μ) (hq : ∀ r ν, mq154_86 a0 a1 a2 a3 a4 μ r ν → Q (.inl (some (.inl r))) mi_G0 ν) : mi_cok X 154 [(.inr (.inl (some 86))), (.inl a0), (.inl a1), (.inl a2), (.inl a3), (.inl a4)] mi_G0 μ u Q := by
  obtain ⟨⟨h1, h2⟩, r0, r1, r2, r3, r4⟩ := hp
  have e7 : mi_set μ 86 0 0 86 7 = μ 86 7 := by rw [ms_same, if_neg (by decide)]
  apply me154_86
  rw [mi_wr_id (by omega) (by omega), mi_wr_id (by omega) (by omega)]
  by_cases c : 700 < μ 86 7 + 20
  · rw [if_pos c]; exact hq _ _ ⟨fun h => by omega, fun _ => ⟨rfl, rfl⟩⟩
  · rw [if_neg c]
    refine ⟨⟨r0, by omega, by omega⟩, fun μ0 q0 => ?_⟩
    have g0 := q0.2.1
    refine ⟨⟨r1, by omega, by omega⟩, fun μ1 q1 => ?_⟩
    have g1 := q1.2.1
    refine ⟨⟨r2, by omega, by omega⟩, fun μ2 q2 => ?_⟩
    have g2 := q2.2.1
    refine ⟨⟨r3, by omega, by omega⟩, fun μ3 q3 => ?_⟩
    have g3 := q3.2.1
    refine ⟨⟨r4, by omega, by omega⟩, fun μ4 q4 => ?_⟩
    have g4 := q4.2.1
    exact hq _ _ ⟨fun _ => ⟨by omega, fdq_of q0 q1 q2 q3 q4⟩, fun h => by omega⟩
end
