/-! what fills a place -/
def mp22_71 (a0 a1 a2 : Int) (μ : mi_M) : Prop := mp24_71 a0 a1 a2 μ
def mq22_71 (a0 a1 a2 : Int) (μ : mi_M) (r : Int) (ν : mi_M) : Prop := fr_1 75 μ ν ∧ r = sp_fill (sc_m μ) a0 a1 a2
section
variable {X : mi_X} {Q : mi_R → mi_G → mi_M → Prop} {u : mi_U} {μ : mi_M}
theorem mx_hf {a0 a1 a2 : Int} (hm : sc_ok (sc_m μ)) : mv23_71 a0 a1 a2 μ = sp_hf (sc_m μ) a0 a1 a2 := by
  have h2 := sp_ns_b hm (v := a0) (x := a1) (y := a2) (dx := -1) (dy := 0)
  have h3 := sp_ns_b hm (v := a0) (x := a1) (y := a2) (dx := 1) (dy := 0)
  have hm1 : mi_wr (-1) = -1 := by decide
  have e1 : mv25_71 a0 a1 a2 1 μ = sp_ns (sc_m μ) a0 a1 a2 (-1) 0 := rfl
  have e0 : mv25_71 a0 a1 a2 0 μ = sp_ns (sc_m μ) a0 a1 a2 1 0 := rfl
  unfold mv23_71 sp_hf hf_v
  rw [e1, e0, hm1, mi_wr_id (z := sp_ns (sc_m μ) a0 a1 a2 (-1) 0) (by omega) (by omega), mi_wr_id (z := sp_ns (sc_m μ) a0 a1 a2 1 0) (by omega) (by omega), mx_max ⟨by omega, by omega⟩ ⟨by omega, by omega⟩, mx_min ⟨by omega, by omega⟩ ⟨by omega, by omega⟩]
  split
  · rw [if_pos (show sp_ns (sc_m μ) a0 a1 a2 (-1) 0 < 0 by omega)]
  · rw [if_neg (show ¬ sp_ns (sc_m μ) a0 a1 a2 (-1) 0 < 0 by omega)]
    split
    · rw [if_pos (show sp_ns (sc_m μ) a0 a1 a2 1 0 < 0 by omega)]
    · rw [if_neg (show ¬ sp_ns (sc_m μ) a0 a1 a2 1 0 < 0 by omega)]
      split <;> split <;> omega
theorem mx_hfR {a0 a1 a2 : Int} (hm : sc_ok (μ 87)) : mv226_86 a0 a1 a2 μ = sp_hf (μ 87) a0 a1 a2 := by
  have h2 := sp_ns_b hm (v := a0) (x := a1) (y := a2) (dx := -1) (dy := 0)
  have h3 := sp_ns_b hm (v := a0) (x := a1) (y := a2) (dx := 1) (dy := 0)
  have e1 : mv225_86 a0 a1 a2 (-1) 0 μ = sp_ns (μ 87) a0 a1 a2 (-1) 0 := rfl
  have e0 : mv225_86 a0 a1 a2 1 0 μ = sp_ns (μ 87) a0 a1 a2 1 0 := rfl
  unfold mv226_86 sp_hf hf_v
  rw [e1, e0, mi_wr_id (z := sp_ns (μ 87) a0 a1 a2 (-1) 0) (by omega) (by omega), mi_wr_id (z := sp_ns (μ 87) a0 a1 a2 1 0) (by omega) (by omega)]
  by_cases c1 : sp_ns (μ 87) a0 a1 a2 (-1) 0 < 0
  · simp only [if_pos c1]
  · simp only [if_neg c1]
theorem mc22_71 {a0 a1 a2 : Int} (hp : mp22_71 a0 a1 a2 μ) (hq : ∀ r ν, mq22_71 a0 a1 a2 μ r ν → Q (.inl (some (.inl r))) mi_G0 ν) : mi_cok X 22 [(.inr (.inl (some 71))), (.inl a0), (.inl a1), (.inl a2)] mi_G0 μ u Q := by
  obtain ⟨hm, ⟨hv, hv'⟩, hi, hs, hk⟩ := id hp
  obtain ⟨⟨w1, w2⟩, ⟨g1, g2⟩, -⟩ := id hm
  obtain ⟨a1', a2', a3, a4⟩ := id hi
  have kb := sp_kn_b (m := sc_m μ) (v := a0) (x := a1) (y := a2)
  have h22 : mi_wr 2 = 2 := by decide
  apply me22_71
  rw [mx_spot a3 (by omega), hk a0 a1 a2 hv hv' a1' a2' a3 a4, hs a0 a1 a2 hv hv' a1' a2' a3 a4, mi_wr_id (z := sp_kn (sc_m μ) a0 a1 a2) (by omega) (by omega), h22, mx_hf hm]
  refine ⟨by omega, ?_⟩
  by_cases e0 : sp_kn (sc_m μ) a0 a1 a2 = 0
  · rw [if_pos e0]
    exact ⟨by omega, hq _ _ ⟨fr_r _ _, by unfold sp_fill; rw [if_pos e0]⟩⟩
  · rw [if_neg e0]
    refine ⟨by omega, ?_⟩
    by_cases e2 : sp_kn (sc_m μ) a0 a1 a2 = 2
    · rw [if_pos e2]
      exact ⟨⟨⟨hm, ⟨hv, hv'⟩, hi, by decide, hs, hk⟩, ⟨hm, ⟨hv, hv'⟩, hi, by decide, hs, hk⟩⟩, hq _ _ ⟨fr_r _ _, by unfold sp_fill; rw [if_neg e0, if_pos e2]⟩⟩
    · rw [if_neg e2]
      refine ⟨hp, fun r ν ⟨f, e⟩ => hq _ _ ⟨f, ?_⟩⟩
      unfold sp_fill; rw [if_neg e0, if_neg e2]; exact e
end
