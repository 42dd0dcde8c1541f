/-! WHAT HOLDS AT THE START -/
section
variable {X : mi_X} {μ : mi_M}
theorem f0_1 : mi_M0 X μ 1 = fun k => if k = 1 then 6 else if k = 0 then 8 else 0 := rfl
theorem f0_2 : mi_M0 X μ 2 = mi_cpy (mi_ro X 1002) (fun _ => 0) 0 0 8 := rfl
theorem f0_3 : mi_M0 X μ 3 = fun _ => 0 := rfl
theorem f0_4 : mi_M0 X μ 4 = fun _ => 0 := rfl
theorem f0_5 : mi_M0 X μ 5 = fun _ => 0 := rfl
theorem f0_6 : mi_M0 X μ 6 = fun _ => 0 := rfl
theorem f0_7 : mi_M0 X μ 7 = fun _ => 0 := rfl
theorem f0_8 : mi_M0 X μ 8 = fun _ => 0 := rfl
theorem f0_9 : mi_M0 X μ 9 = fun _ => 0 := rfl
theorem f0_10 : mi_M0 X μ 10 = fun _ => 0 := rfl
theorem f0_11 : mi_M0 X μ 11 = fun _ => 0 := rfl
theorem f0_12 : mi_M0 X μ 12 = fun _ => 0 := rfl
theorem f0_17 : mi_M0 X μ 17 = fun _ => 0 := rfl
theorem f0_44 : mi_M0 X μ 44 = fun _ => 0 := rfl
theorem f0_55 : mi_M0 X μ 55 = fun _ => 0 := rfl
theorem f0_0 : mi_M0 X μ 0 = fun k => if k = 11 then 0 else 0 := rfl
theorem f0_66 : mi_M0 X μ 66 = fun k => if k = 5 then -1 else 0 := rfl
theorem f0_86 : mi_M0 X μ 86 = fun _ => 0 := rfl
theorem f0_89 : mi_M0 X μ 89 = fun _ => 0 := rfl
theorem f0_90 : mi_M0 X μ 90 = fun _ => 0 := rfl
theorem f0_87 : mi_M0 X μ 87 = fl (fun _ => 0) (fun k => if k = 7 then 1 else if k = 6 then 255 else if k = 5 then 6 else if k = 4 then 2 else if k = 3 then 1 else if k = 2 then 3 else if k = 1 then 6 else if k = 0 then 8 else if k = 9 then 100 else if k = 8 then 1 else 0) 10 394 := rfl
/-- the first pair of pictures -/
def m0_ : Int → Int := fl (fun _ => 0) (fun k => if k = 7 then 1 else if k = 6 then 255 else if k = 5 then 6 else if k = 4 then 2 else if k = 3 then 1 else if k = 2 then 3 else if k = 1 then 6 else if k = 0 then 8 else if k = 9 then 100 else if k = 8 then 1 else 0) 10 394
theorem m0_z {j : Int} (h : j < 0 ∨ 10 ≤ j) : m0_ j = 0 := by
  unfold m0_ fl
  by_cases c : 10 ≤ j ∧ j < 394
  · rw [if_pos c]
  · rw [if_neg c]
    dsimp only
    rw [if_neg (by omega), if_neg (by omega), if_neg (by omega), if_neg (by omega), if_neg (by omega), if_neg (by omega), if_neg (by omega), if_neg (by omega), if_neg (by omega), if_neg (by omega)]
theorem m0_ok : sc_ok m0_ := by
  have a0 : m0_ 0 = 8 := by decide
  have a1 : m0_ 1 = 6 := by decide
  have a2 : m0_ 2 = 3 := by decide
  have a3 : m0_ 3 = 1 := by decide
  have a4 : m0_ 4 = 2 := by decide
  have a5 : m0_ 5 = 6 := by decide
  have a6 : m0_ 6 = 255 := by decide
  have a7 : m0_ 7 = 1 := by decide
  have a8 : m0_ 8 = 1 := by decide
  have a9 : m0_ 9 = 100 := by decide
  unfold sc_ok
  rw [a0, a1, a2, a3, a4, a5, a6, a7, a8, a9]
  exact ⟨by decide, by decide, by decide, by decide, by decide, by decide, by decide, by decide, by decide, fun j h1 h2 => by rw [m0_z (by omega)]; decide⟩
theorem m0_sc : sc_m (mi_M0 X μ) = m0_ := by
  funext j
  unfold sc_m
  rw [f0_1, f0_2, f0_3]
  by_cases c : j < 0 ∨ 10 ≤ j
  · rw [m0_z c]
    by_cases c2 : j < 0
    · rw [if_pos (show j < 2 by omega)]
      dsimp only
      rw [if_neg (by omega), if_neg (by omega)]
    · rw [if_neg (show ¬ j < 2 by omega), if_neg (show ¬ j < 10 by omega)]
  · rcases (show j = 0 ∨ j = 1 ∨ j = 2 ∨ j = 3 ∨ j = 4 ∨ j = 5 ∨ j = 6 ∨ j = 7 ∨ j = 8 ∨ j = 9 by omega) with rfl | rfl | rfl | rfl | rfl | rfl | rfl | rfl | rfl | rfl <;> rfl
theorem inv_M0 : inv (mi_M0 X μ) := by
  have e87 : mi_M0 X μ 87 = m0_ := f0_87
  refine ⟨⟨by rw [e87]; exact m0_ok, by rw [e87]; exact m0_sc⟩, ⟨by rw [f0_0]; decide, ⟨by rw [f0_66]; decide, fun r h1 h2 => ?_⟩, fun _ => by rw [f0_66]; rfl, ?_⟩, ⟨⟨by rw [f0_86]; decide, fun l h1 h2 => ?_⟩, by rw [f0_4, f0_86], fun l h1 h2 => ?_⟩, ⟨by rw [f0_11, f0_86], by rw [f0_86]; decide, by rw [f0_12, f0_90]⟩, ⟨⟨by rw [f0_17]; decide, by rw [f0_17]; decide⟩, by rw [f0_17, f0_86], fun a h1 h2 => ?_⟩, by rw [f0_86]; decide, ⟨?_, fun h => ?_⟩, ⟨?_, fun h => ?_⟩⟩
  · rw [f0_66] at h2
    have : (-1 : Int) = r := h2
    omega
  · have e : mi_M0 X μ 0 11 = 0 := by rw [f0_0]; rfl
    rw [e]
    exact ⟨fun h => absurd h (by decide), fun h => absurd h (by decide), fun h => absurd h (by decide), fun h => absurd h (by decide), fun h => absurd h (by decide)⟩
  · rw [f0_86] at h2
    have : l < 0 := h2
    omega
  · rw [f0_5, f0_6, f0_7, f0_8, f0_9, f0_10, f0_89]
    exact ⟨rfl, rfl, rfl, rfl, rfl, rfl⟩
  · rw [f0_17] at h2
    have : a < 0 := h2
    omega
  · rw [f0_44, f0_86]; rfl
  · rw [f0_86] at h; exact absurd h (by decide)
  · rw [f0_55, f0_86]; rfl
  · rw [f0_86] at h; exact absurd h (by decide)
end
/-- THE LAW of the small machine, from its first instruction -/
theorem law_0 {X : mi_X} {Q : mi_R → mi_G → mi_M → Prop} {μ : mi_M} (hQ : ∀ ν, Q (.inl (some (.inl 1))) mi_G0 ν) (hn : X.2 ≤ 3584) : mi_ok X 256 mi_Gz Q 0 [some (.inr (.inl (some 1010))), none, none, none, none, none, none] [] (mi_Gc 0 0) μ (601024, 7293034) := by
  have e : mi_rl X 1010 = X.2 := rfl
  exact ct_law (law_loop hQ (by rw [e]; omega) 512 0 (mi_M0 X μ) (600920, 7268948) inv_M0 (by decide) (by rw [e]; omega) (by rw [e]; omega) (by decide) (by decide) none none)
