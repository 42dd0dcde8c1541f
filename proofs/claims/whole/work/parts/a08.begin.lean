/-! AN ACT BEGINS -/
abbrev BS : List Nat := [0, 66, 17, 19, 20, 21, 22, 23, 24, 25, 26, 27, 28, 29, 30, 31, 32, 33, 34, 35, 36, 37, 38, 39, 40, 41, 42]
abbrev AS : List Nat := [0, 1, 2, 3, 66, 17, 19, 20, 21, 22, 23, 24, 25, 26, 27, 28, 29, 30, 31, 32, 33, 34, 35, 36, 37, 38, 39, 40, 41, 42]
def mp139_0 (a0 : Int) (μ : mi_M) : Prop := mp46_17_1 μ ∧ (0 ≤ a0 ∧ a0 ≤ 5) ∧ (0 ≤ μ 0 11 ∧ μ 0 11 ≤ 5)
def mq139_0 (a0 : Int) (μ ν : mi_M) : Prop := fr_l BS μ ν ∧ kpc μ ν ∧ (ν 0 11 = if a0 < μ 0 11 then a0 else μ 0 11) ∧ (ν 66 5 = if 1 < a0 then μ 66 5 else -1)
section
variable {X : mi_X} {Q : mi_R → mi_G → mi_M → Prop} {u : mi_U} {μ : mi_M}
theorem pc_fr {ν ρ : mi_M} (h : ∀ q, q = 17 ∨ (19 ≤ q ∧ q ≤ 42) → ρ q = ν q) (a : Int) : pc_ ρ a = pc_ ν a := by
  have sb := sl_b (n := ν 17 1) (a := a)
  unfold pc_
  rw [h 17 (by omega)]
  exact sk_eq (h _ (by omega)) (h _ (by omega)) (h _ (by omega))
theorem kpc_fr {ν ρ : mi_M} (hk : kpc μ ν) (h : ∀ q, q = 17 ∨ (19 ≤ q ∧ q ≤ 42) → ρ q = ν q) : kpc μ ρ := by
  obtain ⟨k1, k2, k3⟩ := hk
  refine ⟨by rw [h 17 (by omega)]; exact k1, by rw [h 17 (by omega)]; exact k2, fun a j h1 h2 h3 h4 => ?_⟩
  rw [h 17 (by omega)] at h2
  rw [pc_fr h]; exact k3 a j h1 h2 h3 h4
theorem ci_0 (h : μ 0 11 = 0) (h' : μ 66 5 = -1) : ci μ := by
  refine ⟨by omega, ⟨by omega, fun r h1 h2 => by omega⟩, fun _ => h', ?_⟩
  rw [h]
  exact ⟨fun e => by omega, fun e => by omega, fun e => by omega, fun e => by omega, fun e => by omega⟩
theorem ku_is {a0 : Int} (ha : 0 ≤ a0 ∧ a0 ≤ 5) (hs : 0 ≤ μ 0 11 ∧ μ 0 11 ≤ 5) : fr_l [0, 66] μ (mm140_0 a0 μ) ∧ (mm140_0 a0 μ 0 11 = if a0 < μ 0 11 then a0 else μ 0 11) ∧ (mm140_0 a0 μ 66 5 = if 1 < a0 then μ 66 5 else -1) := by
  have w1 : mi_wr 1 = 1 := by decide
  unfold mm140_0 mm39_66
  rw [mi_wr_id (z := a0) (by omega) (by omega), mi_wr_id (z := μ 0 11) (by omega) (by omega), w1]
  by_cases c : a0 < μ 0 11
  · rw [if_pos c, if_pos c]
    by_cases d : 1 < a0
    · rw [if_pos d, if_pos d]
      exact ⟨fr_ls (fr_lr _ _) (by decide) _ _, by rw [ms_same, if_pos rfl], by rw [ms_other _ (by decide)]⟩
    · rw [if_neg d, if_neg d]
      exact ⟨fr_ls (fr_ls (fr_lr _ _) (by decide) _ _) (by decide) _ _, by rw [ms_other _ (by decide), ms_same, if_pos rfl], by rw [ms_same, if_pos rfl]⟩
  · rw [if_neg c, if_neg c]
    by_cases d : 1 < a0
    · rw [if_pos d, if_pos d]; exact ⟨fr_lr _ _, rfl, rfl⟩
    · rw [if_neg d, if_neg d]
      exact ⟨fr_ls (fr_lr _ _) (by decide) _ _, by rw [ms_other _ (by decide)], by rw [ms_same, if_pos rfl]⟩
theorem mc139_0 {a0 : Int} (hp : mp139_0 a0 μ) (hq : ∀ ν, mq139_0 a0 μ ν → Q (.inl none) mi_G0 ν) : mi_cok X 139 [(.inr (.inl (some 0))), (.inl a0)] mi_G0 μ u Q := by
  obtain ⟨h1, h2, h3⟩ := hp
  apply me139_0
  refine ⟨h1, fun ν ⟨hf, hk⟩ => ?_⟩
  have e0 : ν 0 = μ 0 := hf 0 (by decide)
  have e66 : ν 66 = μ 66 := hf 66 (by decide)
  obtain ⟨f1, f2, f3⟩ := ku_is (μ := ν) (a0 := a0) h2 (by rw [e0]; exact h3)
  rw [e0] at f2
  rw [e66] at f3
  exact hq _ ⟨fr_lt (fr_lm hf rfl) (fr_lm f1 rfl), kpc_fr hk (fun q hq => f1 q (by
    simp only [List.mem_cons, List.not_mem_nil, or_false, not_or]; omega)), f2, f3⟩
end
