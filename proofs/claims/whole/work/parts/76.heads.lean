/-! PRINTED by wip/whole/gen: heads of methods -/
-- TwoViews$Maps.fillingOf(III)I (71,)
def ms22_71 (pc : Nat) : Bool := false
theorem me22_71 {X : mi_X} {Q : mi_R → mi_G → mi_M → Prop} {u : mi_U} {a0 a1 a2 : Int} {μ : mi_M} (h :
  (0 ≤ (mv136 a0 a1 a2 μ) ∧ (mv136 a0 a1 a2 μ) < 384) ∧
  if mi_wr (μ 73 (mv136 a0 a1 a2 μ)) = 0 then (
    (0 ≤ (mv136 a0 a1 a2 μ) ∧ (mv136 a0 a1 a2 μ) < 384) ∧
    Q (.inl (some (.inl (μ 72 (mv136 a0 a1 a2 μ))))) mi_G0 μ)
  else (
    (0 ≤ (mv136 a0 a1 a2 μ) ∧ (mv136 a0 a1 a2 μ) < 384) ∧
    if mi_wr (μ 73 (mv136 a0 a1 a2 μ)) = mi_wr 2 then (
      mp23_71 a0 a1 a2 μ ∧
      Q (.inl (some (.inl (mv23_71 a0 a1 a2 μ)))) mi_G0 μ)
    else (
      mp24_71 a0 a1 a2 μ ∧
      (∀ (v0 : Int) (μ0 : mi_M), mq24_71 a0 a1 a2 μ v0 μ0 →
      Q (.inl (some (.inl v0))) mi_G0 μ0)))) : mi_cok X 22 [(.inr (.inl (some 71))), (.inl a0), (.inl a1), (.inl a2)] mi_G0 μ u Q :=
  mi_enter (by decide) (by decide) rfl rfl (ms_run (stop := ms22_71) (by decide) rfl (fun _ _ _ _ _ _ h => h) 35 0 _ _ _ _ _ (mc136 (And.intro h.1 (mi_ite (fun h171 => (And.intro h171.1 h171.2)) (fun h171 => (And.intro h171.1 (mi_ite (fun h172 => (mc23_71 h172.1 h172.2)) (fun h172 => (mc24_71 h172.1 (fun v0 μ0 h173 => (h172.2 v0 μ0 h173)))) h171.2))) h.2))))
