/-! PRINTED by wip/whole/gen: heads of methods -/
-- TwoViews.text(I)I (0,)
def ms98_0 (pc : Nat) : Bool := false
theorem me98_0 {X : mi_X} {Q : mi_R → mi_G → mi_M → Prop} {u : mi_U} {a0 : Int} {μ : mi_M} (h :
  if mi_wr a0 < 0 then (
    Q (.inl (some (.inl (-1)))) mi_G0 μ)
  else (
    if mi_wr (μ 11 0) < mi_wr a0 then (
      Q (.inl (some (.inl (-1)))) mi_G0 μ)
    else (
      mp63_13_1 a0 μ ∧
      (∀ (v0 : Int) (μ0 : mi_M), mq63_13_1 a0 μ v0 μ0 →
      if mi_wr v0 < 0 then (
        Q (.inl (some (.inl v0))) mi_G0 (mi_set μ0 11 0 0))
      else (
        mp139_0 0 (mi_set μ0 11 0 0) ∧
        (∀ (μ1 : mi_M), mq139_0 0 (mi_set μ0 11 0 0) μ1 →
        Q (.inl (some (.inl v0))) mi_G0 (mm84_1_14 μ1))))))) : mi_cok X 98 [(.inr (.inl (some 0))), (.inl a0)] mi_G0 μ u Q :=
  mi_enter (by decide) (by decide) rfl rfl (ms_run (stop := ms98_0) (by decide) rfl (fun _ _ _ _ _ _ h => h) 35 0 _ _ _ _ _ (mi_ite (fun h205 => h205) (fun h205 => (mi_ite (fun h206 => h206) (fun h206 => (mc63_13_1 h206.1 (fun v0 μ0 h207 => (have h208 := (h206.2 v0 μ0 h207); (mi_ite (fun h209 => h209) (fun h209 => (mc139_0 h209.1 (fun μ1 h210 => (have h211 := (h209.2 μ1 h210); (mc84_1_14 h211))))) h208))))) h205)) h))
