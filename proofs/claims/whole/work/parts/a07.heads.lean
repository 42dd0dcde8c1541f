/-! PRINTED by wip/whole/gen: heads of methods -/
-- TwoViews.beginAct(I)V (0,)
def ms139_0 (pc : Nat) : Bool := false
theorem me139_0 {X : mi_X} {Q : mi_R → mi_G → mi_M → Prop} {u : mi_U} {a0 : Int} {μ : mi_M} (h :
  mp46_17_1 μ ∧
  (∀ (μ0 : mi_M), mq46_17_1 μ μ0 →
  Q (.inl none) mi_G0 (mm140_0 a0 μ0))) : mi_cok X 139 [(.inr (.inl (some 0))), (.inl a0)] mi_G0 μ u Q :=
  mi_enter (by decide) (by decide) rfl rfl (ms_run (stop := ms139_0) (by decide) rfl (fun _ _ _ _ _ _ h => h) 11 0 _ _ _ _ _ (mc46_17_1 h.1 (fun μ0 h205 => (have h206 := (h.2 μ0 h205); (mc140_0 h206)))))
