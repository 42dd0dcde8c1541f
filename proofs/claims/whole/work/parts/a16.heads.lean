/-! PRINTED by wip/whole/gen: heads of methods -/
-- TwoViewsModel.feed(IIIII)I (86,)
def ms154_86 (pc : Nat) : Bool := false
theorem me154_86 {X : mi_X} {Q : mi_R → mi_G → mi_M → Prop} {u : mi_U} {a0 a1 a2 a3 a4 : Int} {μ : mi_M} (h :
  if mi_wr 700 < mi_wr ((μ 86 7) + 20) then (
    Q (.inl (some (.inl (-1)))) mi_G0 (mi_set μ 86 0 0))
  else (
    mp155_86 a0 (mi_set μ 86 0 0) ∧
    (∀ (μ0 : mi_M), mq155_86 a0 (mi_set μ 86 0 0) μ0 →
    mp155_86 a1 μ0 ∧
    (∀ (μ1 : mi_M), mq155_86 a1 μ0 μ1 →
    mp155_86 a2 μ1 ∧
    (∀ (μ2 : mi_M), mq155_86 a2 μ1 μ2 →
    mp155_86 a3 μ2 ∧
    (∀ (μ3 : mi_M), mq155_86 a3 μ2 μ3 →
    mp155_86 a4 μ3 ∧
    (∀ (μ4 : mi_M), mq155_86 a4 μ3 μ4 →
    Q (.inl (some (.inl (μ4 86 7)))) mi_G0 μ4))))))) : mi_cok X 154 [(.inr (.inl (some 86))), (.inl a0), (.inl a1), (.inl a2), (.inl a3), (.inl a4)] mi_G0 μ u Q :=
  mi_enter (by decide) (by decide) rfl rfl (ms_run (stop := ms154_86) (by decide) rfl (fun _ _ _ _ _ _ h => h) 31 0 _ _ _ _ _ (mi_ite (fun h205 => h205) (fun h205 => (mc155_86 h205.1 (fun μ0 h206 => (have h207 := (h205.2 μ0 h206); (mc155_86 h207.1 (fun μ1 h208 => (have h209 := (h207.2 μ1 h208); (mc155_86 h209.1 (fun μ2 h210 => (have h211 := (h209.2 μ2 h210); (mc155_86 h211.1 (fun μ3 h212 => (have h213 := (h211.2 μ3 h212); (mc155_86 h213.1 (fun μ4 h214 => (h213.2 μ4 h214)))))))))))))))) h))
