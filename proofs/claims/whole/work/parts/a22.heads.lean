/-! PRINTED by wip/whole/gen: heads of methods -/
-- TwoViews$Reader.takeNumber(II)I (13,)
def ms70_13 (pc : Nat) : Bool := false
theorem me70_13 {X : mi_X} {Q : mi_R → mi_G → mi_M → Prop} {u : mi_U} {a0 a1 : Int} {μ : mi_M} (h :
  if mi_wr (μ 13 5) = 0 then (
    mp72_13 μ ∧
    (∀ (μ0 : mi_M), mq72_13 μ μ0 →
    mp71_13 μ0 ∧
    if mi_wr (mv71_13 μ0) = mi_wr (-1) then (
      Q (.inl (some (.inl a0))) mi_G0 (mm74_13 1 (μ0 13 3) μ0))
    else (
      if mi_wr (mv71_13 μ0) < mi_wr a0 then (
        Q (.inl (some (.inl a0))) mi_G0 (mm74_13 2 (μ0 13 3) μ0))
      else (
        if mi_wr a1 < mi_wr (mv71_13 μ0) then (
          Q (.inl (some (.inl a0))) mi_G0 (mm74_13 2 (μ0 13 3) μ0))
        else (
          Q (.inl (some (.inl (mv71_13 μ0)))) mi_G0 μ0)))))
  else (
    Q (.inl (some (.inl a0))) mi_G0 μ)) : mi_cok X 70 [(.inr (.inl (some 13))), (.inl a0), (.inl a1)] mi_G0 μ u Q :=
  mi_enter (by decide) (by decide) rfl rfl (ms_run (stop := ms70_13) (by decide) rfl (fun _ _ _ _ _ _ h => h) 37 0 _ _ _ _ _ (mi_ite (fun h205 => (mc72_13 h205.1 (fun μ0 h206 => (have h207 := (h205.2 μ0 h206); (mc71_13 h207.1 (mi_ite (fun h208 => (mc74_13 h208)) (fun h208 => (mi_ite (fun h209 => (mc74_13 h209)) (fun h209 => (mi_ite (fun h210 => (mc74_13 h210)) (fun h210 => h210) h209)) h208)) h207.2)))))) (fun h205 => h205) h))
-- TwoViewsModel.number(II)Z (86,)
noncomputable def mk162_86_27 (X : mi_X) (Q : mi_R → mi_G → mi_M → Prop) (u : mi_U) (l1 l2 l3 : Int) (μ : mi_M) : Prop := mi_ok X 162 mi_G0 Q 27 [some (.inr (.inl (some 86))), some (.inl l1), some (.inl l2), some (.inl l3)] [] mi_G0 μ u
def ms162_86 (pc : Nat) : Bool := Nat.beq pc 27
theorem me162_86 {X : mi_X} {Q : mi_R → mi_G → mi_M → Prop} {u : mi_U} {a0 a1 : Int} {μ : mi_M} (h :
  mp161_86 μ ∧
  if mi_wr (mv161_86 μ) = 0 then (
    ((mv159_86 1 (μ 86 9) μ) = 0 ∨ (mv159_86 1 (μ 86 9) μ) = 1) ∧
    Q (.inl (some (.inl (mv159_86 1 (μ 86 9) μ)))) mi_G0 (mm159_86 1 (μ 86 9) μ))
  else (
    mk162_86_27 X Q u a0 a1 (μ 86 9) (mi_set μ 86 14 0))) : mi_cok X 162 [(.inr (.inl (some 86))), (.inl a0), (.inl a1)] mi_G0 μ u Q :=
  mi_enter (by decide) (by decide) rfl rfl (ms_run (stop := ms162_86) (by decide) rfl (fun _ _ _ _ _ _ h => h) 51 0 _ _ _ _ _ (mc161_86 h.1 (mi_ite (fun h211 => (mc159_86 (And.intro h211.1 h211.2))) (fun h211 => (h211)) h.2)))
theorem mh162_86_27 {X : mi_X} {Q : mi_R → mi_G → mi_M → Prop} {u : mi_U} {l1 l2 l3 : Int} {μ : mi_M} (h :
  if mi_wr l3 < mi_wr (μ 86 10) then (
    mp156_86 l3 μ ∧
    mk162_86_27 X Q u l1 l2 (l3 + 1) (mi_set μ 86 14 (((10 * (μ 86 14)) + (mv156_86 l3 μ)) - 48)))
  else (
    if mi_wr (mv144 (μ 86 14) l1 l2 μ) = 0 then (
      ((mv159_86 2 (μ 86 9) μ) = 0 ∨ (mv159_86 2 (μ 86 9) μ) = 1) ∧
      Q (.inl (some (.inl (mv159_86 2 (μ 86 9) μ)))) mi_G0 (mm159_86 2 (μ 86 9) μ))
    else (
      mp158_86 μ ∧
      (∀ (μ0 : mi_M), mq158_86 μ μ0 →
      Q (.inl (some (.inl 1))) mi_G0 μ0)))) : mk162_86_27 X Q u l1 l2 l3 μ :=
  ms_run (stop := ms162_86) (by decide) rfl (fun _ _ _ _ _ _ h => h) 51 27 _ _ _ _ _ (mi_ite (fun h212 => (mc156_86 h212.1 (h212.2))) (fun h212 => (mc144 (mi_ite (fun h213 => (mc159_86 (And.intro h213.1 h213.2))) (fun h213 => (mc158_86 h213.1 (fun μ0 h214 => (have h215 := (h213.2 μ0 h214); (And.intro (by decide : (1 : Int) = 0 ∨ (1 : Int) = 1) h215))))) h212))) h)
