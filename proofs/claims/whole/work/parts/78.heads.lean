/-! PRINTED by wip/whole/gen: heads of methods -/
-- TwoViews$Maps.makeFilled()V (71,)
noncomputable def mk21_71_2 (X : mi_X) (Q : mi_R → mi_G → mi_M → Prop) (u : mi_U) (l1 : Int) (μ : mi_M) : Prop := ∀ o2 : Option mi_V, mi_ok X 21 mi_G0 Q 2 [some (.inr (.inl (some 71))), some (.inl l1), o2] [] mi_G0 μ u
noncomputable def mk21_71_15 (X : mi_X) (Q : mi_R → mi_G → mi_M → Prop) (u : mi_U) (l1 l2 : Int) (μ : mi_M) : Prop := mi_ok X 21 mi_G0 Q 15 [some (.inr (.inl (some 71))), some (.inl l1), some (.inl l2)] [] mi_G0 μ u
def ms21_71 (pc : Nat) : Bool := Nat.beq pc 2 || Nat.beq pc 15
theorem me21_71 {X : mi_X} {Q : mi_R → mi_G → mi_M → Prop} {u : mi_U} {μ : mi_M} (h :
  mk21_71_2 X Q u 0 μ) : mi_cok X 21 [(.inr (.inl (some 71)))] mi_G0 μ u Q :=
  mi_enter (by decide) (by decide) rfl rfl (ms_run (stop := ms21_71) (by decide) rfl (fun _ _ _ _ _ _ h => h) 45 0 _ _ _ _ _ (h _))
theorem mh21_71_2 {X : mi_X} {Q : mi_R → mi_G → mi_M → Prop} {u : mi_U} {l1 : Int} {μ : mi_M} (h :
  if mi_wr l1 < mi_wr (μ 1 1) then (
    mk21_71_15 X Q u l1 0 μ)
  else (
    Q (.inl none) mi_G0 μ)) : mk21_71_2 X Q u l1 μ :=
  fun o2 => ms_run (stop := ms21_71) (by decide) rfl (fun _ _ _ _ _ _ h => h) 45 2 _ _ _ _ _ (mi_ite (fun h175 => (h175)) (fun h175 => h175) h)
theorem mh21_71_15 {X : mi_X} {Q : mi_R → mi_G → mi_M → Prop} {u : mi_U} {l1 l2 : Int} {μ : mi_M} (h :
  if mi_wr l2 < mi_wr (μ 1 0) then (
    mp22_71 0 l2 l1 μ ∧
    (∀ (v0 : Int) (μ0 : mi_M), mq22_71 0 l2 l1 μ v0 μ0 →
    (0 ≤ (mv136 0 l2 l1 μ) ∧ (mv136 0 l2 l1 μ) < 384) ∧
    mp22_71 1 l2 l1 (mi_set μ0 74 (mv136 0 l2 l1 μ) v0) ∧
    (∀ (v1 : Int) (μ1 : mi_M), mq22_71 1 l2 l1 (mi_set μ0 74 (mv136 0 l2 l1 μ) v0) v1 μ1 →
    (0 ≤ (mv136 1 l2 l1 (mi_set μ0 74 (mv136 0 l2 l1 μ) v0)) ∧ (mv136 1 l2 l1 (mi_set μ0 74 (mv136 0 l2 l1 μ) v0)) < 384) ∧
    mk21_71_15 X Q u l1 (l2 + 1) (mi_set μ1 74 (mv136 1 l2 l1 (mi_set μ0 74 (mv136 0 l2 l1 μ) v0)) v1))))
  else (
    mk21_71_2 X Q u (l1 + 1) μ)) : mk21_71_15 X Q u l1 l2 μ :=
  ms_run (stop := ms21_71) (by decide) rfl (fun _ _ _ _ _ _ h => h) 45 15 _ _ _ _ _ (mi_ite (fun h176 => (mc136 (mc22_71 h176.1 (fun v0 μ0 h177 => (have h178 := (h176.2 v0 μ0 h177); (And.intro h178.1 (mc136 (mc22_71 h178.2.1 (fun v1 μ1 h179 => (have h180 := (h178.2.2 v1 μ1 h179); (And.intro h180.1 (h180.2)))))))))))) (fun h176 => (h176 _)) h)
-- TwoViewsModel.laysFills()V (86,)
noncomputable def mk228_86_6 (X : mi_X) (Q : mi_R → mi_G → mi_M → Prop) (u : mi_U) (l1 : Int) (μ : mi_M) : Prop := ∀ o2 o3 o4 o5 : Option mi_V, mi_ok X 228 mi_G0 Q 6 [some (.inr (.inl (some 86))), some (.inl l1), o2, o3, o4, o5] [] mi_G0 μ u
noncomputable def mk228_86_13 (X : mi_X) (Q : mi_R → mi_G → mi_M → Prop) (u : mi_U) (l1 l2 : Int) (μ : mi_M) : Prop := ∀ o3 o4 o5 : Option mi_V, mi_ok X 228 mi_G0 Q 13 [some (.inr (.inl (some 86))), some (.inl l1), some (.inl l2), o3, o4, o5] [] mi_G0 μ u
noncomputable def mk228_86_25 (X : mi_X) (Q : mi_R → mi_G → mi_M → Prop) (u : mi_U) (l1 l2 l3 : Int) (μ : mi_M) : Prop := ∀ o4 o5 : Option mi_V, mi_ok X 228 mi_G0 Q 25 [some (.inr (.inl (some 86))), some (.inl l1), some (.inl l2), some (.inl l3), o4, o5] [] mi_G0 μ u
def ms228_86 (pc : Nat) : Bool := Nat.beq pc 6 || Nat.beq pc 13 || Nat.beq pc 25
theorem me228_86 {X : mi_X} {Q : mi_R → mi_G → mi_M → Prop} {u : mi_U} {μ : mi_M} (h :
  mp209_86 μ ∧
  (∀ (μ0 : mi_M), mq209_86 μ μ0 →
  mk228_86_6 X Q u 0 μ0)) : mi_cok X 228 [(.inr (.inl (some 86)))] mi_G0 μ u Q :=
  mi_enter (by decide) (by decide) rfl rfl (ms_run (stop := ms228_86) (by decide) rfl (fun _ _ _ _ _ _ h => h) 68 0 _ _ _ _ _ (mc209_86 h.1 (fun μ0 h181 => ((h.2 μ0 h181) _ _ _ _))))
theorem mh228_86_6 {X : mi_X} {Q : mi_R → mi_G → mi_M → Prop} {u : mi_U} {l1 : Int} {μ : mi_M} (h :
  if mi_wr l1 < mi_wr 2 then (
    mk228_86_13 X Q u l1 0 μ)
  else (
    Q (.inl none) mi_G0 μ)) : mk228_86_6 X Q u l1 μ :=
  fun o2 o3 o4 o5 => ms_run (stop := ms228_86) (by decide) rfl (fun _ _ _ _ _ _ h => h) 68 6 _ _ _ _ _ (mi_ite (fun h183 => (h183 _ _ _)) (fun h183 => h183) h)
theorem mh228_86_13 {X : mi_X} {Q : mi_R → mi_G → mi_M → Prop} {u : mi_U} {l1 l2 : Int} {μ : mi_M} (h :
  if mi_wr l2 < mi_wr (μ 87 1) then (
    mk228_86_25 X Q u l1 l2 0 μ)
  else (
    mk228_86_6 X Q u (l1 + 1) μ)) : mk228_86_13 X Q u l1 l2 μ :=
  fun o3 o4 o5 => ms_run (stop := ms228_86) (by decide) rfl (fun _ _ _ _ _ _ h => h) 68 13 _ _ _ _ _ (And.intro (⟨by decide, by decide⟩ : (0 : Int) ≤ 1 ∧ (1 : Int) < 394) (mi_ite (fun h184 => (h184 _ _)) (fun h184 => (h184 _ _ _ _)) h))
theorem mh228_86_25 {X : mi_X} {Q : mi_R → mi_G → mi_M → Prop} {u : mi_U} {l1 l2 l3 : Int} {μ : mi_M} (h :
  if mi_wr l3 < mi_wr (μ 87 0) then (
    mp214_86 l1 l3 l2 μ ∧
    if mi_wr (mv214_86 l1 l3 l2 μ) = 0 then (
      (0 ≤ (mv185 l1 l3 l2 μ) ∧ (mv185 l1 l3 l2 μ) < 384) ∧
      (0 ≤ (mv185 l1 l3 l2 μ) ∧ (mv185 l1 l3 l2 μ) < 384) ∧
      mk228_86_25 X Q u l1 l2 (l3 + 1) (mi_set μ 99 (mv185 l1 l3 l2 μ) (μ 95 (mv185 l1 l3 l2 μ))))
    else (
      if mi_wr (mv214_86 l1 l3 l2 μ) = mi_wr 2 then (
        mp226_86 l1 l3 l2 μ ∧
        (0 ≤ (mv185 l1 l3 l2 μ) ∧ (mv185 l1 l3 l2 μ) < 384) ∧
        mk228_86_25 X Q u l1 l2 (l3 + 1) (mi_set μ 99 (mv185 l1 l3 l2 μ) (mv226_86 l1 l3 l2 μ)))
      else (
        mp227_86 l1 l3 l2 μ ∧
        (0 ≤ (mv185 l1 l3 l2 μ) ∧ (mv185 l1 l3 l2 μ) < 384) ∧
        mk228_86_25 X Q u l1 l2 (l3 + 1) (mi_set μ 99 (mv185 l1 l3 l2 μ) (mv227_86 l1 l3 l2 μ)))))
  else (
    mk228_86_13 X Q u l1 (l2 + 1) μ)) : mk228_86_25 X Q u l1 l2 l3 μ :=
  fun o4 o5 => ms_run (stop := ms228_86) (by decide) rfl (fun _ _ _ _ _ _ h => h) 68 25 _ _ _ _ _ (And.intro (⟨by decide, by decide⟩ : (0 : Int) ≤ 0 ∧ (0 : Int) < 394) (mi_ite (fun h185 => (mc185 (mc214_86 h185.1 (mi_ite (fun h186 => (And.intro h186.1 (And.intro h186.2.1 (h186.2.2 _ _)))) (fun h186 => (mi_ite (fun h187 => (mc226_86 h187.1 (And.intro h187.2.1 (h187.2.2 _ _)))) (fun h187 => (mc227_86 h187.1 (And.intro h187.2.1 (h187.2.2 _ _)))) h186)) h185.2)))) (fun h185 => (h185 _ _ _)) h))
