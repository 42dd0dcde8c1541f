/-! PRINTED by wip/whole/gen/mk33.py -/
-- TwoViews$Matcher.makeCodes()V (66,)
noncomputable def mk31_66_2 (X : mi_X) (Q : mi_R → mi_G → mi_M → Prop) (u : mi_U) (l1 : Int) (μ : mi_M) : Prop := ∀ o2 : Option mi_V, mi_ok X 31 mi_G0 Q 2 [some (.inr (.inl (some 66))), some (.inl l1), o2] [] mi_G0 μ u
noncomputable def mk31_66_15 (X : mi_X) (Q : mi_R → mi_G → mi_M → Prop) (u : mi_U) (l1 l2 : Int) (μ : mi_M) : Prop := mi_ok X 31 mi_G0 Q 15 [some (.inr (.inl (some 66))), some (.inl l1), some (.inl l2)] [] mi_G0 μ u
def ms31_66 (pc : Nat) : Bool := Nat.beq pc 2 || Nat.beq pc 15
theorem me31_66 {X : mi_X} {Q : mi_R → mi_G → mi_M → Prop} {u : mi_U} {μ : mi_M} (h :
  mk31_66_2 X Q u 0 μ) : mi_cok X 31 [(.inr (.inl (some 66)))] mi_G0 μ u Q :=
  mi_enter (by decide) (by decide) rfl rfl (ms_run (stop := ms31_66) (by decide) rfl (fun _ _ _ _ _ _ h => h) 45 0 _ _ _ _ _ (h _))
theorem mh31_66_2 {X : mi_X} {Q : mi_R → mi_G → mi_M → Prop} {u : mi_U} {l1 : Int} {μ : mi_M} (h :
  if mi_wr l1 < mi_wr (μ 1 1) then (
    mk31_66_15 X Q u l1 0 μ)
  else (
    Q (.inl none) mi_G0 μ)) : mk31_66_2 X Q u l1 μ :=
  fun o2 => ms_run (stop := ms31_66) (by decide) rfl (fun _ _ _ _ _ _ h => h) 45 2 _ _ _ _ _ (mi_ite (fun h156 => (h156)) (fun h156 => h156) h)
theorem mh31_66_15 {X : mi_X} {Q : mi_R → mi_G → mi_M → Prop} {u : mi_U} {l1 l2 : Int} {μ : mi_M} (h :
  if mi_wr l2 < mi_wr (μ 1 0) then (
    mp32_66 0 l2 l1 μ ∧
    (0 ≤ (mv136 0 l2 l1 μ) ∧ (mv136 0 l2 l1 μ) < 384) ∧
    mp32_66 1 l2 l1 (mi_set μ 67 (mv136 0 l2 l1 μ) (mv32_66 0 l2 l1 μ)) ∧
    (0 ≤ (mv136 1 l2 l1 (mi_set μ 67 (mv136 0 l2 l1 μ) (mv32_66 0 l2 l1 μ))) ∧ (mv136 1 l2 l1 (mi_set μ 67 (mv136 0 l2 l1 μ) (mv32_66 0 l2 l1 μ))) < 384) ∧
    mk31_66_15 X Q u l1 (l2 + 1) (mi_set (mi_set μ 67 (mv136 0 l2 l1 μ) (mv32_66 0 l2 l1 μ)) 67 (mv136 1 l2 l1 (mi_set μ 67 (mv136 0 l2 l1 μ) (mv32_66 0 l2 l1 μ))) (mv32_66 1 l2 l1 (mi_set μ 67 (mv136 0 l2 l1 μ) (mv32_66 0 l2 l1 μ)))))
  else (
    mk31_66_2 X Q u (l1 + 1) μ)) : mk31_66_15 X Q u l1 l2 μ :=
  ms_run (stop := ms31_66) (by decide) rfl (fun _ _ _ _ _ _ h => h) 45 15 _ _ _ _ _ (mi_ite (fun h157 => (mc136 (mc32_66 h157.1 (And.intro h157.2.1 (mc136 (mc32_66 h157.2.2.1 (And.intro h157.2.2.2.1 (h157.2.2.2.2)))))))) (fun h157 => (h157 _)) h)
-- TwoViewsModel.laysCodes()V (86,)
noncomputable def mk186_86_2 (X : mi_X) (Q : mi_R → mi_G → mi_M → Prop) (u : mi_U) (l1 : Int) (μ : mi_M) : Prop := ∀ o2 : Option mi_V, mi_ok X 186 mi_G0 Q 2 [some (.inr (.inl (some 86))), some (.inl l1), o2] [] mi_G0 μ u
noncomputable def mk186_86_14 (X : mi_X) (Q : mi_R → mi_G → mi_M → Prop) (u : mi_U) (l1 l2 : Int) (μ : mi_M) : Prop := mi_ok X 186 mi_G0 Q 14 [some (.inr (.inl (some 86))), some (.inl l1), some (.inl l2)] [] mi_G0 μ u
def ms186_86 (pc : Nat) : Bool := Nat.beq pc 2 || Nat.beq pc 14
theorem me186_86 {X : mi_X} {Q : mi_R → mi_G → mi_M → Prop} {u : mi_U} {μ : mi_M} (h :
  mk186_86_2 X Q u 0 μ) : mi_cok X 186 [(.inr (.inl (some 86)))] mi_G0 μ u Q :=
  mi_enter (by decide) (by decide) rfl rfl (ms_run (stop := ms186_86) (by decide) rfl (fun _ _ _ _ _ _ h => h) 47 0 _ _ _ _ _ (h _))
theorem mh186_86_2 {X : mi_X} {Q : mi_R → mi_G → mi_M → Prop} {u : mi_U} {l1 : Int} {μ : mi_M} (h :
  if mi_wr l1 < mi_wr (μ 87 1) then (
    mk186_86_14 X Q u l1 0 μ)
  else (
    Q (.inl none) mi_G0 μ)) : mk186_86_2 X Q u l1 μ :=
  fun o2 => ms_run (stop := ms186_86) (by decide) rfl (fun _ _ _ _ _ _ h => h) 47 2 _ _ _ _ _ (And.intro (⟨by decide, by decide⟩ : (0 : Int) ≤ 1 ∧ (1 : Int) < 394) (mi_ite (fun h158 => (h158)) (fun h158 => h158) h))
theorem mh186_86_14 {X : mi_X} {Q : mi_R → mi_G → mi_M → Prop} {u : mi_U} {l1 l2 : Int} {μ : mi_M} (h :
  if mi_wr l2 < mi_wr (μ 87 0) then (
    mp184_86 0 l2 l1 μ ∧
    (0 ≤ (mv185 0 l2 l1 μ) ∧ (mv185 0 l2 l1 μ) < 384) ∧
    mp184_86 1 l2 l1 (mi_set μ 92 (mv185 0 l2 l1 μ) (mv184_86 0 l2 l1 μ)) ∧
    (0 ≤ (mv185 1 l2 l1 (mi_set μ 92 (mv185 0 l2 l1 μ) (mv184_86 0 l2 l1 μ))) ∧ (mv185 1 l2 l1 (mi_set μ 92 (mv185 0 l2 l1 μ) (mv184_86 0 l2 l1 μ))) < 384) ∧
    mk186_86_14 X Q u l1 (l2 + 1) (mi_set (mi_set μ 92 (mv185 0 l2 l1 μ) (mv184_86 0 l2 l1 μ)) 92 (mv185 1 l2 l1 (mi_set μ 92 (mv185 0 l2 l1 μ) (mv184_86 0 l2 l1 μ))) (mv184_86 1 l2 l1 (mi_set μ 92 (mv185 0 l2 l1 μ) (mv184_86 0 l2 l1 μ)))))
  else (
    mk186_86_2 X Q u (l1 + 1) μ)) : mk186_86_14 X Q u l1 l2 μ :=
  ms_run (stop := ms186_86) (by decide) rfl (fun _ _ _ _ _ _ h => h) 47 14 _ _ _ _ _ (And.intro (⟨by decide, by decide⟩ : (0 : Int) ≤ 0 ∧ (0 : Int) < 394) (mi_ite (fun h159 => (mc185 (mc184_86 h159.1 (And.intro h159.2.1 (mc185 (mc184_86 h159.2.2.1 (And.intro h159.2.2.2.1 (h159.2.2.2.2)))))))) (fun h159 => (h159 _)) h))
