/-! PRINTED by wip/whole/gen: heads of methods -/
-- TwoViews.image(I)Z (0,)
noncomputable def mk131_0_15 (X : mi_X) (Q : mi_R → mi_G → mi_M → Prop) (u : mi_U) (l1 : Int) (μ : mi_M) : Prop := mi_ok X 131 mi_G0 Q 15 [some (.inr (.inl (some 0))), some (.inl l1)] [(.inr (.inl (some 43)))] mi_G0 μ u
def ms131_0 (pc : Nat) : Bool := Nat.beq pc 15
theorem me131_0 {X : mi_X} {Q : mi_R → mi_G → mi_M → Prop} {u : mi_U} {a0 : Int} {μ : mi_M} (h :
  if mi_wr (mv134 a0 0 1 μ) = 0 then (
    Q (.inl (some (.inl 0))) mi_G0 μ)
  else (
    mk131_0_15 X Q u a0 μ)) : mi_cok X 131 [(.inr (.inl (some 0))), (.inl a0)] mi_G0 μ u Q :=
  mi_enter (by decide) (by decide) rfl rfl (ms_run (stop := ms131_0) (by decide) rfl (fun _ _ _ _ _ _ h => h) 33 0 _ _ _ _ _ (mc134 (mi_ite (fun h205 => (And.intro (by decide : (0 : Int) = 0 ∨ (0 : Int) = 1) h205)) (fun h205 => (h205)) h)))
theorem mh131_0_15_v0 {X : mi_X} {Q : mi_R → mi_G → mi_M → Prop} {u : mi_U} {μ : mi_M} (h :
  Q (.inl (some (.inl 1))) mi_G0 (mi_set (mm2_48_4 (mm84_45_1 μ)) 44 0 1)) : mk131_0_15 X Q u 0 μ :=
  ms_run (stop := ms131_0) (by decide) rfl (fun _ _ _ _ _ _ h => h) 33 15 _ _ _ _ _ (And.intro (⟨by decide, by decide⟩ : (0 : Int) ≤ 0 ∧ (0 : Int) < 2) (mc84_45_1 (And.intro (⟨by decide, by decide⟩ : (0 : Int) ≤ 0 ∧ (0 : Int) < 2) (mc2_48_4 (And.intro (⟨by decide, by decide⟩ : (0 : Int) ≤ 0 ∧ (0 : Int) < 2) (And.intro (by decide : (1 : Int) = 0 ∨ (1 : Int) = 1) (And.intro (by decide : (1 : Int) = 0 ∨ (1 : Int) = 1) h)))))))
theorem mh131_0_15_v1 {X : mi_X} {Q : mi_R → mi_G → mi_M → Prop} {u : mi_U} {μ : mi_M} (h :
  Q (.inl (some (.inl 1))) mi_G0 (mi_set (mm2_59_4 (mm84_56_1 μ)) 55 0 1)) : mk131_0_15 X Q u 1 μ :=
  ms_run (stop := ms131_0) (by decide) rfl (fun _ _ _ _ _ _ h => h) 33 15 _ _ _ _ _ (And.intro (⟨by decide, by decide⟩ : (0 : Int) ≤ 1 ∧ (1 : Int) < 2) (mc84_56_1 (And.intro (⟨by decide, by decide⟩ : (0 : Int) ≤ 1 ∧ (1 : Int) < 2) (mc2_59_4 (And.intro (⟨by decide, by decide⟩ : (0 : Int) ≤ 1 ∧ (1 : Int) < 2) (And.intro (by decide : (1 : Int) = 0 ∨ (1 : Int) = 1) (And.intro (by decide : (1 : Int) = 0 ∨ (1 : Int) = 1) h)))))))
-- TwoViews.back(I)Z (0,)
noncomputable def mk132_0_13 (X : mi_X) (Q : mi_R → mi_G → mi_M → Prop) (u : mi_U) (l1 : Int) (μ : mi_M) : Prop := mi_ok X 132 mi_G0 Q 13 [some (.inr (.inl (some 0))), some (.inl l1)] [(.inr (.inl (some 43)))] mi_G0 μ u
def ms132_0 (pc : Nat) : Bool := Nat.beq pc 13
theorem me132_0 {X : mi_X} {Q : mi_R → mi_G → mi_M → Prop} {u : mi_U} {a0 : Int} {μ : mi_M} (h :
  if mi_wr (mv134 a0 0 1 μ) = 0 then (
    Q (.inl (some (.inl 0))) mi_G0 μ)
  else (
    mk132_0_13 X Q u a0 μ)) : mi_cok X 132 [(.inr (.inl (some 0))), (.inl a0)] mi_G0 μ u Q :=
  mi_enter (by decide) (by decide) rfl rfl (ms_run (stop := ms132_0) (by decide) rfl (fun _ _ _ _ _ _ h => h) 40 0 _ _ _ _ _ (mc134 (mi_ite (fun h206 => (And.intro (by decide : (0 : Int) = 0 ∨ (0 : Int) = 1) h206)) (fun h206 => (h206)) h)))
theorem mh132_0_13_v0 {X : mi_X} {Q : mi_R → mi_G → mi_M → Prop} {u : mi_U} {μ : mi_M} (h :
  if mi_wr (μ 44 0) = 0 then (
    Q (.inl (some (.inl 0))) mi_G0 μ)
  else (
    Q (.inl (some (.inl 1))) mi_G0 (mm140_0 0 (mi_set (mm2_4_48 (mm84_1_45 μ)) 17 0 0)))) : mk132_0_13 X Q u 0 μ :=
  ms_run (stop := ms132_0) (by decide) rfl (fun _ _ _ _ _ _ h => h) 40 13 _ _ _ _ _ (And.intro (⟨by decide, by decide⟩ : (0 : Int) ≤ 0 ∧ (0 : Int) < 2) (mi_ite (fun h207 => (And.intro (by decide : (0 : Int) = 0 ∨ (0 : Int) = 1) h207)) (fun h207 => (And.intro (⟨by decide, by decide⟩ : (0 : Int) ≤ 0 ∧ (0 : Int) < 2) (mc84_1_45 (And.intro (⟨by decide, by decide⟩ : (0 : Int) ≤ 0 ∧ (0 : Int) < 2) (mc2_4_48 (mc140_0 (And.intro (by decide : (1 : Int) = 0 ∨ (1 : Int) = 1) h207))))))) h))
theorem mh132_0_13_v1 {X : mi_X} {Q : mi_R → mi_G → mi_M → Prop} {u : mi_U} {μ : mi_M} (h :
  if mi_wr (μ 55 0) = 0 then (
    Q (.inl (some (.inl 0))) mi_G0 μ)
  else (
    Q (.inl (some (.inl 1))) mi_G0 (mm140_0 0 (mi_set (mm2_4_59 (mm84_1_56 μ)) 17 0 0)))) : mk132_0_13 X Q u 1 μ :=
  ms_run (stop := ms132_0) (by decide) rfl (fun _ _ _ _ _ _ h => h) 40 13 _ _ _ _ _ (And.intro (⟨by decide, by decide⟩ : (0 : Int) ≤ 1 ∧ (1 : Int) < 2) (mi_ite (fun h208 => (And.intro (by decide : (0 : Int) = 0 ∨ (0 : Int) = 1) h208)) (fun h208 => (And.intro (⟨by decide, by decide⟩ : (0 : Int) ≤ 1 ∧ (1 : Int) < 2) (mc84_1_56 (And.intro (⟨by decide, by decide⟩ : (0 : Int) ≤ 1 ∧ (1 : Int) < 2) (mc2_4_59 (mc140_0 (And.intro (by decide : (1 : Int) = 0 ∨ (1 : Int) = 1) h208))))))) h))
-- TwoViewsModel.image(I)Z (86,)
noncomputable def mk245_86_18 (X : mi_X) (Q : mi_R → mi_G → mi_M → Prop) (u : mi_U) (l1 l2 : Int) (μ : mi_M) : Prop := mi_ok X 245 mi_G0 Q 18 [some (.inr (.inl (some 86))), some (.inl l1), some (.inl l2)] [] mi_G0 μ u
noncomputable def mk245_86_51 (X : mi_X) (Q : mi_R → mi_G → mi_M → Prop) (u : mi_U) (l1 l2 : Int) (μ : mi_M) : Prop := mi_ok X 245 mi_G0 Q 51 [some (.inr (.inl (some 86))), some (.inl l1), some (.inl l2)] [] mi_G0 μ u
def ms245_86 (pc : Nat) : Bool := Nat.beq pc 18 || Nat.beq pc 51
theorem me245_86 {X : mi_X} {Q : mi_R → mi_G → mi_M → Prop} {u : mi_U} {a0 : Int} {μ : mi_M} (h :
  if mi_wr (mv144 a0 0 1 (mi_set μ 86 0 0)) = 0 then (
    Q (.inl (some (.inl 0))) mi_G0 (mi_set μ 86 0 0))
  else (
    mk245_86_18 X Q u a0 0 (mi_set μ 86 0 0))) : mi_cok X 245 [(.inr (.inl (some 86))), (.inl a0)] mi_G0 μ u Q :=
  mi_enter (by decide) (by decide) rfl rfl (ms_run (stop := ms245_86) (by decide) rfl (fun _ _ _ _ _ _ h => h) 74 0 _ _ _ _ _ (mc144 (mi_ite (fun h209 => (And.intro (by decide : (0 : Int) = 0 ∨ (0 : Int) = 1) h209)) (fun h209 => (h209)) h)))
theorem mh245_86_18 {X : mi_X} {Q : mi_R → mi_G → mi_M → Prop} {u : mi_U} {l1 l2 : Int} {μ : mi_M} (h :
  if mi_wr l2 < mi_wr 394 then (
    (0 ≤ l2 ∧ l2 < 394) ∧
    (0 ≤ ((431 * l1) + l2) ∧ ((431 * l1) + l2) < 862) ∧
    mk245_86_18 X Q u l1 (l2 + 1) (mi_set μ 102 ((431 * l1) + l2) (μ 87 l2)))
  else (
    mk245_86_51 X Q u l1 0 μ)) : mk245_86_18 X Q u l1 l2 μ :=
  ms_run (stop := ms245_86) (by decide) rfl (fun _ _ _ _ _ _ h => h) 74 18 _ _ _ _ _ (mi_ite (fun h210 => (And.intro h210.1 (And.intro h210.2.1 (h210.2.2)))) (fun h210 => (h210)) h)
theorem mh245_86_51 {X : mi_X} {Q : mi_R → mi_G → mi_M → Prop} {u : mi_U} {l1 l2 : Int} {μ : mi_M} (h :
  if mi_wr l2 < mi_wr 36 then (
    (0 ≤ l2 ∧ l2 < 36) ∧
    (0 ≤ (((431 * l1) + 394) + l2) ∧ (((431 * l1) + 394) + l2) < 862) ∧
    mk245_86_51 X Q u l1 (l2 + 1) (mi_set μ 102 (((431 * l1) + 394) + l2) (μ 89 l2)))
  else (
    (0 ≤ (((431 * l1) + 394) + 36) ∧ (((431 * l1) + 394) + 36) < 862) ∧
    Q (.inl (some (.inl 1))) mi_G0 (mi_set (mi_set μ 102 (((431 * l1) + 394) + 36) (μ 86 5)) 86 26 (mi_or (μ 86 26) (mi_shl 1 l1))))) : mk245_86_51 X Q u l1 l2 μ :=
  ms_run (stop := ms245_86) (by decide) rfl (fun _ _ _ _ _ _ h => h) 74 51 _ _ _ _ _ (mi_ite (fun h211 => (And.intro h211.1 (And.intro h211.2.1 (h211.2.2)))) (fun h211 => (And.intro h211.1 (And.intro (by decide : (1 : Int) = 0 ∨ (1 : Int) = 1) h211.2))) h)
-- TwoViewsModel.back(I)Z (86,)
noncomputable def mk246_86_29 (X : mi_X) (Q : mi_R → mi_G → mi_M → Prop) (u : mi_U) (l1 l2 : Int) (μ : mi_M) : Prop := mi_ok X 246 mi_G0 Q 29 [some (.inr (.inl (some 86))), some (.inl l1), some (.inl l2)] [] mi_G0 μ u
noncomputable def mk246_86_62 (X : mi_X) (Q : mi_R → mi_G → mi_M → Prop) (u : mi_U) (l1 l2 : Int) (μ : mi_M) : Prop := mi_ok X 246 mi_G0 Q 62 [some (.inr (.inl (some 86))), some (.inl l1), some (.inl l2)] [] mi_G0 μ u
def ms246_86 (pc : Nat) : Bool := Nat.beq pc 29 || Nat.beq pc 62
theorem me246_86 {X : mi_X} {Q : mi_R → mi_G → mi_M → Prop} {u : mi_U} {a0 : Int} {μ : mi_M} (h :
  if mi_wr (mv144 a0 0 1 (mi_set μ 86 0 0)) = 0 then (
    Q (.inl (some (.inl 0))) mi_G0 (mi_set μ 86 0 0))
  else (
    if mi_wr (mi_and (mi_shr (μ 86 26) a0) 1) = 0 then (
      Q (.inl (some (.inl 0))) mi_G0 (mi_set μ 86 0 0))
    else (
      mk246_86_29 X Q u a0 0 (mi_set μ 86 0 0)))) : mi_cok X 246 [(.inr (.inl (some 86))), (.inl a0)] mi_G0 μ u Q :=
  mi_enter (by decide) (by decide) rfl rfl (ms_run (stop := ms246_86) (by decide) rfl (fun _ _ _ _ _ _ h => h) 76 0 _ _ _ _ _ (mc144 (mi_ite (fun h212 => (And.intro (by decide : (0 : Int) = 0 ∨ (0 : Int) = 1) h212)) (fun h212 => (mi_ite (fun h213 => (And.intro (by decide : (0 : Int) = 0 ∨ (0 : Int) = 1) h213)) (fun h213 => (h213)) h212)) h)))
theorem mh246_86_29 {X : mi_X} {Q : mi_R → mi_G → mi_M → Prop} {u : mi_U} {l1 l2 : Int} {μ : mi_M} (h :
  if mi_wr l2 < mi_wr 394 then (
    (0 ≤ ((431 * l1) + l2) ∧ ((431 * l1) + l2) < 862) ∧
    (0 ≤ l2 ∧ l2 < 394) ∧
    mk246_86_29 X Q u l1 (l2 + 1) (mi_set μ 87 l2 (μ 102 ((431 * l1) + l2))))
  else (
    mk246_86_62 X Q u l1 0 μ)) : mk246_86_29 X Q u l1 l2 μ :=
  ms_run (stop := ms246_86) (by decide) rfl (fun _ _ _ _ _ _ h => h) 76 29 _ _ _ _ _ (mi_ite (fun h214 => (And.intro h214.1 (And.intro h214.2.1 (h214.2.2)))) (fun h214 => (h214)) h)
theorem mh246_86_62 {X : mi_X} {Q : mi_R → mi_G → mi_M → Prop} {u : mi_U} {l1 l2 : Int} {μ : mi_M} (h :
  if mi_wr l2 < mi_wr 36 then (
    (0 ≤ (((431 * l1) + 394) + l2) ∧ (((431 * l1) + 394) + l2) < 862) ∧
    (0 ≤ l2 ∧ l2 < 36) ∧
    mk246_86_62 X Q u l1 (l2 + 1) (mi_set μ 89 l2 (μ 102 (((431 * l1) + 394) + l2))))
  else (
    (0 ≤ (((431 * l1) + 394) + 36) ∧ (((431 * l1) + 394) + 36) < 862) ∧
    Q (.inl (some (.inl 1))) mi_G0 (mi_set (mi_set μ 86 5 (μ 102 (((431 * l1) + 394) + 36))) 86 3 0))) : mk246_86_62 X Q u l1 l2 μ :=
  ms_run (stop := ms246_86) (by decide) rfl (fun _ _ _ _ _ _ h => h) 76 62 _ _ _ _ _ (mi_ite (fun h215 => (And.intro h215.1 (And.intro h215.2.1 (h215.2.2)))) (fun h215 => (And.intro h215.1 (And.intro (by decide : (1 : Int) = 0 ∨ (1 : Int) = 1) h215.2))) h)
