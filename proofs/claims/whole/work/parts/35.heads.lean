/-! PRINTED by wip/whole/gen/mk35.py -/
-- TwoViews$Matcher.wasBefore(III)Z (66,)
noncomputable def mk38_66_20 (X : mi_X) (Q : mi_R → mi_G → mi_M → Prop) (u : mi_U) (l1 l3 l4 l5 l6 : Int) (μ : mi_M) : Prop := ∀ o2 o7 o8 : Option mi_V, mi_ok X 38 mi_G0 Q 20 [some (.inr (.inl (some 66))), some (.inl l1), o2, some (.inl l3), some (.inl l4), some (.inl l5), some (.inl l6), o7, o8] [] mi_G0 μ u
noncomputable def mk38_66_29 (X : mi_X) (Q : mi_R → mi_G → mi_M → Prop) (u : mi_U) (l1 l3 l4 l5 l6 l7 : Int) (μ : mi_M) : Prop := ∀ o2 o8 : Option mi_V, mi_ok X 38 mi_G0 Q 29 [some (.inr (.inl (some 66))), some (.inl l1), o2, some (.inl l3), some (.inl l4), some (.inl l5), some (.inl l6), some (.inl l7), o8] [] mi_G0 μ u
def ms38_66 (pc : Nat) : Bool := Nat.beq pc 20 || Nat.beq pc 29
theorem me38_66 {X : mi_X} {Q : mi_R → mi_G → mi_M → Prop} {u : mi_U} {a0 a1 a2 : Int} {μ : mi_M} (h :
  (0 ≤ (mv136 a0 a1 a2 μ) ∧ (mv136 a0 a1 a2 μ) < 384) ∧
  mk38_66_20 X Q u a0 a2 (mv136 a0 a1 a2 μ) (μ 67 (mv136 a0 a1 a2 μ)) 0 μ) : mi_cok X 38 [(.inr (.inl (some 66))), (.inl a0), (.inl a1), (.inl a2)] mi_G0 μ u Q :=
  mi_enter (by decide) (by decide) rfl rfl (ms_run (stop := ms38_66) (by decide) rfl (fun _ _ _ _ _ _ h => h) 48 0 _ _ _ _ _ (mc136 (And.intro h.1 (h.2 _ _ _))))
theorem mh38_66_20 {X : mi_X} {Q : mi_R → mi_G → mi_M → Prop} {u : mi_U} {l1 l3 l4 l5 l6 : Int} {μ : mi_M} (h :
  if mi_wr l3 < mi_wr l6 then (
    Q (.inl (some (.inl 0))) mi_G0 μ)
  else (
    mk38_66_29 X Q u l1 l3 l4 l5 l6 0 μ)) : mk38_66_20 X Q u l1 l3 l4 l5 l6 μ :=
  fun o2 o7 o8 => ms_run (stop := ms38_66) (by decide) rfl (fun _ _ _ _ _ _ h => h) 48 20 _ _ _ _ _ (mi_ite (fun h156 => (And.intro (by decide : (0 : Int) = 0 ∨ (0 : Int) = 1) h156)) (fun h156 => (h156 _ _)) h)
theorem mh38_66_29 {X : mi_X} {Q : mi_R → mi_G → mi_M → Prop} {u : mi_U} {l1 l3 l4 l5 l6 l7 : Int} {μ : mi_M} (h :
  if mi_wr l7 < mi_wr (μ 1 0) then (
    if mi_wr (mv136 l1 l7 l6 μ) < mi_wr l4 then (
      (0 ≤ (mv136 l1 l7 l6 μ) ∧ (mv136 l1 l7 l6 μ) < 384) ∧
      if mi_wr (μ 67 (mv136 l1 l7 l6 μ)) = mi_wr l5 then (
        Q (.inl (some (.inl 1))) mi_G0 μ)
      else (
        mk38_66_29 X Q u l1 l3 l4 l5 l6 (l7 + 1) μ))
    else (
      Q (.inl (some (.inl 0))) mi_G0 μ))
  else (
    mk38_66_20 X Q u l1 l3 l4 l5 (l6 + 1) μ)) : mk38_66_29 X Q u l1 l3 l4 l5 l6 l7 μ :=
  fun o2 o8 => ms_run (stop := ms38_66) (by decide) rfl (fun _ _ _ _ _ _ h => h) 48 29 _ _ _ _ _ (mi_ite (fun h157 => (mc136 (mi_ite (fun h158 => (And.intro h158.1 (mi_ite (fun h159 => (And.intro (by decide : (1 : Int) = 0 ∨ (1 : Int) = 1) h159)) (fun h159 => (h159 _ _)) h158.2))) (fun h158 => (And.intro (by decide : (0 : Int) = 0 ∨ (0 : Int) = 1) h158)) h157))) (fun h157 => (h157 _ _ _)) h)
-- TwoViewsModel.isFirst(III)Z (86,)
noncomputable def mk189_86_3 (X : mi_X) (Q : mi_R → mi_G → mi_M → Prop) (u : mi_U) (l1 l2 l3 l4 : Int) (μ : mi_M) : Prop := ∀ o5 : Option mi_V, mi_ok X 189 mi_G0 Q 3 [some (.inr (.inl (some 86))), some (.inl l1), some (.inl l2), some (.inl l3), some (.inl l4), o5] [] mi_G0 μ u
noncomputable def mk189_86_12 (X : mi_X) (Q : mi_R → mi_G → mi_M → Prop) (u : mi_U) (l1 l2 l3 l4 l5 : Int) (μ : mi_M) : Prop := mi_ok X 189 mi_G0 Q 12 [some (.inr (.inl (some 86))), some (.inl l1), some (.inl l2), some (.inl l3), some (.inl l4), some (.inl l5)] [] mi_G0 μ u
def ms189_86 (pc : Nat) : Bool := Nat.beq pc 3 || Nat.beq pc 12
theorem me189_86 {X : mi_X} {Q : mi_R → mi_G → mi_M → Prop} {u : mi_U} {a0 a1 a2 : Int} {μ : mi_M} (h :
  mk189_86_3 X Q u a0 a1 a2 0 μ) : mi_cok X 189 [(.inr (.inl (some 86))), (.inl a0), (.inl a1), (.inl a2)] mi_G0 μ u Q :=
  mi_enter (by decide) (by decide) rfl rfl (ms_run (stop := ms189_86) (by decide) rfl (fun _ _ _ _ _ _ h => h) 44 0 _ _ _ _ _ (h _))
theorem mh189_86_3 {X : mi_X} {Q : mi_R → mi_G → mi_M → Prop} {u : mi_U} {l1 l2 l3 l4 : Int} {μ : mi_M} (h :
  if mi_wr l3 < mi_wr l4 then (
    Q (.inl (some (.inl 1))) mi_G0 μ)
  else (
    mk189_86_12 X Q u l1 l2 l3 l4 0 μ)) : mk189_86_3 X Q u l1 l2 l3 l4 μ :=
  fun o5 => ms_run (stop := ms189_86) (by decide) rfl (fun _ _ _ _ _ _ h => h) 44 3 _ _ _ _ _ (mi_ite (fun h160 => (And.intro (by decide : (1 : Int) = 0 ∨ (1 : Int) = 1) h160)) (fun h160 => (h160)) h)
theorem mh189_86_12 {X : mi_X} {Q : mi_R → mi_G → mi_M → Prop} {u : mi_U} {l1 l2 l3 l4 l5 : Int} {μ : mi_M} (h :
  if mi_wr l5 < mi_wr (μ 87 0) then (
    if mi_wr l4 < mi_wr l3 then (
      (0 ≤ (mv185 l1 l5 l4 μ) ∧ (mv185 l1 l5 l4 μ) < 384) ∧
      (0 ≤ (mv185 l1 l2 l3 μ) ∧ (mv185 l1 l2 l3 μ) < 384) ∧
      if mi_wr (μ 92 (mv185 l1 l5 l4 μ)) = mi_wr (μ 92 (mv185 l1 l2 l3 μ)) then (
        Q (.inl (some (.inl 0))) mi_G0 μ)
      else (
        mk189_86_12 X Q u l1 l2 l3 l4 (l5 + 1) μ))
    else (
      if mi_wr l5 < mi_wr l2 then (
        (0 ≤ (mv185 l1 l5 l4 μ) ∧ (mv185 l1 l5 l4 μ) < 384) ∧
        (0 ≤ (mv185 l1 l2 l3 μ) ∧ (mv185 l1 l2 l3 μ) < 384) ∧
        if mi_wr (μ 92 (mv185 l1 l5 l4 μ)) = mi_wr (μ 92 (mv185 l1 l2 l3 μ)) then (
          Q (.inl (some (.inl 0))) mi_G0 μ)
        else (
          mk189_86_12 X Q u l1 l2 l3 l4 (l5 + 1) μ))
      else (
        mk189_86_3 X Q u l1 l2 l3 (l4 + 1) μ)))
  else (
    mk189_86_3 X Q u l1 l2 l3 (l4 + 1) μ)) : mk189_86_12 X Q u l1 l2 l3 l4 l5 μ :=
  ms_run (stop := ms189_86) (by decide) rfl (fun _ _ _ _ _ _ h => h) 44 12 _ _ _ _ _ (And.intro (⟨by decide, by decide⟩ : (0 : Int) ≤ 0 ∧ (0 : Int) < 394) (mi_ite (fun h161 => (mi_ite (fun h162 => (mc185 (And.intro h162.1 (mc185 (And.intro h162.2.1 (mi_ite (fun h163 => (And.intro (by decide : (0 : Int) = 0 ∨ (0 : Int) = 1) h163)) (fun h163 => (h163)) h162.2.2)))))) (fun h162 => (mi_ite (fun h164 => (mc185 (And.intro h164.1 (mc185 (And.intro h164.2.1 (mi_ite (fun h165 => (And.intro (by decide : (0 : Int) = 0 ∨ (0 : Int) = 1) h165)) (fun h165 => (h165)) h164.2.2)))))) (fun h164 => (h164 _)) h162)) h161)) (fun h161 => (h161 _)) h))
-- TwoViewsModel.bitsOf(I)I ()
noncomputable def mk191_4 (X : mi_X) (Q : mi_R → mi_G → mi_M → Prop) (u : mi_U) (l1 l2 : Int) (μ : mi_M) : Prop := ∀ o0 : Option mi_V, mi_ok X 191 mi_G0 Q 4 [o0, some (.inl l1), some (.inl l2)] [] mi_G0 μ u
def ms191 (pc : Nat) : Bool := Nat.beq pc 4
theorem me191 {X : mi_X} {Q : mi_R → mi_G → mi_M → Prop} {u : mi_U} {a0 : Int} {μ : mi_M} (h :
  mk191_4 X Q u 0 a0 μ) : mi_cok X 191 [(.inl a0)] mi_G0 μ u Q :=
  mi_enter (by decide) (by decide) rfl rfl (ms_run (stop := ms191) (by decide) rfl (fun _ _ _ _ _ _ h => h) 18 0 _ _ _ _ _ (h _))
theorem mh191_4 {X : mi_X} {Q : mi_R → mi_G → mi_M → Prop} {u : mi_U} {l1 l2 : Int} {μ : mi_M} (h :
  if mi_wr l2 = 0 then (
    Q (.inl (some (.inl l1))) mi_G0 μ)
  else (
    mk191_4 X Q u (l1 + 1) (mi_and l2 (l2 - 1)) μ)) : mk191_4 X Q u l1 l2 μ :=
  fun o0 => ms_run (stop := ms191) (by decide) rfl (fun _ _ _ _ _ _ h => h) 18 4 _ _ _ _ _ (mi_ite (fun h166 => h166) (fun h166 => (h166 _)) h)
