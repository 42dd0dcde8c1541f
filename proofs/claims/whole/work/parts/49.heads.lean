/-! PRINTED by wip/whole/gen/mk49.py: ways of the reference -/
-- TwoViewsModel.laysWay(I)V (86,)
noncomputable def mk200_86_13 (X : mi_X) (Q : mi_R → mi_G → mi_M → Prop) (u : mi_U) (l2 l3 l4 : Int) (μ : mi_M) : Prop := ∀ o1 o5 o6 o7 o8 o9 : Option mi_V, mi_ok X 200 mi_G0 Q 13 [some (.inr (.inl (some 86))), o1, some (.inl l2), some (.inl l3), some (.inl l4), o5, o6, o7, o8, o9] [] mi_G0 μ u
noncomputable def mk200_86_27 (X : mi_X) (Q : mi_R → mi_G → mi_M → Prop) (u : mi_U) (l2 l3 l4 l5 : Int) (μ : mi_M) : Prop := ∀ o1 o6 o7 o8 o9 : Option mi_V, mi_ok X 200 mi_G0 Q 27 [some (.inr (.inl (some 86))), o1, some (.inl l2), some (.inl l3), some (.inl l4), some (.inl l5), o6, o7, o8, o9] [] mi_G0 μ u
noncomputable def mk200_86_85 (X : mi_X) (Q : mi_R → mi_G → mi_M → Prop) (u : mi_U) (l2 l3 l4 l5 l6 l7 l8 : Int) (μ : mi_M) : Prop := ∀ o1 o9 : Option mi_V, mi_ok X 200 mi_G0 Q 85 [some (.inr (.inl (some 86))), o1, some (.inl l2), some (.inl l3), some (.inl l4), some (.inl l5), some (.inl l6), some (.inl l7), some (.inl l8), o9] [] mi_G0 μ u
def ms200_86 (pc : Nat) : Bool := Nat.beq pc 13 || Nat.beq pc 27 || Nat.beq pc 85
theorem me200_86 {X : mi_X} {Q : mi_R → mi_G → mi_M → Prop} {u : mi_U} {a0 : Int} {μ : mi_M} (h :
  mk200_86_13 X Q u (mv195 a0 μ) (mv196 a0 μ) 0 μ) : mi_cok X 200 [(.inr (.inl (some 86))), (.inl a0)] mi_G0 μ u Q :=
  mi_enter (by decide) (by decide) rfl rfl (ms_run (stop := ms200_86) (by decide) rfl (fun _ _ _ _ _ _ h => h) 100 0 _ _ _ _ _ (mc195 (mc196 (h _ _ _ _ _ _))))
theorem mh200_86_13 {X : mi_X} {Q : mi_R → mi_G → mi_M → Prop} {u : mi_U} {l2 l3 l4 : Int} {μ : mi_M} (h :
  if mi_wr l4 < mi_wr (μ 87 1) then (
    mk200_86_27 X Q u l2 l3 l4 0 μ)
  else (
    Q (.inl none) mi_G0 μ)) : mk200_86_13 X Q u l2 l3 l4 μ :=
  fun o1 o5 o6 o7 o8 o9 => ms_run (stop := ms200_86) (by decide) rfl (fun _ _ _ _ _ _ h => h) 100 13 _ _ _ _ _ (And.intro (⟨by decide, by decide⟩ : (0 : Int) ≤ 1 ∧ (1 : Int) < 394) (mi_ite (fun h158 => (h158 _ _ _ _ _)) (fun h158 => h158) h))
theorem mh200_86_27 {X : mi_X} {Q : mi_R → mi_G → mi_M → Prop} {u : mi_U} {l2 l3 l4 l5 : Int} {μ : mi_M} (h :
  if mi_wr l5 < mi_wr (μ 87 0) then (
    if mi_wr l3 < 0 then (
      if mi_wr l2 < 0 then (
        mk200_86_85 X Q u l2 l3 l4 l5 (((μ 87 1) - 1) - l4) (((μ 87 0) - 1) - l5) 0 μ)
      else (
        mk200_86_85 X Q u l2 l3 l4 l5 (((μ 87 1) - 1) - l4) l5 0 μ))
    else (
      if mi_wr l2 < 0 then (
        mk200_86_85 X Q u l2 l3 l4 l5 l4 (((μ 87 0) - 1) - l5) 0 μ)
      else (
        mk200_86_85 X Q u l2 l3 l4 l5 l4 l5 0 μ)))
  else (
    mk200_86_13 X Q u l2 l3 (l4 + 1) μ)) : mk200_86_27 X Q u l2 l3 l4 l5 μ :=
  fun o1 o6 o7 o8 o9 => ms_run (stop := ms200_86) (by decide) rfl (fun _ _ _ _ _ _ h => h) 100 27 _ _ _ _ _ (And.intro (⟨by decide, by decide⟩ : (0 : Int) ≤ 0 ∧ (0 : Int) < 394) (mi_ite (fun h159 => (mi_ite (fun h160 => (And.intro (⟨by decide, by decide⟩ : (0 : Int) ≤ 1 ∧ (1 : Int) < 394) (mi_ite (fun h161 => (And.intro (⟨by decide, by decide⟩ : (0 : Int) ≤ 0 ∧ (0 : Int) < 394) (h161 _ _))) (fun h161 => (h161 _ _)) h160))) (fun h160 => (mi_ite (fun h162 => (And.intro (⟨by decide, by decide⟩ : (0 : Int) ≤ 0 ∧ (0 : Int) < 394) (h162 _ _))) (fun h162 => (h162 _ _)) h160)) h159)) (fun h159 => (h159 _ _ _ _ _ _)) h))
theorem mh200_86_85 {X : mi_X} {Q : mi_R → mi_G → mi_M → Prop} {u : mi_U} {l2 l3 l4 l5 l6 l7 l8 : Int} {μ : mi_M} (h :
  if mi_wr (μ 87 2) < mi_wr l8 then (
    mk200_86_27 X Q u l2 l3 l4 (l5 + 1) μ)
  else (
    if mi_wr (mv150_86 (l7 - l2) (l6 - l3) μ) = 0 then (
      mp192_86 l7 l6 l8 μ ∧
      (0 ≤ (mv197 l7 l6 l8 μ) ∧ (mv197 l7 l6 l8 μ) < 1536) ∧
      mk200_86_85 X Q u l2 l3 l4 l5 l6 l7 (l8 + 1) (mi_set μ 93 (mv197 l7 l6 l8 μ) ((mv192_86 l7 l6 l8 μ) + 0)))
    else (
      mp199_86 (l7 - l2) (l6 - l3) l8 μ ∧
      mp192_86 l7 l6 l8 μ ∧
      (0 ≤ (mv197 l7 l6 l8 μ) ∧ (mv197 l7 l6 l8 μ) < 1536) ∧
      mk200_86_85 X Q u l2 l3 l4 l5 l6 l7 (l8 + 1) (mi_set μ 93 (mv197 l7 l6 l8 μ) ((mv192_86 l7 l6 l8 μ) + (mv199_86 (l7 - l2) (l6 - l3) l8 μ)))))) : mk200_86_85 X Q u l2 l3 l4 l5 l6 l7 l8 μ :=
  fun o1 o9 => ms_run (stop := ms200_86) (by decide) rfl (fun _ _ _ _ _ _ h => h) 100 85 _ _ _ _ _ (And.intro (⟨by decide, by decide⟩ : (0 : Int) ≤ 2 ∧ (2 : Int) < 394) (mi_ite (fun h163 => (h163 _ _ _ _ _)) (fun h163 => (mc150_86 (mi_ite (fun h164 => (mc197 (mc192_86 h164.1 (And.intro h164.2.1 (h164.2.2 _ _))))) (fun h164 => (mc199_86 h164.1 (mc197 (mc192_86 h164.2.1 (And.intro h164.2.2.1 (h164.2.2.2 _ _)))))) h163))) h))
