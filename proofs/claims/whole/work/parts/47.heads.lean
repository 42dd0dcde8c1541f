/-! PRINTED by wip/whole/gen/mk47.py: ways -/
-- TwoViewsModel.tellsBy(III)I (86,)
noncomputable def mk199_86_67 (X : mi_X) (Q : mi_R → mi_G → mi_M → Prop) (u : mi_U) (l1 l2 l3 l4 l5 : Int) (μ : mi_M) : Prop := ∀ o6 : Option mi_V, mi_ok X 199 mi_G0 Q 67 [some (.inr (.inl (some 86))), some (.inl l1), some (.inl l2), some (.inl l3), some (.inl l4), some (.inl l5), o6] [] mi_G0 μ u
noncomputable def mk199_86_115 (X : mi_X) (Q : mi_R → mi_G → mi_M → Prop) (u : mi_U) (l4 l5 : Int) (μ : mi_M) : Prop := ∀ o1 o2 o3 o6 : Option mi_V, mi_ok X 199 mi_G0 Q 115 [some (.inr (.inl (some 86))), o1, o2, o3, some (.inl l4), some (.inl l5), o6] [] mi_G0 μ u
def ms199_86 (pc : Nat) : Bool := Nat.beq pc 67 || Nat.beq pc 115
theorem me199_86 {X : mi_X} {Q : mi_R → mi_G → mi_M → Prop} {u : mi_U} {a0 a1 a2 : Int} {μ : mi_M} (h :
  mp198_86_93 a0 a1 μ ∧
  (0 ≤ (mv197 a0 a1 a2 μ) ∧ (mv197 a0 a1 a2 μ) < 1536) ∧
  if 0 < mi_wr a2 then (
    (0 ≤ (mv197 a0 a1 (a2 - 1) μ) ∧ (mv197 a0 a1 (a2 - 1) μ) < 1536) ∧
    mk199_86_67 X Q u a0 a1 a2 (mv198_86_93 a0 a1 μ) (if mi_wr ((μ 93 (mv197 a0 a1 (a2 - 1) μ)) + (μ 87 4)) < mi_wr (μ 93 (mv197 a0 a1 a2 μ)) then ((μ 93 (mv197 a0 a1 (a2 - 1) μ)) + (μ 87 4)) else (μ 93 (mv197 a0 a1 a2 μ))) μ)
  else (
    mk199_86_67 X Q u a0 a1 a2 (mv198_86_93 a0 a1 μ) (μ 93 (mv197 a0 a1 a2 μ)) μ)) : mi_cok X 199 [(.inr (.inl (some 86))), (.inl a0), (.inl a1), (.inl a2)] mi_G0 μ u Q :=
  mi_enter (by decide) (by decide) rfl rfl (ms_run (stop := ms199_86) (by decide) rfl (fun _ _ _ _ _ _ h => h) 90 0 _ _ _ _ _ (mc198_86_93 h.1 (mc197 (And.intro h.2.1 (mi_ite (fun h158 => (mc197 (And.intro h158.1 (And.intro (⟨by decide, by decide⟩ : (0 : Int) ≤ 4 ∧ (4 : Int) < 394) (mi_dt (fun h159 => ((mi_mp (P := fun z => mk199_86_67 X Q u a0 a1 a2 (mv198_86_93 a0 a1 μ) z μ) h159 h158.2) _)) (fun h159 => ((mi_mn (P := fun z => mk199_86_67 X Q u a0 a1 a2 (mv198_86_93 a0 a1 μ) z μ) h159 h158.2) _))))))) (fun h158 => (h158 _)) h.2.2)))))
theorem mh199_86_67 {X : mi_X} {Q : mi_R → mi_G → mi_M → Prop} {u : mi_U} {l1 l2 l3 l4 l5 : Int} {μ : mi_M} (h :
  if mi_wr l3 < mi_wr (μ 87 2) then (
    (0 ≤ (mv197 l1 l2 (l3 + 1) μ) ∧ (mv197 l1 l2 (l3 + 1) μ) < 1536) ∧
    mk199_86_115 X Q u l4 (if mi_wr ((μ 93 (mv197 l1 l2 (l3 + 1) μ)) + (μ 87 4)) < mi_wr l5 then ((μ 93 (mv197 l1 l2 (l3 + 1) μ)) + (μ 87 4)) else l5) μ)
  else (
    mk199_86_115 X Q u l4 l5 μ)) : mk199_86_67 X Q u l1 l2 l3 l4 l5 μ :=
  fun o6 => ms_run (stop := ms199_86) (by decide) rfl (fun _ _ _ _ _ _ h => h) 90 67 _ _ _ _ _ (And.intro (⟨by decide, by decide⟩ : (0 : Int) ≤ 2 ∧ (2 : Int) < 394) (mi_ite (fun h160 => (mc197 (And.intro h160.1 (And.intro (⟨by decide, by decide⟩ : (0 : Int) ≤ 4 ∧ (4 : Int) < 394) (mi_dt (fun h161 => ((mi_mp (P := fun z => mk199_86_115 X Q u l4 z μ) h161 h160.2) _ _ _ _)) (fun h161 => ((mi_mn (P := fun z => mk199_86_115 X Q u l4 z μ) h161 h160.2) _ _ _ _))))))) (fun h160 => (h160 _ _ _ _)) h))
theorem mh199_86_115 {X : mi_X} {Q : mi_R → mi_G → mi_M → Prop} {u : mi_U} {l4 l5 : Int} {μ : mi_M} (h :
  if mi_wr (l4 + (μ 87 5)) < mi_wr l5 then (
    Q (.inl (some (.inl ((l4 + (μ 87 5)) - l4)))) mi_G0 μ)
  else (
    Q (.inl (some (.inl (l5 - l4)))) mi_G0 μ)) : mk199_86_115 X Q u l4 l5 μ :=
  fun o1 o2 o3 o6 => ms_run (stop := ms199_86) (by decide) rfl (fun _ _ _ _ _ _ h => h) 90 115 _ _ _ _ _ (And.intro (⟨by decide, by decide⟩ : (0 : Int) ≤ 5 ∧ (5 : Int) < 394) (mi_ite (fun h162 => (And.intro (⟨by decide, by decide⟩ : (0 : Int) ≤ 5 ∧ (5 : Int) < 394) h162)) (fun h162 => h162) h))
-- TwoViews$Matcher.tell(I)V (66,)
noncomputable def mk42_66_24 (X : mi_X) (Q : mi_R → mi_G → mi_M → Prop) (u : mi_U) (l1 l2 l3 l4 : Int) (μ : mi_M) : Prop := ∀ o5 o6 o7 : Option mi_V, mi_ok X 42 mi_G0 Q 24 [some (.inr (.inl (some 66))), some (.inl l1), some (.inl l2), some (.inl l3), some (.inl l4), o5, o6, o7] [] mi_G0 μ u
noncomputable def mk42_66_62 (X : mi_X) (Q : mi_R → mi_G → mi_M → Prop) (u : mi_U) (l1 l2 l3 l4 l5 l6 : Int) (μ : mi_M) : Prop := ∀ o7 : Option mi_V, mi_ok X 42 mi_G0 Q 62 [some (.inr (.inl (some 66))), some (.inl l1), some (.inl l2), some (.inl l3), some (.inl l4), some (.inl l5), some (.inl l6), o7] [] mi_G0 μ u
def ms42_66 (pc : Nat) : Bool := Nat.beq pc 24 || Nat.beq pc 62
theorem me42_66 {X : mi_X} {Q : mi_R → mi_G → mi_M → Prop} {u : mi_U} {a0 : Int} {μ : mi_M} (h :
  if mi_wr (μ 66 5) = mi_wr a0 then (
    Q (.inl none) mi_G0 μ)
  else (
    (0 ≤ a0 ∧ a0 < 8) ∧
    (0 ≤ a0 ∧ a0 < 8) ∧
    mk42_66_24 X Q u a0 (mi_ro X 1003 a0) (mi_ro X 1004 a0) 0 μ)) : mi_cok X 42 [(.inr (.inl (some 66))), (.inl a0)] mi_G0 μ u Q :=
  mi_enter (by decide) (by decide) rfl rfl (ms_run (stop := ms42_66) (by decide) rfl (fun _ _ _ _ _ _ h => h) 92 0 _ _ _ _ _ (mi_ite (fun h163 => h163) (fun h163 => (And.intro h163.1 (And.intro h163.2.1 (h163.2.2 _ _ _)))) h))
theorem mh42_66_24 {X : mi_X} {Q : mi_R → mi_G → mi_M → Prop} {u : mi_U} {l1 l2 l3 l4 : Int} {μ : mi_M} (h :
  if mi_wr l4 < mi_wr (μ 1 1) then (
    mk42_66_62 X Q u l1 l2 l3 l4 (if mi_wr l3 < 0 then (((μ 1 1) - 1) - l4) else l4) 0 μ)
  else (
    Q (.inl none) mi_G0 (mi_set μ 66 5 l1))) : mk42_66_24 X Q u l1 l2 l3 l4 μ :=
  fun o5 o6 o7 => ms_run (stop := ms42_66) (by decide) rfl (fun _ _ _ _ _ _ h => h) 92 24 _ _ _ _ _ (mi_ite (fun h164 => (mi_dt (fun h165 => ((mi_mp (P := fun z => mk42_66_62 X Q u l1 l2 l3 l4 z 0 μ) h165 h164) _)) (fun h165 => ((mi_mn (P := fun z => mk42_66_62 X Q u l1 l2 l3 l4 z 0 μ) h165 h164) _)))) (fun h164 => h164) h)
theorem mh42_66_62 {X : mi_X} {Q : mi_R → mi_G → mi_M → Prop} {u : mi_U} {l1 l2 l3 l4 l5 l6 : Int} {μ : mi_M} (h :
  if mi_wr l6 < mi_wr (μ 1 0) then (
    if mi_wr l2 < 0 then (
      if mi_wr (mv86_1 ((((μ 1 0) - 1) - l6) - l2) (l5 - l3) μ) = 0 then (
        mp43_66 (mv137 (((μ 1 0) - 1) - l6) l5 0 μ) μ ∧
        (∀ (μ2 : mi_M), mq43_66 (mv137 (((μ 1 0) - 1) - l6) l5 0 μ) μ μ2 →
        mk42_66_62 X Q u l1 l2 l3 l4 l5 (l6 + 1) μ2))
      else (
        mp44_66 (mv137 (((μ 1 0) - 1) - l6) l5 0 μ) (mv137 ((((μ 1 0) - 1) - l6) - l2) (l5 - l3) 0 μ) μ ∧
        (∀ (μ3 : mi_M), mq44_66 (mv137 (((μ 1 0) - 1) - l6) l5 0 μ) (mv137 ((((μ 1 0) - 1) - l6) - l2) (l5 - l3) 0 μ) μ μ3 →
        mk42_66_62 X Q u l1 l2 l3 l4 l5 (l6 + 1) μ3)))
    else (
      if mi_wr (mv86_1 (l6 - l2) (l5 - l3) μ) = 0 then (
        mp43_66 (mv137 l6 l5 0 μ) μ ∧
        (∀ (μ0 : mi_M), mq43_66 (mv137 l6 l5 0 μ) μ μ0 →
        mk42_66_62 X Q u l1 l2 l3 l4 l5 (l6 + 1) μ0))
      else (
        mp44_66 (mv137 l6 l5 0 μ) (mv137 (l6 - l2) (l5 - l3) 0 μ) μ ∧
        (∀ (μ1 : mi_M), mq44_66 (mv137 l6 l5 0 μ) (mv137 (l6 - l2) (l5 - l3) 0 μ) μ μ1 →
        mk42_66_62 X Q u l1 l2 l3 l4 l5 (l6 + 1) μ1))))
  else (
    mk42_66_24 X Q u l1 l2 l3 (l4 + 1) μ)) : mk42_66_62 X Q u l1 l2 l3 l4 l5 l6 μ :=
  fun o7 => ms_run (stop := ms42_66) (by decide) rfl (fun _ _ _ _ _ _ h => h) 92 62 _ _ _ _ _ (mi_ite (fun h166 => (mi_ite (fun h167 => (mc86_1 (mi_ite (fun h168 => (mc137 (mc43_66 h168.1 (fun μ2 h169 => ((h168.2 μ2 h169) _))))) (fun h168 => (mc137 (mc137 (mc44_66 h168.1 (fun μ3 h171 => ((h168.2 μ3 h171) _)))))) h167))) (fun h167 => (mc86_1 (mi_ite (fun h173 => (mc137 (mc43_66 h173.1 (fun μ0 h174 => ((h173.2 μ0 h174) _))))) (fun h173 => (mc137 (mc137 (mc44_66 h173.1 (fun μ1 h176 => ((h173.2 μ1 h176) _)))))) h167))) h166)) (fun h166 => (h166 _ _ _)) h)
