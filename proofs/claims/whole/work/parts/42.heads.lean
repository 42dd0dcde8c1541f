/-! PRINTED by wip/whole/gen/mk42.py: ways, first heads -/
-- TwoViews$Matcher.begin(I)V (66,)
noncomputable def mk43_66_2 (X : mi_X) (Q : mi_R → mi_G → mi_M → Prop) (u : mi_U) (l1 l2 : Int) (μ : mi_M) : Prop := mi_ok X 43 mi_G0 Q 2 [some (.inr (.inl (some 66))), some (.inl l1), some (.inl l2)] [] mi_G0 μ u
def ms43_66 (pc : Nat) : Bool := Nat.beq pc 2
theorem me43_66 {X : mi_X} {Q : mi_R → mi_G → mi_M → Prop} {u : mi_U} {a0 : Int} {μ : mi_M} (h :
  mk43_66_2 X Q u a0 0 μ) : mi_cok X 43 [(.inr (.inl (some 66))), (.inl a0)] mi_G0 μ u Q :=
  mi_enter (by decide) (by decide) rfl rfl (ms_run (stop := ms43_66) (by decide) rfl (fun _ _ _ _ _ _ h => h) 26 0 _ _ _ _ _ (h))
theorem mh43_66_2 {X : mi_X} {Q : mi_R → mi_G → mi_M → Prop} {u : mi_U} {l1 l2 : Int} {μ : mi_M} (h :
  if mi_wr (μ 2 0) < mi_wr l2 then (
    Q (.inl none) mi_G0 μ)
  else (
    (0 ≤ (l1 + l2) ∧ (l1 + l2) < 1536) ∧
    (0 ≤ (l1 + l2) ∧ (l1 + l2) < 1536) ∧
    mk43_66_2 X Q u l1 (l2 + 1) (mi_set μ 70 (l1 + l2) (μ 68 (l1 + l2))))) : mk43_66_2 X Q u l1 l2 μ :=
  ms_run (stop := ms43_66) (by decide) rfl (fun _ _ _ _ _ _ h => h) 26 2 _ _ _ _ _ (And.intro (⟨by decide, by decide⟩ : (0 : Int) ≤ 0 ∧ (0 : Int) < 8) (mi_ite (fun h158 => h158) (fun h158 => (And.intro h158.1 (And.intro h158.2.1 (h158.2.2)))) h))
-- TwoViews$Matcher.goOn(II)V (66,)
noncomputable def mk44_66_32 (X : mi_X) (Q : mi_R → mi_G → mi_M → Prop) (u : mi_U) (l1 l2 l3 l4 l5 l6 : Int) (μ : mi_M) : Prop := ∀ o7 o8 : Option mi_V, mi_ok X 44 mi_G0 Q 32 [some (.inr (.inl (some 66))), some (.inl l1), some (.inl l2), some (.inl l3), some (.inl l4), some (.inl l5), some (.inl l6), o7, o8] [] mi_G0 μ u
noncomputable def mk44_66_77 (X : mi_X) (Q : mi_R → mi_G → mi_M → Prop) (u : mi_U) (l1 l2 l3 l4 l5 l6 l7 : Int) (μ : mi_M) : Prop := ∀ o8 : Option mi_V, mi_ok X 44 mi_G0 Q 77 [some (.inr (.inl (some 66))), some (.inl l1), some (.inl l2), some (.inl l3), some (.inl l4), some (.inl l5), some (.inl l6), some (.inl l7), o8] [] mi_G0 μ u
def ms44_66 (pc : Nat) : Bool := Nat.beq pc 32 || Nat.beq pc 77
theorem me44_66 {X : mi_X} {Q : mi_R → mi_G → mi_M → Prop} {u : mi_U} {a0 a1 : Int} {μ : mi_M} (h :
  (0 ≤ a1 ∧ a1 < 1536) ∧
  mk44_66_32 X Q u a0 a1 (μ 2 0) (μ 2 2) (μ 70 a1) 1 μ) : mi_cok X 44 [(.inr (.inl (some 66))), (.inl a0), (.inl a1)] mi_G0 μ u Q :=
  mi_enter (by decide) (by decide) rfl rfl (ms_run (stop := ms44_66) (by decide) rfl (fun _ _ _ _ _ _ h => h) 107 0 _ _ _ _ _ (And.intro (⟨by decide, by decide⟩ : (0 : Int) ≤ 0 ∧ (0 : Int) < 8) (And.intro (⟨by decide, by decide⟩ : (0 : Int) ≤ 2 ∧ (2 : Int) < 8) (And.intro h.1 (h.2 _ _)))))
theorem mh44_66_32 {X : mi_X} {Q : mi_R → mi_G → mi_M → Prop} {u : mi_U} {l1 l2 l3 l4 l5 l6 : Int} {μ : mi_M} (h :
  if mi_wr l3 < mi_wr l6 then (
    mk44_66_77 X Q u l1 l2 l3 l4 l5 (l5 + (μ 2 3)) 0 μ)
  else (
    (0 ≤ (l2 + l6) ∧ (l2 + l6) < 1536) ∧
    mk44_66_32 X Q u l1 l2 l3 l4 (mv261 l5 (μ 70 (l2 + l6)) μ) (l6 + 1) μ)) : mk44_66_32 X Q u l1 l2 l3 l4 l5 l6 μ :=
  fun o7 o8 => ms_run (stop := ms44_66) (by decide) rfl (fun _ _ _ _ _ _ h => h) 107 32 _ _ _ _ _ (mi_ite (fun h159 => (And.intro (⟨by decide, by decide⟩ : (0 : Int) ≤ 3 ∧ (3 : Int) < 8) (h159 _))) (fun h159 => (And.intro h159.1 (mc261 (h159.2 _ _)))) h)
theorem mh44_66_77 {X : mi_X} {Q : mi_R → mi_G → mi_M → Prop} {u : mi_U} {l1 l2 l3 l4 l5 l6 l7 : Int} {μ : mi_M} (h :
  if mi_wr l3 < mi_wr l7 then (
    Q (.inl none) mi_G0 μ)
  else (
    (0 ≤ (l2 + l7) ∧ (l2 + l7) < 1536) ∧
    if 0 < mi_wr l7 then (
      (0 ≤ ((l2 + l7) - 1) ∧ ((l2 + l7) - 1) < 1536) ∧
      if mi_wr l7 < mi_wr l3 then (
        (0 ≤ ((l2 + l7) + 1) ∧ ((l2 + l7) + 1) < 1536) ∧
        (0 ≤ (l1 + l7) ∧ (l1 + l7) < 1536) ∧
        (0 ≤ (l1 + l7) ∧ (l1 + l7) < 1536) ∧
        mk44_66_77 X Q u l1 l2 l3 l4 l5 l6 (l7 + 1) (mi_set μ 70 (l1 + l7) (((μ 68 (l1 + l7)) + (mv261 (mv261 (mv261 l6 (μ 70 (l2 + l7)) μ) ((μ 70 ((l2 + l7) - 1)) + l4) μ) ((μ 70 ((l2 + l7) + 1)) + l4) μ)) - l5)))
      else (
        (0 ≤ (l1 + l7) ∧ (l1 + l7) < 1536) ∧
        (0 ≤ (l1 + l7) ∧ (l1 + l7) < 1536) ∧
        mk44_66_77 X Q u l1 l2 l3 l4 l5 l6 (l7 + 1) (mi_set μ 70 (l1 + l7) (((μ 68 (l1 + l7)) + (mv261 (mv261 l6 (μ 70 (l2 + l7)) μ) ((μ 70 ((l2 + l7) - 1)) + l4) μ)) - l5))))
    else (
      if mi_wr l7 < mi_wr l3 then (
        (0 ≤ ((l2 + l7) + 1) ∧ ((l2 + l7) + 1) < 1536) ∧
        (0 ≤ (l1 + l7) ∧ (l1 + l7) < 1536) ∧
        (0 ≤ (l1 + l7) ∧ (l1 + l7) < 1536) ∧
        mk44_66_77 X Q u l1 l2 l3 l4 l5 l6 (l7 + 1) (mi_set μ 70 (l1 + l7) (((μ 68 (l1 + l7)) + (mv261 (mv261 l6 (μ 70 (l2 + l7)) μ) ((μ 70 ((l2 + l7) + 1)) + l4) μ)) - l5)))
      else (
        (0 ≤ (l1 + l7) ∧ (l1 + l7) < 1536) ∧
        (0 ≤ (l1 + l7) ∧ (l1 + l7) < 1536) ∧
        mk44_66_77 X Q u l1 l2 l3 l4 l5 l6 (l7 + 1) (mi_set μ 70 (l1 + l7) (((μ 68 (l1 + l7)) + (mv261 l6 (μ 70 (l2 + l7)) μ)) - l5)))))) : mk44_66_77 X Q u l1 l2 l3 l4 l5 l6 l7 μ :=
  fun o8 => ms_run (stop := ms44_66) (by decide) rfl (fun _ _ _ _ _ _ h => h) 107 77 _ _ _ _ _ (mi_ite (fun h160 => h160) (fun h160 => (And.intro h160.1 (mc261 (mi_ite (fun h161 => (And.intro h161.1 (mc261 (mi_ite (fun h162 => (And.intro h162.1 (mc261 (And.intro h162.2.1 (And.intro h162.2.2.1 (h162.2.2.2 _)))))) (fun h162 => (And.intro h162.1 (And.intro h162.2.1 (h162.2.2 _)))) h161.2)))) (fun h161 => (mi_ite (fun h163 => (And.intro h163.1 (mc261 (And.intro h163.2.1 (And.intro h163.2.2.1 (h163.2.2.2 _)))))) (fun h163 => (And.intro h163.1 (And.intro h163.2.1 (h163.2.2 _)))) h161)) h160.2)))) h)
-- TwoViewsModel.leastOf([III)I (86, 93)
noncomputable def mk198_86_93_7 (X : mi_X) (Q : mi_R → mi_G → mi_M → Prop) (u : mi_U) (l2 l3 l4 l5 : Int) (μ : mi_M) : Prop := ∀ o6 : Option mi_V, mi_ok X 198 mi_G0 Q 7 [some (.inr (.inl (some 86))), some (.inr (.inl (some 93))), some (.inl l2), some (.inl l3), some (.inl l4), some (.inl l5), o6] [] mi_G0 μ u
def ms198_86_93 (pc : Nat) : Bool := Nat.beq pc 7
theorem me198_86_93 {X : mi_X} {Q : mi_R → mi_G → mi_M → Prop} {u : mi_U} {a0 a1 : Int} {μ : mi_M} (h :
  mk198_86_93_7 X Q u a0 a1 100000000 0 μ) : mi_cok X 198 [(.inr (.inl (some 86))), (.inr (.inl (some 93))), (.inl a0), (.inl a1)] mi_G0 μ u Q :=
  mi_enter (by decide) (by decide) rfl rfl (ms_run (stop := ms198_86_93) (by decide) rfl (fun _ _ _ _ _ _ h => h) 30 0 _ _ _ _ _ (h _))
theorem mh198_86_93_7 {X : mi_X} {Q : mi_R → mi_G → mi_M → Prop} {u : mi_U} {l2 l3 l4 l5 : Int} {μ : mi_M} (h :
  if mi_wr (μ 87 2) < mi_wr l5 then (
    Q (.inl (some (.inl l4))) mi_G0 μ)
  else (
    (0 ≤ (mv197 l2 l3 l5 μ) ∧ (mv197 l2 l3 l5 μ) < 1536) ∧
    mk198_86_93_7 X Q u l2 l3 (if mi_wr (μ 93 (mv197 l2 l3 l5 μ)) < mi_wr l4 then (μ 93 (mv197 l2 l3 l5 μ)) else l4) (l5 + 1) μ)) : mk198_86_93_7 X Q u l2 l3 l4 l5 μ :=
  fun o6 => ms_run (stop := ms198_86_93) (by decide) rfl (fun _ _ _ _ _ _ h => h) 30 7 _ _ _ _ _ (And.intro (⟨by decide, by decide⟩ : (0 : Int) ≤ 2 ∧ (2 : Int) < 394) (mi_ite (fun h164 => h164) (fun h164 => (mc197 (And.intro h164.1 (mi_dt (fun h165 => ((mi_mp (P := fun z => mk198_86_93_7 X Q u l2 l3 z (l5 + 1) μ) h165 h164.2) _)) (fun h165 => ((mi_mn (P := fun z => mk198_86_93_7 X Q u l2 l3 z (l5 + 1) μ) h165 h164.2) _)))))) h))
