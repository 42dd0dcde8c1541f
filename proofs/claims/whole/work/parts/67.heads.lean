/-! PRINTED by wip/whole/gen: heads of methods -/
-- TwoViews$Pieces.grow(III)V (76,)
noncomputable def mk50_76_25 (X : mi_X) (Q : mi_R → mi_G → mi_M → Prop) (u : mi_U) (l1 l4 l5 : Int) (μ : mi_M) : Prop := ∀ o2 o3 : Option mi_V, mi_ok X 50 mi_G0 Q 25 [some (.inr (.inl (some 76))), some (.inl l1), o2, o3, some (.inl l4), some (.inl l5)] [] mi_G0 μ u
def ms50_76 (pc : Nat) : Bool := Nat.beq pc 25
theorem me50_76 {X : mi_X} {Q : mi_R → mi_G → mi_M → Prop} {u : mi_U} {a0 a1 a2 : Int} {μ : mi_M} (h :
  (0 ≤ a0 ∧ a0 < 2) ∧
  mp51_76 a0 a1 a2 (μ 79 a0) (mi_set μ 76 6 0) ∧
  mk50_76_25 X Q u a0 (μ 79 a0) 0 (mm51_76 a0 a1 a2 (μ 79 a0) (mi_set μ 76 6 0))) : mi_cok X 50 [(.inr (.inl (some 76))), (.inl a0), (.inl a1), (.inl a2)] mi_G0 μ u Q :=
  mi_enter (by decide) (by decide) rfl rfl (ms_run (stop := ms50_76) (by decide) rfl (fun _ _ _ _ _ _ h => h) 53 0 _ _ _ _ _ (And.intro h.1 (mc51_76 h.2.1 (h.2.2 _ _))))
theorem mh50_76_25 {X : mi_X} {Q : mi_R → mi_G → mi_M → Prop} {u : mi_U} {l1 l4 l5 : Int} {μ : mi_M} (h :
  if mi_wr l5 < mi_wr (μ 76 6) then (
    if mi_wr l5 < mi_wr 192 then (
      (0 ≤ l5 ∧ l5 < 192) ∧
      (∀ Q_ : mi_R → mi_G → mi_M → Prop, (∀ (μ0 : mi_M), (mk50_76_25 X Q u l1 l4 (l5 + 1) μ0) → Q_ (.inl none) mi_G0 μ0) → mi_cok X 52 [(.inr (.inl (some 76))), (.inl l1), (.inl (μ 80 l5)), (.inl l4)] mi_G0 μ (0, 0) Q_))
    else (
      (0 ≤ ((l1 * 192) + l4) ∧ ((l1 * 192) + l4) < 384) ∧
      (0 ≤ l1 ∧ l1 < 2) ∧
      Q (.inl none) mi_G0 (mi_set (mi_set μ 78 ((l1 * 192) + l4) (μ 76 6)) 79 l1 (l4 + 1))))
  else (
    (0 ≤ ((l1 * 192) + l4) ∧ ((l1 * 192) + l4) < 384) ∧
    (0 ≤ l1 ∧ l1 < 2) ∧
    Q (.inl none) mi_G0 (mi_set (mi_set μ 78 ((l1 * 192) + l4) (μ 76 6)) 79 l1 (l4 + 1)))) : mk50_76_25 X Q u l1 l4 l5 μ :=
  fun o2 o3 => ms_run (stop := ms50_76) (by decide) rfl (fun _ _ _ _ _ _ h => h) 53 25 _ _ _ _ _ (mi_ite (fun h158 => (mi_ite (fun h159 => (And.intro h159.1 (h159.2 _ (fun μ0 h160 => (h160 _ _))))) (fun h159 => (And.intro h159.1 (And.intro h159.2.1 h159.2.2))) h158)) (fun h158 => (And.intro h158.1 (And.intro h158.2.1 h158.2.2))) h)
-- TwoViewsModel.laysKinds()V (86,)
noncomputable def mk209_86_6 (X : mi_X) (Q : mi_R → mi_G → mi_M → Prop) (u : mi_U) (l1 : Int) (μ : mi_M) : Prop := ∀ o2 : Option mi_V, mi_ok X 209 mi_G0 Q 6 [some (.inr (.inl (some 86))), some (.inl l1), o2] [] mi_G0 μ u
noncomputable def mk209_86_18 (X : mi_X) (Q : mi_R → mi_G → mi_M → Prop) (u : mi_U) (l1 l2 : Int) (μ : mi_M) : Prop := mi_ok X 209 mi_G0 Q 18 [some (.inr (.inl (some 86))), some (.inl l1), some (.inl l2)] [] mi_G0 μ u
def ms209_86 (pc : Nat) : Bool := Nat.beq pc 6 || Nat.beq pc 18
theorem me209_86 {X : mi_X} {Q : mi_R → mi_G → mi_M → Prop} {u : mi_U} {μ : mi_M} (h :
  mp206_86 μ ∧
  (∀ (μ0 : mi_M), mq206_86 μ μ0 →
  mk209_86_6 X Q u 0 μ0)) : mi_cok X 209 [(.inr (.inl (some 86)))] mi_G0 μ u Q :=
  mi_enter (by decide) (by decide) rfl rfl (ms_run (stop := ms209_86) (by decide) rfl (fun _ _ _ _ _ _ h => h) 55 0 _ _ _ _ _ (mc206_86 h.1 (fun μ0 h161 => ((h.2 μ0 h161) _))))
theorem mh209_86_6 {X : mi_X} {Q : mi_R → mi_G → mi_M → Prop} {u : mi_U} {l1 : Int} {μ : mi_M} (h :
  if mi_wr l1 < mi_wr (μ 87 1) then (
    mk209_86_18 X Q u l1 0 μ)
  else (
    mp212_86 0 μ ∧
    (∀ (μ0 : mi_M), mq212_86 0 μ μ0 →
    mp212_86 1 μ0 ∧
    (∀ (μ1 : mi_M), mq212_86 1 μ0 μ1 →
    Q (.inl none) mi_G0 μ1)))) : mk209_86_6 X Q u l1 μ :=
  fun o2 => ms_run (stop := ms209_86) (by decide) rfl (fun _ _ _ _ _ _ h => h) 55 6 _ _ _ _ _ (And.intro (⟨by decide, by decide⟩ : (0 : Int) ≤ 1 ∧ (1 : Int) < 394) (mi_ite (fun h163 => (h163)) (fun h163 => (mc212_86 h163.1 (fun μ0 h164 => (have h165 := (h163.2 μ0 h164); (mc212_86 h165.1 (fun μ1 h166 => (h165.2 μ1 h166))))))) h))
theorem mh209_86_18 {X : mi_X} {Q : mi_R → mi_G → mi_M → Prop} {u : mi_U} {l1 l2 : Int} {μ : mi_M} (h :
  if mi_wr l2 < mi_wr (μ 87 0) then (
    mp208_86 0 l2 l1 μ ∧
    (0 ≤ (mv185 0 l2 l1 μ) ∧ (mv185 0 l2 l1 μ) < 384) ∧
    mp208_86 1 l2 l1 (mi_set μ 96 (mv185 0 l2 l1 μ) (mv208_86 0 l2 l1 μ)) ∧
    (0 ≤ (mv185 1 l2 l1 (mi_set μ 96 (mv185 0 l2 l1 μ) (mv208_86 0 l2 l1 μ))) ∧ (mv185 1 l2 l1 (mi_set μ 96 (mv185 0 l2 l1 μ) (mv208_86 0 l2 l1 μ))) < 384) ∧
    mk209_86_18 X Q u l1 (l2 + 1) (mi_set (mi_set μ 96 (mv185 0 l2 l1 μ) (mv208_86 0 l2 l1 μ)) 96 (mv185 1 l2 l1 (mi_set μ 96 (mv185 0 l2 l1 μ) (mv208_86 0 l2 l1 μ))) (mv208_86 1 l2 l1 (mi_set μ 96 (mv185 0 l2 l1 μ) (mv208_86 0 l2 l1 μ)))))
  else (
    mk209_86_6 X Q u (l1 + 1) μ)) : mk209_86_18 X Q u l1 l2 μ :=
  ms_run (stop := ms209_86) (by decide) rfl (fun _ _ _ _ _ _ h => h) 55 18 _ _ _ _ _ (And.intro (⟨by decide, by decide⟩ : (0 : Int) ≤ 0 ∧ (0 : Int) < 394) (mi_ite (fun h168 => (mc185 (mc208_86 h168.1 (And.intro h168.2.1 (mc185 (mc208_86 h168.2.2.1 (And.intro h168.2.2.2.1 (h168.2.2.2.2)))))))) (fun h168 => (h168 _)) h))
