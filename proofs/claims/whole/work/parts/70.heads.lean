/-! PRINTED by wip/whole/gen: heads of methods -/
-- TwoViews$Pieces.makePieces(I)V (76,)
noncomputable def mk49_76_9 (X : mi_X) (Q : mi_R → mi_G → mi_M → Prop) (u : mi_U) (l1 l2 : Int) (μ : mi_M) : Prop := ∀ o3 o4 : Option mi_V, mi_ok X 49 mi_G0 Q 9 [some (.inr (.inl (some 76))), some (.inl l1), some (.inl l2), o3, o4] [] mi_G0 μ u
noncomputable def mk49_76_37 (X : mi_X) (Q : mi_R → mi_G → mi_M → Prop) (u : mi_U) (l1 l2 : Int) (μ : mi_M) : Prop := ∀ o3 o4 : Option mi_V, mi_ok X 49 mi_G0 Q 37 [some (.inr (.inl (some 76))), some (.inl l1), some (.inl l2), o3, o4] [] mi_G0 μ u
noncomputable def mk49_76_50 (X : mi_X) (Q : mi_R → mi_G → mi_M → Prop) (u : mi_U) (l1 l2 l3 : Int) (μ : mi_M) : Prop := ∀ o4 : Option mi_V, mi_ok X 49 mi_G0 Q 50 [some (.inr (.inl (some 76))), some (.inl l1), some (.inl l2), some (.inl l3), o4] [] mi_G0 μ u
def ms49_76 (pc : Nat) : Bool := Nat.beq pc 9 || Nat.beq pc 37 || Nat.beq pc 50
theorem me49_76 {X : mi_X} {Q : mi_R → mi_G → mi_M → Prop} {u : mi_U} {a0 : Int} {μ : mi_M} (h :
  (0 ≤ a0 ∧ a0 < 2) ∧
  mk49_76_9 X Q u a0 0 (mi_set μ 79 a0 0)) : mi_cok X 49 [(.inr (.inl (some 76))), (.inl a0)] mi_G0 μ u Q :=
  mi_enter (by decide) (by decide) rfl rfl (ms_run (stop := ms49_76) (by decide) rfl (fun _ _ _ _ _ _ h => h) 67 0 _ _ _ _ _ (And.intro h.1 (h.2 _ _)))
theorem mh49_76_9 {X : mi_X} {Q : mi_R → mi_G → mi_M → Prop} {u : mi_U} {l1 l2 : Int} {μ : mi_M} (h :
  if mi_wr l2 < mi_wr 192 then (
    (0 ≤ ((l1 * 192) + l2) ∧ ((l1 * 192) + l2) < 384) ∧
    mk49_76_9 X Q u l1 (l2 + 1) (mi_set μ 77 ((l1 * 192) + l2) (-1)))
  else (
    mk49_76_37 X Q u l1 0 μ)) : mk49_76_9 X Q u l1 l2 μ :=
  fun o3 o4 => ms_run (stop := ms49_76) (by decide) rfl (fun _ _ _ _ _ _ h => h) 67 9 _ _ _ _ _ (mi_ite (fun h158 => (And.intro h158.1 (h158.2 _ _))) (fun h158 => (h158 _ _)) h)
theorem mh49_76_37 {X : mi_X} {Q : mi_R → mi_G → mi_M → Prop} {u : mi_U} {l1 l2 : Int} {μ : mi_M} (h :
  if mi_wr l2 < mi_wr (μ 1 1) then (
    mk49_76_50 X Q u l1 l2 0 μ)
  else (
    mp54_76 l1 μ ∧
    (∀ (μ0 : mi_M), mq54_76 l1 μ μ0 →
    Q (.inl none) mi_G0 μ0))) : mk49_76_37 X Q u l1 l2 μ :=
  fun o3 o4 => ms_run (stop := ms49_76) (by decide) rfl (fun _ _ _ _ _ _ h => h) 67 37 _ _ _ _ _ (mi_ite (fun h159 => (h159 _)) (fun h159 => (mc54_76 h159.1 (fun μ0 h160 => (h159.2 μ0 h160)))) h)
theorem mh49_76_50 {X : mi_X} {Q : mi_R → mi_G → mi_M → Prop} {u : mi_U} {l1 l2 l3 : Int} {μ : mi_M} (h :
  if mi_wr l3 < mi_wr (μ 1 0) then (
    (0 ≤ (mv136 l1 l3 l2 μ) ∧ (mv136 l1 l3 l2 μ) < 384) ∧
    if mi_wr (μ 73 (mv136 l1 l3 l2 μ)) = 0 then (
      (0 ≤ (mv136 l1 l3 l2 μ) ∧ (mv136 l1 l3 l2 μ) < 384) ∧
      if mi_wr (μ 77 (mv136 l1 l3 l2 μ)) = mi_wr (-1) then (
        (∀ Q_ : mi_R → mi_G → mi_M → Prop, (∀ (μ0 : mi_M), (mk49_76_50 X Q u l1 l2 (l3 + 1) μ0) → Q_ (.inl none) mi_G0 μ0) → mi_cok X 50 [(.inr (.inl (some 76))), (.inl l1), (.inl l3), (.inl l2)] mi_G0 μ (0, 0) Q_))
      else (
        mk49_76_50 X Q u l1 l2 (l3 + 1) μ))
    else (
      mk49_76_50 X Q u l1 l2 (l3 + 1) μ))
  else (
    mk49_76_37 X Q u l1 (l2 + 1) μ)) : mk49_76_50 X Q u l1 l2 l3 μ :=
  fun o4 => ms_run (stop := ms49_76) (by decide) rfl (fun _ _ _ _ _ _ h => h) 67 50 _ _ _ _ _ (mi_ite (fun h162 => (mc136 (And.intro h162.1 (mi_ite (fun h163 => (And.intro h163.1 (mi_ite (fun h164 => (h164 _ (fun μ0 h165 => (h165 _)))) (fun h164 => (h164 _)) h163.2))) (fun h163 => (h163 _)) h162.2)))) (fun h162 => (h162 _ _)) h)
