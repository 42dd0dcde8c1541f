/-! PRINTED by wip/whole/gen: heads of methods -/
-- TwoViews$Maps.makeKinds()V (71,)
noncomputable def mk17_71_2 (X : mi_X) (Q : mi_R → mi_G → mi_M → Prop) (u : mi_U) (l1 : Int) (μ : mi_M) : Prop := ∀ o2 : Option mi_V, mi_ok X 17 mi_G0 Q 2 [some (.inr (.inl (some 71))), some (.inl l1), o2] [] mi_G0 μ u
noncomputable def mk17_71_15 (X : mi_X) (Q : mi_R → mi_G → mi_M → Prop) (u : mi_U) (l1 l2 : Int) (μ : mi_M) : Prop := mi_ok X 17 mi_G0 Q 15 [some (.inr (.inl (some 71))), some (.inl l1), some (.inl l2)] [] mi_G0 μ u
def ms17_71 (pc : Nat) : Bool := Nat.beq pc 2 || Nat.beq pc 15
theorem me17_71 {X : mi_X} {Q : mi_R → mi_G → mi_M → Prop} {u : mi_U} {μ : mi_M} (h :
  mk17_71_2 X Q u 0 μ) : mi_cok X 17 [(.inr (.inl (some 71)))] mi_G0 μ u Q :=
  mi_enter (by decide) (by decide) rfl rfl (ms_run (stop := ms17_71) (by decide) rfl (fun _ _ _ _ _ _ h => h) 45 0 _ _ _ _ _ (h _))
theorem mh17_71_2 {X : mi_X} {Q : mi_R → mi_G → mi_M → Prop} {u : mi_U} {l1 : Int} {μ : mi_M} (h :
  if mi_wr l1 < mi_wr (μ 1 1) then (
    mk17_71_15 X Q u l1 0 μ)
  else (
    Q (.inl none) mi_G0 μ)) : mk17_71_2 X Q u l1 μ :=
  fun o2 => ms_run (stop := ms17_71) (by decide) rfl (fun _ _ _ _ _ _ h => h) 45 2 _ _ _ _ _ (mi_ite (fun h158 => (h158)) (fun h158 => h158) h)
theorem mh17_71_15 {X : mi_X} {Q : mi_R → mi_G → mi_M → Prop} {u : mi_U} {l1 l2 : Int} {μ : mi_M} (h :
  if mi_wr l2 < mi_wr (μ 1 0) then (
    mp18_71 0 l2 l1 μ ∧
    (0 ≤ (mv136 0 l2 l1 μ) ∧ (mv136 0 l2 l1 μ) < 384) ∧
    mp18_71 1 l2 l1 (mi_set μ 73 (mv136 0 l2 l1 μ) (mv18_71 0 l2 l1 μ)) ∧
    (0 ≤ (mv136 1 l2 l1 (mi_set μ 73 (mv136 0 l2 l1 μ) (mv18_71 0 l2 l1 μ))) ∧ (mv136 1 l2 l1 (mi_set μ 73 (mv136 0 l2 l1 μ) (mv18_71 0 l2 l1 μ))) < 384) ∧
    mk17_71_15 X Q u l1 (l2 + 1) (mi_set (mi_set μ 73 (mv136 0 l2 l1 μ) (mv18_71 0 l2 l1 μ)) 73 (mv136 1 l2 l1 (mi_set μ 73 (mv136 0 l2 l1 μ) (mv18_71 0 l2 l1 μ))) (mv18_71 1 l2 l1 (mi_set μ 73 (mv136 0 l2 l1 μ) (mv18_71 0 l2 l1 μ)))))
  else (
    mk17_71_2 X Q u (l1 + 1) μ)) : mk17_71_15 X Q u l1 l2 μ :=
  ms_run (stop := ms17_71) (by decide) rfl (fun _ _ _ _ _ _ h => h) 45 15 _ _ _ _ _ (mi_ite (fun h159 => (mc136 (mc18_71 h159.1 (And.intro h159.2.1 (mc136 (mc18_71 h159.2.2.1 (And.intro h159.2.2.2.1 (h159.2.2.2.2)))))))) (fun h159 => (h159 _)) h)
-- TwoViews$Pieces.lookAround(III)V (76,)
noncomputable def mk52_76_32 (X : mi_X) (Q : mi_R → mi_G → mi_M → Prop) (u : mi_U) (l1 l3 l4 l5 l6 l7 : Int) (μ : mi_M) : Prop := ∀ o2 o8 o9 : Option mi_V, mi_ok X 52 mi_G0 Q 32 [some (.inr (.inl (some 76))), some (.inl l1), o2, some (.inl l3), some (.inl l4), some (.inl l5), some (.inl l6), some (.inl l7), o8, o9] [] mi_G0 μ u
def ms52_76 (pc : Nat) : Bool := Nat.beq pc 32
theorem me52_76 {X : mi_X} {Q : mi_R → mi_G → mi_M → Prop} {u : mi_U} {a0 a1 a2 : Int} {μ : mi_M} (h :
  (0 ≤ (mv136 a0 (mi_and a1 15) (mi_shr a1 4) μ) ∧ (mv136 a0 (mi_and a1 15) (mi_shr a1 4) μ) < 384) ∧
  mk52_76_32 X Q u a0 a2 (mi_and a1 15) (mi_shr a1 4) (μ 72 (mv136 a0 (mi_and a1 15) (mi_shr a1 4) μ)) 0 μ) : mi_cok X 52 [(.inr (.inl (some 76))), (.inl a0), (.inl a1), (.inl a2)] mi_G0 μ u Q :=
  mi_enter (by decide) (by decide) rfl rfl (ms_run (stop := ms52_76) (by decide) rfl (fun _ _ _ _ _ _ h => h) 59 0 _ _ _ _ _ (mc136 (And.intro h.1 (h.2 _ _ _))))
theorem mh52_76_32 {X : mi_X} {Q : mi_R → mi_G → mi_M → Prop} {u : mi_U} {l1 l3 l4 l5 l6 l7 : Int} {μ : mi_M} (h :
  if mi_wr l7 < mi_wr 4 then (
    (0 ≤ l7 ∧ l7 < 8) ∧
    (0 ≤ l7 ∧ l7 < 8) ∧
    if mi_wr (mv86_1 (l4 + (mi_ro X 1003 l7)) (l5 + (mi_ro X 1004 l7)) μ) = 0 then (
      mk52_76_32 X Q u l1 l3 l4 l5 l6 (l7 + 1) μ)
    else (
      mp53_76 (mv136 l1 (l4 + (mi_ro X 1003 l7)) (l5 + (mi_ro X 1004 l7)) μ) l6 μ ∧
      if mi_wr (mv53_76 (mv136 l1 (l4 + (mi_ro X 1003 l7)) (l5 + (mi_ro X 1004 l7)) μ) l6 μ) = 0 then (
        mk52_76_32 X Q u l1 l3 l4 l5 l6 (l7 + 1) μ)
      else (
        mp51_76 l1 (l4 + (mi_ro X 1003 l7)) (l5 + (mi_ro X 1004 l7)) l3 μ ∧
        mk52_76_32 X Q u l1 l3 l4 l5 l6 (l7 + 1) (mm51_76 l1 (l4 + (mi_ro X 1003 l7)) (l5 + (mi_ro X 1004 l7)) l3 μ))))
  else (
    Q (.inl none) mi_G0 μ)) : mk52_76_32 X Q u l1 l3 l4 l5 l6 l7 μ :=
  fun o2 o8 o9 => ms_run (stop := ms52_76) (by decide) rfl (fun _ _ _ _ _ _ h => h) 59 32 _ _ _ _ _ (mi_ite (fun h160 => (And.intro h160.1 (And.intro h160.2.1 (mc86_1 (mi_ite (fun h161 => (h161 _ _ _)) (fun h161 => (mc136 (mc53_76 h161.1 (mi_ite (fun h162 => (h162 _ _ _)) (fun h162 => (mc51_76 h162.1 (h162.2 _ _ _))) h161.2)))) h160.2.2))))) (fun h160 => h160) h)
-- TwoViews$Pieces.dropSmall(I)V (76,)
noncomputable def mk54_76_2 (X : mi_X) (Q : mi_R → mi_G → mi_M → Prop) (u : mi_U) (l1 l2 : Int) (μ : mi_M) : Prop := ∀ o3 o4 : Option mi_V, mi_ok X 54 mi_G0 Q 2 [some (.inr (.inl (some 76))), some (.inl l1), some (.inl l2), o3, o4] [] mi_G0 μ u
noncomputable def mk54_76_15 (X : mi_X) (Q : mi_R → mi_G → mi_M → Prop) (u : mi_U) (l1 l2 l3 : Int) (μ : mi_M) : Prop := ∀ o4 : Option mi_V, mi_ok X 54 mi_G0 Q 15 [some (.inr (.inl (some 76))), some (.inl l1), some (.inl l2), some (.inl l3), o4] [] mi_G0 μ u
def ms54_76 (pc : Nat) : Bool := Nat.beq pc 2 || Nat.beq pc 15
theorem me54_76 {X : mi_X} {Q : mi_R → mi_G → mi_M → Prop} {u : mi_U} {a0 : Int} {μ : mi_M} (h :
  mk54_76_2 X Q u a0 0 μ) : mi_cok X 54 [(.inr (.inl (some 76))), (.inl a0)] mi_G0 μ u Q :=
  mi_enter (by decide) (by decide) rfl rfl (ms_run (stop := ms54_76) (by decide) rfl (fun _ _ _ _ _ _ h => h) 46 0 _ _ _ _ _ (h _ _))
theorem mh54_76_2 {X : mi_X} {Q : mi_R → mi_G → mi_M → Prop} {u : mi_U} {l1 l2 : Int} {μ : mi_M} (h :
  if mi_wr l2 < mi_wr (μ 1 1) then (
    mk54_76_15 X Q u l1 l2 0 μ)
  else (
    Q (.inl none) mi_G0 μ)) : mk54_76_2 X Q u l1 l2 μ :=
  fun o3 o4 => ms_run (stop := ms54_76) (by decide) rfl (fun _ _ _ _ _ _ h => h) 46 2 _ _ _ _ _ (mi_ite (fun h163 => (h163 _)) (fun h163 => h163) h)
theorem mh54_76_15 {X : mi_X} {Q : mi_R → mi_G → mi_M → Prop} {u : mi_U} {l1 l2 l3 : Int} {μ : mi_M} (h :
  if mi_wr l3 < mi_wr (μ 1 0) then (
    (0 ≤ (mv136 l1 l3 l2 μ) ∧ (mv136 l1 l3 l2 μ) < 384) ∧
    if mi_wr (μ 77 (mv136 l1 l3 l2 μ)) = mi_wr (-1) then (
      mk54_76_15 X Q u l1 l2 (l3 + 1) μ)
    else (
      (0 ≤ (mv136 l1 l3 l2 μ) ∧ (mv136 l1 l3 l2 μ) < 384) ∧
      mp55_76 l1 (μ 77 (mv136 l1 l3 l2 μ)) μ ∧
      if mi_wr (mv55_76 l1 (μ 77 (mv136 l1 l3 l2 μ)) μ) = 0 then (
        (0 ≤ (mv136 l1 l3 l2 μ) ∧ (mv136 l1 l3 l2 μ) < 384) ∧
        mk54_76_15 X Q u l1 l2 (l3 + 1) (mi_set μ 73 (mv136 l1 l3 l2 μ) 1))
      else (
        mk54_76_15 X Q u l1 l2 (l3 + 1) μ)))
  else (
    mk54_76_2 X Q u l1 (l2 + 1) μ)) : mk54_76_15 X Q u l1 l2 l3 μ :=
  fun o4 => ms_run (stop := ms54_76) (by decide) rfl (fun _ _ _ _ _ _ h => h) 46 15 _ _ _ _ _ (mi_ite (fun h164 => (mc136 (And.intro h164.1 (mi_ite (fun h165 => (h165 _)) (fun h165 => (And.intro h165.1 (mc55_76 h165.2.1 (mi_ite (fun h166 => (And.intro h166.1 (h166.2 _))) (fun h166 => (h166 _)) h165.2.2)))) h164.2)))) (fun h164 => (h164 _ _)) h)
