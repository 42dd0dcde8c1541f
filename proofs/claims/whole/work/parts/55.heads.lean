/-! PRINTED by wip/whole/gen: heads of methods -/
-- TwoViews$Maps.bestOfLeft(II)I (71,)
noncomputable def mk13_71_13 (X : mi_X) (Q : mi_R → mi_G → mi_M → Prop) (u : mi_U) (l3 l4 l5 : Int) (μ : mi_M) : Prop := ∀ o1 o2 : Option mi_V, mi_ok X 13 mi_G0 Q 13 [some (.inr (.inl (some 71))), o1, o2, some (.inl l3), some (.inl l4), some (.inl l5)] [] mi_G0 μ u
def ms13_71 (pc : Nat) : Bool := Nat.beq pc 13
theorem me13_71 {X : mi_X} {Q : mi_R → mi_G → mi_M → Prop} {u : mi_U} {a0 a1 : Int} {μ : mi_M} (h :
  mk13_71_13 X Q u (mv137 a0 a1 0 μ) 0 1 μ) : mi_cok X 13 [(.inr (.inl (some 71))), (.inl a0), (.inl a1)] mi_G0 μ u Q :=
  mi_enter (by decide) (by decide) rfl rfl (ms_run (stop := ms13_71) (by decide) rfl (fun _ _ _ _ _ _ h => h) 39 0 _ _ _ _ _ (mc137 (h _ _)))
theorem mh13_71_13 {X : mi_X} {Q : mi_R → mi_G → mi_M → Prop} {u : mi_U} {l3 l4 l5 : Int} {μ : mi_M} (h :
  if mi_wr (μ 2 0) < mi_wr l5 then (
    Q (.inl (some (.inl l4))) mi_G0 μ)
  else (
    (0 ≤ (l3 + l5) ∧ (l3 + l5) < 1536) ∧
    (0 ≤ (l3 + l4) ∧ (l3 + l4) < 1536) ∧
    mk13_71_13 X Q u l3 (if mi_wr (μ 69 (l3 + l5)) < mi_wr (μ 69 (l3 + l4)) then l5 else l4) (l5 + 1) μ)) : mk13_71_13 X Q u l3 l4 l5 μ :=
  fun o1 o2 => ms_run (stop := ms13_71) (by decide) rfl (fun _ _ _ _ _ _ h => h) 39 13 _ _ _ _ _ (And.intro (⟨by decide, by decide⟩ : (0 : Int) ≤ 0 ∧ (0 : Int) < 8) (mi_ite (fun h158 => h158) (fun h158 => (And.intro h158.1 (And.intro h158.2.1 (mi_dt (fun h159 => ((mi_mp (P := fun z => mk13_71_13 X Q u l3 z (l5 + 1) μ) h159 h158.2.2) _ _)) (fun h159 => ((mi_mn (P := fun z => mk13_71_13 X Q u l3 z (l5 + 1) μ) h159 h158.2.2) _ _)))))) h))
-- TwoViews$Maps.bestOfRight(II)I (71,)
noncomputable def mk14_71_5 (X : mi_X) (Q : mi_R → mi_G → mi_M → Prop) (u : mi_U) (l1 l2 l3 l4 : Int) (μ : mi_M) : Prop := mi_ok X 14 mi_G0 Q 5 [some (.inr (.inl (some 71))), some (.inl l1), some (.inl l2), some (.inl l3), some (.inl l4)] [] mi_G0 μ u
def ms14_71 (pc : Nat) : Bool := Nat.beq pc 5
theorem me14_71 {X : mi_X} {Q : mi_R → mi_G → mi_M → Prop} {u : mi_U} {a0 a1 : Int} {μ : mi_M} (h :
  mk14_71_5 X Q u a0 a1 0 1 μ) : mi_cok X 14 [(.inr (.inl (some 71))), (.inl a0), (.inl a1)] mi_G0 μ u Q :=
  mi_enter (by decide) (by decide) rfl rfl (ms_run (stop := ms14_71) (by decide) rfl (fun _ _ _ _ _ _ h => h) 47 0 _ _ _ _ _ (h))
theorem mh14_71_5 {X : mi_X} {Q : mi_R → mi_G → mi_M → Prop} {u : mi_U} {l1 l2 l3 l4 : Int} {μ : mi_M} (h :
  if mi_wr (μ 2 0) < mi_wr l4 then (
    Q (.inl (some (.inl l3))) mi_G0 μ)
  else (
    if mi_wr (l1 + l4) < mi_wr (μ 1 0) then (
      (0 ≤ (mv137 (l1 + l4) l2 l4 μ) ∧ (mv137 (l1 + l4) l2 l4 μ) < 1536) ∧
      (0 ≤ (mv137 (l1 + l3) l2 l3 μ) ∧ (mv137 (l1 + l3) l2 l3 μ) < 1536) ∧
      mk14_71_5 X Q u l1 l2 (if mi_wr (μ 69 (mv137 (l1 + l4) l2 l4 μ)) < mi_wr (μ 69 (mv137 (l1 + l3) l2 l3 μ)) then l4 else l3) (l4 + 1) μ)
    else (
      Q (.inl (some (.inl l3))) mi_G0 μ))) : mk14_71_5 X Q u l1 l2 l3 l4 μ :=
  ms_run (stop := ms14_71) (by decide) rfl (fun _ _ _ _ _ _ h => h) 47 5 _ _ _ _ _ (And.intro (⟨by decide, by decide⟩ : (0 : Int) ≤ 0 ∧ (0 : Int) < 8) (mi_ite (fun h160 => h160) (fun h160 => (mi_ite (fun h161 => (mc137 (And.intro h161.1 (mc137 (And.intro h161.2.1 (mi_dt (fun h162 => ((mi_mp (P := fun z => mk14_71_5 X Q u l1 l2 z (l4 + 1) μ) h162 h161.2.2))) (fun h162 => ((mi_mn (P := fun z => mk14_71_5 X Q u l1 l2 z (l4 + 1) μ) h162 h161.2.2))))))))) (fun h161 => h161) h160)) h))
-- TwoViews$Matcher.addTold()V (66,)
noncomputable def mk41_66_2 (X : mi_X) (Q : mi_R → mi_G → mi_M → Prop) (u : mi_U) (l1 : Int) (μ : mi_M) : Prop := ∀ o2 o3 o4 : Option mi_V, mi_ok X 41 mi_G0 Q 2 [some (.inr (.inl (some 66))), some (.inl l1), o2, o3, o4] [] mi_G0 μ u
noncomputable def mk41_66_39 (X : mi_X) (Q : mi_R → mi_G → mi_M → Prop) (u : mi_U) (l1 l3 l4 : Int) (μ : mi_M) : Prop := ∀ o2 : Option mi_V, mi_ok X 41 mi_G0 Q 39 [some (.inr (.inl (some 66))), some (.inl l1), o2, some (.inl l3), some (.inl l4)] [] mi_G0 μ u
def ms41_66 (pc : Nat) : Bool := Nat.beq pc 2 || Nat.beq pc 39
theorem me41_66 {X : mi_X} {Q : mi_R → mi_G → mi_M → Prop} {u : mi_U} {μ : mi_M} (h :
  mk41_66_2 X Q u 0 μ) : mi_cok X 41 [(.inr (.inl (some 66)))] mi_G0 μ u Q :=
  mi_enter (by decide) (by decide) rfl rfl (ms_run (stop := ms41_66) (by decide) rfl (fun _ _ _ _ _ _ h => h) 44 0 _ _ _ _ _ (h _ _ _))
theorem mh41_66_2 {X : mi_X} {Q : mi_R → mi_G → mi_M → Prop} {u : mi_U} {l1 : Int} {μ : mi_M} (h :
  if mi_wr l1 < mi_wr (μ 1 1) then (
    mk41_66_39 X Q u l1 (mv137 ((μ 1 0) - 1) l1 7 μ) (mv137 0 l1 0 μ) μ)
  else (
    Q (.inl none) mi_G0 μ)) : mk41_66_2 X Q u l1 μ :=
  fun o2 o3 o4 => ms_run (stop := ms41_66) (by decide) rfl (fun _ _ _ _ _ _ h => h) 44 2 _ _ _ _ _ (mi_ite (fun h163 => (mc137 (mc137 (h163 _)))) (fun h163 => h163) h)
theorem mh41_66_39 {X : mi_X} {Q : mi_R → mi_G → mi_M → Prop} {u : mi_U} {l1 l3 l4 : Int} {μ : mi_M} (h :
  if mi_wr l3 < mi_wr l4 then (
    mk41_66_2 X Q u (l1 + 1) μ)
  else (
    (0 ≤ l4 ∧ l4 < 1536) ∧
    (0 ≤ l4 ∧ l4 < 1536) ∧
    (0 ≤ l4 ∧ l4 < 1536) ∧
    mk41_66_39 X Q u l1 l3 (l4 + 1) (mi_set μ 69 l4 ((μ 69 l4) + (μ 70 l4))))) : mk41_66_39 X Q u l1 l3 l4 μ :=
  fun o2 => ms_run (stop := ms41_66) (by decide) rfl (fun _ _ _ _ _ _ h => h) 44 39 _ _ _ _ _ (mi_ite (fun h164 => (h164 _ _ _)) (fun h164 => (And.intro h164.1 (And.intro h164.2.1 (And.intro h164.2.2.1 (h164.2.2.2 _))))) h)
-- TwoViewsModel.leftShift(II)I (86,)
noncomputable def mk204_86_5 (X : mi_X) (Q : mi_R → mi_G → mi_M → Prop) (u : mi_U) (l1 l2 l3 l4 : Int) (μ : mi_M) : Prop := mi_ok X 204 mi_G0 Q 5 [some (.inr (.inl (some 86))), some (.inl l1), some (.inl l2), some (.inl l3), some (.inl l4)] [] mi_G0 μ u
def ms204_86 (pc : Nat) : Bool := Nat.beq pc 5
theorem me204_86 {X : mi_X} {Q : mi_R → mi_G → mi_M → Prop} {u : mi_U} {a0 a1 : Int} {μ : mi_M} (h :
  mk204_86_5 X Q u a0 a1 0 1 μ) : mi_cok X 204 [(.inr (.inl (some 86))), (.inl a0), (.inl a1)] mi_G0 μ u Q :=
  mi_enter (by decide) (by decide) rfl rfl (ms_run (stop := ms204_86) (by decide) rfl (fun _ _ _ _ _ _ h => h) 35 0 _ _ _ _ _ (h))
theorem mh204_86_5 {X : mi_X} {Q : mi_R → mi_G → mi_M → Prop} {u : mi_U} {l1 l2 l3 l4 : Int} {μ : mi_M} (h :
  if mi_wr (μ 87 2) < mi_wr l4 then (
    Q (.inl (some (.inl l3))) mi_G0 μ)
  else (
    (0 ≤ (mv197 l1 l2 l4 μ) ∧ (mv197 l1 l2 l4 μ) < 1536) ∧
    (0 ≤ (mv197 l1 l2 l3 μ) ∧ (mv197 l1 l2 l3 μ) < 1536) ∧
    mk204_86_5 X Q u l1 l2 (if mi_wr (μ 94 (mv197 l1 l2 l4 μ)) < mi_wr (μ 94 (mv197 l1 l2 l3 μ)) then l4 else l3) (l4 + 1) μ)) : mk204_86_5 X Q u l1 l2 l3 l4 μ :=
  ms_run (stop := ms204_86) (by decide) rfl (fun _ _ _ _ _ _ h => h) 35 5 _ _ _ _ _ (And.intro (⟨by decide, by decide⟩ : (0 : Int) ≤ 2 ∧ (2 : Int) < 394) (mi_ite (fun h165 => h165) (fun h165 => (mc197 (And.intro h165.1 (mc197 (And.intro h165.2.1 (mi_dt (fun h166 => ((mi_mp (P := fun z => mk204_86_5 X Q u l1 l2 z (l4 + 1) μ) h166 h165.2.2))) (fun h166 => ((mi_mn (P := fun z => mk204_86_5 X Q u l1 l2 z (l4 + 1) μ) h166 h165.2.2))))))))) h))
-- TwoViewsModel.rightShift(II)I (86,)
noncomputable def mk205_86_5 (X : mi_X) (Q : mi_R → mi_G → mi_M → Prop) (u : mi_U) (l1 l2 l3 l4 : Int) (μ : mi_M) : Prop := mi_ok X 205 mi_G0 Q 5 [some (.inr (.inl (some 86))), some (.inl l1), some (.inl l2), some (.inl l3), some (.inl l4)] [] mi_G0 μ u
def ms205_86 (pc : Nat) : Bool := Nat.beq pc 5
theorem me205_86 {X : mi_X} {Q : mi_R → mi_G → mi_M → Prop} {u : mi_U} {a0 a1 : Int} {μ : mi_M} (h :
  mk205_86_5 X Q u a0 a1 0 1 μ) : mi_cok X 205 [(.inr (.inl (some 86))), (.inl a0), (.inl a1)] mi_G0 μ u Q :=
  mi_enter (by decide) (by decide) rfl rfl (ms_run (stop := ms205_86) (by decide) rfl (fun _ _ _ _ _ _ h => h) 47 0 _ _ _ _ _ (h))
theorem mh205_86_5 {X : mi_X} {Q : mi_R → mi_G → mi_M → Prop} {u : mi_U} {l1 l2 l3 l4 : Int} {μ : mi_M} (h :
  if mi_wr (μ 87 2) < mi_wr l4 then (
    Q (.inl (some (.inl l3))) mi_G0 μ)
  else (
    if mi_wr (l1 + l4) < mi_wr (μ 87 0) then (
      (0 ≤ (mv197 (l1 + l4) l2 l4 μ) ∧ (mv197 (l1 + l4) l2 l4 μ) < 1536) ∧
      (0 ≤ (mv197 (l1 + l3) l2 l3 μ) ∧ (mv197 (l1 + l3) l2 l3 μ) < 1536) ∧
      mk205_86_5 X Q u l1 l2 (if mi_wr (μ 94 (mv197 (l1 + l4) l2 l4 μ)) < mi_wr (μ 94 (mv197 (l1 + l3) l2 l3 μ)) then l4 else l3) (l4 + 1) μ)
    else (
      Q (.inl (some (.inl l3))) mi_G0 μ))) : mk205_86_5 X Q u l1 l2 l3 l4 μ :=
  ms_run (stop := ms205_86) (by decide) rfl (fun _ _ _ _ _ _ h => h) 47 5 _ _ _ _ _ (And.intro (⟨by decide, by decide⟩ : (0 : Int) ≤ 2 ∧ (2 : Int) < 394) (mi_ite (fun h167 => h167) (fun h167 => (And.intro (⟨by decide, by decide⟩ : (0 : Int) ≤ 0 ∧ (0 : Int) < 394) (mi_ite (fun h168 => (mc197 (And.intro h168.1 (mc197 (And.intro h168.2.1 (mi_dt (fun h169 => ((mi_mp (P := fun z => mk205_86_5 X Q u l1 l2 z (l4 + 1) μ) h169 h168.2.2))) (fun h169 => ((mi_mn (P := fun z => mk205_86_5 X Q u l1 l2 z (l4 + 1) μ) h169 h168.2.2))))))))) (fun h168 => h168) h167))) h))
-- TwoViewsModel.laysSums()V (86,)
noncomputable def mk201_86_6 (X : mi_X) (Q : mi_R → mi_G → mi_M → Prop) (u : mi_U) (l1 : Int) (μ : mi_M) : Prop := ∀ o2 : Option mi_V, mi_ok X 201 mi_G0 Q 6 [some (.inr (.inl (some 86))), some (.inl l1), o2] [] mi_G0 μ u
noncomputable def mk201_86_28 (X : mi_X) (Q : mi_R → mi_G → mi_M → Prop) (u : mi_U) (l1 : Int) (μ : mi_M) : Prop := ∀ o2 : Option mi_V, mi_ok X 201 mi_G0 Q 28 [some (.inr (.inl (some 86))), some (.inl l1), o2] [] mi_G0 μ u
noncomputable def mk201_86_56 (X : mi_X) (Q : mi_R → mi_G → mi_M → Prop) (u : mi_U) (l1 l2 : Int) (μ : mi_M) : Prop := mi_ok X 201 mi_G0 Q 56 [some (.inr (.inl (some 86))), some (.inl l1), some (.inl l2)] [] mi_G0 μ u
def ms201_86 (pc : Nat) : Bool := Nat.beq pc 6 || Nat.beq pc 28 || Nat.beq pc 56
theorem me201_86 {X : mi_X} {Q : mi_R → mi_G → mi_M → Prop} {u : mi_U} {μ : mi_M} (h :
  mp186_86 μ ∧
  (∀ (μ0 : mi_M), mq186_86 μ μ0 →
  mk201_86_6 X Q u 0 μ0)) : mi_cok X 201 [(.inr (.inl (some 86)))] mi_G0 μ u Q :=
  mi_enter (by decide) (by decide) rfl rfl (ms_run (stop := ms201_86) (by decide) rfl (fun _ _ _ _ _ _ h => h) 55 0 _ _ _ _ _ (mc186_86 h.1 (fun μ0 h170 => ((h.2 μ0 h170) _))))
theorem mh201_86_6 {X : mi_X} {Q : mi_R → mi_G → mi_M → Prop} {u : mi_U} {l1 : Int} {μ : mi_M} (h :
  if mi_wr l1 < mi_wr 1536 then (
    (0 ≤ l1 ∧ l1 < 1536) ∧
    mk201_86_6 X Q u (l1 + 1) (mi_set μ 94 l1 0))
  else (
    mk201_86_28 X Q u 0 μ)) : mk201_86_6 X Q u l1 μ :=
  fun o2 => ms_run (stop := ms201_86) (by decide) rfl (fun _ _ _ _ _ _ h => h) 55 6 _ _ _ _ _ (mi_ite (fun h172 => (And.intro h172.1 (h172.2 _))) (fun h172 => (h172 _)) h)
theorem mh201_86_28 {X : mi_X} {Q : mi_R → mi_G → mi_M → Prop} {u : mi_U} {l1 : Int} {μ : mi_M} (h :
  if mi_wr l1 < mi_wr 8 then (
    if mi_wr (mi_and (mi_shr (μ 87 6) l1) 1) = mi_wr 1 then (
      mp200_86 l1 μ ∧
      (∀ (μ0 : mi_M), mq200_86 l1 μ μ0 →
      mk201_86_56 X Q u l1 0 μ0))
    else (
      mk201_86_28 X Q u (l1 + 1) μ))
  else (
    Q (.inl none) mi_G0 μ)) : mk201_86_28 X Q u l1 μ :=
  fun o2 => ms_run (stop := ms201_86) (by decide) rfl (fun _ _ _ _ _ _ h => h) 55 28 _ _ _ _ _ (mi_ite (fun h173 => (And.intro (⟨by decide, by decide⟩ : (0 : Int) ≤ 6 ∧ (6 : Int) < 394) (mi_ite (fun h174 => (mc200_86 h174.1 (fun μ0 h175 => ((h174.2 μ0 h175))))) (fun h174 => (h174 _)) h173))) (fun h173 => h173) h)
theorem mh201_86_56 {X : mi_X} {Q : mi_R → mi_G → mi_M → Prop} {u : mi_U} {l1 l2 : Int} {μ : mi_M} (h :
  if mi_wr l2 < mi_wr 1536 then (
    (0 ≤ l2 ∧ l2 < 1536) ∧
    (0 ≤ l2 ∧ l2 < 1536) ∧
    (0 ≤ l2 ∧ l2 < 1536) ∧
    mk201_86_56 X Q u l1 (l2 + 1) (mi_set μ 94 l2 ((μ 94 l2) + (μ 93 l2))))
  else (
    mk201_86_28 X Q u (l1 + 1) μ)) : mk201_86_56 X Q u l1 l2 μ :=
  ms_run (stop := ms201_86) (by decide) rfl (fun _ _ _ _ _ _ h => h) 55 56 _ _ _ _ _ (mi_ite (fun h177 => (And.intro h177.1 (And.intro h177.2.1 (And.intro h177.2.2.1 (h177.2.2.2))))) (fun h177 => (h177 _)) h)
-- TwoViews$Maps.howManyOf(II)I (71,)
noncomputable def mk20_71_5 (X : mi_X) (Q : mi_R → mi_G → mi_M → Prop) (u : mi_U) (l1 l2 l3 l4 : Int) (μ : mi_M) : Prop := ∀ o5 : Option mi_V, mi_ok X 20 mi_G0 Q 5 [some (.inr (.inl (some 71))), some (.inl l1), some (.inl l2), some (.inl l3), some (.inl l4), o5] [] mi_G0 μ u
noncomputable def mk20_71_20 (X : mi_X) (Q : mi_R → mi_G → mi_M → Prop) (u : mi_U) (l1 l2 l3 l4 l5 : Int) (μ : mi_M) : Prop := mi_ok X 20 mi_G0 Q 20 [some (.inr (.inl (some 71))), some (.inl l1), some (.inl l2), some (.inl l3), some (.inl l4), some (.inl l5)] [] mi_G0 μ u
def ms20_71 (pc : Nat) : Bool := Nat.beq pc 5 || Nat.beq pc 20
theorem me20_71 {X : mi_X} {Q : mi_R → mi_G → mi_M → Prop} {u : mi_U} {a0 a1 : Int} {μ : mi_M} (h :
  mk20_71_5 X Q u a0 a1 0 0 μ) : mi_cok X 20 [(.inr (.inl (some 71))), (.inl a0), (.inl a1)] mi_G0 μ u Q :=
  mi_enter (by decide) (by decide) rfl rfl (ms_run (stop := ms20_71) (by decide) rfl (fun _ _ _ _ _ _ h => h) 39 0 _ _ _ _ _ (h _))
theorem mh20_71_5 {X : mi_X} {Q : mi_R → mi_G → mi_M → Prop} {u : mi_U} {l1 l2 l3 l4 : Int} {μ : mi_M} (h :
  if mi_wr l4 < mi_wr (μ 1 1) then (
    mk20_71_20 X Q u l1 l2 l3 l4 0 μ)
  else (
    Q (.inl (some (.inl l3))) mi_G0 μ)) : mk20_71_5 X Q u l1 l2 l3 l4 μ :=
  fun o5 => ms_run (stop := ms20_71) (by decide) rfl (fun _ _ _ _ _ _ h => h) 39 5 _ _ _ _ _ (mi_ite (fun h178 => (h178)) (fun h178 => h178) h)
theorem mh20_71_20 {X : mi_X} {Q : mi_R → mi_G → mi_M → Prop} {u : mi_U} {l1 l2 l3 l4 l5 : Int} {μ : mi_M} (h :
  if mi_wr l5 < mi_wr (μ 1 0) then (
    (0 ≤ (mv136 l1 l5 l4 μ) ∧ (mv136 l1 l5 l4 μ) < 384) ∧
    mk20_71_20 X Q u l1 l2 (if mi_wr (μ 73 (mv136 l1 l5 l4 μ)) = mi_wr l2 then (l3 + 1) else (l3 + 0)) l4 (l5 + 1) μ)
  else (
    mk20_71_5 X Q u l1 l2 l3 (l4 + 1) μ)) : mk20_71_20 X Q u l1 l2 l3 l4 l5 μ :=
  ms_run (stop := ms20_71) (by decide) rfl (fun _ _ _ _ _ _ h => h) 39 20 _ _ _ _ _ (mi_ite (fun h179 => (mc136 (And.intro h179.1 (mi_dt (fun h180 => ((mi_mp (P := fun z => mk20_71_20 X Q u l1 l2 z l4 (l5 + 1) μ) h180 h179.2))) (fun h180 => ((mi_mn (P := fun z => mk20_71_20 X Q u l1 l2 z l4 (l5 + 1) μ) h180 h179.2))))))) (fun h179 => (h179 _)) h)
-- TwoViews$Maps.nearestSure(IIII)I (71,)
noncomputable def mk25_71_3 (X : mi_X) (Q : mi_R → mi_G → mi_M → Prop) (u : mi_U) (l1 l2 l3 l4 l5 : Int) (μ : mi_M) : Prop := ∀ o6 o7 : Option mi_V, mi_ok X 25 mi_G0 Q 3 [some (.inr (.inl (some 71))), some (.inl l1), some (.inl l2), some (.inl l3), some (.inl l4), some (.inl l5), o6, o7] [] mi_G0 μ u
def ms25_71 (pc : Nat) : Bool := Nat.beq pc 3
theorem me25_71 {X : mi_X} {Q : mi_R → mi_G → mi_M → Prop} {u : mi_U} {a0 a1 a2 a3 : Int} {μ : mi_M} (h :
  mk25_71_3 X Q u a0 a1 a2 a3 1 μ) : mi_cok X 25 [(.inr (.inl (some 71))), (.inl a0), (.inl a1), (.inl a2), (.inl a3)] mi_G0 μ u Q :=
  mi_enter (by decide) (by decide) rfl rfl (ms_run (stop := ms25_71) (by decide) rfl (fun _ _ _ _ _ _ h => h) 51 0 _ _ _ _ _ (h _ _))
theorem mh25_71_3 {X : mi_X} {Q : mi_R → mi_G → mi_M → Prop} {u : mi_U} {l1 l2 l3 l4 l5 : Int} {μ : mi_M} (h :
  if mi_wr l5 < mi_wr 16 then (
    (0 ≤ l4 ∧ l4 < 8) ∧
    (0 ≤ l4 ∧ l4 < 8) ∧
    if mi_wr (mv86_1 (l2 + (l5 * (mi_ro X 1003 l4))) (l3 + (l5 * (mi_ro X 1004 l4))) μ) = 0 then (
      Q (.inl (some (.inl (-1)))) mi_G0 μ)
    else (
      (0 ≤ (mv136 l1 (l2 + (l5 * (mi_ro X 1003 l4))) (l3 + (l5 * (mi_ro X 1004 l4))) μ) ∧ (mv136 l1 (l2 + (l5 * (mi_ro X 1003 l4))) (l3 + (l5 * (mi_ro X 1004 l4))) μ) < 384) ∧
      if mi_wr (μ 73 (mv136 l1 (l2 + (l5 * (mi_ro X 1003 l4))) (l3 + (l5 * (mi_ro X 1004 l4))) μ)) = 0 then (
        (0 ≤ (mv136 l1 (l2 + (l5 * (mi_ro X 1003 l4))) (l3 + (l5 * (mi_ro X 1004 l4))) μ) ∧ (mv136 l1 (l2 + (l5 * (mi_ro X 1003 l4))) (l3 + (l5 * (mi_ro X 1004 l4))) μ) < 384) ∧
        Q (.inl (some (.inl (μ 72 (mv136 l1 (l2 + (l5 * (mi_ro X 1003 l4))) (l3 + (l5 * (mi_ro X 1004 l4))) μ))))) mi_G0 μ)
      else (
        mk25_71_3 X Q u l1 l2 l3 l4 (l5 + 1) μ)))
  else (
    Q (.inl (some (.inl (-1)))) mi_G0 μ)) : mk25_71_3 X Q u l1 l2 l3 l4 l5 μ :=
  fun o6 o7 => ms_run (stop := ms25_71) (by decide) rfl (fun _ _ _ _ _ _ h => h) 51 3 _ _ _ _ _ (mi_ite (fun h181 => (And.intro h181.1 (And.intro h181.2.1 (mc86_1 (mi_ite (fun h182 => h182) (fun h182 => (mc136 (And.intro h182.1 (mi_ite (fun h183 => (mc136 (And.intro h183.1 h183.2))) (fun h183 => (h183 _ _)) h182.2)))) h181.2.2))))) (fun h181 => h181) h)
-- TwoViewsModel.nearestSure(IIIII)I (86,)
noncomputable def mk225_86_12 (X : mi_X) (Q : mi_R → mi_G → mi_M → Prop) (u : mi_U) (l1 l4 l5 l6 l7 : Int) (μ : mi_M) : Prop := ∀ o2 o3 : Option mi_V, mi_ok X 225 mi_G0 Q 12 [some (.inr (.inl (some 86))), some (.inl l1), o2, o3, some (.inl l4), some (.inl l5), some (.inl l6), some (.inl l7)] [] mi_G0 μ u
def ms225_86 (pc : Nat) : Bool := Nat.beq pc 12
theorem me225_86 {X : mi_X} {Q : mi_R → mi_G → mi_M → Prop} {u : mi_U} {a0 a1 a2 a3 a4 : Int} {μ : mi_M} (h :
  mk225_86_12 X Q u a0 a3 a4 (a1 + a3) (a2 + a4) μ) : mi_cok X 225 [(.inr (.inl (some 86))), (.inl a0), (.inl a1), (.inl a2), (.inl a3), (.inl a4)] mi_G0 μ u Q :=
  mi_enter (by decide) (by decide) rfl rfl (ms_run (stop := ms225_86) (by decide) rfl (fun _ _ _ _ _ _ h => h) 40 0 _ _ _ _ _ (h _ _))
theorem mh225_86_12 {X : mi_X} {Q : mi_R → mi_G → mi_M → Prop} {u : mi_U} {l1 l4 l5 l6 l7 : Int} {μ : mi_M} (h :
  if mi_wr (mv150_86 l6 l7 μ) = 0 then (
    Q (.inl (some (.inl (-1)))) mi_G0 μ)
  else (
    mp214_86 l1 l6 l7 μ ∧
    if mi_wr (mv214_86 l1 l6 l7 μ) = 0 then (
      (0 ≤ (mv185 l1 l6 l7 μ) ∧ (mv185 l1 l6 l7 μ) < 384) ∧
      Q (.inl (some (.inl (μ 95 (mv185 l1 l6 l7 μ))))) mi_G0 μ)
    else (
      mk225_86_12 X Q u l1 l4 l5 (l6 + l4) (l7 + l5) μ))) : mk225_86_12 X Q u l1 l4 l5 l6 l7 μ :=
  fun o2 o3 => ms_run (stop := ms225_86) (by decide) rfl (fun _ _ _ _ _ _ h => h) 40 12 _ _ _ _ _ (mc150_86 (mi_ite (fun h184 => h184) (fun h184 => (mc214_86 h184.1 (mi_ite (fun h185 => (mc185 (And.intro h185.1 h185.2))) (fun h185 => (h185 _ _)) h184.2))) h))
-- TwoViews$Maps.comesFrom(IIII)I (71,)
noncomputable def mk27_71_9 (X : mi_X) (Q : mi_R → mi_G → mi_M → Prop) (u : mi_U) (l1 l2 l3 l4 l5 l6 l7 : Int) (μ : mi_M) : Prop := ∀ o8 o9 : Option mi_V, mi_ok X 27 mi_G0 Q 9 [some (.inr (.inl (some 71))), some (.inl l1), some (.inl l2), some (.inl l3), some (.inl l4), some (.inl l5), some (.inl l6), some (.inl l7), o8, o9] [] mi_G0 μ u
def ms27_71 (pc : Nat) : Bool := Nat.beq pc 9
theorem me27_71 {X : mi_X} {Q : mi_R → mi_G → mi_M → Prop} {u : mi_U} {a0 a1 a2 a3 : Int} {μ : mi_M} (h :
  mk27_71_9 X Q u a0 a1 a2 a3 (-1) (-1) 0 μ) : mi_cok X 27 [(.inr (.inl (some 71))), (.inl a0), (.inl a1), (.inl a2), (.inl a3)] mi_G0 μ u Q :=
  mi_enter (by decide) (by decide) rfl rfl (ms_run (stop := ms27_71) (by decide) rfl (fun _ _ _ _ _ _ h => h) 51 0 _ _ _ _ _ (h _ _))
theorem mh27_71_9 {X : mi_X} {Q : mi_R → mi_G → mi_M → Prop} {u : mi_U} {l1 l2 l3 l4 l5 l6 l7 : Int} {μ : mi_M} (h :
  if mi_wr l7 < mi_wr (μ 1 0) then (
    (0 ≤ (mv136 l1 l7 l4 μ) ∧ (mv136 l1 l7 l4 μ) < 384) ∧
    if mi_wr l1 = 0 then (
      if mi_wr (l7 - (mv28 l2 (μ 74 (mv136 l1 l7 l4 μ)) μ)) = mi_wr l3 then (
        if mi_wr l6 < mi_wr (μ 74 (mv136 l1 l7 l4 μ)) then (
          mk27_71_9 X Q u l1 l2 l3 l4 l7 (μ 74 (mv136 l1 l7 l4 μ)) (l7 + 1) μ)
        else (
          mk27_71_9 X Q u l1 l2 l3 l4 l5 l6 (l7 + 1) μ))
      else (
        mk27_71_9 X Q u l1 l2 l3 l4 l5 l6 (l7 + 1) μ))
    else (
      if mi_wr (l7 + (mv28 (4 - l2) (μ 74 (mv136 l1 l7 l4 μ)) μ)) = mi_wr l3 then (
        if mi_wr l6 < mi_wr (μ 74 (mv136 l1 l7 l4 μ)) then (
          mk27_71_9 X Q u l1 l2 l3 l4 l7 (μ 74 (mv136 l1 l7 l4 μ)) (l7 + 1) μ)
        else (
          mk27_71_9 X Q u l1 l2 l3 l4 l5 l6 (l7 + 1) μ))
      else (
        mk27_71_9 X Q u l1 l2 l3 l4 l5 l6 (l7 + 1) μ)))
  else (
    Q (.inl (some (.inl l5))) mi_G0 μ)) : mk27_71_9 X Q u l1 l2 l3 l4 l5 l6 l7 μ :=
  fun o8 o9 => ms_run (stop := ms27_71) (by decide) rfl (fun _ _ _ _ _ _ h => h) 51 9 _ _ _ _ _ (mi_ite (fun h186 => (mc136 (And.intro h186.1 (mi_ite (fun h187 => (mc28 (mi_ite (fun h188 => (mi_ite (fun h189 => (h189 _ _)) (fun h189 => (h189 _ _)) h188)) (fun h188 => (h188 _ _)) h187))) (fun h187 => (mc28 (mi_ite (fun h190 => (mi_ite (fun h191 => (h191 _ _)) (fun h191 => (h191 _ _)) h190)) (fun h190 => (h190 _ _)) h187))) h186.2)))) (fun h186 => h186) h)
-- TwoViewsModel.comesTo(IIII)I (86,)
noncomputable def mk235_86_6 (X : mi_X) (Q : mi_R → mi_G → mi_M → Prop) (u : mi_U) (l1 l2 l3 l4 l5 l6 : Int) (μ : mi_M) : Prop := ∀ o7 o8 o9 : Option mi_V, mi_ok X 235 mi_G0 Q 6 [some (.inr (.inl (some 86))), some (.inl l1), some (.inl l2), some (.inl l3), some (.inl l4), some (.inl l5), some (.inl l6), o7, o8, o9] [] mi_G0 μ u
def ms235_86 (pc : Nat) : Bool := Nat.beq pc 6
theorem me235_86 {X : mi_X} {Q : mi_R → mi_G → mi_M → Prop} {u : mi_U} {a0 a1 a2 a3 : Int} {μ : mi_M} (h :
  mk235_86_6 X Q u a0 a1 a2 a3 (-1) 0 μ) : mi_cok X 235 [(.inr (.inl (some 86))), (.inl a0), (.inl a1), (.inl a2), (.inl a3)] mi_G0 μ u Q :=
  mi_enter (by decide) (by decide) rfl rfl (ms_run (stop := ms235_86) (by decide) rfl (fun _ _ _ _ _ _ h => h) 66 0 _ _ _ _ _ (h _ _ _))
theorem mh235_86_6 {X : mi_X} {Q : mi_R → mi_G → mi_M → Prop} {u : mi_U} {l1 l2 l3 l4 l5 l6 : Int} {μ : mi_M} (h :
  if mi_wr l6 < mi_wr (μ 87 0) then (
    (0 ≤ (mv185 l1 l6 l4 μ) ∧ (mv185 l1 l6 l4 μ) < 384) ∧
    if mi_wr l1 = 0 then (
      if mi_wr l1 = 0 then (
        if mi_wr (l6 - (mi_div ((l2 * (μ 99 (mv185 l1 l6 l4 μ))) + 2) 4)) = mi_wr l3 then (
          if mi_wr l5 < 0 then (
            mk235_86_6 X Q u l1 l2 l3 l4 l6 (l6 + 1) μ)
          else (
            (0 ≤ (mv185 l1 l5 l4 μ) ∧ (mv185 l1 l5 l4 μ) < 384) ∧
            mk235_86_6 X Q u l1 l2 l3 l4 (if mi_wr (μ 99 (mv185 l1 l5 l4 μ)) < mi_wr (μ 99 (mv185 l1 l6 l4 μ)) then l6 else l5) (l6 + 1) μ))
        else (
          mk235_86_6 X Q u l1 l2 l3 l4 l5 (l6 + 1) μ))
      else (
        if mi_wr (l6 + (mi_div ((l2 * (μ 99 (mv185 l1 l6 l4 μ))) + 2) 4)) = mi_wr l3 then (
          if mi_wr l5 < 0 then (
            mk235_86_6 X Q u l1 l2 l3 l4 l6 (l6 + 1) μ)
          else (
            (0 ≤ (mv185 l1 l5 l4 μ) ∧ (mv185 l1 l5 l4 μ) < 384) ∧
            mk235_86_6 X Q u l1 l2 l3 l4 (if mi_wr (μ 99 (mv185 l1 l5 l4 μ)) < mi_wr (μ 99 (mv185 l1 l6 l4 μ)) then l6 else l5) (l6 + 1) μ))
        else (
          mk235_86_6 X Q u l1 l2 l3 l4 l5 (l6 + 1) μ)))
    else (
      if mi_wr l1 = 0 then (
        if mi_wr (l6 - (mi_div (((4 - l2) * (μ 99 (mv185 l1 l6 l4 μ))) + 2) 4)) = mi_wr l3 then (
          if mi_wr l5 < 0 then (
            mk235_86_6 X Q u l1 l2 l3 l4 l6 (l6 + 1) μ)
          else (
            (0 ≤ (mv185 l1 l5 l4 μ) ∧ (mv185 l1 l5 l4 μ) < 384) ∧
            mk235_86_6 X Q u l1 l2 l3 l4 (if mi_wr (μ 99 (mv185 l1 l5 l4 μ)) < mi_wr (μ 99 (mv185 l1 l6 l4 μ)) then l6 else l5) (l6 + 1) μ))
        else (
          mk235_86_6 X Q u l1 l2 l3 l4 l5 (l6 + 1) μ))
      else (
        if mi_wr (l6 + (mi_div (((4 - l2) * (μ 99 (mv185 l1 l6 l4 μ))) + 2) 4)) = mi_wr l3 then (
          if mi_wr l5 < 0 then (
            mk235_86_6 X Q u l1 l2 l3 l4 l6 (l6 + 1) μ)
          else (
            (0 ≤ (mv185 l1 l5 l4 μ) ∧ (mv185 l1 l5 l4 μ) < 384) ∧
            mk235_86_6 X Q u l1 l2 l3 l4 (if mi_wr (μ 99 (mv185 l1 l5 l4 μ)) < mi_wr (μ 99 (mv185 l1 l6 l4 μ)) then l6 else l5) (l6 + 1) μ))
        else (
          mk235_86_6 X Q u l1 l2 l3 l4 l5 (l6 + 1) μ))))
  else (
    Q (.inl (some (.inl l5))) mi_G0 μ)) : mk235_86_6 X Q u l1 l2 l3 l4 l5 l6 μ :=
  fun o7 o8 o9 => ms_run (stop := ms235_86) (by decide) rfl (fun _ _ _ _ _ _ h => h) 66 6 _ _ _ _ _ (And.intro (⟨by decide, by decide⟩ : (0 : Int) ≤ 0 ∧ (0 : Int) < 394) (mi_ite (fun h192 => (mc185 (And.intro h192.1 (mi_ite (fun h193 => (And.intro (by decide : mi_wr 4 ≠ 0) (mi_ite (fun h194 => (mi_ite (fun h195 => (mi_ite (fun h196 => (h196 _ _ _)) (fun h196 => (mc185 (And.intro h196.1 (mi_dt (fun h197 => ((mi_mp (P := fun z => mk235_86_6 X Q u l1 l2 l3 l4 z (l6 + 1) μ) h197 h196.2) _ _ _)) (fun h197 => ((mi_mn (P := fun z => mk235_86_6 X Q u l1 l2 l3 l4 z (l6 + 1) μ) h197 h196.2) _ _ _)))))) h195)) (fun h195 => (h195 _ _ _)) h194)) (fun h194 => (mi_ite (fun h198 => (mi_ite (fun h199 => (h199 _ _ _)) (fun h199 => (mc185 (And.intro h199.1 (mi_dt (fun h200 => ((mi_mp (P := fun z => mk235_86_6 X Q u l1 l2 l3 l4 z (l6 + 1) μ) h200 h199.2) _ _ _)) (fun h200 => ((mi_mn (P := fun z => mk235_86_6 X Q u l1 l2 l3 l4 z (l6 + 1) μ) h200 h199.2) _ _ _)))))) h198)) (fun h198 => (h198 _ _ _)) h194)) h193))) (fun h193 => (And.intro (by decide : mi_wr 4 ≠ 0) (mi_ite (fun h201 => (mi_ite (fun h202 => (mi_ite (fun h203 => (h203 _ _ _)) (fun h203 => (mc185 (And.intro h203.1 (mi_dt (fun h204 => ((mi_mp (P := fun z => mk235_86_6 X Q u l1 l2 l3 l4 z (l6 + 1) μ) h204 h203.2) _ _ _)) (fun h204 => ((mi_mn (P := fun z => mk235_86_6 X Q u l1 l2 l3 l4 z (l6 + 1) μ) h204 h203.2) _ _ _)))))) h202)) (fun h202 => (h202 _ _ _)) h201)) (fun h201 => (mi_ite (fun h205 => (mi_ite (fun h206 => (h206 _ _ _)) (fun h206 => (mc185 (And.intro h206.1 (mi_dt (fun h207 => ((mi_mp (P := fun z => mk235_86_6 X Q u l1 l2 l3 l4 z (l6 + 1) μ) h207 h206.2) _ _ _)) (fun h207 => ((mi_mn (P := fun z => mk235_86_6 X Q u l1 l2 l3 l4 z (l6 + 1) μ) h207 h206.2) _ _ _)))))) h205)) (fun h205 => (h205 _ _ _)) h201)) h193))) h192.2)))) (fun h192 => h192) h))
