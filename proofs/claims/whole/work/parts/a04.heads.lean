/-! PRINTED by wip/whole/gen: heads of methods -/
-- TwoViews$Past.keep(LTwoViews$Scene;)V (17, 1)
noncomputable def mk46_17_1_8 (X : mi_X) (Q : mi_R → mi_G → mi_M → Prop) (u : mi_U) (s1 : Int) (μ : mi_M) : Prop := mi_ok X 46 mi_G0 Q 8 [some (.inr (.inl (some 17))), some (.inr (.inl (some 1)))] [(.inl s1), (.inr (.inl (some 18)))] mi_G0 μ u
def ms46_17_1 (pc : Nat) : Bool := Nat.beq pc 8
theorem me46_17_1 {X : mi_X} {Q : mi_R → mi_G → mi_M → Prop} {u : mi_U} {μ : mi_M} (h :
  mk46_17_1_8 X Q u (μ 17 1) μ) : mi_cok X 46 [(.inr (.inl (some 17))), (.inr (.inl (some 1)))] mi_G0 μ u Q :=
  mi_enter (by decide) (by decide) rfl rfl (ms_run (stop := ms46_17_1) (by decide) rfl (fun _ _ _ _ _ _ h => h) 32 0 _ _ _ _ _ (h))
theorem mh46_17_1_8_v0 {X : mi_X} {Q : mi_R → mi_G → mi_M → Prop} {u : mi_U} {μ : mi_M} (h :
  if mi_wr (((mm84_19_1 μ) 17 1) + 1) < mi_wr 8 then (
    Q (.inl none) mi_G0 (mi_set (mi_set (mm84_19_1 μ) 17 1 (((mm84_19_1 μ) 17 1) + 1)) 17 0 (mv261 (((mm84_19_1 μ) 17 0) + 1) 8 (mi_set (mm84_19_1 μ) 17 1 (((mm84_19_1 μ) 17 1) + 1)))))
  else (
    Q (.inl none) mi_G0 (mi_set (mi_set (mm84_19_1 μ) 17 1 0) 17 0 (mv261 (((mm84_19_1 μ) 17 0) + 1) 8 (mi_set (mm84_19_1 μ) 17 1 0))))) : mk46_17_1_8 X Q u 0 μ :=
  ms_run (stop := ms46_17_1) (by decide) rfl (fun _ _ _ _ _ _ h => h) 32 8 _ _ _ _ _ (And.intro (⟨by decide, by decide⟩ : (0 : Int) ≤ 0 ∧ (0 : Int) < 8) (mc84_19_1 (mi_ite (fun h205 => (mc261 h205)) (fun h205 => (mc261 h205)) h)))
theorem mh46_17_1_8_v1 {X : mi_X} {Q : mi_R → mi_G → mi_M → Prop} {u : mi_U} {μ : mi_M} (h :
  if mi_wr (((mm84_22_1 μ) 17 1) + 1) < mi_wr 8 then (
    Q (.inl none) mi_G0 (mi_set (mi_set (mm84_22_1 μ) 17 1 (((mm84_22_1 μ) 17 1) + 1)) 17 0 (mv261 (((mm84_22_1 μ) 17 0) + 1) 8 (mi_set (mm84_22_1 μ) 17 1 (((mm84_22_1 μ) 17 1) + 1)))))
  else (
    Q (.inl none) mi_G0 (mi_set (mi_set (mm84_22_1 μ) 17 1 0) 17 0 (mv261 (((mm84_22_1 μ) 17 0) + 1) 8 (mi_set (mm84_22_1 μ) 17 1 0))))) : mk46_17_1_8 X Q u 1 μ :=
  ms_run (stop := ms46_17_1) (by decide) rfl (fun _ _ _ _ _ _ h => h) 32 8 _ _ _ _ _ (And.intro (⟨by decide, by decide⟩ : (0 : Int) ≤ 1 ∧ (1 : Int) < 8) (mc84_22_1 (mi_ite (fun h206 => (mc261 h206)) (fun h206 => (mc261 h206)) h)))
theorem mh46_17_1_8_v2 {X : mi_X} {Q : mi_R → mi_G → mi_M → Prop} {u : mi_U} {μ : mi_M} (h :
  if mi_wr (((mm84_25_1 μ) 17 1) + 1) < mi_wr 8 then (
    Q (.inl none) mi_G0 (mi_set (mi_set (mm84_25_1 μ) 17 1 (((mm84_25_1 μ) 17 1) + 1)) 17 0 (mv261 (((mm84_25_1 μ) 17 0) + 1) 8 (mi_set (mm84_25_1 μ) 17 1 (((mm84_25_1 μ) 17 1) + 1)))))
  else (
    Q (.inl none) mi_G0 (mi_set (mi_set (mm84_25_1 μ) 17 1 0) 17 0 (mv261 (((mm84_25_1 μ) 17 0) + 1) 8 (mi_set (mm84_25_1 μ) 17 1 0))))) : mk46_17_1_8 X Q u 2 μ :=
  ms_run (stop := ms46_17_1) (by decide) rfl (fun _ _ _ _ _ _ h => h) 32 8 _ _ _ _ _ (And.intro (⟨by decide, by decide⟩ : (0 : Int) ≤ 2 ∧ (2 : Int) < 8) (mc84_25_1 (mi_ite (fun h207 => (mc261 h207)) (fun h207 => (mc261 h207)) h)))
theorem mh46_17_1_8_v3 {X : mi_X} {Q : mi_R → mi_G → mi_M → Prop} {u : mi_U} {μ : mi_M} (h :
  if mi_wr (((mm84_28_1 μ) 17 1) + 1) < mi_wr 8 then (
    Q (.inl none) mi_G0 (mi_set (mi_set (mm84_28_1 μ) 17 1 (((mm84_28_1 μ) 17 1) + 1)) 17 0 (mv261 (((mm84_28_1 μ) 17 0) + 1) 8 (mi_set (mm84_28_1 μ) 17 1 (((mm84_28_1 μ) 17 1) + 1)))))
  else (
    Q (.inl none) mi_G0 (mi_set (mi_set (mm84_28_1 μ) 17 1 0) 17 0 (mv261 (((mm84_28_1 μ) 17 0) + 1) 8 (mi_set (mm84_28_1 μ) 17 1 0))))) : mk46_17_1_8 X Q u 3 μ :=
  ms_run (stop := ms46_17_1) (by decide) rfl (fun _ _ _ _ _ _ h => h) 32 8 _ _ _ _ _ (And.intro (⟨by decide, by decide⟩ : (0 : Int) ≤ 3 ∧ (3 : Int) < 8) (mc84_28_1 (mi_ite (fun h208 => (mc261 h208)) (fun h208 => (mc261 h208)) h)))
theorem mh46_17_1_8_v4 {X : mi_X} {Q : mi_R → mi_G → mi_M → Prop} {u : mi_U} {μ : mi_M} (h :
  if mi_wr (((mm84_31_1 μ) 17 1) + 1) < mi_wr 8 then (
    Q (.inl none) mi_G0 (mi_set (mi_set (mm84_31_1 μ) 17 1 (((mm84_31_1 μ) 17 1) + 1)) 17 0 (mv261 (((mm84_31_1 μ) 17 0) + 1) 8 (mi_set (mm84_31_1 μ) 17 1 (((mm84_31_1 μ) 17 1) + 1)))))
  else (
    Q (.inl none) mi_G0 (mi_set (mi_set (mm84_31_1 μ) 17 1 0) 17 0 (mv261 (((mm84_31_1 μ) 17 0) + 1) 8 (mi_set (mm84_31_1 μ) 17 1 0))))) : mk46_17_1_8 X Q u 4 μ :=
  ms_run (stop := ms46_17_1) (by decide) rfl (fun _ _ _ _ _ _ h => h) 32 8 _ _ _ _ _ (And.intro (⟨by decide, by decide⟩ : (0 : Int) ≤ 4 ∧ (4 : Int) < 8) (mc84_31_1 (mi_ite (fun h209 => (mc261 h209)) (fun h209 => (mc261 h209)) h)))
theorem mh46_17_1_8_v5 {X : mi_X} {Q : mi_R → mi_G → mi_M → Prop} {u : mi_U} {μ : mi_M} (h :
  if mi_wr (((mm84_34_1 μ) 17 1) + 1) < mi_wr 8 then (
    Q (.inl none) mi_G0 (mi_set (mi_set (mm84_34_1 μ) 17 1 (((mm84_34_1 μ) 17 1) + 1)) 17 0 (mv261 (((mm84_34_1 μ) 17 0) + 1) 8 (mi_set (mm84_34_1 μ) 17 1 (((mm84_34_1 μ) 17 1) + 1)))))
  else (
    Q (.inl none) mi_G0 (mi_set (mi_set (mm84_34_1 μ) 17 1 0) 17 0 (mv261 (((mm84_34_1 μ) 17 0) + 1) 8 (mi_set (mm84_34_1 μ) 17 1 0))))) : mk46_17_1_8 X Q u 5 μ :=
  ms_run (stop := ms46_17_1) (by decide) rfl (fun _ _ _ _ _ _ h => h) 32 8 _ _ _ _ _ (And.intro (⟨by decide, by decide⟩ : (0 : Int) ≤ 5 ∧ (5 : Int) < 8) (mc84_34_1 (mi_ite (fun h210 => (mc261 h210)) (fun h210 => (mc261 h210)) h)))
theorem mh46_17_1_8_v6 {X : mi_X} {Q : mi_R → mi_G → mi_M → Prop} {u : mi_U} {μ : mi_M} (h :
  if mi_wr (((mm84_37_1 μ) 17 1) + 1) < mi_wr 8 then (
    Q (.inl none) mi_G0 (mi_set (mi_set (mm84_37_1 μ) 17 1 (((mm84_37_1 μ) 17 1) + 1)) 17 0 (mv261 (((mm84_37_1 μ) 17 0) + 1) 8 (mi_set (mm84_37_1 μ) 17 1 (((mm84_37_1 μ) 17 1) + 1)))))
  else (
    Q (.inl none) mi_G0 (mi_set (mi_set (mm84_37_1 μ) 17 1 0) 17 0 (mv261 (((mm84_37_1 μ) 17 0) + 1) 8 (mi_set (mm84_37_1 μ) 17 1 0))))) : mk46_17_1_8 X Q u 6 μ :=
  ms_run (stop := ms46_17_1) (by decide) rfl (fun _ _ _ _ _ _ h => h) 32 8 _ _ _ _ _ (And.intro (⟨by decide, by decide⟩ : (0 : Int) ≤ 6 ∧ (6 : Int) < 8) (mc84_37_1 (mi_ite (fun h211 => (mc261 h211)) (fun h211 => (mc261 h211)) h)))
theorem mh46_17_1_8_v7 {X : mi_X} {Q : mi_R → mi_G → mi_M → Prop} {u : mi_U} {μ : mi_M} (h :
  if mi_wr (((mm84_40_1 μ) 17 1) + 1) < mi_wr 8 then (
    Q (.inl none) mi_G0 (mi_set (mi_set (mm84_40_1 μ) 17 1 (((mm84_40_1 μ) 17 1) + 1)) 17 0 (mv261 (((mm84_40_1 μ) 17 0) + 1) 8 (mi_set (mm84_40_1 μ) 17 1 (((mm84_40_1 μ) 17 1) + 1)))))
  else (
    Q (.inl none) mi_G0 (mi_set (mi_set (mm84_40_1 μ) 17 1 0) 17 0 (mv261 (((mm84_40_1 μ) 17 0) + 1) 8 (mi_set (mm84_40_1 μ) 17 1 0))))) : mk46_17_1_8 X Q u 7 μ :=
  ms_run (stop := ms46_17_1) (by decide) rfl (fun _ _ _ _ _ _ h => h) 32 8 _ _ _ _ _ (And.intro (⟨by decide, by decide⟩ : (0 : Int) ≤ 7 ∧ (7 : Int) < 8) (mc84_40_1 (mi_ite (fun h212 => (mc261 h212)) (fun h212 => (mc261 h212)) h)))
-- TwoViews$Past.giveBack(LTwoViews$Scene;)V (17, 1)
noncomputable def mk47_17_1_31 (X : mi_X) (Q : mi_R → mi_G → mi_M → Prop) (u : mi_U) (s2 : Int) (μ : mi_M) : Prop := ∀ o1 : Option mi_V, mi_ok X 47 mi_G0 Q 31 [some (.inr (.inl (some 17))), o1] [(.inl s2), (.inr (.inl (some 18))), (.inr (.inl (some 1)))] mi_G0 μ u
def ms47_17_1 (pc : Nat) : Bool := Nat.beq pc 31
theorem me47_17_1 {X : mi_X} {Q : mi_R → mi_G → mi_M → Prop} {u : mi_U} {μ : mi_M} (h :
  if 0 < mi_wr (μ 17 1) then (
    mk47_17_1_31 X Q u ((μ 17 1) - 1) (mi_set μ 17 1 ((μ 17 1) - 1)))
  else (
    mk47_17_1_31 X Q u 7 (mi_set μ 17 1 7))) : mi_cok X 47 [(.inr (.inl (some 17))), (.inr (.inl (some 1)))] mi_G0 μ u Q :=
  mi_enter (by decide) (by decide) rfl rfl (ms_run (stop := ms47_17_1) (by decide) rfl (fun _ _ _ _ _ _ h => h) 27 0 _ _ _ _ _ (mi_ite (fun h213 => (h213 _)) (fun h213 => (h213 _)) h))
theorem mh47_17_1_31_v0 {X : mi_X} {Q : mi_R → mi_G → mi_M → Prop} {u : mi_U} {μ : mi_M} (h :
  Q (.inl none) mi_G0 (mi_set (mm84_1_19 μ) 17 0 (((mm84_1_19 μ) 17 0) - 1))) : mk47_17_1_31 X Q u 0 μ :=
  fun o1 => ms_run (stop := ms47_17_1) (by decide) rfl (fun _ _ _ _ _ _ h => h) 27 31 _ _ _ _ _ (And.intro (⟨by decide, by decide⟩ : (0 : Int) ≤ 0 ∧ (0 : Int) < 8) (mc84_1_19 h))
theorem mh47_17_1_31_v1 {X : mi_X} {Q : mi_R → mi_G → mi_M → Prop} {u : mi_U} {μ : mi_M} (h :
  Q (.inl none) mi_G0 (mi_set (mm84_1_22 μ) 17 0 (((mm84_1_22 μ) 17 0) - 1))) : mk47_17_1_31 X Q u 1 μ :=
  fun o1 => ms_run (stop := ms47_17_1) (by decide) rfl (fun _ _ _ _ _ _ h => h) 27 31 _ _ _ _ _ (And.intro (⟨by decide, by decide⟩ : (0 : Int) ≤ 1 ∧ (1 : Int) < 8) (mc84_1_22 h))
theorem mh47_17_1_31_v2 {X : mi_X} {Q : mi_R → mi_G → mi_M → Prop} {u : mi_U} {μ : mi_M} (h :
  Q (.inl none) mi_G0 (mi_set (mm84_1_25 μ) 17 0 (((mm84_1_25 μ) 17 0) - 1))) : mk47_17_1_31 X Q u 2 μ :=
  fun o1 => ms_run (stop := ms47_17_1) (by decide) rfl (fun _ _ _ _ _ _ h => h) 27 31 _ _ _ _ _ (And.intro (⟨by decide, by decide⟩ : (0 : Int) ≤ 2 ∧ (2 : Int) < 8) (mc84_1_25 h))
theorem mh47_17_1_31_v3 {X : mi_X} {Q : mi_R → mi_G → mi_M → Prop} {u : mi_U} {μ : mi_M} (h :
  Q (.inl none) mi_G0 (mi_set (mm84_1_28 μ) 17 0 (((mm84_1_28 μ) 17 0) - 1))) : mk47_17_1_31 X Q u 3 μ :=
  fun o1 => ms_run (stop := ms47_17_1) (by decide) rfl (fun _ _ _ _ _ _ h => h) 27 31 _ _ _ _ _ (And.intro (⟨by decide, by decide⟩ : (0 : Int) ≤ 3 ∧ (3 : Int) < 8) (mc84_1_28 h))
theorem mh47_17_1_31_v4 {X : mi_X} {Q : mi_R → mi_G → mi_M → Prop} {u : mi_U} {μ : mi_M} (h :
  Q (.inl none) mi_G0 (mi_set (mm84_1_31 μ) 17 0 (((mm84_1_31 μ) 17 0) - 1))) : mk47_17_1_31 X Q u 4 μ :=
  fun o1 => ms_run (stop := ms47_17_1) (by decide) rfl (fun _ _ _ _ _ _ h => h) 27 31 _ _ _ _ _ (And.intro (⟨by decide, by decide⟩ : (0 : Int) ≤ 4 ∧ (4 : Int) < 8) (mc84_1_31 h))
theorem mh47_17_1_31_v5 {X : mi_X} {Q : mi_R → mi_G → mi_M → Prop} {u : mi_U} {μ : mi_M} (h :
  Q (.inl none) mi_G0 (mi_set (mm84_1_34 μ) 17 0 (((mm84_1_34 μ) 17 0) - 1))) : mk47_17_1_31 X Q u 5 μ :=
  fun o1 => ms_run (stop := ms47_17_1) (by decide) rfl (fun _ _ _ _ _ _ h => h) 27 31 _ _ _ _ _ (And.intro (⟨by decide, by decide⟩ : (0 : Int) ≤ 5 ∧ (5 : Int) < 8) (mc84_1_34 h))
theorem mh47_17_1_31_v6 {X : mi_X} {Q : mi_R → mi_G → mi_M → Prop} {u : mi_U} {μ : mi_M} (h :
  Q (.inl none) mi_G0 (mi_set (mm84_1_37 μ) 17 0 (((mm84_1_37 μ) 17 0) - 1))) : mk47_17_1_31 X Q u 6 μ :=
  fun o1 => ms_run (stop := ms47_17_1) (by decide) rfl (fun _ _ _ _ _ _ h => h) 27 31 _ _ _ _ _ (And.intro (⟨by decide, by decide⟩ : (0 : Int) ≤ 6 ∧ (6 : Int) < 8) (mc84_1_37 h))
theorem mh47_17_1_31_v7 {X : mi_X} {Q : mi_R → mi_G → mi_M → Prop} {u : mi_U} {μ : mi_M} (h :
  Q (.inl none) mi_G0 (mi_set (mm84_1_40 μ) 17 0 (((mm84_1_40 μ) 17 0) - 1))) : mk47_17_1_31 X Q u 7 μ :=
  fun o1 => ms_run (stop := ms47_17_1) (by decide) rfl (fun _ _ _ _ _ _ h => h) 27 31 _ _ _ _ _ (And.intro (⟨by decide, by decide⟩ : (0 : Int) ≤ 7 ∧ (7 : Int) < 8) (mc84_1_40 h))
-- TwoViews$Scene.blank(II)V (1,)
noncomputable def mk85_1_12 (X : mi_X) (Q : mi_R → mi_G → mi_M → Prop) (u : mi_U) (l3 : Int) (μ : mi_M) : Prop := ∀ o1 o2 : Option mi_V, mi_ok X 85 mi_G0 Q 12 [some (.inr (.inl (some 1))), o1, o2, some (.inl l3)] [] mi_G0 μ u
def ms85_1 (pc : Nat) : Bool := Nat.beq pc 12
theorem me85_1 {X : mi_X} {Q : mi_R → mi_G → mi_M → Prop} {u : mi_U} {a0 a1 : Int} {μ : mi_M} (h :
  mk85_1_12 X Q u 0 (mi_set (mi_set μ 1 0 a0) 1 1 a1)) : mi_cok X 85 [(.inr (.inl (some 1))), (.inl a0), (.inl a1)] mi_G0 μ u Q :=
  mi_enter (by decide) (by decide) rfl rfl (ms_run (stop := ms85_1) (by decide) rfl (fun _ _ _ _ _ _ h => h) 21 0 _ _ _ _ _ (h _ _))
theorem mh85_1_12 {X : mi_X} {Q : mi_R → mi_G → mi_M → Prop} {u : mi_U} {l3 : Int} {μ : mi_M} (h :
  if mi_wr l3 < mi_wr 384 then (
    (0 ≤ l3 ∧ l3 < 384) ∧
    mk85_1_12 X Q u (l3 + 1) (mi_set μ 3 l3 0))
  else (
    Q (.inl none) mi_G0 μ)) : mk85_1_12 X Q u l3 μ :=
  fun o1 o2 => ms_run (stop := ms85_1) (by decide) rfl (fun _ _ _ _ _ _ h => h) 21 12 _ _ _ _ _ (mi_ite (fun h214 => (And.intro h214.1 (h214.2 _ _))) (fun h214 => h214) h)
-- TwoViews$Scene.blank(II)V (14,)
noncomputable def mk85_14_12 (X : mi_X) (Q : mi_R → mi_G → mi_M → Prop) (u : mi_U) (l3 : Int) (μ : mi_M) : Prop := ∀ o1 o2 : Option mi_V, mi_ok X 85 mi_G0 Q 12 [some (.inr (.inl (some 14))), o1, o2, some (.inl l3)] [] mi_G0 μ u
def ms85_14 (pc : Nat) : Bool := Nat.beq pc 12
theorem me85_14 {X : mi_X} {Q : mi_R → mi_G → mi_M → Prop} {u : mi_U} {a0 a1 : Int} {μ : mi_M} (h :
  mk85_14_12 X Q u 0 (mi_set (mi_set μ 14 0 a0) 14 1 a1)) : mi_cok X 85 [(.inr (.inl (some 14))), (.inl a0), (.inl a1)] mi_G0 μ u Q :=
  mi_enter (by decide) (by decide) rfl rfl (ms_run (stop := ms85_14) (by decide) rfl (fun _ _ _ _ _ _ h => h) 21 0 _ _ _ _ _ (h _ _))
theorem mh85_14_12 {X : mi_X} {Q : mi_R → mi_G → mi_M → Prop} {u : mi_U} {l3 : Int} {μ : mi_M} (h :
  if mi_wr l3 < mi_wr 384 then (
    (0 ≤ l3 ∧ l3 < 384) ∧
    mk85_14_12 X Q u (l3 + 1) (mi_set μ 16 l3 0))
  else (
    Q (.inl none) mi_G0 μ)) : mk85_14_12 X Q u l3 μ :=
  fun o1 o2 => ms_run (stop := ms85_14) (by decide) rfl (fun _ _ _ _ _ _ h => h) 21 12 _ _ _ _ _ (mi_ite (fun h215 => (And.intro h215.1 (h215.2 _ _))) (fun h215 => h215) h)
-- TwoViewsModel.empties()V (86,)
noncomputable def mk147_86_3 (X : mi_X) (Q : mi_R → mi_G → mi_M → Prop) (u : mi_U) (l1 : Int) (μ : mi_M) : Prop := mi_ok X 147 mi_G0 Q 3 [some (.inr (.inl (some 86))), some (.inl l1)] [] mi_G0 μ u
def ms147_86 (pc : Nat) : Bool := Nat.beq pc 3
theorem me147_86 {X : mi_X} {Q : mi_R → mi_G → mi_M → Prop} {u : mi_U} {μ : mi_M} (h :
  mk147_86_3 X Q u 10 μ) : mi_cok X 147 [(.inr (.inl (some 86)))] mi_G0 μ u Q :=
  mi_enter (by decide) (by decide) rfl rfl (ms_run (stop := ms147_86) (by decide) rfl (fun _ _ _ _ _ _ h => h) 15 0 _ _ _ _ _ (h))
theorem mh147_86_3 {X : mi_X} {Q : mi_R → mi_G → mi_M → Prop} {u : mi_U} {l1 : Int} {μ : mi_M} (h :
  if mi_wr l1 < mi_wr 394 then (
    (0 ≤ l1 ∧ l1 < 394) ∧
    mk147_86_3 X Q u (l1 + 1) (mi_set μ 87 l1 0))
  else (
    Q (.inl none) mi_G0 μ)) : mk147_86_3 X Q u l1 μ :=
  ms_run (stop := ms147_86) (by decide) rfl (fun _ _ _ _ _ _ h => h) 15 3 _ _ _ _ _ (mi_ite (fun h216 => (And.intro h216.1 (h216.2))) (fun h216 => h216) h)
-- TwoViewsModel.keeps()V (86,)
noncomputable def mk148_86_11 (X : mi_X) (Q : mi_R → mi_G → mi_M → Prop) (u : mi_U) (l1 : Int) (μ : mi_M) : Prop := mi_ok X 148 mi_G0 Q 11 [some (.inr (.inl (some 86))), some (.inl l1)] [] mi_G0 μ u
noncomputable def mk148_86_52 (X : mi_X) (Q : mi_R → mi_G → mi_M → Prop) (u : mi_U) (l1 : Int) (μ : mi_M) : Prop := mi_ok X 148 mi_G0 Q 52 [some (.inr (.inl (some 86))), some (.inl l1)] [] mi_G0 μ u
def ms148_86 (pc : Nat) : Bool := Nat.beq pc 11 || Nat.beq pc 52
theorem me148_86 {X : mi_X} {Q : mi_R → mi_G → mi_M → Prop} {u : mi_U} {μ : mi_M} (h :
  if mi_wr (μ 86 3) = mi_wr 8 then (
    mk148_86_11 X Q u 0 μ)
  else (
    mk148_86_52 X Q u 0 μ)) : mi_cok X 148 [(.inr (.inl (some 86)))] mi_G0 μ u Q :=
  mi_enter (by decide) (by decide) rfl rfl (ms_run (stop := ms148_86) (by decide) rfl (fun _ _ _ _ _ _ h => h) 56 0 _ _ _ _ _ (mi_ite (fun h217 => (h217)) (fun h217 => (h217)) h))
theorem mh148_86_11 {X : mi_X} {Q : mi_R → mi_G → mi_M → Prop} {u : mi_U} {l1 : Int} {μ : mi_M} (h :
  if mi_wr l1 < mi_wr 2758 then (
    (0 ≤ (l1 + 394) ∧ (l1 + 394) < 3152) ∧
    (0 ≤ l1 ∧ l1 < 3152) ∧
    mk148_86_11 X Q u (l1 + 1) (mi_set μ 88 l1 (μ 88 (l1 + 394))))
  else (
    mk148_86_52 X Q u 0 (mi_set μ 86 3 ((μ 86 3) - 1)))) : mk148_86_11 X Q u l1 μ :=
  ms_run (stop := ms148_86) (by decide) rfl (fun _ _ _ _ _ _ h => h) 56 11 _ _ _ _ _ (mi_ite (fun h218 => (And.intro h218.1 (And.intro h218.2.1 (h218.2.2)))) (fun h218 => (h218)) h)
theorem mh148_86_52 {X : mi_X} {Q : mi_R → mi_G → mi_M → Prop} {u : mi_U} {l1 : Int} {μ : mi_M} (h :
  if mi_wr l1 < mi_wr 394 then (
    (0 ≤ l1 ∧ l1 < 394) ∧
    (0 ≤ ((394 * (μ 86 3)) + l1) ∧ ((394 * (μ 86 3)) + l1) < 3152) ∧
    mk148_86_52 X Q u (l1 + 1) (mi_set μ 88 ((394 * (μ 86 3)) + l1) (μ 87 l1)))
  else (
    Q (.inl none) mi_G0 (mi_set μ 86 3 ((μ 86 3) + 1)))) : mk148_86_52 X Q u l1 μ :=
  ms_run (stop := ms148_86) (by decide) rfl (fun _ _ _ _ _ _ h => h) 56 52 _ _ _ _ _ (mi_ite (fun h219 => (And.intro h219.1 (And.intro h219.2.1 (h219.2.2)))) (fun h219 => h219) h)
-- TwoViewsModel.undo()I (86,)
noncomputable def mk149_86_26 (X : mi_X) (Q : mi_R → mi_G → mi_M → Prop) (u : mi_U) (l1 : Int) (μ : mi_M) : Prop := mi_ok X 149 mi_G0 Q 26 [some (.inr (.inl (some 86))), some (.inl l1)] [] mi_G0 μ u
def ms149_86 (pc : Nat) : Bool := Nat.beq pc 26
theorem me149_86 {X : mi_X} {Q : mi_R → mi_G → mi_M → Prop} {u : mi_U} {μ : mi_M} (h :
  if mi_wr (μ 86 3) = 0 then (
    Q (.inl (some (.inl (-1)))) mi_G0 (mi_set μ 86 0 0))
  else (
    mk149_86_26 X Q u 0 (mi_set (mi_set μ 86 0 0) 86 3 ((μ 86 3) - 1)))) : mi_cok X 149 [(.inr (.inl (some 86)))] mi_G0 μ u Q :=
  mi_enter (by decide) (by decide) rfl rfl (ms_run (stop := ms149_86) (by decide) rfl (fun _ _ _ _ _ _ h => h) 39 0 _ _ _ _ _ (mi_ite (fun h220 => h220) (fun h220 => (h220)) h))
theorem mh149_86_26 {X : mi_X} {Q : mi_R → mi_G → mi_M → Prop} {u : mi_U} {l1 : Int} {μ : mi_M} (h :
  if mi_wr l1 < mi_wr 394 then (
    (0 ≤ ((394 * (μ 86 3)) + l1) ∧ ((394 * (μ 86 3)) + l1) < 3152) ∧
    (0 ≤ l1 ∧ l1 < 394) ∧
    mk149_86_26 X Q u (l1 + 1) (mi_set μ 87 l1 (μ 88 ((394 * (μ 86 3)) + l1))))
  else (
    Q (.inl (some (.inl (μ 86 3)))) mi_G0 μ)) : mk149_86_26 X Q u l1 μ :=
  ms_run (stop := ms149_86) (by decide) rfl (fun _ _ _ _ _ _ h => h) 39 26 _ _ _ _ _ (mi_ite (fun h221 => (And.intro h221.1 (And.intro h221.2.1 (h221.2.2)))) (fun h221 => h221) h)
-- TwoViewsModel.puts(I)V (86,)
noncomputable def mk155_86_3 (X : mi_X) (Q : mi_R → mi_G → mi_M → Prop) (u : mi_U) (l1 l2 : Int) (μ : mi_M) : Prop := mi_ok X 155 mi_G0 Q 3 [some (.inr (.inl (some 86))), some (.inl l1), some (.inl l2)] [] mi_G0 μ u
def ms155_86 (pc : Nat) : Bool := Nat.beq pc 3
theorem me155_86 {X : mi_X} {Q : mi_R → mi_G → mi_M → Prop} {u : mi_U} {a0 : Int} {μ : mi_M} (h :
  mk155_86_3 X Q u a0 24 μ) : mi_cok X 155 [(.inr (.inl (some 86))), (.inl a0)] mi_G0 μ u Q :=
  mi_enter (by decide) (by decide) rfl rfl (ms_run (stop := ms155_86) (by decide) rfl (fun _ _ _ _ _ _ h => h) 24 0 _ _ _ _ _ (h))
theorem mh155_86_3 {X : mi_X} {Q : mi_R → mi_G → mi_M → Prop} {u : mi_U} {l1 l2 : Int} {μ : mi_M} (h :
  if mi_wr l2 < 0 then (
    Q (.inl none) mi_G0 μ)
  else (
    (0 ≤ (μ 86 7) ∧ (μ 86 7) < 700) ∧
    mk155_86_3 X Q u l1 (l2 + (-8)) (mi_set (mi_set μ 90 (μ 86 7) (mi_i2b (mi_i2b (mi_shr l1 l2)))) 86 7 ((μ 86 7) + 1)))) : mk155_86_3 X Q u l1 l2 μ :=
  ms_run (stop := ms155_86) (by decide) rfl (fun _ _ _ _ _ _ h => h) 24 3 _ _ _ _ _ (mi_ite (fun h222 => h222) (fun h222 => (And.intro h222.1 (h222.2))) h)
