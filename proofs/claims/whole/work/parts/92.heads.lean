/-! PRINTED by wip/whole/gen: heads of methods -/
-- TwoViews.reach(I)V (0,)
noncomputable def mk141_0_27 (X : mi_X) (Q : mi_R → mi_G → mi_M → Prop) (u : mi_U) (l1 : Int) (μ : mi_M) : Prop := mi_ok X 141 mi_G0 Q 27 [some (.inr (.inl (some 0))), some (.inl l1)] [] mi_G0 μ u
noncomputable def mk141_0_47 (X : mi_X) (Q : mi_R → mi_G → mi_M → Prop) (u : mi_U) (l1 : Int) (μ : mi_M) : Prop := mi_ok X 141 mi_G0 Q 47 [some (.inr (.inl (some 0))), some (.inl l1)] [] mi_G0 μ u
noncomputable def mk141_0_67 (X : mi_X) (Q : mi_R → mi_G → mi_M → Prop) (u : mi_U) (l1 : Int) (μ : mi_M) : Prop := mi_ok X 141 mi_G0 Q 67 [some (.inr (.inl (some 0))), some (.inl l1)] [] mi_G0 μ u
noncomputable def mk141_0_103 (X : mi_X) (Q : mi_R → mi_G → mi_M → Prop) (u : mi_U) (l1 : Int) (μ : mi_M) : Prop := mi_ok X 141 mi_G0 Q 103 [some (.inr (.inl (some 0))), some (.inl l1)] [] mi_G0 μ u
noncomputable def mk141_0_123 (X : mi_X) (Q : mi_R → mi_G → mi_M → Prop) (u : mi_U) (l1 : Int) (μ : mi_M) : Prop := mi_ok X 141 mi_G0 Q 123 [some (.inr (.inl (some 0))), some (.inl l1)] [] mi_G0 μ u
def ms141_0 (pc : Nat) : Bool := Nat.beq pc 27 || Nat.beq pc 47 || Nat.beq pc 67 || Nat.beq pc 103 || Nat.beq pc 123
theorem me141_0 {X : mi_X} {Q : mi_R → mi_G → mi_M → Prop} {u : mi_U} {a0 : Int} {μ : mi_M} (h :
  if mi_wr (μ 0 11) < mi_wr 1 then (
    if mi_wr a0 < mi_wr 1 then (
      mk141_0_27 X Q u a0 μ)
    else (
      mp31_66 μ ∧
      (∀ (μ0 : mi_M), mq31_66 μ μ0 →
      mp34_66 μ0 ∧
      (∀ (μ1 : mi_M), mq34_66 μ0 μ1 →
      mk141_0_27 X Q u a0 μ1))))
  else (
    mk141_0_27 X Q u a0 μ)) : mi_cok X 141 [(.inr (.inl (some 0))), (.inl a0)] mi_G0 μ u Q :=
  mi_enter (by decide) (by decide) rfl rfl (ms_run (stop := ms141_0) (by decide) rfl (fun _ _ _ _ _ _ h => h) 71 0 _ _ _ _ _ (mi_ite (fun h203 => (mi_ite (fun h204 => (h204)) (fun h204 => (mc31_66 h204.1 (fun μ0 h205 => (have h206 := (h204.2 μ0 h205); (mc34_66 h206.1 (fun μ1 h207 => ((h206.2 μ1 h207)))))))) h203)) (fun h203 => (h203)) h))
theorem mh141_0_27 {X : mi_X} {Q : mi_R → mi_G → mi_M → Prop} {u : mi_U} {l1 : Int} {μ : mi_M} (h :
  if mi_wr (μ 0 11) < mi_wr 2 then (
    if mi_wr l1 < mi_wr 2 then (
      mk141_0_47 X Q u l1 μ)
    else (
      mp40_66 μ ∧
      (∀ (μ0 : mi_M), mq40_66 μ μ0 →
      mk141_0_47 X Q u l1 μ0)))
  else (
    mk141_0_47 X Q u l1 μ)) : mk141_0_27 X Q u l1 μ :=
  ms_run (stop := ms141_0) (by decide) rfl (fun _ _ _ _ _ _ h => h) 71 27 _ _ _ _ _ (mi_ite (fun h209 => (mi_ite (fun h210 => (h210)) (fun h210 => (mc40_66 h210.1 (fun μ0 h211 => ((h210.2 μ0 h211))))) h209)) (fun h209 => (h209)) h)
theorem mh141_0_47 {X : mi_X} {Q : mi_R → mi_G → mi_M → Prop} {u : mi_U} {l1 : Int} {μ : mi_M} (h :
  if mi_wr (μ 0 11) < mi_wr 3 then (
    if mi_wr l1 < mi_wr 3 then (
      mk141_0_67 X Q u l1 μ)
    else (
      mp12_71 μ ∧
      (∀ (μ0 : mi_M), mq12_71 μ μ0 →
      mk141_0_67 X Q u l1 μ0)))
  else (
    mk141_0_67 X Q u l1 μ)) : mk141_0_47 X Q u l1 μ :=
  ms_run (stop := ms141_0) (by decide) rfl (fun _ _ _ _ _ _ h => h) 71 47 _ _ _ _ _ (mi_ite (fun h213 => (mi_ite (fun h214 => (h214)) (fun h214 => (mc12_71 h214.1 (fun μ0 h215 => ((h214.2 μ0 h215))))) h213)) (fun h213 => (h213)) h)
theorem mh141_0_67 {X : mi_X} {Q : mi_R → mi_G → mi_M → Prop} {u : mi_U} {l1 : Int} {μ : mi_M} (h :
  if mi_wr (μ 0 11) < mi_wr 4 then (
    if mi_wr l1 < mi_wr 4 then (
      mk141_0_103 X Q u l1 μ)
    else (
      mp17_71 μ ∧
      (∀ (μ0 : mi_M), mq17_71 μ μ0 →
      mp49_76 0 μ0 ∧
      (∀ (μ1 : mi_M), mq49_76 0 μ0 μ1 →
      mp49_76 1 μ1 ∧
      (∀ (μ2 : mi_M), mq49_76 1 μ1 μ2 →
      mk141_0_103 X Q u l1 μ2)))))
  else (
    mk141_0_103 X Q u l1 μ)) : mk141_0_67 X Q u l1 μ :=
  ms_run (stop := ms141_0) (by decide) rfl (fun _ _ _ _ _ _ h => h) 71 67 _ _ _ _ _ (mi_ite (fun h217 => (mi_ite (fun h218 => (h218)) (fun h218 => (mc17_71 h218.1 (fun μ0 h219 => (have h220 := (h218.2 μ0 h219); (mc49_76 h220.1 (fun μ1 h221 => (have h222 := (h220.2 μ1 h221); (mc49_76 h222.1 (fun μ2 h223 => ((h222.2 μ2 h223))))))))))) h217)) (fun h217 => (h217)) h)
theorem mh141_0_103 {X : mi_X} {Q : mi_R → mi_G → mi_M → Prop} {u : mi_U} {l1 : Int} {μ : mi_M} (h :
  if mi_wr (μ 0 11) < mi_wr 5 then (
    if mi_wr l1 < mi_wr 5 then (
      mk141_0_123 X Q u l1 μ)
    else (
      mp21_71 μ ∧
      (∀ (μ0 : mi_M), mq21_71 μ μ0 →
      mk141_0_123 X Q u l1 μ0)))
  else (
    mk141_0_123 X Q u l1 μ)) : mk141_0_103 X Q u l1 μ :=
  ms_run (stop := ms141_0) (by decide) rfl (fun _ _ _ _ _ _ h => h) 71 103 _ _ _ _ _ (mi_ite (fun h225 => (mi_ite (fun h226 => (h226)) (fun h226 => (mc21_71 h226.1 (fun μ0 h227 => ((h226.2 μ0 h227))))) h225)) (fun h225 => (h225)) h)
theorem mh141_0_123 {X : mi_X} {Q : mi_R → mi_G → mi_M → Prop} {u : mi_U} {l1 : Int} {μ : mi_M} (h :
  Q (.inl none) mi_G0 (if mi_wr (μ 0 11) < mi_wr l1 then (mi_set μ 0 11 l1) else μ)) : mk141_0_123 X Q u l1 μ :=
  ms_run (stop := ms141_0) (by decide) rfl (fun _ _ _ _ _ _ h => h) 71 123 _ _ _ _ _ (mi_dt (fun h229 => (mi_mp (P := fun z => Q (.inl none) mi_G0 z) h229 h)) (fun h229 => (mi_mn (P := fun z => Q (.inl none) mi_G0 z) h229 h)))
