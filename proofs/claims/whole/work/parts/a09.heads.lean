/-! PRINTED by wip/whole/gen: heads of methods -/
-- TwoViews.size(II)Z (0,)
def ms99_0 (pc : Nat) : Bool := false
theorem me99_0 {X : mi_X} {Q : mi_R → mi_G → mi_M → Prop} {u : mi_U} {a0 a1 : Int} {μ : mi_M} (h :
  if mi_wr a0 < mi_wr 3 then (
    Q (.inl (some (.inl 0))) mi_G0 μ)
  else (
    if mi_wr 16 < mi_wr a0 then (
      Q (.inl (some (.inl 0))) mi_G0 μ)
    else (
      if mi_wr a1 < mi_wr 3 then (
        Q (.inl (some (.inl 0))) mi_G0 μ)
      else (
        if mi_wr 12 < mi_wr a1 then (
          Q (.inl (some (.inl 0))) mi_G0 μ)
        else (
          mp139_0 0 μ ∧
          (∀ (μ0 : mi_M), mq139_0 0 μ μ0 →
          (∀ (μ1 : mi_M), mq85_1 a0 a1 μ0 μ1 →
          Q (.inl (some (.inl 1))) mi_G0 μ1))))))) : mi_cok X 99 [(.inr (.inl (some 0))), (.inl a0), (.inl a1)] mi_G0 μ u Q :=
  mi_enter (by decide) (by decide) rfl rfl (ms_run (stop := ms99_0) (by decide) rfl (fun _ _ _ _ _ _ h => h) 26 0 _ _ _ _ _ (mi_ite (fun h205 => (And.intro (by decide : (0 : Int) = 0 ∨ (0 : Int) = 1) h205)) (fun h205 => (mi_ite (fun h206 => (And.intro (by decide : (0 : Int) = 0 ∨ (0 : Int) = 1) h206)) (fun h206 => (mi_ite (fun h207 => (And.intro (by decide : (0 : Int) = 0 ∨ (0 : Int) = 1) h207)) (fun h207 => (mi_ite (fun h208 => (And.intro (by decide : (0 : Int) = 0 ∨ (0 : Int) = 1) h208)) (fun h208 => (mc139_0 h208.1 (fun μ0 h209 => (have h210 := (h208.2 μ0 h209); (mc85_1 (fun μ1 h211 => (have h212 := (h210 μ1 h211); (And.intro (by decide : (1 : Int) = 0 ∨ (1 : Int) = 1) h212)))))))) h207)) h206)) h205)) h))
-- TwoViews.value(IIII)I (0,)
def ms100_0 (pc : Nat) : Bool := false
theorem me100_0 {X : mi_X} {Q : mi_R → mi_G → mi_M → Prop} {u : mi_U} {a0 a1 a2 a3 : Int} {μ : mi_M} (h :
  if mi_wr (mv87_1 a0 a1 a2 μ) = 0 then (
    Q (.inl (some (.inl (-1)))) mi_G0 μ)
  else (
    if mi_wr a3 < 0 then (
      Q (.inl (some (.inl (-1)))) mi_G0 μ)
    else (
      if mi_wr 15 < mi_wr a3 then (
        Q (.inl (some (.inl (-1)))) mi_G0 μ)
      else (
        mp139_0 0 μ ∧
        (∀ (μ0 : mi_M), mq139_0 0 μ μ0 →
        (0 ≤ (mv136 a0 a1 a2 μ0) ∧ (mv136 a0 a1 a2 μ0) < 384) ∧
        (0 ≤ (mv136 a0 a1 a2 μ0) ∧ (mv136 a0 a1 a2 μ0) < 384) ∧
        Q (.inl (some (.inl (μ0 3 (mv136 a0 a1 a2 μ0))))) mi_G0 (mi_set μ0 3 (mv136 a0 a1 a2 μ0) a3)))))) : mi_cok X 100 [(.inr (.inl (some 0))), (.inl a0), (.inl a1), (.inl a2), (.inl a3)] mi_G0 μ u Q :=
  mi_enter (by decide) (by decide) rfl rfl (ms_run (stop := ms100_0) (by decide) rfl (fun _ _ _ _ _ _ h => h) 38 0 _ _ _ _ _ (mc87_1 (mi_ite (fun h213 => h213) (fun h213 => (mi_ite (fun h214 => h214) (fun h214 => (mi_ite (fun h215 => h215) (fun h215 => (mc139_0 h215.1 (fun μ0 h216 => (have h217 := (h215.2 μ0 h216); (mc136 (And.intro h217.1 (And.intro h217.2.1 h217.2.2))))))) h214)) h213)) h)))
-- TwoViews.tune(II)I (0,)
def ms101_0 (pc : Nat) : Bool := false
theorem me101_0 {X : mi_X} {Q : mi_R → mi_G → mi_M → Prop} {u : mi_U} {a0 a1 : Int} {μ : mi_M} (h :
  mp89_1 a0 a1 μ ∧
  if mi_wr (mv89_1 X a0 a1 μ) = 0 then (
    Q (.inl (some (.inl (-1)))) mi_G0 μ)
  else (
    (0 ≤ a0 ∧ a0 < 8) ∧
    mp139_0 (mi_ro X 1005 a0) μ ∧
    (∀ (μ0 : mi_M), mq139_0 (mi_ro X 1005 a0) μ μ0 →
    (0 ≤ a0 ∧ a0 < 8) ∧
    (0 ≤ a0 ∧ a0 < 8) ∧
    Q (.inl (some (.inl (μ0 2 a0)))) mi_G0 (mi_set μ0 2 a0 a1)))) : mi_cok X 101 [(.inr (.inl (some 0))), (.inl a0), (.inl a1)] mi_G0 μ u Q :=
  mi_enter (by decide) (by decide) rfl rfl (ms_run (stop := ms101_0) (by decide) rfl (fun _ _ _ _ _ _ h => h) 29 0 _ _ _ _ _ (mc89_1 h.1 (mi_ite (fun h218 => h218) (fun h218 => (And.intro h218.1 (mc139_0 h218.2.1 (fun μ0 h219 => (have h220 := (h218.2.2 μ0 h219); (And.intro h220.1 (And.intro h220.2.1 h220.2.2))))))) h.2)))
-- TwoViews.draw()I (0,)
noncomputable def mk104_0_9 (X : mi_X) (Q : mi_R → mi_G → mi_M → Prop) (u : mi_U) (l1 l2 : Int) (μ : mi_M) : Prop := ∀ o3 o4 : Option mi_V, mi_ok X 104 mi_G0 Q 9 [some (.inr (.inl (some 0))), some (.inl l1), some (.inl l2), o3, o4] [] mi_G0 μ u
noncomputable def mk104_0_22 (X : mi_X) (Q : mi_R → mi_G → mi_M → Prop) (u : mi_U) (l1 l2 l3 : Int) (μ : mi_M) : Prop := ∀ o4 : Option mi_V, mi_ok X 104 mi_G0 Q 22 [some (.inr (.inl (some 0))), some (.inl l1), some (.inl l2), some (.inl l3), o4] [] mi_G0 μ u
def ms104_0 (pc : Nat) : Bool := Nat.beq pc 9 || Nat.beq pc 22
theorem me104_0 {X : mi_X} {Q : mi_R → mi_G → mi_M → Prop} {u : mi_U} {μ : mi_M} (h :
  mp139_0 0 μ ∧
  (∀ (μ0 : mi_M), mq139_0 0 μ μ0 →
  mk104_0_9 X Q u 0 0 μ0)) : mi_cok X 104 [(.inr (.inl (some 0)))] mi_G0 μ u Q :=
  mi_enter (by decide) (by decide) rfl rfl (ms_run (stop := ms104_0) (by decide) rfl (fun _ _ _ _ _ _ h => h) 78 0 _ _ _ _ _ (mc139_0 h.1 (fun μ0 h221 => ((h.2 μ0 h221) _ _))))
theorem mh104_0_9 {X : mi_X} {Q : mi_R → mi_G → mi_M → Prop} {u : mi_U} {l1 l2 : Int} {μ : mi_M} (h :
  if mi_wr l2 < mi_wr (μ 1 1) then (
    mk104_0_22 X Q u l1 l2 0 μ)
  else (
    Q (.inl (some (.inl l1))) mi_G0 μ)) : mk104_0_9 X Q u l1 l2 μ :=
  fun o3 o4 => ms_run (stop := ms104_0) (by decide) rfl (fun _ _ _ _ _ _ h => h) 78 9 _ _ _ _ _ (mi_ite (fun h223 => (h223 _)) (fun h223 => h223) h)
theorem mh104_0_22 {X : mi_X} {Q : mi_R → mi_G → mi_M → Prop} {u : mi_U} {l1 l2 l3 : Int} {μ : mi_M} (h :
  if mi_wr l3 < mi_wr (μ 1 0) then (
    mp4_4 0 l3 l2 μ ∧
    if mi_wr (mv4_4 0 l3 l2 μ) = mi_wr (-1) then (
      mp5_4 0 (mv4_4 0 l3 l2 μ) l3 l2 μ ∧
      (0 ≤ (mv136 0 l3 l2 μ) ∧ (mv136 0 l3 l2 μ) < 384) ∧
      mp4_4 1 l3 l2 (mi_set μ 3 (mv136 0 l3 l2 μ) (mv5_4 0 (mv4_4 0 l3 l2 μ) l3 l2 μ)) ∧
      mp5_4 1 (mv4_4 1 l3 l2 (mi_set μ 3 (mv136 0 l3 l2 μ) (mv5_4 0 (mv4_4 0 l3 l2 μ) l3 l2 μ))) l3 l2 (mi_set μ 3 (mv136 0 l3 l2 μ) (mv5_4 0 (mv4_4 0 l3 l2 μ) l3 l2 μ)) ∧
      (0 ≤ (mv136 1 l3 l2 (mi_set μ 3 (mv136 0 l3 l2 μ) (mv5_4 0 (mv4_4 0 l3 l2 μ) l3 l2 μ))) ∧ (mv136 1 l3 l2 (mi_set μ 3 (mv136 0 l3 l2 μ) (mv5_4 0 (mv4_4 0 l3 l2 μ) l3 l2 μ))) < 384) ∧
      mk104_0_22 X Q u (l1 + 0) l2 (l3 + 1) (mi_set (mi_set μ 3 (mv136 0 l3 l2 μ) (mv5_4 0 (mv4_4 0 l3 l2 μ) l3 l2 μ)) 3 (mv136 1 l3 l2 (mi_set μ 3 (mv136 0 l3 l2 μ) (mv5_4 0 (mv4_4 0 l3 l2 μ) l3 l2 μ))) (mv5_4 1 (mv4_4 1 l3 l2 (mi_set μ 3 (mv136 0 l3 l2 μ) (mv5_4 0 (mv4_4 0 l3 l2 μ) l3 l2 μ))) l3 l2 (mi_set μ 3 (mv136 0 l3 l2 μ) (mv5_4 0 (mv4_4 0 l3 l2 μ) l3 l2 μ)))))
    else (
      mp5_4 0 (mv4_4 0 l3 l2 μ) l3 l2 μ ∧
      (0 ≤ (mv136 0 l3 l2 μ) ∧ (mv136 0 l3 l2 μ) < 384) ∧
      mp4_4 1 l3 l2 (mi_set μ 3 (mv136 0 l3 l2 μ) (mv5_4 0 (mv4_4 0 l3 l2 μ) l3 l2 μ)) ∧
      mp5_4 1 (mv4_4 1 l3 l2 (mi_set μ 3 (mv136 0 l3 l2 μ) (mv5_4 0 (mv4_4 0 l3 l2 μ) l3 l2 μ))) l3 l2 (mi_set μ 3 (mv136 0 l3 l2 μ) (mv5_4 0 (mv4_4 0 l3 l2 μ) l3 l2 μ)) ∧
      (0 ≤ (mv136 1 l3 l2 (mi_set μ 3 (mv136 0 l3 l2 μ) (mv5_4 0 (mv4_4 0 l3 l2 μ) l3 l2 μ))) ∧ (mv136 1 l3 l2 (mi_set μ 3 (mv136 0 l3 l2 μ) (mv5_4 0 (mv4_4 0 l3 l2 μ) l3 l2 μ))) < 384) ∧
      mk104_0_22 X Q u (l1 + 1) l2 (l3 + 1) (mi_set (mi_set μ 3 (mv136 0 l3 l2 μ) (mv5_4 0 (mv4_4 0 l3 l2 μ) l3 l2 μ)) 3 (mv136 1 l3 l2 (mi_set μ 3 (mv136 0 l3 l2 μ) (mv5_4 0 (mv4_4 0 l3 l2 μ) l3 l2 μ))) (mv5_4 1 (mv4_4 1 l3 l2 (mi_set μ 3 (mv136 0 l3 l2 μ) (mv5_4 0 (mv4_4 0 l3 l2 μ) l3 l2 μ))) l3 l2 (mi_set μ 3 (mv136 0 l3 l2 μ) (mv5_4 0 (mv4_4 0 l3 l2 μ) l3 l2 μ))))))
  else (
    mk104_0_9 X Q u l1 (l2 + 1) μ)) : mk104_0_22 X Q u l1 l2 l3 μ :=
  fun o4 => ms_run (stop := ms104_0) (by decide) rfl (fun _ _ _ _ _ _ h => h) 78 22 _ _ _ _ _ (mi_ite (fun h224 => (mc4_4 h224.1 (mi_ite (fun h225 => (mc136 (mc5_4 h225.1 (And.intro h225.2.1 (mc136 (mc4_4 h225.2.2.1 (mc5_4 h225.2.2.2.1 (And.intro h225.2.2.2.2.1 (h225.2.2.2.2.2 _))))))))) (fun h225 => (mc136 (mc5_4 h225.1 (And.intro h225.2.1 (mc136 (mc4_4 h225.2.2.1 (mc5_4 h225.2.2.2.1 (And.intro h225.2.2.2.2.1 (h225.2.2.2.2.2 _))))))))) h224.2))) (fun h224 => (h224 _ _)) h)
-- TwoViews.undo()I (0,)
def ms130_0 (pc : Nat) : Bool := false
theorem me130_0 {X : mi_X} {Q : mi_R → mi_G → mi_M → Prop} {u : mi_U} {μ : mi_M} (h :
  if mi_wr (μ 17 0) = 0 then (
    Q (.inl (some (.inl (-1)))) mi_G0 μ)
  else (
    mp47_17_1 μ ∧
    (∀ (μ0 : mi_M), mq47_17_1 μ μ0 →
    Q (.inl (some (.inl ((mm140_0 0 μ0) 17 0)))) mi_G0 (mm140_0 0 μ0)))) : mi_cok X 130 [(.inr (.inl (some 0)))] mi_G0 μ u Q :=
  mi_enter (by decide) (by decide) rfl rfl (ms_run (stop := ms130_0) (by decide) rfl (fun _ _ _ _ _ _ h => h) 20 0 _ _ _ _ _ (mi_ite (fun h226 => h226) (fun h226 => (mc47_17_1 h226.1 (fun μ0 h227 => (have h228 := (h226.2 μ0 h227); (mc140_0 h228))))) h))
-- TwoViewsModel.size(II)Z (86,)
def ms169_86 (pc : Nat) : Bool := false
theorem me169_86 {X : mi_X} {Q : mi_R → mi_G → mi_M → Prop} {u : mi_U} {a0 a1 : Int} {μ : mi_M} (h :
  if mi_wr (mv144 a0 3 16 (mi_set μ 86 0 0)) = 0 then (
    Q (.inl (some (.inl 0))) mi_G0 (mi_set μ 86 0 0))
  else (
    if mi_wr (mv144 a1 3 12 (mi_set μ 86 0 0)) = 0 then (
      Q (.inl (some (.inl 0))) mi_G0 (mi_set μ 86 0 0))
    else (
      mp148_86 (mi_set μ 86 0 0) ∧
      (∀ (μ0 : mi_M), mq148_86 (mi_set μ 86 0 0) μ0 →
      (∀ (μ1 : mi_M), mq147_86 (mi_set (mi_set μ0 87 0 a0) 87 1 a1) μ1 →
      Q (.inl (some (.inl 1))) mi_G0 μ1))))) : mi_cok X 169 [(.inr (.inl (some 86))), (.inl a0), (.inl a1)] mi_G0 μ u Q :=
  mi_enter (by decide) (by decide) rfl rfl (ms_run (stop := ms169_86) (by decide) rfl (fun _ _ _ _ _ _ h => h) 33 0 _ _ _ _ _ (mc144 (mi_ite (fun h229 => (And.intro (by decide : (0 : Int) = 0 ∨ (0 : Int) = 1) h229)) (fun h229 => (mc144 (mi_ite (fun h230 => (And.intro (by decide : (0 : Int) = 0 ∨ (0 : Int) = 1) h230)) (fun h230 => (mc148_86 h230.1 (fun μ0 h231 => (have h232 := (h230.2 μ0 h231); (And.intro (⟨by decide, by decide⟩ : (0 : Int) ≤ 0 ∧ (0 : Int) < 394) (And.intro (⟨by decide, by decide⟩ : (0 : Int) ≤ 1 ∧ (1 : Int) < 394) (mc147_86 (fun μ1 h233 => (have h234 := (h232 μ1 h233); (And.intro (by decide : (1 : Int) = 0 ∨ (1 : Int) = 1) h234)))))))))) h229))) h)))
-- TwoViewsModel.value(IIII)I (86,)
def ms170_86 (pc : Nat) : Bool := false
theorem me170_86 {X : mi_X} {Q : mi_R → mi_G → mi_M → Prop} {u : mi_U} {a0 a1 a2 a3 : Int} {μ : mi_M} (h :
  if mi_wr (mv151_86 a0 a1 a2 (mi_set μ 86 0 0)) = 0 then (
    Q (.inl (some (.inl (-1)))) mi_G0 (mi_set μ 86 0 0))
  else (
    if mi_wr (mv144 a3 0 15 (mi_set μ 86 0 0)) = 0 then (
      Q (.inl (some (.inl (-1)))) mi_G0 (mi_set μ 86 0 0))
    else (
      mp148_86 (mi_set μ 86 0 0) ∧
      (∀ (μ0 : mi_M), mq148_86 (mi_set μ 86 0 0) μ0 →
      mp153_86 a0 a1 a2 μ0 ∧
      (0 ≤ (mv152 a0 a1 a2 μ0) ∧ (mv152 a0 a1 a2 μ0) < 394) ∧
      Q (.inl (some (.inl (mv153_86 a0 a1 a2 μ0)))) mi_G0 (mi_set μ0 87 (mv152 a0 a1 a2 μ0) a3))))) : mi_cok X 170 [(.inr (.inl (some 86))), (.inl a0), (.inl a1), (.inl a2), (.inl a3)] mi_G0 μ u Q :=
  mi_enter (by decide) (by decide) rfl rfl (ms_run (stop := ms170_86) (by decide) rfl (fun _ _ _ _ _ _ h => h) 36 0 _ _ _ _ _ (mc151_86 (mi_ite (fun h235 => h235) (fun h235 => (mc144 (mi_ite (fun h236 => h236) (fun h236 => (mc148_86 h236.1 (fun μ0 h237 => (have h238 := (h236.2 μ0 h237); (mc153_86 h238.1 (mc152 (And.intro h238.2.1 h238.2.2))))))) h235))) h)))
-- TwoViewsModel.tune(II)I (86,)
def ms172_86 (pc : Nat) : Bool := false
theorem me172_86 {X : mi_X} {Q : mi_R → mi_G → mi_M → Prop} {u : mi_U} {a0 a1 : Int} {μ : mi_M} (h :
  mp171_86 a0 a1 (mi_set μ 86 0 0) ∧
  if mi_wr (mv171_86 a0 a1 (mi_set μ 86 0 0)) = 0 then (
    Q (.inl (some (.inl (-1)))) mi_G0 (mi_set μ 86 0 0))
  else (
    mp148_86 (mi_set μ 86 0 0) ∧
    (∀ (μ0 : mi_M), mq148_86 (mi_set μ 86 0 0) μ0 →
    (0 ≤ (2 + a0) ∧ (2 + a0) < 394) ∧
    (0 ≤ (2 + a0) ∧ (2 + a0) < 394) ∧
    Q (.inl (some (.inl (μ0 87 (2 + a0))))) mi_G0 (mi_set μ0 87 (2 + a0) a1)))) : mi_cok X 172 [(.inr (.inl (some 86))), (.inl a0), (.inl a1)] mi_G0 μ u Q :=
  mi_enter (by decide) (by decide) rfl rfl (ms_run (stop := ms172_86) (by decide) rfl (fun _ _ _ _ _ _ h => h) 30 0 _ _ _ _ _ (mc171_86 h.1 (mi_ite (fun h239 => h239) (fun h239 => (mc148_86 h239.1 (fun μ0 h240 => (have h241 := (h239.2 μ0 h240); (And.intro h241.1 (And.intro h241.2.1 h241.2.2)))))) h.2)))
-- TwoViewsModel.draw()I (86,)
noncomputable def mk178_86_13 (X : mi_X) (Q : mi_R → mi_G → mi_M → Prop) (u : mi_U) (l1 l2 : Int) (μ : mi_M) : Prop := ∀ o3 : Option mi_V, mi_ok X 178 mi_G0 Q 13 [some (.inr (.inl (some 86))), some (.inl l1), some (.inl l2), o3] [] mi_G0 μ u
noncomputable def mk178_86_25 (X : mi_X) (Q : mi_R → mi_G → mi_M → Prop) (u : mi_U) (l1 l2 l3 : Int) (μ : mi_M) : Prop := mi_ok X 178 mi_G0 Q 25 [some (.inr (.inl (some 86))), some (.inl l1), some (.inl l2), some (.inl l3)] [] mi_G0 μ u
def ms178_86 (pc : Nat) : Bool := Nat.beq pc 13 || Nat.beq pc 25
theorem me178_86 {X : mi_X} {Q : mi_R → mi_G → mi_M → Prop} {u : mi_U} {μ : mi_M} (h :
  mp148_86 (mi_set μ 86 0 0) ∧
  (∀ (μ0 : mi_M), mq148_86 (mi_set μ 86 0 0) μ0 →
  mk178_86_13 X Q u 0 0 μ0)) : mi_cok X 178 [(.inr (.inl (some 86)))] mi_G0 μ u Q :=
  mi_enter (by decide) (by decide) rfl rfl (ms_run (stop := ms178_86) (by decide) rfl (fun _ _ _ _ _ _ h => h) 67 0 _ _ _ _ _ (mc148_86 h.1 (fun μ0 h242 => ((h.2 μ0 h242) _))))
theorem mh178_86_13 {X : mi_X} {Q : mi_R → mi_G → mi_M → Prop} {u : mi_U} {l1 l2 : Int} {μ : mi_M} (h :
  if mi_wr l2 < mi_wr (μ 87 1) then (
    mk178_86_25 X Q u l1 l2 0 μ)
  else (
    Q (.inl (some (.inl l1))) mi_G0 μ)) : mk178_86_13 X Q u l1 l2 μ :=
  fun o3 => ms_run (stop := ms178_86) (by decide) rfl (fun _ _ _ _ _ _ h => h) 67 13 _ _ _ _ _ (And.intro (⟨by decide, by decide⟩ : (0 : Int) ≤ 1 ∧ (1 : Int) < 394) (mi_ite (fun h244 => (h244)) (fun h244 => h244) h))
theorem mh178_86_25 {X : mi_X} {Q : mi_R → mi_G → mi_M → Prop} {u : mi_U} {l1 l2 l3 : Int} {μ : mi_M} (h :
  if mi_wr l3 < mi_wr (μ 87 0) then (
    mp177_86 0 l3 l2 μ ∧
    (0 ≤ (mv152 0 l3 l2 μ) ∧ (mv152 0 l3 l2 μ) < 394) ∧
    mp177_86 1 l3 l2 (mi_set μ 87 (mv152 0 l3 l2 μ) (mv177_86 0 l3 l2 μ)) ∧
    (0 ≤ (mv152 1 l3 l2 (mi_set μ 87 (mv152 0 l3 l2 μ) (mv177_86 0 l3 l2 μ))) ∧ (mv152 1 l3 l2 (mi_set μ 87 (mv152 0 l3 l2 μ) (mv177_86 0 l3 l2 μ))) < 394) ∧
    mp176_86 0 l3 l2 (mi_set (mi_set μ 87 (mv152 0 l3 l2 μ) (mv177_86 0 l3 l2 μ)) 87 (mv152 1 l3 l2 (mi_set μ 87 (mv152 0 l3 l2 μ) (mv177_86 0 l3 l2 μ))) (mv177_86 1 l3 l2 (mi_set μ 87 (mv152 0 l3 l2 μ) (mv177_86 0 l3 l2 μ)))) ∧
    mk178_86_25 X Q u (if mi_wr (mv176_86 0 l3 l2 (mi_set (mi_set μ 87 (mv152 0 l3 l2 μ) (mv177_86 0 l3 l2 μ)) 87 (mv152 1 l3 l2 (mi_set μ 87 (mv152 0 l3 l2 μ) (mv177_86 0 l3 l2 μ))) (mv177_86 1 l3 l2 (mi_set μ 87 (mv152 0 l3 l2 μ) (mv177_86 0 l3 l2 μ))))) < 0 then (l1 + 0) else (l1 + 1)) l2 (l3 + 1) (mi_set (mi_set μ 87 (mv152 0 l3 l2 μ) (mv177_86 0 l3 l2 μ)) 87 (mv152 1 l3 l2 (mi_set μ 87 (mv152 0 l3 l2 μ) (mv177_86 0 l3 l2 μ))) (mv177_86 1 l3 l2 (mi_set μ 87 (mv152 0 l3 l2 μ) (mv177_86 0 l3 l2 μ)))))
  else (
    mk178_86_13 X Q u l1 (l2 + 1) μ)) : mk178_86_25 X Q u l1 l2 l3 μ :=
  ms_run (stop := ms178_86) (by decide) rfl (fun _ _ _ _ _ _ h => h) 67 25 _ _ _ _ _ (And.intro (⟨by decide, by decide⟩ : (0 : Int) ≤ 0 ∧ (0 : Int) < 394) (mi_ite (fun h245 => (mc152 (mc177_86 h245.1 (And.intro h245.2.1 (mc152 (mc177_86 h245.2.2.1 (And.intro h245.2.2.2.1 (mc176_86 h245.2.2.2.2.1 (mi_dt (fun h246 => ((mi_mp (P := fun z => mk178_86_25 X Q u z l2 (l3 + 1) (mi_set (mi_set μ 87 (mv152 0 l3 l2 μ) (mv177_86 0 l3 l2 μ)) 87 (mv152 1 l3 l2 (mi_set μ 87 (mv152 0 l3 l2 μ) (mv177_86 0 l3 l2 μ))) (mv177_86 1 l3 l2 (mi_set μ 87 (mv152 0 l3 l2 μ) (mv177_86 0 l3 l2 μ))))) h246 h245.2.2.2.2.2))) (fun h246 => ((mi_mn (P := fun z => mk178_86_25 X Q u z l2 (l3 + 1) (mi_set (mi_set μ 87 (mv152 0 l3 l2 μ) (mv177_86 0 l3 l2 μ)) 87 (mv152 1 l3 l2 (mi_set μ 87 (mv152 0 l3 l2 μ) (mv177_86 0 l3 l2 μ))) (mv177_86 1 l3 l2 (mi_set μ 87 (mv152 0 l3 l2 μ) (mv177_86 0 l3 l2 μ))))) h246 h245.2.2.2.2.2)))))))))))) (fun h245 => (h245 _)) h))
