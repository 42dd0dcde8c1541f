/-! PRINTED by wip/whole/gen: heads of methods -/
-- TwoViewsModel.at(III)I (86,)
noncomputable def mp182_86 (a0 : Int) (a1 : Int) (a2 : Int) (μ : mi_M) : Prop := (if mi_wr (mv151_86 a0 a1 a2 μ) = 0 then True else (mp153_86 a0 a1 a2 (mi_set μ 86 0 0)))
noncomputable def mv182_86 (a0 : Int) (a1 : Int) (a2 : Int) (μ : mi_M) : Int := (if mi_wr (mv151_86 a0 a1 a2 μ) = 0 then 0 else (mv153_86 a0 a1 a2 (mi_set μ 86 0 0)))
noncomputable def mm182_86 (a0 : Int) (a1 : Int) (a2 : Int) (μ : mi_M) : mi_M := (if mi_wr (mv151_86 a0 a1 a2 μ) = 0 then (mi_set μ 86 0 1) else (mi_set μ 86 0 0))
theorem mc182_86 {X : mi_X} {Q : mi_R → mi_G → mi_M → Prop} {u : mi_U} {a0 a1 a2 : Int} {μ : mi_M} (hp : mp182_86 a0 a1 a2 μ) (hq : Q (.inl (some (.inl (mv182_86 a0 a1 a2 μ)))) mi_G0 (mm182_86 a0 a1 a2 μ)) : mi_cok X 182 [(.inr (.inl (some 86))), (.inl a0), (.inl a1), (.inl a2)] mi_G0 μ u Q :=
  mi_enter (by decide) (by decide) rfl rfl (ms_run (stop := fun _ => false) (by decide) rfl (fun _ _ _ _ _ _ h => h) 24 0 _ _ _ _ _ (mc151_86 (mi_dt (fun h204 => (have p204 := Eq.mp (if_pos h204) hp; (mi_tr (if_pos h204) (if_pos h204) hq))) (fun h204 => (have p204 := Eq.mp (if_neg h204) hp; (mc153_86 p204 (mi_tr (if_neg h204) (if_neg h204) hq)))))))
-- TwoViewsModel.code(III)I (86,)
def ms187_86 (pc : Nat) : Bool := false
theorem me187_86 {X : mi_X} {Q : mi_R → mi_G → mi_M → Prop} {u : mi_U} {a0 a1 a2 : Int} {μ : mi_M} (h :
  if mi_wr (mv151_86 a0 a1 a2 μ) = 0 then (
    Q (.inl (some (.inl 0))) mi_G0 (mi_set μ 86 0 1))
  else (
    mp184_86 a0 a1 a2 (mi_set μ 86 0 0) ∧
    Q (.inl (some (.inl (mv184_86 a0 a1 a2 (mi_set μ 86 0 0))))) mi_G0 (mi_set μ 86 0 0))) : mi_cok X 187 [(.inr (.inl (some 86))), (.inl a0), (.inl a1), (.inl a2)] mi_G0 μ u Q :=
  mi_enter (by decide) (by decide) rfl rfl (ms_run (stop := ms187_86) (by decide) rfl (fun _ _ _ _ _ _ h => h) 24 0 _ _ _ _ _ (mc151_86 (mi_ite (fun h205 => h205) (fun h205 => (mc184_86 h205.1 h205.2)) h)))
-- TwoViewsModel.cost(III)I (86,)
def ms194_86 (pc : Nat) : Bool := false
theorem me194_86 {X : mi_X} {Q : mi_R → mi_G → mi_M → Prop} {u : mi_U} {a0 a1 a2 : Int} {μ : mi_M} (h :
  if mi_wr (mv193_86 a0 a1 a2 (mi_set μ 86 0 0)) = 0 then (
    Q (.inl (some (.inl (-1)))) mi_G0 (mi_set μ 86 0 0))
  else (
    mp186_86 (mi_set μ 86 0 0) ∧
    (∀ (μ0 : mi_M), mq186_86 (mi_set μ 86 0 0) μ0 →
    mp192_86 a0 a1 a2 μ0 ∧
    Q (.inl (some (.inl (mv192_86 a0 a1 a2 μ0)))) mi_G0 μ0))) : mi_cok X 194 [(.inr (.inl (some 86))), (.inl a0), (.inl a1), (.inl a2)] mi_G0 μ u Q :=
  mi_enter (by decide) (by decide) rfl rfl (ms_run (stop := ms194_86) (by decide) rfl (fun _ _ _ _ _ _ h => h) 21 0 _ _ _ _ _ (mc193_86 (mi_ite (fun h206 => h206) (fun h206 => (mc186_86 h206.1 (fun μ0 h207 => (have h208 := (h206.2 μ0 h207); (mc192_86 h208.1 h208.2))))) h)))
-- TwoViewsModel.path(IIII)I (86,)
def ms202_86 (pc : Nat) : Bool := false
theorem me202_86 {X : mi_X} {Q : mi_R → mi_G → mi_M → Prop} {u : mi_U} {a0 a1 a2 a3 : Int} {μ : mi_M} (h :
  if mi_wr (mv144 a0 0 7 (mi_set μ 86 0 0)) = 0 then (
    Q (.inl (some (.inl (-1)))) mi_G0 (mi_set μ 86 0 0))
  else (
    if mi_wr (mv193_86 a1 a2 a3 (mi_set μ 86 0 0)) = 0 then (
      Q (.inl (some (.inl (-1)))) mi_G0 (mi_set μ 86 0 0))
    else (
      mp186_86 (mi_set μ 86 0 0) ∧
      (∀ (μ0 : mi_M), mq186_86 (mi_set μ 86 0 0) μ0 →
      mp200_86 a0 μ0 ∧
      (∀ (μ1 : mi_M), mq200_86 a0 μ0 μ1 →
      (0 ≤ (mv197 a1 a2 a3 μ1) ∧ (mv197 a1 a2 a3 μ1) < 1536) ∧
      Q (.inl (some (.inl (μ1 93 (mv197 a1 a2 a3 μ1))))) mi_G0 μ1))))) : mi_cok X 202 [(.inr (.inl (some 86))), (.inl a0), (.inl a1), (.inl a2), (.inl a3)] mi_G0 μ u Q :=
  mi_enter (by decide) (by decide) rfl rfl (ms_run (stop := ms202_86) (by decide) rfl (fun _ _ _ _ _ _ h => h) 31 0 _ _ _ _ _ (mc144 (mi_ite (fun h209 => h209) (fun h209 => (mc193_86 (mi_ite (fun h210 => h210) (fun h210 => (mc186_86 h210.1 (fun μ0 h211 => (have h212 := (h210.2 μ0 h211); (mc200_86 h212.1 (fun μ1 h213 => (have h214 := (h212.2 μ1 h213); (mc197 (And.intro h214.1 h214.2))))))))) h209))) h)))
-- TwoViewsModel.sum(III)I (86,)
def ms203_86 (pc : Nat) : Bool := false
theorem me203_86 {X : mi_X} {Q : mi_R → mi_G → mi_M → Prop} {u : mi_U} {a0 a1 a2 : Int} {μ : mi_M} (h :
  if mi_wr (mv193_86 a0 a1 a2 (mi_set μ 86 0 0)) = 0 then (
    Q (.inl (some (.inl (-1)))) mi_G0 (mi_set μ 86 0 0))
  else (
    mp201_86 (mi_set μ 86 0 0) ∧
    (∀ (μ0 : mi_M), mq201_86 (mi_set μ 86 0 0) μ0 →
    (0 ≤ (mv197 a0 a1 a2 μ0) ∧ (mv197 a0 a1 a2 μ0) < 1536) ∧
    Q (.inl (some (.inl (μ0 94 (mv197 a0 a1 a2 μ0))))) mi_G0 μ0))) : mi_cok X 203 [(.inr (.inl (some 86))), (.inl a0), (.inl a1), (.inl a2)] mi_G0 μ u Q :=
  mi_enter (by decide) (by decide) rfl rfl (ms_run (stop := ms203_86) (by decide) rfl (fun _ _ _ _ _ _ h => h) 23 0 _ _ _ _ _ (mc193_86 (mi_ite (fun h215 => h215) (fun h215 => (mc201_86 h215.1 (fun μ0 h216 => (have h217 := (h215.2 μ0 h216); (mc197 (And.intro h217.1 h217.2)))))) h)))
-- TwoViewsModel.shift(III)I (86,)
def ms215_86 (pc : Nat) : Bool := false
theorem me215_86 {X : mi_X} {Q : mi_R → mi_G → mi_M → Prop} {u : mi_U} {a0 a1 a2 : Int} {μ : mi_M} (h :
  if mi_wr (mv151_86 a0 a1 a2 μ) = 0 then (
    Q (.inl (some (.inl 0))) mi_G0 (mi_set μ 86 0 1))
  else (
    mp206_86 (mi_set μ 86 0 0) ∧
    (∀ (μ0 : mi_M), mq206_86 (mi_set μ 86 0 0) μ0 →
    (0 ≤ (mv185 a0 a1 a2 μ0) ∧ (mv185 a0 a1 a2 μ0) < 384) ∧
    Q (.inl (some (.inl (μ0 95 (mv185 a0 a1 a2 μ0))))) mi_G0 μ0))) : mi_cok X 215 [(.inr (.inl (some 86))), (.inl a0), (.inl a1), (.inl a2)] mi_G0 μ u Q :=
  mi_enter (by decide) (by decide) rfl rfl (ms_run (stop := ms215_86) (by decide) rfl (fun _ _ _ _ _ _ h => h) 28 0 _ _ _ _ _ (mc151_86 (mi_ite (fun h218 => h218) (fun h218 => (mc206_86 h218.1 (fun μ0 h219 => (have h220 := (h218.2 μ0 h219); (mc185 (And.intro h220.1 h220.2)))))) h)))
-- TwoViewsModel.margin(II)I (86,)
noncomputable def mk216_86_45 (X : mi_X) (Q : mi_R → mi_G → mi_M → Prop) (u : mi_U) (l1 l2 l3 l4 l5 : Int) (μ : mi_M) : Prop := ∀ o6 : Option mi_V, mi_ok X 216 mi_G0 Q 45 [some (.inr (.inl (some 86))), some (.inl l1), some (.inl l2), some (.inl l3), some (.inl l4), some (.inl l5), o6] [] mi_G0 μ u
def ms216_86 (pc : Nat) : Bool := Nat.beq pc 45
theorem me216_86 {X : mi_X} {Q : mi_R → mi_G → mi_M → Prop} {u : mi_U} {a0 a1 : Int} {μ : mi_M} (h :
  if mi_wr (mv150_86 a0 a1 μ) = 0 then (
    Q (.inl (some (.inl 0))) mi_G0 (mi_set μ 86 0 1))
  else (
    mp201_86 (mi_set μ 86 0 0) ∧
    (∀ (μ0 : mi_M), mq201_86 (mi_set μ 86 0 0) μ0 →
    mp204_86 a0 a1 μ0 ∧
    mk216_86_45 X Q u a0 a1 (mv204_86 a0 a1 μ0) 100000000 0 μ0))) : mi_cok X 216 [(.inr (.inl (some 86))), (.inl a0), (.inl a1)] mi_G0 μ u Q :=
  mi_enter (by decide) (by decide) rfl rfl (ms_run (stop := ms216_86) (by decide) rfl (fun _ _ _ _ _ _ h => h) 73 0 _ _ _ _ _ (mc150_86 (mi_ite (fun h221 => h221) (fun h221 => (mc201_86 h221.1 (fun μ0 h222 => (have h223 := (h221.2 μ0 h222); (mc204_86 h223.1 (h223.2 _)))))) h)))
theorem mh216_86_45 {X : mi_X} {Q : mi_R → mi_G → mi_M → Prop} {u : mi_U} {l1 l2 l3 l4 l5 : Int} {μ : mi_M} (h :
  if mi_wr (μ 87 2) < mi_wr l5 then (
    if mi_wr l4 = mi_wr 100000000 then (
      Q (.inl (some (.inl (-1)))) mi_G0 μ)
    else (
      (0 ≤ (mv197 l1 l2 l3 μ) ∧ (mv197 l1 l2 l3 μ) < 1536) ∧
      Q (.inl (some (.inl (l4 - (μ 94 (mv197 l1 l2 l3 μ)))))) mi_G0 μ))
  else (
    (0 ≤ (mv197 l1 l2 l5 μ) ∧ (mv197 l1 l2 l5 μ) < 1536) ∧
    mk216_86_45 X Q u l1 l2 l3 (if mi_wr (mv144 (l5 - l3) (-1) 1 μ) = 0 then (if mi_wr (μ 94 (mv197 l1 l2 l5 μ)) < mi_wr l4 then (μ 94 (mv197 l1 l2 l5 μ)) else l4) else l4) (l5 + 1) μ)) : mk216_86_45 X Q u l1 l2 l3 l4 l5 μ :=
  fun o6 => ms_run (stop := ms216_86) (by decide) rfl (fun _ _ _ _ _ _ h => h) 73 45 _ _ _ _ _ (And.intro (⟨by decide, by decide⟩ : (0 : Int) ≤ 2 ∧ (2 : Int) < 394) (mi_ite (fun h224 => (mi_ite (fun h225 => h225) (fun h225 => (mc197 (And.intro h225.1 h225.2))) h224)) (fun h224 => (mc197 (And.intro h224.1 (mc144 (mi_dt (fun h226 => (mi_dt (fun h227 => ((mi_mp (P := fun z => mk216_86_45 X Q u l1 l2 l3 z (l5 + 1) μ) h227 (mi_mp (P := fun z => mk216_86_45 X Q u l1 l2 l3 z (l5 + 1) μ) h226 h224.2)) _)) (fun h227 => ((mi_mn (P := fun z => mk216_86_45 X Q u l1 l2 l3 z (l5 + 1) μ) h227 (mi_mp (P := fun z => mk216_86_45 X Q u l1 l2 l3 z (l5 + 1) μ) h226 h224.2)) _)))) (fun h226 => ((mi_mn (P := fun z => mk216_86_45 X Q u l1 l2 l3 z (l5 + 1) μ) h226 h224.2) _))))))) h))
-- TwoViewsModel.kind(III)I (86,)
def ms217_86 (pc : Nat) : Bool := false
theorem me217_86 {X : mi_X} {Q : mi_R → mi_G → mi_M → Prop} {u : mi_U} {a0 a1 a2 : Int} {μ : mi_M} (h :
  if mi_wr (mv151_86 a0 a1 a2 (mi_set μ 86 0 0)) = 0 then (
    Q (.inl (some (.inl (-1)))) mi_G0 (mi_set μ 86 0 0))
  else (
    mp209_86 (mi_set μ 86 0 0) ∧
    (∀ (μ0 : mi_M), mq209_86 (mi_set μ 86 0 0) μ0 →
    mp214_86 a0 a1 a2 μ0 ∧
    Q (.inl (some (.inl (mv214_86 a0 a1 a2 μ0)))) mi_G0 μ0))) : mi_cok X 217 [(.inr (.inl (some 86))), (.inl a0), (.inl a1), (.inl a2)] mi_G0 μ u Q :=
  mi_enter (by decide) (by decide) rfl rfl (ms_run (stop := ms217_86) (by decide) rfl (fun _ _ _ _ _ _ h => h) 21 0 _ _ _ _ _ (mc151_86 (mi_ite (fun h228 => h228) (fun h228 => (mc209_86 h228.1 (fun μ0 h229 => (have h230 := (h228.2 μ0 h229); (mc214_86 h230.1 h230.2))))) h)))
-- TwoViewsModel.kinds(II)I (86,)
noncomputable def mk218_86_34 (X : mi_X) (Q : mi_R → mi_G → mi_M → Prop) (u : mi_U) (l1 l2 l3 l4 : Int) (μ : mi_M) : Prop := ∀ o5 : Option mi_V, mi_ok X 218 mi_G0 Q 34 [some (.inr (.inl (some 86))), some (.inl l1), some (.inl l2), some (.inl l3), some (.inl l4), o5] [] mi_G0 μ u
noncomputable def mk218_86_48 (X : mi_X) (Q : mi_R → mi_G → mi_M → Prop) (u : mi_U) (l1 l2 l3 l4 l5 : Int) (μ : mi_M) : Prop := mi_ok X 218 mi_G0 Q 48 [some (.inr (.inl (some 86))), some (.inl l1), some (.inl l2), some (.inl l3), some (.inl l4), some (.inl l5)] [] mi_G0 μ u
def ms218_86 (pc : Nat) : Bool := Nat.beq pc 34 || Nat.beq pc 48
theorem me218_86 {X : mi_X} {Q : mi_R → mi_G → mi_M → Prop} {u : mi_U} {a0 a1 : Int} {μ : mi_M} (h :
  if mi_wr (mv144 a0 0 1 (mi_set μ 86 0 0)) = 0 then (
    Q (.inl (some (.inl (-1)))) mi_G0 (mi_set μ 86 0 0))
  else (
    if mi_wr (mv144 a1 0 2 (mi_set μ 86 0 0)) = 0 then (
      Q (.inl (some (.inl (-1)))) mi_G0 (mi_set μ 86 0 0))
    else (
      mp209_86 (mi_set μ 86 0 0) ∧
      (∀ (μ0 : mi_M), mq209_86 (mi_set μ 86 0 0) μ0 →
      mk218_86_34 X Q u a0 a1 0 0 μ0)))) : mi_cok X 218 [(.inr (.inl (some 86))), (.inl a0), (.inl a1)] mi_G0 μ u Q :=
  mi_enter (by decide) (by decide) rfl rfl (ms_run (stop := ms218_86) (by decide) rfl (fun _ _ _ _ _ _ h => h) 56 0 _ _ _ _ _ (mc144 (mi_ite (fun h231 => h231) (fun h231 => (mc144 (mi_ite (fun h232 => h232) (fun h232 => (mc209_86 h232.1 (fun μ0 h233 => ((h232.2 μ0 h233) _)))) h231))) h)))
theorem mh218_86_34 {X : mi_X} {Q : mi_R → mi_G → mi_M → Prop} {u : mi_U} {l1 l2 l3 l4 : Int} {μ : mi_M} (h :
  if mi_wr l4 < mi_wr (μ 87 1) then (
    mk218_86_48 X Q u l1 l2 l3 l4 0 μ)
  else (
    Q (.inl (some (.inl l3))) mi_G0 μ)) : mk218_86_34 X Q u l1 l2 l3 l4 μ :=
  fun o5 => ms_run (stop := ms218_86) (by decide) rfl (fun _ _ _ _ _ _ h => h) 56 34 _ _ _ _ _ (And.intro (⟨by decide, by decide⟩ : (0 : Int) ≤ 1 ∧ (1 : Int) < 394) (mi_ite (fun h235 => (h235)) (fun h235 => h235) h))
theorem mh218_86_48 {X : mi_X} {Q : mi_R → mi_G → mi_M → Prop} {u : mi_U} {l1 l2 l3 l4 l5 : Int} {μ : mi_M} (h :
  if mi_wr l5 < mi_wr (μ 87 0) then (
    mp214_86 l1 l5 l4 μ ∧
    mk218_86_48 X Q u l1 l2 (if mi_wr (mv214_86 l1 l5 l4 μ) = mi_wr l2 then (l3 + 1) else (l3 + 0)) l4 (l5 + 1) μ)
  else (
    mk218_86_34 X Q u l1 l2 l3 (l4 + 1) μ)) : mk218_86_48 X Q u l1 l2 l3 l4 l5 μ :=
  ms_run (stop := ms218_86) (by decide) rfl (fun _ _ _ _ _ _ h => h) 56 48 _ _ _ _ _ (And.intro (⟨by decide, by decide⟩ : (0 : Int) ≤ 0 ∧ (0 : Int) < 394) (mi_ite (fun h236 => (mc214_86 h236.1 (mi_dt (fun h237 => ((mi_mp (P := fun z => mk218_86_48 X Q u l1 l2 z l4 (l5 + 1) μ) h237 h236.2))) (fun h237 => ((mi_mn (P := fun z => mk218_86_48 X Q u l1 l2 z l4 (l5 + 1) μ) h237 h236.2)))))) (fun h236 => (h236 _)) h))
-- TwoViewsModel.piece(III)I (86,)
def ms219_86 (pc : Nat) : Bool := false
theorem me219_86 {X : mi_X} {Q : mi_R → mi_G → mi_M → Prop} {u : mi_U} {a0 a1 a2 : Int} {μ : mi_M} (h :
  if mi_wr (mv151_86 a0 a1 a2 (mi_set μ 86 0 0)) = 0 then (
    Q (.inl (some (.inl (-1)))) mi_G0 (mi_set μ 86 0 0))
  else (
    mp209_86 (mi_set μ 86 0 0) ∧
    (∀ (μ0 : mi_M), mq209_86 (mi_set μ 86 0 0) μ0 →
    mp213_86 a0 a1 a2 μ0 ∧
    Q (.inl (some (.inl (mv213_86 a0 a1 a2 μ0)))) mi_G0 μ0))) : mi_cok X 219 [(.inr (.inl (some 86))), (.inl a0), (.inl a1), (.inl a2)] mi_G0 μ u Q :=
  mi_enter (by decide) (by decide) rfl rfl (ms_run (stop := ms219_86) (by decide) rfl (fun _ _ _ _ _ _ h => h) 21 0 _ _ _ _ _ (mc151_86 (mi_ite (fun h238 => h238) (fun h238 => (mc209_86 h238.1 (fun μ0 h239 => (have h240 := (h238.2 μ0 h239); (mc213_86 h240.1 h240.2))))) h)))
-- TwoViewsModel.pieces(II)I (86,)
noncomputable def mk221_86_41 (X : mi_X) (Q : mi_R → mi_G → mi_M → Prop) (u : mi_U) (l1 l2 l3 l4 l5 : Int) (μ : mi_M) : Prop := mi_ok X 221 mi_G0 Q 41 [some (.inr (.inl (some 86))), some (.inl l1), some (.inl l2), some (.inl l3), some (.inl l4), some (.inl l5)] [] mi_G0 μ u
def ms221_86 (pc : Nat) : Bool := Nat.beq pc 41
theorem me221_86 {X : mi_X} {Q : mi_R → mi_G → mi_M → Prop} {u : mi_U} {a0 a1 : Int} {μ : mi_M} (h :
  if mi_wr (mv144 a0 0 1 (mi_set μ 86 0 0)) = 0 then (
    Q (.inl (some (.inl (-1)))) mi_G0 (mi_set μ 86 0 0))
  else (
    if mi_wr (mv144 a1 0 1 (mi_set μ 86 0 0)) = 0 then (
      Q (.inl (some (.inl (-1)))) mi_G0 (mi_set μ 86 0 0))
    else (
      mp209_86 (mi_set μ 86 0 0) ∧
      (∀ (μ0 : mi_M), mq209_86 (mi_set μ 86 0 0) μ0 →
      mk221_86_41 X Q u a0 a1 0 0 (192 * a0) μ0)))) : mi_cok X 221 [(.inr (.inl (some 86))), (.inl a0), (.inl a1)] mi_G0 μ u Q :=
  mi_enter (by decide) (by decide) rfl rfl (ms_run (stop := ms221_86) (by decide) rfl (fun _ _ _ _ _ _ h => h) 60 0 _ _ _ _ _ (mc144 (mi_ite (fun h241 => h241) (fun h241 => (mc144 (mi_ite (fun h242 => h242) (fun h242 => (mc209_86 h242.1 (fun μ0 h243 => ((h242.2 μ0 h243))))) h241))) h)))
theorem mh221_86_41 {X : mi_X} {Q : mi_R → mi_G → mi_M → Prop} {u : mi_U} {l1 l2 l3 l4 l5 : Int} {μ : mi_M} (h :
  if mi_wr l5 < mi_wr (192 * (l1 + 1)) then (
    mp220_86 l5 μ ∧
    if mi_wr (mv220_86 l5 μ) = 0 then (
      mk221_86_41 X Q u l1 l2 l3 l4 (l5 + 1) μ)
    else (
      (0 ≤ l5 ∧ l5 < 384) ∧
      if mi_wr l4 < mi_wr (μ 98 l5) then (
        (0 ≤ l5 ∧ l5 < 384) ∧
        mk221_86_41 X Q u l1 l2 (l3 + 1) (μ 98 l5) (l5 + 1) μ)
      else (
        mk221_86_41 X Q u l1 l2 (l3 + 1) l4 (l5 + 1) μ)))
  else (
    Q (.inl (some (.inl (if mi_wr l2 = 0 then l3 else l4)))) mi_G0 μ)) : mk221_86_41 X Q u l1 l2 l3 l4 l5 μ :=
  ms_run (stop := ms221_86) (by decide) rfl (fun _ _ _ _ _ _ h => h) 60 41 _ _ _ _ _ (mi_ite (fun h245 => (mc220_86 h245.1 (mi_ite (fun h246 => (h246)) (fun h246 => (And.intro h246.1 (mi_ite (fun h247 => (And.intro h247.1 (h247.2))) (fun h247 => (h247)) h246.2))) h245.2))) (fun h245 => (mi_dt (fun h248 => (mi_mp (P := fun z => Q (.inl (some (.inl z))) mi_G0 μ) h248 h245)) (fun h248 => (mi_mn (P := fun z => Q (.inl (some (.inl z))) mi_G0 μ) h248 h245)))) h)
-- TwoViewsModel.pieceAt(III)I (86,)
noncomputable def mk224_86_41 (X : mi_X) (Q : mi_R → mi_G → mi_M → Prop) (u : mi_U) (l1 l2 l3 l4 : Int) (μ : mi_M) : Prop := mi_ok X 224 mi_G0 Q 41 [some (.inr (.inl (some 86))), some (.inl l1), some (.inl l2), some (.inl l3), some (.inl l4)] [] mi_G0 μ u
def ms224_86 (pc : Nat) : Bool := Nat.beq pc 41
theorem me224_86 {X : mi_X} {Q : mi_R → mi_G → mi_M → Prop} {u : mi_U} {a0 a1 a2 : Int} {μ : mi_M} (h :
  if mi_wr (mv144 a0 0 1 (mi_set μ 86 0 0)) = 0 then (
    Q (.inl (some (.inl (-1)))) mi_G0 (mi_set μ 86 0 0))
  else (
    if mi_wr a1 < 0 then (
      Q (.inl (some (.inl (-1)))) mi_G0 (mi_set μ 86 0 0))
    else (
      if mi_wr (mv144 a2 0 7 (mi_set μ 86 0 0)) = 0 then (
        Q (.inl (some (.inl (-1)))) mi_G0 (mi_set μ 86 0 0))
      else (
        mp209_86 (mi_set μ 86 0 0) ∧
        (∀ (μ0 : mi_M), mq209_86 (mi_set μ 86 0 0) μ0 →
        mk224_86_41 X Q u a0 a1 a2 (192 * a0) μ0))))) : mi_cok X 224 [(.inr (.inl (some 86))), (.inl a0), (.inl a1), (.inl a2)] mi_G0 μ u Q :=
  mi_enter (by decide) (by decide) rfl rfl (ms_run (stop := ms224_86) (by decide) rfl (fun _ _ _ _ _ _ h => h) 52 0 _ _ _ _ _ (mc144 (mi_ite (fun h249 => h249) (fun h249 => (mi_ite (fun h250 => h250) (fun h250 => (mc144 (mi_ite (fun h251 => h251) (fun h251 => (mc209_86 h251.1 (fun μ0 h252 => ((h251.2 μ0 h252))))) h250))) h249)) h)))
theorem mh224_86_41 {X : mi_X} {Q : mi_R → mi_G → mi_M → Prop} {u : mi_U} {l1 l2 l3 l4 : Int} {μ : mi_M} (h :
  if mi_wr l4 < mi_wr (192 * (l1 + 1)) then (
    mp220_86 l4 μ ∧
    if mi_wr (mv220_86 l4 μ) = 0 then (
      mk224_86_41 X Q u l1 l2 l3 (l4 + 1) μ)
    else (
      (∀ Q_ : mi_R → mi_G → mi_M → Prop, (∀ (v0 : Int) (μ0 : mi_M), (if mi_wr v0 = mi_wr l2 then (
        (∀ Q_ : mi_R → mi_G → mi_M → Prop, (∀ (v1 : Int) (μ1 : mi_M), (Q (.inl (some (.inl v1))) mi_G0 μ1) → Q_ (.inl (some (.inl v1))) mi_G0 μ1) → mi_cok X 223 [(.inr (.inl (some 86))), (.inl l1), (.inl l4), (.inl l3)] mi_G0 μ0 (0, 0) Q_))
      else (
        mk224_86_41 X Q u l1 l2 l3 (l4 + 1) μ0)) → Q_ (.inl (some (.inl v0))) mi_G0 μ0) → mi_cok X 222 [(.inr (.inl (some 86))), (.inl l1), (.inl l4)] mi_G0 μ (0, 0) Q_)))
  else (
    Q (.inl (some (.inl (-1)))) mi_G0 μ)) : mk224_86_41 X Q u l1 l2 l3 l4 μ :=
  ms_run (stop := ms224_86) (by decide) rfl (fun _ _ _ _ _ _ h => h) 52 41 _ _ _ _ _ (mi_ite (fun h254 => (mc220_86 h254.1 (mi_ite (fun h255 => (h255)) (fun h255 => (h255 _ (fun v0 μ0 h256 => (mi_ite (fun h257 => (h257 _ (fun v1 μ1 h258 => h258))) (fun h257 => (h257)) h256)))) h254.2))) (fun h254 => h254) h)
-- TwoViewsModel.filled(III)I (86,)
def ms229_86 (pc : Nat) : Bool := false
theorem me229_86 {X : mi_X} {Q : mi_R → mi_G → mi_M → Prop} {u : mi_U} {a0 a1 a2 : Int} {μ : mi_M} (h :
  if mi_wr (mv151_86 a0 a1 a2 μ) = 0 then (
    Q (.inl (some (.inl 0))) mi_G0 (mi_set μ 86 0 1))
  else (
    mp228_86 (mi_set μ 86 0 0) ∧
    (∀ (μ0 : mi_M), mq228_86 (mi_set μ 86 0 0) μ0 →
    (0 ≤ (mv185 a0 a1 a2 μ0) ∧ (mv185 a0 a1 a2 μ0) < 384) ∧
    Q (.inl (some (.inl (μ0 99 (mv185 a0 a1 a2 μ0))))) mi_G0 μ0))) : mi_cok X 229 [(.inr (.inl (some 86))), (.inl a0), (.inl a1), (.inl a2)] mi_G0 μ u Q :=
  mi_enter (by decide) (by decide) rfl rfl (ms_run (stop := ms229_86) (by decide) rfl (fun _ _ _ _ _ _ h => h) 28 0 _ _ _ _ _ (mc151_86 (mi_ite (fun h259 => h259) (fun h259 => (mc228_86 h259.1 (fun μ0 h260 => (have h261 := (h259.2 μ0 h260); (mc185 (And.intro h261.1 h261.2)))))) h)))
-- TwoViewsModel.depth(II)I (86,)
def ms230_86 (pc : Nat) : Bool := false
theorem me230_86 {X : mi_X} {Q : mi_R → mi_G → mi_M → Prop} {u : mi_U} {a0 a1 : Int} {μ : mi_M} (h :
  if mi_wr (mv150_86 a0 a1 μ) = 0 then (
    Q (.inl (some (.inl 0))) mi_G0 (mi_set μ 86 0 1))
  else (
    mp228_86 (mi_set μ 86 0 0) ∧
    (∀ (μ0 : mi_M), mq228_86 (mi_set μ 86 0 0) μ0 →
    (0 ≤ (mv185 0 a0 a1 μ0) ∧ (mv185 0 a0 a1 μ0) < 384) ∧
    if mi_wr (μ0 99 (mv185 0 a0 a1 μ0)) = 0 then (
      Q (.inl (some (.inl (-2)))) mi_G0 μ0)
    else (
      (mi_wr (μ0 99 (mv185 0 a0 a1 μ0)) ≠ 0) ∧
      Q (.inl (some (.inl (mi_div (μ0 87 9) (μ0 99 (mv185 0 a0 a1 μ0)))))) mi_G0 μ0)))) : mi_cok X 230 [(.inr (.inl (some 86))), (.inl a0), (.inl a1)] mi_G0 μ u Q :=
  mi_enter (by decide) (by decide) rfl rfl (ms_run (stop := ms230_86) (by decide) rfl (fun _ _ _ _ _ _ h => h) 38 0 _ _ _ _ _ (mc150_86 (mi_ite (fun h262 => h262) (fun h262 => (mc228_86 h262.1 (fun μ0 h263 => (have h264 := (h262.2 μ0 h263); (mc185 (And.intro h264.1 (mi_ite (fun h265 => h265) (fun h265 => (And.intro (⟨by decide, by decide⟩ : (0 : Int) ≤ 9 ∧ (9 : Int) < 394) (And.intro h265.1 h265.2))) h264.2))))))) h)))
-- TwoViewsModel.fine(II)I (86,)
def ms231_86 (pc : Nat) : Bool := false
theorem me231_86 {X : mi_X} {Q : mi_R → mi_G → mi_M → Prop} {u : mi_U} {a0 a1 : Int} {μ : mi_M} (h :
  if mi_wr (mv150_86 a0 a1 μ) = 0 then (
    Q (.inl (some (.inl 0))) mi_G0 (mi_set μ 86 0 1))
  else (
    mp201_86 (mi_set μ 86 0 0) ∧
    (∀ (μ0 : mi_M), mq201_86 (mi_set μ 86 0 0) μ0 →
    mp204_86 a0 a1 μ0 ∧
    if mi_wr (mv204_86 a0 a1 μ0) = 0 then (
      Q (.inl (some (.inl (16 * (mv204_86 a0 a1 μ0))))) mi_G0 μ0)
    else (
      if mi_wr (mv204_86 a0 a1 μ0) = mi_wr (μ0 87 2) then (
        Q (.inl (some (.inl (16 * (mv204_86 a0 a1 μ0))))) mi_G0 μ0)
      else (
        (0 ≤ (mv197 a0 a1 ((mv204_86 a0 a1 μ0) - 1) μ0) ∧ (mv197 a0 a1 ((mv204_86 a0 a1 μ0) - 1) μ0) < 1536) ∧
        (0 ≤ (mv197 a0 a1 (mv204_86 a0 a1 μ0) μ0) ∧ (mv197 a0 a1 (mv204_86 a0 a1 μ0) μ0) < 1536) ∧
        (0 ≤ (mv197 a0 a1 ((mv204_86 a0 a1 μ0) + 1) μ0) ∧ (mv197 a0 a1 ((mv204_86 a0 a1 μ0) + 1) μ0) < 1536) ∧
        if 0 < mi_wr (((μ0 94 (mv197 a0 a1 ((mv204_86 a0 a1 μ0) - 1) μ0)) + (μ0 94 (mv197 a0 a1 ((mv204_86 a0 a1 μ0) + 1) μ0))) - (2 * (μ0 94 (mv197 a0 a1 (mv204_86 a0 a1 μ0) μ0)))) then (
          mp259 (8 * ((μ0 94 (mv197 a0 a1 ((mv204_86 a0 a1 μ0) - 1) μ0)) - (μ0 94 (mv197 a0 a1 ((mv204_86 a0 a1 μ0) + 1) μ0)))) (((μ0 94 (mv197 a0 a1 ((mv204_86 a0 a1 μ0) - 1) μ0)) + (μ0 94 (mv197 a0 a1 ((mv204_86 a0 a1 μ0) + 1) μ0))) - (2 * (μ0 94 (mv197 a0 a1 (mv204_86 a0 a1 μ0) μ0)))) μ0 ∧
          Q (.inl (some (.inl ((16 * (mv204_86 a0 a1 μ0)) + (mv259 (8 * ((μ0 94 (mv197 a0 a1 ((mv204_86 a0 a1 μ0) - 1) μ0)) - (μ0 94 (mv197 a0 a1 ((mv204_86 a0 a1 μ0) + 1) μ0)))) (((μ0 94 (mv197 a0 a1 ((mv204_86 a0 a1 μ0) - 1) μ0)) + (μ0 94 (mv197 a0 a1 ((mv204_86 a0 a1 μ0) + 1) μ0))) - (2 * (μ0 94 (mv197 a0 a1 (mv204_86 a0 a1 μ0) μ0)))) μ0))))) mi_G0 μ0)
        else (
          Q (.inl (some (.inl ((16 * (mv204_86 a0 a1 μ0)) + 0)))) mi_G0 μ0)))))) : mi_cok X 231 [(.inr (.inl (some 86))), (.inl a0), (.inl a1)] mi_G0 μ u Q :=
  mi_enter (by decide) (by decide) rfl rfl (ms_run (stop := ms231_86) (by decide) rfl (fun _ _ _ _ _ _ h => h) 88 0 _ _ _ _ _ (mc150_86 (mi_ite (fun h266 => h266) (fun h266 => (mc201_86 h266.1 (fun μ0 h267 => (have h268 := (h266.2 μ0 h267); (mc204_86 h268.1 (mi_ite (fun h269 => h269) (fun h269 => (And.intro (⟨by decide, by decide⟩ : (0 : Int) ≤ 2 ∧ (2 : Int) < 394) (mi_ite (fun h270 => h270) (fun h270 => (mc197 (And.intro h270.1 (mc197 (And.intro h270.2.1 (mc197 (And.intro h270.2.2.1 (mi_ite (fun h271 => (mc259 h271.1 h271.2)) (fun h271 => h271) h270.2.2.2)))))))) h269))) h268.2)))))) h)))
-- TwoViewsModel.votes(II)I (86,)
def ms233_86 (pc : Nat) : Bool := false
theorem me233_86 {X : mi_X} {Q : mi_R → mi_G → mi_M → Prop} {u : mi_U} {a0 a1 : Int} {μ : mi_M} (h :
  if mi_wr (mv144 a0 0 (8 * (μ 87 2)) (mi_set μ 86 0 0)) = 0 then (
    Q (.inl (some (.inl (-1)))) mi_G0 (mi_set μ 86 0 0))
  else (
    if mi_wr (mv144 a1 0 8 (mi_set μ 86 0 0)) = 0 then (
      Q (.inl (some (.inl (-1)))) mi_G0 (mi_set μ 86 0 0))
    else (
      mp209_86 (mi_set μ 86 0 0) ∧
      (∀ (μ0 : mi_M), mq209_86 (mi_set μ 86 0 0) μ0 →
      mp232_86 a0 a1 μ0 ∧
      Q (.inl (some (.inl (mv232_86 a0 a1 μ0)))) mi_G0 μ0)))) : mi_cok X 233 [(.inr (.inl (some 86))), (.inl a0), (.inl a1)] mi_G0 μ u Q :=
  mi_enter (by decide) (by decide) rfl rfl (ms_run (stop := ms233_86) (by decide) rfl (fun _ _ _ _ _ _ h => h) 29 0 _ _ _ _ _ (And.intro (⟨by decide, by decide⟩ : (0 : Int) ≤ 2 ∧ (2 : Int) < 394) (mc144 (mi_ite (fun h272 => h272) (fun h272 => (mc144 (mi_ite (fun h273 => h273) (fun h273 => (mc209_86 h273.1 (fun μ0 h274 => (have h275 := (h273.2 μ0 h274); (mc232_86 h275.1 h275.2))))) h272))) h))))
-- TwoViewsModel.ground(I)I (86,)
noncomputable def mk234_86_33 (X : mi_X) (Q : mi_R → mi_G → mi_M → Prop) (u : mi_U) (l1 l2 l3 l4 l5 l6 : Int) (μ : mi_M) : Prop := ∀ o7 o8 : Option mi_V, mi_ok X 234 mi_G0 Q 33 [some (.inr (.inl (some 86))), some (.inl l1), some (.inl l2), some (.inl l3), some (.inl l4), some (.inl l5), some (.inl l6), o7, o8] [] mi_G0 μ u
noncomputable def mk234_86_47 (X : mi_X) (Q : mi_R → mi_G → mi_M → Prop) (u : mi_U) (l1 l2 l3 l4 l5 l6 l7 : Int) (μ : mi_M) : Prop := ∀ o8 : Option mi_V, mi_ok X 234 mi_G0 Q 47 [some (.inr (.inl (some 86))), some (.inl l1), some (.inl l2), some (.inl l3), some (.inl l4), some (.inl l5), some (.inl l6), some (.inl l7), o8] [] mi_G0 μ u
noncomputable def mk234_86_97 (X : mi_X) (Q : mi_R → mi_G → mi_M → Prop) (u : mi_U) (l1 l2 l3 l4 l5 l6 : Int) (μ : mi_M) : Prop := ∀ o7 o8 : Option mi_V, mi_ok X 234 mi_G0 Q 97 [some (.inr (.inl (some 86))), some (.inl l1), some (.inl l2), some (.inl l3), some (.inl l4), some (.inl l5), some (.inl l6), o7, o8] [] mi_G0 μ u
noncomputable def mk234_86_112 (X : mi_X) (Q : mi_R → mi_G → mi_M → Prop) (u : mi_U) (l1 l2 l3 l4 l5 l6 l7 : Int) (μ : mi_M) : Prop := ∀ o8 : Option mi_V, mi_ok X 234 mi_G0 Q 112 [some (.inr (.inl (some 86))), some (.inl l1), some (.inl l2), some (.inl l3), some (.inl l4), some (.inl l5), some (.inl l6), some (.inl l7), o8] [] mi_G0 μ u
def ms234_86 (pc : Nat) : Bool := Nat.beq pc 33 || Nat.beq pc 47 || Nat.beq pc 97 || Nat.beq pc 112
theorem me234_86 {X : mi_X} {Q : mi_R → mi_G → mi_M → Prop} {u : mi_U} {a0 : Int} {μ : mi_M} (h :
  if mi_wr (mv144 a0 0 2 (mi_set μ 86 0 0)) = 0 then (
    Q (.inl (some (.inl (-1)))) mi_G0 (mi_set μ 86 0 0))
  else (
    mp209_86 (mi_set μ 86 0 0) ∧
    (∀ (μ0 : mi_M), mq209_86 (mi_set μ 86 0 0) μ0 →
    mk234_86_33 X Q u a0 0 0 (-1) 0 0 μ0))) : mi_cok X 234 [(.inr (.inl (some 86))), (.inl a0)] mi_G0 μ u Q :=
  mi_enter (by decide) (by decide) rfl rfl (ms_run (stop := ms234_86) (by decide) rfl (fun _ _ _ _ _ _ h => h) 104 0 _ _ _ _ _ (mc144 (mi_ite (fun h276 => h276) (fun h276 => (mc209_86 h276.1 (fun μ0 h277 => ((h276.2 μ0 h277) _ _)))) h)))
theorem mh234_86_33 {X : mi_X} {Q : mi_R → mi_G → mi_M → Prop} {u : mi_U} {l1 l2 l3 l4 l5 l6 : Int} {μ : mi_M} (h :
  if mi_wr l6 < mi_wr (μ 87 1) then (
    mk234_86_47 X Q u l1 l2 l3 l4 l5 l6 0 μ)
  else (
    mk234_86_97 X Q u l1 l2 l3 l4 l5 0 μ)) : mk234_86_33 X Q u l1 l2 l3 l4 l5 l6 μ :=
  fun o7 o8 => ms_run (stop := ms234_86) (by decide) rfl (fun _ _ _ _ _ _ h => h) 104 33 _ _ _ _ _ (And.intro (⟨by decide, by decide⟩ : (0 : Int) ≤ 1 ∧ (1 : Int) < 394) (mi_ite (fun h279 => (h279 _)) (fun h279 => (h279 _ _)) h))
theorem mh234_86_47 {X : mi_X} {Q : mi_R → mi_G → mi_M → Prop} {u : mi_U} {l1 l2 l3 l4 l5 l6 l7 : Int} {μ : mi_M} (h :
  if mi_wr l7 < mi_wr (μ 87 0) then (
    if mi_wr l5 = 0 then (
      mp214_86 0 l7 l6 μ ∧
      mk234_86_47 X Q u l1 l2 l3 l4 (if mi_wr (mv214_86 0 l7 l6 μ) = 0 then 1 else 0) l6 (l7 + 1) μ)
    else (
      mk234_86_47 X Q u l1 l2 l3 l4 1 l6 (l7 + 1) μ))
  else (
    mk234_86_33 X Q u l1 l2 l3 l4 l5 (l6 + 1) μ)) : mk234_86_47 X Q u l1 l2 l3 l4 l5 l6 l7 μ :=
  fun o8 => ms_run (stop := ms234_86) (by decide) rfl (fun _ _ _ _ _ _ h => h) 104 47 _ _ _ _ _ (And.intro (⟨by decide, by decide⟩ : (0 : Int) ≤ 0 ∧ (0 : Int) < 394) (mi_ite (fun h280 => (mi_ite (fun h281 => (mc214_86 h281.1 (mi_dt (fun h282 => ((mi_mp (P := fun z => mk234_86_47 X Q u l1 l2 l3 l4 z l6 (l7 + 1) μ) h282 h281.2) _)) (fun h282 => ((mi_mn (P := fun z => mk234_86_47 X Q u l1 l2 l3 l4 z l6 (l7 + 1) μ) h282 h281.2) _))))) (fun h281 => (h281 _)) h280)) (fun h280 => (h280 _ _)) h))
theorem mh234_86_97 {X : mi_X} {Q : mi_R → mi_G → mi_M → Prop} {u : mi_U} {l1 l2 l3 l4 l5 l6 : Int} {μ : mi_M} (h :
  if mi_wr 8 < mi_wr l6 then (
    Q (.inl (some (.inl (if mi_wr l5 = 0 then (-1) else (if mi_wr l1 = 0 then l2 else (if mi_wr l1 = mi_wr 1 then l3 else l4)))))) mi_G0 μ)
  else (
    if mi_wr l5 = 0 then (
      Q (.inl (some (.inl (if mi_wr l5 = 0 then (-1) else (if mi_wr l1 = 0 then l2 else (if mi_wr l1 = mi_wr 1 then l3 else l4)))))) mi_G0 μ)
    else (
      mk234_86_112 X Q u l1 l2 l3 l4 l5 l6 0 μ))) : mk234_86_97 X Q u l1 l2 l3 l4 l5 l6 μ :=
  fun o7 o8 => ms_run (stop := ms234_86) (by decide) rfl (fun _ _ _ _ _ _ h => h) 104 97 _ _ _ _ _ (mi_ite (fun h283 => (mi_dt (fun h284 => (mi_mp (P := fun z => Q (.inl (some (.inl z))) mi_G0 μ) h284 h283)) (fun h284 => (mi_dt (fun h285 => (mi_mp (P := fun z => Q (.inl (some (.inl z))) mi_G0 μ) h285 (mi_mn (P := fun z => Q (.inl (some (.inl z))) mi_G0 μ) h284 h283))) (fun h285 => (mi_dt (fun h286 => (mi_mp (P := fun z => Q (.inl (some (.inl z))) mi_G0 μ) h286 (mi_mn (P := fun z => Q (.inl (some (.inl z))) mi_G0 μ) h285 (mi_mn (P := fun z => Q (.inl (some (.inl z))) mi_G0 μ) h284 h283)))) (fun h286 => (mi_mn (P := fun z => Q (.inl (some (.inl z))) mi_G0 μ) h286 (mi_mn (P := fun z => Q (.inl (some (.inl z))) mi_G0 μ) h285 (mi_mn (P := fun z => Q (.inl (some (.inl z))) mi_G0 μ) h284 h283)))))))))) (fun h283 => (mi_ite (fun h287 => (mi_dt (fun h288 => (mi_mp (P := fun z => Q (.inl (some (.inl z))) mi_G0 μ) h288 h287)) (fun h288 => (mi_dt (fun h289 => (mi_mp (P := fun z => Q (.inl (some (.inl z))) mi_G0 μ) h289 (mi_mn (P := fun z => Q (.inl (some (.inl z))) mi_G0 μ) h288 h287))) (fun h289 => (mi_dt (fun h290 => (mi_mp (P := fun z => Q (.inl (some (.inl z))) mi_G0 μ) h290 (mi_mn (P := fun z => Q (.inl (some (.inl z))) mi_G0 μ) h289 (mi_mn (P := fun z => Q (.inl (some (.inl z))) mi_G0 μ) h288 h287)))) (fun h290 => (mi_mn (P := fun z => Q (.inl (some (.inl z))) mi_G0 μ) h290 (mi_mn (P := fun z => Q (.inl (some (.inl z))) mi_G0 μ) h289 (mi_mn (P := fun z => Q (.inl (some (.inl z))) mi_G0 μ) h288 h287)))))))))) (fun h287 => (h287 _)) h283)) h)
theorem mh234_86_112 {X : mi_X} {Q : mi_R → mi_G → mi_M → Prop} {u : mi_U} {l1 l2 l3 l4 l5 l6 l7 : Int} {μ : mi_M} (h :
  if mi_wr (8 * (μ 87 2)) < mi_wr l7 then (
    mk234_86_97 X Q u l1 l2 l3 l4 l5 (l6 + 1) μ)
  else (
    mp232_86 l7 l6 μ ∧
    if mi_wr l4 < mi_wr (mv232_86 l7 l6 μ) then (
      mk234_86_112 X Q u l1 l7 l6 (mv232_86 l7 l6 μ) l5 l6 (l7 + 1) μ)
    else (
      mk234_86_112 X Q u l1 l2 l3 l4 l5 l6 (l7 + 1) μ))) : mk234_86_112 X Q u l1 l2 l3 l4 l5 l6 l7 μ :=
  fun o8 => ms_run (stop := ms234_86) (by decide) rfl (fun _ _ _ _ _ _ h => h) 104 112 _ _ _ _ _ (And.intro (⟨by decide, by decide⟩ : (0 : Int) ≤ 2 ∧ (2 : Int) < 394) (mi_ite (fun h291 => (h291 _ _)) (fun h291 => (mc232_86 h291.1 (mi_ite (fun h292 => (h292 _)) (fun h292 => (h292 _)) h291.2))) h))
-- TwoViewsModel.between(III)I (86,)
def ms237_86 (pc : Nat) : Bool := false
theorem me237_86 {X : mi_X} {Q : mi_R → mi_G → mi_M → Prop} {u : mi_U} {a0 a1 a2 : Int} {μ : mi_M} (h :
  if mi_wr (mv144 a0 0 4 (mi_set μ 86 0 0)) = 0 then (
    Q (.inl (some (.inl (-1)))) mi_G0 (mi_set μ 86 0 0))
  else (
    if mi_wr (mv150_86 a1 a2 (mi_set μ 86 0 0)) = 0 then (
      Q (.inl (some (.inl (-1)))) mi_G0 (mi_set μ 86 0 0))
    else (
      mp228_86 (mi_set μ 86 0 0) ∧
      (∀ (μ0 : mi_M), mq228_86 (mi_set μ 86 0 0) μ0 →
      mp236_86 a0 a1 a2 μ0 ∧
      Q (.inl (some (.inl (mv236_86 a0 a1 a2 μ0)))) mi_G0 μ0)))) : mi_cok X 237 [(.inr (.inl (some 86))), (.inl a0), (.inl a1), (.inl a2)] mi_G0 μ u Q :=
  mi_enter (by decide) (by decide) rfl rfl (ms_run (stop := ms237_86) (by decide) rfl (fun _ _ _ _ _ _ h => h) 25 0 _ _ _ _ _ (mc144 (mi_ite (fun h293 => h293) (fun h293 => (mc150_86 (mi_ite (fun h294 => h294) (fun h294 => (mc228_86 h294.1 (fun μ0 h295 => (have h296 := (h294.2 μ0 h295); (mc236_86 h296.1 h296.2))))) h293))) h)))
-- TwoViewsModel.holes(I)I (86,)
noncomputable def mk238_86_24 (X : mi_X) (Q : mi_R → mi_G → mi_M → Prop) (u : mi_U) (l1 l2 l3 : Int) (μ : mi_M) : Prop := ∀ o4 : Option mi_V, mi_ok X 238 mi_G0 Q 24 [some (.inr (.inl (some 86))), some (.inl l1), some (.inl l2), some (.inl l3), o4] [] mi_G0 μ u
noncomputable def mk238_86_37 (X : mi_X) (Q : mi_R → mi_G → mi_M → Prop) (u : mi_U) (l1 l2 l3 l4 : Int) (μ : mi_M) : Prop := mi_ok X 238 mi_G0 Q 37 [some (.inr (.inl (some 86))), some (.inl l1), some (.inl l2), some (.inl l3), some (.inl l4)] [] mi_G0 μ u
def ms238_86 (pc : Nat) : Bool := Nat.beq pc 24 || Nat.beq pc 37
theorem me238_86 {X : mi_X} {Q : mi_R → mi_G → mi_M → Prop} {u : mi_U} {a0 : Int} {μ : mi_M} (h :
  if mi_wr (mv144 a0 0 4 (mi_set μ 86 0 0)) = 0 then (
    Q (.inl (some (.inl (-1)))) mi_G0 (mi_set μ 86 0 0))
  else (
    mp228_86 (mi_set μ 86 0 0) ∧
    (∀ (μ0 : mi_M), mq228_86 (mi_set μ 86 0 0) μ0 →
    mk238_86_24 X Q u a0 0 0 μ0))) : mi_cok X 238 [(.inr (.inl (some 86))), (.inl a0)] mi_G0 μ u Q :=
  mi_enter (by decide) (by decide) rfl rfl (ms_run (stop := ms238_86) (by decide) rfl (fun _ _ _ _ _ _ h => h) 51 0 _ _ _ _ _ (mc144 (mi_ite (fun h297 => h297) (fun h297 => (mc228_86 h297.1 (fun μ0 h298 => ((h297.2 μ0 h298) _)))) h)))
theorem mh238_86_24 {X : mi_X} {Q : mi_R → mi_G → mi_M → Prop} {u : mi_U} {l1 l2 l3 : Int} {μ : mi_M} (h :
  if mi_wr l3 < mi_wr (μ 87 1) then (
    mk238_86_37 X Q u l1 l2 l3 0 μ)
  else (
    Q (.inl (some (.inl l2))) mi_G0 μ)) : mk238_86_24 X Q u l1 l2 l3 μ :=
  fun o4 => ms_run (stop := ms238_86) (by decide) rfl (fun _ _ _ _ _ _ h => h) 51 24 _ _ _ _ _ (And.intro (⟨by decide, by decide⟩ : (0 : Int) ≤ 1 ∧ (1 : Int) < 394) (mi_ite (fun h300 => (h300)) (fun h300 => h300) h))
theorem mh238_86_37 {X : mi_X} {Q : mi_R → mi_G → mi_M → Prop} {u : mi_U} {l1 l2 l3 l4 : Int} {μ : mi_M} (h :
  if mi_wr l4 < mi_wr (μ 87 0) then (
    mp236_86 l1 l4 l3 μ ∧
    mk238_86_37 X Q u l1 (if mi_wr (mv236_86 l1 l4 l3 μ) = mi_wr (-2) then (l2 + 1) else (l2 + 0)) l3 (l4 + 1) μ)
  else (
    mk238_86_24 X Q u l1 l2 (l3 + 1) μ)) : mk238_86_37 X Q u l1 l2 l3 l4 μ :=
  ms_run (stop := ms238_86) (by decide) rfl (fun _ _ _ _ _ _ h => h) 51 37 _ _ _ _ _ (And.intro (⟨by decide, by decide⟩ : (0 : Int) ≤ 0 ∧ (0 : Int) < 394) (mi_ite (fun h301 => (mc236_86 h301.1 (mi_dt (fun h302 => ((mi_mp (P := fun z => mk238_86_37 X Q u l1 z l3 (l4 + 1) μ) h302 h301.2))) (fun h302 => ((mi_mn (P := fun z => mk238_86_37 X Q u l1 z l3 (l4 + 1) μ) h302 h301.2)))))) (fun h301 => (h301 _)) h))
-- TwoViewsModel.row(II)I (86,)
def ms241_86 (pc : Nat) : Bool := false
theorem me241_86 {X : mi_X} {Q : mi_R → mi_G → mi_M → Prop} {u : mi_U} {a0 a1 : Int} {μ : mi_M} (h :
  if mi_wr (mv144 a0 0 ((μ 87 1) - 1) (mi_set μ 86 0 0)) = 0 then (
    Q (.inl (some (.inl (-1)))) mi_G0 (mi_set μ 86 0 0))
  else (
    if mi_wr (mv144 a1 (-1) ((μ 87 0) - 1) (mi_set μ 86 0 0)) = 0 then (
      Q (.inl (some (.inl (-1)))) mi_G0 (mi_set μ 86 0 0))
    else (
      mp186_86 (mi_set μ 86 0 0) ∧
      (∀ (μ0 : mi_M), mq186_86 (mi_set μ 86 0 0) μ0 →
      mp240_86 a0 μ0 ∧
      (∀ (v1 : Int) (μ1 : mi_M), mq240_86 a0 μ0 v1 μ1 →
      if mi_wr a1 = mi_wr (-1) then (
        Q (.inl (some (.inl v1))) mi_G0 μ1)
      else (
        (0 ≤ a1 ∧ a1 < 16) ∧
        Q (.inl (some (.inl (μ1 101 a1)))) mi_G0 μ1)))))) : mi_cok X 241 [(.inr (.inl (some 86))), (.inl a0), (.inl a1)] mi_G0 μ u Q :=
  mi_enter (by decide) (by decide) rfl rfl (ms_run (stop := ms241_86) (by decide) rfl (fun _ _ _ _ _ _ h => h) 43 0 _ _ _ _ _ (And.intro (⟨by decide, by decide⟩ : (0 : Int) ≤ 1 ∧ (1 : Int) < 394) (mc144 (mi_ite (fun h303 => h303) (fun h303 => (And.intro (⟨by decide, by decide⟩ : (0 : Int) ≤ 0 ∧ (0 : Int) < 394) (mc144 (mi_ite (fun h304 => h304) (fun h304 => (mc186_86 h304.1 (fun μ0 h305 => (have h306 := (h304.2 μ0 h305); (mc240_86 h306.1 (fun v1 μ1 h307 => (have h308 := (h306.2 v1 μ1 h307); (mi_ite (fun h309 => h309) (fun h309 => (And.intro h309.1 h309.2)) h308)))))))) h303)))) h))))
-- TwoViewsModel.energy(I)I (86,)
noncomputable def mk243_86_49 (X : mi_X) (Q : mi_R → mi_G → mi_M → Prop) (u : mi_U) (l2 l3 : Int) (μ : mi_M) : Prop := ∀ o1 : Option mi_V, mi_ok X 243 mi_G0 Q 49 [some (.inr (.inl (some 86))), o1, some (.inl l2), some (.inl l3)] [] mi_G0 μ u
def ms243_86 (pc : Nat) : Bool := Nat.beq pc 49
theorem me243_86 {X : mi_X} {Q : mi_R → mi_G → mi_M → Prop} {u : mi_U} {a0 : Int} {μ : mi_M} (h :
  if mi_wr (mv144 a0 0 2 (mi_set μ 86 0 0)) = 0 then (
    Q (.inl (some (.inl (-1)))) mi_G0 (mi_set μ 86 0 0))
  else (
    mp228_86 (mi_set μ 86 0 0) ∧
    (∀ (μ0 : mi_M), mq228_86 (mi_set μ 86 0 0) μ0 →
    if mi_wr a0 < mi_wr 2 then (
      if mi_wr a0 = 0 then (
        mp242_86_99 μ0 ∧
        Q (.inl (some (.inl (mv242_86_99 μ0)))) mi_G0 μ0)
      else (
        mp242_86_95 μ0 ∧
        Q (.inl (some (.inl (mv242_86_95 μ0)))) mi_G0 μ0))
    else (
      mk243_86_49 X Q u 0 0 μ0)))) : mi_cok X 243 [(.inr (.inl (some 86))), (.inl a0)] mi_G0 μ u Q :=
  mi_enter (by decide) (by decide) rfl rfl (ms_run (stop := ms243_86) (by decide) rfl (fun _ _ _ _ _ _ h => h) 47 0 _ _ _ _ _ (mc144 (mi_ite (fun h310 => h310) (fun h310 => (mc228_86 h310.1 (fun μ0 h311 => (have h312 := (h310.2 μ0 h311); (mi_ite (fun h313 => (mi_ite (fun h314 => (mc242_86_99 h314.1 h314.2)) (fun h314 => (mc242_86_95 h314.1 h314.2)) h313)) (fun h313 => (h313 _)) h312))))) h)))
theorem mh243_86_49 {X : mi_X} {Q : mi_R → mi_G → mi_M → Prop} {u : mi_U} {l2 l3 : Int} {μ : mi_M} (h :
  if mi_wr l3 < mi_wr (μ 87 1) then (
    mp240_86 l3 μ ∧
    (∀ (v0 : Int) (μ0 : mi_M), mq240_86 l3 μ v0 μ0 →
    mk243_86_49 X Q u (l2 + v0) (l3 + 1) μ0))
  else (
    Q (.inl (some (.inl l2))) mi_G0 μ)) : mk243_86_49 X Q u l2 l3 μ :=
  fun o1 => ms_run (stop := ms243_86) (by decide) rfl (fun _ _ _ _ _ _ h => h) 47 49 _ _ _ _ _ (And.intro (⟨by decide, by decide⟩ : (0 : Int) ≤ 1 ∧ (1 : Int) < 394) (mi_ite (fun h315 => (mc240_86 h315.1 (fun v0 μ0 h316 => ((h315.2 v0 μ0 h316) _)))) (fun h315 => h315) h))
-- TwoViewsModel.wrong(II)I (86,)
noncomputable def mk244_86_35 (X : mi_X) (Q : mi_R → mi_G → mi_M → Prop) (u : mi_U) (l1 l2 l3 l4 : Int) (μ : mi_M) : Prop := ∀ o5 o6 o7 : Option mi_V, mi_ok X 244 mi_G0 Q 35 [some (.inr (.inl (some 86))), some (.inl l1), some (.inl l2), some (.inl l3), some (.inl l4), o5, o6, o7] [] mi_G0 μ u
noncomputable def mk244_86_49 (X : mi_X) (Q : mi_R → mi_G → mi_M → Prop) (u : mi_U) (l1 l2 l3 l4 l5 : Int) (μ : mi_M) : Prop := ∀ o6 o7 : Option mi_V, mi_ok X 244 mi_G0 Q 49 [some (.inr (.inl (some 86))), some (.inl l1), some (.inl l2), some (.inl l3), some (.inl l4), some (.inl l5), o6, o7] [] mi_G0 μ u
def ms244_86 (pc : Nat) : Bool := Nat.beq pc 35 || Nat.beq pc 49
theorem me244_86 {X : mi_X} {Q : mi_R → mi_G → mi_M → Prop} {u : mi_U} {a0 a1 : Int} {μ : mi_M} (h :
  if mi_wr (mv144 a0 0 7 (mi_set μ 86 0 0)) = 0 then (
    Q (.inl (some (.inl (-1)))) mi_G0 (mi_set μ 86 0 0))
  else (
    if mi_wr (mv144 a1 0 2 (mi_set μ 86 0 0)) = 0 then (
      Q (.inl (some (.inl (-1)))) mi_G0 (mi_set μ 86 0 0))
    else (
      mp228_86 (mi_set μ 86 0 0) ∧
      (∀ (μ0 : mi_M), mq228_86 (mi_set μ 86 0 0) μ0 →
      mk244_86_35 X Q u a0 a1 0 0 μ0)))) : mi_cok X 244 [(.inr (.inl (some 86))), (.inl a0), (.inl a1)] mi_G0 μ u Q :=
  mi_enter (by decide) (by decide) rfl rfl (ms_run (stop := ms244_86) (by decide) rfl (fun _ _ _ _ _ _ h => h) 89 0 _ _ _ _ _ (mc144 (mi_ite (fun h318 => h318) (fun h318 => (mc144 (mi_ite (fun h319 => h319) (fun h319 => (mc228_86 h319.1 (fun μ0 h320 => ((h319.2 μ0 h320) _ _ _)))) h318))) h)))
theorem mh244_86_35 {X : mi_X} {Q : mi_R → mi_G → mi_M → Prop} {u : mi_U} {l1 l2 l3 l4 : Int} {μ : mi_M} (h :
  if mi_wr l4 < mi_wr (μ 87 1) then (
    mk244_86_49 X Q u l1 l2 l3 l4 0 μ)
  else (
    Q (.inl (some (.inl l3))) mi_G0 μ)) : mk244_86_35 X Q u l1 l2 l3 l4 μ :=
  fun o5 o6 o7 => ms_run (stop := ms244_86) (by decide) rfl (fun _ _ _ _ _ _ h => h) 89 35 _ _ _ _ _ (And.intro (⟨by decide, by decide⟩ : (0 : Int) ≤ 1 ∧ (1 : Int) < 394) (mi_ite (fun h322 => (h322 _ _)) (fun h322 => h322) h))
theorem mh244_86_49 {X : mi_X} {Q : mi_R → mi_G → mi_M → Prop} {u : mi_U} {l1 l2 l3 l4 l5 : Int} {μ : mi_M} (h :
  if mi_wr l5 < mi_wr (μ 87 0) then (
    mp179_86 l5 l4 μ ∧
    if mi_wr (mv179_86 l5 l4 μ) < 0 then (
      mk244_86_49 X Q u l1 l2 (l3 + 0) l4 (l5 + 1) μ)
    else (
      (0 ≤ (mv185 0 l5 l4 μ) ∧ (mv185 0 l5 l4 μ) < 384) ∧
      if mi_wr (mv144 ((μ 99 (mv185 0 l5 l4 μ)) - (mv179_86 l5 l4 μ)) (-l1) l1 μ) = 0 then (
        if mi_wr l2 = 0 then (
          mk244_86_49 X Q u l1 l2 (l3 + 1) l4 (l5 + 1) μ)
        else (
          mp180_86 l5 l4 μ ∧
          mk244_86_49 X Q u l1 l2 (if mi_wr l2 = mi_wr 1 then (if mi_wr (mv180_86 l5 l4 μ) = mi_wr 1 then (l3 + 1) else (l3 + 0)) else (if mi_wr (mv180_86 l5 l4 μ) = mi_wr 0 then (l3 + 1) else (l3 + 0))) l4 (l5 + 1) μ))
      else (
        mk244_86_49 X Q u l1 l2 (l3 + 0) l4 (l5 + 1) μ)))
  else (
    mk244_86_35 X Q u l1 l2 l3 (l4 + 1) μ)) : mk244_86_49 X Q u l1 l2 l3 l4 l5 μ :=
  fun o6 o7 => ms_run (stop := ms244_86) (by decide) rfl (fun _ _ _ _ _ _ h => h) 89 49 _ _ _ _ _ (And.intro (⟨by decide, by decide⟩ : (0 : Int) ≤ 0 ∧ (0 : Int) < 394) (mi_ite (fun h323 => (mc179_86 h323.1 (mi_ite (fun h324 => (h324 _ _)) (fun h324 => (mc185 (And.intro h324.1 (mc144 (mi_ite (fun h325 => (mi_ite (fun h326 => (h326 _ _)) (fun h326 => (mc180_86 h326.1 (mi_dt (fun h327 => (mi_dt (fun h328 => ((mi_mp (P := fun z => mk244_86_49 X Q u l1 l2 z l4 (l5 + 1) μ) h328 (mi_mp (P := fun z => mk244_86_49 X Q u l1 l2 z l4 (l5 + 1) μ) h327 h326.2)) _ _)) (fun h328 => ((mi_mn (P := fun z => mk244_86_49 X Q u l1 l2 z l4 (l5 + 1) μ) h328 (mi_mp (P := fun z => mk244_86_49 X Q u l1 l2 z l4 (l5 + 1) μ) h327 h326.2)) _ _)))) (fun h327 => (mi_dt (fun h329 => ((mi_mp (P := fun z => mk244_86_49 X Q u l1 l2 z l4 (l5 + 1) μ) h329 (mi_mn (P := fun z => mk244_86_49 X Q u l1 l2 z l4 (l5 + 1) μ) h327 h326.2)) _ _)) (fun h329 => ((mi_mn (P := fun z => mk244_86_49 X Q u l1 l2 z l4 (l5 + 1) μ) h329 (mi_mn (P := fun z => mk244_86_49 X Q u l1 l2 z l4 (l5 + 1) μ) h327 h326.2)) _ _))))))) h325)) (fun h325 => (h325 _ _)) h324.2))))) h323.2))) (fun h323 => (h323 _ _ _)) h))
