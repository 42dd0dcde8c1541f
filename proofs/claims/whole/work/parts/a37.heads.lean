/-! PRINTED by wip/whole/gen: heads of methods -/
-- TwoViewsLaw.at(LTwoViews;III[J)I (0, 103)
def ms248_0_103 (pc : Nat) : Bool := false
theorem me248_0_103 {X : mi_X} {Q : mi_R → mi_G → mi_M → Prop} {u : mi_U} {a0 a1 a2 : Int} {μ : mi_M} (h :
  (1 ≤ (u).1 ∧ 6 ≤ (u).2) ∧
  mp106_0 a0 a1 a2 μ ∧
  if mi_wr (mv87_1 a0 a1 a2 μ) = 0 then (
    Q (.inl (some (.inl 1))) mi_G0 μ)
  else (
    (∀ (v0 : Int) (μ0 : mi_M), mq106_0 a0 a1 a2 μ v0 μ0 →
  Q (.inl (some (.inl 0))) mi_G0 (mi_set μ0 103 0 (mi_wr v0))))) : mi_cok X 248 [(.inr (.inl (some 0))), (.inl a0), (.inl a1), (.inl a2), (.inr (.inl (some 103)))] mi_G0 μ u Q :=
  mi_enter (by decide) (by decide) rfl rfl (ms_run (stop := ms248_0_103) (by decide) rfl (fun _ _ _ _ _ _ h => h) 17 0 _ _ _ _ _ ⟨(1, 6), h.1, mc106_0 (h.2).1 (mi_ite (fun h205 => h205) (fun h205 => fun v0 μ0 h206 => (have h207 := (h205 v0 μ0 h206); (And.intro (⟨by decide, by decide⟩ : (0 : Int) ≤ 0 ∧ (0 : Int) < 1) h207))) ((h.2).2))⟩)
-- TwoViewsLaw.code(LTwoViews;III[J)I (0, 103)
def ms249_0_103 (pc : Nat) : Bool := false
theorem me249_0_103 {X : mi_X} {Q : mi_R → mi_G → mi_M → Prop} {u : mi_U} {a0 a1 a2 : Int} {μ : mi_M} (h :
  (1 ≤ (u).1 ∧ 6 ≤ (u).2) ∧
  mp107_0 a0 a1 a2 μ ∧
  if mi_wr (mv87_1 a0 a1 a2 μ) = 0 then (
    Q (.inl (some (.inl 1))) mi_G0 μ)
  else (
    (∀ (v0 : Int) (μ0 : mi_M), mq107_0 a0 a1 a2 μ v0 μ0 →
  Q (.inl (some (.inl 0))) mi_G0 (mi_set μ0 103 0 (mi_wr v0))))) : mi_cok X 249 [(.inr (.inl (some 0))), (.inl a0), (.inl a1), (.inl a2), (.inr (.inl (some 103)))] mi_G0 μ u Q :=
  mi_enter (by decide) (by decide) rfl rfl (ms_run (stop := ms249_0_103) (by decide) rfl (fun _ _ _ _ _ _ h => h) 17 0 _ _ _ _ _ ⟨(1, 6), h.1, mc107_0 (h.2).1 (mi_ite (fun h208 => h208) (fun h208 => fun v0 μ0 h209 => (have h210 := (h208 v0 μ0 h209); (And.intro (⟨by decide, by decide⟩ : (0 : Int) ≤ 0 ∧ (0 : Int) < 1) h210))) ((h.2).2))⟩)
-- TwoViewsLaw.same(LTwoViews;III[J)I (0, 103)
def ms250_0_103 (pc : Nat) : Bool := false
theorem me250_0_103 {X : mi_X} {Q : mi_R → mi_G → mi_M → Prop} {u : mi_U} {a0 a1 a2 : Int} {μ : mi_M} (h :
  (1 ≤ (u).1 ∧ 6 ≤ (u).2) ∧
  mp108_0 a0 a1 a2 μ ∧
  if mi_wr (mv87_1 a0 a1 a2 μ) = 0 then (
    Q (.inl (some (.inl 1))) mi_G0 μ)
  else (
    (∀ (v0 : Int) (μ0 : mi_M), mq108_0 a0 a1 a2 μ v0 μ0 →
  Q (.inl (some (.inl 0))) mi_G0 (mi_set μ0 103 0 (mi_wr v0))))) : mi_cok X 250 [(.inr (.inl (some 0))), (.inl a0), (.inl a1), (.inl a2), (.inr (.inl (some 103)))] mi_G0 μ u Q :=
  mi_enter (by decide) (by decide) rfl rfl (ms_run (stop := ms250_0_103) (by decide) rfl (fun _ _ _ _ _ _ h => h) 17 0 _ _ _ _ _ ⟨(1, 6), h.1, mc108_0 (h.2).1 (mi_ite (fun h211 => h211) (fun h211 => fun v0 μ0 h212 => (have h213 := (h211 v0 μ0 h212); (And.intro (⟨by decide, by decide⟩ : (0 : Int) ≤ 0 ∧ (0 : Int) < 1) h213))) ((h.2).2))⟩)
-- TwoViewsLaw.shift(LTwoViews;III[J)I (0, 103)
def ms251_0_103 (pc : Nat) : Bool := false
theorem me251_0_103 {X : mi_X} {Q : mi_R → mi_G → mi_M → Prop} {u : mi_U} {a0 a1 a2 : Int} {μ : mi_M} (h :
  (1 ≤ (u).1 ∧ 6 ≤ (u).2) ∧
  mp113_0 a0 a1 a2 μ ∧
  if mi_wr (mv87_1 a0 a1 a2 μ) = 0 then (
    Q (.inl (some (.inl 1))) mi_G0 μ)
  else (
    (∀ (v0 : Int) (μ0 : mi_M), mq113_0 a0 a1 a2 μ v0 μ0 →
  Q (.inl (some (.inl 0))) mi_G0 (mi_set μ0 103 0 (mi_wr v0))))) : mi_cok X 251 [(.inr (.inl (some 0))), (.inl a0), (.inl a1), (.inl a2), (.inr (.inl (some 103)))] mi_G0 μ u Q :=
  mi_enter (by decide) (by decide) rfl rfl (ms_run (stop := ms251_0_103) (by decide) rfl (fun _ _ _ _ _ _ h => h) 17 0 _ _ _ _ _ ⟨(1, 6), h.1, mc113_0 (h.2).1 (mi_ite (fun h214 => h214) (fun h214 => fun v0 μ0 h215 => (have h216 := (h214 v0 μ0 h215); (And.intro (⟨by decide, by decide⟩ : (0 : Int) ≤ 0 ∧ (0 : Int) < 1) h216))) ((h.2).2))⟩)
-- TwoViewsLaw.margin(LTwoViews;II[J)I (0, 103)
def ms252_0_103 (pc : Nat) : Bool := false
theorem me252_0_103 {X : mi_X} {Q : mi_R → mi_G → mi_M → Prop} {u : mi_U} {a0 a1 : Int} {μ : mi_M} (h :
  (1 ≤ (u).1 ∧ 6 ≤ (u).2) ∧
  mp114_0 a0 a1 μ ∧
  if mi_wr (mv87_1 0 a0 a1 μ) = 0 then (
    Q (.inl (some (.inl 1))) mi_G0 μ)
  else (
    (∀ (v0 : Int) (μ0 : mi_M), mq114_0 a0 a1 μ v0 μ0 →
  Q (.inl (some (.inl 0))) mi_G0 (mi_set μ0 103 0 (mi_wr v0))))) : mi_cok X 252 [(.inr (.inl (some 0))), (.inl a0), (.inl a1), (.inr (.inl (some 103)))] mi_G0 μ u Q :=
  mi_enter (by decide) (by decide) rfl rfl (ms_run (stop := ms252_0_103) (by decide) rfl (fun _ _ _ _ _ _ h => h) 16 0 _ _ _ _ _ ⟨(1, 6), h.1, mc114_0 (h.2).1 (mi_ite (fun h217 => h217) (fun h217 => fun v0 μ0 h218 => (have h219 := (h217 v0 μ0 h218); (And.intro (⟨by decide, by decide⟩ : (0 : Int) ≤ 0 ∧ (0 : Int) < 1) h219))) ((h.2).2))⟩)
-- TwoViewsLaw.fine(LTwoViews;II[J)I (0, 103)
def ms253_0_103 (pc : Nat) : Bool := false
theorem me253_0_103 {X : mi_X} {Q : mi_R → mi_G → mi_M → Prop} {u : mi_U} {a0 a1 : Int} {μ : mi_M} (h :
  (1 ≤ (u).1 ∧ 6 ≤ (u).2) ∧
  mp120_0 a0 a1 μ ∧
  if mi_wr (mv87_1 0 a0 a1 μ) = 0 then (
    Q (.inl (some (.inl 1))) mi_G0 μ)
  else (
    (∀ (v0 : Int) (μ0 : mi_M), mq120_0 a0 a1 μ v0 μ0 →
  Q (.inl (some (.inl 0))) mi_G0 (mi_set μ0 103 0 (mi_wr v0))))) : mi_cok X 253 [(.inr (.inl (some 0))), (.inl a0), (.inl a1), (.inr (.inl (some 103)))] mi_G0 μ u Q :=
  mi_enter (by decide) (by decide) rfl rfl (ms_run (stop := ms253_0_103) (by decide) rfl (fun _ _ _ _ _ _ h => h) 16 0 _ _ _ _ _ ⟨(1, 6), h.1, mc120_0 (h.2).1 (mi_ite (fun h220 => h220) (fun h220 => fun v0 μ0 h221 => (have h222 := (h220 v0 μ0 h221); (And.intro (⟨by decide, by decide⟩ : (0 : Int) ≤ 0 ∧ (0 : Int) < 1) h222))) ((h.2).2))⟩)
-- TwoViewsLaw.filled(LTwoViews;III[J)I (0, 103)
def ms254_0_103 (pc : Nat) : Bool := false
theorem me254_0_103 {X : mi_X} {Q : mi_R → mi_G → mi_M → Prop} {u : mi_U} {a0 a1 a2 : Int} {μ : mi_M} (h :
  (1 ≤ (u).1 ∧ 6 ≤ (u).2) ∧
  mp125_0 a0 a1 a2 μ ∧
  if mi_wr (mv87_1 a0 a1 a2 μ) = 0 then (
    Q (.inl (some (.inl 1))) mi_G0 μ)
  else (
    (∀ (v0 : Int) (μ0 : mi_M), mq125_0 a0 a1 a2 μ v0 μ0 →
  Q (.inl (some (.inl 0))) mi_G0 (mi_set μ0 103 0 (mi_wr v0))))) : mi_cok X 254 [(.inr (.inl (some 0))), (.inl a0), (.inl a1), (.inl a2), (.inr (.inl (some 103)))] mi_G0 μ u Q :=
  mi_enter (by decide) (by decide) rfl rfl (ms_run (stop := ms254_0_103) (by decide) rfl (fun _ _ _ _ _ _ h => h) 17 0 _ _ _ _ _ ⟨(1, 6), h.1, mc125_0 (h.2).1 (mi_ite (fun h223 => h223) (fun h223 => fun v0 μ0 h224 => (have h225 := (h223 v0 μ0 h224); (And.intro (⟨by decide, by decide⟩ : (0 : Int) ≤ 0 ∧ (0 : Int) < 1) h225))) ((h.2).2))⟩)
-- TwoViewsLaw.depth(LTwoViews;II[J)I (0, 103)
def ms255_0_103 (pc : Nat) : Bool := false
theorem me255_0_103 {X : mi_X} {Q : mi_R → mi_G → mi_M → Prop} {u : mi_U} {a0 a1 : Int} {μ : mi_M} (h :
  (1 ≤ (u).1 ∧ 6 ≤ (u).2) ∧
  mp126_0 a0 a1 μ ∧
  if mi_wr (mv87_1 0 a0 a1 μ) = 0 then (
    Q (.inl (some (.inl 1))) mi_G0 μ)
  else (
    (∀ (v0 : Int) (μ0 : mi_M), mq126_0 a0 a1 μ v0 μ0 →
  Q (.inl (some (.inl 0))) mi_G0 (mi_set μ0 103 0 (mi_wr v0))))) : mi_cok X 255 [(.inr (.inl (some 0))), (.inl a0), (.inl a1), (.inr (.inl (some 103)))] mi_G0 μ u Q :=
  mi_enter (by decide) (by decide) rfl rfl (ms_run (stop := ms255_0_103) (by decide) rfl (fun _ _ _ _ _ _ h => h) 16 0 _ _ _ _ _ ⟨(1, 6), h.1, mc126_0 (h.2).1 (mi_ite (fun h226 => h226) (fun h226 => fun v0 μ0 h227 => (have h228 := (h226 v0 μ0 h227); (And.intro (⟨by decide, by decide⟩ : (0 : Int) ≤ 0 ∧ (0 : Int) < 1) h228))) ((h.2).2))⟩)
