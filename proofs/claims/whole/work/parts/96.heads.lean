/-! PRINTED by wip/whole/gen: heads of methods -/
-- TwoViews.at(III)I (0,)
def ms106_0 (pc : Nat) : Bool := false
theorem me106_0 {X : mi_X} {Q : mi_R → mi_G → mi_M → Prop} {u : mi_U} {a0 a1 a2 : Int} {μ : mi_M} (h :
  (1 ≤ (u).1 ∧ 6 ≤ (u).2) ∧
  if mi_wr (mv87_1 a0 a1 a2 μ) = 0 then (
    Q (.inr ()) mi_G0 μ)
  else (
    (0 ≤ (mv136 a0 a1 a2 μ) ∧ (mv136 a0 a1 a2 μ) < 384) ∧
  Q (.inl (some (.inl (μ 3 (mv136 a0 a1 a2 μ))))) mi_G0 μ)) : mi_cok X 106 [(.inr (.inl (some 0))), (.inl a0), (.inl a1), (.inl a2)] mi_G0 μ u Q :=
  mi_enter (by decide) (by decide) rfl rfl (ms_run (stop := ms106_0) (by decide) rfl (fun _ _ _ _ _ _ h => h) 16 0 _ _ _ _ _ ⟨(1, 6), h.1, mc138_0 (mi_ite (fun h204 => h204) (fun h204 => (mc136 (And.intro h204.1 h204.2))) (h.2))⟩)
-- TwoViews.code(III)I (0,)
def ms107_0 (pc : Nat) : Bool := false
theorem me107_0 {X : mi_X} {Q : mi_R → mi_G → mi_M → Prop} {u : mi_U} {a0 a1 a2 : Int} {μ : mi_M} (h :
  (1 ≤ (u).1 ∧ 6 ≤ (u).2) ∧
  if mi_wr (mv87_1 a0 a1 a2 μ) = 0 then (
    Q (.inr ()) mi_G0 μ)
  else (
    mp141_0 1 μ ∧
  (∀ (μ0 : mi_M), mq141_0 1 μ μ0 →
  (0 ≤ (mv136 a0 a1 a2 μ0) ∧ (mv136 a0 a1 a2 μ0) < 384) ∧
  Q (.inl (some (.inl (μ0 67 (mv136 a0 a1 a2 μ0))))) mi_G0 μ0))) : mi_cok X 107 [(.inr (.inl (some 0))), (.inl a0), (.inl a1), (.inl a2)] mi_G0 μ u Q :=
  mi_enter (by decide) (by decide) rfl rfl (ms_run (stop := ms107_0) (by decide) rfl (fun _ _ _ _ _ _ h => h) 19 0 _ _ _ _ _ ⟨(1, 6), h.1, mc138_0 (mi_ite (fun h206 => h206) (fun h206 => (mc141_0 h206.1 (fun μ0 h208 => (have h209 := (h206.2 μ0 h208); (mc136 (And.intro h209.1 h209.2)))))) (h.2))⟩)
-- TwoViews.same(III)I (0,)
def ms108_0 (pc : Nat) : Bool := false
theorem me108_0 {X : mi_X} {Q : mi_R → mi_G → mi_M → Prop} {u : mi_U} {a0 a1 a2 : Int} {μ : mi_M} (h :
  (1 ≤ (u).1 ∧ 6 ≤ (u).2) ∧
  if mi_wr (mv87_1 a0 a1 a2 μ) = 0 then (
    Q (.inr ()) mi_G0 μ)
  else (
    mp141_0 1 μ ∧
  (∀ (μ0 : mi_M), mq141_0 1 μ μ0 →
  (0 ≤ (mv136 a0 a1 a2 μ0) ∧ (mv136 a0 a1 a2 μ0) < 384) ∧
  mp36_66 0 (μ0 67 (mv136 a0 a1 a2 μ0)) μ0 ∧
  mp36_66 1 (μ0 67 (mv136 a0 a1 a2 μ0)) μ0 ∧
  Q (.inl (some (.inl ((mv36_66 0 (μ0 67 (mv136 a0 a1 a2 μ0)) μ0) + (mv36_66 1 (μ0 67 (mv136 a0 a1 a2 μ0)) μ0))))) mi_G0 μ0))) : mi_cok X 108 [(.inr (.inl (some 0))), (.inl a0), (.inl a1), (.inl a2)] mi_G0 μ u Q :=
  mi_enter (by decide) (by decide) rfl rfl (ms_run (stop := ms108_0) (by decide) rfl (fun _ _ _ _ _ _ h => h) 31 0 _ _ _ _ _ ⟨(1, 6), h.1, mc138_0 (mi_ite (fun h210 => h210) (fun h210 => (mc141_0 h210.1 (fun μ0 h212 => (have h213 := (h210.2 μ0 h212); (mc136 (And.intro h213.1 (mc36_66 h213.2.1 (mc36_66 h213.2.2.1 h213.2.2.2)))))))) (h.2))⟩)
-- TwoViews.codes(I)I (0,)
def ms109_0 (pc : Nat) : Bool := false
theorem me109_0 {X : mi_X} {Q : mi_R → mi_G → mi_M → Prop} {u : mi_U} {a0 : Int} {μ : mi_M} (h :
  if mi_wr (mv135 a0 μ) = 0 then (
    Q (.inl (some (.inl (-1)))) mi_G0 μ)
  else (
    mp141_0 1 μ ∧
    (∀ (μ0 : mi_M), mq141_0 1 μ μ0 →
    mp37_66 a0 μ0 ∧
    Q (.inl (some (.inl (mv37_66 a0 μ0)))) mi_G0 μ0))) : mi_cok X 109 [(.inr (.inl (some 0))), (.inl a0)] mi_G0 μ u Q :=
  mi_enter (by decide) (by decide) rfl rfl (ms_run (stop := ms109_0) (by decide) rfl (fun _ _ _ _ _ _ h => h) 15 0 _ _ _ _ _ (mc135 (mi_ite (fun h214 => h214) (fun h214 => (mc141_0 h214.1 (fun μ0 h215 => (have h216 := (h214.2 μ0 h215); (mc37_66 h216.1 h216.2))))) h)))
-- TwoViews.cost(III)I (0,)
def ms110_0 (pc : Nat) : Bool := false
theorem me110_0 {X : mi_X} {Q : mi_R → mi_G → mi_M → Prop} {u : mi_U} {a0 a1 a2 : Int} {μ : mi_M} (h :
  if mi_wr (mv87_1 0 a0 a1 μ) = 0 then (
    Q (.inl (some (.inl (-1)))) mi_G0 μ)
  else (
    if mi_wr (mv88_1 a2 μ) = 0 then (
      Q (.inl (some (.inl (-1)))) mi_G0 μ)
    else (
      mp141_0 1 μ ∧
      (∀ (μ0 : mi_M), mq141_0 1 μ μ0 →
      (0 ≤ (mv137 a0 a1 a2 μ0) ∧ (mv137 a0 a1 a2 μ0) < 1536) ∧
      Q (.inl (some (.inl (μ0 68 (mv137 a0 a1 a2 μ0))))) mi_G0 μ0)))) : mi_cok X 110 [(.inr (.inl (some 0))), (.inl a0), (.inl a1), (.inl a2)] mi_G0 μ u Q :=
  mi_enter (by decide) (by decide) rfl rfl (ms_run (stop := ms110_0) (by decide) rfl (fun _ _ _ _ _ _ h => h) 28 0 _ _ _ _ _ (mc87_1 (mi_ite (fun h217 => h217) (fun h217 => (mc88_1 (mi_ite (fun h218 => h218) (fun h218 => (mc141_0 h218.1 (fun μ0 h219 => (have h220 := (h218.2 μ0 h219); (mc137 (And.intro h220.1 h220.2)))))) h217))) h)))
-- TwoViews.path(IIII)I (0,)
def ms111_0 (pc : Nat) : Bool := false
theorem me111_0 {X : mi_X} {Q : mi_R → mi_G → mi_M → Prop} {u : mi_U} {a0 a1 a2 a3 : Int} {μ : mi_M} (h :
  if mi_wr (mv134 a0 0 7 μ) = 0 then (
    Q (.inl (some (.inl (-1)))) mi_G0 μ)
  else (
    if mi_wr (mv87_1 0 a1 a2 μ) = 0 then (
      Q (.inl (some (.inl (-1)))) mi_G0 μ)
    else (
      if mi_wr (mv88_1 a3 μ) = 0 then (
        Q (.inl (some (.inl (-1)))) mi_G0 μ)
      else (
        mp141_0 1 μ ∧
        (∀ (μ0 : mi_M), mq141_0 1 μ μ0 →
        mp42_66 a0 μ0 ∧
        (∀ (μ1 : mi_M), mq42_66 a0 μ0 μ1 →
        (0 ≤ (mv137 a1 a2 a3 μ1) ∧ (mv137 a1 a2 a3 μ1) < 1536) ∧
        Q (.inl (some (.inl (μ1 70 (mv137 a1 a2 a3 μ1))))) mi_G0 μ1)))))) : mi_cok X 111 [(.inr (.inl (some 0))), (.inl a0), (.inl a1), (.inl a2), (.inl a3)] mi_G0 μ u Q :=
  mi_enter (by decide) (by decide) rfl rfl (ms_run (stop := ms111_0) (by decide) rfl (fun _ _ _ _ _ _ h => h) 37 0 _ _ _ _ _ (mc134 (mi_ite (fun h221 => h221) (fun h221 => (mc87_1 (mi_ite (fun h222 => h222) (fun h222 => (mc88_1 (mi_ite (fun h223 => h223) (fun h223 => (mc141_0 h223.1 (fun μ0 h224 => (have h225 := (h223.2 μ0 h224); (mc42_66 h225.1 (fun μ1 h226 => (have h227 := (h225.2 μ1 h226); (mc137 (And.intro h227.1 h227.2))))))))) h222))) h221))) h)))
-- TwoViews.sum(III)I (0,)
def ms112_0 (pc : Nat) : Bool := false
theorem me112_0 {X : mi_X} {Q : mi_R → mi_G → mi_M → Prop} {u : mi_U} {a0 a1 a2 : Int} {μ : mi_M} (h :
  if mi_wr (mv87_1 0 a0 a1 μ) = 0 then (
    Q (.inl (some (.inl (-1)))) mi_G0 μ)
  else (
    if mi_wr (mv88_1 a2 μ) = 0 then (
      Q (.inl (some (.inl (-1)))) mi_G0 μ)
    else (
      mp141_0 2 μ ∧
      (∀ (μ0 : mi_M), mq141_0 2 μ μ0 →
      (0 ≤ (mv137 a0 a1 a2 μ0) ∧ (mv137 a0 a1 a2 μ0) < 1536) ∧
      Q (.inl (some (.inl (μ0 69 (mv137 a0 a1 a2 μ0))))) mi_G0 μ0)))) : mi_cok X 112 [(.inr (.inl (some 0))), (.inl a0), (.inl a1), (.inl a2)] mi_G0 μ u Q :=
  mi_enter (by decide) (by decide) rfl rfl (ms_run (stop := ms112_0) (by decide) rfl (fun _ _ _ _ _ _ h => h) 28 0 _ _ _ _ _ (mc87_1 (mi_ite (fun h228 => h228) (fun h228 => (mc88_1 (mi_ite (fun h229 => h229) (fun h229 => (mc141_0 h229.1 (fun μ0 h230 => (have h231 := (h229.2 μ0 h230); (mc137 (And.intro h231.1 h231.2)))))) h228))) h)))
-- TwoViews.shift(III)I (0,)
def ms113_0 (pc : Nat) : Bool := false
theorem me113_0 {X : mi_X} {Q : mi_R → mi_G → mi_M → Prop} {u : mi_U} {a0 a1 a2 : Int} {μ : mi_M} (h :
  (1 ≤ (u).1 ∧ 6 ≤ (u).2) ∧
  if mi_wr (mv87_1 a0 a1 a2 μ) = 0 then (
    Q (.inr ()) mi_G0 μ)
  else (
    mp141_0 3 μ ∧
  (∀ (μ0 : mi_M), mq141_0 3 μ μ0 →
  (0 ≤ (mv136 a0 a1 a2 μ0) ∧ (mv136 a0 a1 a2 μ0) < 384) ∧
  Q (.inl (some (.inl (μ0 72 (mv136 a0 a1 a2 μ0))))) mi_G0 μ0))) : mi_cok X 113 [(.inr (.inl (some 0))), (.inl a0), (.inl a1), (.inl a2)] mi_G0 μ u Q :=
  mi_enter (by decide) (by decide) rfl rfl (ms_run (stop := ms113_0) (by decide) rfl (fun _ _ _ _ _ _ h => h) 19 0 _ _ _ _ _ ⟨(1, 6), h.1, mc138_0 (mi_ite (fun h232 => h232) (fun h232 => (mc141_0 h232.1 (fun μ0 h234 => (have h235 := (h232.2 μ0 h234); (mc136 (And.intro h235.1 h235.2)))))) (h.2))⟩)
-- TwoViews.margin(II)I (0,)
def ms114_0 (pc : Nat) : Bool := false
theorem me114_0 {X : mi_X} {Q : mi_R → mi_G → mi_M → Prop} {u : mi_U} {a0 a1 : Int} {μ : mi_M} (h :
  (1 ≤ (u).1 ∧ 6 ≤ (u).2) ∧
  if mi_wr (mv87_1 0 a0 a1 μ) = 0 then (
    Q (.inr ()) mi_G0 μ)
  else (
    mp141_0 3 μ ∧
  (∀ (μ0 : mi_M), mq141_0 3 μ μ0 →
  mp15_71 a0 a1 μ0 ∧
  Q (.inl (some (.inl (mv15_71 a0 a1 μ0)))) mi_G0 μ0))) : mi_cok X 114 [(.inr (.inl (some 0))), (.inl a0), (.inl a1)] mi_G0 μ u Q :=
  mi_enter (by decide) (by decide) rfl rfl (ms_run (stop := ms114_0) (by decide) rfl (fun _ _ _ _ _ _ h => h) 16 0 _ _ _ _ _ ⟨(1, 6), h.1, mc138_0 (mi_ite (fun h236 => h236) (fun h236 => (mc141_0 h236.1 (fun μ0 h238 => (have h239 := (h236.2 μ0 h238); (mc15_71 h239.1 h239.2))))) (h.2))⟩)
-- TwoViews.kind(III)I (0,)
def ms115_0 (pc : Nat) : Bool := false
theorem me115_0 {X : mi_X} {Q : mi_R → mi_G → mi_M → Prop} {u : mi_U} {a0 a1 a2 : Int} {μ : mi_M} (h :
  if mi_wr (mv87_1 a0 a1 a2 μ) = 0 then (
    Q (.inl (some (.inl (-1)))) mi_G0 μ)
  else (
    mp141_0 4 μ ∧
    (∀ (μ0 : mi_M), mq141_0 4 μ μ0 →
    (0 ≤ (mv136 a0 a1 a2 μ0) ∧ (mv136 a0 a1 a2 μ0) < 384) ∧
    Q (.inl (some (.inl (μ0 73 (mv136 a0 a1 a2 μ0))))) mi_G0 μ0))) : mi_cok X 115 [(.inr (.inl (some 0))), (.inl a0), (.inl a1), (.inl a2)] mi_G0 μ u Q :=
  mi_enter (by decide) (by decide) rfl rfl (ms_run (stop := ms115_0) (by decide) rfl (fun _ _ _ _ _ _ h => h) 23 0 _ _ _ _ _ (mc87_1 (mi_ite (fun h240 => h240) (fun h240 => (mc141_0 h240.1 (fun μ0 h241 => (have h242 := (h240.2 μ0 h241); (mc136 (And.intro h242.1 h242.2)))))) h)))
-- TwoViews.kinds(II)I (0,)
def ms116_0 (pc : Nat) : Bool := false
theorem me116_0 {X : mi_X} {Q : mi_R → mi_G → mi_M → Prop} {u : mi_U} {a0 a1 : Int} {μ : mi_M} (h :
  if mi_wr (mv135 a0 μ) = 0 then (
    Q (.inl (some (.inl (-1)))) mi_G0 μ)
  else (
    if mi_wr (mv134 a1 0 2 μ) = 0 then (
      Q (.inl (some (.inl (-1)))) mi_G0 μ)
    else (
      mp141_0 4 μ ∧
      (∀ (μ0 : mi_M), mq141_0 4 μ μ0 →
      mp20_71 a0 a1 μ0 ∧
      Q (.inl (some (.inl (mv20_71 a0 a1 μ0)))) mi_G0 μ0)))) : mi_cok X 116 [(.inr (.inl (some 0))), (.inl a0), (.inl a1)] mi_G0 μ u Q :=
  mi_enter (by decide) (by decide) rfl rfl (ms_run (stop := ms116_0) (by decide) rfl (fun _ _ _ _ _ _ h => h) 21 0 _ _ _ _ _ (mc135 (mi_ite (fun h243 => h243) (fun h243 => (mc134 (mi_ite (fun h244 => h244) (fun h244 => (mc141_0 h244.1 (fun μ0 h245 => (have h246 := (h244.2 μ0 h245); (mc20_71 h246.1 h246.2))))) h243))) h)))
-- TwoViews.piece(III)I (0,)
def ms117_0 (pc : Nat) : Bool := false
theorem me117_0 {X : mi_X} {Q : mi_R → mi_G → mi_M → Prop} {u : mi_U} {a0 a1 a2 : Int} {μ : mi_M} (h :
  if mi_wr (mv87_1 a0 a1 a2 μ) = 0 then (
    Q (.inl (some (.inl (-1)))) mi_G0 μ)
  else (
    mp141_0 4 μ ∧
    (∀ (μ0 : mi_M), mq141_0 4 μ μ0 →
    mp56_76 (mv136 a0 a1 a2 μ0) a0 μ0 ∧
    Q (.inl (some (.inl (mv56_76 (mv136 a0 a1 a2 μ0) a0 μ0)))) mi_G0 μ0))) : mi_cok X 117 [(.inr (.inl (some 0))), (.inl a0), (.inl a1), (.inl a2)] mi_G0 μ u Q :=
  mi_enter (by decide) (by decide) rfl rfl (ms_run (stop := ms117_0) (by decide) rfl (fun _ _ _ _ _ _ h => h) 23 0 _ _ _ _ _ (mc87_1 (mi_ite (fun h247 => h247) (fun h247 => (mc141_0 h247.1 (fun μ0 h248 => (have h249 := (h247.2 μ0 h248); (mc136 (mc56_76 h249.1 h249.2)))))) h)))
-- TwoViews.pieces(II)I (0,)
def ms118_0 (pc : Nat) : Bool := false
theorem me118_0 {X : mi_X} {Q : mi_R → mi_G → mi_M → Prop} {u : mi_U} {a0 a1 : Int} {μ : mi_M} (h :
  if mi_wr (mv135 a0 μ) = 0 then (
    Q (.inl (some (.inl (-1)))) mi_G0 μ)
  else (
    if mi_wr a1 < 0 then (
      Q (.inl (some (.inl (-1)))) mi_G0 μ)
    else (
      if mi_wr 1 < mi_wr a1 then (
        Q (.inl (some (.inl (-1)))) mi_G0 μ)
      else (
        mp141_0 4 μ ∧
        (∀ (μ0 : mi_M), mq141_0 4 μ μ0 →
        if mi_wr a1 = 0 then (
          mp57_76 a0 μ0 ∧
          Q (.inl (some (.inl (mv57_76 a0 μ0)))) mi_G0 μ0)
        else (
          mp58_76 a0 μ0 ∧
          Q (.inl (some (.inl (mv58_76 a0 μ0)))) mi_G0 μ0)))))) : mi_cok X 118 [(.inr (.inl (some 0))), (.inl a0), (.inl a1)] mi_G0 μ u Q :=
  mi_enter (by decide) (by decide) rfl rfl (ms_run (stop := ms118_0) (by decide) rfl (fun _ _ _ _ _ _ h => h) 27 0 _ _ _ _ _ (mc135 (mi_ite (fun h250 => h250) (fun h250 => (mi_ite (fun h251 => h251) (fun h251 => (mi_ite (fun h252 => h252) (fun h252 => (mc141_0 h252.1 (fun μ0 h253 => (have h254 := (h252.2 μ0 h253); (mi_ite (fun h255 => (mc57_76 h255.1 h255.2)) (fun h255 => (mc58_76 h255.1 h255.2)) h254))))) h251)) h250)) h)))
-- TwoViews.pieceAt(III)I (0,)
def ms119_0 (pc : Nat) : Bool := false
theorem me119_0 {X : mi_X} {Q : mi_R → mi_G → mi_M → Prop} {u : mi_U} {a0 a1 a2 : Int} {μ : mi_M} (h :
  if mi_wr (mv135 a0 μ) = 0 then (
    Q (.inl (some (.inl (-1)))) mi_G0 μ)
  else (
    if mi_wr a1 < 0 then (
      Q (.inl (some (.inl (-1)))) mi_G0 μ)
    else (
      if mi_wr (mv134 a2 0 7 μ) = 0 then (
        Q (.inl (some (.inl (-1)))) mi_G0 μ)
      else (
        mp141_0 4 μ ∧
        (∀ (μ0 : mi_M), mq141_0 4 μ μ0 →
        mp59_76 a0 a1 μ0 ∧
        if mi_wr (mv59_76 a0 a1 μ0) = mi_wr (-1) then (
          Q (.inl (some (.inl (-1)))) mi_G0 μ0)
        else (
          (∀ Q_ : mi_R → mi_G → mi_M → Prop, (∀ (v1 : Int) (μ1 : mi_M), (Q (.inl (some (.inl v1))) mi_G0 μ1) → Q_ (.inl (some (.inl v1))) mi_G0 μ1) → mi_cok X 61 [(.inr (.inl (some 76))), (.inl a0), (.inl (mv59_76 a0 a1 μ0)), (.inl a2)] mi_G0 μ0 (0, 0) Q_))))))) : mi_cok X 119 [(.inr (.inl (some 0))), (.inl a0), (.inl a1), (.inl a2)] mi_G0 μ u Q :=
  mi_enter (by decide) (by decide) rfl rfl (ms_run (stop := ms119_0) (by decide) rfl (fun _ _ _ _ _ _ h => h) 35 0 _ _ _ _ _ (mc135 (mi_ite (fun h256 => h256) (fun h256 => (mi_ite (fun h257 => h257) (fun h257 => (mc134 (mi_ite (fun h258 => h258) (fun h258 => (mc141_0 h258.1 (fun μ0 h259 => (have h260 := (h258.2 μ0 h259); (mc59_76 h260.1 (mi_ite (fun h261 => h261) (fun h261 => (h261 _ (fun v1 μ1 h262 => h262))) h260.2)))))) h257))) h256)) h)))
-- TwoViews.fine(II)I (0,)
def ms120_0 (pc : Nat) : Bool := false
theorem me120_0 {X : mi_X} {Q : mi_R → mi_G → mi_M → Prop} {u : mi_U} {a0 a1 : Int} {μ : mi_M} (h :
  (1 ≤ (u).1 ∧ 6 ≤ (u).2) ∧
  if mi_wr (mv87_1 0 a0 a1 μ) = 0 then (
    Q (.inr ()) mi_G0 μ)
  else (
    mp141_0 3 μ ∧
  (∀ (μ0 : mi_M), mq141_0 3 μ μ0 →
  mp16_71 a0 a1 μ0 ∧
  Q (.inl (some (.inl (mv16_71 a0 a1 μ0)))) mi_G0 μ0))) : mi_cok X 120 [(.inr (.inl (some 0))), (.inl a0), (.inl a1)] mi_G0 μ u Q :=
  mi_enter (by decide) (by decide) rfl rfl (ms_run (stop := ms120_0) (by decide) rfl (fun _ _ _ _ _ _ h => h) 16 0 _ _ _ _ _ ⟨(1, 6), h.1, mc138_0 (mi_ite (fun h263 => h263) (fun h263 => (mc141_0 h263.1 (fun μ0 h265 => (have h266 := (h263.2 μ0 h265); (mc16_71 h266.1 h266.2))))) (h.2))⟩)
-- TwoViews.ground(I)I (0,)
def ms121_0 (pc : Nat) : Bool := false
theorem me121_0 {X : mi_X} {Q : mi_R → mi_G → mi_M → Prop} {u : mi_U} {a0 : Int} {μ : mi_M} (h :
  if mi_wr (mv134 a0 0 2 μ) = 0 then (
    Q (.inl (some (.inl (-1)))) mi_G0 μ)
  else (
    mp141_0 4 μ ∧
    (∀ (μ0 : mi_M), mq141_0 4 μ μ0 →
    mp10_84 a0 μ0 ∧
    (∀ (v1 : Int) (μ1 : mi_M), mq10_84 a0 μ0 v1 μ1 →
    Q (.inl (some (.inl v1))) mi_G0 μ1)))) : mi_cok X 121 [(.inr (.inl (some 0))), (.inl a0)] mi_G0 μ u Q :=
  mi_enter (by decide) (by decide) rfl rfl (ms_run (stop := ms121_0) (by decide) rfl (fun _ _ _ _ _ _ h => h) 17 0 _ _ _ _ _ (mc134 (mi_ite (fun h267 => h267) (fun h267 => (mc141_0 h267.1 (fun μ0 h268 => (have h269 := (h267.2 μ0 h268); (mc10_84 h269.1 (fun v1 μ1 h270 => (h269.2 v1 μ1 h270))))))) h)))
-- TwoViews.votes(II)I (0,)
def ms122_0 (pc : Nat) : Bool := false
theorem me122_0 {X : mi_X} {Q : mi_R → mi_G → mi_M → Prop} {u : mi_U} {a0 a1 : Int} {μ : mi_M} (h :
  if mi_wr (mv134 a0 0 (8 * (μ 2 0)) μ) = 0 then (
    Q (.inl (some (.inl (-1)))) mi_G0 μ)
  else (
    if mi_wr (mv134 a1 0 8 μ) = 0 then (
      Q (.inl (some (.inl (-1)))) mi_G0 μ)
    else (
      mp141_0 4 μ ∧
      (∀ (μ0 : mi_M), mq141_0 4 μ μ0 →
      mp8_84 μ0 ∧
      (∀ (v1 : Int) (μ1 : mi_M), mq8_84 μ0 v1 μ1 →
      mp9_84 a0 a1 μ1 ∧
      Q (.inl (some (.inl (mv9_84 a0 a1 μ1)))) mi_G0 μ1))))) : mi_cok X 122 [(.inr (.inl (some 0))), (.inl a0), (.inl a1)] mi_G0 μ u Q :=
  mi_enter (by decide) (by decide) rfl rfl (ms_run (stop := ms122_0) (by decide) rfl (fun _ _ _ _ _ _ h => h) 33 0 _ _ _ _ _ (And.intro (⟨by decide, by decide⟩ : (0 : Int) ≤ 0 ∧ (0 : Int) < 8) (mc134 (mi_ite (fun h272 => h272) (fun h272 => (mc134 (mi_ite (fun h273 => h273) (fun h273 => (mc141_0 h273.1 (fun μ0 h274 => (have h275 := (h273.2 μ0 h274); (mc8_84 h275.1 (fun v1 μ1 h276 => (have h277 := (h275.2 v1 μ1 h276); (mc9_84 h277.1 h277.2)))))))) h272))) h))))
-- TwoViews.between(III)I (0,)
def ms123_0 (pc : Nat) : Bool := false
theorem me123_0 {X : mi_X} {Q : mi_R → mi_G → mi_M → Prop} {u : mi_U} {a0 a1 a2 : Int} {μ : mi_M} (h :
  if mi_wr (mv134 a0 0 4 μ) = 0 then (
    Q (.inl (some (.inl (-1)))) mi_G0 μ)
  else (
    if mi_wr (mv87_1 0 a1 a2 μ) = 0 then (
      Q (.inl (some (.inl (-1)))) mi_G0 μ)
    else (
      mp141_0 5 μ ∧
      (∀ (μ0 : mi_M), mq141_0 5 μ μ0 →
      mp26_71 a0 a1 a2 μ0 ∧
      Q (.inl (some (.inl (mv26_71 a0 a1 a2 μ0)))) mi_G0 μ0)))) : mi_cok X 123 [(.inr (.inl (some 0))), (.inl a0), (.inl a1), (.inl a2)] mi_G0 μ u Q :=
  mi_enter (by decide) (by decide) rfl rfl (ms_run (stop := ms123_0) (by decide) rfl (fun _ _ _ _ _ _ h => h) 26 0 _ _ _ _ _ (mc134 (mi_ite (fun h278 => h278) (fun h278 => (mc87_1 (mi_ite (fun h279 => h279) (fun h279 => (mc141_0 h279.1 (fun μ0 h280 => (have h281 := (h279.2 μ0 h280); (mc26_71 h281.1 h281.2))))) h278))) h)))
-- TwoViews.holes(I)I (0,)
noncomputable def mk124_0_20 (X : mi_X) (Q : mi_R → mi_G → mi_M → Prop) (u : mi_U) (l1 l2 l3 : Int) (μ : mi_M) : Prop := ∀ o4 : Option mi_V, mi_ok X 124 mi_G0 Q 20 [some (.inr (.inl (some 0))), some (.inl l1), some (.inl l2), some (.inl l3), o4] [] mi_G0 μ u
noncomputable def mk124_0_34 (X : mi_X) (Q : mi_R → mi_G → mi_M → Prop) (u : mi_U) (l1 l2 l3 l4 : Int) (μ : mi_M) : Prop := mi_ok X 124 mi_G0 Q 34 [some (.inr (.inl (some 0))), some (.inl l1), some (.inl l2), some (.inl l3), some (.inl l4)] [] mi_G0 μ u
def ms124_0 (pc : Nat) : Bool := Nat.beq pc 20 || Nat.beq pc 34
theorem me124_0 {X : mi_X} {Q : mi_R → mi_G → mi_M → Prop} {u : mi_U} {a0 : Int} {μ : mi_M} (h :
  if mi_wr (mv134 a0 0 4 μ) = 0 then (
    Q (.inl (some (.inl (-1)))) mi_G0 μ)
  else (
    mp141_0 5 μ ∧
    (∀ (μ0 : mi_M), mq141_0 5 μ μ0 →
    mk124_0_20 X Q u a0 0 0 μ0))) : mi_cok X 124 [(.inr (.inl (some 0))), (.inl a0)] mi_G0 μ u Q :=
  mi_enter (by decide) (by decide) rfl rfl (ms_run (stop := ms124_0) (by decide) rfl (fun _ _ _ _ _ _ h => h) 48 0 _ _ _ _ _ (mc134 (mi_ite (fun h282 => h282) (fun h282 => (mc141_0 h282.1 (fun μ0 h283 => ((h282.2 μ0 h283) _)))) h)))
theorem mh124_0_20 {X : mi_X} {Q : mi_R → mi_G → mi_M → Prop} {u : mi_U} {l1 l2 l3 : Int} {μ : mi_M} (h :
  if mi_wr l3 < mi_wr (μ 1 1) then (
    mk124_0_34 X Q u l1 l2 l3 0 μ)
  else (
    Q (.inl (some (.inl l2))) mi_G0 μ)) : mk124_0_20 X Q u l1 l2 l3 μ :=
  fun o4 => ms_run (stop := ms124_0) (by decide) rfl (fun _ _ _ _ _ _ h => h) 48 20 _ _ _ _ _ (mi_ite (fun h285 => (h285)) (fun h285 => h285) h)
theorem mh124_0_34 {X : mi_X} {Q : mi_R → mi_G → mi_M → Prop} {u : mi_U} {l1 l2 l3 l4 : Int} {μ : mi_M} (h :
  if mi_wr l4 < mi_wr (μ 1 0) then (
    mp26_71 l1 l4 l3 μ ∧
    mk124_0_34 X Q u l1 (if mi_wr (mv26_71 l1 l4 l3 μ) = mi_wr (-2) then (l2 + 1) else (l2 + 0)) l3 (l4 + 1) μ)
  else (
    mk124_0_20 X Q u l1 l2 (l3 + 1) μ)) : mk124_0_34 X Q u l1 l2 l3 l4 μ :=
  ms_run (stop := ms124_0) (by decide) rfl (fun _ _ _ _ _ _ h => h) 48 34 _ _ _ _ _ (mi_ite (fun h286 => (mc26_71 h286.1 (mi_dt (fun h287 => ((mi_mp (P := fun z => mk124_0_34 X Q u l1 z l3 (l4 + 1) μ) h287 h286.2))) (fun h287 => ((mi_mn (P := fun z => mk124_0_34 X Q u l1 z l3 (l4 + 1) μ) h287 h286.2)))))) (fun h286 => (h286 _)) h)
-- TwoViews.filled(III)I (0,)
def ms125_0 (pc : Nat) : Bool := false
theorem me125_0 {X : mi_X} {Q : mi_R → mi_G → mi_M → Prop} {u : mi_U} {a0 a1 a2 : Int} {μ : mi_M} (h :
  (1 ≤ (u).1 ∧ 6 ≤ (u).2) ∧
  if mi_wr (mv87_1 a0 a1 a2 μ) = 0 then (
    Q (.inr ()) mi_G0 μ)
  else (
    mp141_0 5 μ ∧
  (∀ (μ0 : mi_M), mq141_0 5 μ μ0 →
  (0 ≤ (mv136 a0 a1 a2 μ0) ∧ (mv136 a0 a1 a2 μ0) < 384) ∧
  Q (.inl (some (.inl (μ0 74 (mv136 a0 a1 a2 μ0))))) mi_G0 μ0))) : mi_cok X 125 [(.inr (.inl (some 0))), (.inl a0), (.inl a1), (.inl a2)] mi_G0 μ u Q :=
  mi_enter (by decide) (by decide) rfl rfl (ms_run (stop := ms125_0) (by decide) rfl (fun _ _ _ _ _ _ h => h) 19 0 _ _ _ _ _ ⟨(1, 6), h.1, mc138_0 (mi_ite (fun h288 => h288) (fun h288 => (mc141_0 h288.1 (fun μ0 h290 => (have h291 := (h288.2 μ0 h290); (mc136 (And.intro h291.1 h291.2)))))) (h.2))⟩)
-- TwoViews.depth(II)I (0,)
def ms126_0 (pc : Nat) : Bool := false
theorem me126_0 {X : mi_X} {Q : mi_R → mi_G → mi_M → Prop} {u : mi_U} {a0 a1 : Int} {μ : mi_M} (h :
  (1 ≤ (u).1 ∧ 6 ≤ (u).2) ∧
  if mi_wr (mv87_1 0 a0 a1 μ) = 0 then (
    Q (.inr ()) mi_G0 μ)
  else (
    mp141_0 5 μ ∧
  (∀ (μ0 : mi_M), mq141_0 5 μ μ0 →
  (0 ≤ (mv136 0 a0 a1 μ0) ∧ (mv136 0 a0 a1 μ0) < 384) ∧
  if 0 < mi_wr (μ0 74 (mv136 0 a0 a1 μ0)) then (
    (mi_wr (μ0 74 (mv136 0 a0 a1 μ0)) ≠ 0) ∧
    Q (.inl (some (.inl (mi_div (μ0 2 7) (μ0 74 (mv136 0 a0 a1 μ0)))))) mi_G0 μ0)
  else (
    Q (.inl (some (.inl (-2)))) mi_G0 μ0)))) : mi_cok X 126 [(.inr (.inl (some 0))), (.inl a0), (.inl a1)] mi_G0 μ u Q :=
  mi_enter (by decide) (by decide) rfl rfl (ms_run (stop := ms126_0) (by decide) rfl (fun _ _ _ _ _ _ h => h) 31 0 _ _ _ _ _ ⟨(1, 6), h.1, mc138_0 (mi_ite (fun h292 => h292) (fun h292 => (mc141_0 h292.1 (fun μ0 h294 => (have h295 := (h292.2 μ0 h294); (mc136 (And.intro h295.1 (mi_ite (fun h296 => (And.intro (⟨by decide, by decide⟩ : (0 : Int) ≤ 7 ∧ (7 : Int) < 8) (And.intro h296.1 h296.2))) (fun h296 => h296) h295.2))))))) (h.2))⟩)
-- TwoViews.row(II)I (0,)
def ms127_0 (pc : Nat) : Bool := false
theorem me127_0 {X : mi_X} {Q : mi_R → mi_G → mi_M → Prop} {u : mi_U} {a0 a1 : Int} {μ : mi_M} (h :
  if mi_wr a1 = mi_wr (-1) then (
    if mi_wr (mv134 a0 0 ((μ 1 1) - 1) μ) = 0 then (
      Q (.inl (some (.inl (-1)))) mi_G0 μ)
    else (
      mp141_0 1 μ ∧
      (∀ (μ0 : mi_M), mq141_0 1 μ μ0 →
      mp80_81 a0 μ0 ∧
      (∀ (v1 : Int) (μ1 : mi_M), mq80_81 a0 μ0 v1 μ1 →
      if mi_wr a1 = mi_wr (-1) then (
        Q (.inl (some (.inl v1))) mi_G0 μ1)
      else (
        (0 ≤ a1 ∧ a1 < 16) ∧
        Q (.inl (some (.inl (μ1 82 a1)))) mi_G0 μ1)))))
  else (
    if mi_wr (mv134 a1 0 ((μ 1 0) - 1) μ) = 0 then (
      Q (.inl (some (.inl (-1)))) mi_G0 μ)
    else (
      if mi_wr (mv134 a0 0 ((μ 1 1) - 1) μ) = 0 then (
        Q (.inl (some (.inl (-1)))) mi_G0 μ)
      else (
        mp141_0 1 μ ∧
        (∀ (μ2 : mi_M), mq141_0 1 μ μ2 →
        mp80_81 a0 μ2 ∧
        (∀ (v3 : Int) (μ3 : mi_M), mq80_81 a0 μ2 v3 μ3 →
        if mi_wr a1 = mi_wr (-1) then (
          Q (.inl (some (.inl v3))) mi_G0 μ3)
        else (
          (0 ≤ a1 ∧ a1 < 16) ∧
          Q (.inl (some (.inl (μ3 82 a1)))) mi_G0 μ3))))))) : mi_cok X 127 [(.inr (.inl (some 0))), (.inl a0), (.inl a1)] mi_G0 μ u Q :=
  mi_enter (by decide) (by decide) rfl rfl (ms_run (stop := ms127_0) (by decide) rfl (fun _ _ _ _ _ _ h => h) 50 0 _ _ _ _ _ (mi_ite (fun h297 => (mc134 (mi_ite (fun h298 => h298) (fun h298 => (mc141_0 h298.1 (fun μ0 h299 => (have h300 := (h298.2 μ0 h299); (mc80_81 h300.1 (fun v1 μ1 h301 => (have h302 := (h300.2 v1 μ1 h301); (mi_ite (fun h303 => h303) (fun h303 => (And.intro h303.1 h303.2)) h302)))))))) h297))) (fun h297 => (mc134 (mi_ite (fun h304 => h304) (fun h304 => (mc134 (mi_ite (fun h305 => h305) (fun h305 => (mc141_0 h305.1 (fun μ2 h306 => (have h307 := (h305.2 μ2 h306); (mc80_81 h307.1 (fun v3 μ3 h308 => (have h309 := (h307.2 v3 μ3 h308); (mi_ite (fun h310 => h310) (fun h310 => (And.intro h310.1 h310.2)) h309)))))))) h304))) h297))) h))
-- TwoViews.energy(I)I (0,)
noncomputable def mk128_0_69 (X : mi_X) (Q : mi_R → mi_G → mi_M → Prop) (u : mi_U) (l2 l3 : Int) (μ : mi_M) : Prop := ∀ o1 : Option mi_V, mi_ok X 128 mi_G0 Q 69 [some (.inr (.inl (some 0))), o1, some (.inl l2), some (.inl l3)] [] mi_G0 μ u
def ms128_0 (pc : Nat) : Bool := Nat.beq pc 69
theorem me128_0 {X : mi_X} {Q : mi_R → mi_G → mi_M → Prop} {u : mi_U} {a0 : Int} {μ : mi_M} (h :
  if mi_wr (mv134 a0 0 2 μ) = 0 then (
    Q (.inl (some (.inl (-1)))) mi_G0 μ)
  else (
    if mi_wr a0 = 0 then (
      mp141_0 5 μ ∧
      (∀ (μ2 : mi_M), mq141_0 5 μ μ2 →
      mp29_71_74 μ2 ∧
      Q (.inl (some (.inl (mv29_71_74 μ2)))) mi_G0 μ2))
    else (
      if mi_wr a0 = mi_wr 1 then (
        mp141_0 3 μ ∧
        (∀ (μ1 : mi_M), mq141_0 3 μ μ1 →
        mp29_71_72 μ1 ∧
        Q (.inl (some (.inl (mv29_71_72 μ1)))) mi_G0 μ1))
      else (
        mp141_0 1 μ ∧
        (∀ (μ0 : mi_M), mq141_0 1 μ μ0 →
        mk128_0_69 X Q u 0 0 μ0))))) : mi_cok X 128 [(.inr (.inl (some 0))), (.inl a0)] mi_G0 μ u Q :=
  mi_enter (by decide) (by decide) rfl rfl (ms_run (stop := ms128_0) (by decide) rfl (fun _ _ _ _ _ _ h => h) 57 0 _ _ _ _ _ (mc134 (mi_ite (fun h311 => h311) (fun h311 => (mi_ite (fun h312 => (mc141_0 h312.1 (fun μ2 h313 => (have h314 := (h312.2 μ2 h313); (mc29_71_74 h314.1 h314.2))))) (fun h312 => (mi_ite (fun h315 => (mc141_0 h315.1 (fun μ1 h316 => (have h317 := (h315.2 μ1 h316); (mc29_71_72 h317.1 h317.2))))) (fun h315 => (mc141_0 h315.1 (fun μ0 h318 => ((h315.2 μ0 h318) _)))) h312)) h311)) h)))
theorem mh128_0_69 {X : mi_X} {Q : mi_R → mi_G → mi_M → Prop} {u : mi_U} {l2 l3 : Int} {μ : mi_M} (h :
  if mi_wr l3 < mi_wr (μ 1 1) then (
    mp80_81 l3 μ ∧
    (∀ (v0 : Int) (μ0 : mi_M), mq80_81 l3 μ v0 μ0 →
    mk128_0_69 X Q u (l2 + v0) (l3 + 1) μ0))
  else (
    Q (.inl (some (.inl l2))) mi_G0 μ)) : mk128_0_69 X Q u l2 l3 μ :=
  fun o1 => ms_run (stop := ms128_0) (by decide) rfl (fun _ _ _ _ _ _ h => h) 57 69 _ _ _ _ _ (mi_ite (fun h320 => (mc80_81 h320.1 (fun v0 μ0 h321 => ((h320.2 v0 μ0 h321) _)))) (fun h320 => h320) h)
-- TwoViews.wrong(II)I (0,)
noncomputable def mk129_0_31 (X : mi_X) (Q : mi_R → mi_G → mi_M → Prop) (u : mi_U) (l1 l2 l3 l4 : Int) (μ : mi_M) : Prop := ∀ o5 : Option mi_V, mi_ok X 129 mi_G0 Q 31 [some (.inr (.inl (some 0))), some (.inl l1), some (.inl l2), some (.inl l3), some (.inl l4), o5] [] mi_G0 μ u
noncomputable def mk129_0_46 (X : mi_X) (Q : mi_R → mi_G → mi_M → Prop) (u : mi_U) (l1 l2 l3 l4 l5 : Int) (μ : mi_M) : Prop := mi_ok X 129 mi_G0 Q 46 [some (.inr (.inl (some 0))), some (.inl l1), some (.inl l2), some (.inl l3), some (.inl l4), some (.inl l5)] [] mi_G0 μ u
def ms129_0 (pc : Nat) : Bool := Nat.beq pc 31 || Nat.beq pc 46
theorem me129_0 {X : mi_X} {Q : mi_R → mi_G → mi_M → Prop} {u : mi_U} {a0 a1 : Int} {μ : mi_M} (h :
  if mi_wr (mv134 a0 0 7 μ) = 0 then (
    Q (.inl (some (.inl (-1)))) mi_G0 μ)
  else (
    if mi_wr (mv134 a1 0 2 μ) = 0 then (
      Q (.inl (some (.inl (-1)))) mi_G0 μ)
    else (
      mp141_0 5 μ ∧
      (∀ (μ0 : mi_M), mq141_0 5 μ μ0 →
      mk129_0_31 X Q u a0 a1 0 0 μ0)))) : mi_cok X 129 [(.inr (.inl (some 0))), (.inl a0), (.inl a1)] mi_G0 μ u Q :=
  mi_enter (by decide) (by decide) rfl rfl (ms_run (stop := ms129_0) (by decide) rfl (fun _ _ _ _ _ _ h => h) 52 0 _ _ _ _ _ (mc134 (mi_ite (fun h323 => h323) (fun h323 => (mc134 (mi_ite (fun h324 => h324) (fun h324 => (mc141_0 h324.1 (fun μ0 h325 => ((h324.2 μ0 h325) _)))) h323))) h)))
theorem mh129_0_31 {X : mi_X} {Q : mi_R → mi_G → mi_M → Prop} {u : mi_U} {l1 l2 l3 l4 : Int} {μ : mi_M} (h :
  if mi_wr l4 < mi_wr (μ 1 1) then (
    mk129_0_46 X Q u l1 l2 l3 l4 0 μ)
  else (
    Q (.inl (some (.inl l3))) mi_G0 μ)) : mk129_0_31 X Q u l1 l2 l3 l4 μ :=
  fun o5 => ms_run (stop := ms129_0) (by decide) rfl (fun _ _ _ _ _ _ h => h) 52 31 _ _ _ _ _ (mi_ite (fun h327 => (h327)) (fun h327 => h327) h)
theorem mh129_0_46 {X : mi_X} {Q : mi_R → mi_G → mi_M → Prop} {u : mi_U} {l1 l2 l3 l4 l5 : Int} {μ : mi_M} (h :
  if mi_wr l5 < mi_wr (μ 1 0) then (
    mp142_0 l5 l4 l1 l2 μ ∧
    mk129_0_46 X Q u l1 l2 (if mi_wr (mv142_0 l5 l4 l1 l2 μ) = 0 then (l3 + 0) else (l3 + 1)) l4 (l5 + 1) μ)
  else (
    mk129_0_31 X Q u l1 l2 l3 (l4 + 1) μ)) : mk129_0_46 X Q u l1 l2 l3 l4 l5 μ :=
  ms_run (stop := ms129_0) (by decide) rfl (fun _ _ _ _ _ _ h => h) 52 46 _ _ _ _ _ (mi_ite (fun h328 => (mc142_0 h328.1 (mi_dt (fun h329 => ((mi_mp (P := fun z => mk129_0_46 X Q u l1 l2 z l4 (l5 + 1) μ) h329 h328.2))) (fun h329 => ((mi_mn (P := fun z => mk129_0_46 X Q u l1 l2 z l4 (l5 + 1) μ) h329 h328.2)))))) (fun h328 => (h328 _)) h)
