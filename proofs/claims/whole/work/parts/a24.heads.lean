/-! PRINTED by wip/whole/gen: heads of methods -/
-- TwoViews$Reader.takeDial(I)V (13,)
def ms67_13 (pc : Nat) : Bool := false
theorem me67_13 {X : mi_X} {Q : mi_R → mi_G → mi_M → Prop} {u : mi_U} {a0 : Int} {μ : mi_M} (h :
  (0 ≤ a0 ∧ a0 < 8) ∧
  (0 ≤ a0 ∧ a0 < 8) ∧
  mp70_13 (mi_ro X 1000 a0) (mi_ro X 1001 a0) μ ∧
  (∀ (v0 : Int) (μ0 : mi_M), mq70_13 (mi_ro X 1000 a0) (mi_ro X 1001 a0) μ v0 μ0 →
  (0 ≤ a0 ∧ a0 < 8) ∧
  Q (.inl none) mi_G0 (mi_set μ0 15 a0 v0))) : mi_cok X 67 [(.inr (.inl (some 13))), (.inl a0)] mi_G0 μ u Q :=
  mi_enter (by decide) (by decide) rfl rfl (ms_run (stop := ms67_13) (by decide) rfl (fun _ _ _ _ _ _ h => h) 16 0 _ _ _ _ _ (And.intro h.1 (And.intro h.2.1 (mc70_13 h.2.2.1 (fun v0 μ0 h205 => (have h206 := (h.2.2.2 v0 μ0 h205); (And.intro h206.1 h206.2)))))))
-- TwoViews$Reader.takePenalties()V (13,)
def ms68_13 (pc : Nat) : Bool := false
theorem me68_13 {X : mi_X} {Q : mi_R → mi_G → mi_M → Prop} {u : mi_U} {μ : mi_M} (h :
  mp70_13 (mi_ro X 1000 2) (mi_ro X 1001 2) μ ∧
  (∀ (v0 : Int) (μ0 : mi_M), mq70_13 (mi_ro X 1000 2) (mi_ro X 1001 2) μ v0 μ0 →
  mp70_13 v0 (mi_ro X 1001 3) (mi_set μ0 15 2 v0) ∧
  (∀ (v1 : Int) (μ1 : mi_M), mq70_13 v0 (mi_ro X 1001 3) (mi_set μ0 15 2 v0) v1 μ1 →
  Q (.inl none) mi_G0 (mi_set μ1 15 3 v1)))) : mi_cok X 68 [(.inr (.inl (some 13)))] mi_G0 μ u Q :=
  mi_enter (by decide) (by decide) rfl rfl (ms_run (stop := ms68_13) (by decide) rfl (fun _ _ _ _ _ _ h => h) 29 0 _ _ _ _ _ (And.intro (⟨by decide, by decide⟩ : (0 : Int) ≤ 2 ∧ (2 : Int) < 8) (And.intro (⟨by decide, by decide⟩ : (0 : Int) ≤ 2 ∧ (2 : Int) < 8) (mc70_13 h.1 (fun v0 μ0 h207 => (have h208 := (h.2 v0 μ0 h207); (And.intro (⟨by decide, by decide⟩ : (0 : Int) ≤ 2 ∧ (2 : Int) < 8) (And.intro (⟨by decide, by decide⟩ : (0 : Int) ≤ 3 ∧ (3 : Int) < 8) (mc70_13 h208.1 (fun v1 μ1 h209 => (have h210 := (h208.2 v1 μ1 h209); (And.intro (⟨by decide, by decide⟩ : (0 : Int) ≤ 3 ∧ (3 : Int) < 8) h210))))))))))))
-- TwoViews$Reader.takeRow(I)V (13,)
noncomputable def mk69_13_88 (X : mi_X) (Q : mi_R → mi_G → mi_M → Prop) (u : mi_U) (l1 l2 l3 : Int) (μ : mi_M) : Prop := ∀ o4 : Option mi_V, mi_ok X 69 mi_G0 Q 88 [some (.inr (.inl (some 13))), some (.inl l1), some (.inl l2), some (.inl l3), o4] [] mi_G0 μ u
def ms69_13 (pc : Nat) : Bool := Nat.beq pc 88
theorem me69_13 {X : mi_X} {Q : mi_R → mi_G → mi_M → Prop} {u : mi_U} {a0 : Int} {μ : mi_M} (h :
  mp70_13 0 ((μ 14 1) - 1) μ ∧
  (∀ (v0 : Int) (μ0 : mi_M), mq70_13 0 ((μ 14 1) - 1) μ v0 μ0 →
  if mi_wr (μ0 13 5) = 0 then (
    mp72_13 μ0 ∧
    (∀ (μ1 : mi_M), mq72_13 μ0 μ1 →
    if mi_wr (μ1 13 3) = mi_wr (μ1 13 4) then (
      Q (.inl none) mi_G0 (mm74_13 1 (μ1 13 3) μ1))
    else (
      mp73_13_1021 μ1 ∧
      if mi_wr (mv73_13_1021 μ1) = 0 then (
        if mi_wr ((μ1 13 4) - (μ1 13 3)) = mi_wr (μ1 14 0) then (
          mk69_13_88 X Q u a0 v0 0 μ1)
        else (
          Q (.inl none) mi_G0 (mm74_13 3 (μ1 13 3) μ1)))
      else (
        Q (.inl none) mi_G0 (mm74_13 1 (μ1 13 3) μ1)))))
  else (
    Q (.inl none) mi_G0 μ0))) : mi_cok X 69 [(.inr (.inl (some 13))), (.inl a0)] mi_G0 μ u Q :=
  mi_enter (by decide) (by decide) rfl rfl (ms_run (stop := ms69_13) (by decide) rfl (fun _ _ _ _ _ _ h => h) 86 0 _ _ _ _ _ (mc70_13 h.1 (fun v0 μ0 h211 => (have h212 := (h.2 v0 μ0 h211); (mi_ite (fun h213 => (mc72_13 h213.1 (fun μ1 h214 => (have h215 := (h213.2 μ1 h214); (mi_ite (fun h216 => (mc74_13 h216)) (fun h216 => (mc73_13_1021 h216.1 (mi_ite (fun h217 => (mi_ite (fun h218 => (h218 _)) (fun h218 => (mc74_13 h218)) h217)) (fun h217 => (mc74_13 h217)) h216.2))) h215))))) (fun h213 => h213) h212)))))
theorem mh69_13_88 {X : mi_X} {Q : mi_R → mi_G → mi_M → Prop} {u : mi_U} {l1 l2 l3 : Int} {μ : mi_M} (h :
  if mi_wr l3 < mi_wr (μ 14 0) then (
    mp95_11 ((μ 13 3) + l3) μ ∧
    if mi_wr (mv78 (mv95_11 ((μ 13 3) + l3) μ) μ) = mi_wr (-1) then (
      Q (.inl none) mi_G0 (mm74_13 3 ((μ 13 3) + l3) μ))
    else (
      (0 ≤ (mv136 l1 l3 l2 μ) ∧ (mv136 l1 l3 l2 μ) < 384) ∧
      mk69_13_88 X Q u l1 l2 (l3 + 1) (mi_set μ 16 (mv136 l1 l3 l2 μ) (mv78 (mv95_11 ((μ 13 3) + l3) μ) μ))))
  else (
    Q (.inl none) mi_G0 μ)) : mk69_13_88 X Q u l1 l2 l3 μ :=
  fun o4 => ms_run (stop := ms69_13) (by decide) rfl (fun _ _ _ _ _ _ h => h) 86 88 _ _ _ _ _ (mi_ite (fun h219 => (mc95_11 h219.1 (mc78 (mi_ite (fun h220 => (mc74_13 h220)) (fun h220 => (mc136 (And.intro h220.1 (h220.2 _)))) h219.2)))) (fun h219 => h219) h)
-- TwoViewsModel.tells(III)Z (86,)
def ms163_86 (pc : Nat) : Bool := false
theorem me163_86 {X : mi_X} {Q : mi_R → mi_G → mi_M → Prop} {u : mi_U} {a0 a1 a2 : Int} {μ : mi_M} (h :
  mp158_86 μ ∧
  (∀ (μ0 : mi_M), mq158_86 μ μ0 →
  mp162_86 a1 a2 μ0 ∧
  (∀ (v1 : Int) (μ1 : mi_M), mq162_86 a1 a2 μ0 v1 μ1 →
  if mi_wr v1 = 0 then (
    (0 ≤ a0 ∧ a0 < 394) ∧
    (0 ≤ a0 ∧ a0 < 394) ∧
    (v1 = 0 ∨ v1 = 1) ∧
    Q (.inl (some (.inl v1))) mi_G0 (mi_set μ1 91 a0 (μ1 91 a0)))
  else (
    (0 ≤ a0 ∧ a0 < 394) ∧
    (v1 = 0 ∨ v1 = 1) ∧
    Q (.inl (some (.inl v1))) mi_G0 (mi_set μ1 91 a0 (μ1 86 14)))))) : mi_cok X 163 [(.inr (.inl (some 86))), (.inl a0), (.inl a1), (.inl a2)] mi_G0 μ u Q :=
  mi_enter (by decide) (by decide) rfl rfl (ms_run (stop := ms163_86) (by decide) rfl (fun _ _ _ _ _ _ h => h) 24 0 _ _ _ _ _ (mc158_86 h.1 (fun μ0 h221 => (have h222 := (h.2 μ0 h221); (mc162_86 h222.1 (fun v1 μ1 h223 => (have h224 := (h222.2 v1 μ1 h223); (mi_ite (fun h225 => (And.intro h225.1 (And.intro h225.2.1 (And.intro h225.2.2.1 h225.2.2.2)))) (fun h225 => (And.intro h225.1 (And.intro h225.2.1 h225.2.2))) h224))))))))
-- TwoViewsModel.row(I)Z (86,)
noncomputable def mk165_86_75 (X : mi_X) (Q : mi_R → mi_G → mi_M → Prop) (u : mi_U) (l1 l2 l3 : Int) (μ : mi_M) : Prop := ∀ o4 : Option mi_V, mi_ok X 165 mi_G0 Q 75 [some (.inr (.inl (some 86))), some (.inl l1), some (.inl l2), some (.inl l3), o4] [] mi_G0 μ u
def ms165_86 (pc : Nat) : Bool := Nat.beq pc 75
theorem me165_86 {X : mi_X} {Q : mi_R → mi_G → mi_M → Prop} {u : mi_U} {a0 : Int} {μ : mi_M} (h :
  mp158_86 μ ∧
  (∀ (μ0 : mi_M), mq158_86 μ μ0 →
  mp162_86 0 ((μ0 91 1) - 1) μ0 ∧
  (∀ (v1 : Int) (μ1 : mi_M), mq162_86 0 ((μ0 91 1) - 1) μ0 v1 μ1 →
  if mi_wr v1 = 0 then (
    Q (.inl (some (.inl 0))) mi_G0 μ1)
  else (
    if mi_wr (μ1 86 11) = mi_wr 1 then (
      if mi_wr ((μ1 86 10) - (μ1 86 9)) = mi_wr (μ1 91 0) then (
        mk165_86_75 X Q u a0 (μ1 86 14) 0 μ1)
      else (
        ((mv159_86 3 (μ1 86 9) μ1) = 0 ∨ (mv159_86 3 (μ1 86 9) μ1) = 1) ∧
        Q (.inl (some (.inl (mv159_86 3 (μ1 86 9) μ1)))) mi_G0 (mm159_86 3 (μ1 86 9) μ1)))
    else (
      ((mv159_86 1 (μ1 86 9) μ1) = 0 ∨ (mv159_86 1 (μ1 86 9) μ1) = 1) ∧
      Q (.inl (some (.inl (mv159_86 1 (μ1 86 9) μ1)))) mi_G0 (mm159_86 1 (μ1 86 9) μ1)))))) : mi_cok X 165 [(.inr (.inl (some 86))), (.inl a0)] mi_G0 μ u Q :=
  mi_enter (by decide) (by decide) rfl rfl (ms_run (stop := ms165_86) (by decide) rfl (fun _ _ _ _ _ _ h => h) 85 0 _ _ _ _ _ (mc158_86 h.1 (fun μ0 h226 => (have h227 := (h.2 μ0 h226); (And.intro (⟨by decide, by decide⟩ : (0 : Int) ≤ 1 ∧ (1 : Int) < 394) (mc162_86 h227.1 (fun v1 μ1 h228 => (have h229 := (h227.2 v1 μ1 h228); (mi_ite (fun h230 => (And.intro (by decide : (0 : Int) = 0 ∨ (0 : Int) = 1) h230)) (fun h230 => (mi_ite (fun h231 => (And.intro (⟨by decide, by decide⟩ : (0 : Int) ≤ 0 ∧ (0 : Int) < 394) (mi_ite (fun h232 => (h232 _)) (fun h232 => (mc159_86 (And.intro h232.1 h232.2))) h231))) (fun h231 => (mc159_86 (And.intro h231.1 h231.2))) h230)) h229)))))))))
theorem mh165_86_75 {X : mi_X} {Q : mi_R → mi_G → mi_M → Prop} {u : mi_U} {l1 l2 l3 : Int} {μ : mi_M} (h :
  if mi_wr l3 < mi_wr (μ 91 0) then (
    mp156_86 ((μ 86 9) + l3) μ ∧
    if mi_wr (mv164 (mv156_86 ((μ 86 9) + l3) μ) μ) < 0 then (
      ((mv159_86 3 ((μ 86 9) + l3) μ) = 0 ∨ (mv159_86 3 ((μ 86 9) + l3) μ) = 1) ∧
      Q (.inl (some (.inl (mv159_86 3 ((μ 86 9) + l3) μ)))) mi_G0 (mm159_86 3 ((μ 86 9) + l3) μ))
    else (
      (0 ≤ (mv152 l1 l3 l2 μ) ∧ (mv152 l1 l3 l2 μ) < 394) ∧
      mk165_86_75 X Q u l1 l2 (l3 + 1) (mi_set μ 91 (mv152 l1 l3 l2 μ) (mv164 (mv156_86 ((μ 86 9) + l3) μ) μ))))
  else (
    mp158_86 μ ∧
    (∀ (μ0 : mi_M), mq158_86 μ μ0 →
    Q (.inl (some (.inl 1))) mi_G0 μ0))) : mk165_86_75 X Q u l1 l2 l3 μ :=
  fun o4 => ms_run (stop := ms165_86) (by decide) rfl (fun _ _ _ _ _ _ h => h) 85 75 _ _ _ _ _ (And.intro (⟨by decide, by decide⟩ : (0 : Int) ≤ 0 ∧ (0 : Int) < 394) (mi_ite (fun h233 => (mc156_86 h233.1 (mc164 (mi_ite (fun h234 => (mc159_86 (And.intro h234.1 h234.2))) (fun h234 => (mc152 (And.intro h234.1 (h234.2 _)))) h233.2)))) (fun h233 => (mc158_86 h233.1 (fun μ0 h235 => (have h236 := (h233.2 μ0 h235); (And.intro (by decide : (1 : Int) = 0 ∨ (1 : Int) = 1) h236))))) h))
-- TwoViewsModel.penalty()Z (86,)
def ms166_86 (pc : Nat) : Bool := false
theorem me166_86 {X : mi_X} {Q : mi_R → mi_G → mi_M → Prop} {u : mi_U} {μ : mi_M} (h :
  mp158_86 μ ∧
  (∀ (μ0 : mi_M), mq158_86 μ μ0 →
  mp162_86 0 60 μ0 ∧
  (∀ (v1 : Int) (μ1 : mi_M), mq162_86 0 60 μ0 v1 μ1 →
  if mi_wr v1 = 0 then (
    Q (.inl (some (.inl 0))) mi_G0 μ1)
  else (
    mp162_86 (μ1 86 14) 60 μ1 ∧
    (∀ (v2 : Int) (μ2 : mi_M), mq162_86 (μ1 86 14) 60 μ1 v2 μ2 →
    if mi_wr v2 = 0 then (
      Q (.inl (some (.inl 0))) mi_G0 μ2)
    else (
      Q (.inl (some (.inl 1))) mi_G0 (mi_set (mi_set μ2 91 4 (μ1 86 14)) 91 5 (μ2 86 14)))))))) : mi_cok X 166 [(.inr (.inl (some 86)))] mi_G0 μ u Q :=
  mi_enter (by decide) (by decide) rfl rfl (ms_run (stop := ms166_86) (by decide) rfl (fun _ _ _ _ _ _ h => h) 34 0 _ _ _ _ _ (mc158_86 h.1 (fun μ0 h237 => (have h238 := (h.2 μ0 h237); (mc162_86 h238.1 (fun v1 μ1 h239 => (have h240 := (h238.2 v1 μ1 h239); (mi_ite (fun h241 => (And.intro (by decide : (0 : Int) = 0 ∨ (0 : Int) = 1) h241)) (fun h241 => (mc162_86 h241.1 (fun v2 μ2 h242 => (have h243 := (h241.2 v2 μ2 h242); (mi_ite (fun h244 => (And.intro (by decide : (0 : Int) = 0 ∨ (0 : Int) = 1) h244)) (fun h244 => (And.intro (⟨by decide, by decide⟩ : (0 : Int) ≤ 4 ∧ (4 : Int) < 394) (And.intro (⟨by decide, by decide⟩ : (0 : Int) ≤ 5 ∧ (5 : Int) < 394) (And.intro (by decide : (1 : Int) = 0 ∨ (1 : Int) = 1) h244)))) h243))))) h240))))))))
