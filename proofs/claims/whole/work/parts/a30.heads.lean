/-! PRINTED by wip/whole/gen: heads of methods -/
-- TwoViews$Reader.takeDefaults(LTwoViews$Scene;)V (13, 1)
noncomputable def mm64_13_1 (X : mi_X) (μ : mi_M) : mi_M := (mi_set (mi_set (mi_row μ 15 (mi_cpy (mi_ro X 1002) (μ 15) 0 0 8)) 15 6 (μ 2 6)) 15 7 (μ 2 7))
theorem mc64_13_1 {X : mi_X} {Q : mi_R → mi_G → mi_M → Prop} {u : mi_U} {μ : mi_M} (hq : Q (.inl none) mi_G0 (mm64_13_1 X μ)) : mi_cok X 64 [(.inr (.inl (some 13))), (.inr (.inl (some 1)))] mi_G0 μ u Q :=
  mi_enter (by decide) (by decide) rfl rfl (ms_run (stop := fun _ => false) (by decide) rfl (fun _ _ _ _ _ _ h => h) 29 0 _ _ _ _ _ (And.intro (by decide : (0 : Int) ≤ 0 ∧ (0 : Int) ≤ 0 ∧ (0 : Int) ≤ 8 ∧ (0 : Int) + 8 ≤ 8 ∧ (0 : Int) + 8 ≤ 8) (And.intro (⟨by decide, by decide⟩ : (0 : Int) ≤ 6 ∧ (6 : Int) < 8) (And.intro (⟨by decide, by decide⟩ : (0 : Int) ≤ 6 ∧ (6 : Int) < 8) (And.intro (⟨by decide, by decide⟩ : (0 : Int) ≤ 7 ∧ (7 : Int) < 8) (And.intro (⟨by decide, by decide⟩ : (0 : Int) ≤ 7 ∧ (7 : Int) < 8) hq))))))
-- TwoViews$Reader.readText(ILTwoViews$Scene;)I (13, 1)
noncomputable def mk63_13_1_26 (X : mi_X) (Q : mi_R → mi_G → mi_M → Prop) (u : mi_U) (l3 : Int) (μ : mi_M) : Prop := ∀ o1 o2 : Option mi_V, mi_ok X 63 mi_G0 Q 26 [some (.inr (.inl (some 13))), o1, o2, some (.inl l3)] [] mi_G0 μ u
def ms63_13_1 (pc : Nat) : Bool := Nat.beq pc 26
theorem me63_13_1 {X : mi_X} {Q : mi_R → mi_G → mi_M → Prop} {u : mi_U} {a0 : Int} {μ : mi_M} (h :
  mp65_13 (mm64_13_1 X (mi_set (mi_set (mi_set μ 13 2 a0) 13 4 0) 13 5 0)) ∧
  (∀ (μ0 : mi_M), mq65_13 (mm64_13_1 X (mi_set (mi_set (mi_set μ 13 2 a0) 13 4 0) 13 5 0)) μ0 →
  mk63_13_1_26 X Q u 0 μ0)) : mi_cok X 63 [(.inr (.inl (some 13))), (.inl a0), (.inr (.inl (some 1)))] mi_G0 μ u Q :=
  mi_enter (by decide) (by decide) rfl rfl (ms_run (stop := ms63_13_1) (by decide) rfl (fun _ _ _ _ _ _ h => h) 42 0 _ _ _ _ _ (mc64_13_1 (mc65_13 h.1 (fun μ0 h205 => ((h.2 μ0 h205) _ _)))))
theorem mh63_13_1_26 {X : mi_X} {Q : mi_R → mi_G → mi_M → Prop} {u : mi_U} {l3 : Int} {μ : mi_M} (h :
  if mi_wr (μ 13 5) = 0 then (
    if mi_wr 700 < mi_wr l3 then (
      Q (.inl (some (.inl ((-2) - (μ 13 5))))) mi_G0 μ)
    else (
      mp72_13 μ ∧
      (∀ (μ0 : mi_M), mq72_13 μ μ0 →
      if mi_wr (μ0 13 3) = mi_wr (μ0 13 2) then (
        Q (.inl (some (.inl l3))) mi_G0 μ0)
      else (
        mp66_13 μ0 ∧
        (∀ (μ1 : mi_M), mq66_13 μ0 μ1 →
        mk63_13_1_26 X Q u (l3 + 1) μ1)))))
  else (
    Q (.inl (some (.inl ((-2) - (μ 13 5))))) mi_G0 μ)) : mk63_13_1_26 X Q u l3 μ :=
  fun o1 o2 => ms_run (stop := ms63_13_1) (by decide) rfl (fun _ _ _ _ _ _ h => h) 42 26 _ _ _ _ _ (mi_ite (fun h207 => (mi_ite (fun h208 => h208) (fun h208 => (mc72_13 h208.1 (fun μ0 h209 => (have h210 := (h208.2 μ0 h209); (mi_ite (fun h211 => h211) (fun h211 => (mc66_13 h211.1 (fun μ1 h212 => ((h211.2 μ1 h212) _ _)))) h210))))) h207)) (fun h207 => h207) h)
-- TwoViewsModel.text(I)I (86,)
noncomputable def mk168_86_45 (X : mi_X) (Q : mi_R → mi_G → mi_M → Prop) (u : mi_U) (l2 : Int) (μ : mi_M) : Prop := ∀ o1 o3 o4 : Option mi_V, mi_ok X 168 mi_G0 Q 45 [some (.inr (.inl (some 86))), o1, some (.inl l2), o3, o4] [] mi_G0 μ u
noncomputable def mk168_86_209 (X : mi_X) (Q : mi_R → mi_G → mi_M → Prop) (u : mi_U) (l2 l3 : Int) (μ : mi_M) : Prop := ∀ o1 o4 : Option mi_V, mi_ok X 168 mi_G0 Q 209 [some (.inr (.inl (some 86))), o1, some (.inl l2), some (.inl l3), o4] [] mi_G0 μ u
noncomputable def mk168_86_257 (X : mi_X) (Q : mi_R → mi_G → mi_M → Prop) (u : mi_U) (l2 l3 : Int) (μ : mi_M) : Prop := ∀ o1 o4 : Option mi_V, mi_ok X 168 mi_G0 Q 257 [some (.inr (.inl (some 86))), o1, some (.inl l2), some (.inl l3), o4] [] mi_G0 μ u
noncomputable def mk168_86_276 (X : mi_X) (Q : mi_R → mi_G → mi_M → Prop) (u : mi_U) (l3 l4 : Int) (μ : mi_M) : Prop := ∀ o1 o2 : Option mi_V, mi_ok X 168 mi_G0 Q 276 [some (.inr (.inl (some 86))), o1, o2, some (.inl l3), some (.inl l4)] [] mi_G0 μ u
def ms168_86 (pc : Nat) : Bool := Nat.beq pc 45 || Nat.beq pc 209 || Nat.beq pc 257 || Nat.beq pc 276
theorem me168_86 {X : mi_X} {Q : mi_R → mi_G → mi_M → Prop} {u : mi_U} {a0 : Int} {μ : mi_M} (h :
  if mi_wr (mv144 a0 0 (μ 86 7) (mi_set μ 86 0 0)) = 0 then (
    Q (.inl (some (.inl (-1)))) mi_G0 (mi_set μ 86 0 0))
  else (
    mp158_86 (mi_set (mi_set (mi_set (mi_set (mi_set μ 86 0 0) 86 8 a0) 86 7 0) 86 10 0) 86 12 0) ∧
    (∀ (μ0 : mi_M), mq158_86 (mi_set (mi_set (mi_set (mi_set (mi_set μ 86 0 0) 86 8 a0) 86 7 0) 86 10 0) 86 12 0) μ0 →
    mk168_86_45 X Q u 0 μ0))) : mi_cok X 168 [(.inr (.inl (some 86))), (.inl a0)] mi_G0 μ u Q :=
  mi_enter (by decide) (by decide) rfl rfl (ms_run (stop := ms168_86) (by decide) rfl (fun _ _ _ _ _ _ h => h) 174 0 _ _ _ _ _ (mc144 (mi_ite (fun h214 => h214) (fun h214 => (mc158_86 h214.1 (fun μ0 h215 => ((h214.2 μ0 h215) _ _ _)))) h)))
theorem mh168_86_45 {X : mi_X} {Q : mi_R → mi_G → mi_M → Prop} {u : mi_U} {l2 : Int} {μ : mi_M} (h :
  if mi_wr l2 < mi_wr 394 then (
    (0 ≤ l2 ∧ l2 < 394) ∧
    mk168_86_45 X Q u (l2 + 1) (mi_set μ 91 l2 0))
  else (
    (1 ≤ (u).1 ∧ 7 ≤ (u).2) ∧
    mp160_86 115 105 122 101 0 0 0 μ ∧
    (∀ (v0 : Int) (μ0 : mi_M), mq160_86 115 105 122 101 0 0 0 μ v0 μ0 →
    if mi_wr v0 = 0 then (
      mk168_86_209 X Q ((u).1 - 1, (u).2 - 7) (mv159_86 1 (μ0 86 9) μ0) 0 (mi_set (mi_set (mi_set (mi_set (mi_set (mi_set (mi_set (mi_set (mi_set (mm159_86 1 (μ0 86 9) μ0) 91 1 ((mm159_86 1 (μ0 86 9) μ0) 86 14)) 91 2 3) 91 3 1) 91 4 2) 91 5 6) 91 6 255) 91 7 1) 91 8 ((mm159_86 1 (μ0 86 9) μ0) 87 8)) 91 9 ((mm159_86 1 (μ0 86 9) μ0) 87 9)))
    else (
      mp163_86 0 3 16 μ0 ∧
      (∀ (v1 : Int) (μ1 : mi_M), mq163_86 0 3 16 μ0 v1 μ1 →
      if mi_wr v1 = 0 then (
        mk168_86_209 X Q ((u).1 - 1, (u).2 - 7) 0 0 (mi_set (mi_set (mi_set (mi_set (mi_set (mi_set (mi_set (mi_set (mi_set μ1 91 1 (μ1 86 14)) 91 2 3) 91 3 1) 91 4 2) 91 5 6) 91 6 255) 91 7 1) 91 8 (μ1 87 8)) 91 9 (μ1 87 9)))
      else (
        mp162_86 3 12 μ1 ∧
        (∀ (v2 : Int) (μ2 : mi_M), mq162_86 3 12 μ1 v2 μ2 →
        if mi_wr v2 = 0 then (
          mk168_86_209 X Q ((u).1 - 1, (u).2 - 7) 0 0 (mi_set (mi_set (mi_set (mi_set (mi_set (mi_set (mi_set (mi_set (mi_set μ2 91 1 (μ2 86 14)) 91 2 3) 91 3 1) 91 4 2) 91 5 6) 91 6 255) 91 7 1) 91 8 (μ2 87 8)) 91 9 (μ2 87 9)))
        else (
          mk168_86_209 X Q ((u).1 - 1, (u).2 - 7) 1 0 (mi_set (mi_set (mi_set (mi_set (mi_set (mi_set (mi_set (mi_set (mi_set μ2 91 1 (μ2 86 14)) 91 2 3) 91 3 1) 91 4 2) 91 5 6) 91 6 255) 91 7 1) 91 8 (μ2 87 8)) 91 9 (μ2 87 9)))))))))) : mk168_86_45 X Q u l2 μ :=
  fun o1 o3 o4 => ms_run (stop := ms168_86) (by decide) rfl (fun _ _ _ _ _ _ h => h) 174 45 _ _ _ _ _ (mi_ite (fun h217 => (And.intro h217.1 (h217.2 _ _ _))) (fun h217 => ⟨(1, 7), h217.1, mc160_86 (h217.2).1 (fun v0 μ0 h218 => (have h219 := (((h217.2).2) v0 μ0 h218); (mi_ite (fun h220 => (mc159_86 (And.intro (⟨by decide, by decide⟩ : (0 : Int) ≤ 1 ∧ (1 : Int) < 394) (And.intro (⟨by decide, by decide⟩ : (0 : Int) ≤ 2 ∧ (2 : Int) < 394) (And.intro (⟨by decide, by decide⟩ : (0 : Int) ≤ 3 ∧ (3 : Int) < 394) (And.intro (⟨by decide, by decide⟩ : (0 : Int) ≤ 4 ∧ (4 : Int) < 394) (And.intro (⟨by decide, by decide⟩ : (0 : Int) ≤ 5 ∧ (5 : Int) < 394) (And.intro (⟨by decide, by decide⟩ : (0 : Int) ≤ 6 ∧ (6 : Int) < 394) (And.intro (⟨by decide, by decide⟩ : (0 : Int) ≤ 7 ∧ (7 : Int) < 394) (And.intro (⟨by decide, by decide⟩ : (0 : Int) ≤ 8 ∧ (8 : Int) < 394) (And.intro (⟨by decide, by decide⟩ : (0 : Int) ≤ 8 ∧ (8 : Int) < 394) (And.intro (⟨by decide, by decide⟩ : (0 : Int) ≤ 9 ∧ (9 : Int) < 394) (And.intro (⟨by decide, by decide⟩ : (0 : Int) ≤ 9 ∧ (9 : Int) < 394) (h220 _ _)))))))))))))) (fun h220 => (mc163_86 h220.1 (fun v1 μ1 h221 => (have h222 := (h220.2 v1 μ1 h221); (mi_ite (fun h223 => (And.intro (⟨by decide, by decide⟩ : (0 : Int) ≤ 1 ∧ (1 : Int) < 394) (And.intro (⟨by decide, by decide⟩ : (0 : Int) ≤ 2 ∧ (2 : Int) < 394) (And.intro (⟨by decide, by decide⟩ : (0 : Int) ≤ 3 ∧ (3 : Int) < 394) (And.intro (⟨by decide, by decide⟩ : (0 : Int) ≤ 4 ∧ (4 : Int) < 394) (And.intro (⟨by decide, by decide⟩ : (0 : Int) ≤ 5 ∧ (5 : Int) < 394) (And.intro (⟨by decide, by decide⟩ : (0 : Int) ≤ 6 ∧ (6 : Int) < 394) (And.intro (⟨by decide, by decide⟩ : (0 : Int) ≤ 7 ∧ (7 : Int) < 394) (And.intro (⟨by decide, by decide⟩ : (0 : Int) ≤ 8 ∧ (8 : Int) < 394) (And.intro (⟨by decide, by decide⟩ : (0 : Int) ≤ 8 ∧ (8 : Int) < 394) (And.intro (⟨by decide, by decide⟩ : (0 : Int) ≤ 9 ∧ (9 : Int) < 394) (And.intro (⟨by decide, by decide⟩ : (0 : Int) ≤ 9 ∧ (9 : Int) < 394) (h223 _ _))))))))))))) (fun h223 => (mc162_86 h223.1 (fun v2 μ2 h224 => (have h225 := (h223.2 v2 μ2 h224); (mi_ite (fun h226 => (And.intro (⟨by decide, by decide⟩ : (0 : Int) ≤ 1 ∧ (1 : Int) < 394) (And.intro (⟨by decide, by decide⟩ : (0 : Int) ≤ 2 ∧ (2 : Int) < 394) (And.intro (⟨by decide, by decide⟩ : (0 : Int) ≤ 3 ∧ (3 : Int) < 394) (And.intro (⟨by decide, by decide⟩ : (0 : Int) ≤ 4 ∧ (4 : Int) < 394) (And.intro (⟨by decide, by decide⟩ : (0 : Int) ≤ 5 ∧ (5 : Int) < 394) (And.intro (⟨by decide, by decide⟩ : (0 : Int) ≤ 6 ∧ (6 : Int) < 394) (And.intro (⟨by decide, by decide⟩ : (0 : Int) ≤ 7 ∧ (7 : Int) < 394) (And.intro (⟨by decide, by decide⟩ : (0 : Int) ≤ 8 ∧ (8 : Int) < 394) (And.intro (⟨by decide, by decide⟩ : (0 : Int) ≤ 8 ∧ (8 : Int) < 394) (And.intro (⟨by decide, by decide⟩ : (0 : Int) ≤ 9 ∧ (9 : Int) < 394) (And.intro (⟨by decide, by decide⟩ : (0 : Int) ≤ 9 ∧ (9 : Int) < 394) (h226 _ _))))))))))))) (fun h226 => (And.intro (⟨by decide, by decide⟩ : (0 : Int) ≤ 1 ∧ (1 : Int) < 394) (And.intro (⟨by decide, by decide⟩ : (0 : Int) ≤ 2 ∧ (2 : Int) < 394) (And.intro (⟨by decide, by decide⟩ : (0 : Int) ≤ 3 ∧ (3 : Int) < 394) (And.intro (⟨by decide, by decide⟩ : (0 : Int) ≤ 4 ∧ (4 : Int) < 394) (And.intro (⟨by decide, by decide⟩ : (0 : Int) ≤ 5 ∧ (5 : Int) < 394) (And.intro (⟨by decide, by decide⟩ : (0 : Int) ≤ 6 ∧ (6 : Int) < 394) (And.intro (⟨by decide, by decide⟩ : (0 : Int) ≤ 7 ∧ (7 : Int) < 394) (And.intro (⟨by decide, by decide⟩ : (0 : Int) ≤ 8 ∧ (8 : Int) < 394) (And.intro (⟨by decide, by decide⟩ : (0 : Int) ≤ 8 ∧ (8 : Int) < 394) (And.intro (⟨by decide, by decide⟩ : (0 : Int) ≤ 9 ∧ (9 : Int) < 394) (And.intro (⟨by decide, by decide⟩ : (0 : Int) ≤ 9 ∧ (9 : Int) < 394) (h226 _ _))))))))))))) h225))))) h222))))) h219)))⟩) h)
theorem mh168_86_209 {X : mi_X} {Q : mi_R → mi_G → mi_M → Prop} {u : mi_U} {l2 l3 : Int} {μ : mi_M} (h :
  if mi_wr l2 = 0 then (
    if mi_wr l2 = 0 then (
      mk168_86_257 X Q u l2 l3 μ)
    else (
      if mi_wr (μ 86 11) = 0 then (
        mk168_86_257 X Q u l2 l3 μ)
      else (
        mk168_86_257 X Q u (mv159_86 1 (μ 86 9) μ) l3 (mm159_86 1 (μ 86 9) μ))))
  else (
    if mi_wr (μ 86 11) = mi_wr 2 then (
      mp158_86 μ ∧
      (∀ (μ0 : mi_M), mq158_86 μ μ0 →
      (7 ≤ (u).1 ∧ 49 ≤ (u).2) ∧
      mp167_86 μ0 ∧
      (∀ (v1 : Int) (μ1 : mi_M), mq167_86 μ0 v1 μ1 →
      mk168_86_209 X Q ((u).1 - 7, (u).2 - 49) v1 (l3 + 1) μ1)))
    else (
      if mi_wr l2 = 0 then (
        mk168_86_257 X Q u l2 l3 μ)
      else (
        if mi_wr (μ 86 11) = 0 then (
          mk168_86_257 X Q u l2 l3 μ)
        else (
          mk168_86_257 X Q u (mv159_86 1 (μ 86 9) μ) l3 (mm159_86 1 (μ 86 9) μ)))))) : mk168_86_209 X Q u l2 l3 μ :=
  fun o1 o4 => ms_run (stop := ms168_86) (by decide) rfl (fun _ _ _ _ _ _ h => h) 174 209 _ _ _ _ _ (mi_ite (fun h227 => (mi_ite (fun h228 => (h228 _ _)) (fun h228 => (mi_ite (fun h229 => (h229 _ _)) (fun h229 => (mc159_86 (h229 _ _))) h228)) h227)) (fun h227 => (mi_ite (fun h230 => (mc158_86 h230.1 (fun μ0 h231 => (have h232 := (h230.2 μ0 h231); ⟨(7, 49), h232.1, mc167_86 (h232.2).1 (fun v1 μ1 h233 => ((((h232.2).2) v1 μ1 h233) _ _))⟩)))) (fun h230 => (mi_ite (fun h235 => (h235 _ _)) (fun h235 => (mi_ite (fun h236 => (h236 _ _)) (fun h236 => (mc159_86 (h236 _ _))) h235)) h230)) h227)) h)
theorem mh168_86_257 {X : mi_X} {Q : mi_R → mi_G → mi_M → Prop} {u : mi_U} {l2 l3 : Int} {μ : mi_M} (h :
  if mi_wr l2 = 0 then (
    Q (.inl (some (.inl ((-2) - (μ 86 12))))) mi_G0 μ)
  else (
    mp148_86 μ ∧
    (∀ (μ0 : mi_M), mq148_86 μ μ0 →
    mk168_86_276 X Q u l3 0 μ0))) : mk168_86_257 X Q u l2 l3 μ :=
  fun o1 o4 => ms_run (stop := ms168_86) (by decide) rfl (fun _ _ _ _ _ _ h => h) 174 257 _ _ _ _ _ (mi_ite (fun h237 => h237) (fun h237 => (mc148_86 h237.1 (fun μ0 h238 => ((h237.2 μ0 h238) _ _)))) h)
theorem mh168_86_276 {X : mi_X} {Q : mi_R → mi_G → mi_M → Prop} {u : mi_U} {l3 l4 : Int} {μ : mi_M} (h :
  if mi_wr l4 < mi_wr 394 then (
    (0 ≤ l4 ∧ l4 < 394) ∧
    (0 ≤ l4 ∧ l4 < 394) ∧
    mk168_86_276 X Q u l3 (l4 + 1) (mi_set μ 87 l4 (μ 91 l4)))
  else (
    Q (.inl (some (.inl l3))) mi_G0 μ)) : mk168_86_276 X Q u l3 l4 μ :=
  fun o1 o2 => ms_run (stop := ms168_86) (by decide) rfl (fun _ _ _ _ _ _ h => h) 174 276 _ _ _ _ _ (mi_ite (fun h240 => (And.intro h240.1 (And.intro h240.2.1 (h240.2.2 _ _)))) (fun h240 => h240) h)
