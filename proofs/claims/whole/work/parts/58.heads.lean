/-! PRINTED by wip/whole/gen: heads of methods -/
-- TwoViews$Matcher.makeSums()V (66,)
noncomputable def mk40_66_2 (X : mi_X) (Q : mi_R → mi_G → mi_M → Prop) (u : mi_U) (l1 : Int) (μ : mi_M) : Prop := mi_ok X 40 mi_G0 Q 2 [some (.inr (.inl (some 66))), some (.inl l1)] [] mi_G0 μ u
noncomputable def mk40_66_24 (X : mi_X) (Q : mi_R → mi_G → mi_M → Prop) (u : mi_U) (l1 : Int) (μ : mi_M) : Prop := mi_ok X 40 mi_G0 Q 24 [some (.inr (.inl (some 66))), some (.inl l1)] [] mi_G0 μ u
def ms40_66 (pc : Nat) : Bool := Nat.beq pc 2 || Nat.beq pc 24
theorem me40_66 {X : mi_X} {Q : mi_R → mi_G → mi_M → Prop} {u : mi_U} {μ : mi_M} (h :
  mk40_66_2 X Q u 0 μ) : mi_cok X 40 [(.inr (.inl (some 66)))] mi_G0 μ u Q :=
  mi_enter (by decide) (by decide) rfl rfl (ms_run (stop := ms40_66) (by decide) rfl (fun _ _ _ _ _ _ h => h) 38 0 _ _ _ _ _ (h))
theorem mh40_66_2 {X : mi_X} {Q : mi_R → mi_G → mi_M → Prop} {u : mi_U} {l1 : Int} {μ : mi_M} (h :
  if mi_wr l1 < mi_wr 1536 then (
    (0 ≤ l1 ∧ l1 < 1536) ∧
    mk40_66_2 X Q u (l1 + 1) (mi_set μ 69 l1 0))
  else (
    mk40_66_24 X Q u 0 μ)) : mk40_66_2 X Q u l1 μ :=
  ms_run (stop := ms40_66) (by decide) rfl (fun _ _ _ _ _ _ h => h) 38 2 _ _ _ _ _ (mi_ite (fun h158 => (And.intro h158.1 (h158.2))) (fun h158 => (h158)) h)
theorem mh40_66_24 {X : mi_X} {Q : mi_R → mi_G → mi_M → Prop} {u : mi_U} {l1 : Int} {μ : mi_M} (h :
  if mi_wr l1 < mi_wr 8 then (
    if mi_wr (mi_and (mi_shr (μ 2 4) l1) 1) = mi_wr 1 then (
      mp42_66 l1 μ ∧
      (∀ (μ0 : mi_M), mq42_66 l1 μ μ0 →
      mp41_66 μ0 ∧
      (∀ (μ1 : mi_M), mq41_66 μ0 μ1 →
      mk40_66_24 X Q u (l1 + 1) μ1)))
    else (
      mk40_66_24 X Q u (l1 + 1) μ))
  else (
    Q (.inl none) mi_G0 μ)) : mk40_66_24 X Q u l1 μ :=
  ms_run (stop := ms40_66) (by decide) rfl (fun _ _ _ _ _ _ h => h) 38 24 _ _ _ _ _ (mi_ite (fun h159 => (And.intro (⟨by decide, by decide⟩ : (0 : Int) ≤ 4 ∧ (4 : Int) < 8) (mi_ite (fun h160 => (mc42_66 h160.1 (fun μ0 h161 => (have h162 := (h160.2 μ0 h161); (mc41_66 h162.1 (fun μ1 h163 => ((h162.2 μ1 h163)))))))) (fun h160 => (h160)) h159))) (fun h159 => h159) h)
-- TwoViews$Maps.makeShifts()V (71,)
noncomputable def mk12_71_2 (X : mi_X) (Q : mi_R → mi_G → mi_M → Prop) (u : mi_U) (l1 : Int) (μ : mi_M) : Prop := ∀ o2 : Option mi_V, mi_ok X 12 mi_G0 Q 2 [some (.inr (.inl (some 71))), some (.inl l1), o2] [] mi_G0 μ u
noncomputable def mk12_71_15 (X : mi_X) (Q : mi_R → mi_G → mi_M → Prop) (u : mi_U) (l1 l2 : Int) (μ : mi_M) : Prop := mi_ok X 12 mi_G0 Q 15 [some (.inr (.inl (some 71))), some (.inl l1), some (.inl l2)] [] mi_G0 μ u
def ms12_71 (pc : Nat) : Bool := Nat.beq pc 2 || Nat.beq pc 15
theorem me12_71 {X : mi_X} {Q : mi_R → mi_G → mi_M → Prop} {u : mi_U} {μ : mi_M} (h :
  mk12_71_2 X Q u 0 μ) : mi_cok X 12 [(.inr (.inl (some 71)))] mi_G0 μ u Q :=
  mi_enter (by decide) (by decide) rfl rfl (ms_run (stop := ms12_71) (by decide) rfl (fun _ _ _ _ _ _ h => h) 43 0 _ _ _ _ _ (h _))
theorem mh12_71_2 {X : mi_X} {Q : mi_R → mi_G → mi_M → Prop} {u : mi_U} {l1 : Int} {μ : mi_M} (h :
  if mi_wr l1 < mi_wr (μ 1 1) then (
    mk12_71_15 X Q u l1 0 μ)
  else (
    Q (.inl none) mi_G0 μ)) : mk12_71_2 X Q u l1 μ :=
  fun o2 => ms_run (stop := ms12_71) (by decide) rfl (fun _ _ _ _ _ _ h => h) 43 2 _ _ _ _ _ (mi_ite (fun h165 => (h165)) (fun h165 => h165) h)
theorem mh12_71_15 {X : mi_X} {Q : mi_R → mi_G → mi_M → Prop} {u : mi_U} {l1 l2 : Int} {μ : mi_M} (h :
  if mi_wr l2 < mi_wr (μ 1 0) then (
    mp13_71 l2 l1 μ ∧
    (0 ≤ (mv136 0 l2 l1 μ) ∧ (mv136 0 l2 l1 μ) < 384) ∧
    mp14_71 l2 l1 (mi_set μ 72 (mv136 0 l2 l1 μ) (mv13_71 l2 l1 μ)) ∧
    (0 ≤ (mv136 1 l2 l1 (mi_set μ 72 (mv136 0 l2 l1 μ) (mv13_71 l2 l1 μ))) ∧ (mv136 1 l2 l1 (mi_set μ 72 (mv136 0 l2 l1 μ) (mv13_71 l2 l1 μ))) < 384) ∧
    mk12_71_15 X Q u l1 (l2 + 1) (mi_set (mi_set μ 72 (mv136 0 l2 l1 μ) (mv13_71 l2 l1 μ)) 72 (mv136 1 l2 l1 (mi_set μ 72 (mv136 0 l2 l1 μ) (mv13_71 l2 l1 μ))) (mv14_71 l2 l1 (mi_set μ 72 (mv136 0 l2 l1 μ) (mv13_71 l2 l1 μ)))))
  else (
    mk12_71_2 X Q u (l1 + 1) μ)) : mk12_71_15 X Q u l1 l2 μ :=
  ms_run (stop := ms12_71) (by decide) rfl (fun _ _ _ _ _ _ h => h) 43 15 _ _ _ _ _ (mi_ite (fun h166 => (mc136 (mc13_71 h166.1 (And.intro h166.2.1 (mc136 (mc14_71 h166.2.2.1 (And.intro h166.2.2.2.1 (h166.2.2.2.2)))))))) (fun h166 => (h166 _)) h)
-- TwoViewsModel.laysShifts()V (86,)
noncomputable def mk206_86_6 (X : mi_X) (Q : mi_R → mi_G → mi_M → Prop) (u : mi_U) (l1 : Int) (μ : mi_M) : Prop := ∀ o2 : Option mi_V, mi_ok X 206 mi_G0 Q 6 [some (.inr (.inl (some 86))), some (.inl l1), o2] [] mi_G0 μ u
noncomputable def mk206_86_18 (X : mi_X) (Q : mi_R → mi_G → mi_M → Prop) (u : mi_U) (l1 l2 : Int) (μ : mi_M) : Prop := mi_ok X 206 mi_G0 Q 18 [some (.inr (.inl (some 86))), some (.inl l1), some (.inl l2)] [] mi_G0 μ u
def ms206_86 (pc : Nat) : Bool := Nat.beq pc 6 || Nat.beq pc 18
theorem me206_86 {X : mi_X} {Q : mi_R → mi_G → mi_M → Prop} {u : mi_U} {μ : mi_M} (h :
  mp201_86 μ ∧
  (∀ (μ0 : mi_M), mq201_86 μ μ0 →
  mk206_86_6 X Q u 0 μ0)) : mi_cok X 206 [(.inr (.inl (some 86)))] mi_G0 μ u Q :=
  mi_enter (by decide) (by decide) rfl rfl (ms_run (stop := ms206_86) (by decide) rfl (fun _ _ _ _ _ _ h => h) 47 0 _ _ _ _ _ (mc201_86 h.1 (fun μ0 h167 => ((h.2 μ0 h167) _))))
theorem mh206_86_6 {X : mi_X} {Q : mi_R → mi_G → mi_M → Prop} {u : mi_U} {l1 : Int} {μ : mi_M} (h :
  if mi_wr l1 < mi_wr (μ 87 1) then (
    mk206_86_18 X Q u l1 0 μ)
  else (
    Q (.inl none) mi_G0 μ)) : mk206_86_6 X Q u l1 μ :=
  fun o2 => ms_run (stop := ms206_86) (by decide) rfl (fun _ _ _ _ _ _ h => h) 47 6 _ _ _ _ _ (And.intro (⟨by decide, by decide⟩ : (0 : Int) ≤ 1 ∧ (1 : Int) < 394) (mi_ite (fun h169 => (h169)) (fun h169 => h169) h))
theorem mh206_86_18 {X : mi_X} {Q : mi_R → mi_G → mi_M → Prop} {u : mi_U} {l1 l2 : Int} {μ : mi_M} (h :
  if mi_wr l2 < mi_wr (μ 87 0) then (
    mp204_86 l2 l1 μ ∧
    (0 ≤ (mv185 0 l2 l1 μ) ∧ (mv185 0 l2 l1 μ) < 384) ∧
    mp205_86 l2 l1 (mi_set μ 95 (mv185 0 l2 l1 μ) (mv204_86 l2 l1 μ)) ∧
    (0 ≤ (mv185 1 l2 l1 (mi_set μ 95 (mv185 0 l2 l1 μ) (mv204_86 l2 l1 μ))) ∧ (mv185 1 l2 l1 (mi_set μ 95 (mv185 0 l2 l1 μ) (mv204_86 l2 l1 μ))) < 384) ∧
    mk206_86_18 X Q u l1 (l2 + 1) (mi_set (mi_set μ 95 (mv185 0 l2 l1 μ) (mv204_86 l2 l1 μ)) 95 (mv185 1 l2 l1 (mi_set μ 95 (mv185 0 l2 l1 μ) (mv204_86 l2 l1 μ))) (mv205_86 l2 l1 (mi_set μ 95 (mv185 0 l2 l1 μ) (mv204_86 l2 l1 μ)))))
  else (
    mk206_86_6 X Q u (l1 + 1) μ)) : mk206_86_18 X Q u l1 l2 μ :=
  ms_run (stop := ms206_86) (by decide) rfl (fun _ _ _ _ _ _ h => h) 47 18 _ _ _ _ _ (And.intro (⟨by decide, by decide⟩ : (0 : Int) ≤ 0 ∧ (0 : Int) < 394) (mi_ite (fun h170 => (mc185 (mc204_86 h170.1 (And.intro h170.2.1 (mc185 (mc205_86 h170.2.2.1 (And.intro h170.2.2.2.1 (h170.2.2.2.2)))))))) (fun h170 => (h170 _)) h))
-- TwoViews$Maps.kindBySight(III)I (71,)
noncomputable def mk18_71_55 (X : mi_X) (Q : mi_R → mi_G → mi_M → Prop) (u : mi_U) (l1 l2 l3 l6 : Int) (μ : mi_M) : Prop := ∀ o4 o5 : Option mi_V, mi_ok X 18 mi_G0 Q 55 [some (.inr (.inl (some 71))), some (.inl l1), some (.inl l2), some (.inl l3), o4, o5, some (.inl l6)] [] mi_G0 μ u
def ms18_71 (pc : Nat) : Bool := Nat.beq pc 55
theorem me18_71 {X : mi_X} {Q : mi_R → mi_G → mi_M → Prop} {u : mi_U} {a0 a1 a2 : Int} {μ : mi_M} (h :
  (0 ≤ (mv136 a0 a1 a2 μ) ∧ (mv136 a0 a1 a2 μ) < 384) ∧
  mp19_71 a0 a1 a2 (μ 72 (mv136 a0 a1 a2 μ)) μ ∧
  if mi_wr (mv19_71 a0 a1 a2 (μ 72 (mv136 a0 a1 a2 μ)) μ) = mi_wr (-1) then (
    mk18_71_55 X Q u a0 a1 a2 0 μ)
  else (
    if mi_wr (μ 2 5) < mi_wr (mv258 ((mv19_71 a0 a1 a2 (μ 72 (mv136 a0 a1 a2 μ)) μ) - (μ 72 (mv136 a0 a1 a2 μ))) μ) then (
      mk18_71_55 X Q u a0 a1 a2 0 μ)
    else (
      Q (.inl (some (.inl 0))) mi_G0 μ))) : mi_cok X 18 [(.inr (.inl (some 71))), (.inl a0), (.inl a1), (.inl a2)] mi_G0 μ u Q :=
  mi_enter (by decide) (by decide) rfl rfl (ms_run (stop := ms18_71) (by decide) rfl (fun _ _ _ _ _ _ h => h) 55 0 _ _ _ _ _ (mc136 (And.intro h.1 (mc19_71 h.2.1 (mi_ite (fun h171 => (h171 _ _)) (fun h171 => (mc258 (And.intro (⟨by decide, by decide⟩ : (0 : Int) ≤ 5 ∧ (5 : Int) < 8) (mi_ite (fun h172 => (h172 _ _)) (fun h172 => h172) h171)))) h.2.2)))))
theorem mh18_71_55 {X : mi_X} {Q : mi_R → mi_G → mi_M → Prop} {u : mi_U} {l1 l2 l3 l6 : Int} {μ : mi_M} (h :
  if mi_wr (μ 2 0) < mi_wr l6 then (
    Q (.inl (some (.inl 2))) mi_G0 μ)
  else (
    mp19_71 l1 l2 l3 l6 μ ∧
    if mi_wr (mv19_71 l1 l2 l3 l6 μ) = mi_wr l6 then (
      Q (.inl (some (.inl 1))) mi_G0 μ)
    else (
      mk18_71_55 X Q u l1 l2 l3 (l6 + 1) μ))) : mk18_71_55 X Q u l1 l2 l3 l6 μ :=
  fun o4 o5 => ms_run (stop := ms18_71) (by decide) rfl (fun _ _ _ _ _ _ h => h) 55 55 _ _ _ _ _ (And.intro (⟨by decide, by decide⟩ : (0 : Int) ≤ 0 ∧ (0 : Int) < 8) (mi_ite (fun h173 => h173) (fun h173 => (mc19_71 h173.1 (mi_ite (fun h174 => h174) (fun h174 => (h174 _ _)) h173.2))) h))
-- TwoViewsModel.kindAt(III)I (86,)
noncomputable def mk208_86_79 (X : mi_X) (Q : mi_R → mi_G → mi_M → Prop) (u : mi_U) (l1 l2 l3 l6 : Int) (μ : mi_M) : Prop := ∀ o4 o5 o7 : Option mi_V, mi_ok X 208 mi_G0 Q 79 [some (.inr (.inl (some 86))), some (.inl l1), some (.inl l2), some (.inl l3), o4, o5, some (.inl l6), o7] [] mi_G0 μ u
def ms208_86 (pc : Nat) : Bool := Nat.beq pc 79
theorem me208_86 {X : mi_X} {Q : mi_R → mi_G → mi_M → Prop} {u : mi_U} {a0 a1 a2 : Int} {μ : mi_M} (h :
  (0 ≤ (mv185 a0 a1 a2 μ) ∧ (mv185 a0 a1 a2 μ) < 384) ∧
  if mi_wr (mv150_86 (mv207 a0 a1 (μ 95 (mv185 a0 a1 a2 μ)) μ) a2 μ) = 0 then (
    mk208_86_79 X Q u a0 a1 a2 0 μ)
  else (
    (0 ≤ (mv185 (1 - a0) (mv207 a0 a1 (μ 95 (mv185 a0 a1 a2 μ)) μ) a2 μ) ∧ (mv185 (1 - a0) (mv207 a0 a1 (μ 95 (mv185 a0 a1 a2 μ)) μ) a2 μ) < 384) ∧
    if mi_wr (mv144 ((μ 95 (mv185 (1 - a0) (mv207 a0 a1 (μ 95 (mv185 a0 a1 a2 μ)) μ) a2 μ)) - (μ 95 (mv185 a0 a1 a2 μ))) (-(μ 87 7)) (μ 87 7) μ) = 0 then (
      mk208_86_79 X Q u a0 a1 a2 0 μ)
    else (
      Q (.inl (some (.inl 0))) mi_G0 μ))) : mi_cok X 208 [(.inr (.inl (some 86))), (.inl a0), (.inl a1), (.inl a2)] mi_G0 μ u Q :=
  mi_enter (by decide) (by decide) rfl rfl (ms_run (stop := ms208_86) (by decide) rfl (fun _ _ _ _ _ _ h => h) 81 0 _ _ _ _ _ (mc185 (And.intro h.1 (mc207 (mc150_86 (mi_ite (fun h175 => (h175 _ _ _)) (fun h175 => (mc185 (And.intro h175.1 (And.intro (⟨by decide, by decide⟩ : (0 : Int) ≤ 7 ∧ (7 : Int) < 394) (And.intro (⟨by decide, by decide⟩ : (0 : Int) ≤ 7 ∧ (7 : Int) < 394) (mc144 (mi_ite (fun h176 => (h176 _ _ _)) (fun h176 => h176) h175.2))))))) h.2))))))
theorem mh208_86_79 {X : mi_X} {Q : mi_R → mi_G → mi_M → Prop} {u : mi_U} {l1 l2 l3 l6 : Int} {μ : mi_M} (h :
  if mi_wr (μ 87 2) < mi_wr l6 then (
    Q (.inl (some (.inl 2))) mi_G0 μ)
  else (
    if mi_wr (mv150_86 (mv207 l1 l2 l6 μ) l3 μ) = 0 then (
      mk208_86_79 X Q u l1 l2 l3 (l6 + 1) μ)
    else (
      (0 ≤ (mv185 (1 - l1) (mv207 l1 l2 l6 μ) l3 μ) ∧ (mv185 (1 - l1) (mv207 l1 l2 l6 μ) l3 μ) < 384) ∧
      if mi_wr (μ 95 (mv185 (1 - l1) (mv207 l1 l2 l6 μ) l3 μ)) = mi_wr l6 then (
        Q (.inl (some (.inl 1))) mi_G0 μ)
      else (
        mk208_86_79 X Q u l1 l2 l3 (l6 + 1) μ)))) : mk208_86_79 X Q u l1 l2 l3 l6 μ :=
  fun o4 o5 o7 => ms_run (stop := ms208_86) (by decide) rfl (fun _ _ _ _ _ _ h => h) 81 79 _ _ _ _ _ (And.intro (⟨by decide, by decide⟩ : (0 : Int) ≤ 2 ∧ (2 : Int) < 394) (mi_ite (fun h177 => h177) (fun h177 => (mc207 (mc150_86 (mi_ite (fun h178 => (h178 _ _ _)) (fun h178 => (mc185 (And.intro h178.1 (mi_ite (fun h179 => h179) (fun h179 => (h179 _ _ _)) h178.2)))) h177)))) h))
