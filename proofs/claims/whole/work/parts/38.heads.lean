/-! PRINTED by wip/whole/gen/mk38.py -/
-- TwoViewsModel.costAt(III)I (86,)
noncomputable def mp192_86 (a0 : Int) (a1 : Int) (a2 : Int) (μ : mi_M) : Prop := (if mi_wr a0 < mi_wr a2 then True else ((0 ≤ (mv185 0 a0 a1 μ) ∧ (mv185 0 a0 a1 μ) < 384) ∧ ((0 ≤ (mv185 1 (a0 - a2) a1 μ) ∧ (mv185 1 (a0 - a2) a1 μ) < 384) ∧ (mp191 (mi_xor (μ 92 (mv185 0 a0 a1 μ)) (μ 92 (mv185 1 (a0 - a2) a1 μ))) μ))))
noncomputable def mv192_86 (a0 : Int) (a1 : Int) (a2 : Int) (μ : mi_M) : Int := (if mi_wr a0 < mi_wr a2 then (if mi_wr (μ 87 3) = mi_wr 1 then 8 else 24) else (mv191 (mi_xor (μ 92 (mv185 0 a0 a1 μ)) (μ 92 (mv185 1 (a0 - a2) a1 μ))) μ))
theorem mc192_86 {X : mi_X} {Q : mi_R → mi_G → mi_M → Prop} {u : mi_U} {a0 a1 a2 : Int} {μ : mi_M} (hp : mp192_86 a0 a1 a2 μ) (hq : Q (.inl (some (.inl (mv192_86 a0 a1 a2 μ)))) mi_G0 μ) : mi_cok X 192 [(.inr (.inl (some 86))), (.inl a0), (.inl a1), (.inl a2)] mi_G0 μ u Q :=
  mi_enter (by decide) (by decide) rfl rfl (ms_run (stop := fun _ => false) (by decide) rfl (fun _ _ _ _ _ _ h => h) 34 0 _ _ _ _ _ (mi_dt (fun h156 => (have p156 := Eq.mp (if_pos h156) hp; (And.intro (⟨by decide, by decide⟩ : (0 : Int) ≤ 3 ∧ (3 : Int) < 394) (mi_dt (fun h157 => (mi_tr (Eq.trans (if_pos h156) (if_pos h157)) rfl hq)) (fun h157 => (mi_tr (Eq.trans (if_pos h156) (if_neg h157)) rfl hq)))))) (fun h156 => (have p157 := Eq.mp (if_neg h156) hp; (mc185 (And.intro p157.1 (mc185 (And.intro p157.2.1 (mc191 p157.2.2 (mi_tr (if_neg h156) rfl hq))))))))))
-- TwoViews$Matcher.makeCosts()V (66,)
noncomputable def mk34_66_2 (X : mi_X) (Q : mi_R → mi_G → mi_M → Prop) (u : mi_U) (l1 : Int) (μ : mi_M) : Prop := ∀ o2 o3 : Option mi_V, mi_ok X 34 mi_G0 Q 2 [some (.inr (.inl (some 66))), some (.inl l1), o2, o3] [] mi_G0 μ u
noncomputable def mk34_66_15 (X : mi_X) (Q : mi_R → mi_G → mi_M → Prop) (u : mi_U) (l1 l2 : Int) (μ : mi_M) : Prop := ∀ o3 : Option mi_V, mi_ok X 34 mi_G0 Q 15 [some (.inr (.inl (some 66))), some (.inl l1), some (.inl l2), o3] [] mi_G0 μ u
noncomputable def mk34_66_28 (X : mi_X) (Q : mi_R → mi_G → mi_M → Prop) (u : mi_U) (l1 l2 l3 : Int) (μ : mi_M) : Prop := mi_ok X 34 mi_G0 Q 28 [some (.inr (.inl (some 66))), some (.inl l1), some (.inl l2), some (.inl l3)] [] mi_G0 μ u
def ms34_66 (pc : Nat) : Bool := Nat.beq pc 2 || Nat.beq pc 15 || Nat.beq pc 28
theorem me34_66 {X : mi_X} {Q : mi_R → mi_G → mi_M → Prop} {u : mi_U} {μ : mi_M} (h :
  mk34_66_2 X Q u 0 μ) : mi_cok X 34 [(.inr (.inl (some 66)))] mi_G0 μ u Q :=
  mi_enter (by decide) (by decide) rfl rfl (ms_run (stop := ms34_66) (by decide) rfl (fun _ _ _ _ _ _ h => h) 40 0 _ _ _ _ _ (h _ _))
theorem mh34_66_2 {X : mi_X} {Q : mi_R → mi_G → mi_M → Prop} {u : mi_U} {l1 : Int} {μ : mi_M} (h :
  if mi_wr l1 < mi_wr (μ 1 1) then (
    mk34_66_15 X Q u l1 0 μ)
  else (
    Q (.inl none) mi_G0 μ)) : mk34_66_2 X Q u l1 μ :=
  fun o2 o3 => ms_run (stop := ms34_66) (by decide) rfl (fun _ _ _ _ _ _ h => h) 40 2 _ _ _ _ _ (mi_ite (fun h158 => (h158 _)) (fun h158 => h158) h)
theorem mh34_66_15 {X : mi_X} {Q : mi_R → mi_G → mi_M → Prop} {u : mi_U} {l1 l2 : Int} {μ : mi_M} (h :
  if mi_wr l2 < mi_wr (μ 1 0) then (
    mk34_66_28 X Q u l1 l2 0 μ)
  else (
    mk34_66_2 X Q u (l1 + 1) μ)) : mk34_66_15 X Q u l1 l2 μ :=
  fun o3 => ms_run (stop := ms34_66) (by decide) rfl (fun _ _ _ _ _ _ h => h) 40 15 _ _ _ _ _ (mi_ite (fun h159 => (h159)) (fun h159 => (h159 _ _)) h)
theorem mh34_66_28 {X : mi_X} {Q : mi_R → mi_G → mi_M → Prop} {u : mi_U} {l1 l2 l3 : Int} {μ : mi_M} (h :
  if mi_wr l3 < mi_wr 8 then (
    mp35_66 l2 l1 l3 μ ∧
    (0 ≤ (mv137 l2 l1 l3 μ) ∧ (mv137 l2 l1 l3 μ) < 1536) ∧
    mk34_66_28 X Q u l1 l2 (l3 + 1) (mi_set μ 68 (mv137 l2 l1 l3 μ) (mv35_66 l2 l1 l3 μ)))
  else (
    mk34_66_15 X Q u l1 (l2 + 1) μ)) : mk34_66_28 X Q u l1 l2 l3 μ :=
  ms_run (stop := ms34_66) (by decide) rfl (fun _ _ _ _ _ _ h => h) 40 28 _ _ _ _ _ (mi_ite (fun h160 => (mc137 (mc35_66 h160.1 (And.intro h160.2.1 (h160.2.2))))) (fun h160 => (h160 _)) h)
-- TwoViews$Matcher.unlikeCodes(I)I (66,)
noncomputable def mk37_66_4 (X : mi_X) (Q : mi_R → mi_G → mi_M → Prop) (u : mi_U) (l1 l2 l3 : Int) (μ : mi_M) : Prop := ∀ o4 : Option mi_V, mi_ok X 37 mi_G0 Q 4 [some (.inr (.inl (some 66))), some (.inl l1), some (.inl l2), some (.inl l3), o4] [] mi_G0 μ u
noncomputable def mk37_66_18 (X : mi_X) (Q : mi_R → mi_G → mi_M → Prop) (u : mi_U) (l1 l2 l3 l4 : Int) (μ : mi_M) : Prop := mi_ok X 37 mi_G0 Q 18 [some (.inr (.inl (some 66))), some (.inl l1), some (.inl l2), some (.inl l3), some (.inl l4)] [] mi_G0 μ u
def ms37_66 (pc : Nat) : Bool := Nat.beq pc 4 || Nat.beq pc 18
theorem me37_66 {X : mi_X} {Q : mi_R → mi_G → mi_M → Prop} {u : mi_U} {a0 : Int} {μ : mi_M} (h :
  mk37_66_4 X Q u a0 0 0 μ) : mi_cok X 37 [(.inr (.inl (some 66))), (.inl a0)] mi_G0 μ u Q :=
  mi_enter (by decide) (by decide) rfl rfl (ms_run (stop := ms37_66) (by decide) rfl (fun _ _ _ _ _ _ h => h) 36 0 _ _ _ _ _ (h _))
theorem mh37_66_4 {X : mi_X} {Q : mi_R → mi_G → mi_M → Prop} {u : mi_U} {l1 l2 l3 : Int} {μ : mi_M} (h :
  if mi_wr l3 < mi_wr (μ 1 1) then (
    mk37_66_18 X Q u l1 l2 l3 0 μ)
  else (
    Q (.inl (some (.inl l2))) mi_G0 μ)) : mk37_66_4 X Q u l1 l2 l3 μ :=
  fun o4 => ms_run (stop := ms37_66) (by decide) rfl (fun _ _ _ _ _ _ h => h) 36 4 _ _ _ _ _ (mi_ite (fun h161 => (h161)) (fun h161 => h161) h)
theorem mh37_66_18 {X : mi_X} {Q : mi_R → mi_G → mi_M → Prop} {u : mi_U} {l1 l2 l3 l4 : Int} {μ : mi_M} (h :
  if mi_wr l4 < mi_wr (μ 1 0) then (
    mp38_66 l1 l4 l3 μ ∧
    mk37_66_18 X Q u l1 (if mi_wr (mv38_66 l1 l4 l3 μ) = 0 then (l2 + 1) else (l2 + 0)) l3 (l4 + 1) μ)
  else (
    mk37_66_4 X Q u l1 l2 (l3 + 1) μ)) : mk37_66_18 X Q u l1 l2 l3 l4 μ :=
  ms_run (stop := ms37_66) (by decide) rfl (fun _ _ _ _ _ _ h => h) 36 18 _ _ _ _ _ (mi_ite (fun h162 => (mc38_66 h162.1 (mi_dt (fun h163 => ((mi_mp (P := fun z => mk37_66_18 X Q u l1 z l3 (l4 + 1) μ) h163 h162.2))) (fun h163 => ((mi_mn (P := fun z => mk37_66_18 X Q u l1 z l3 (l4 + 1) μ) h163 h162.2)))))) (fun h162 => (h162 _)) h)
-- TwoViewsModel.same(III)I (86,)
noncomputable def mk188_86_51 (X : mi_X) (Q : mi_R → mi_G → mi_M → Prop) (u : mi_U) (l4 l5 l6 : Int) (μ : mi_M) : Prop := ∀ o1 o2 o3 o7 : Option mi_V, mi_ok X 188 mi_G0 Q 51 [some (.inr (.inl (some 86))), o1, o2, o3, some (.inl l4), some (.inl l5), some (.inl l6), o7] [] mi_G0 μ u
noncomputable def mk188_86_65 (X : mi_X) (Q : mi_R → mi_G → mi_M → Prop) (u : mi_U) (l4 l5 l6 l7 : Int) (μ : mi_M) : Prop := ∀ o1 o2 o3 : Option mi_V, mi_ok X 188 mi_G0 Q 65 [some (.inr (.inl (some 86))), o1, o2, o3, some (.inl l4), some (.inl l5), some (.inl l6), some (.inl l7)] [] mi_G0 μ u
def ms188_86 (pc : Nat) : Bool := Nat.beq pc 51 || Nat.beq pc 65
theorem me188_86 {X : mi_X} {Q : mi_R → mi_G → mi_M → Prop} {u : mi_U} {a0 a1 a2 : Int} {μ : mi_M} (h :
  if mi_wr (mv151_86 a0 a1 a2 μ) = 0 then (
    Q (.inl (some (.inl 0))) mi_G0 (mi_set μ 86 0 1))
  else (
    mp186_86 (mi_set μ 86 0 0) ∧
    (∀ (μ0 : mi_M), mq186_86 (mi_set μ 86 0 0) μ0 →
    (0 ≤ (mv185 a0 a1 a2 μ0) ∧ (mv185 a0 a1 a2 μ0) < 384) ∧
    mk188_86_51 X Q u (μ0 92 (mv185 a0 a1 a2 μ0)) 0 0 μ0))) : mi_cok X 188 [(.inr (.inl (some 86))), (.inl a0), (.inl a1), (.inl a2)] mi_G0 μ u Q :=
  mi_enter (by decide) (by decide) rfl rfl (ms_run (stop := ms188_86) (by decide) rfl (fun _ _ _ _ _ _ h => h) 82 0 _ _ _ _ _ (mc151_86 (mi_ite (fun h164 => h164) (fun h164 => (mc186_86 h164.1 (fun μ0 h165 => (have h166 := (h164.2 μ0 h165); (mc185 (And.intro h166.1 (h166.2 _ _ _ _))))))) h)))
theorem mh188_86_51 {X : mi_X} {Q : mi_R → mi_G → mi_M → Prop} {u : mi_U} {l4 l5 l6 : Int} {μ : mi_M} (h :
  if mi_wr l6 < mi_wr (μ 87 1) then (
    mk188_86_65 X Q u l4 l5 l6 0 μ)
  else (
    Q (.inl (some (.inl l5))) mi_G0 μ)) : mk188_86_51 X Q u l4 l5 l6 μ :=
  fun o1 o2 o3 o7 => ms_run (stop := ms188_86) (by decide) rfl (fun _ _ _ _ _ _ h => h) 82 51 _ _ _ _ _ (And.intro (⟨by decide, by decide⟩ : (0 : Int) ≤ 1 ∧ (1 : Int) < 394) (mi_ite (fun h167 => (h167 _ _ _)) (fun h167 => h167) h))
theorem mh188_86_65 {X : mi_X} {Q : mi_R → mi_G → mi_M → Prop} {u : mi_U} {l4 l5 l6 l7 : Int} {μ : mi_M} (h :
  if mi_wr l7 < mi_wr (μ 87 0) then (
    (0 ≤ (mv185 0 l7 l6 μ) ∧ (mv185 0 l7 l6 μ) < 384) ∧
    if mi_wr (μ 92 (mv185 0 l7 l6 μ)) = mi_wr l4 then (
      (0 ≤ (mv185 1 l7 l6 μ) ∧ (mv185 1 l7 l6 μ) < 384) ∧
      mk188_86_65 X Q u l4 (if mi_wr (μ 92 (mv185 1 l7 l6 μ)) = mi_wr l4 then ((l5 + 1) + 1) else ((l5 + 1) + 0)) l6 (l7 + 1) μ)
    else (
      (0 ≤ (mv185 1 l7 l6 μ) ∧ (mv185 1 l7 l6 μ) < 384) ∧
      mk188_86_65 X Q u l4 (if mi_wr (μ 92 (mv185 1 l7 l6 μ)) = mi_wr l4 then ((l5 + 0) + 1) else ((l5 + 0) + 0)) l6 (l7 + 1) μ))
  else (
    mk188_86_51 X Q u l4 l5 (l6 + 1) μ)) : mk188_86_65 X Q u l4 l5 l6 l7 μ :=
  fun o1 o2 o3 => ms_run (stop := ms188_86) (by decide) rfl (fun _ _ _ _ _ _ h => h) 82 65 _ _ _ _ _ (And.intro (⟨by decide, by decide⟩ : (0 : Int) ≤ 0 ∧ (0 : Int) < 394) (mi_ite (fun h168 => (mc185 (And.intro h168.1 (mi_ite (fun h169 => (mc185 (And.intro h169.1 (mi_dt (fun h170 => ((mi_mp (P := fun z => mk188_86_65 X Q u l4 z l6 (l7 + 1) μ) h170 h169.2) _ _ _)) (fun h170 => ((mi_mn (P := fun z => mk188_86_65 X Q u l4 z l6 (l7 + 1) μ) h170 h169.2) _ _ _)))))) (fun h169 => (mc185 (And.intro h169.1 (mi_dt (fun h171 => ((mi_mp (P := fun z => mk188_86_65 X Q u l4 z l6 (l7 + 1) μ) h171 h169.2) _ _ _)) (fun h171 => ((mi_mn (P := fun z => mk188_86_65 X Q u l4 z l6 (l7 + 1) μ) h171 h169.2) _ _ _)))))) h168.2)))) (fun h168 => (h168 _ _ _ _)) h))
-- TwoViewsModel.codes(I)I (86,)
noncomputable def mk190_86_24 (X : mi_X) (Q : mi_R → mi_G → mi_M → Prop) (u : mi_U) (l1 l2 l3 : Int) (μ : mi_M) : Prop := ∀ o4 : Option mi_V, mi_ok X 190 mi_G0 Q 24 [some (.inr (.inl (some 86))), some (.inl l1), some (.inl l2), some (.inl l3), o4] [] mi_G0 μ u
noncomputable def mk190_86_37 (X : mi_X) (Q : mi_R → mi_G → mi_M → Prop) (u : mi_U) (l1 l2 l3 l4 : Int) (μ : mi_M) : Prop := mi_ok X 190 mi_G0 Q 37 [some (.inr (.inl (some 86))), some (.inl l1), some (.inl l2), some (.inl l3), some (.inl l4)] [] mi_G0 μ u
def ms190_86 (pc : Nat) : Bool := Nat.beq pc 24 || Nat.beq pc 37
theorem me190_86 {X : mi_X} {Q : mi_R → mi_G → mi_M → Prop} {u : mi_U} {a0 : Int} {μ : mi_M} (h :
  if mi_wr (mv144 a0 0 1 (mi_set μ 86 0 0)) = 0 then (
    Q (.inl (some (.inl (-1)))) mi_G0 (mi_set μ 86 0 0))
  else (
    mp186_86 (mi_set μ 86 0 0) ∧
    (∀ (μ0 : mi_M), mq186_86 (mi_set μ 86 0 0) μ0 →
    mk190_86_24 X Q u a0 0 0 μ0))) : mi_cok X 190 [(.inr (.inl (some 86))), (.inl a0)] mi_G0 μ u Q :=
  mi_enter (by decide) (by decide) rfl rfl (ms_run (stop := ms190_86) (by decide) rfl (fun _ _ _ _ _ _ h => h) 50 0 _ _ _ _ _ (mc144 (mi_ite (fun h172 => h172) (fun h172 => (mc186_86 h172.1 (fun μ0 h173 => ((h172.2 μ0 h173) _)))) h)))
theorem mh190_86_24 {X : mi_X} {Q : mi_R → mi_G → mi_M → Prop} {u : mi_U} {l1 l2 l3 : Int} {μ : mi_M} (h :
  if mi_wr l3 < mi_wr (μ 87 1) then (
    mk190_86_37 X Q u l1 l2 l3 0 μ)
  else (
    Q (.inl (some (.inl l2))) mi_G0 μ)) : mk190_86_24 X Q u l1 l2 l3 μ :=
  fun o4 => ms_run (stop := ms190_86) (by decide) rfl (fun _ _ _ _ _ _ h => h) 50 24 _ _ _ _ _ (And.intro (⟨by decide, by decide⟩ : (0 : Int) ≤ 1 ∧ (1 : Int) < 394) (mi_ite (fun h175 => (h175)) (fun h175 => h175) h))
theorem mh190_86_37 {X : mi_X} {Q : mi_R → mi_G → mi_M → Prop} {u : mi_U} {l1 l2 l3 l4 : Int} {μ : mi_M} (h :
  if mi_wr l4 < mi_wr (μ 87 0) then (
    mp189_86 l1 l4 l3 μ ∧
    mk190_86_37 X Q u l1 (if mi_wr (mv189_86 l1 l4 l3 μ) = 0 then (l2 + 0) else (l2 + 1)) l3 (l4 + 1) μ)
  else (
    mk190_86_24 X Q u l1 l2 (l3 + 1) μ)) : mk190_86_37 X Q u l1 l2 l3 l4 μ :=
  ms_run (stop := ms190_86) (by decide) rfl (fun _ _ _ _ _ _ h => h) 50 37 _ _ _ _ _ (And.intro (⟨by decide, by decide⟩ : (0 : Int) ≤ 0 ∧ (0 : Int) < 394) (mi_ite (fun h176 => (mc189_86 h176.1 (mi_dt (fun h177 => ((mi_mp (P := fun z => mk190_86_37 X Q u l1 z l3 (l4 + 1) μ) h177 h176.2))) (fun h177 => ((mi_mn (P := fun z => mk190_86_37 X Q u l1 z l3 (l4 + 1) μ) h177 h176.2)))))) (fun h176 => (h176 _)) h))
