/-! PRINTED by wip/whole/gen: heads of methods -/
-- TwoViews$Maps.fineAt(II)I (71,)
noncomputable def mp16_71 (a0 : Int) (a1 : Int) (μ : mi_M) : Prop := ((0 ≤ (mv136 0 a0 a1 μ) ∧ (mv136 0 a0 a1 μ) < 384) ∧ (if mi_wr (μ 72 (mv136 0 a0 a1 μ)) < mi_wr 1 then True else (if mi_wr (μ 72 (mv136 0 a0 a1 μ)) < mi_wr (μ 2 0) then ((0 ≤ ((mv137 a0 a1 (μ 72 (mv136 0 a0 a1 μ)) μ) - 1) ∧ ((mv137 a0 a1 (μ 72 (mv136 0 a0 a1 μ)) μ) - 1) < 1536) ∧ ((0 ≤ (mv137 a0 a1 (μ 72 (mv136 0 a0 a1 μ)) μ) ∧ (mv137 a0 a1 (μ 72 (mv136 0 a0 a1 μ)) μ) < 1536) ∧ ((0 ≤ ((mv137 a0 a1 (μ 72 (mv136 0 a0 a1 μ)) μ) + 1) ∧ ((mv137 a0 a1 (μ 72 (mv136 0 a0 a1 μ)) μ) + 1) < 1536) ∧ (if 0 < mi_wr (((μ 69 ((mv137 a0 a1 (μ 72 (mv136 0 a0 a1 μ)) μ) - 1)) + (μ 69 ((mv137 a0 a1 (μ 72 (mv136 0 a0 a1 μ)) μ) + 1))) - (2 * (μ 69 (mv137 a0 a1 (μ 72 (mv136 0 a0 a1 μ)) μ)))) then (mp259 (8 * ((μ 69 ((mv137 a0 a1 (μ 72 (mv136 0 a0 a1 μ)) μ) - 1)) - (μ 69 ((mv137 a0 a1 (μ 72 (mv136 0 a0 a1 μ)) μ) + 1)))) (((μ 69 ((mv137 a0 a1 (μ 72 (mv136 0 a0 a1 μ)) μ) - 1)) + (μ 69 ((mv137 a0 a1 (μ 72 (mv136 0 a0 a1 μ)) μ) + 1))) - (2 * (μ 69 (mv137 a0 a1 (μ 72 (mv136 0 a0 a1 μ)) μ)))) μ) else True)))) else True)))
noncomputable def mv16_71 (a0 : Int) (a1 : Int) (μ : mi_M) : Int := (if mi_wr (μ 72 (mv136 0 a0 a1 μ)) < mi_wr 1 then (16 * (μ 72 (mv136 0 a0 a1 μ))) else (if mi_wr (μ 72 (mv136 0 a0 a1 μ)) < mi_wr (μ 2 0) then (if 0 < mi_wr (((μ 69 ((mv137 a0 a1 (μ 72 (mv136 0 a0 a1 μ)) μ) - 1)) + (μ 69 ((mv137 a0 a1 (μ 72 (mv136 0 a0 a1 μ)) μ) + 1))) - (2 * (μ 69 (mv137 a0 a1 (μ 72 (mv136 0 a0 a1 μ)) μ)))) then ((16 * (μ 72 (mv136 0 a0 a1 μ))) + (mv259 (8 * ((μ 69 ((mv137 a0 a1 (μ 72 (mv136 0 a0 a1 μ)) μ) - 1)) - (μ 69 ((mv137 a0 a1 (μ 72 (mv136 0 a0 a1 μ)) μ) + 1)))) (((μ 69 ((mv137 a0 a1 (μ 72 (mv136 0 a0 a1 μ)) μ) - 1)) + (μ 69 ((mv137 a0 a1 (μ 72 (mv136 0 a0 a1 μ)) μ) + 1))) - (2 * (μ 69 (mv137 a0 a1 (μ 72 (mv136 0 a0 a1 μ)) μ)))) μ)) else (16 * (μ 72 (mv136 0 a0 a1 μ)))) else (16 * (μ 72 (mv136 0 a0 a1 μ)))))
theorem mc16_71 {X : mi_X} {Q : mi_R → mi_G → mi_M → Prop} {u : mi_U} {a0 a1 : Int} {μ : mi_M} (hp : mp16_71 a0 a1 μ) (hq : Q (.inl (some (.inl (mv16_71 a0 a1 μ)))) mi_G0 μ) : mi_cok X 16 [(.inr (.inl (some 71))), (.inl a0), (.inl a1)] mi_G0 μ u Q :=
  mi_enter (by decide) (by decide) rfl rfl (ms_run (stop := fun _ => false) (by decide) rfl (fun _ _ _ _ _ _ h => h) 77 0 _ _ _ _ _ (mc136 (And.intro hp.1 (mi_dt (fun h171 => (have p171 := Eq.mp (if_pos h171) hp.2; (mi_tr (if_pos h171) rfl hq))) (fun h171 => (have p171 := Eq.mp (if_neg h171) hp.2; (And.intro (⟨by decide, by decide⟩ : (0 : Int) ≤ 0 ∧ (0 : Int) < 8) (mi_dt (fun h172 => (have p172 := Eq.mp (if_pos h172) p171; (mc137 (And.intro p172.1 (And.intro p172.2.1 (And.intro p172.2.2.1 (mi_dt (fun h173 => (have p173 := Eq.mp (if_pos h173) p172.2.2.2; (mc259 p173 (mi_tr (Eq.trans (Eq.trans (if_neg h171) (if_pos h172)) (if_pos h173)) rfl hq)))) (fun h173 => (have p173 := Eq.mp (if_neg h173) p172.2.2.2; (mi_tr (Eq.trans (Eq.trans (if_neg h171) (if_pos h172)) (if_neg h173)) rfl hq)))))))))) (fun h172 => (have p173 := Eq.mp (if_neg h172) p171; (mi_tr (Eq.trans (if_neg h171) (if_neg h172)) rfl hq)))))))))))
-- TwoViews$Layers.textureAt(IIII)I (4,)
noncomputable def mp5_4 (a0 : Int) (a1 : Int) (a2 : Int) (a3 : Int) (μ : mi_M) : Prop := (if mi_wr a1 = mi_wr (-1) then True else (mp3_4 a0 a1 μ ∧ ((0 ≤ a1 ∧ a1 < 6) ∧ (0 ≤ a1 ∧ a1 < 6))))
noncomputable def mv5_4 (a0 : Int) (a1 : Int) (a2 : Int) (a3 : Int) (μ : mi_M) : Int := (if mi_wr a1 = mi_wr (-1) then 0 else (mi_rem (mi_ushr ((((((μ 10 a1) * 31) + ((a2 - (mv3_4 a0 a1 μ)) * 7919)) + ((a3 - (μ 6 a1)) * 104729)) * 1103515245) + 12345) 16) 16))
theorem mc5_4 {X : mi_X} {Q : mi_R → mi_G → mi_M → Prop} {u : mi_U} {a0 a1 a2 a3 : Int} {μ : mi_M} (hp : mp5_4 a0 a1 a2 a3 μ) (hq : Q (.inl (some (.inl (mv5_4 a0 a1 a2 a3 μ)))) mi_G0 μ) : mi_cok X 5 [(.inr (.inl (some 4))), (.inl a0), (.inl a1), (.inl a2), (.inl a3)] mi_G0 μ u Q :=
  mi_enter (by decide) (by decide) rfl rfl (ms_run (stop := fun _ => false) (by decide) rfl (fun _ _ _ _ _ _ h => h) 48 0 _ _ _ _ _ (mi_dt (fun h174 => (have p174 := Eq.mp (if_pos h174) hp; (mi_tr (if_pos h174) rfl hq))) (fun h174 => (have p174 := Eq.mp (if_neg h174) hp; (mc3_4 p174.1 (And.intro p174.2.1 (And.intro p174.2.2 (And.intro (by decide : mi_wr 16 ≠ 0) (mi_tr (if_neg h174) rfl hq)))))))))
-- TwoViews$Maps.marginAt(II)I (71,)
noncomputable def mk15_71_26 (X : mi_X) (Q : mi_R → mi_G → mi_M → Prop) (u : mi_U) (l3 l4 l5 l6 : Int) (μ : mi_M) : Prop := ∀ o1 o2 o7 : Option mi_V, mi_ok X 15 mi_G0 Q 26 [some (.inr (.inl (some 71))), o1, o2, some (.inl l3), some (.inl l4), some (.inl l5), some (.inl l6), o7] [] mi_G0 μ u
def ms15_71 (pc : Nat) : Bool := Nat.beq pc 26
theorem me15_71 {X : mi_X} {Q : mi_R → mi_G → mi_M → Prop} {u : mi_U} {a0 a1 : Int} {μ : mi_M} (h :
  (0 ≤ (mv136 0 a0 a1 μ) ∧ (mv136 0 a0 a1 μ) < 384) ∧
  mk15_71_26 X Q u (μ 72 (mv136 0 a0 a1 μ)) (mv137 a0 a1 0 μ) (-1) 0 μ) : mi_cok X 15 [(.inr (.inl (some 71))), (.inl a0), (.inl a1)] mi_G0 μ u Q :=
  mi_enter (by decide) (by decide) rfl rfl (ms_run (stop := ms15_71) (by decide) rfl (fun _ _ _ _ _ _ h => h) 60 0 _ _ _ _ _ (mc136 (And.intro h.1 (mc137 (h.2 _ _ _)))))
theorem mh15_71_26 {X : mi_X} {Q : mi_R → mi_G → mi_M → Prop} {u : mi_U} {l3 l4 l5 l6 : Int} {μ : mi_M} (h :
  if mi_wr (μ 2 0) < mi_wr l6 then (
    Q (.inl (some (.inl l5))) mi_G0 μ)
  else (
    (0 ≤ (l4 + l6) ∧ (l4 + l6) < 1536) ∧
    (0 ≤ (l4 + l3) ∧ (l4 + l3) < 1536) ∧
    mk15_71_26 X Q u l3 l4 (if mi_wr (mv258 (l6 - l3) μ) < mi_wr 2 then l5 else (if mi_wr l5 = mi_wr (-1) then ((μ 69 (l4 + l6)) - (μ 69 (l4 + l3))) else (if mi_wr ((μ 69 (l4 + l6)) - (μ 69 (l4 + l3))) < mi_wr l5 then ((μ 69 (l4 + l6)) - (μ 69 (l4 + l3))) else l5))) (l6 + 1) μ)) : mk15_71_26 X Q u l3 l4 l5 l6 μ :=
  fun o1 o2 o7 => ms_run (stop := ms15_71) (by decide) rfl (fun _ _ _ _ _ _ h => h) 60 26 _ _ _ _ _ (And.intro (⟨by decide, by decide⟩ : (0 : Int) ≤ 0 ∧ (0 : Int) < 8) (mi_ite (fun h175 => h175) (fun h175 => (And.intro h175.1 (And.intro h175.2.1 (mc258 (mi_dt (fun h176 => ((mi_mp (P := fun z => mk15_71_26 X Q u l3 l4 z (l6 + 1) μ) h176 h175.2.2) _ _ _)) (fun h176 => (mi_dt (fun h177 => ((mi_mp (P := fun z => mk15_71_26 X Q u l3 l4 z (l6 + 1) μ) h177 (mi_mn (P := fun z => mk15_71_26 X Q u l3 l4 z (l6 + 1) μ) h176 h175.2.2)) _ _ _)) (fun h177 => (mi_dt (fun h178 => ((mi_mp (P := fun z => mk15_71_26 X Q u l3 l4 z (l6 + 1) μ) h178 (mi_mn (P := fun z => mk15_71_26 X Q u l3 l4 z (l6 + 1) μ) h177 (mi_mn (P := fun z => mk15_71_26 X Q u l3 l4 z (l6 + 1) μ) h176 h175.2.2))) _ _ _)) (fun h178 => ((mi_mn (P := fun z => mk15_71_26 X Q u l3 l4 z (l6 + 1) μ) h178 (mi_mn (P := fun z => mk15_71_26 X Q u l3 l4 z (l6 + 1) μ) h177 (mi_mn (P := fun z => mk15_71_26 X Q u l3 l4 z (l6 + 1) μ) h176 h175.2.2))) _ _ _))))))))))) h))
-- TwoViews$Maps.priceOf([I)I (71, 74)
noncomputable def mk29_71_74_4 (X : mi_X) (Q : mi_R → mi_G → mi_M → Prop) (u : mi_U) (l2 l3 : Int) (μ : mi_M) : Prop := ∀ o4 o5 : Option mi_V, mi_ok X 29 mi_G0 Q 4 [some (.inr (.inl (some 71))), some (.inr (.inl (some 74))), some (.inl l2), some (.inl l3), o4, o5] [] mi_G0 μ u
noncomputable def mk29_71_74_18 (X : mi_X) (Q : mi_R → mi_G → mi_M → Prop) (u : mi_U) (l2 l3 l4 : Int) (μ : mi_M) : Prop := ∀ o5 : Option mi_V, mi_ok X 29 mi_G0 Q 18 [some (.inr (.inl (some 71))), some (.inr (.inl (some 74))), some (.inl l2), some (.inl l3), some (.inl l4), o5] [] mi_G0 μ u
def ms29_71_74 (pc : Nat) : Bool := Nat.beq pc 4 || Nat.beq pc 18
theorem me29_71_74 {X : mi_X} {Q : mi_R → mi_G → mi_M → Prop} {u : mi_U} {μ : mi_M} (h :
  mk29_71_74_4 X Q u 0 0 μ) : mi_cok X 29 [(.inr (.inl (some 71))), (.inr (.inl (some 74)))] mi_G0 μ u Q :=
  mi_enter (by decide) (by decide) rfl rfl (ms_run (stop := ms29_71_74) (by decide) rfl (fun _ _ _ _ _ _ h => h) 86 0 _ _ _ _ _ (h _ _))
theorem mh29_71_74_4 {X : mi_X} {Q : mi_R → mi_G → mi_M → Prop} {u : mi_U} {l2 l3 : Int} {μ : mi_M} (h :
  if mi_wr l3 < mi_wr (μ 1 1) then (
    mk29_71_74_18 X Q u l2 l3 0 μ)
  else (
    Q (.inl (some (.inl l2))) mi_G0 μ)) : mk29_71_74_4 X Q u l2 l3 μ :=
  fun o4 o5 => ms_run (stop := ms29_71_74) (by decide) rfl (fun _ _ _ _ _ _ h => h) 86 4 _ _ _ _ _ (mi_ite (fun h179 => (h179 _)) (fun h179 => h179) h)
theorem mh29_71_74_18 {X : mi_X} {Q : mi_R → mi_G → mi_M → Prop} {u : mi_U} {l2 l3 l4 : Int} {μ : mi_M} (h :
  if mi_wr l4 < mi_wr (μ 1 0) then (
    (0 ≤ (mv136 0 l4 l3 μ) ∧ (mv136 0 l4 l3 μ) < 384) ∧
    (0 ≤ (mv137 l4 l3 (μ 74 (mv136 0 l4 l3 μ)) μ) ∧ (mv137 l4 l3 (μ 74 (mv136 0 l4 l3 μ)) μ) < 1536) ∧
    if mi_wr (l4 + 1) < mi_wr (μ 1 0) then (
      (0 ≤ (mv136 0 (l4 + 1) l3 μ) ∧ (mv136 0 (l4 + 1) l3 μ) < 384) ∧
      if mi_wr (l3 + 1) < mi_wr (μ 1 1) then (
        (0 ≤ (mv136 0 l4 (l3 + 1) μ) ∧ (mv136 0 l4 (l3 + 1) μ) < 384) ∧
        mk29_71_74_18 X Q u (((l2 + (μ 68 (mv137 l4 l3 (μ 74 (mv136 0 l4 l3 μ)) μ))) + (mv91_1 (μ 74 (mv136 0 l4 l3 μ)) (μ 74 (mv136 0 (l4 + 1) l3 μ)) μ)) + (mv91_1 (μ 74 (mv136 0 l4 l3 μ)) (μ 74 (mv136 0 l4 (l3 + 1) μ)) μ)) l3 (l4 + 1) μ)
      else (
        mk29_71_74_18 X Q u ((l2 + (μ 68 (mv137 l4 l3 (μ 74 (mv136 0 l4 l3 μ)) μ))) + (mv91_1 (μ 74 (mv136 0 l4 l3 μ)) (μ 74 (mv136 0 (l4 + 1) l3 μ)) μ)) l3 (l4 + 1) μ))
    else (
      if mi_wr (l3 + 1) < mi_wr (μ 1 1) then (
        (0 ≤ (mv136 0 l4 (l3 + 1) μ) ∧ (mv136 0 l4 (l3 + 1) μ) < 384) ∧
        mk29_71_74_18 X Q u ((l2 + (μ 68 (mv137 l4 l3 (μ 74 (mv136 0 l4 l3 μ)) μ))) + (mv91_1 (μ 74 (mv136 0 l4 l3 μ)) (μ 74 (mv136 0 l4 (l3 + 1) μ)) μ)) l3 (l4 + 1) μ)
      else (
        mk29_71_74_18 X Q u (l2 + (μ 68 (mv137 l4 l3 (μ 74 (mv136 0 l4 l3 μ)) μ))) l3 (l4 + 1) μ)))
  else (
    mk29_71_74_4 X Q u l2 (l3 + 1) μ)) : mk29_71_74_18 X Q u l2 l3 l4 μ :=
  fun o5 => ms_run (stop := ms29_71_74) (by decide) rfl (fun _ _ _ _ _ _ h => h) 86 18 _ _ _ _ _ (mi_ite (fun h180 => (mc136 (And.intro h180.1 (mc137 (And.intro h180.2.1 (mi_ite (fun h181 => (mc136 (And.intro h181.1 (mc91_1 (mi_ite (fun h182 => (mc136 (And.intro h182.1 (mc91_1 (h182.2 _))))) (fun h182 => (h182 _)) h181.2))))) (fun h181 => (mi_ite (fun h183 => (mc136 (And.intro h183.1 (mc91_1 (h183.2 _))))) (fun h183 => (h183 _)) h181)) h180.2.2)))))) (fun h180 => (h180 _ _)) h)
-- TwoViews$Maps.priceOf([I)I (71, 72)
noncomputable def mk29_71_72_4 (X : mi_X) (Q : mi_R → mi_G → mi_M → Prop) (u : mi_U) (l2 l3 : Int) (μ : mi_M) : Prop := ∀ o4 o5 : Option mi_V, mi_ok X 29 mi_G0 Q 4 [some (.inr (.inl (some 71))), some (.inr (.inl (some 72))), some (.inl l2), some (.inl l3), o4, o5] [] mi_G0 μ u
noncomputable def mk29_71_72_18 (X : mi_X) (Q : mi_R → mi_G → mi_M → Prop) (u : mi_U) (l2 l3 l4 : Int) (μ : mi_M) : Prop := ∀ o5 : Option mi_V, mi_ok X 29 mi_G0 Q 18 [some (.inr (.inl (some 71))), some (.inr (.inl (some 72))), some (.inl l2), some (.inl l3), some (.inl l4), o5] [] mi_G0 μ u
def ms29_71_72 (pc : Nat) : Bool := Nat.beq pc 4 || Nat.beq pc 18
theorem me29_71_72 {X : mi_X} {Q : mi_R → mi_G → mi_M → Prop} {u : mi_U} {μ : mi_M} (h :
  mk29_71_72_4 X Q u 0 0 μ) : mi_cok X 29 [(.inr (.inl (some 71))), (.inr (.inl (some 72)))] mi_G0 μ u Q :=
  mi_enter (by decide) (by decide) rfl rfl (ms_run (stop := ms29_71_72) (by decide) rfl (fun _ _ _ _ _ _ h => h) 86 0 _ _ _ _ _ (h _ _))
theorem mh29_71_72_4 {X : mi_X} {Q : mi_R → mi_G → mi_M → Prop} {u : mi_U} {l2 l3 : Int} {μ : mi_M} (h :
  if mi_wr l3 < mi_wr (μ 1 1) then (
    mk29_71_72_18 X Q u l2 l3 0 μ)
  else (
    Q (.inl (some (.inl l2))) mi_G0 μ)) : mk29_71_72_4 X Q u l2 l3 μ :=
  fun o4 o5 => ms_run (stop := ms29_71_72) (by decide) rfl (fun _ _ _ _ _ _ h => h) 86 4 _ _ _ _ _ (mi_ite (fun h184 => (h184 _)) (fun h184 => h184) h)
theorem mh29_71_72_18 {X : mi_X} {Q : mi_R → mi_G → mi_M → Prop} {u : mi_U} {l2 l3 l4 : Int} {μ : mi_M} (h :
  if mi_wr l4 < mi_wr (μ 1 0) then (
    (0 ≤ (mv136 0 l4 l3 μ) ∧ (mv136 0 l4 l3 μ) < 384) ∧
    (0 ≤ (mv137 l4 l3 (μ 72 (mv136 0 l4 l3 μ)) μ) ∧ (mv137 l4 l3 (μ 72 (mv136 0 l4 l3 μ)) μ) < 1536) ∧
    if mi_wr (l4 + 1) < mi_wr (μ 1 0) then (
      (0 ≤ (mv136 0 (l4 + 1) l3 μ) ∧ (mv136 0 (l4 + 1) l3 μ) < 384) ∧
      if mi_wr (l3 + 1) < mi_wr (μ 1 1) then (
        (0 ≤ (mv136 0 l4 (l3 + 1) μ) ∧ (mv136 0 l4 (l3 + 1) μ) < 384) ∧
        mk29_71_72_18 X Q u (((l2 + (μ 68 (mv137 l4 l3 (μ 72 (mv136 0 l4 l3 μ)) μ))) + (mv91_1 (μ 72 (mv136 0 l4 l3 μ)) (μ 72 (mv136 0 (l4 + 1) l3 μ)) μ)) + (mv91_1 (μ 72 (mv136 0 l4 l3 μ)) (μ 72 (mv136 0 l4 (l3 + 1) μ)) μ)) l3 (l4 + 1) μ)
      else (
        mk29_71_72_18 X Q u ((l2 + (μ 68 (mv137 l4 l3 (μ 72 (mv136 0 l4 l3 μ)) μ))) + (mv91_1 (μ 72 (mv136 0 l4 l3 μ)) (μ 72 (mv136 0 (l4 + 1) l3 μ)) μ)) l3 (l4 + 1) μ))
    else (
      if mi_wr (l3 + 1) < mi_wr (μ 1 1) then (
        (0 ≤ (mv136 0 l4 (l3 + 1) μ) ∧ (mv136 0 l4 (l3 + 1) μ) < 384) ∧
        mk29_71_72_18 X Q u ((l2 + (μ 68 (mv137 l4 l3 (μ 72 (mv136 0 l4 l3 μ)) μ))) + (mv91_1 (μ 72 (mv136 0 l4 l3 μ)) (μ 72 (mv136 0 l4 (l3 + 1) μ)) μ)) l3 (l4 + 1) μ)
      else (
        mk29_71_72_18 X Q u (l2 + (μ 68 (mv137 l4 l3 (μ 72 (mv136 0 l4 l3 μ)) μ))) l3 (l4 + 1) μ)))
  else (
    mk29_71_72_4 X Q u l2 (l3 + 1) μ)) : mk29_71_72_18 X Q u l2 l3 l4 μ :=
  fun o5 => ms_run (stop := ms29_71_72) (by decide) rfl (fun _ _ _ _ _ _ h => h) 86 18 _ _ _ _ _ (mi_ite (fun h185 => (mc136 (And.intro h185.1 (mc137 (And.intro h185.2.1 (mi_ite (fun h186 => (mc136 (And.intro h186.1 (mc91_1 (mi_ite (fun h187 => (mc136 (And.intro h187.1 (mc91_1 (h187.2 _))))) (fun h187 => (h187 _)) h186.2))))) (fun h186 => (mi_ite (fun h188 => (mc136 (And.intro h188.1 (mc91_1 (h188.2 _))))) (fun h188 => (h188 _)) h186)) h185.2.2)))))) (fun h185 => (h185 _ _)) h)
-- TwoViews$Pieces.howManyStay(I)I (76,)
noncomputable def mk57_76_4 (X : mi_X) (Q : mi_R → mi_G → mi_M → Prop) (u : mi_U) (l1 l2 l3 : Int) (μ : mi_M) : Prop := mi_ok X 57 mi_G0 Q 4 [some (.inr (.inl (some 76))), some (.inl l1), some (.inl l2), some (.inl l3)] [] mi_G0 μ u
def ms57_76 (pc : Nat) : Bool := Nat.beq pc 4
theorem me57_76 {X : mi_X} {Q : mi_R → mi_G → mi_M → Prop} {u : mi_U} {a0 : Int} {μ : mi_M} (h :
  mk57_76_4 X Q u a0 0 0 μ) : mi_cok X 57 [(.inr (.inl (some 76))), (.inl a0)] mi_G0 μ u Q :=
  mi_enter (by decide) (by decide) rfl rfl (ms_run (stop := ms57_76) (by decide) rfl (fun _ _ _ _ _ _ h => h) 27 0 _ _ _ _ _ (h))
theorem mh57_76_4 {X : mi_X} {Q : mi_R → mi_G → mi_M → Prop} {u : mi_U} {l1 l2 l3 : Int} {μ : mi_M} (h :
  (0 ≤ l1 ∧ l1 < 2) ∧
  if mi_wr l3 < mi_wr (μ 79 l1) then (
    mp55_76 l1 l3 μ ∧
    mk57_76_4 X Q u l1 (if mi_wr (mv55_76 l1 l3 μ) = 0 then (l2 + 0) else (l2 + 1)) (l3 + 1) μ)
  else (
    Q (.inl (some (.inl l2))) mi_G0 μ)) : mk57_76_4 X Q u l1 l2 l3 μ :=
  ms_run (stop := ms57_76) (by decide) rfl (fun _ _ _ _ _ _ h => h) 27 4 _ _ _ _ _ (And.intro h.1 (mi_ite (fun h189 => (mc55_76 h189.1 (mi_dt (fun h190 => ((mi_mp (P := fun z => mk57_76_4 X Q u l1 z (l3 + 1) μ) h190 h189.2))) (fun h190 => ((mi_mn (P := fun z => mk57_76_4 X Q u l1 z (l3 + 1) μ) h190 h189.2)))))) (fun h189 => h189) h.2))
-- TwoViews$Pieces.howManyBefore(II)I (76,)
noncomputable def mk60_76_19 (X : mi_X) (Q : mi_R → mi_G → mi_M → Prop) (u : mi_U) (l1 l2 l3 l4 l5 : Int) (μ : mi_M) : Prop := ∀ o6 : Option mi_V, mi_ok X 60 mi_G0 Q 19 [some (.inr (.inl (some 76))), some (.inl l1), some (.inl l2), some (.inl l3), some (.inl l4), some (.inl l5), o6] [] mi_G0 μ u
def ms60_76 (pc : Nat) : Bool := Nat.beq pc 19
theorem me60_76 {X : mi_X} {Q : mi_R → mi_G → mi_M → Prop} {u : mi_U} {a0 a1 : Int} {μ : mi_M} (h :
  (0 ≤ ((a0 * 192) + a1) ∧ ((a0 * 192) + a1) < 384) ∧
  mk60_76_19 X Q u a0 a1 (μ 78 ((a0 * 192) + a1)) 0 0 μ) : mi_cok X 60 [(.inr (.inl (some 76))), (.inl a0), (.inl a1)] mi_G0 μ u Q :=
  mi_enter (by decide) (by decide) rfl rfl (ms_run (stop := ms60_76) (by decide) rfl (fun _ _ _ _ _ _ h => h) 49 0 _ _ _ _ _ (And.intro h.1 (h.2 _)))
theorem mh60_76_19 {X : mi_X} {Q : mi_R → mi_G → mi_M → Prop} {u : mi_U} {l1 l2 l3 l4 l5 : Int} {μ : mi_M} (h :
  (0 ≤ l1 ∧ l1 < 2) ∧
  if mi_wr l5 < mi_wr (μ 79 l1) then (
    (0 ≤ ((l1 * 192) + l5) ∧ ((l1 * 192) + l5) < 384) ∧
    mk60_76_19 X Q u l1 l2 l3 (if mi_wr l3 < mi_wr (μ 78 ((l1 * 192) + l5)) then (l4 + 1) else (if mi_wr (μ 78 ((l1 * 192) + l5)) = mi_wr l3 then (if mi_wr l5 < mi_wr l2 then (l4 + 1) else (l4 + 0)) else (l4 + 0))) (l5 + 1) μ)
  else (
    Q (.inl (some (.inl l4))) mi_G0 μ)) : mk60_76_19 X Q u l1 l2 l3 l4 l5 μ :=
  fun o6 => ms_run (stop := ms60_76) (by decide) rfl (fun _ _ _ _ _ _ h => h) 49 19 _ _ _ _ _ (And.intro h.1 (mi_ite (fun h191 => (And.intro h191.1 (mi_dt (fun h192 => ((mi_mp (P := fun z => mk60_76_19 X Q u l1 l2 l3 z (l5 + 1) μ) h192 h191.2) _)) (fun h192 => (mi_dt (fun h193 => (mi_dt (fun h194 => ((mi_mp (P := fun z => mk60_76_19 X Q u l1 l2 l3 z (l5 + 1) μ) h194 (mi_mp (P := fun z => mk60_76_19 X Q u l1 l2 l3 z (l5 + 1) μ) h193 (mi_mn (P := fun z => mk60_76_19 X Q u l1 l2 l3 z (l5 + 1) μ) h192 h191.2))) _)) (fun h194 => ((mi_mn (P := fun z => mk60_76_19 X Q u l1 l2 l3 z (l5 + 1) μ) h194 (mi_mp (P := fun z => mk60_76_19 X Q u l1 l2 l3 z (l5 + 1) μ) h193 (mi_mn (P := fun z => mk60_76_19 X Q u l1 l2 l3 z (l5 + 1) μ) h192 h191.2))) _)))) (fun h193 => ((mi_mn (P := fun z => mk60_76_19 X Q u l1 l2 l3 z (l5 + 1) μ) h193 (mi_mn (P := fun z => mk60_76_19 X Q u l1 l2 l3 z (l5 + 1) μ) h192 h191.2)) _))))))) (fun h191 => h191) h.2))
-- TwoViewsModel.aheadOf(II)I (86,)
noncomputable def mk222_86_9 (X : mi_X) (Q : mi_R → mi_G → mi_M → Prop) (u : mi_U) (l1 l2 l3 l4 : Int) (μ : mi_M) : Prop := ∀ o5 : Option mi_V, mi_ok X 222 mi_G0 Q 9 [some (.inr (.inl (some 86))), some (.inl l1), some (.inl l2), some (.inl l3), some (.inl l4), o5] [] mi_G0 μ u
def ms222_86 (pc : Nat) : Bool := Nat.beq pc 9
theorem me222_86 {X : mi_X} {Q : mi_R → mi_G → mi_M → Prop} {u : mi_U} {a0 a1 : Int} {μ : mi_M} (h :
  mk222_86_9 X Q u a0 a1 0 (192 * a0) μ) : mi_cok X 222 [(.inr (.inl (some 86))), (.inl a0), (.inl a1)] mi_G0 μ u Q :=
  mi_enter (by decide) (by decide) rfl rfl (ms_run (stop := ms222_86) (by decide) rfl (fun _ _ _ _ _ _ h => h) 56 0 _ _ _ _ _ (h _))
theorem mh222_86_9 {X : mi_X} {Q : mi_R → mi_G → mi_M → Prop} {u : mi_U} {l1 l2 l3 l4 : Int} {μ : mi_M} (h :
  if mi_wr l4 < mi_wr (192 * (l1 + 1)) then (
    mp220_86 l4 μ ∧
    if mi_wr (mv220_86 l4 μ) = 0 then (
      mk222_86_9 X Q u l1 l2 (l3 + 0) (l4 + 1) μ)
    else (
      (0 ≤ l4 ∧ l4 < 384) ∧
      (0 ≤ l2 ∧ l2 < 384) ∧
      if mi_wr (μ 98 l2) < mi_wr (μ 98 l4) then (
        mk222_86_9 X Q u l1 l2 (l3 + 1) (l4 + 1) μ)
      else (
        (0 ≤ l4 ∧ l4 < 384) ∧
        (0 ≤ l2 ∧ l2 < 384) ∧
        if mi_wr (μ 98 l4) = mi_wr (μ 98 l2) then (
          if mi_wr l4 < mi_wr l2 then (
            mk222_86_9 X Q u l1 l2 (l3 + 1) (l4 + 1) μ)
          else (
            mk222_86_9 X Q u l1 l2 (l3 + 0) (l4 + 1) μ))
        else (
          mk222_86_9 X Q u l1 l2 (l3 + 0) (l4 + 1) μ))))
  else (
    Q (.inl (some (.inl l3))) mi_G0 μ)) : mk222_86_9 X Q u l1 l2 l3 l4 μ :=
  fun o5 => ms_run (stop := ms222_86) (by decide) rfl (fun _ _ _ _ _ _ h => h) 56 9 _ _ _ _ _ (mi_ite (fun h195 => (mc220_86 h195.1 (mi_ite (fun h196 => (h196 _)) (fun h196 => (And.intro h196.1 (And.intro h196.2.1 (mi_ite (fun h197 => (h197 _)) (fun h197 => (And.intro h197.1 (And.intro h197.2.1 (mi_ite (fun h198 => (mi_ite (fun h199 => (h199 _)) (fun h199 => (h199 _)) h198)) (fun h198 => (h198 _)) h197.2.2)))) h196.2.2)))) h195.2))) (fun h195 => h195) h)
-- TwoViews$RowChoice.bestBefore(II)I (81,)
noncomputable def mk81_81_5 (X : mi_X) (Q : mi_R → mi_G → mi_M → Prop) (u : mi_U) (l1 l2 l3 l4 : Int) (μ : mi_M) : Prop := mi_ok X 81 mi_G0 Q 5 [some (.inr (.inl (some 81))), some (.inl l1), some (.inl l2), some (.inl l3), some (.inl l4)] [] mi_G0 μ u
def ms81_81 (pc : Nat) : Bool := Nat.beq pc 5
theorem me81_81 {X : mi_X} {Q : mi_R → mi_G → mi_M → Prop} {u : mi_U} {a0 a1 : Int} {μ : mi_M} (h :
  mk81_81_5 X Q u a0 a1 0 1 μ) : mi_cok X 81 [(.inr (.inl (some 81))), (.inl a0), (.inl a1)] mi_G0 μ u Q :=
  mi_enter (by decide) (by decide) rfl rfl (ms_run (stop := ms81_81) (by decide) rfl (fun _ _ _ _ _ _ h => h) 32 0 _ _ _ _ _ (h))
theorem mh81_81_5 {X : mi_X} {Q : mi_R → mi_G → mi_M → Prop} {u : mi_U} {l1 l2 l3 l4 : Int} {μ : mi_M} (h :
  if mi_wr (μ 2 0) < mi_wr l4 then (
    Q (.inl (some (.inl l3))) mi_G0 μ)
  else (
    mp82_81 l1 l4 l2 μ ∧
    mp82_81 l1 l3 l2 μ ∧
    mk81_81_5 X Q u l1 l2 (if mi_wr (mv82_81 l1 l4 l2 μ) < mi_wr (mv82_81 l1 l3 l2 μ) then l4 else l3) (l4 + 1) μ)) : mk81_81_5 X Q u l1 l2 l3 l4 μ :=
  ms_run (stop := ms81_81) (by decide) rfl (fun _ _ _ _ _ _ h => h) 32 5 _ _ _ _ _ (And.intro (⟨by decide, by decide⟩ : (0 : Int) ≤ 0 ∧ (0 : Int) < 8) (mi_ite (fun h200 => h200) (fun h200 => (mc82_81 h200.1 (mc82_81 h200.2.1 (mi_dt (fun h201 => ((mi_mp (P := fun z => mk81_81_5 X Q u l1 l2 z (l4 + 1) μ) h201 h200.2.2))) (fun h201 => ((mi_mn (P := fun z => mk81_81_5 X Q u l1 l2 z (l4 + 1) μ) h201 h200.2.2))))))) h))
-- TwoViews$Lines.gather()I (84,)
noncomputable def mk8_84_2 (X : mi_X) (Q : mi_R → mi_G → mi_M → Prop) (u : mi_U) (l1 : Int) (μ : mi_M) : Prop := ∀ o2 o3 o4 : Option mi_V, mi_ok X 8 mi_G0 Q 2 [some (.inr (.inl (some 84))), some (.inl l1), o2, o3, o4] [] mi_G0 μ u
noncomputable def mk8_84_25 (X : mi_X) (Q : mi_R → mi_G → mi_M → Prop) (u : mi_U) (l1 l2 : Int) (μ : mi_M) : Prop := ∀ o3 o4 : Option mi_V, mi_ok X 8 mi_G0 Q 25 [some (.inr (.inl (some 84))), some (.inl l1), some (.inl l2), o3, o4] [] mi_G0 μ u
noncomputable def mk8_84_38 (X : mi_X) (Q : mi_R → mi_G → mi_M → Prop) (u : mi_U) (l1 l2 l3 : Int) (μ : mi_M) : Prop := ∀ o4 : Option mi_V, mi_ok X 8 mi_G0 Q 38 [some (.inr (.inl (some 84))), some (.inl l1), some (.inl l2), some (.inl l3), o4] [] mi_G0 μ u
def ms8_84 (pc : Nat) : Bool := Nat.beq pc 2 || Nat.beq pc 25 || Nat.beq pc 38
theorem me8_84 {X : mi_X} {Q : mi_R → mi_G → mi_M → Prop} {u : mi_U} {μ : mi_M} (h :
  mk8_84_2 X Q u 0 μ) : mi_cok X 8 [(.inr (.inl (some 84)))] mi_G0 μ u Q :=
  mi_enter (by decide) (by decide) rfl rfl (ms_run (stop := ms8_84) (by decide) rfl (fun _ _ _ _ _ _ h => h) 64 0 _ _ _ _ _ (h _ _ _))
theorem mh8_84_2 {X : mi_X} {Q : mi_R → mi_G → mi_M → Prop} {u : mi_U} {l1 : Int} {μ : mi_M} (h :
  if mi_wr l1 < mi_wr 96 then (
    (0 ≤ l1 ∧ l1 < 96) ∧
    mk8_84_2 X Q u (l1 + 1) (mi_set μ 85 l1 0))
  else (
    mk8_84_25 X Q u 0 0 μ)) : mk8_84_2 X Q u l1 μ :=
  fun o2 o3 o4 => ms_run (stop := ms8_84) (by decide) rfl (fun _ _ _ _ _ _ h => h) 64 2 _ _ _ _ _ (mi_ite (fun h202 => (And.intro h202.1 (h202.2 _ _ _))) (fun h202 => (h202 _ _)) h)
theorem mh8_84_25 {X : mi_X} {Q : mi_R → mi_G → mi_M → Prop} {u : mi_U} {l1 l2 : Int} {μ : mi_M} (h :
  if mi_wr l2 < mi_wr (μ 1 1) then (
    mk8_84_38 X Q u l1 l2 0 μ)
  else (
    Q (.inl (some (.inl l1))) mi_G0 μ)) : mk8_84_25 X Q u l1 l2 μ :=
  fun o3 o4 => ms_run (stop := ms8_84) (by decide) rfl (fun _ _ _ _ _ _ h => h) 64 25 _ _ _ _ _ (mi_ite (fun h203 => (h203 _)) (fun h203 => h203) h)
theorem mh8_84_38 {X : mi_X} {Q : mi_R → mi_G → mi_M → Prop} {u : mi_U} {l1 l2 l3 : Int} {μ : mi_M} (h :
  if mi_wr l3 < mi_wr (μ 1 0) then (
    (0 ≤ (mv136 0 l3 l2 μ) ∧ (mv136 0 l3 l2 μ) < 384) ∧
    if mi_wr (μ 73 (mv136 0 l3 l2 μ)) = 0 then (
      (0 ≤ (mv136 0 l3 l2 μ) ∧ (mv136 0 l3 l2 μ) < 384) ∧
      (0 ≤ ((mi_shl l2 3) + (μ 72 (mv136 0 l3 l2 μ))) ∧ ((mi_shl l2 3) + (μ 72 (mv136 0 l3 l2 μ))) < 96) ∧
      (0 ≤ ((mi_shl l2 3) + (μ 72 (mv136 0 l3 l2 μ))) ∧ ((mi_shl l2 3) + (μ 72 (mv136 0 l3 l2 μ))) < 96) ∧
      mk8_84_38 X Q u (l1 + 1) l2 (l3 + 1) (mi_set μ 85 ((mi_shl l2 3) + (μ 72 (mv136 0 l3 l2 μ))) ((μ 85 ((mi_shl l2 3) + (μ 72 (mv136 0 l3 l2 μ)))) + 1)))
    else (
      mk8_84_38 X Q u l1 l2 (l3 + 1) μ))
  else (
    mk8_84_25 X Q u l1 (l2 + 1) μ)) : mk8_84_38 X Q u l1 l2 l3 μ :=
  fun o4 => ms_run (stop := ms8_84) (by decide) rfl (fun _ _ _ _ _ _ h => h) 64 38 _ _ _ _ _ (mi_ite (fun h204 => (mc136 (And.intro h204.1 (mi_ite (fun h205 => (And.intro h205.1 (And.intro h205.2.1 (And.intro h205.2.2.1 (h205.2.2.2 _))))) (fun h205 => (h205 _)) h204.2)))) (fun h204 => (h204 _ _)) h)
-- TwoViews$Lines.votesFor(II)I (84,)
noncomputable def mk9_84_5 (X : mi_X) (Q : mi_R → mi_G → mi_M → Prop) (u : mi_U) (l1 l2 l3 l4 : Int) (μ : mi_M) : Prop := ∀ o5 : Option mi_V, mi_ok X 9 mi_G0 Q 5 [some (.inr (.inl (some 84))), some (.inl l1), some (.inl l2), some (.inl l3), some (.inl l4), o5] [] mi_G0 μ u
def ms9_84 (pc : Nat) : Bool := Nat.beq pc 5
theorem me9_84 {X : mi_X} {Q : mi_R → mi_G → mi_M → Prop} {u : mi_U} {a0 a1 : Int} {μ : mi_M} (h :
  mk9_84_5 X Q u a0 a1 0 0 μ) : mi_cok X 9 [(.inr (.inl (some 84))), (.inl a0), (.inl a1)] mi_G0 μ u Q :=
  mi_enter (by decide) (by decide) rfl rfl (ms_run (stop := ms9_84) (by decide) rfl (fun _ _ _ _ _ _ h => h) 41 0 _ _ _ _ _ (h _))
theorem mh9_84_5 {X : mi_X} {Q : mi_R → mi_G → mi_M → Prop} {u : mi_U} {l1 l2 l3 l4 : Int} {μ : mi_M} (h :
  if mi_wr l4 < mi_wr (μ 1 1) then (
    if mi_wr (mv88_1 (mi_shr ((l1 + (l2 * l4)) + 4) 3) μ) = 0 then (
      mk9_84_5 X Q u l1 l2 l3 (l4 + 1) μ)
    else (
      (0 ≤ ((mi_shl l4 3) + (mi_shr ((l1 + (l2 * l4)) + 4) 3)) ∧ ((mi_shl l4 3) + (mi_shr ((l1 + (l2 * l4)) + 4) 3)) < 96) ∧
      mk9_84_5 X Q u l1 l2 (l3 + (μ 85 ((mi_shl l4 3) + (mi_shr ((l1 + (l2 * l4)) + 4) 3)))) (l4 + 1) μ))
  else (
    Q (.inl (some (.inl l3))) mi_G0 μ)) : mk9_84_5 X Q u l1 l2 l3 l4 μ :=
  fun o5 => ms_run (stop := ms9_84) (by decide) rfl (fun _ _ _ _ _ _ h => h) 41 5 _ _ _ _ _ (mi_ite (fun h206 => (mc88_1 (mi_ite (fun h207 => (h207 _)) (fun h207 => (And.intro h207.1 (h207.2 _))) h206))) (fun h206 => h206) h)
-- TwoViewsModel.votesFor(II)I (86,)
noncomputable def mk232_86_5 (X : mi_X) (Q : mi_R → mi_G → mi_M → Prop) (u : mi_U) (l1 l2 l3 l4 : Int) (μ : mi_M) : Prop := ∀ o5 : Option mi_V, mi_ok X 232 mi_G0 Q 5 [some (.inr (.inl (some 86))), some (.inl l1), some (.inl l2), some (.inl l3), some (.inl l4), o5] [] mi_G0 μ u
noncomputable def mk232_86_19 (X : mi_X) (Q : mi_R → mi_G → mi_M → Prop) (u : mi_U) (l1 l2 l3 l4 l5 : Int) (μ : mi_M) : Prop := mi_ok X 232 mi_G0 Q 19 [some (.inr (.inl (some 86))), some (.inl l1), some (.inl l2), some (.inl l3), some (.inl l4), some (.inl l5)] [] mi_G0 μ u
def ms232_86 (pc : Nat) : Bool := Nat.beq pc 5 || Nat.beq pc 19
theorem me232_86 {X : mi_X} {Q : mi_R → mi_G → mi_M → Prop} {u : mi_U} {a0 a1 : Int} {μ : mi_M} (h :
  mk232_86_5 X Q u a0 a1 0 0 μ) : mi_cok X 232 [(.inr (.inl (some 86))), (.inl a0), (.inl a1)] mi_G0 μ u Q :=
  mi_enter (by decide) (by decide) rfl rfl (ms_run (stop := ms232_86) (by decide) rfl (fun _ _ _ _ _ _ h => h) 55 0 _ _ _ _ _ (h _))
theorem mh232_86_5 {X : mi_X} {Q : mi_R → mi_G → mi_M → Prop} {u : mi_U} {l1 l2 l3 l4 : Int} {μ : mi_M} (h :
  if mi_wr l4 < mi_wr (μ 87 1) then (
    mk232_86_19 X Q u l1 l2 l3 l4 0 μ)
  else (
    Q (.inl (some (.inl l3))) mi_G0 μ)) : mk232_86_5 X Q u l1 l2 l3 l4 μ :=
  fun o5 => ms_run (stop := ms232_86) (by decide) rfl (fun _ _ _ _ _ _ h => h) 55 5 _ _ _ _ _ (And.intro (⟨by decide, by decide⟩ : (0 : Int) ≤ 1 ∧ (1 : Int) < 394) (mi_ite (fun h208 => (h208)) (fun h208 => h208) h))
theorem mh232_86_19 {X : mi_X} {Q : mi_R → mi_G → mi_M → Prop} {u : mi_U} {l1 l2 l3 l4 l5 : Int} {μ : mi_M} (h :
  if mi_wr l5 < mi_wr (μ 87 0) then (
    mp214_86 0 l5 l4 μ ∧
    if mi_wr (mv214_86 0 l5 l4 μ) = 0 then (
      (0 ≤ (mv185 0 l5 l4 μ) ∧ (mv185 0 l5 l4 μ) < 384) ∧
      mk232_86_19 X Q u l1 l2 (if mi_wr (μ 95 (mv185 0 l5 l4 μ)) = mi_wr (mi_div ((l1 + (l2 * l4)) + 4) 8) then (l3 + 1) else (l3 + 0)) l4 (l5 + 1) μ)
    else (
      mk232_86_19 X Q u l1 l2 (l3 + 0) l4 (l5 + 1) μ))
  else (
    mk232_86_5 X Q u l1 l2 l3 (l4 + 1) μ)) : mk232_86_19 X Q u l1 l2 l3 l4 l5 μ :=
  ms_run (stop := ms232_86) (by decide) rfl (fun _ _ _ _ _ _ h => h) 55 19 _ _ _ _ _ (And.intro (⟨by decide, by decide⟩ : (0 : Int) ≤ 0 ∧ (0 : Int) < 394) (mi_ite (fun h209 => (mc214_86 h209.1 (mi_ite (fun h210 => (mc185 (And.intro h210.1 (And.intro (by decide : mi_wr 8 ≠ 0) (mi_dt (fun h211 => ((mi_mp (P := fun z => mk232_86_19 X Q u l1 l2 z l4 (l5 + 1) μ) h211 h210.2))) (fun h211 => ((mi_mn (P := fun z => mk232_86_19 X Q u l1 l2 z l4 (l5 + 1) μ) h211 h210.2)))))))) (fun h210 => (h210)) h209.2))) (fun h209 => (h209 _)) h))
-- TwoViewsModel.energyOf([I)I (86, 99)
noncomputable def mk242_86_99_4 (X : mi_X) (Q : mi_R → mi_G → mi_M → Prop) (u : mi_U) (l2 l3 : Int) (μ : mi_M) : Prop := ∀ o4 o5 : Option mi_V, mi_ok X 242 mi_G0 Q 4 [some (.inr (.inl (some 86))), some (.inr (.inl (some 99))), some (.inl l2), some (.inl l3), o4, o5] [] mi_G0 μ u
noncomputable def mk242_86_99_17 (X : mi_X) (Q : mi_R → mi_G → mi_M → Prop) (u : mi_U) (l2 l3 l4 : Int) (μ : mi_M) : Prop := ∀ o5 : Option mi_V, mi_ok X 242 mi_G0 Q 17 [some (.inr (.inl (some 86))), some (.inr (.inl (some 99))), some (.inl l2), some (.inl l3), some (.inl l4), o5] [] mi_G0 μ u
def ms242_86_99 (pc : Nat) : Bool := Nat.beq pc 4 || Nat.beq pc 17
theorem me242_86_99 {X : mi_X} {Q : mi_R → mi_G → mi_M → Prop} {u : mi_U} {μ : mi_M} (h :
  mk242_86_99_4 X Q u 0 0 μ) : mi_cok X 242 [(.inr (.inl (some 86))), (.inr (.inl (some 99)))] mi_G0 μ u Q :=
  mi_enter (by decide) (by decide) rfl rfl (ms_run (stop := ms242_86_99) (by decide) rfl (fun _ _ _ _ _ _ h => h) 89 0 _ _ _ _ _ (h _ _))
theorem mh242_86_99_4 {X : mi_X} {Q : mi_R → mi_G → mi_M → Prop} {u : mi_U} {l2 l3 : Int} {μ : mi_M} (h :
  if mi_wr l3 < mi_wr (μ 87 1) then (
    mk242_86_99_17 X Q u l2 l3 0 μ)
  else (
    Q (.inl (some (.inl l2))) mi_G0 μ)) : mk242_86_99_4 X Q u l2 l3 μ :=
  fun o4 o5 => ms_run (stop := ms242_86_99) (by decide) rfl (fun _ _ _ _ _ _ h => h) 89 4 _ _ _ _ _ (And.intro (⟨by decide, by decide⟩ : (0 : Int) ≤ 1 ∧ (1 : Int) < 394) (mi_ite (fun h212 => (h212 _)) (fun h212 => h212) h))
theorem mh242_86_99_17 {X : mi_X} {Q : mi_R → mi_G → mi_M → Prop} {u : mi_U} {l2 l3 l4 : Int} {μ : mi_M} (h :
  if mi_wr l4 < mi_wr (μ 87 0) then (
    (0 ≤ (mv185 0 l4 l3 μ) ∧ (mv185 0 l4 l3 μ) < 384) ∧
    mp192_86 l4 l3 (μ 99 (mv185 0 l4 l3 μ)) μ ∧
    if mi_wr (l4 + 1) < mi_wr (μ 87 0) then (
      (0 ≤ (mv185 0 (l4 + 1) l3 μ) ∧ (mv185 0 (l4 + 1) l3 μ) < 384) ∧
      if mi_wr (l3 + 1) < mi_wr (μ 87 1) then (
        (0 ≤ (mv185 0 l4 (l3 + 1) μ) ∧ (mv185 0 l4 (l3 + 1) μ) < 384) ∧
        mk242_86_99_17 X Q u (((l2 + (mv192_86 l4 l3 (μ 99 (mv185 0 l4 l3 μ)) μ)) + (mv239_86 (μ 99 (mv185 0 l4 l3 μ)) (μ 99 (mv185 0 (l4 + 1) l3 μ)) μ)) + (mv239_86 (μ 99 (mv185 0 l4 l3 μ)) (μ 99 (mv185 0 l4 (l3 + 1) μ)) μ)) l3 (l4 + 1) μ)
      else (
        mk242_86_99_17 X Q u (((l2 + (mv192_86 l4 l3 (μ 99 (mv185 0 l4 l3 μ)) μ)) + (mv239_86 (μ 99 (mv185 0 l4 l3 μ)) (μ 99 (mv185 0 (l4 + 1) l3 μ)) μ)) + 0) l3 (l4 + 1) μ))
    else (
      if mi_wr (l3 + 1) < mi_wr (μ 87 1) then (
        (0 ≤ (mv185 0 l4 (l3 + 1) μ) ∧ (mv185 0 l4 (l3 + 1) μ) < 384) ∧
        mk242_86_99_17 X Q u (((l2 + (mv192_86 l4 l3 (μ 99 (mv185 0 l4 l3 μ)) μ)) + 0) + (mv239_86 (μ 99 (mv185 0 l4 l3 μ)) (μ 99 (mv185 0 l4 (l3 + 1) μ)) μ)) l3 (l4 + 1) μ)
      else (
        mk242_86_99_17 X Q u (((l2 + (mv192_86 l4 l3 (μ 99 (mv185 0 l4 l3 μ)) μ)) + 0) + 0) l3 (l4 + 1) μ)))
  else (
    mk242_86_99_4 X Q u l2 (l3 + 1) μ)) : mk242_86_99_17 X Q u l2 l3 l4 μ :=
  fun o5 => ms_run (stop := ms242_86_99) (by decide) rfl (fun _ _ _ _ _ _ h => h) 89 17 _ _ _ _ _ (And.intro (⟨by decide, by decide⟩ : (0 : Int) ≤ 0 ∧ (0 : Int) < 394) (mi_ite (fun h213 => (mc185 (And.intro h213.1 (mc192_86 h213.2.1 (And.intro (⟨by decide, by decide⟩ : (0 : Int) ≤ 0 ∧ (0 : Int) < 394) (mi_ite (fun h214 => (mc185 (And.intro h214.1 (mc239_86 (And.intro (⟨by decide, by decide⟩ : (0 : Int) ≤ 1 ∧ (1 : Int) < 394) (mi_ite (fun h215 => (mc185 (And.intro h215.1 (mc239_86 (h215.2 _))))) (fun h215 => (h215 _)) h214.2)))))) (fun h214 => (And.intro (⟨by decide, by decide⟩ : (0 : Int) ≤ 1 ∧ (1 : Int) < 394) (mi_ite (fun h216 => (mc185 (And.intro h216.1 (mc239_86 (h216.2 _))))) (fun h216 => (h216 _)) h214))) h213.2.2)))))) (fun h213 => (h213 _ _)) h))
-- TwoViewsModel.energyOf([I)I (86, 95)
noncomputable def mk242_86_95_4 (X : mi_X) (Q : mi_R → mi_G → mi_M → Prop) (u : mi_U) (l2 l3 : Int) (μ : mi_M) : Prop := ∀ o4 o5 : Option mi_V, mi_ok X 242 mi_G0 Q 4 [some (.inr (.inl (some 86))), some (.inr (.inl (some 95))), some (.inl l2), some (.inl l3), o4, o5] [] mi_G0 μ u
noncomputable def mk242_86_95_17 (X : mi_X) (Q : mi_R → mi_G → mi_M → Prop) (u : mi_U) (l2 l3 l4 : Int) (μ : mi_M) : Prop := ∀ o5 : Option mi_V, mi_ok X 242 mi_G0 Q 17 [some (.inr (.inl (some 86))), some (.inr (.inl (some 95))), some (.inl l2), some (.inl l3), some (.inl l4), o5] [] mi_G0 μ u
def ms242_86_95 (pc : Nat) : Bool := Nat.beq pc 4 || Nat.beq pc 17
theorem me242_86_95 {X : mi_X} {Q : mi_R → mi_G → mi_M → Prop} {u : mi_U} {μ : mi_M} (h :
  mk242_86_95_4 X Q u 0 0 μ) : mi_cok X 242 [(.inr (.inl (some 86))), (.inr (.inl (some 95)))] mi_G0 μ u Q :=
  mi_enter (by decide) (by decide) rfl rfl (ms_run (stop := ms242_86_95) (by decide) rfl (fun _ _ _ _ _ _ h => h) 89 0 _ _ _ _ _ (h _ _))
theorem mh242_86_95_4 {X : mi_X} {Q : mi_R → mi_G → mi_M → Prop} {u : mi_U} {l2 l3 : Int} {μ : mi_M} (h :
  if mi_wr l3 < mi_wr (μ 87 1) then (
    mk242_86_95_17 X Q u l2 l3 0 μ)
  else (
    Q (.inl (some (.inl l2))) mi_G0 μ)) : mk242_86_95_4 X Q u l2 l3 μ :=
  fun o4 o5 => ms_run (stop := ms242_86_95) (by decide) rfl (fun _ _ _ _ _ _ h => h) 89 4 _ _ _ _ _ (And.intro (⟨by decide, by decide⟩ : (0 : Int) ≤ 1 ∧ (1 : Int) < 394) (mi_ite (fun h217 => (h217 _)) (fun h217 => h217) h))
theorem mh242_86_95_17 {X : mi_X} {Q : mi_R → mi_G → mi_M → Prop} {u : mi_U} {l2 l3 l4 : Int} {μ : mi_M} (h :
  if mi_wr l4 < mi_wr (μ 87 0) then (
    (0 ≤ (mv185 0 l4 l3 μ) ∧ (mv185 0 l4 l3 μ) < 384) ∧
    mp192_86 l4 l3 (μ 95 (mv185 0 l4 l3 μ)) μ ∧
    if mi_wr (l4 + 1) < mi_wr (μ 87 0) then (
      (0 ≤ (mv185 0 (l4 + 1) l3 μ) ∧ (mv185 0 (l4 + 1) l3 μ) < 384) ∧
      if mi_wr (l3 + 1) < mi_wr (μ 87 1) then (
        (0 ≤ (mv185 0 l4 (l3 + 1) μ) ∧ (mv185 0 l4 (l3 + 1) μ) < 384) ∧
        mk242_86_95_17 X Q u (((l2 + (mv192_86 l4 l3 (μ 95 (mv185 0 l4 l3 μ)) μ)) + (mv239_86 (μ 95 (mv185 0 l4 l3 μ)) (μ 95 (mv185 0 (l4 + 1) l3 μ)) μ)) + (mv239_86 (μ 95 (mv185 0 l4 l3 μ)) (μ 95 (mv185 0 l4 (l3 + 1) μ)) μ)) l3 (l4 + 1) μ)
      else (
        mk242_86_95_17 X Q u (((l2 + (mv192_86 l4 l3 (μ 95 (mv185 0 l4 l3 μ)) μ)) + (mv239_86 (μ 95 (mv185 0 l4 l3 μ)) (μ 95 (mv185 0 (l4 + 1) l3 μ)) μ)) + 0) l3 (l4 + 1) μ))
    else (
      if mi_wr (l3 + 1) < mi_wr (μ 87 1) then (
        (0 ≤ (mv185 0 l4 (l3 + 1) μ) ∧ (mv185 0 l4 (l3 + 1) μ) < 384) ∧
        mk242_86_95_17 X Q u (((l2 + (mv192_86 l4 l3 (μ 95 (mv185 0 l4 l3 μ)) μ)) + 0) + (mv239_86 (μ 95 (mv185 0 l4 l3 μ)) (μ 95 (mv185 0 l4 (l3 + 1) μ)) μ)) l3 (l4 + 1) μ)
      else (
        mk242_86_95_17 X Q u (((l2 + (mv192_86 l4 l3 (μ 95 (mv185 0 l4 l3 μ)) μ)) + 0) + 0) l3 (l4 + 1) μ)))
  else (
    mk242_86_95_4 X Q u l2 (l3 + 1) μ)) : mk242_86_95_17 X Q u l2 l3 l4 μ :=
  fun o5 => ms_run (stop := ms242_86_95) (by decide) rfl (fun _ _ _ _ _ _ h => h) 89 17 _ _ _ _ _ (And.intro (⟨by decide, by decide⟩ : (0 : Int) ≤ 0 ∧ (0 : Int) < 394) (mi_ite (fun h218 => (mc185 (And.intro h218.1 (mc192_86 h218.2.1 (And.intro (⟨by decide, by decide⟩ : (0 : Int) ≤ 0 ∧ (0 : Int) < 394) (mi_ite (fun h219 => (mc185 (And.intro h219.1 (mc239_86 (And.intro (⟨by decide, by decide⟩ : (0 : Int) ≤ 1 ∧ (1 : Int) < 394) (mi_ite (fun h220 => (mc185 (And.intro h220.1 (mc239_86 (h220.2 _))))) (fun h220 => (h220 _)) h219.2)))))) (fun h219 => (And.intro (⟨by decide, by decide⟩ : (0 : Int) ≤ 1 ∧ (1 : Int) < 394) (mi_ite (fun h221 => (mc185 (And.intro h221.1 (mc239_86 (h221.2 _))))) (fun h221 => (h221 _)) h219))) h218.2.2)))))) (fun h218 => (h218 _ _)) h))
-- TwoViewsModel.layerAt(III)I (86,)
noncomputable def mk176_86_6 (X : mi_X) (Q : mi_R → mi_G → mi_M → Prop) (u : mi_U) (l1 l2 l3 l4 l5 : Int) (μ : mi_M) : Prop := ∀ o6 o7 : Option mi_V, mi_ok X 176 mi_G0 Q 6 [some (.inr (.inl (some 86))), some (.inl l1), some (.inl l2), some (.inl l3), some (.inl l4), some (.inl l5), o6, o7] [] mi_G0 μ u
def ms176_86 (pc : Nat) : Bool := Nat.beq pc 6
theorem me176_86 {X : mi_X} {Q : mi_R → mi_G → mi_M → Prop} {u : mi_U} {a0 a1 a2 : Int} {μ : mi_M} (h :
  mk176_86_6 X Q u a0 a1 a2 (-1) 0 μ) : mi_cok X 176 [(.inr (.inl (some 86))), (.inl a0), (.inl a1), (.inl a2)] mi_G0 μ u Q :=
  mi_enter (by decide) (by decide) rfl rfl (ms_run (stop := ms176_86) (by decide) rfl (fun _ _ _ _ _ _ h => h) 64 0 _ _ _ _ _ (h _ _))
theorem mh176_86_6 {X : mi_X} {Q : mi_R → mi_G → mi_M → Prop} {u : mi_U} {l1 l2 l3 l4 l5 : Int} {μ : mi_M} (h :
  if mi_wr l5 < mi_wr (μ 86 5) then (
    mp175_86 l5 l1 μ ∧
    (0 ≤ ((6 * l5) + 1) ∧ ((6 * l5) + 1) < 36) ∧
    (0 ≤ ((6 * l5) + 2) ∧ ((6 * l5) + 2) < 36) ∧
    if mi_wr (mv144 (l2 - (mv175_86 l5 l1 μ)) 0 ((μ 89 ((6 * l5) + 2)) - 1) μ) = 0 then (
      mk176_86_6 X Q u l1 l2 l3 l4 (l5 + 1) μ)
    else (
      (0 ≤ ((6 * l5) + 3) ∧ ((6 * l5) + 3) < 36) ∧
      mk176_86_6 X Q u l1 l2 l3 (if mi_wr (mv144 (l3 - (μ 89 ((6 * l5) + 1))) 0 ((μ 89 ((6 * l5) + 3)) - 1) μ) = 0 then l4 else l5) (l5 + 1) μ))
  else (
    Q (.inl (some (.inl l4))) mi_G0 μ)) : mk176_86_6 X Q u l1 l2 l3 l4 l5 μ :=
  fun o6 o7 => ms_run (stop := ms176_86) (by decide) rfl (fun _ _ _ _ _ _ h => h) 64 6 _ _ _ _ _ (mi_ite (fun h222 => (mc175_86 h222.1 (And.intro h222.2.1 (And.intro h222.2.2.1 (mc144 (mi_ite (fun h223 => (h223 _ _)) (fun h223 => (And.intro h223.1 (mc144 (mi_dt (fun h224 => ((mi_mp (P := fun z => mk176_86_6 X Q u l1 l2 l3 z (l5 + 1) μ) h224 h223.2) _ _)) (fun h224 => ((mi_mn (P := fun z => mk176_86_6 X Q u l1 l2 l3 z (l5 + 1) μ) h224 h223.2) _ _)))))) h222.2.2.2)))))) (fun h222 => h222) h)
