/-! PRINTED by wip/whole/gen: heads of methods -/
-- TwoViews$Maps.lesserBeside(III)I (71,)
noncomputable def mp23_71 (a0 : Int) (a1 : Int) (a2 : Int) (μ : mi_M) : Prop := (mp25_71 a0 a1 a2 1 μ ∧ (mp25_71 a0 a1 a2 0 μ))
noncomputable def mv23_71 (a0 : Int) (a1 : Int) (a2 : Int) (μ : mi_M) : Int := (if mi_wr (mv25_71 a0 a1 a2 1 μ) = mi_wr (-1) then (mv260 (mv25_71 a0 a1 a2 0 μ) 0 μ) else (if mi_wr (mv25_71 a0 a1 a2 0 μ) = mi_wr (-1) then (mv25_71 a0 a1 a2 1 μ) else (mv261 (mv25_71 a0 a1 a2 1 μ) (mv25_71 a0 a1 a2 0 μ) μ)))
theorem mc23_71 {X : mi_X} {Q : mi_R → mi_G → mi_M → Prop} {u : mi_U} {a0 a1 a2 : Int} {μ : mi_M} (hp : mp23_71 a0 a1 a2 μ) (hq : Q (.inl (some (.inl (mv23_71 a0 a1 a2 μ)))) mi_G0 μ) : mi_cok X 23 [(.inr (.inl (some 71))), (.inl a0), (.inl a1), (.inl a2)] mi_G0 μ u Q :=
  mi_enter (by decide) (by decide) rfl rfl (ms_run (stop := fun _ => false) (by decide) rfl (fun _ _ _ _ _ _ h => h) 32 0 _ _ _ _ _ (mc25_71 hp.1 (mc25_71 hp.2 (mi_dt (fun h158 => (mc260 (mi_tr (if_pos h158) rfl hq))) (fun h158 => (mi_dt (fun h159 => (mi_tr (Eq.trans (if_neg h158) (if_pos h159)) rfl hq)) (fun h159 => (mc261 (mi_tr (Eq.trans (if_neg h158) (if_neg h159)) rfl hq)))))))))
-- TwoViewsModel.hiddenFill(III)I (86,)
noncomputable def mp226_86 (a0 : Int) (a1 : Int) (a2 : Int) (μ : mi_M) : Prop := (mp225_86 a0 a1 a2 (-1) 0 μ ∧ (mp225_86 a0 a1 a2 1 0 μ))
noncomputable def mv226_86 (a0 : Int) (a1 : Int) (a2 : Int) (μ : mi_M) : Int := (if mi_wr (mv225_86 a0 a1 a2 (-1) 0 μ) < 0 then (if mi_wr (mv225_86 a0 a1 a2 (-1) 0 μ) < 0 then (if mi_wr (mv225_86 a0 a1 a2 1 0 μ) < 0 then 0 else (if mi_wr (mv225_86 a0 a1 a2 (-1) 0 μ) < 0 then (mv225_86 a0 a1 a2 1 0 μ) else (mv225_86 a0 a1 a2 (-1) 0 μ))) else (if mi_wr (mv225_86 a0 a1 a2 (-1) 0 μ) < 0 then (mv225_86 a0 a1 a2 1 0 μ) else (mv225_86 a0 a1 a2 (-1) 0 μ))) else (if mi_wr (mv225_86 a0 a1 a2 1 0 μ) < 0 then (if mi_wr (mv225_86 a0 a1 a2 (-1) 0 μ) < 0 then (if mi_wr (mv225_86 a0 a1 a2 1 0 μ) < 0 then 0 else (if mi_wr (mv225_86 a0 a1 a2 (-1) 0 μ) < 0 then (mv225_86 a0 a1 a2 1 0 μ) else (mv225_86 a0 a1 a2 (-1) 0 μ))) else (if mi_wr (mv225_86 a0 a1 a2 (-1) 0 μ) < 0 then (mv225_86 a0 a1 a2 1 0 μ) else (mv225_86 a0 a1 a2 (-1) 0 μ))) else (if mi_wr (mv225_86 a0 a1 a2 (-1) 0 μ) < mi_wr (mv225_86 a0 a1 a2 1 0 μ) then (mv225_86 a0 a1 a2 (-1) 0 μ) else (mv225_86 a0 a1 a2 1 0 μ))))
theorem mc226_86 {X : mi_X} {Q : mi_R → mi_G → mi_M → Prop} {u : mi_U} {a0 a1 a2 : Int} {μ : mi_M} (hp : mp226_86 a0 a1 a2 μ) (hq : Q (.inl (some (.inl (mv226_86 a0 a1 a2 μ)))) mi_G0 μ) : mi_cok X 226 [(.inr (.inl (some 86))), (.inl a0), (.inl a1), (.inl a2)] mi_G0 μ u Q :=
  mi_enter (by decide) (by decide) rfl rfl (ms_run (stop := fun _ => false) (by decide) rfl (fun _ _ _ _ _ _ h => h) 41 0 _ _ _ _ _ (mc225_86 hp.1 (mc225_86 hp.2 (mi_dt (fun h160 => (mi_dt (fun h161 => (mi_dt (fun h162 => (mi_tr (Eq.trans (Eq.trans (if_pos h160) (if_pos h161)) (if_pos h162)) rfl hq)) (fun h162 => (mi_dt (fun h163 => (mi_tr (Eq.trans (Eq.trans (Eq.trans (if_pos h160) (if_pos h161)) (if_neg h162)) (if_pos h163)) rfl hq)) (fun h163 => (mi_tr (Eq.trans (Eq.trans (Eq.trans (if_pos h160) (if_pos h161)) (if_neg h162)) (if_neg h163)) rfl hq)))))) (fun h161 => (mi_dt (fun h164 => (mi_tr (Eq.trans (Eq.trans (if_pos h160) (if_neg h161)) (if_pos h164)) rfl hq)) (fun h164 => (mi_tr (Eq.trans (Eq.trans (if_pos h160) (if_neg h161)) (if_neg h164)) rfl hq)))))) (fun h160 => (mi_dt (fun h165 => (mi_dt (fun h166 => (mi_dt (fun h167 => (mi_tr (Eq.trans (Eq.trans (Eq.trans (if_neg h160) (if_pos h165)) (if_pos h166)) (if_pos h167)) rfl hq)) (fun h167 => (mi_dt (fun h168 => (mi_tr (Eq.trans (Eq.trans (Eq.trans (Eq.trans (if_neg h160) (if_pos h165)) (if_pos h166)) (if_neg h167)) (if_pos h168)) rfl hq)) (fun h168 => (mi_tr (Eq.trans (Eq.trans (Eq.trans (Eq.trans (if_neg h160) (if_pos h165)) (if_pos h166)) (if_neg h167)) (if_neg h168)) rfl hq)))))) (fun h166 => (mi_dt (fun h169 => (mi_tr (Eq.trans (Eq.trans (Eq.trans (if_neg h160) (if_pos h165)) (if_neg h166)) (if_pos h169)) rfl hq)) (fun h169 => (mi_tr (Eq.trans (Eq.trans (Eq.trans (if_neg h160) (if_pos h165)) (if_neg h166)) (if_neg h169)) rfl hq)))))) (fun h165 => (mi_dt (fun h170 => (mi_tr (Eq.trans (Eq.trans (if_neg h160) (if_neg h165)) (if_pos h170)) rfl hq)) (fun h170 => (mi_tr (Eq.trans (Eq.trans (if_neg h160) (if_neg h165)) (if_neg h170)) rfl hq))))))))))
-- TwoViews$Maps.middleAround(III)I (71,)
noncomputable def mk24_71_3 (X : mi_X) (Q : mi_R → mi_G → mi_M → Prop) (u : mi_U) (l1 l2 l3 l4 : Int) (μ : mi_M) : Prop := ∀ o5 o6 : Option mi_V, mi_ok X 24 mi_G0 Q 3 [some (.inr (.inl (some 71))), some (.inl l1), some (.inl l2), some (.inl l3), some (.inl l4), o5, o6] [] mi_G0 μ u
noncomputable def mk24_71_30 (X : mi_X) (Q : mi_R → mi_G → mi_M → Prop) (u : mi_U) (l1 l2 l3 l4 l5 : Int) (μ : mi_M) : Prop := ∀ o6 : Option mi_V, mi_ok X 24 mi_G0 Q 30 [some (.inr (.inl (some 71))), some (.inl l1), some (.inl l2), some (.inl l3), some (.inl l4), some (.inl l5), o6] [] mi_G0 μ u
noncomputable def mk24_71_80 (X : mi_X) (Q : mi_R → mi_G → mi_M → Prop) (u : mi_U) (l4 l5 l6 : Int) (μ : mi_M) : Prop := ∀ o1 o2 o3 : Option mi_V, mi_ok X 24 mi_G0 Q 80 [some (.inr (.inl (some 71))), o1, o2, o3, some (.inl l4), some (.inl l5), some (.inl l6)] [] mi_G0 μ u
def ms24_71 (pc : Nat) : Bool := Nat.beq pc 3 || Nat.beq pc 30 || Nat.beq pc 80
theorem me24_71 {X : mi_X} {Q : mi_R → mi_G → mi_M → Prop} {u : mi_U} {a0 a1 a2 : Int} {μ : mi_M} (h :
  mk24_71_3 X Q u a0 a1 a2 0 μ) : mi_cok X 24 [(.inr (.inl (some 71))), (.inl a0), (.inl a1), (.inl a2)] mi_G0 μ u Q :=
  mi_enter (by decide) (by decide) rfl rfl (ms_run (stop := ms24_71) (by decide) rfl (fun _ _ _ _ _ _ h => h) 69 0 _ _ _ _ _ (h _ _))
theorem mh24_71_3 {X : mi_X} {Q : mi_R → mi_G → mi_M → Prop} {u : mi_U} {l1 l2 l3 l4 : Int} {μ : mi_M} (h :
  if mi_wr l4 < mi_wr 8 then (
    (0 ≤ l4 ∧ l4 < 8) ∧
    mk24_71_3 X Q u l1 l2 l3 (l4 + 1) (mi_set μ 75 l4 0))
  else (
    mk24_71_30 X Q u l1 l2 l3 0 0 μ)) : mk24_71_3 X Q u l1 l2 l3 l4 μ :=
  fun o5 o6 => ms_run (stop := ms24_71) (by decide) rfl (fun _ _ _ _ _ _ h => h) 69 3 _ _ _ _ _ (mi_ite (fun h171 => (And.intro h171.1 (h171.2 _ _))) (fun h171 => (h171 _)) h)
theorem mh24_71_30 {X : mi_X} {Q : mi_R → mi_G → mi_M → Prop} {u : mi_U} {l1 l2 l3 l4 l5 : Int} {μ : mi_M} (h :
  if mi_wr l5 < mi_wr 8 then (
    mp25_71 l1 l2 l3 l5 μ ∧
    if mi_wr (mv25_71 l1 l2 l3 l5 μ) = mi_wr (-1) then (
      mk24_71_30 X Q u l1 l2 l3 l4 (l5 + 1) μ)
    else (
      (0 ≤ (mv25_71 l1 l2 l3 l5 μ) ∧ (mv25_71 l1 l2 l3 l5 μ) < 8) ∧
      (0 ≤ (mv25_71 l1 l2 l3 l5 μ) ∧ (mv25_71 l1 l2 l3 l5 μ) < 8) ∧
      mk24_71_30 X Q u l1 l2 l3 (l4 + 1) (l5 + 1) (mi_set μ 75 (mv25_71 l1 l2 l3 l5 μ) ((μ 75 (mv25_71 l1 l2 l3 l5 μ)) + 1))))
  else (
    mk24_71_80 X Q u l4 0 0 μ)) : mk24_71_30 X Q u l1 l2 l3 l4 l5 μ :=
  fun o6 => ms_run (stop := ms24_71) (by decide) rfl (fun _ _ _ _ _ _ h => h) 69 30 _ _ _ _ _ (mi_ite (fun h172 => (mc25_71 h172.1 (mi_ite (fun h173 => (h173 _)) (fun h173 => (And.intro h173.1 (And.intro h173.2.1 (h173.2.2 _)))) h172.2))) (fun h172 => (h172 _ _ _)) h)
theorem mh24_71_80 {X : mi_X} {Q : mi_R → mi_G → mi_M → Prop} {u : mi_U} {l4 l5 l6 : Int} {μ : mi_M} (h :
  if mi_wr l6 < mi_wr 8 then (
    (0 ≤ l6 ∧ l6 < 8) ∧
    if 0 < mi_wr l4 then (
      if mi_wr (2 * (l5 + (μ 75 l6))) < mi_wr l4 then (
        mk24_71_80 X Q u l4 (l5 + (μ 75 l6)) (l6 + 1) μ)
      else (
        Q (.inl (some (.inl l6))) mi_G0 μ))
    else (
      mk24_71_80 X Q u l4 (l5 + (μ 75 l6)) (l6 + 1) μ))
  else (
    Q (.inl (some (.inl 0))) mi_G0 μ)) : mk24_71_80 X Q u l4 l5 l6 μ :=
  fun o1 o2 o3 => ms_run (stop := ms24_71) (by decide) rfl (fun _ _ _ _ _ _ h => h) 69 80 _ _ _ _ _ (mi_ite (fun h174 => (And.intro h174.1 (mi_ite (fun h175 => (mi_ite (fun h176 => (h176 _ _ _)) (fun h176 => h176) h175)) (fun h175 => (h175 _ _ _)) h174.2))) (fun h174 => h174) h)
-- TwoViewsModel.unlikeFill(III)I (86,)
noncomputable def mk227_86_9 (X : mi_X) (Q : mi_R → mi_G → mi_M → Prop) (u : mi_U) (l1 l2 l3 l4 l5 l6 : Int) (μ : mi_M) : Prop := ∀ o7 : Option mi_V, mi_ok X 227 mi_G0 Q 9 [some (.inr (.inl (some 86))), some (.inl l1), some (.inl l2), some (.inl l3), some (.inl l4), some (.inl l5), some (.inl l6), o7] [] mi_G0 μ u
noncomputable def mk227_86_71 (X : mi_X) (Q : mi_R → mi_G → mi_M → Prop) (u : mi_U) (l4 l5 l6 l7 : Int) (μ : mi_M) : Prop := ∀ o0 o1 o2 o3 : Option mi_V, mi_ok X 227 mi_G0 Q 71 [o0, o1, o2, o3, some (.inl l4), some (.inl l5), some (.inl l6), some (.inl l7)] [] mi_G0 μ u
def ms227_86 (pc : Nat) : Bool := Nat.beq pc 9 || Nat.beq pc 71
theorem me227_86 {X : mi_X} {Q : mi_R → mi_G → mi_M → Prop} {u : mi_U} {a0 a1 a2 : Int} {μ : mi_M} (h :
  mk227_86_9 X Q u a0 a1 a2 0 0 0 μ) : mi_cok X 227 [(.inr (.inl (some 86))), (.inl a0), (.inl a1), (.inl a2)] mi_G0 μ u Q :=
  mi_enter (by decide) (by decide) rfl rfl (ms_run (stop := ms227_86) (by decide) rfl (fun _ _ _ _ _ _ h => h) 65 0 _ _ _ _ _ (h _))
theorem mh227_86_9 {X : mi_X} {Q : mi_R → mi_G → mi_M → Prop} {u : mi_U} {l1 l2 l3 l4 l5 l6 : Int} {μ : mi_M} (h :
  if mi_wr l6 < mi_wr 8 then (
    mp225_86 l1 l2 l3 (mv195 l6 μ) (mv196 l6 μ) μ ∧
    if mi_wr (mv225_86 l1 l2 l3 (mv195 l6 μ) (mv196 l6 μ) μ) < 0 then (
      mk227_86_9 X Q u l1 l2 l3 l4 l5 (l6 + 1) μ)
    else (
      mk227_86_9 X Q u l1 l2 l3 (l4 + 1) (l5 + (mi_shl 1 (4 * (mv225_86 l1 l2 l3 (mv195 l6 μ) (mv196 l6 μ) μ)))) (l6 + 1) μ))
  else (
    mk227_86_71 X Q u l4 l5 (mi_div (l4 - 1) 2) 0 μ)) : mk227_86_9 X Q u l1 l2 l3 l4 l5 l6 μ :=
  fun o7 => ms_run (stop := ms227_86) (by decide) rfl (fun _ _ _ _ _ _ h => h) 65 9 _ _ _ _ _ (mi_ite (fun h177 => (mc195 (mc196 (mc225_86 h177.1 (mi_ite (fun h178 => (h178 _)) (fun h178 => (h178 _)) h177.2))))) (fun h177 => (And.intro (by decide : mi_wr 2 ≠ 0) (h177 _ _ _ _))) h)
theorem mh227_86_71 {X : mi_X} {Q : mi_R → mi_G → mi_M → Prop} {u : mi_U} {l4 l5 l6 l7 : Int} {μ : mi_M} (h :
  if mi_wr l7 < mi_wr 8 then (
    if 0 < mi_wr l4 then (
      if mi_wr (l6 - (mi_and (mi_ushr l5 (4 * l7)) 15)) < 0 then (
        Q (.inl (some (.inl l7))) mi_G0 μ)
      else (
        mk227_86_71 X Q u l4 l5 (l6 - (mi_and (mi_ushr l5 (4 * l7)) 15)) (l7 + 1) μ))
    else (
      Q (.inl (some (.inl 0))) mi_G0 μ))
  else (
    Q (.inl (some (.inl 0))) mi_G0 μ)) : mk227_86_71 X Q u l4 l5 l6 l7 μ :=
  fun o0 o1 o2 o3 => ms_run (stop := ms227_86) (by decide) rfl (fun _ _ _ _ _ _ h => h) 65 71 _ _ _ _ _ (mi_ite (fun h179 => (mi_ite (fun h180 => (mi_ite (fun h181 => h181) (fun h181 => (h181 _ _ _ _)) h180)) (fun h180 => h180) h179)) (fun h179 => h179) h)
