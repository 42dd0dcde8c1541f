/-! PRINTED by wip/whole/gen: heads of methods -/
-- TwoViews$Pieces.greatest(I)I (76,)
noncomputable def mp58_76 (a0 : Int) (μ : mi_M) : Prop := (mp59_76 a0 0 μ ∧ (if mi_wr (mv59_76 a0 0 μ) = mi_wr (-1) then True else (0 ≤ ((a0 * 192) + (mv59_76 a0 0 μ)) ∧ ((a0 * 192) + (mv59_76 a0 0 μ)) < 384)))
noncomputable def mv58_76 (a0 : Int) (μ : mi_M) : Int := (if mi_wr (mv59_76 a0 0 μ) = mi_wr (-1) then 0 else (μ 78 ((a0 * 192) + (mv59_76 a0 0 μ))))
theorem mc58_76 {X : mi_X} {Q : mi_R → mi_G → mi_M → Prop} {u : mi_U} {a0 : Int} {μ : mi_M} (hp : mp58_76 a0 μ) (hq : Q (.inl (some (.inl (mv58_76 a0 μ)))) mi_G0 μ) : mi_cok X 58 [(.inr (.inl (some 76))), (.inl a0)] mi_G0 μ u Q :=
  mi_enter (by decide) (by decide) rfl rfl (ms_run (stop := fun _ => false) (by decide) rfl (fun _ _ _ _ _ _ h => h) 21 0 _ _ _ _ _ (mc59_76 hp.1 (mi_dt (fun h203 => (have p203 := Eq.mp (if_pos h203) hp.2; (mi_tr (if_pos h203) rfl hq))) (fun h203 => (have p203 := Eq.mp (if_neg h203) hp.2; (And.intro p203 (mi_tr (if_neg h203) rfl hq)))))))
-- TwoViews$Lines.bestLine(I)I (84,)
noncomputable def mk10_84_19 (X : mi_X) (Q : mi_R → mi_G → mi_M → Prop) (u : mi_U) (l1 l2 l3 l4 l5 : Int) (μ : mi_M) : Prop := ∀ o6 o7 : Option mi_V, mi_ok X 10 mi_G0 Q 19 [some (.inr (.inl (some 84))), some (.inl l1), some (.inl l2), some (.inl l3), some (.inl l4), some (.inl l5), o6, o7] [] mi_G0 μ u
noncomputable def mk10_84_29 (X : mi_X) (Q : mi_R → mi_G → mi_M → Prop) (u : mi_U) (l1 l2 l3 l4 l5 l6 : Int) (μ : mi_M) : Prop := ∀ o7 : Option mi_V, mi_ok X 10 mi_G0 Q 29 [some (.inr (.inl (some 84))), some (.inl l1), some (.inl l2), some (.inl l3), some (.inl l4), some (.inl l5), some (.inl l6), o7] [] mi_G0 μ u
def ms10_84 (pc : Nat) : Bool := Nat.beq pc 19 || Nat.beq pc 29
theorem me10_84 {X : mi_X} {Q : mi_R → mi_G → mi_M → Prop} {u : mi_U} {a0 : Int} {μ : mi_M} (h :
  mp8_84 μ ∧
  (∀ (v0 : Int) (μ0 : mi_M), mq8_84 μ v0 μ0 →
  if mi_wr v0 = 0 then (
    Q (.inl (some (.inl (-1)))) mi_G0 μ0)
  else (
    mk10_84_19 X Q u a0 0 0 (-1) 0 μ0))) : mi_cok X 10 [(.inr (.inl (some 84))), (.inl a0)] mi_G0 μ u Q :=
  mi_enter (by decide) (by decide) rfl rfl (ms_run (stop := ms10_84) (by decide) rfl (fun _ _ _ _ _ _ h => h) 58 0 _ _ _ _ _ (mc8_84 h.1 (fun v0 μ0 h204 => (have h205 := (h.2 v0 μ0 h204); (mi_ite (fun h206 => h206) (fun h206 => (h206 _ _)) h205)))))
theorem mh10_84_19 {X : mi_X} {Q : mi_R → mi_G → mi_M → Prop} {u : mi_U} {l1 l2 l3 l4 l5 : Int} {μ : mi_M} (h :
  if mi_wr 8 < mi_wr l5 then (
    Q (.inl (some (.inl (if mi_wr l1 = mi_wr 2 then l4 else (if mi_wr l1 = 0 then l2 else l3))))) mi_G0 μ)
  else (
    mk10_84_29 X Q u l1 l2 l3 l4 l5 0 μ)) : mk10_84_19 X Q u l1 l2 l3 l4 l5 μ :=
  fun o6 o7 => ms_run (stop := ms10_84) (by decide) rfl (fun _ _ _ _ _ _ h => h) 58 19 _ _ _ _ _ (mi_ite (fun h207 => (mi_dt (fun h208 => (mi_mp (P := fun z => Q (.inl (some (.inl z))) mi_G0 μ) h208 h207)) (fun h208 => (mi_dt (fun h209 => (mi_mp (P := fun z => Q (.inl (some (.inl z))) mi_G0 μ) h209 (mi_mn (P := fun z => Q (.inl (some (.inl z))) mi_G0 μ) h208 h207))) (fun h209 => (mi_mn (P := fun z => Q (.inl (some (.inl z))) mi_G0 μ) h209 (mi_mn (P := fun z => Q (.inl (some (.inl z))) mi_G0 μ) h208 h207))))))) (fun h207 => (h207 _)) h)
theorem mh10_84_29 {X : mi_X} {Q : mi_R → mi_G → mi_M → Prop} {u : mi_U} {l1 l2 l3 l4 l5 l6 : Int} {μ : mi_M} (h :
  if mi_wr (8 * (μ 2 0)) < mi_wr l6 then (
    mk10_84_19 X Q u l1 l2 l3 l4 (l5 + 1) μ)
  else (
    mp9_84 l6 l5 μ ∧
    if mi_wr l4 < mi_wr (mv9_84 l6 l5 μ) then (
      mk10_84_29 X Q u l1 l6 l5 (mv9_84 l6 l5 μ) l5 (l6 + 1) μ)
    else (
      mk10_84_29 X Q u l1 l2 l3 l4 l5 (l6 + 1) μ))) : mk10_84_29 X Q u l1 l2 l3 l4 l5 l6 μ :=
  fun o7 => ms_run (stop := ms10_84) (by decide) rfl (fun _ _ _ _ _ _ h => h) 58 29 _ _ _ _ _ (And.intro (⟨by decide, by decide⟩ : (0 : Int) ≤ 0 ∧ (0 : Int) < 8) (mi_ite (fun h210 => (h210 _ _)) (fun h210 => (mc9_84 h210.1 (mi_ite (fun h211 => (h211 _)) (fun h211 => (h211 _)) h210.2))) h))
-- TwoViews.needPlace(III)V (0,)
def ms138_0 (pc : Nat) : Bool := false
theorem me138_0 {X : mi_X} {Q : mi_R → mi_G → mi_M → Prop} {u : mi_U} {a0 a1 a2 : Int} {μ : mi_M} (h :
  if mi_wr (mv87_1 a0 a1 a2 μ) = 0 then (
    (1 ≤ (u).1 ∧ 6 ≤ (u).2) ∧
    Q (.inr ()) mi_G0 μ)
  else (
    Q (.inl none) mi_G0 μ)) : mi_cok X 138 [(.inr (.inl (some 0))), (.inl a0), (.inl a1), (.inl a2)] mi_G0 μ u Q :=
  mi_enter (by decide) (by decide) rfl rfl (ms_run (stop := ms138_0) (by decide) rfl (fun _ _ _ _ _ _ h => h) 11 0 _ _ _ _ _ (mc87_1 (mi_ite (fun h212 => (And.intro h212.1 h212.2)) (fun h212 => h212) h)))
