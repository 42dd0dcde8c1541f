/-! PRINTED by wip/whole/gen: heads of methods -/
-- TwoViewsModel.laysPieces(I)V (86,)
noncomputable def mk212_86_6 (X : mi_X) (Q : mi_R → mi_G → mi_M → Prop) (u : mi_U) (l1 l2 : Int) (μ : mi_M) : Prop := ∀ o3 o4 o5 o6 : Option mi_V, mi_ok X 212 mi_G0 Q 6 [some (.inr (.inl (some 86))), some (.inl l1), some (.inl l2), o3, o4, o5, o6] [] mi_G0 μ u
noncomputable def mk212_86_39 (X : mi_X) (Q : mi_R → mi_G → mi_M → Prop) (u : mi_U) (l1 l2 : Int) (μ : mi_M) : Prop := ∀ o3 o4 o5 o6 : Option mi_V, mi_ok X 212 mi_G0 Q 39 [some (.inr (.inl (some 86))), some (.inl l1), some (.inl l2), o3, o4, o5, o6] [] mi_G0 μ u
noncomputable def mk212_86_186 (X : mi_X) (Q : mi_R → mi_G → mi_M → Prop) (u : mi_U) (l1 l3 : Int) (μ : mi_M) : Prop := ∀ o2 o4 o5 o6 : Option mi_V, mi_ok X 212 mi_G0 Q 186 [some (.inr (.inl (some 86))), some (.inl l1), o2, some (.inl l3), o4, o5, o6] [] mi_G0 μ u
noncomputable def mk212_86_47 (X : mi_X) (Q : mi_R → mi_G → mi_M → Prop) (u : mi_U) (l1 l2 l3 : Int) (μ : mi_M) : Prop := ∀ o4 o5 o6 : Option mi_V, mi_ok X 212 mi_G0 Q 47 [some (.inr (.inl (some 86))), some (.inl l1), some (.inl l2), some (.inl l3), o4, o5, o6] [] mi_G0 μ u
noncomputable def mk212_86_199 (X : mi_X) (Q : mi_R → mi_G → mi_M → Prop) (u : mi_U) (l1 l3 l4 : Int) (μ : mi_M) : Prop := ∀ o2 o5 o6 : Option mi_V, mi_ok X 212 mi_G0 Q 199 [some (.inr (.inl (some 86))), some (.inl l1), o2, some (.inl l3), some (.inl l4), o5, o6] [] mi_G0 μ u
noncomputable def mk212_86_60 (X : mi_X) (Q : mi_R → mi_G → mi_M → Prop) (u : mi_U) (l1 l2 l3 l4 : Int) (μ : mi_M) : Prop := ∀ o5 o6 : Option mi_V, mi_ok X 212 mi_G0 Q 60 [some (.inr (.inl (some 86))), some (.inl l1), some (.inl l2), some (.inl l3), some (.inl l4), o5, o6] [] mi_G0 μ u
noncomputable def mk212_86_247 (X : mi_X) (Q : mi_R → mi_G → mi_M → Prop) (u : mi_U) (l1 l3 l4 l5 : Int) (μ : mi_M) : Prop := ∀ o2 o6 : Option mi_V, mi_ok X 212 mi_G0 Q 247 [some (.inr (.inl (some 86))), some (.inl l1), o2, some (.inl l3), some (.inl l4), some (.inl l5), o6] [] mi_G0 μ u
noncomputable def mk212_86_110 (X : mi_X) (Q : mi_R → mi_G → mi_M → Prop) (u : mi_U) (l1 l2 l3 l4 l5 : Int) (μ : mi_M) : Prop := ∀ o6 : Option mi_V, mi_ok X 212 mi_G0 Q 110 [some (.inr (.inl (some 86))), some (.inl l1), some (.inl l2), some (.inl l3), some (.inl l4), some (.inl l5), o6] [] mi_G0 μ u
noncomputable def mk212_86_149 (X : mi_X) (Q : mi_R → mi_G → mi_M → Prop) (u : mi_U) (l1 l2 l3 l4 l5 l6 : Int) (μ : mi_M) : Prop := mi_ok X 212 mi_G0 Q 149 [some (.inr (.inl (some 86))), some (.inl l1), some (.inl l2), some (.inl l3), some (.inl l4), some (.inl l5), some (.inl l6)] [] mi_G0 μ u
def ms212_86 (pc : Nat) : Bool := Nat.beq pc 6 || Nat.beq pc 39 || Nat.beq pc 47 || Nat.beq pc 60 || Nat.beq pc 110 || Nat.beq pc 149 || Nat.beq pc 186 || Nat.beq pc 199 || Nat.beq pc 247
theorem me212_86 {X : mi_X} {Q : mi_R → mi_G → mi_M → Prop} {u : mi_U} {a0 : Int} {μ : mi_M} (h :
  mk212_86_6 X Q u a0 (192 * a0) μ) : mi_cok X 212 [(.inr (.inl (some 86))), (.inl a0)] mi_G0 μ u Q :=
  mi_enter (by decide) (by decide) rfl rfl (ms_run (stop := ms212_86) (by decide) rfl (fun _ _ _ _ _ _ h => h) 167 0 _ _ _ _ _ (h _ _ _ _))
theorem mh212_86_6 {X : mi_X} {Q : mi_R → mi_G → mi_M → Prop} {u : mi_U} {l1 l2 : Int} {μ : mi_M} (h :
  if mi_wr l2 < mi_wr (192 * (l1 + 1)) then (
    (0 ≤ l2 ∧ l2 < 384) ∧
    (0 ≤ l2 ∧ l2 < 384) ∧
    mk212_86_6 X Q u l1 (l2 + 1) (mi_set (mi_set μ 97 l2 l2) 98 l2 0))
  else (
    mk212_86_39 X Q u l1 1 μ)) : mk212_86_6 X Q u l1 l2 μ :=
  fun o3 o4 o5 o6 => ms_run (stop := ms212_86) (by decide) rfl (fun _ _ _ _ _ _ h => h) 167 6 _ _ _ _ _ (mi_ite (fun h167 => (And.intro h167.1 (And.intro h167.2.1 (h167.2.2 _ _ _ _)))) (fun h167 => (h167 _ _ _ _)) h)
theorem mh212_86_39 {X : mi_X} {Q : mi_R → mi_G → mi_M → Prop} {u : mi_U} {l1 l2 : Int} {μ : mi_M} (h :
  if mi_wr l2 = 0 then (
    mk212_86_186 X Q u l1 0 μ)
  else (
    mk212_86_47 X Q u l1 0 0 μ)) : mk212_86_39 X Q u l1 l2 μ :=
  fun o3 o4 o5 o6 => ms_run (stop := ms212_86) (by decide) rfl (fun _ _ _ _ _ _ h => h) 167 39 _ _ _ _ _ (mi_ite (fun h168 => (h168 _ _ _ _)) (fun h168 => (h168 _ _ _)) h)
theorem mh212_86_186 {X : mi_X} {Q : mi_R → mi_G → mi_M → Prop} {u : mi_U} {l1 l3 : Int} {μ : mi_M} (h :
  if mi_wr l3 < mi_wr (μ 87 1) then (
    mk212_86_199 X Q u l1 l3 0 μ)
  else (
    Q (.inl none) mi_G0 μ)) : mk212_86_186 X Q u l1 l3 μ :=
  fun o2 o4 o5 o6 => ms_run (stop := ms212_86) (by decide) rfl (fun _ _ _ _ _ _ h => h) 167 186 _ _ _ _ _ (And.intro (⟨by decide, by decide⟩ : (0 : Int) ≤ 1 ∧ (1 : Int) < 394) (mi_ite (fun h169 => (h169 _ _ _)) (fun h169 => h169) h))
theorem mh212_86_47 {X : mi_X} {Q : mi_R → mi_G → mi_M → Prop} {u : mi_U} {l1 l2 l3 : Int} {μ : mi_M} (h :
  if mi_wr l3 < mi_wr (μ 87 1) then (
    mk212_86_60 X Q u l1 l2 l3 0 μ)
  else (
    mk212_86_39 X Q u l1 l2 μ)) : mk212_86_47 X Q u l1 l2 l3 μ :=
  fun o4 o5 o6 => ms_run (stop := ms212_86) (by decide) rfl (fun _ _ _ _ _ _ h => h) 167 47 _ _ _ _ _ (And.intro (⟨by decide, by decide⟩ : (0 : Int) ≤ 1 ∧ (1 : Int) < 394) (mi_ite (fun h170 => (h170 _ _)) (fun h170 => (h170 _ _ _ _)) h))
theorem mh212_86_199 {X : mi_X} {Q : mi_R → mi_G → mi_M → Prop} {u : mi_U} {l1 l3 l4 : Int} {μ : mi_M} (h :
  if mi_wr l4 < mi_wr (μ 87 0) then (
    (0 ≤ (mv185 l1 l4 l3 μ) ∧ (mv185 l1 l4 l3 μ) < 384) ∧
    if mi_wr (μ 96 (mv185 l1 l4 l3 μ)) = 0 then (
      (0 ≤ (mv185 l1 l4 l3 μ) ∧ (mv185 l1 l4 l3 μ) < 384) ∧
      (0 ≤ (mv185 l1 l4 l3 μ) ∧ (mv185 l1 l4 l3 μ) < 384) ∧
      mk212_86_247 X Q u l1 l3 l4 (mv185 l1 l4 l3 μ) (mi_set μ 97 (mv185 l1 l4 l3 μ) (μ 97 (mv185 l1 l4 l3 μ))))
    else (
      (0 ≤ (mv185 l1 l4 l3 μ) ∧ (mv185 l1 l4 l3 μ) < 384) ∧
      mk212_86_247 X Q u l1 l3 l4 (mv185 l1 l4 l3 μ) (mi_set μ 97 (mv185 l1 l4 l3 μ) (-1))))
  else (
    mk212_86_186 X Q u l1 (l3 + 1) μ)) : mk212_86_199 X Q u l1 l3 l4 μ :=
  fun o2 o5 o6 => ms_run (stop := ms212_86) (by decide) rfl (fun _ _ _ _ _ _ h => h) 167 199 _ _ _ _ _ (And.intro (⟨by decide, by decide⟩ : (0 : Int) ≤ 0 ∧ (0 : Int) < 394) (mi_ite (fun h171 => (mc185 (And.intro h171.1 (mi_ite (fun h172 => (And.intro h172.1 (And.intro h172.2.1 (h172.2.2 _ _)))) (fun h172 => (And.intro h172.1 (h172.2 _ _))) h171.2)))) (fun h171 => (h171 _ _ _ _)) h))
theorem mh212_86_60 {X : mi_X} {Q : mi_R → mi_G → mi_M → Prop} {u : mi_U} {l1 l2 l3 l4 : Int} {μ : mi_M} (h :
  if mi_wr l4 < mi_wr (μ 87 0) then (
    mp211r l1 l4 l3 (l4 + 1) l3 μ ∧
    (∀ (v0 : Int) (μ0 : mi_M), mq211r l1 l4 l3 (l4 + 1) l3 μ v0 μ0 →
    if mi_wr v0 = 0 then (
      mp211r l1 l4 l3 (l4 - 1) l3 μ0 ∧
      (∀ (v1 : Int) (μ1 : mi_M), mq211r l1 l4 l3 (l4 - 1) l3 μ0 v1 μ1 →
      mk212_86_110 X Q u l1 l2 l3 l4 (if mi_wr v1 = 0 then 0 else 1) μ1))
    else (
      mk212_86_110 X Q u l1 l2 l3 l4 1 μ0)))
  else (
    mk212_86_47 X Q u l1 l2 (l3 + 1) μ)) : mk212_86_60 X Q u l1 l2 l3 l4 μ :=
  fun o5 o6 => ms_run (stop := ms212_86) (by decide) rfl (fun _ _ _ _ _ _ h => h) 167 60 _ _ _ _ _ (And.intro (⟨by decide, by decide⟩ : (0 : Int) ≤ 0 ∧ (0 : Int) < 394) (mi_ite (fun h173 => (mc211r h173.1 (fun v0 μ0 h174 => (have h175 := (h173.2 v0 μ0 h174); (mi_ite (fun h176 => (mc211r h176.1 (fun v1 μ1 h177 => (have h178 := (h176.2 v1 μ1 h177); (mi_dt (fun h179 => ((mi_mp (P := fun z => mk212_86_110 X Q u l1 l2 l3 l4 z μ1) h179 h178) _)) (fun h179 => ((mi_mn (P := fun z => mk212_86_110 X Q u l1 l2 l3 l4 z μ1) h179 h178) _))))))) (fun h176 => (h176 _)) h175))))) (fun h173 => (h173 _ _ _)) h))
theorem mh212_86_247 {X : mi_X} {Q : mi_R → mi_G → mi_M → Prop} {u : mi_U} {l1 l3 l4 l5 : Int} {μ : mi_M} (h :
  (0 ≤ l5 ∧ l5 < 384) ∧
  if mi_wr (μ 97 l5) < 0 then (
    mk212_86_199 X Q u l1 l3 (l4 + 1) μ)
  else (
    (0 ≤ l5 ∧ l5 < 384) ∧
    (0 ≤ (μ 97 l5) ∧ (μ 97 l5) < 384) ∧
    (0 ≤ (μ 97 l5) ∧ (μ 97 l5) < 384) ∧
    mk212_86_199 X Q u l1 l3 (l4 + 1) (mi_set μ 98 (μ 97 l5) ((μ 98 (μ 97 l5)) + 1)))) : mk212_86_247 X Q u l1 l3 l4 l5 μ :=
  fun o2 o6 => ms_run (stop := ms212_86) (by decide) rfl (fun _ _ _ _ _ _ h => h) 167 247 _ _ _ _ _ (And.intro h.1 (mi_ite (fun h180 => (h180 _ _ _)) (fun h180 => (And.intro h180.1 (And.intro h180.2.1 (And.intro h180.2.2.1 (h180.2.2.2 _ _ _))))) h.2))
theorem mh212_86_110 {X : mi_X} {Q : mi_R → mi_G → mi_M → Prop} {u : mi_U} {l1 l2 l3 l4 l5 : Int} {μ : mi_M} (h :
  mp211r l1 l4 l3 l4 (l3 + 1) μ ∧
  (∀ (v0 : Int) (μ0 : mi_M), mq211r l1 l4 l3 l4 (l3 + 1) μ v0 μ0 →
  if mi_wr v0 = 0 then (
    mp211r l1 l4 l3 l4 (l3 - 1) μ0 ∧
    (∀ (v1 : Int) (μ1 : mi_M), mq211r l1 l4 l3 l4 (l3 - 1) μ0 v1 μ1 →
    mk212_86_149 X Q u l1 l2 l3 l4 l5 (if mi_wr v1 = 0 then 0 else 1) μ1))
  else (
    mk212_86_149 X Q u l1 l2 l3 l4 l5 1 μ0))) : mk212_86_110 X Q u l1 l2 l3 l4 l5 μ :=
  fun o6 => ms_run (stop := ms212_86) (by decide) rfl (fun _ _ _ _ _ _ h => h) 167 110 _ _ _ _ _ (mc211r h.1 (fun v0 μ0 h181 => (have h182 := (h.2 v0 μ0 h181); (mi_ite (fun h183 => (mc211r h183.1 (fun v1 μ1 h184 => (have h185 := (h183.2 v1 μ1 h184); (mi_dt (fun h186 => ((mi_mp (P := fun z => mk212_86_149 X Q u l1 l2 l3 l4 l5 z μ1) h186 h185))) (fun h186 => ((mi_mn (P := fun z => mk212_86_149 X Q u l1 l2 l3 l4 l5 z μ1) h186 h185)))))))) (fun h183 => (h183)) h182))))
theorem mh212_86_149 {X : mi_X} {Q : mi_R → mi_G → mi_M → Prop} {u : mi_U} {l1 l2 l3 l4 l5 l6 : Int} {μ : mi_M} (h :
  mk212_86_60 X Q u l1 (if mi_wr l2 = 0 then (if mi_wr l5 = 0 then (if mi_wr l6 = 0 then 0 else 1) else 1) else 1) l3 (l4 + 1) μ) : mk212_86_149 X Q u l1 l2 l3 l4 l5 l6 μ :=
  ms_run (stop := ms212_86) (by decide) rfl (fun _ _ _ _ _ _ h => h) 167 149 _ _ _ _ _ (mi_dt (fun h187 => (mi_dt (fun h188 => (mi_dt (fun h189 => ((mi_mp (P := fun z => mk212_86_60 X Q u l1 z l3 (l4 + 1) μ) h189 (mi_mp (P := fun z => mk212_86_60 X Q u l1 z l3 (l4 + 1) μ) h188 (mi_mp (P := fun z => mk212_86_60 X Q u l1 z l3 (l4 + 1) μ) h187 h))) _ _)) (fun h189 => ((mi_mn (P := fun z => mk212_86_60 X Q u l1 z l3 (l4 + 1) μ) h189 (mi_mp (P := fun z => mk212_86_60 X Q u l1 z l3 (l4 + 1) μ) h188 (mi_mp (P := fun z => mk212_86_60 X Q u l1 z l3 (l4 + 1) μ) h187 h))) _ _)))) (fun h188 => ((mi_mn (P := fun z => mk212_86_60 X Q u l1 z l3 (l4 + 1) μ) h188 (mi_mp (P := fun z => mk212_86_60 X Q u l1 z l3 (l4 + 1) μ) h187 h)) _ _)))) (fun h187 => ((mi_mn (P := fun z => mk212_86_60 X Q u l1 z l3 (l4 + 1) μ) h187 h) _ _)))
