/-! PRINTED by wip/whole/gen: heads of methods -/
-- TwoViews$RowChoice.choose(I)I (81,)
noncomputable def mk80_81_23 (X : mi_X) (Q : mi_R → mi_G → mi_M → Prop) (u : mi_U) (l1 l2 l3 l4 : Int) (μ : mi_M) : Prop := ∀ o5 o6 : Option mi_V, mi_ok X 80 mi_G0 Q 23 [some (.inr (.inl (some 81))), some (.inl l1), some (.inl l2), some (.inl l3), some (.inl l4), o5, o6] [] mi_G0 μ u
noncomputable def mk80_81_119 (X : mi_X) (Q : mi_R → mi_G → mi_M → Prop) (u : mi_U) (l2 l3 l4 l5 l6 : Int) (μ : mi_M) : Prop := ∀ o1 : Option mi_V, mi_ok X 80 mi_G0 Q 119 [some (.inr (.inl (some 81))), o1, some (.inl l2), some (.inl l3), some (.inl l4), some (.inl l5), some (.inl l6)] [] mi_G0 μ u
noncomputable def mk80_81_32 (X : mi_X) (Q : mi_R → mi_G → mi_M → Prop) (u : mi_U) (l1 l2 l3 l4 l5 : Int) (μ : mi_M) : Prop := ∀ o6 : Option mi_V, mi_ok X 80 mi_G0 Q 32 [some (.inr (.inl (some 81))), some (.inl l1), some (.inl l2), some (.inl l3), some (.inl l4), some (.inl l5), o6] [] mi_G0 μ u
noncomputable def mk80_81_174 (X : mi_X) (Q : mi_R → mi_G → mi_M → Prop) (u : mi_U) (l4 l5 l6 : Int) (μ : mi_M) : Prop := ∀ o1 o2 o3 : Option mi_V, mi_ok X 80 mi_G0 Q 174 [some (.inr (.inl (some 81))), o1, o2, o3, some (.inl l4), some (.inl l5), some (.inl l6)] [] mi_G0 μ u
def ms80_81 (pc : Nat) : Bool := Nat.beq pc 23 || Nat.beq pc 32 || Nat.beq pc 119 || Nat.beq pc 174
theorem me80_81 {X : mi_X} {Q : mi_R → mi_G → mi_M → Prop} {u : mi_U} {a0 : Int} {μ : mi_M} (h :
  mk80_81_23 X Q u a0 (μ 2 0) ((μ 1 0) - 1) 0 μ) : mi_cok X 80 [(.inr (.inl (some 81))), (.inl a0)] mi_G0 μ u Q :=
  mi_enter (by decide) (by decide) rfl rfl (ms_run (stop := ms80_81) (by decide) rfl (fun _ _ _ _ _ _ h => h) 120 0 _ _ _ _ _ (And.intro (⟨by decide, by decide⟩ : (0 : Int) ≤ 0 ∧ (0 : Int) < 8) (h _ _)))
theorem mh80_81_23 {X : mi_X} {Q : mi_R → mi_G → mi_M → Prop} {u : mi_U} {l1 l2 l3 l4 : Int} {μ : mi_M} (h :
  if mi_wr l3 < mi_wr l4 then (
    mk80_81_119 X Q u l2 l3 (mi_shl l3 3) 0 1 μ)
  else (
    mk80_81_32 X Q u l1 l2 l3 l4 0 μ)) : mk80_81_23 X Q u l1 l2 l3 l4 μ :=
  fun o5 o6 => ms_run (stop := ms80_81) (by decide) rfl (fun _ _ _ _ _ _ h => h) 120 23 _ _ _ _ _ (mi_ite (fun h179 => (h179 _)) (fun h179 => (h179 _)) h)
theorem mh80_81_119 {X : mi_X} {Q : mi_R → mi_G → mi_M → Prop} {u : mi_U} {l2 l3 l4 l5 l6 : Int} {μ : mi_M} (h :
  if mi_wr l2 < mi_wr l6 then (
    (0 ≤ l3 ∧ l3 < 16) ∧
    mk80_81_174 X Q u l4 l5 l3 (mi_set μ 82 l3 l5))
  else (
    (0 ≤ (l4 + l6) ∧ (l4 + l6) < 128) ∧
    (0 ≤ (l4 + l5) ∧ (l4 + l5) < 128) ∧
    mk80_81_119 X Q u l2 l3 l4 (if mi_wr (μ 83 (l4 + l6)) < mi_wr (μ 83 (l4 + l5)) then l6 else l5) (l6 + 1) μ)) : mk80_81_119 X Q u l2 l3 l4 l5 l6 μ :=
  fun o1 => ms_run (stop := ms80_81) (by decide) rfl (fun _ _ _ _ _ _ h => h) 120 119 _ _ _ _ _ (mi_ite (fun h180 => (And.intro h180.1 (h180.2 _ _ _))) (fun h180 => (And.intro h180.1 (And.intro h180.2.1 (mi_dt (fun h181 => ((mi_mp (P := fun z => mk80_81_119 X Q u l2 l3 l4 z (l6 + 1) μ) h181 h180.2.2) _)) (fun h181 => ((mi_mn (P := fun z => mk80_81_119 X Q u l2 l3 l4 z (l6 + 1) μ) h181 h180.2.2) _)))))) h)
theorem mh80_81_32 {X : mi_X} {Q : mi_R → mi_G → mi_M → Prop} {u : mi_U} {l1 l2 l3 l4 l5 : Int} {μ : mi_M} (h :
  if mi_wr l2 < mi_wr l5 then (
    mk80_81_23 X Q u l1 l2 l3 (l4 + 1) μ)
  else (
    if mi_wr l4 = 0 then (
      (0 ≤ (mv137 l4 l1 l5 μ) ∧ (mv137 l4 l1 l5 μ) < 1536) ∧
      (0 ≤ ((mi_shl l4 3) + l5) ∧ ((mi_shl l4 3) + l5) < 128) ∧
      mk80_81_32 X Q u l1 l2 l3 l4 (l5 + 1) (mi_set μ 83 ((mi_shl l4 3) + l5) ((μ 68 (mv137 l4 l1 l5 μ)) + 0)))
    else (
      mp81_81 l4 l5 μ ∧
      mp82_81 l4 (mv81_81 l4 l5 μ) l5 μ ∧
      (0 ≤ (mv137 l4 l1 l5 μ) ∧ (mv137 l4 l1 l5 μ) < 1536) ∧
      (0 ≤ ((mi_shl l4 3) + l5) ∧ ((mi_shl l4 3) + l5) < 128) ∧
      mk80_81_32 X Q u l1 l2 l3 l4 (l5 + 1) (mi_set μ 83 ((mi_shl l4 3) + l5) ((μ 68 (mv137 l4 l1 l5 μ)) + (mv82_81 l4 (mv81_81 l4 l5 μ) l5 μ)))))) : mk80_81_32 X Q u l1 l2 l3 l4 l5 μ :=
  fun o6 => ms_run (stop := ms80_81) (by decide) rfl (fun _ _ _ _ _ _ h => h) 120 32 _ _ _ _ _ (mi_ite (fun h182 => (h182 _ _)) (fun h182 => (mi_ite (fun h183 => (mc137 (And.intro h183.1 (And.intro h183.2.1 (h183.2.2 _))))) (fun h183 => (mc81_81 h183.1 (mc82_81 h183.2.1 (mc137 (And.intro h183.2.2.1 (And.intro h183.2.2.2.1 (h183.2.2.2.2 _))))))) h182)) h)
theorem mh80_81_174 {X : mi_X} {Q : mi_R → mi_G → mi_M → Prop} {u : mi_U} {l4 l5 l6 : Int} {μ : mi_M} (h :
  if 0 < mi_wr l6 then (
    (0 ≤ l6 ∧ l6 < 16) ∧
    mp81_81 l6 (μ 82 l6) μ ∧
    (0 ≤ (l6 - 1) ∧ (l6 - 1) < 16) ∧
    mk80_81_174 X Q u l4 l5 (l6 + (-1)) (mi_set μ 82 (l6 - 1) (mv81_81 l6 (μ 82 l6) μ)))
  else (
    (0 ≤ (l4 + l5) ∧ (l4 + l5) < 128) ∧
    Q (.inl (some (.inl (μ 83 (l4 + l5))))) mi_G0 μ)) : mk80_81_174 X Q u l4 l5 l6 μ :=
  fun o1 o2 o3 => ms_run (stop := ms80_81) (by decide) rfl (fun _ _ _ _ _ _ h => h) 120 174 _ _ _ _ _ (mi_ite (fun h184 => (And.intro h184.1 (mc81_81 h184.2.1 (And.intro h184.2.2.1 (h184.2.2.2 _ _ _))))) (fun h184 => (And.intro h184.1 h184.2)) h)
-- TwoViewsModel.laysRow(I)I (86,)
noncomputable def mk240_86_2 (X : mi_X) (Q : mi_R → mi_G → mi_M → Prop) (u : mi_U) (l1 l2 : Int) (μ : mi_M) : Prop := ∀ o3 o4 o5 o6 : Option mi_V, mi_ok X 240 mi_G0 Q 2 [some (.inr (.inl (some 86))), some (.inl l1), some (.inl l2), o3, o4, o5, o6] [] mi_G0 μ u
noncomputable def mk240_86_14 (X : mi_X) (Q : mi_R → mi_G → mi_M → Prop) (u : mi_U) (l1 l2 l3 : Int) (μ : mi_M) : Prop := ∀ o4 o5 o6 : Option mi_V, mi_ok X 240 mi_G0 Q 14 [some (.inr (.inl (some 86))), some (.inl l1), some (.inl l2), some (.inl l3), o4, o5, o6] [] mi_G0 μ u
noncomputable def mk240_86_138 (X : mi_X) (Q : mi_R → mi_G → mi_M → Prop) (u : mi_U) (l1 l2 l3 : Int) (μ : mi_M) : Prop := ∀ o4 o5 o6 : Option mi_V, mi_ok X 240 mi_G0 Q 138 [some (.inr (.inl (some 86))), some (.inl l1), some (.inl l2), some (.inl l3), o4, o5, o6] [] mi_G0 μ u
noncomputable def mk240_86_39 (X : mi_X) (Q : mi_R → mi_G → mi_M → Prop) (u : mi_U) (l1 l2 l3 l4 l5 : Int) (μ : mi_M) : Prop := ∀ o6 : Option mi_V, mi_ok X 240 mi_G0 Q 39 [some (.inr (.inl (some 86))), some (.inl l1), some (.inl l2), some (.inl l3), some (.inl l4), some (.inl l5), o6] [] mi_G0 μ u
noncomputable def mk240_86_199 (X : mi_X) (Q : mi_R → mi_G → mi_M → Prop) (u : mi_U) (l1 l2 l3 l4 : Int) (μ : mi_M) : Prop := ∀ o5 o6 : Option mi_V, mi_ok X 240 mi_G0 Q 199 [some (.inr (.inl (some 86))), some (.inl l1), some (.inl l2), some (.inl l3), some (.inl l4), o5, o6] [] mi_G0 μ u
noncomputable def mk240_86_207 (X : mi_X) (Q : mi_R → mi_G → mi_M → Prop) (u : mi_U) (l1 l2 l3 l4 l5 : Int) (μ : mi_M) : Prop := ∀ o6 : Option mi_V, mi_ok X 240 mi_G0 Q 207 [some (.inr (.inl (some 86))), some (.inl l1), some (.inl l2), some (.inl l3), some (.inl l4), some (.inl l5), o6] [] mi_G0 μ u
def ms240_86 (pc : Nat) : Bool := Nat.beq pc 2 || Nat.beq pc 14 || Nat.beq pc 39 || Nat.beq pc 138 || Nat.beq pc 199 || Nat.beq pc 207
theorem me240_86 {X : mi_X} {Q : mi_R → mi_G → mi_M → Prop} {u : mi_U} {a0 : Int} {μ : mi_M} (h :
  mk240_86_2 X Q u a0 0 μ) : mi_cok X 240 [(.inr (.inl (some 86))), (.inl a0)] mi_G0 μ u Q :=
  mi_enter (by decide) (by decide) rfl rfl (ms_run (stop := ms240_86) (by decide) rfl (fun _ _ _ _ _ _ h => h) 180 0 _ _ _ _ _ (h _ _ _ _))
theorem mh240_86_2 {X : mi_X} {Q : mi_R → mi_G → mi_M → Prop} {u : mi_U} {l1 l2 : Int} {μ : mi_M} (h :
  if mi_wr l2 < mi_wr (μ 87 0) then (
    mk240_86_14 X Q u l1 l2 0 μ)
  else (
    mk240_86_138 X Q u l1 100000000 0 μ)) : mk240_86_2 X Q u l1 l2 μ :=
  fun o3 o4 o5 o6 => ms_run (stop := ms240_86) (by decide) rfl (fun _ _ _ _ _ _ h => h) 180 2 _ _ _ _ _ (And.intro (⟨by decide, by decide⟩ : (0 : Int) ≤ 0 ∧ (0 : Int) < 394) (mi_ite (fun h185 => (h185 _ _ _)) (fun h185 => (h185 _ _ _)) h))
theorem mh240_86_14 {X : mi_X} {Q : mi_R → mi_G → mi_M → Prop} {u : mi_U} {l1 l2 l3 : Int} {μ : mi_M} (h :
  if mi_wr (μ 87 2) < mi_wr l3 then (
    mk240_86_2 X Q u l1 (l2 + 1) μ)
  else (
    mk240_86_39 X Q u l1 l2 l3 (if mi_wr l2 = 0 then 0 else 100000000) 0 μ)) : mk240_86_14 X Q u l1 l2 l3 μ :=
  fun o4 o5 o6 => ms_run (stop := ms240_86) (by decide) rfl (fun _ _ _ _ _ _ h => h) 180 14 _ _ _ _ _ (And.intro (⟨by decide, by decide⟩ : (0 : Int) ≤ 2 ∧ (2 : Int) < 394) (mi_ite (fun h186 => (h186 _ _ _ _)) (fun h186 => (mi_dt (fun h187 => ((mi_mp (P := fun z => mk240_86_39 X Q u l1 l2 l3 z 0 μ) h187 h186) _)) (fun h187 => ((mi_mn (P := fun z => mk240_86_39 X Q u l1 l2 l3 z 0 μ) h187 h186) _)))) h))
theorem mh240_86_138 {X : mi_X} {Q : mi_R → mi_G → mi_M → Prop} {u : mi_U} {l1 l2 l3 : Int} {μ : mi_M} (h :
  if mi_wr (μ 87 2) < mi_wr l3 then (
    mk240_86_199 X Q u l1 l2 l2 ((μ 87 0) - 1) μ)
  else (
    (0 ≤ ((8 * ((μ 87 0) - 1)) + l3) ∧ ((8 * ((μ 87 0) - 1)) + l3) < 128) ∧
    mk240_86_138 X Q u l1 (if mi_wr (μ 100 ((8 * ((μ 87 0) - 1)) + l3)) < mi_wr l2 then (μ 100 ((8 * ((μ 87 0) - 1)) + l3)) else l2) (l3 + 1) μ)) : mk240_86_138 X Q u l1 l2 l3 μ :=
  fun o4 o5 o6 => ms_run (stop := ms240_86) (by decide) rfl (fun _ _ _ _ _ _ h => h) 180 138 _ _ _ _ _ (And.intro (⟨by decide, by decide⟩ : (0 : Int) ≤ 2 ∧ (2 : Int) < 394) (mi_ite (fun h188 => (And.intro (⟨by decide, by decide⟩ : (0 : Int) ≤ 0 ∧ (0 : Int) < 394) (h188 _ _))) (fun h188 => (And.intro (⟨by decide, by decide⟩ : (0 : Int) ≤ 0 ∧ (0 : Int) < 394) (And.intro h188.1 (mi_dt (fun h189 => ((mi_mp (P := fun z => mk240_86_138 X Q u l1 z (l3 + 1) μ) h189 h188.2) _ _ _)) (fun h189 => ((mi_mn (P := fun z => mk240_86_138 X Q u l1 z (l3 + 1) μ) h189 h188.2) _ _ _)))))) h))
theorem mh240_86_39 {X : mi_X} {Q : mi_R → mi_G → mi_M → Prop} {u : mi_U} {l1 l2 l3 l4 l5 : Int} {μ : mi_M} (h :
  if mi_wr (μ 87 2) < mi_wr l5 then (
    mp192_86 l2 l1 l3 μ ∧
    (0 ≤ ((8 * l2) + l3) ∧ ((8 * l2) + l3) < 128) ∧
    mk240_86_14 X Q u l1 l2 (l3 + 1) (mi_set μ 100 ((8 * l2) + l3) (l4 + (mv192_86 l2 l1 l3 μ))))
  else (
    if 0 < mi_wr l2 then (
      (0 ≤ ((8 * (l2 - 1)) + l5) ∧ ((8 * (l2 - 1)) + l5) < 128) ∧
      mk240_86_39 X Q u l1 l2 l3 (if mi_wr ((μ 100 ((8 * (l2 - 1)) + l5)) + (mv239_86 l3 l5 μ)) < mi_wr l4 then ((μ 100 ((8 * (l2 - 1)) + l5)) + (mv239_86 l3 l5 μ)) else l4) (l5 + 1) μ)
    else (
      mp192_86 l2 l1 l3 μ ∧
      (0 ≤ ((8 * l2) + l3) ∧ ((8 * l2) + l3) < 128) ∧
      mk240_86_14 X Q u l1 l2 (l3 + 1) (mi_set μ 100 ((8 * l2) + l3) (l4 + (mv192_86 l2 l1 l3 μ)))))) : mk240_86_39 X Q u l1 l2 l3 l4 l5 μ :=
  fun o6 => ms_run (stop := ms240_86) (by decide) rfl (fun _ _ _ _ _ _ h => h) 180 39 _ _ _ _ _ (And.intro (⟨by decide, by decide⟩ : (0 : Int) ≤ 2 ∧ (2 : Int) < 394) (mi_ite (fun h190 => (mc192_86 h190.1 (And.intro h190.2.1 (h190.2.2 _ _ _)))) (fun h190 => (mi_ite (fun h191 => (And.intro h191.1 (mc239_86 (mi_dt (fun h192 => ((mi_mp (P := fun z => mk240_86_39 X Q u l1 l2 l3 z (l5 + 1) μ) h192 h191.2) _)) (fun h192 => ((mi_mn (P := fun z => mk240_86_39 X Q u l1 l2 l3 z (l5 + 1) μ) h192 h191.2) _)))))) (fun h191 => (mc192_86 h191.1 (And.intro h191.2.1 (h191.2.2 _ _ _)))) h190)) h))
theorem mh240_86_199 {X : mi_X} {Q : mi_R → mi_G → mi_M → Prop} {u : mi_U} {l1 l2 l3 l4 : Int} {μ : mi_M} (h :
  if mi_wr l4 < 0 then (
    Q (.inl (some (.inl l3))) mi_G0 μ)
  else (
    mk240_86_207 X Q u l1 l2 l3 l4 0 μ)) : mk240_86_199 X Q u l1 l2 l3 l4 μ :=
  fun o5 o6 => ms_run (stop := ms240_86) (by decide) rfl (fun _ _ _ _ _ _ h => h) 180 199 _ _ _ _ _ (mi_ite (fun h193 => h193) (fun h193 => (h193 _)) h)
theorem mh240_86_207 {X : mi_X} {Q : mi_R → mi_G → mi_M → Prop} {u : mi_U} {l1 l2 l3 l4 l5 : Int} {μ : mi_M} (h :
  (0 ≤ ((8 * l4) + l5) ∧ ((8 * l4) + l5) < 128) ∧
  if mi_wr l4 = mi_wr ((μ 87 0) - 1) then (
    if mi_wr ((μ 100 ((8 * l4) + l5)) + 0) = mi_wr l2 then (
      (0 ≤ l4 ∧ l4 < 16) ∧
      (0 ≤ ((8 * l4) + l5) ∧ ((8 * l4) + l5) < 128) ∧
      mp192_86 l4 l1 l5 (mi_set μ 101 l4 l5) ∧
      mk240_86_199 X Q u l1 ((μ 100 ((8 * l4) + l5)) - (mv192_86 l4 l1 l5 (mi_set μ 101 l4 l5))) l3 (l4 + (-1)) (mi_set μ 101 l4 l5))
    else (
      mk240_86_207 X Q u l1 l2 l3 l4 (l5 + 1) μ))
  else (
    (0 ≤ (l4 + 1) ∧ (l4 + 1) < 16) ∧
    if mi_wr ((μ 100 ((8 * l4) + l5)) + (mv239_86 l5 (μ 101 (l4 + 1)) μ)) = mi_wr l2 then (
      (0 ≤ l4 ∧ l4 < 16) ∧
      (0 ≤ ((8 * l4) + l5) ∧ ((8 * l4) + l5) < 128) ∧
      mp192_86 l4 l1 l5 (mi_set μ 101 l4 l5) ∧
      mk240_86_199 X Q u l1 ((μ 100 ((8 * l4) + l5)) - (mv192_86 l4 l1 l5 (mi_set μ 101 l4 l5))) l3 (l4 + (-1)) (mi_set μ 101 l4 l5))
    else (
      mk240_86_207 X Q u l1 l2 l3 l4 (l5 + 1) μ))) : mk240_86_207 X Q u l1 l2 l3 l4 l5 μ :=
  fun o6 => ms_run (stop := ms240_86) (by decide) rfl (fun _ _ _ _ _ _ h => h) 180 207 _ _ _ _ _ (And.intro h.1 (And.intro (⟨by decide, by decide⟩ : (0 : Int) ≤ 0 ∧ (0 : Int) < 394) (mi_ite (fun h194 => (mi_ite (fun h195 => (And.intro h195.1 (And.intro h195.2.1 (mc192_86 h195.2.2.1 (h195.2.2.2 _ _))))) (fun h195 => (h195 _)) h194)) (fun h194 => (And.intro h194.1 (mc239_86 (mi_ite (fun h196 => (And.intro h196.1 (And.intro h196.2.1 (mc192_86 h196.2.2.1 (h196.2.2.2 _ _))))) (fun h196 => (h196 _)) h194.2)))) h.2)))
