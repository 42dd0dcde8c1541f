/-! PRINTED by wip/whole/gen/mk29.py: methods with loops that call leaves alone -/
-- TwoViews$Matcher.codeBits(III)I (66,)
noncomputable def mk32_66_36 (X : mi_X) (Q : mi_R → mi_G → mi_M → Prop) (u : mi_U) (l1 l2 l3 l4 l5 l6 l7 : Int) (μ : mi_M) : Prop := ∀ o8 o9 o10 : Option mi_V, mi_ok X 32 mi_G0 Q 36 [some (.inr (.inl (some 66))), some (.inl l1), some (.inl l2), some (.inl l3), some (.inl l4), some (.inl l5), some (.inl l6), some (.inl l7), o8, o9, o10] [] mi_G0 μ u
noncomputable def mk32_66_72 (X : mi_X) (Q : mi_R → mi_G → mi_M → Prop) (u : mi_U) (l1 l2 l3 l4 l5 l6 l7 l8 l9 : Int) (μ : mi_M) : Prop := ∀ o10 : Option mi_V, mi_ok X 32 mi_G0 Q 72 [some (.inr (.inl (some 66))), some (.inl l1), some (.inl l2), some (.inl l3), some (.inl l4), some (.inl l5), some (.inl l6), some (.inl l7), some (.inl l8), some (.inl l9), o10] [] mi_G0 μ u
def ms32_66 (pc : Nat) : Bool := Nat.beq pc 36 || Nat.beq pc 72
theorem me32_66 {X : mi_X} {Q : mi_R → mi_G → mi_M → Prop} {u : mi_U} {a0 a1 a2 : Int} {μ : mi_M} (h :
  (0 ≤ (mv136 a0 a1 a2 μ) ∧ (mv136 a0 a1 a2 μ) < 384) ∧
  mk32_66_36 X Q u a0 a1 a2 (μ 2 1) (μ 3 (mv136 a0 a1 a2 μ)) 0 (a2 - (μ 2 1)) μ) : mi_cok X 32 [(.inr (.inl (some 66))), (.inl a0), (.inl a1), (.inl a2)] mi_G0 μ u Q :=
  mi_enter (by decide) (by decide) rfl rfl (ms_run (stop := ms32_66) (by decide) rfl (fun _ _ _ _ _ _ h => h) 85 0 _ _ _ _ _ (And.intro (⟨by decide, by decide⟩ : (0 : Int) ≤ 1 ∧ (1 : Int) < 8) (mc136 (And.intro h.1 (h.2 _ _ _)))))
theorem mh32_66_36 {X : mi_X} {Q : mi_R → mi_G → mi_M → Prop} {u : mi_U} {l1 l2 l3 l4 l5 l6 l7 : Int} {μ : mi_M} (h :
  if mi_wr (l3 + l4) < mi_wr l7 then (
    Q (.inl (some (.inl l6))) mi_G0 μ)
  else (
    mk32_66_72 X Q u l1 l2 l3 l4 l5 l6 l7 (mv136 l1 0 (mv33 l7 ((μ 1 1) - 1) μ) μ) (l2 - l4) μ)) : mk32_66_36 X Q u l1 l2 l3 l4 l5 l6 l7 μ :=
  fun o8 o9 o10 => ms_run (stop := ms32_66) (by decide) rfl (fun _ _ _ _ _ _ h => h) 85 36 _ _ _ _ _ (mi_ite (fun h156 => h156) (fun h156 => (mc33 (mc136 (h156 _)))) h)
theorem mh32_66_72 {X : mi_X} {Q : mi_R → mi_G → mi_M → Prop} {u : mi_U} {l1 l2 l3 l4 l5 l6 l7 l8 l9 : Int} {μ : mi_M} (h :
  if mi_wr (l2 + l4) < mi_wr l9 then (
    mk32_66_36 X Q u l1 l2 l3 l4 l5 l6 (l7 + 1) μ)
  else (
    if mi_wr l9 = mi_wr l2 then (
      if mi_wr l7 = mi_wr l3 then (
        mk32_66_72 X Q u l1 l2 l3 l4 l5 l6 l7 l8 (l9 + 1) μ)
      else (
        (0 ≤ (l8 + (mv33 l9 ((μ 1 0) - 1) μ)) ∧ (l8 + (mv33 l9 ((μ 1 0) - 1) μ)) < 384) ∧
        mk32_66_72 X Q u l1 l2 l3 l4 l5 (if mi_wr (μ 3 (l8 + (mv33 l9 ((μ 1 0) - 1) μ))) < mi_wr l5 then ((mi_shl l6 1) + 1) else ((mi_shl l6 1) + 0)) l7 l8 (l9 + 1) μ))
    else (
      (0 ≤ (l8 + (mv33 l9 ((μ 1 0) - 1) μ)) ∧ (l8 + (mv33 l9 ((μ 1 0) - 1) μ)) < 384) ∧
      mk32_66_72 X Q u l1 l2 l3 l4 l5 (if mi_wr (μ 3 (l8 + (mv33 l9 ((μ 1 0) - 1) μ))) < mi_wr l5 then ((mi_shl l6 1) + 1) else ((mi_shl l6 1) + 0)) l7 l8 (l9 + 1) μ))) : mk32_66_72 X Q u l1 l2 l3 l4 l5 l6 l7 l8 l9 μ :=
  fun o10 => ms_run (stop := ms32_66) (by decide) rfl (fun _ _ _ _ _ _ h => h) 85 72 _ _ _ _ _ (mi_ite (fun h157 => (h157 _ _ _)) (fun h157 => (mi_ite (fun h158 => (mi_ite (fun h159 => (h159 _)) (fun h159 => (mc33 (And.intro h159.1 (mi_dt (fun h160 => ((mi_mp (P := fun z => mk32_66_72 X Q u l1 l2 l3 l4 l5 z l7 l8 (l9 + 1) μ) h160 h159.2) _)) (fun h160 => ((mi_mn (P := fun z => mk32_66_72 X Q u l1 l2 l3 l4 l5 z l7 l8 (l9 + 1) μ) h160 h159.2) _)))))) h158)) (fun h158 => (mc33 (And.intro h158.1 (mi_dt (fun h161 => ((mi_mp (P := fun z => mk32_66_72 X Q u l1 l2 l3 l4 l5 z l7 l8 (l9 + 1) μ) h161 h158.2) _)) (fun h161 => ((mi_mn (P := fun z => mk32_66_72 X Q u l1 l2 l3 l4 l5 z l7 l8 (l9 + 1) μ) h161 h158.2) _)))))) h157)) h)
-- TwoViewsModel.codeAt(III)I (86,)
noncomputable def mk184_86_21 (X : mi_X) (Q : mi_R → mi_G → mi_M → Prop) (u : mi_U) (l1 l2 l3 l4 l5 l6 : Int) (μ : mi_M) : Prop := ∀ o7 o8 : Option mi_V, mi_ok X 184 mi_G0 Q 21 [some (.inr (.inl (some 86))), some (.inl l1), some (.inl l2), some (.inl l3), some (.inl l4), some (.inl l5), some (.inl l6), o7, o8] [] mi_G0 μ u
noncomputable def mk184_86_41 (X : mi_X) (Q : mi_R → mi_G → mi_M → Prop) (u : mi_U) (l1 l2 l3 l4 l5 l6 l7 : Int) (μ : mi_M) : Prop := ∀ o8 : Option mi_V, mi_ok X 184 mi_G0 Q 41 [some (.inr (.inl (some 86))), some (.inl l1), some (.inl l2), some (.inl l3), some (.inl l4), some (.inl l5), some (.inl l6), some (.inl l7), o8] [] mi_G0 μ u
def ms184_86 (pc : Nat) : Bool := Nat.beq pc 21 || Nat.beq pc 41
theorem me184_86 {X : mi_X} {Q : mi_R → mi_G → mi_M → Prop} {u : mi_U} {a0 a1 a2 : Int} {μ : mi_M} (h :
  mp153_86 a0 a1 a2 μ ∧
  mk184_86_21 X Q u a0 a1 a2 (mv153_86 a0 a1 a2 μ) 0 (-(μ 87 3)) μ) : mi_cok X 184 [(.inr (.inl (some 86))), (.inl a0), (.inl a1), (.inl a2)] mi_G0 μ u Q :=
  mi_enter (by decide) (by decide) rfl rfl (ms_run (stop := ms184_86) (by decide) rfl (fun _ _ _ _ _ _ h => h) 81 0 _ _ _ _ _ (mc153_86 h.1 (And.intro (⟨by decide, by decide⟩ : (0 : Int) ≤ 3 ∧ (3 : Int) < 394) (h.2 _ _))))
theorem mh184_86_21 {X : mi_X} {Q : mi_R → mi_G → mi_M → Prop} {u : mi_U} {l1 l2 l3 l4 l5 l6 : Int} {μ : mi_M} (h :
  if mi_wr (μ 87 3) < mi_wr l6 then (
    Q (.inl (some (.inl l5))) mi_G0 μ)
  else (
    mk184_86_41 X Q u l1 l2 l3 l4 l5 l6 (-(μ 87 3)) μ)) : mk184_86_21 X Q u l1 l2 l3 l4 l5 l6 μ :=
  fun o7 o8 => ms_run (stop := ms184_86) (by decide) rfl (fun _ _ _ _ _ _ h => h) 81 21 _ _ _ _ _ (And.intro (⟨by decide, by decide⟩ : (0 : Int) ≤ 3 ∧ (3 : Int) < 394) (mi_ite (fun h162 => h162) (fun h162 => (And.intro (⟨by decide, by decide⟩ : (0 : Int) ≤ 3 ∧ (3 : Int) < 394) (h162 _))) h))
theorem mh184_86_41 {X : mi_X} {Q : mi_R → mi_G → mi_M → Prop} {u : mi_U} {l1 l2 l3 l4 l5 l6 l7 : Int} {μ : mi_M} (h :
  if mi_wr (μ 87 3) < mi_wr l7 then (
    mk184_86_21 X Q u l1 l2 l3 l4 l5 (l6 + 1) μ)
  else (
    if mi_wr l7 = 0 then (
      if mi_wr l6 = 0 then (
        mk184_86_41 X Q u l1 l2 l3 l4 l5 l6 (l7 + 1) μ)
      else (
        mp153_86 l1 (mv183_86 (l2 + l7) ((μ 87 0) - 1) μ) (mv183_86 (l3 + l6) ((μ 87 1) - 1) μ) μ ∧
        mk184_86_41 X Q u l1 l2 l3 l4 (if mi_wr (mv153_86 l1 (mv183_86 (l2 + l7) ((μ 87 0) - 1) μ) (mv183_86 (l3 + l6) ((μ 87 1) - 1) μ) μ) < mi_wr l4 then ((2 * l5) + 1) else ((2 * l5) + 0)) l6 (l7 + 1) μ))
    else (
      mp153_86 l1 (mv183_86 (l2 + l7) ((μ 87 0) - 1) μ) (mv183_86 (l3 + l6) ((μ 87 1) - 1) μ) μ ∧
      mk184_86_41 X Q u l1 l2 l3 l4 (if mi_wr (mv153_86 l1 (mv183_86 (l2 + l7) ((μ 87 0) - 1) μ) (mv183_86 (l3 + l6) ((μ 87 1) - 1) μ) μ) < mi_wr l4 then ((2 * l5) + 1) else ((2 * l5) + 0)) l6 (l7 + 1) μ))) : mk184_86_41 X Q u l1 l2 l3 l4 l5 l6 l7 μ :=
  fun o8 => ms_run (stop := ms184_86) (by decide) rfl (fun _ _ _ _ _ _ h => h) 81 41 _ _ _ _ _ (And.intro (⟨by decide, by decide⟩ : (0 : Int) ≤ 3 ∧ (3 : Int) < 394) (mi_ite (fun h163 => (h163 _ _)) (fun h163 => (mi_ite (fun h164 => (mi_ite (fun h165 => (h165 _)) (fun h165 => (And.intro (⟨by decide, by decide⟩ : (0 : Int) ≤ 0 ∧ (0 : Int) < 394) (mc183_86 (And.intro (⟨by decide, by decide⟩ : (0 : Int) ≤ 1 ∧ (1 : Int) < 394) (mc183_86 (mc153_86 h165.1 (mi_dt (fun h166 => ((mi_mp (P := fun z => mk184_86_41 X Q u l1 l2 l3 l4 z l6 (l7 + 1) μ) h166 h165.2) _)) (fun h166 => ((mi_mn (P := fun z => mk184_86_41 X Q u l1 l2 l3 l4 z l6 (l7 + 1) μ) h166 h165.2) _))))))))) h164)) (fun h164 => (And.intro (⟨by decide, by decide⟩ : (0 : Int) ≤ 0 ∧ (0 : Int) < 394) (mc183_86 (And.intro (⟨by decide, by decide⟩ : (0 : Int) ≤ 1 ∧ (1 : Int) < 394) (mc183_86 (mc153_86 h164.1 (mi_dt (fun h167 => ((mi_mp (P := fun z => mk184_86_41 X Q u l1 l2 l3 l4 z l6 (l7 + 1) μ) h167 h164.2) _)) (fun h167 => ((mi_mn (P := fun z => mk184_86_41 X Q u l1 l2 l3 l4 z l6 (l7 + 1) μ) h167 h164.2) _))))))))) h163)) h))
-- TwoViews$Matcher.howOften(II)I (66,)
noncomputable def mk36_66_5 (X : mi_X) (Q : mi_R → mi_G → mi_M → Prop) (u : mi_U) (l1 l2 l3 l4 : Int) (μ : mi_M) : Prop := ∀ o5 : Option mi_V, mi_ok X 36 mi_G0 Q 5 [some (.inr (.inl (some 66))), some (.inl l1), some (.inl l2), some (.inl l3), some (.inl l4), o5] [] mi_G0 μ u
noncomputable def mk36_66_20 (X : mi_X) (Q : mi_R → mi_G → mi_M → Prop) (u : mi_U) (l1 l2 l3 l4 l5 : Int) (μ : mi_M) : Prop := mi_ok X 36 mi_G0 Q 20 [some (.inr (.inl (some 66))), some (.inl l1), some (.inl l2), some (.inl l3), some (.inl l4), some (.inl l5)] [] mi_G0 μ u
def ms36_66 (pc : Nat) : Bool := Nat.beq pc 5 || Nat.beq pc 20
theorem me36_66 {X : mi_X} {Q : mi_R → mi_G → mi_M → Prop} {u : mi_U} {a0 a1 : Int} {μ : mi_M} (h :
  mk36_66_5 X Q u a0 a1 0 0 μ) : mi_cok X 36 [(.inr (.inl (some 66))), (.inl a0), (.inl a1)] mi_G0 μ u Q :=
  mi_enter (by decide) (by decide) rfl rfl (ms_run (stop := ms36_66) (by decide) rfl (fun _ _ _ _ _ _ h => h) 39 0 _ _ _ _ _ (h _))
theorem mh36_66_5 {X : mi_X} {Q : mi_R → mi_G → mi_M → Prop} {u : mi_U} {l1 l2 l3 l4 : Int} {μ : mi_M} (h :
  if mi_wr l4 < mi_wr (μ 1 1) then (
    mk36_66_20 X Q u l1 l2 l3 l4 0 μ)
  else (
    Q (.inl (some (.inl l3))) mi_G0 μ)) : mk36_66_5 X Q u l1 l2 l3 l4 μ :=
  fun o5 => ms_run (stop := ms36_66) (by decide) rfl (fun _ _ _ _ _ _ h => h) 39 5 _ _ _ _ _ (mi_ite (fun h168 => (h168)) (fun h168 => h168) h)
theorem mh36_66_20 {X : mi_X} {Q : mi_R → mi_G → mi_M → Prop} {u : mi_U} {l1 l2 l3 l4 l5 : Int} {μ : mi_M} (h :
  if mi_wr l5 < mi_wr (μ 1 0) then (
    (0 ≤ (mv136 l1 l5 l4 μ) ∧ (mv136 l1 l5 l4 μ) < 384) ∧
    mk36_66_20 X Q u l1 l2 (if mi_wr (μ 67 (mv136 l1 l5 l4 μ)) = mi_wr l2 then (l3 + 1) else (l3 + 0)) l4 (l5 + 1) μ)
  else (
    mk36_66_5 X Q u l1 l2 l3 (l4 + 1) μ)) : mk36_66_20 X Q u l1 l2 l3 l4 l5 μ :=
  ms_run (stop := ms36_66) (by decide) rfl (fun _ _ _ _ _ _ h => h) 39 20 _ _ _ _ _ (mi_ite (fun h169 => (mc136 (And.intro h169.1 (mi_dt (fun h170 => ((mi_mp (P := fun z => mk36_66_20 X Q u l1 l2 z l4 (l5 + 1) μ) h170 h169.2))) (fun h170 => ((mi_mn (P := fun z => mk36_66_20 X Q u l1 l2 z l4 (l5 + 1) μ) h170 h169.2))))))) (fun h169 => (h169 _)) h)
-- TwoViews$Layers.seenAt(III)I (4,)
noncomputable def mk4_4_8 (X : mi_X) (Q : mi_R → mi_G → mi_M → Prop) (u : mi_U) (l1 l2 l3 l4 : Int) (μ : mi_M) : Prop := ∀ o5 o6 : Option mi_V, mi_ok X 4 mi_G0 Q 8 [some (.inr (.inl (some 4))), some (.inl l1), some (.inl l2), some (.inl l3), some (.inl l4), o5, o6] [] mi_G0 μ u
def ms4_4 (pc : Nat) : Bool := Nat.beq pc 8
theorem me4_4 {X : mi_X} {Q : mi_R → mi_G → mi_M → Prop} {u : mi_U} {a0 a1 a2 : Int} {μ : mi_M} (h :
  mk4_4_8 X Q u a0 a1 a2 ((μ 4 0) - 1) μ) : mi_cok X 4 [(.inr (.inl (some 4))), (.inl a0), (.inl a1), (.inl a2)] mi_G0 μ u Q :=
  mi_enter (by decide) (by decide) rfl rfl (ms_run (stop := ms4_4) (by decide) rfl (fun _ _ _ _ _ _ h => h) 54 0 _ _ _ _ _ (h _ _))
theorem mh4_4_8 {X : mi_X} {Q : mi_R → mi_G → mi_M → Prop} {u : mi_U} {l1 l2 l3 l4 : Int} {μ : mi_M} (h :
  if mi_wr l4 < 0 then (
    Q (.inl (some (.inl (-1)))) mi_G0 μ)
  else (
    mp3_4 l1 l4 μ ∧
    if mi_wr l2 < mi_wr (mv3_4 l1 l4 μ) then (
      mk4_4_8 X Q u l1 l2 l3 (l4 + (-1)) μ)
    else (
      (0 ≤ l4 ∧ l4 < 6) ∧
      if mi_wr l2 < mi_wr ((mv3_4 l1 l4 μ) + (μ 7 l4)) then (
        (0 ≤ l4 ∧ l4 < 6) ∧
        if mi_wr l3 < mi_wr (μ 6 l4) then (
          mk4_4_8 X Q u l1 l2 l3 (l4 + (-1)) μ)
        else (
          (0 ≤ l4 ∧ l4 < 6) ∧
          (0 ≤ l4 ∧ l4 < 6) ∧
          if mi_wr l3 < mi_wr ((μ 6 l4) + (μ 8 l4)) then (
            Q (.inl (some (.inl l4))) mi_G0 μ)
          else (
            mk4_4_8 X Q u l1 l2 l3 (l4 + (-1)) μ)))
      else (
        mk4_4_8 X Q u l1 l2 l3 (l4 + (-1)) μ)))) : mk4_4_8 X Q u l1 l2 l3 l4 μ :=
  fun o5 o6 => ms_run (stop := ms4_4) (by decide) rfl (fun _ _ _ _ _ _ h => h) 54 8 _ _ _ _ _ (mi_ite (fun h171 => h171) (fun h171 => (mc3_4 h171.1 (mi_ite (fun h172 => (h172 _ _)) (fun h172 => (And.intro h172.1 (mi_ite (fun h173 => (And.intro h173.1 (mi_ite (fun h174 => (h174 _ _)) (fun h174 => (And.intro h174.1 (And.intro h174.2.1 (mi_ite (fun h175 => h175) (fun h175 => (h175 _ _)) h174.2.2)))) h173.2))) (fun h173 => (h173 _ _)) h172.2))) h171.2))) h)
