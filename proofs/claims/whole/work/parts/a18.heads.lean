/-! PRINTED by wip/whole/gen: heads of methods -/
-- TwoViews$Reader.advance()V (13,)
noncomputable def mk72_13_8 (X : mi_X) (Q : mi_R → mi_G → mi_M → Prop) (u : mi_U) (μ : mi_M) : Prop := mi_ok X 72 mi_G0 Q 8 [some (.inr (.inl (some 13)))] [] mi_G0 μ u
noncomputable def mk72_13_95 (X : mi_X) (Q : mi_R → mi_G → mi_M → Prop) (u : mi_U) (μ : mi_M) : Prop := mi_ok X 72 mi_G0 Q 95 [some (.inr (.inl (some 13)))] [] mi_G0 μ u
def ms72_13 (pc : Nat) : Bool := Nat.beq pc 8 || Nat.beq pc 95
theorem me72_13 {X : mi_X} {Q : mi_R → mi_G → mi_M → Prop} {u : mi_U} {μ : mi_M} (h :
  mk72_13_8 X Q u (mi_set μ 13 3 (μ 13 4))) : mi_cok X 72 [(.inr (.inl (some 13)))] mi_G0 μ u Q :=
  mi_enter (by decide) (by decide) rfl rfl (ms_run (stop := ms72_13) (by decide) rfl (fun _ _ _ _ _ _ h => h) 68 0 _ _ _ _ _ (h))
theorem mh72_13_8 {X : mi_X} {Q : mi_R → mi_G → mi_M → Prop} {u : mi_U} {μ : mi_M} (h :
  if mi_wr (μ 13 3) < mi_wr (μ 13 2) then (
    mp95_11 (μ 13 3) μ ∧
    if mi_wr (mv75 (mv95_11 (μ 13 3) μ) μ) = 0 then (
      if mi_wr (μ 13 3) < mi_wr (μ 13 2) then (
        mp95_11 (μ 13 3) (mi_set μ 13 4 (μ 13 3)) ∧
        if mi_wr (mv95_11 (μ 13 3) (mi_set μ 13 4 (μ 13 3))) = mi_wr 59 then (
          Q (.inl none) mi_G0 (mi_set (mi_set μ 13 4 (μ 13 3)) 13 4 ((μ 13 3) + 1)))
        else (
          mk72_13_95 X Q u (mi_set μ 13 4 (μ 13 3))))
      else (
        mk72_13_95 X Q u (mi_set μ 13 4 (μ 13 3))))
    else (
      mk72_13_8 X Q u (mi_set μ 13 3 ((μ 13 3) + 1))))
  else (
    if mi_wr (μ 13 3) < mi_wr (μ 13 2) then (
      mp95_11 (μ 13 3) (mi_set μ 13 4 (μ 13 3)) ∧
      if mi_wr (mv95_11 (μ 13 3) (mi_set μ 13 4 (μ 13 3))) = mi_wr 59 then (
        Q (.inl none) mi_G0 (mi_set (mi_set μ 13 4 (μ 13 3)) 13 4 ((μ 13 3) + 1)))
      else (
        mk72_13_95 X Q u (mi_set μ 13 4 (μ 13 3))))
    else (
      mk72_13_95 X Q u (mi_set μ 13 4 (μ 13 3))))) : mk72_13_8 X Q u μ :=
  ms_run (stop := ms72_13) (by decide) rfl (fun _ _ _ _ _ _ h => h) 68 8 _ _ _ _ _ (mi_ite (fun h205 => (mc95_11 h205.1 (mc75 (mi_ite (fun h206 => (mi_ite (fun h207 => (mc95_11 h207.1 (mi_ite (fun h208 => h208) (fun h208 => (h208)) h207.2))) (fun h207 => (h207)) h206)) (fun h206 => (h206)) h205.2)))) (fun h205 => (mi_ite (fun h209 => (mc95_11 h209.1 (mi_ite (fun h210 => h210) (fun h210 => (h210)) h209.2))) (fun h209 => (h209)) h205)) h)
theorem mh72_13_95 {X : mi_X} {Q : mi_R → mi_G → mi_M → Prop} {u : mi_U} {μ : mi_M} (h :
  if mi_wr (μ 13 4) < mi_wr (μ 13 2) then (
    mp95_11 (μ 13 4) μ ∧
    if mi_wr (mv77 (mv95_11 (μ 13 4) μ) μ) = 0 then (
      Q (.inl none) mi_G0 μ)
    else (
      mk72_13_95 X Q u (mi_set μ 13 4 ((μ 13 4) + 1))))
  else (
    Q (.inl none) mi_G0 μ)) : mk72_13_95 X Q u μ :=
  ms_run (stop := ms72_13) (by decide) rfl (fun _ _ _ _ _ _ h => h) 68 95 _ _ _ _ _ (mi_ite (fun h211 => (mc95_11 h211.1 (mc77 (mi_ite (fun h212 => h212) (fun h212 => (h212)) h211.2)))) (fun h211 => h211) h)
-- TwoViews$Reader.numberTold()I (13,)
noncomputable def mk71_13_35 (X : mi_X) (Q : mi_R → mi_G → mi_M → Prop) (u : mi_U) (l1 l2 : Int) (μ : mi_M) : Prop := ∀ o3 : Option mi_V, mi_ok X 71 mi_G0 Q 35 [some (.inr (.inl (some 13))), some (.inl l1), some (.inl l2), o3] [] mi_G0 μ u
def ms71_13 (pc : Nat) : Bool := Nat.beq pc 35
theorem me71_13 {X : mi_X} {Q : mi_R → mi_G → mi_M → Prop} {u : mi_U} {μ : mi_M} (h :
  if mi_wr ((μ 13 4) - (μ 13 3)) < mi_wr 1 then (
    Q (.inl (some (.inl (-1)))) mi_G0 μ)
  else (
    if mi_wr 3 < mi_wr ((μ 13 4) - (μ 13 3)) then (
      Q (.inl (some (.inl (-1)))) mi_G0 μ)
    else (
      mk71_13_35 X Q u 0 (μ 13 3) μ))) : mi_cok X 71 [(.inr (.inl (some 13)))] mi_G0 μ u Q :=
  mi_enter (by decide) (by decide) rfl rfl (ms_run (stop := ms71_13) (by decide) rfl (fun _ _ _ _ _ _ h => h) 49 0 _ _ _ _ _ (mi_ite (fun h213 => h213) (fun h213 => (mi_ite (fun h214 => h214) (fun h214 => (h214 _)) h213)) h))
theorem mh71_13_35 {X : mi_X} {Q : mi_R → mi_G → mi_M → Prop} {u : mi_U} {l1 l2 : Int} {μ : mi_M} (h :
  if mi_wr l2 < mi_wr (μ 13 4) then (
    mp95_11 l2 μ ∧
    if mi_wr (mv76 (mv95_11 l2 μ) μ) = 0 then (
      Q (.inl (some (.inl (-1)))) mi_G0 μ)
    else (
      mk71_13_35 X Q u (((l1 * 10) + (mv95_11 l2 μ)) - 48) (l2 + 1) μ))
  else (
    Q (.inl (some (.inl l1))) mi_G0 μ)) : mk71_13_35 X Q u l1 l2 μ :=
  fun o3 => ms_run (stop := ms71_13) (by decide) rfl (fun _ _ _ _ _ _ h => h) 49 35 _ _ _ _ _ (mi_ite (fun h215 => (mc95_11 h215.1 (mc76 (mi_ite (fun h216 => h216) (fun h216 => (h216 _)) h215.2)))) (fun h215 => h215) h)
-- TwoViews$Reader.takeDefaults(LTwoViews$Scene;)V (13, 1)
def ms64_13_1 (pc : Nat) : Bool := false
theorem me64_13_1 {X : mi_X} {Q : mi_R → mi_G → mi_M → Prop} {u : mi_U} {μ : mi_M} (h :
  Q (.inl none) mi_G0 (mi_set (mi_set (mi_row μ 15 (mi_cpy (mi_ro X 1002) (μ 15) 0 0 8)) 15 6 (μ 2 6)) 15 7 (μ 2 7))) : mi_cok X 64 [(.inr (.inl (some 13))), (.inr (.inl (some 1)))] mi_G0 μ u Q :=
  mi_enter (by decide) (by decide) rfl rfl (ms_run (stop := ms64_13_1) (by decide) rfl (fun _ _ _ _ _ _ h => h) 29 0 _ _ _ _ _ (And.intro (by decide : (0 : Int) ≤ 0 ∧ (0 : Int) ≤ 0 ∧ (0 : Int) ≤ 8 ∧ (0 : Int) + 8 ≤ 8 ∧ (0 : Int) + 8 ≤ 8) (And.intro (⟨by decide, by decide⟩ : (0 : Int) ≤ 6 ∧ (6 : Int) < 8) (And.intro (⟨by decide, by decide⟩ : (0 : Int) ≤ 6 ∧ (6 : Int) < 8) (And.intro (⟨by decide, by decide⟩ : (0 : Int) ≤ 7 ∧ (7 : Int) < 8) (And.intro (⟨by decide, by decide⟩ : (0 : Int) ≤ 7 ∧ (7 : Int) < 8) h))))))
-- TwoViews$Reader.isToken(Ljava/lang/String;)Z (13, 1020)
noncomputable def mk73_13_1020_13 (X : mi_X) (Q : mi_R → mi_G → mi_M → Prop) (u : mi_U) (s0 s1 : Int) (μ : mi_M) : Prop := ∀ o2 : Option mi_V, mi_ok X 73 mi_G0 Q 13 [some (.inr (.inl (some 13))), some (.inr (.inl (some 1020))), o2] [(.inl s1), (.inl s0)] mi_G0 μ u
noncomputable def mk73_13_1020_20 (X : mi_X) (Q : mi_R → mi_G → mi_M → Prop) (u : mi_U) (l2 : Int) (μ : mi_M) : Prop := mi_ok X 73 mi_G0 Q 20 [some (.inr (.inl (some 13))), some (.inr (.inl (some 1020))), some (.inl l2)] [] mi_G0 μ u
noncomputable def mk73_13_1020_25 (X : mi_X) (Q : mi_R → mi_G → mi_M → Prop) (u : mi_U) (l2 s0 s1 : Int) (μ : mi_M) : Prop := mi_ok X 73 mi_G0 Q 25 [some (.inr (.inl (some 13))), some (.inr (.inl (some 1020))), some (.inl l2)] [(.inl s1), (.inl s0)] mi_G0 μ u
def ms73_13_1020 (pc : Nat) : Bool := Nat.beq pc 13 || Nat.beq pc 20 || Nat.beq pc 25
theorem me73_13_1020 {X : mi_X} {Q : mi_R → mi_G → mi_M → Prop} {u : mi_U} {μ : mi_M} (h :
  mk73_13_1020_13 X Q u ((μ 13 4) - (μ 13 3)) (mi_rl X 1020 : Int) μ) : mi_cok X 73 [(.inr (.inl (some 13))), (.inr (.inl (some 1020)))] mi_G0 μ u Q :=
  mi_enter (by decide) (by decide) rfl rfl (ms_run (stop := ms73_13_1020) (by decide) rfl (fun _ _ _ _ _ _ h => h) 35 0 _ _ _ _ _ (h _))
theorem mh73_13_1020_13 {X : mi_X} {Q : mi_R → mi_G → mi_M → Prop} {u : mi_U} {s0 s1 : Int} {μ : mi_M} (h :
  if mi_wr s0 = mi_wr s1 then (
    mk73_13_1020_20 X Q u 0 μ)
  else (
    Q (.inl (some (.inl 0))) mi_G0 μ)) : mk73_13_1020_13 X Q u s0 s1 μ :=
  fun o2 => ms_run (stop := ms73_13_1020) (by decide) rfl (fun _ _ _ _ _ _ h => h) 35 13 _ _ _ _ _ (mi_ite (fun h217 => (h217)) (fun h217 => (And.intro (by decide : (0 : Int) = 0 ∨ (0 : Int) = 1) h217)) h)
theorem mh73_13_1020_20 {X : mi_X} {Q : mi_R → mi_G → mi_M → Prop} {u : mi_U} {l2 : Int} {μ : mi_M} (h :
  mk73_13_1020_25 X Q u l2 l2 (mi_rl X 1020 : Int) μ) : mk73_13_1020_20 X Q u l2 μ :=
  ms_run (stop := ms73_13_1020) (by decide) rfl (fun _ _ _ _ _ _ h => h) 35 20 _ _ _ _ _ (h)
theorem mh73_13_1020_25 {X : mi_X} {Q : mi_R → mi_G → mi_M → Prop} {u : mi_U} {l2 s0 s1 : Int} {μ : mi_M} (h :
  if mi_wr s0 < mi_wr s1 then (
    mp95_11 ((μ 13 3) + l2) μ ∧
    (0 ≤ l2 ∧ l2 < (mi_rl X 1020 : Int)) ∧
    if mi_wr (mv95_11 ((μ 13 3) + l2) μ) = mi_wr (mi_ro X 1020 l2) then (
      mk73_13_1020_20 X Q u (l2 + 1) μ)
    else (
      Q (.inl (some (.inl 0))) mi_G0 μ))
  else (
    Q (.inl (some (.inl 1))) mi_G0 μ)) : mk73_13_1020_25 X Q u l2 s0 s1 μ :=
  ms_run (stop := ms73_13_1020) (by decide) rfl (fun _ _ _ _ _ _ h => h) 35 25 _ _ _ _ _ (mi_ite (fun h218 => (mc95_11 h218.1 (And.intro h218.2.1 (mi_ite (fun h219 => (h219)) (fun h219 => (And.intro (by decide : (0 : Int) = 0 ∨ (0 : Int) = 1) h219)) h218.2.2)))) (fun h218 => (And.intro (by decide : (1 : Int) = 0 ∨ (1 : Int) = 1) h218)) h)
-- TwoViews$Reader.isToken(Ljava/lang/String;)Z (13, 1021)
noncomputable def mk73_13_1021_13 (X : mi_X) (Q : mi_R → mi_G → mi_M → Prop) (u : mi_U) (s0 s1 : Int) (μ : mi_M) : Prop := ∀ o2 : Option mi_V, mi_ok X 73 mi_G0 Q 13 [some (.inr (.inl (some 13))), some (.inr (.inl (some 1021))), o2] [(.inl s1), (.inl s0)] mi_G0 μ u
noncomputable def mk73_13_1021_20 (X : mi_X) (Q : mi_R → mi_G → mi_M → Prop) (u : mi_U) (l2 : Int) (μ : mi_M) : Prop := mi_ok X 73 mi_G0 Q 20 [some (.inr (.inl (some 13))), some (.inr (.inl (some 1021))), some (.inl l2)] [] mi_G0 μ u
noncomputable def mk73_13_1021_25 (X : mi_X) (Q : mi_R → mi_G → mi_M → Prop) (u : mi_U) (l2 s0 s1 : Int) (μ : mi_M) : Prop := mi_ok X 73 mi_G0 Q 25 [some (.inr (.inl (some 13))), some (.inr (.inl (some 1021))), some (.inl l2)] [(.inl s1), (.inl s0)] mi_G0 μ u
def ms73_13_1021 (pc : Nat) : Bool := Nat.beq pc 13 || Nat.beq pc 20 || Nat.beq pc 25
theorem me73_13_1021 {X : mi_X} {Q : mi_R → mi_G → mi_M → Prop} {u : mi_U} {μ : mi_M} (h :
  mk73_13_1021_13 X Q u ((μ 13 4) - (μ 13 3)) (mi_rl X 1021 : Int) μ) : mi_cok X 73 [(.inr (.inl (some 13))), (.inr (.inl (some 1021)))] mi_G0 μ u Q :=
  mi_enter (by decide) (by decide) rfl rfl (ms_run (stop := ms73_13_1021) (by decide) rfl (fun _ _ _ _ _ _ h => h) 35 0 _ _ _ _ _ (h _))
theorem mh73_13_1021_13 {X : mi_X} {Q : mi_R → mi_G → mi_M → Prop} {u : mi_U} {s0 s1 : Int} {μ : mi_M} (h :
  if mi_wr s0 = mi_wr s1 then (
    mk73_13_1021_20 X Q u 0 μ)
  else (
    Q (.inl (some (.inl 0))) mi_G0 μ)) : mk73_13_1021_13 X Q u s0 s1 μ :=
  fun o2 => ms_run (stop := ms73_13_1021) (by decide) rfl (fun _ _ _ _ _ _ h => h) 35 13 _ _ _ _ _ (mi_ite (fun h220 => (h220)) (fun h220 => (And.intro (by decide : (0 : Int) = 0 ∨ (0 : Int) = 1) h220)) h)
theorem mh73_13_1021_20 {X : mi_X} {Q : mi_R → mi_G → mi_M → Prop} {u : mi_U} {l2 : Int} {μ : mi_M} (h :
  mk73_13_1021_25 X Q u l2 l2 (mi_rl X 1021 : Int) μ) : mk73_13_1021_20 X Q u l2 μ :=
  ms_run (stop := ms73_13_1021) (by decide) rfl (fun _ _ _ _ _ _ h => h) 35 20 _ _ _ _ _ (h)
theorem mh73_13_1021_25 {X : mi_X} {Q : mi_R → mi_G → mi_M → Prop} {u : mi_U} {l2 s0 s1 : Int} {μ : mi_M} (h :
  if mi_wr s0 < mi_wr s1 then (
    mp95_11 ((μ 13 3) + l2) μ ∧
    (0 ≤ l2 ∧ l2 < (mi_rl X 1021 : Int)) ∧
    if mi_wr (mv95_11 ((μ 13 3) + l2) μ) = mi_wr (mi_ro X 1021 l2) then (
      mk73_13_1021_20 X Q u (l2 + 1) μ)
    else (
      Q (.inl (some (.inl 0))) mi_G0 μ))
  else (
    Q (.inl (some (.inl 1))) mi_G0 μ)) : mk73_13_1021_25 X Q u l2 s0 s1 μ :=
  ms_run (stop := ms73_13_1021) (by decide) rfl (fun _ _ _ _ _ _ h => h) 35 25 _ _ _ _ _ (mi_ite (fun h221 => (mc95_11 h221.1 (And.intro h221.2.1 (mi_ite (fun h222 => (h222)) (fun h222 => (And.intro (by decide : (0 : Int) = 0 ∨ (0 : Int) = 1) h222)) h221.2.2)))) (fun h221 => (And.intro (by decide : (1 : Int) = 0 ∨ (1 : Int) = 1) h221)) h)
-- TwoViews$Reader.isToken(Ljava/lang/String;)Z (13, 1022)
noncomputable def mk73_13_1022_13 (X : mi_X) (Q : mi_R → mi_G → mi_M → Prop) (u : mi_U) (s0 s1 : Int) (μ : mi_M) : Prop := ∀ o2 : Option mi_V, mi_ok X 73 mi_G0 Q 13 [some (.inr (.inl (some 13))), some (.inr (.inl (some 1022))), o2] [(.inl s1), (.inl s0)] mi_G0 μ u
noncomputable def mk73_13_1022_20 (X : mi_X) (Q : mi_R → mi_G → mi_M → Prop) (u : mi_U) (l2 : Int) (μ : mi_M) : Prop := mi_ok X 73 mi_G0 Q 20 [some (.inr (.inl (some 13))), some (.inr (.inl (some 1022))), some (.inl l2)] [] mi_G0 μ u
noncomputable def mk73_13_1022_25 (X : mi_X) (Q : mi_R → mi_G → mi_M → Prop) (u : mi_U) (l2 s0 s1 : Int) (μ : mi_M) : Prop := mi_ok X 73 mi_G0 Q 25 [some (.inr (.inl (some 13))), some (.inr (.inl (some 1022))), some (.inl l2)] [(.inl s1), (.inl s0)] mi_G0 μ u
def ms73_13_1022 (pc : Nat) : Bool := Nat.beq pc 13 || Nat.beq pc 20 || Nat.beq pc 25
theorem me73_13_1022 {X : mi_X} {Q : mi_R → mi_G → mi_M → Prop} {u : mi_U} {μ : mi_M} (h :
  mk73_13_1022_13 X Q u ((μ 13 4) - (μ 13 3)) (mi_rl X 1022 : Int) μ) : mi_cok X 73 [(.inr (.inl (some 13))), (.inr (.inl (some 1022)))] mi_G0 μ u Q :=
  mi_enter (by decide) (by decide) rfl rfl (ms_run (stop := ms73_13_1022) (by decide) rfl (fun _ _ _ _ _ _ h => h) 35 0 _ _ _ _ _ (h _))
theorem mh73_13_1022_13 {X : mi_X} {Q : mi_R → mi_G → mi_M → Prop} {u : mi_U} {s0 s1 : Int} {μ : mi_M} (h :
  if mi_wr s0 = mi_wr s1 then (
    mk73_13_1022_20 X Q u 0 μ)
  else (
    Q (.inl (some (.inl 0))) mi_G0 μ)) : mk73_13_1022_13 X Q u s0 s1 μ :=
  fun o2 => ms_run (stop := ms73_13_1022) (by decide) rfl (fun _ _ _ _ _ _ h => h) 35 13 _ _ _ _ _ (mi_ite (fun h223 => (h223)) (fun h223 => (And.intro (by decide : (0 : Int) = 0 ∨ (0 : Int) = 1) h223)) h)
theorem mh73_13_1022_20 {X : mi_X} {Q : mi_R → mi_G → mi_M → Prop} {u : mi_U} {l2 : Int} {μ : mi_M} (h :
  mk73_13_1022_25 X Q u l2 l2 (mi_rl X 1022 : Int) μ) : mk73_13_1022_20 X Q u l2 μ :=
  ms_run (stop := ms73_13_1022) (by decide) rfl (fun _ _ _ _ _ _ h => h) 35 20 _ _ _ _ _ (h)
theorem mh73_13_1022_25 {X : mi_X} {Q : mi_R → mi_G → mi_M → Prop} {u : mi_U} {l2 s0 s1 : Int} {μ : mi_M} (h :
  if mi_wr s0 < mi_wr s1 then (
    mp95_11 ((μ 13 3) + l2) μ ∧
    (0 ≤ l2 ∧ l2 < (mi_rl X 1022 : Int)) ∧
    if mi_wr (mv95_11 ((μ 13 3) + l2) μ) = mi_wr (mi_ro X 1022 l2) then (
      mk73_13_1022_20 X Q u (l2 + 1) μ)
    else (
      Q (.inl (some (.inl 0))) mi_G0 μ))
  else (
    Q (.inl (some (.inl 1))) mi_G0 μ)) : mk73_13_1022_25 X Q u l2 s0 s1 μ :=
  ms_run (stop := ms73_13_1022) (by decide) rfl (fun _ _ _ _ _ _ h => h) 35 25 _ _ _ _ _ (mi_ite (fun h224 => (mc95_11 h224.1 (And.intro h224.2.1 (mi_ite (fun h225 => (h225)) (fun h225 => (And.intro (by decide : (0 : Int) = 0 ∨ (0 : Int) = 1) h225)) h224.2.2)))) (fun h224 => (And.intro (by decide : (1 : Int) = 0 ∨ (1 : Int) = 1) h224)) h)
-- TwoViews$Reader.isToken(Ljava/lang/String;)Z (13, 1023)
noncomputable def mk73_13_1023_13 (X : mi_X) (Q : mi_R → mi_G → mi_M → Prop) (u : mi_U) (s0 s1 : Int) (μ : mi_M) : Prop := ∀ o2 : Option mi_V, mi_ok X 73 mi_G0 Q 13 [some (.inr (.inl (some 13))), some (.inr (.inl (some 1023))), o2] [(.inl s1), (.inl s0)] mi_G0 μ u
noncomputable def mk73_13_1023_20 (X : mi_X) (Q : mi_R → mi_G → mi_M → Prop) (u : mi_U) (l2 : Int) (μ : mi_M) : Prop := mi_ok X 73 mi_G0 Q 20 [some (.inr (.inl (some 13))), some (.inr (.inl (some 1023))), some (.inl l2)] [] mi_G0 μ u
noncomputable def mk73_13_1023_25 (X : mi_X) (Q : mi_R → mi_G → mi_M → Prop) (u : mi_U) (l2 s0 s1 : Int) (μ : mi_M) : Prop := mi_ok X 73 mi_G0 Q 25 [some (.inr (.inl (some 13))), some (.inr (.inl (some 1023))), some (.inl l2)] [(.inl s1), (.inl s0)] mi_G0 μ u
def ms73_13_1023 (pc : Nat) : Bool := Nat.beq pc 13 || Nat.beq pc 20 || Nat.beq pc 25
theorem me73_13_1023 {X : mi_X} {Q : mi_R → mi_G → mi_M → Prop} {u : mi_U} {μ : mi_M} (h :
  mk73_13_1023_13 X Q u ((μ 13 4) - (μ 13 3)) (mi_rl X 1023 : Int) μ) : mi_cok X 73 [(.inr (.inl (some 13))), (.inr (.inl (some 1023)))] mi_G0 μ u Q :=
  mi_enter (by decide) (by decide) rfl rfl (ms_run (stop := ms73_13_1023) (by decide) rfl (fun _ _ _ _ _ _ h => h) 35 0 _ _ _ _ _ (h _))
theorem mh73_13_1023_13 {X : mi_X} {Q : mi_R → mi_G → mi_M → Prop} {u : mi_U} {s0 s1 : Int} {μ : mi_M} (h :
  if mi_wr s0 = mi_wr s1 then (
    mk73_13_1023_20 X Q u 0 μ)
  else (
    Q (.inl (some (.inl 0))) mi_G0 μ)) : mk73_13_1023_13 X Q u s0 s1 μ :=
  fun o2 => ms_run (stop := ms73_13_1023) (by decide) rfl (fun _ _ _ _ _ _ h => h) 35 13 _ _ _ _ _ (mi_ite (fun h226 => (h226)) (fun h226 => (And.intro (by decide : (0 : Int) = 0 ∨ (0 : Int) = 1) h226)) h)
theorem mh73_13_1023_20 {X : mi_X} {Q : mi_R → mi_G → mi_M → Prop} {u : mi_U} {l2 : Int} {μ : mi_M} (h :
  mk73_13_1023_25 X Q u l2 l2 (mi_rl X 1023 : Int) μ) : mk73_13_1023_20 X Q u l2 μ :=
  ms_run (stop := ms73_13_1023) (by decide) rfl (fun _ _ _ _ _ _ h => h) 35 20 _ _ _ _ _ (h)
theorem mh73_13_1023_25 {X : mi_X} {Q : mi_R → mi_G → mi_M → Prop} {u : mi_U} {l2 s0 s1 : Int} {μ : mi_M} (h :
  if mi_wr s0 < mi_wr s1 then (
    mp95_11 ((μ 13 3) + l2) μ ∧
    (0 ≤ l2 ∧ l2 < (mi_rl X 1023 : Int)) ∧
    if mi_wr (mv95_11 ((μ 13 3) + l2) μ) = mi_wr (mi_ro X 1023 l2) then (
      mk73_13_1023_20 X Q u (l2 + 1) μ)
    else (
      Q (.inl (some (.inl 0))) mi_G0 μ))
  else (
    Q (.inl (some (.inl 1))) mi_G0 μ)) : mk73_13_1023_25 X Q u l2 s0 s1 μ :=
  ms_run (stop := ms73_13_1023) (by decide) rfl (fun _ _ _ _ _ _ h => h) 35 25 _ _ _ _ _ (mi_ite (fun h227 => (mc95_11 h227.1 (And.intro h227.2.1 (mi_ite (fun h228 => (h228)) (fun h228 => (And.intro (by decide : (0 : Int) = 0 ∨ (0 : Int) = 1) h228)) h227.2.2)))) (fun h227 => (And.intro (by decide : (1 : Int) = 0 ∨ (1 : Int) = 1) h227)) h)
-- TwoViews$Reader.isToken(Ljava/lang/String;)Z (13, 1024)
noncomputable def mk73_13_1024_13 (X : mi_X) (Q : mi_R → mi_G → mi_M → Prop) (u : mi_U) (s0 s1 : Int) (μ : mi_M) : Prop := ∀ o2 : Option mi_V, mi_ok X 73 mi_G0 Q 13 [some (.inr (.inl (some 13))), some (.inr (.inl (some 1024))), o2] [(.inl s1), (.inl s0)] mi_G0 μ u
noncomputable def mk73_13_1024_20 (X : mi_X) (Q : mi_R → mi_G → mi_M → Prop) (u : mi_U) (l2 : Int) (μ : mi_M) : Prop := mi_ok X 73 mi_G0 Q 20 [some (.inr (.inl (some 13))), some (.inr (.inl (some 1024))), some (.inl l2)] [] mi_G0 μ u
noncomputable def mk73_13_1024_25 (X : mi_X) (Q : mi_R → mi_G → mi_M → Prop) (u : mi_U) (l2 s0 s1 : Int) (μ : mi_M) : Prop := mi_ok X 73 mi_G0 Q 25 [some (.inr (.inl (some 13))), some (.inr (.inl (some 1024))), some (.inl l2)] [(.inl s1), (.inl s0)] mi_G0 μ u
def ms73_13_1024 (pc : Nat) : Bool := Nat.beq pc 13 || Nat.beq pc 20 || Nat.beq pc 25
theorem me73_13_1024 {X : mi_X} {Q : mi_R → mi_G → mi_M → Prop} {u : mi_U} {μ : mi_M} (h :
  mk73_13_1024_13 X Q u ((μ 13 4) - (μ 13 3)) (mi_rl X 1024 : Int) μ) : mi_cok X 73 [(.inr (.inl (some 13))), (.inr (.inl (some 1024)))] mi_G0 μ u Q :=
  mi_enter (by decide) (by decide) rfl rfl (ms_run (stop := ms73_13_1024) (by decide) rfl (fun _ _ _ _ _ _ h => h) 35 0 _ _ _ _ _ (h _))
theorem mh73_13_1024_13 {X : mi_X} {Q : mi_R → mi_G → mi_M → Prop} {u : mi_U} {s0 s1 : Int} {μ : mi_M} (h :
  if mi_wr s0 = mi_wr s1 then (
    mk73_13_1024_20 X Q u 0 μ)
  else (
    Q (.inl (some (.inl 0))) mi_G0 μ)) : mk73_13_1024_13 X Q u s0 s1 μ :=
  fun o2 => ms_run (stop := ms73_13_1024) (by decide) rfl (fun _ _ _ _ _ _ h => h) 35 13 _ _ _ _ _ (mi_ite (fun h229 => (h229)) (fun h229 => (And.intro (by decide : (0 : Int) = 0 ∨ (0 : Int) = 1) h229)) h)
theorem mh73_13_1024_20 {X : mi_X} {Q : mi_R → mi_G → mi_M → Prop} {u : mi_U} {l2 : Int} {μ : mi_M} (h :
  mk73_13_1024_25 X Q u l2 l2 (mi_rl X 1024 : Int) μ) : mk73_13_1024_20 X Q u l2 μ :=
  ms_run (stop := ms73_13_1024) (by decide) rfl (fun _ _ _ _ _ _ h => h) 35 20 _ _ _ _ _ (h)
theorem mh73_13_1024_25 {X : mi_X} {Q : mi_R → mi_G → mi_M → Prop} {u : mi_U} {l2 s0 s1 : Int} {μ : mi_M} (h :
  if mi_wr s0 < mi_wr s1 then (
    mp95_11 ((μ 13 3) + l2) μ ∧
    (0 ≤ l2 ∧ l2 < (mi_rl X 1024 : Int)) ∧
    if mi_wr (mv95_11 ((μ 13 3) + l2) μ) = mi_wr (mi_ro X 1024 l2) then (
      mk73_13_1024_20 X Q u (l2 + 1) μ)
    else (
      Q (.inl (some (.inl 0))) mi_G0 μ))
  else (
    Q (.inl (some (.inl 1))) mi_G0 μ)) : mk73_13_1024_25 X Q u l2 s0 s1 μ :=
  ms_run (stop := ms73_13_1024) (by decide) rfl (fun _ _ _ _ _ _ h => h) 35 25 _ _ _ _ _ (mi_ite (fun h230 => (mc95_11 h230.1 (And.intro h230.2.1 (mi_ite (fun h231 => (h231)) (fun h231 => (And.intro (by decide : (0 : Int) = 0 ∨ (0 : Int) = 1) h231)) h230.2.2)))) (fun h230 => (And.intro (by decide : (1 : Int) = 0 ∨ (1 : Int) = 1) h230)) h)
-- TwoViews$Reader.isToken(Ljava/lang/String;)Z (13, 1025)
noncomputable def mk73_13_1025_13 (X : mi_X) (Q : mi_R → mi_G → mi_M → Prop) (u : mi_U) (s0 s1 : Int) (μ : mi_M) : Prop := ∀ o2 : Option mi_V, mi_ok X 73 mi_G0 Q 13 [some (.inr (.inl (some 13))), some (.inr (.inl (some 1025))), o2] [(.inl s1), (.inl s0)] mi_G0 μ u
noncomputable def mk73_13_1025_20 (X : mi_X) (Q : mi_R → mi_G → mi_M → Prop) (u : mi_U) (l2 : Int) (μ : mi_M) : Prop := mi_ok X 73 mi_G0 Q 20 [some (.inr (.inl (some 13))), some (.inr (.inl (some 1025))), some (.inl l2)] [] mi_G0 μ u
noncomputable def mk73_13_1025_25 (X : mi_X) (Q : mi_R → mi_G → mi_M → Prop) (u : mi_U) (l2 s0 s1 : Int) (μ : mi_M) : Prop := mi_ok X 73 mi_G0 Q 25 [some (.inr (.inl (some 13))), some (.inr (.inl (some 1025))), some (.inl l2)] [(.inl s1), (.inl s0)] mi_G0 μ u
def ms73_13_1025 (pc : Nat) : Bool := Nat.beq pc 13 || Nat.beq pc 20 || Nat.beq pc 25
theorem me73_13_1025 {X : mi_X} {Q : mi_R → mi_G → mi_M → Prop} {u : mi_U} {μ : mi_M} (h :
  mk73_13_1025_13 X Q u ((μ 13 4) - (μ 13 3)) (mi_rl X 1025 : Int) μ) : mi_cok X 73 [(.inr (.inl (some 13))), (.inr (.inl (some 1025)))] mi_G0 μ u Q :=
  mi_enter (by decide) (by decide) rfl rfl (ms_run (stop := ms73_13_1025) (by decide) rfl (fun _ _ _ _ _ _ h => h) 35 0 _ _ _ _ _ (h _))
theorem mh73_13_1025_13 {X : mi_X} {Q : mi_R → mi_G → mi_M → Prop} {u : mi_U} {s0 s1 : Int} {μ : mi_M} (h :
  if mi_wr s0 = mi_wr s1 then (
    mk73_13_1025_20 X Q u 0 μ)
  else (
    Q (.inl (some (.inl 0))) mi_G0 μ)) : mk73_13_1025_13 X Q u s0 s1 μ :=
  fun o2 => ms_run (stop := ms73_13_1025) (by decide) rfl (fun _ _ _ _ _ _ h => h) 35 13 _ _ _ _ _ (mi_ite (fun h232 => (h232)) (fun h232 => (And.intro (by decide : (0 : Int) = 0 ∨ (0 : Int) = 1) h232)) h)
theorem mh73_13_1025_20 {X : mi_X} {Q : mi_R → mi_G → mi_M → Prop} {u : mi_U} {l2 : Int} {μ : mi_M} (h :
  mk73_13_1025_25 X Q u l2 l2 (mi_rl X 1025 : Int) μ) : mk73_13_1025_20 X Q u l2 μ :=
  ms_run (stop := ms73_13_1025) (by decide) rfl (fun _ _ _ _ _ _ h => h) 35 20 _ _ _ _ _ (h)
theorem mh73_13_1025_25 {X : mi_X} {Q : mi_R → mi_G → mi_M → Prop} {u : mi_U} {l2 s0 s1 : Int} {μ : mi_M} (h :
  if mi_wr s0 < mi_wr s1 then (
    mp95_11 ((μ 13 3) + l2) μ ∧
    (0 ≤ l2 ∧ l2 < (mi_rl X 1025 : Int)) ∧
    if mi_wr (mv95_11 ((μ 13 3) + l2) μ) = mi_wr (mi_ro X 1025 l2) then (
      mk73_13_1025_20 X Q u (l2 + 1) μ)
    else (
      Q (.inl (some (.inl 0))) mi_G0 μ))
  else (
    Q (.inl (some (.inl 1))) mi_G0 μ)) : mk73_13_1025_25 X Q u l2 s0 s1 μ :=
  ms_run (stop := ms73_13_1025) (by decide) rfl (fun _ _ _ _ _ _ h => h) 35 25 _ _ _ _ _ (mi_ite (fun h233 => (mc95_11 h233.1 (And.intro h233.2.1 (mi_ite (fun h234 => (h234)) (fun h234 => (And.intro (by decide : (0 : Int) = 0 ∨ (0 : Int) = 1) h234)) h233.2.2)))) (fun h233 => (And.intro (by decide : (1 : Int) = 0 ∨ (1 : Int) = 1) h233)) h)
-- TwoViews$Reader.isToken(Ljava/lang/String;)Z (13, 1026)
noncomputable def mk73_13_1026_13 (X : mi_X) (Q : mi_R → mi_G → mi_M → Prop) (u : mi_U) (s0 s1 : Int) (μ : mi_M) : Prop := ∀ o2 : Option mi_V, mi_ok X 73 mi_G0 Q 13 [some (.inr (.inl (some 13))), some (.inr (.inl (some 1026))), o2] [(.inl s1), (.inl s0)] mi_G0 μ u
noncomputable def mk73_13_1026_20 (X : mi_X) (Q : mi_R → mi_G → mi_M → Prop) (u : mi_U) (l2 : Int) (μ : mi_M) : Prop := mi_ok X 73 mi_G0 Q 20 [some (.inr (.inl (some 13))), some (.inr (.inl (some 1026))), some (.inl l2)] [] mi_G0 μ u
noncomputable def mk73_13_1026_25 (X : mi_X) (Q : mi_R → mi_G → mi_M → Prop) (u : mi_U) (l2 s0 s1 : Int) (μ : mi_M) : Prop := mi_ok X 73 mi_G0 Q 25 [some (.inr (.inl (some 13))), some (.inr (.inl (some 1026))), some (.inl l2)] [(.inl s1), (.inl s0)] mi_G0 μ u
def ms73_13_1026 (pc : Nat) : Bool := Nat.beq pc 13 || Nat.beq pc 20 || Nat.beq pc 25
theorem me73_13_1026 {X : mi_X} {Q : mi_R → mi_G → mi_M → Prop} {u : mi_U} {μ : mi_M} (h :
  mk73_13_1026_13 X Q u ((μ 13 4) - (μ 13 3)) (mi_rl X 1026 : Int) μ) : mi_cok X 73 [(.inr (.inl (some 13))), (.inr (.inl (some 1026)))] mi_G0 μ u Q :=
  mi_enter (by decide) (by decide) rfl rfl (ms_run (stop := ms73_13_1026) (by decide) rfl (fun _ _ _ _ _ _ h => h) 35 0 _ _ _ _ _ (h _))
theorem mh73_13_1026_13 {X : mi_X} {Q : mi_R → mi_G → mi_M → Prop} {u : mi_U} {s0 s1 : Int} {μ : mi_M} (h :
  if mi_wr s0 = mi_wr s1 then (
    mk73_13_1026_20 X Q u 0 μ)
  else (
    Q (.inl (some (.inl 0))) mi_G0 μ)) : mk73_13_1026_13 X Q u s0 s1 μ :=
  fun o2 => ms_run (stop := ms73_13_1026) (by decide) rfl (fun _ _ _ _ _ _ h => h) 35 13 _ _ _ _ _ (mi_ite (fun h235 => (h235)) (fun h235 => (And.intro (by decide : (0 : Int) = 0 ∨ (0 : Int) = 1) h235)) h)
theorem mh73_13_1026_20 {X : mi_X} {Q : mi_R → mi_G → mi_M → Prop} {u : mi_U} {l2 : Int} {μ : mi_M} (h :
  mk73_13_1026_25 X Q u l2 l2 (mi_rl X 1026 : Int) μ) : mk73_13_1026_20 X Q u l2 μ :=
  ms_run (stop := ms73_13_1026) (by decide) rfl (fun _ _ _ _ _ _ h => h) 35 20 _ _ _ _ _ (h)
theorem mh73_13_1026_25 {X : mi_X} {Q : mi_R → mi_G → mi_M → Prop} {u : mi_U} {l2 s0 s1 : Int} {μ : mi_M} (h :
  if mi_wr s0 < mi_wr s1 then (
    mp95_11 ((μ 13 3) + l2) μ ∧
    (0 ≤ l2 ∧ l2 < (mi_rl X 1026 : Int)) ∧
    if mi_wr (mv95_11 ((μ 13 3) + l2) μ) = mi_wr (mi_ro X 1026 l2) then (
      mk73_13_1026_20 X Q u (l2 + 1) μ)
    else (
      Q (.inl (some (.inl 0))) mi_G0 μ))
  else (
    Q (.inl (some (.inl 1))) mi_G0 μ)) : mk73_13_1026_25 X Q u l2 s0 s1 μ :=
  ms_run (stop := ms73_13_1026) (by decide) rfl (fun _ _ _ _ _ _ h => h) 35 25 _ _ _ _ _ (mi_ite (fun h236 => (mc95_11 h236.1 (And.intro h236.2.1 (mi_ite (fun h237 => (h237)) (fun h237 => (And.intro (by decide : (0 : Int) = 0 ∨ (0 : Int) = 1) h237)) h236.2.2)))) (fun h236 => (And.intro (by decide : (1 : Int) = 0 ∨ (1 : Int) = 1) h236)) h)
-- TwoViews$Reader.isToken(Ljava/lang/String;)Z (13, 1027)
noncomputable def mk73_13_1027_13 (X : mi_X) (Q : mi_R → mi_G → mi_M → Prop) (u : mi_U) (s0 s1 : Int) (μ : mi_M) : Prop := ∀ o2 : Option mi_V, mi_ok X 73 mi_G0 Q 13 [some (.inr (.inl (some 13))), some (.inr (.inl (some 1027))), o2] [(.inl s1), (.inl s0)] mi_G0 μ u
noncomputable def mk73_13_1027_20 (X : mi_X) (Q : mi_R → mi_G → mi_M → Prop) (u : mi_U) (l2 : Int) (μ : mi_M) : Prop := mi_ok X 73 mi_G0 Q 20 [some (.inr (.inl (some 13))), some (.inr (.inl (some 1027))), some (.inl l2)] [] mi_G0 μ u
noncomputable def mk73_13_1027_25 (X : mi_X) (Q : mi_R → mi_G → mi_M → Prop) (u : mi_U) (l2 s0 s1 : Int) (μ : mi_M) : Prop := mi_ok X 73 mi_G0 Q 25 [some (.inr (.inl (some 13))), some (.inr (.inl (some 1027))), some (.inl l2)] [(.inl s1), (.inl s0)] mi_G0 μ u
def ms73_13_1027 (pc : Nat) : Bool := Nat.beq pc 13 || Nat.beq pc 20 || Nat.beq pc 25
theorem me73_13_1027 {X : mi_X} {Q : mi_R → mi_G → mi_M → Prop} {u : mi_U} {μ : mi_M} (h :
  mk73_13_1027_13 X Q u ((μ 13 4) - (μ 13 3)) (mi_rl X 1027 : Int) μ) : mi_cok X 73 [(.inr (.inl (some 13))), (.inr (.inl (some 1027)))] mi_G0 μ u Q :=
  mi_enter (by decide) (by decide) rfl rfl (ms_run (stop := ms73_13_1027) (by decide) rfl (fun _ _ _ _ _ _ h => h) 35 0 _ _ _ _ _ (h _))
theorem mh73_13_1027_13 {X : mi_X} {Q : mi_R → mi_G → mi_M → Prop} {u : mi_U} {s0 s1 : Int} {μ : mi_M} (h :
  if mi_wr s0 = mi_wr s1 then (
    mk73_13_1027_20 X Q u 0 μ)
  else (
    Q (.inl (some (.inl 0))) mi_G0 μ)) : mk73_13_1027_13 X Q u s0 s1 μ :=
  fun o2 => ms_run (stop := ms73_13_1027) (by decide) rfl (fun _ _ _ _ _ _ h => h) 35 13 _ _ _ _ _ (mi_ite (fun h238 => (h238)) (fun h238 => (And.intro (by decide : (0 : Int) = 0 ∨ (0 : Int) = 1) h238)) h)
theorem mh73_13_1027_20 {X : mi_X} {Q : mi_R → mi_G → mi_M → Prop} {u : mi_U} {l2 : Int} {μ : mi_M} (h :
  mk73_13_1027_25 X Q u l2 l2 (mi_rl X 1027 : Int) μ) : mk73_13_1027_20 X Q u l2 μ :=
  ms_run (stop := ms73_13_1027) (by decide) rfl (fun _ _ _ _ _ _ h => h) 35 20 _ _ _ _ _ (h)
theorem mh73_13_1027_25 {X : mi_X} {Q : mi_R → mi_G → mi_M → Prop} {u : mi_U} {l2 s0 s1 : Int} {μ : mi_M} (h :
  if mi_wr s0 < mi_wr s1 then (
    mp95_11 ((μ 13 3) + l2) μ ∧
    (0 ≤ l2 ∧ l2 < (mi_rl X 1027 : Int)) ∧
    if mi_wr (mv95_11 ((μ 13 3) + l2) μ) = mi_wr (mi_ro X 1027 l2) then (
      mk73_13_1027_20 X Q u (l2 + 1) μ)
    else (
      Q (.inl (some (.inl 0))) mi_G0 μ))
  else (
    Q (.inl (some (.inl 1))) mi_G0 μ)) : mk73_13_1027_25 X Q u l2 s0 s1 μ :=
  ms_run (stop := ms73_13_1027) (by decide) rfl (fun _ _ _ _ _ _ h => h) 35 25 _ _ _ _ _ (mi_ite (fun h239 => (mc95_11 h239.1 (And.intro h239.2.1 (mi_ite (fun h240 => (h240)) (fun h240 => (And.intro (by decide : (0 : Int) = 0 ∨ (0 : Int) = 1) h240)) h239.2.2)))) (fun h239 => (And.intro (by decide : (1 : Int) = 0 ∨ (1 : Int) = 1) h239)) h)
-- TwoViews$Reader.isToken(Ljava/lang/String;)Z (13, 1028)
noncomputable def mk73_13_1028_13 (X : mi_X) (Q : mi_R → mi_G → mi_M → Prop) (u : mi_U) (s0 s1 : Int) (μ : mi_M) : Prop := ∀ o2 : Option mi_V, mi_ok X 73 mi_G0 Q 13 [some (.inr (.inl (some 13))), some (.inr (.inl (some 1028))), o2] [(.inl s1), (.inl s0)] mi_G0 μ u
noncomputable def mk73_13_1028_20 (X : mi_X) (Q : mi_R → mi_G → mi_M → Prop) (u : mi_U) (l2 : Int) (μ : mi_M) : Prop := mi_ok X 73 mi_G0 Q 20 [some (.inr (.inl (some 13))), some (.inr (.inl (some 1028))), some (.inl l2)] [] mi_G0 μ u
noncomputable def mk73_13_1028_25 (X : mi_X) (Q : mi_R → mi_G → mi_M → Prop) (u : mi_U) (l2 s0 s1 : Int) (μ : mi_M) : Prop := mi_ok X 73 mi_G0 Q 25 [some (.inr (.inl (some 13))), some (.inr (.inl (some 1028))), some (.inl l2)] [(.inl s1), (.inl s0)] mi_G0 μ u
def ms73_13_1028 (pc : Nat) : Bool := Nat.beq pc 13 || Nat.beq pc 20 || Nat.beq pc 25
theorem me73_13_1028 {X : mi_X} {Q : mi_R → mi_G → mi_M → Prop} {u : mi_U} {μ : mi_M} (h :
  mk73_13_1028_13 X Q u ((μ 13 4) - (μ 13 3)) (mi_rl X 1028 : Int) μ) : mi_cok X 73 [(.inr (.inl (some 13))), (.inr (.inl (some 1028)))] mi_G0 μ u Q :=
  mi_enter (by decide) (by decide) rfl rfl (ms_run (stop := ms73_13_1028) (by decide) rfl (fun _ _ _ _ _ _ h => h) 35 0 _ _ _ _ _ (h _))
theorem mh73_13_1028_13 {X : mi_X} {Q : mi_R → mi_G → mi_M → Prop} {u : mi_U} {s0 s1 : Int} {μ : mi_M} (h :
  if mi_wr s0 = mi_wr s1 then (
    mk73_13_1028_20 X Q u 0 μ)
  else (
    Q (.inl (some (.inl 0))) mi_G0 μ)) : mk73_13_1028_13 X Q u s0 s1 μ :=
  fun o2 => ms_run (stop := ms73_13_1028) (by decide) rfl (fun _ _ _ _ _ _ h => h) 35 13 _ _ _ _ _ (mi_ite (fun h241 => (h241)) (fun h241 => (And.intro (by decide : (0 : Int) = 0 ∨ (0 : Int) = 1) h241)) h)
theorem mh73_13_1028_20 {X : mi_X} {Q : mi_R → mi_G → mi_M → Prop} {u : mi_U} {l2 : Int} {μ : mi_M} (h :
  mk73_13_1028_25 X Q u l2 l2 (mi_rl X 1028 : Int) μ) : mk73_13_1028_20 X Q u l2 μ :=
  ms_run (stop := ms73_13_1028) (by decide) rfl (fun _ _ _ _ _ _ h => h) 35 20 _ _ _ _ _ (h)
theorem mh73_13_1028_25 {X : mi_X} {Q : mi_R → mi_G → mi_M → Prop} {u : mi_U} {l2 s0 s1 : Int} {μ : mi_M} (h :
  if mi_wr s0 < mi_wr s1 then (
    mp95_11 ((μ 13 3) + l2) μ ∧
    (0 ≤ l2 ∧ l2 < (mi_rl X 1028 : Int)) ∧
    if mi_wr (mv95_11 ((μ 13 3) + l2) μ) = mi_wr (mi_ro X 1028 l2) then (
      mk73_13_1028_20 X Q u (l2 + 1) μ)
    else (
      Q (.inl (some (.inl 0))) mi_G0 μ))
  else (
    Q (.inl (some (.inl 1))) mi_G0 μ)) : mk73_13_1028_25 X Q u l2 s0 s1 μ :=
  ms_run (stop := ms73_13_1028) (by decide) rfl (fun _ _ _ _ _ _ h => h) 35 25 _ _ _ _ _ (mi_ite (fun h242 => (mc95_11 h242.1 (And.intro h242.2.1 (mi_ite (fun h243 => (h243)) (fun h243 => (And.intro (by decide : (0 : Int) = 0 ∨ (0 : Int) = 1) h243)) h242.2.2)))) (fun h242 => (And.intro (by decide : (1 : Int) = 0 ∨ (1 : Int) = 1) h242)) h)
-- TwoViewsModel.go()V (86,)
noncomputable def mk158_86_0 (X : mi_X) (Q : mi_R → mi_G → mi_M → Prop) (u : mi_U) (μ : mi_M) : Prop := ∀ o1 : Option mi_V, mi_ok X 158 mi_G0 Q 0 [some (.inr (.inl (some 86))), o1] [] mi_G0 μ u
noncomputable def mk158_86_75 (X : mi_X) (Q : mi_R → mi_G → mi_M → Prop) (u : mi_U) (μ : mi_M) : Prop := ∀ o1 : Option mi_V, mi_ok X 158 mi_G0 Q 75 [some (.inr (.inl (some 86))), o1] [] mi_G0 μ u
def ms158_86 (pc : Nat) : Bool := Nat.beq pc 0 || Nat.beq pc 75
theorem me158_86 {X : mi_X} {Q : mi_R → mi_G → mi_M → Prop} {u : mi_U} {μ : mi_M} (h :
  mk158_86_0 X Q u μ) : mi_cok X 158 [(.inr (.inl (some 86)))] mi_G0 μ u Q :=
  mi_enter (by decide) (by decide) rfl rfl (h _)
theorem mh158_86_0 {X : mi_X} {Q : mi_R → mi_G → mi_M → Prop} {u : mi_U} {μ : mi_M} (h :
  mp156_86 (μ 86 10) μ ∧
  if mi_wr (mv156_86 (μ 86 10) μ) = mi_wr 32 then (
    mk158_86_0 X Q u (mi_set μ 86 10 ((μ 86 10) + 1)))
  else (
    mp156_86 (μ 86 10) μ ∧
    if mi_wr (mv156_86 (μ 86 10) μ) = mi_wr 10 then (
      mk158_86_0 X Q u (mi_set μ 86 10 ((μ 86 10) + 1)))
    else (
      mp156_86 (μ 86 10) (mi_set μ 86 9 (μ 86 10)) ∧
      if mi_wr (mv156_86 (μ 86 10) (mi_set μ 86 9 (μ 86 10))) < 0 then (
        Q (.inl none) mi_G0 (mi_set (mi_set μ 86 9 (μ 86 10)) 86 11 0))
      else (
        if mi_wr (mv157 (mv156_86 (μ 86 10) (mi_set μ 86 9 (μ 86 10))) (mi_set μ 86 9 (μ 86 10))) = 0 then (
          Q (.inl none) mi_G0 (if mi_wr (mv156_86 (μ 86 10) (mi_set μ 86 9 (μ 86 10))) = mi_wr 59 then (mi_set (mi_set (mi_set μ 86 9 (μ 86 10)) 86 10 ((μ 86 10) + 1)) 86 11 2) else (mi_set (mi_set (mi_set μ 86 9 (μ 86 10)) 86 10 ((μ 86 10) + 1)) 86 11 3)))
        else (
          mk158_86_75 X Q u (mi_set μ 86 9 (μ 86 10))))))) : mk158_86_0 X Q u μ :=
  fun o1 => ms_run (stop := ms158_86) (by decide) rfl (fun _ _ _ _ _ _ h => h) 71 0 _ _ _ _ _ (mc156_86 h.1 (mi_ite (fun h244 => (h244 _)) (fun h244 => (mc156_86 h244.1 (mi_ite (fun h245 => (h245 _)) (fun h245 => (mc156_86 h245.1 (mi_ite (fun h246 => h246) (fun h246 => (mc157 (mi_ite (fun h247 => (mi_dt (fun h248 => (mi_mp (P := fun z => Q (.inl none) mi_G0 z) h248 h247)) (fun h248 => (mi_mn (P := fun z => Q (.inl none) mi_G0 z) h248 h247)))) (fun h247 => (h247 _)) h246))) h245.2))) h244.2))) h.2))
theorem mh158_86_75 {X : mi_X} {Q : mi_R → mi_G → mi_M → Prop} {u : mi_U} {μ : mi_M} (h :
  mp156_86 (μ 86 10) μ ∧
  if mi_wr (mv157 (mv156_86 (μ 86 10) μ) μ) = 0 then (
    Q (.inl none) mi_G0 (mi_set μ 86 11 1))
  else (
    mk158_86_75 X Q u (mi_set μ 86 10 ((μ 86 10) + 1)))) : mk158_86_75 X Q u μ :=
  fun o1 => ms_run (stop := ms158_86) (by decide) rfl (fun _ _ _ _ _ _ h => h) 71 75 _ _ _ _ _ (mc156_86 h.1 (mc157 (mi_ite (fun h249 => h249) (fun h249 => (h249 _)) h.2)))
-- TwoViewsModel.isWord(IIIIIII)Z (86,)
noncomputable def mk160_86_71 (X : mi_X) (Q : mi_R → mi_G → mi_M → Prop) (u : mi_U) (l9 l10 : Int) (μ : mi_M) : Prop := ∀ o1 o2 o3 o4 o5 o6 o7 : Option mi_V, mi_ok X 160 mi_G0 Q 71 [some (.inr (.inl (some 86))), o1, o2, o3, o4, o5, o6, o7, some (.inr (.inl (some 104))), some (.inl l9), some (.inl l10)] [] mi_G1 μ u
def ms160_86 (pc : Nat) : Bool := Nat.beq pc 71
theorem me160_86 {X : mi_X} {Q : mi_R → mi_G → mi_M → Prop} {u : mi_U} {a0 a1 a2 a3 a4 a5 a6 : Int} {μ : mi_M} (h :
  (1 ≤ (u).1 ∧ 7 ≤ (u).2) ∧
  mk160_86_71 X Q ((u).1 - 1, (u).2 - 7) (if mi_wr (μ 86 11) = mi_wr 1 then (if mi_wr 7 < mi_wr ((μ 86 10) - (μ 86 9)) then 0 else 1) else 0) 0 (mi_set (mi_set (mi_set (mi_set (mi_set (mi_set (mi_set (mi_row μ 104 (fun _ => 0)) 104 0 a0) 104 1 a1) 104 2 a2) 104 3 a3) 104 4 a4) 104 5 a5) 104 6 a6)) : mi_cok X 160 [(.inr (.inl (some 86))), (.inl a0), (.inl a1), (.inl a2), (.inl a3), (.inl a4), (.inl a5), (.inl a6)] mi_G0 μ u Q :=
  mi_enter (by decide) (by decide) rfl rfl (ms_run (stop := ms160_86) (by decide) rfl (fun _ _ _ _ _ _ h => h) 82 0 _ _ _ _ _ (And.intro h.1 (And.intro (⟨by decide, by decide⟩ : (0 : Int) ≤ 0 ∧ (0 : Int) < 7) (And.intro (⟨by decide, by decide⟩ : (0 : Int) ≤ 1 ∧ (1 : Int) < 7) (And.intro (⟨by decide, by decide⟩ : (0 : Int) ≤ 2 ∧ (2 : Int) < 7) (And.intro (⟨by decide, by decide⟩ : (0 : Int) ≤ 3 ∧ (3 : Int) < 7) (And.intro (⟨by decide, by decide⟩ : (0 : Int) ≤ 4 ∧ (4 : Int) < 7) (And.intro (⟨by decide, by decide⟩ : (0 : Int) ≤ 5 ∧ (5 : Int) < 7) (And.intro (⟨by decide, by decide⟩ : (0 : Int) ≤ 6 ∧ (6 : Int) < 7) (mi_dt (fun h250 => (mi_dt (fun h251 => ((mi_mp (P := fun z => mk160_86_71 X Q ((u).1 - 1, (u).2 - 7) z 0 (mi_set (mi_set (mi_set (mi_set (mi_set (mi_set (mi_set (mi_row μ 104 (fun _ => 0)) 104 0 a0) 104 1 a1) 104 2 a2) 104 3 a3) 104 4 a4) 104 5 a5) 104 6 a6)) h251 (mi_mp (P := fun z => mk160_86_71 X Q ((u).1 - 1, (u).2 - 7) z 0 (mi_set (mi_set (mi_set (mi_set (mi_set (mi_set (mi_set (mi_row μ 104 (fun _ => 0)) 104 0 a0) 104 1 a1) 104 2 a2) 104 3 a3) 104 4 a4) 104 5 a5) 104 6 a6)) h250 h.2)) _ _ _ _ _ _ _)) (fun h251 => ((mi_mn (P := fun z => mk160_86_71 X Q ((u).1 - 1, (u).2 - 7) z 0 (mi_set (mi_set (mi_set (mi_set (mi_set (mi_set (mi_set (mi_row μ 104 (fun _ => 0)) 104 0 a0) 104 1 a1) 104 2 a2) 104 3 a3) 104 4 a4) 104 5 a5) 104 6 a6)) h251 (mi_mp (P := fun z => mk160_86_71 X Q ((u).1 - 1, (u).2 - 7) z 0 (mi_set (mi_set (mi_set (mi_set (mi_set (mi_set (mi_set (mi_row μ 104 (fun _ => 0)) 104 0 a0) 104 1 a1) 104 2 a2) 104 3 a3) 104 4 a4) 104 5 a5) 104 6 a6)) h250 h.2)) _ _ _ _ _ _ _)))) (fun h250 => ((mi_mn (P := fun z => mk160_86_71 X Q ((u).1 - 1, (u).2 - 7) z 0 (mi_set (mi_set (mi_set (mi_set (mi_set (mi_set (mi_set (mi_row μ 104 (fun _ => 0)) 104 0 a0) 104 1 a1) 104 2 a2) 104 3 a3) 104 4 a4) 104 5 a5) 104 6 a6)) h250 h.2) _ _ _ _ _ _ _))))))))))))
theorem mh160_86_71 {X : mi_X} {Q : mi_R → mi_G → mi_M → Prop} {u : mi_U} {l9 l10 : Int} {μ : mi_M} (h :
  if mi_wr l10 < mi_wr 7 then (
    if mi_wr l9 = 0 then (
      (l9 = 0 ∨ l9 = 1) ∧
      Q (.inl (some (.inl l9))) mi_G0 μ)
    else (
      if mi_wr l10 < mi_wr ((μ 86 10) - (μ 86 9)) then (
        mp156_86 ((μ 86 9) + l10) μ ∧
        (0 ≤ l10 ∧ l10 < 7) ∧
        mk160_86_71 X Q u (if mi_wr (mv156_86 ((μ 86 9) + l10) μ) = mi_wr (μ 104 l10) then 1 else 0) (l10 + 1) μ)
      else (
        (0 ≤ l10 ∧ l10 < 7) ∧
        mk160_86_71 X Q u (if mi_wr 0 = mi_wr (μ 104 l10) then 1 else 0) (l10 + 1) μ)))
  else (
    (l9 = 0 ∨ l9 = 1) ∧
    Q (.inl (some (.inl l9))) mi_G0 μ)) : mk160_86_71 X Q u l9 l10 μ :=
  fun o1 o2 o3 o4 o5 o6 o7 => ms_run (stop := ms160_86) (by decide) rfl (fun _ _ _ _ _ _ h => h) 82 71 _ _ _ _ _ (mi_ite (fun h252 => (mi_ite (fun h253 => (And.intro h253.1 h253.2)) (fun h253 => (mi_ite (fun h254 => (mc156_86g h254.1 (And.intro h254.2.1 (mi_dt (fun h255 => ((mi_mp (P := fun z => mk160_86_71 X Q u z (l10 + 1) μ) h255 h254.2.2) _ _ _ _ _ _ _)) (fun h255 => ((mi_mn (P := fun z => mk160_86_71 X Q u z (l10 + 1) μ) h255 h254.2.2) _ _ _ _ _ _ _)))))) (fun h254 => (And.intro h254.1 (mi_dt (fun h256 => ((mi_mp (P := fun z => mk160_86_71 X Q u z (l10 + 1) μ) h256 h254.2) _ _ _ _ _ _ _)) (fun h256 => ((mi_mn (P := fun z => mk160_86_71 X Q u z (l10 + 1) μ) h256 h254.2) _ _ _ _ _ _ _))))) h253)) h252)) (fun h252 => (And.intro h252.1 h252.2)) h)
-- TwoViewsModel.isNumber()Z (86,)
noncomputable def mk161_86_32 (X : mi_X) (Q : mi_R → mi_G → mi_M → Prop) (u : mi_U) (l1 l2 : Int) (μ : mi_M) : Prop := mi_ok X 161 mi_G0 Q 32 [some (.inr (.inl (some 86))), some (.inl l1), some (.inl l2)] [] mi_G0 μ u
def ms161_86 (pc : Nat) : Bool := Nat.beq pc 32
theorem me161_86 {X : mi_X} {Q : mi_R → mi_G → mi_M → Prop} {u : mi_U} {μ : mi_M} (h :
  mk161_86_32 X Q u (if mi_wr (μ 86 11) = mi_wr 1 then (if mi_wr 3 < mi_wr ((μ 86 10) - (μ 86 9)) then 0 else 1) else 0) (μ 86 9) μ) : mi_cok X 161 [(.inr (.inl (some 86)))] mi_G0 μ u Q :=
  mi_enter (by decide) (by decide) rfl rfl (ms_run (stop := ms161_86) (by decide) rfl (fun _ _ _ _ _ _ h => h) 37 0 _ _ _ _ _ (mi_dt (fun h257 => (mi_dt (fun h258 => ((mi_mp (P := fun z => mk161_86_32 X Q u z (μ 86 9) μ) h258 (mi_mp (P := fun z => mk161_86_32 X Q u z (μ 86 9) μ) h257 h)))) (fun h258 => ((mi_mn (P := fun z => mk161_86_32 X Q u z (μ 86 9) μ) h258 (mi_mp (P := fun z => mk161_86_32 X Q u z (μ 86 9) μ) h257 h)))))) (fun h257 => ((mi_mn (P := fun z => mk161_86_32 X Q u z (μ 86 9) μ) h257 h)))))
theorem mh161_86_32 {X : mi_X} {Q : mi_R → mi_G → mi_M → Prop} {u : mi_U} {l1 l2 : Int} {μ : mi_M} (h :
  if mi_wr l2 < mi_wr (μ 86 10) then (
    if mi_wr l1 = 0 then (
      (l1 = 0 ∨ l1 = 1) ∧
      Q (.inl (some (.inl l1))) mi_G0 μ)
    else (
      mp156_86 l2 μ ∧
      mk161_86_32 X Q u (mv144 (mv156_86 l2 μ) 48 57 μ) (l2 + 1) μ))
  else (
    (l1 = 0 ∨ l1 = 1) ∧
    Q (.inl (some (.inl l1))) mi_G0 μ)) : mk161_86_32 X Q u l1 l2 μ :=
  ms_run (stop := ms161_86) (by decide) rfl (fun _ _ _ _ _ _ h => h) 37 32 _ _ _ _ _ (mi_ite (fun h259 => (mi_ite (fun h260 => (And.intro h260.1 h260.2)) (fun h260 => (mc156_86 h260.1 (mc144 (h260.2)))) h259)) (fun h259 => (And.intro h259.1 h259.2)) h)
