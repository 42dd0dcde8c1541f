/-! PRINTED by wip/whole/gen/ct.py: the beginning of the reference -/
noncomputable def mk147_86c_3 (X : mi_X) (Q : mi_R → mi_G → mi_M → Prop) (u : mi_U) (l1 : Int) (μ : mi_M) : Prop := mi_ok X 147 mi_G9 Q 3 [some (.inr (.inl (some 86))), some (.inl l1)] [] mi_G9 μ u
def ms147_86c (pc : Nat) : Bool := Nat.beq pc 3
theorem me147_86c {X : mi_X} {Q : mi_R → mi_G → mi_M → Prop} {u : mi_U} {μ : mi_M} (h :
  mk147_86c_3 X Q u 10 μ) : mi_cok X 147 [(.inr (.inl (some 86)))] mi_G9 μ u Q :=
  mi_enter (by decide) (by decide) rfl rfl (ms_run (stop := ms147_86c) (by decide) rfl (fun _ _ _ _ _ _ h => h) 15 0 _ _ _ _ _ (h))
theorem mh147_86c_3 {X : mi_X} {Q : mi_R → mi_G → mi_M → Prop} {u : mi_U} {l1 : Int} {μ : mi_M} (h :
  if mi_wr l1 < mi_wr 394 then (
    (0 ≤ l1 ∧ l1 < 394) ∧
    mk147_86c_3 X Q u (l1 + 1) (mi_set μ 87 l1 0))
  else (
    Q (.inl none) mi_G9 μ)) : mk147_86c_3 X Q u l1 μ :=
  ms_run (stop := ms147_86c) (by decide) rfl (fun _ _ _ _ _ _ h => h) 15 3 _ _ _ _ _ (mi_ite (fun h216 => (And.intro h216.1 (h216.2))) (fun h216 => h216) h)
section
variable {X : mi_X} {Q : mi_R → mi_G → mi_M → Prop} {u : mi_U} {μ : mi_M}
def mq147_86c (μ ν : mi_M) : Prop := ν = mi_row μ 87 (fl (fun _ => 0) (μ 87) 10 394)
theorem mc147_86c (hq : ∀ ν, mq147_86c μ ν → Q (.inl none) mi_G9 ν) : mi_cok X 147 [(.inr (.inl (some 86)))] mi_G9 μ u Q := by
  apply me147_86c
  refine qp_u (A := fun k ρ => mk147_86c_3 X Q u k ρ) (fun k ρ => ρ = mi_row μ 87 (fl (fun _ => 0) (μ 87) 10 k)) (a := 10) (n := 394) (by decide) ?_ ?_ (fl_0 _ _ _ _).symm
  · rintro ρ rfl
    apply mh147_86c_3
    rw [if_neg (by decide)]
    exact hq _ rfl
  · rintro k ρ h1 h2 rfl t
    apply mh147_86c_3
    rw [mi_wr_id (by omega) (by omega), mi_wr_id (by omega) (by omega), if_pos (by omega)]
    exact ⟨⟨by omega, h2⟩, t _ (fl_s h1 rfl)⟩
end
-- TwoViewsModel.begins(II)V (86,)
def ms146_86c (pc : Nat) : Bool := false
theorem me146_86c {X : mi_X} {Q : mi_R → mi_G → mi_M → Prop} {u : mi_U} {a0 a1 : Int} {μ : mi_M} (h :
  (∀ (μ0 : mi_M), mq147_86c (mi_set (mi_set (mi_set (mi_set (mi_set (mi_set (mi_set (mi_set μ 87 0 a0) 87 1 a1) 87 2 3) 87 3 1) 87 4 2) 87 5 6) 87 6 255) 87 7 1) μ0 →
  Q (.inl none) mi_G9 μ0)) : mi_cok X 146 [(.inr (.inl (some 86))), (.inl a0), (.inl a1)] mi_G9 μ u Q :=
  mi_enter (by decide) (by decide) rfl rfl (ms_run (stop := ms146_86c) (by decide) rfl (fun _ _ _ _ _ _ h => h) 45 0 _ _ _ _ _ (And.intro (⟨by decide, by decide⟩ : (0 : Int) ≤ 0 ∧ (0 : Int) < 394) (And.intro (⟨by decide, by decide⟩ : (0 : Int) ≤ 1 ∧ (1 : Int) < 394) (And.intro (⟨by decide, by decide⟩ : (0 : Int) ≤ 2 ∧ (2 : Int) < 394) (And.intro (⟨by decide, by decide⟩ : (0 : Int) ≤ 3 ∧ (3 : Int) < 394) (And.intro (⟨by decide, by decide⟩ : (0 : Int) ≤ 4 ∧ (4 : Int) < 394) (And.intro (⟨by decide, by decide⟩ : (0 : Int) ≤ 5 ∧ (5 : Int) < 394) (And.intro (⟨by decide, by decide⟩ : (0 : Int) ≤ 6 ∧ (6 : Int) < 394) (And.intro (⟨by decide, by decide⟩ : (0 : Int) ≤ 7 ∧ (7 : Int) < 394) (mc147_86c (fun μ0 h205 => (h μ0 h205))))))))))))
def mm146_86c (μ : mi_M) : mi_M := (mi_row (mi_set (mi_set (mi_set (mi_set (mi_set (mi_set (mi_set (mi_set μ 87 0 8) 87 1 6) 87 2 3) 87 3 1) 87 4 2) 87 5 6) 87 6 255) 87 7 1) 87 (fl (fun _ => 0) ((mi_set (mi_set (mi_set (mi_set (mi_set (mi_set (mi_set (mi_set μ 87 0 8) 87 1 6) 87 2 3) 87 3 1) 87 4 2) 87 5 6) 87 6 255) 87 7 1) 87) 10 394))
theorem mc146_86c {X : mi_X} {Q : mi_R → mi_G → mi_M → Prop} {u : mi_U} {μ : mi_M} (h : Q (.inl none) mi_G9 (mm146_86c μ)) : mi_cok X 146 [(.inr (.inl (some 86))), (.inl 8), (.inl 6)] mi_G9 μ u Q := by
  apply me146_86c
  rintro μ0 rfl
  exact h
