/-! PRINTED by wip/whole/gen/mka17g.py: a row more -/
def mi_G1 : mi_G := (mi_up mi_Gk 104 (0, 7), mi_up mi_Gr 104 (fun _ => none), 105)
theorem mi_trg {Q : mi_R → mi_G → mi_M → Prop} {a b : Int} {μ ν : mi_M} (e : a = b) (g : μ = ν) (h : Q (.inl (some (.inl a))) mi_G1 μ) : Q (.inl (some (.inl b))) mi_G1 ν := by
  subst e; subst g; exact h
theorem mc156_86g {X : mi_X} {Q : mi_R → mi_G → mi_M → Prop} {u : mi_U} {a0 : Int} {μ : mi_M} (hp : mp156_86 a0 μ) (hq : Q (.inl (some (.inl (mv156_86 a0 μ)))) mi_G1 μ) : mi_cok X 156 [(.inr (.inl (some 86))), (.inl a0)] mi_G1 μ u Q :=
  mi_enter (by decide) (by decide) rfl rfl (ms_run (stop := fun _ => false) (by decide) rfl (fun _ _ _ _ _ _ h => h) 15 0 _ _ _ _ _ (mi_dt (fun h205 => (have p205 := Eq.mp (if_pos h205) hp; (And.intro p205 (mi_trg (if_pos h205) rfl hq)))) (fun h205 => (have p205 := Eq.mp (if_neg h205) hp; (mi_trg (if_neg h205) rfl hq)))))
