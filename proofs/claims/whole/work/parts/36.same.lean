/-! how often a code is there; which place is the first with its code -/
def mp_R (μ : mi_M) (c : Nat) (m : Int → Int) : Prop := ∀ v x y, 0 ≤ v → v ≤ 1 → 0 ≤ x → x < m 0 → 0 ≤ y → y < m 1 → mx_R (μ c (192 * v + 16 * y + x))
/-- 0: an earlier place has what this one has; else 1 -/
noncomputable def sp_new (f : Int → Int → Int) (w px py : Int) : Int := @ite Int (∃ x y, 0 ≤ x ∧ x < w ∧ 0 ≤ y ∧ (y < py ∨ y = py ∧ x < px) ∧ f x y = f px py) (Classical.propDecidable _) 0 1
theorem sp_new_0 {f : Int → Int → Int} {w px py x y : Int} (h1 : 0 ≤ x) (h2 : x < w) (h3 : 0 ≤ y) (h4 : y < py ∨ y = py ∧ x < px) (h5 : f x y = f px py) : sp_new f w px py = 0 := by
  unfold sp_new; exact if_pos ⟨x, y, h1, h2, h3, h4, h5⟩
theorem sp_new_1 {f : Int → Int → Int} {w px py : Int} (h : ∀ x y, 0 ≤ x → x < w → 0 ≤ y → (y < py ∨ y = py ∧ x < px) → f x y ≠ f px py) : sp_new f w px py = 1 := by
  unfold sp_new; exact if_neg (fun ⟨x, y, h1, h2, h3, h4, h5⟩ => h x y h1 h2 h3 h4 h5)
def mp36_66 (a0 a1 : Int) (μ : mi_M) : Prop := sc_ok (sc_m μ) ∧ 0 ≤ a0 ∧ a0 ≤ 1 ∧ mx_R a1 ∧ mp_R μ 67 (sc_m μ)
def mv36_66 (a0 a1 : Int) (μ : mi_M) : Int := sm2 (fun x y => if μ 67 (192 * a0 + 16 * y + x) = a1 then 1 else 0) (μ 1 0) (μ 1 1)
def mp38_66 (a0 a1 a2 : Int) (μ : mi_M) : Prop := sc_ok (sc_m μ) ∧ (0 ≤ a0 ∧ a0 ≤ 1 ∧ 0 ≤ a1 ∧ a1 < μ 1 0 ∧ 0 ≤ a2 ∧ a2 < μ 1 1) ∧ mp_R μ 67 (sc_m μ)
noncomputable def mv38_66 (a0 a1 a2 : Int) (μ : mi_M) : Int := 1 - sp_new (fun x y => μ 67 (192 * a0 + 16 * y + x)) (μ 1 0) a1 a2
def mp189_86 (a0 a1 a2 : Int) (μ : mi_M) : Prop := sc_ok (μ 87) ∧ (0 ≤ a0 ∧ a0 ≤ 1 ∧ 0 ≤ a1 ∧ a1 < μ 87 0 ∧ 0 ≤ a2 ∧ a2 < μ 87 1) ∧ mp_R μ 92 (μ 87)
noncomputable def mv189_86 (a0 a1 a2 : Int) (μ : mi_M) : Int := sp_new (fun x y => μ 92 (192 * a0 + 16 * y + x)) (μ 87 0) a1 a2
section
variable {X : mi_X} {Q : mi_R → mi_G → mi_M → Prop} {u : mi_U} {μ : mi_M} {m : Int → Int}
theorem mc36_66 {a0 a1 : Int} (hp : mp36_66 a0 a1 μ) (hq : Q (.inl (some (.inl (mv36_66 a0 a1 μ)))) mi_G0 μ) : mi_cok X 36 [(.inr (.inl (some 66))), (.inl a0), (.inl a1)] mi_G0 μ u Q := by
  obtain ⟨hm, hv, hv', h1, hR⟩ := hp
  obtain ⟨⟨w1, w2⟩, ⟨g1, g2⟩, -⟩ := id hm
  rw [sc_m0] at w1 w2
  rw [sc_m1] at g1 g2
  apply me36_66
  refine qp_2 (A := fun y acc => mk36_66_5 X Q u a0 a1 acc y μ) (B := fun y x acc => mk36_66_20 X Q u a0 a1 acc y x μ) (I := fun y x acc => acc = sm2a (fun x y => if μ 67 (192 * a0 + 16 * y + x) = a1 then 1 else 0) (μ 1 0) y x) (w := μ 1 0) (h := μ 1 1) (by omega) (by omega) ?_ ?_ ?_ ?_ sm2_0.symm
  · rintro acc rfl
    apply mh36_66_5
    rw [if_neg (by omega), sm2_e]
    exact hq
  · rintro y acc hy hy' hi k
    apply mh36_66_5
    rw [mi_wr_id (by omega) (by omega), mi_wr_id (by omega) (by omega), if_pos (by omega)]
    exact k acc hi
  · rintro y x acc hy hy' hx hx' rfl k
    apply mh36_66_20
    rw [mx_spot hy (by omega), mi_wr_id (z := x) (by omega) (by omega), mi_wr_id (z := μ 1 0) (by omega) (by omega), if_pos (by omega), mx_wr (hR a0 x y hv hv' hx hx' hy hy'), mx_wr h1]
    refine ⟨by omega, k _ ?_⟩
    rw [sm2_x hx]
    split <;> omega
  · rintro y acc hy hy' rfl k
    apply mh36_66_20
    rw [if_neg (by omega)]
    exact k _ (sm2_y hy).symm
theorem mc38_66 {a0 a1 a2 : Int} (hp : mp38_66 a0 a1 a2 μ) (hq : Q (.inl (some (.inl (mv38_66 a0 a1 a2 μ)))) mi_G0 μ) : mi_cok X 38 [(.inr (.inl (some 66))), (.inl a0), (.inl a1), (.inl a2)] mi_G0 μ u Q := by
  obtain ⟨hm, ⟨hv, hv', hx0, hx0', hy0, hy0'⟩, hR⟩ := hp
  obtain ⟨⟨w1, w2⟩, ⟨g1, g2⟩, -⟩ := id hm
  rw [sc_m0] at w1 w2
  rw [sc_m1] at g1 g2
  have hd0 : (∀ x y, 0 ≤ x → x < μ 1 0 → 0 ≤ y → (y < a2 ∨ y = a2 ∧ x < a1) → μ 67 (192 * a0 + 16 * y + x) ≠ μ 67 (192 * a0 + 16 * a2 + a1)) → Q (.inl (some (.inl 0))) mi_G0 μ := by
    intro h
    have e : mv38_66 a0 a1 a2 μ = 0 := by unfold mv38_66; rw [sp_new_1 h]; rfl
    rw [e] at hq; exact hq
  apply me38_66
  rw [mx_spot hy0 (by omega)]
  refine ⟨by omega, ?_⟩
  refine qp_2 (σ := Unit) (A := fun y _ => mk38_66_20 X Q u a0 a2 (192 * a0 + 16 * a2 + a1) (μ 67 (192 * a0 + 16 * a2 + a1)) y μ) (B := fun y x _ => mk38_66_29 X Q u a0 a2 (192 * a0 + 16 * a2 + a1) (μ 67 (192 * a0 + 16 * a2 + a1)) y x μ) (I := fun y x _ => ∀ x' y', 0 ≤ x' → x' < μ 1 0 → 0 ≤ y' → (y' < y ∨ y' = y ∧ x' < x) → (y' < a2 ∨ y' = a2 ∧ x' < a1) → μ 67 (192 * a0 + 16 * y' + x') ≠ μ 67 (192 * a0 + 16 * a2 + a1)) (w := μ 1 0) (h := a2 + 1) (by omega) (by omega) ?_ ?_ ?_ ?_ (s := ()) (fun x' y' h1 h2 h3 h4 h5 => by omega)
  · rintro - hI
    apply mh38_66_20
    rw [mi_wr_id (by omega) (by omega), mi_wr_id (by omega) (by omega), if_pos (by omega)]
    exact hd0 (fun x y h1 h2 h3 h4 => hI x y h1 h2 h3 (by omega) h4)
  · rintro y - hy hy' hI k
    apply mh38_66_20
    rw [mi_wr_id (by omega) (by omega), mi_wr_id (by omega) (by omega), if_neg (by omega)]
    exact k () hI
  · rintro y x - hy hy' hx hx' hI k
    apply mh38_66_29
    rw [mx_spot hy (by omega), mi_wr_id (z := x) (by omega) (by omega), mi_wr_id (z := μ 1 0) (by omega) (by omega), if_pos (by omega), mi_wr_id (z := 192 * a0 + 16 * y + x) (by omega) (by omega), mi_wr_id (z := 192 * a0 + 16 * a2 + a1) (by omega) (by omega), mx_wr (hR a0 x y hv hv' hx hx' hy (show y < μ 1 1 by omega)), mx_wr (hR a0 a1 a2 hv hv' hx0 hx0' hy0 hy0')]
    by_cases e : 192 * a0 + 16 * y + x < 192 * a0 + 16 * a2 + a1
    · rw [if_pos e]
      refine ⟨by omega, ?_⟩
      by_cases e2 : μ 67 (192 * a0 + 16 * y + x) = μ 67 (192 * a0 + 16 * a2 + a1)
      · rw [if_pos e2]
        have : mv38_66 a0 a1 a2 μ = 1 := by unfold mv38_66; rw [sp_new_0 hx hx' hy (by omega) e2]; rfl
        rw [this] at hq; exact hq
      · rw [if_neg e2]
        refine k () (fun x' y' h1 h2 h3 h4 h5 => ?_)
        by_cases e3 : y' = y ∧ x' = x
        · obtain ⟨rfl, rfl⟩ := e3; exact e2
        · exact hI x' y' h1 h2 h3 (by omega) h5
    · rw [if_neg e]
      exact hd0 (fun x' y' h1 h2 h3 h4 => hI x' y' h1 h2 h3 (by omega) h4)
  · rintro y - hy hy' hI k
    apply mh38_66_29
    rw [if_neg (by omega)]
    exact k () (fun x' y' h1 h2 h3 h4 h5 => hI x' y' h1 h2 h3 (by omega) h5)
theorem mc189_86 {a0 a1 a2 : Int} (hp : mp189_86 a0 a1 a2 μ) (hq : Q (.inl (some (.inl (mv189_86 a0 a1 a2 μ)))) mi_G0 μ) : mi_cok X 189 [(.inr (.inl (some 86))), (.inl a0), (.inl a1), (.inl a2)] mi_G0 μ u Q := by
  obtain ⟨hm, ⟨hv, hv', hx0, hx0', hy0, hy0'⟩, hR⟩ := hp
  obtain ⟨⟨w1, w2⟩, ⟨g1, g2⟩, -⟩ := id hm
  have hd1 : (∀ x y, 0 ≤ x → x < μ 87 0 → 0 ≤ y → (y < a2 ∨ y = a2 ∧ x < a1) → μ 92 (192 * a0 + 16 * y + x) ≠ μ 92 (192 * a0 + 16 * a2 + a1)) → Q (.inl (some (.inl 1))) mi_G0 μ := by
    intro h
    have e : mv189_86 a0 a1 a2 μ = 1 := by unfold mv189_86; rw [sp_new_1 h]
    rw [e] at hq; exact hq
  apply me189_86
  refine qp_2 (σ := Unit) (A := fun y _ => mk189_86_3 X Q u a0 a1 a2 y μ) (B := fun y x _ => mk189_86_12 X Q u a0 a1 a2 y x μ) (I := fun y x _ => ∀ x' y', 0 ≤ x' → x' < μ 87 0 → 0 ≤ y' → (y' < y ∨ y' = y ∧ x' < x) → (y' < a2 ∨ y' = a2 ∧ x' < a1) → μ 92 (192 * a0 + 16 * y' + x') ≠ μ 92 (192 * a0 + 16 * a2 + a1)) (w := μ 87 0) (h := a2 + 1) (by omega) (by omega) ?_ ?_ ?_ ?_ (s := ()) (fun x' y' h1 h2 h3 h4 h5 => by omega)
  · rintro - hI
    apply mh189_86_3
    rw [mi_wr_id (by omega) (by omega), mi_wr_id (by omega) (by omega), if_pos (by omega)]
    exact hd1 (fun x y h1 h2 h3 h4 => hI x y h1 h2 h3 (by omega) h4)
  · rintro y - hy hy' hI k
    apply mh189_86_3
    rw [mi_wr_id (by omega) (by omega), mi_wr_id (by omega) (by omega), if_neg (by omega)]
    exact k () hI
  · rintro y x - hy hy' hx hx' hI k
    apply mh189_86_12
    simp only [mx_spotR]
    rw [mi_wr_id (z := x) (by omega) (by omega), mi_wr_id (z := μ 87 0) (by omega) (by omega), if_pos (by omega), mi_wr_id (z := y) (by omega) (by omega), mi_wr_id (z := a2) (by omega) (by omega), mi_wr_id (z := a1) (by omega) (by omega), mx_wr (hR a0 x y hv hv' hx hx' hy (show y < μ 87 1 by omega)), mx_wr (hR a0 a1 a2 hv hv' hx0 hx0' hy0 hy0')]
    have go : (y < a2 ∨ y = a2 ∧ x < a1) → (if μ 92 (192 * a0 + 16 * y + x) = μ 92 (192 * a0 + 16 * a2 + a1) then Q (.inl (some (.inl 0))) mi_G0 μ else mk189_86_12 X Q u a0 a1 a2 y (x + 1) μ) := by
      intro hb
      by_cases e2 : μ 92 (192 * a0 + 16 * y + x) = μ 92 (192 * a0 + 16 * a2 + a1)
      · rw [if_pos e2]
        have : mv189_86 a0 a1 a2 μ = 0 := by unfold mv189_86; rw [sp_new_0 hx hx' hy hb e2]
        rw [this] at hq; exact hq
      · rw [if_neg e2]
        refine k () (fun x' y' h1 h2 h3 h4 h5 => ?_)
        by_cases e3 : y' = y ∧ x' = x
        · obtain ⟨rfl, rfl⟩ := e3; exact e2
        · exact hI x' y' h1 h2 h3 (by omega) h5
    by_cases e : y < a2
    · rw [if_pos e]
      exact ⟨by omega, by omega, go (Or.inl e)⟩
    · rw [if_neg e]
      by_cases e' : x < a1
      · rw [if_pos e']
        exact ⟨by omega, by omega, go (by omega)⟩
      · rw [if_neg e']
        apply mh189_86_3
        rw [mi_wr_id (by omega) (by omega), mi_wr_id (by omega) (by omega), if_pos (by omega)]
        exact hd1 (fun x' y' h1 h2 h3 h4 => hI x' y' h1 h2 h3 (by omega) h4)
  · rintro y - hy hy' hI k
    apply mh189_86_12
    rw [if_neg (by omega)]
    exact k () (fun x' y' h1 h2 h3 h4 h5 => hI x' y' h1 h2 h3 (by omega) h5)
end
