/-! how many codes differ -/
def mp37_66 (a0 : Int) (μ : mi_M) : Prop := sc_ok (sc_m μ) ∧ 0 ≤ a0 ∧ a0 ≤ 1 ∧ mp_R μ 67 (sc_m μ)
noncomputable def mv37_66 (a0 : Int) (μ : mi_M) : Int := sm2 (fun px py => sp_new (fun x y => μ 67 (192 * a0 + 16 * y + x)) (μ 1 0) px py) (μ 1 0) (μ 1 1)
theorem sp_new_01 (f : Int → Int → Int) (w px py : Int) : sp_new f w px py = 0 ∨ sp_new f w px py = 1 := by
  unfold sp_new
  by_cases h : ∃ x y, 0 ≤ x ∧ x < w ∧ 0 ≤ y ∧ (y < py ∨ y = py ∧ x < px) ∧ f x y = f px py
  · exact Or.inl (if_pos h)
  · exact Or.inr (if_neg h)
section
variable {X : mi_X} {Q : mi_R → mi_G → mi_M → Prop} {u : mi_U} {μ : mi_M}
theorem mc37_66 {a0 : Int} (hp : mp37_66 a0 μ) (hq : Q (.inl (some (.inl (mv37_66 a0 μ)))) mi_G0 μ) : mi_cok X 37 [(.inr (.inl (some 66))), (.inl a0)] mi_G0 μ u Q := by
  obtain ⟨hm, hv, hv', hR⟩ := hp
  obtain ⟨⟨w1, w2⟩, ⟨g1, g2⟩, -⟩ := id hm
  rw [sc_m0] at w1 w2
  rw [sc_m1] at g1 g2
  apply me37_66
  refine qp_2 (A := fun y acc => mk37_66_4 X Q u a0 acc y μ) (B := fun y x acc => mk37_66_18 X Q u a0 acc y x μ) (I := fun y x acc => acc = sm2a (fun px py => sp_new (fun x y => μ 67 (192 * a0 + 16 * y + x)) (μ 1 0) px py) (μ 1 0) y x) (w := μ 1 0) (h := μ 1 1) (by omega) (by omega) ?_ ?_ ?_ ?_ sm2_0.symm
  · rintro acc rfl
    apply mh37_66_4
    rw [if_neg (by omega), sm2_e]
    exact hq
  · rintro y acc hy hy' hi k
    apply mh37_66_4
    rw [mi_wr_id (by omega) (by omega), mi_wr_id (by omega) (by omega), if_pos (by omega)]
    exact k acc hi
  · rintro y x acc hy hy' hx hx' rfl k
    apply mh37_66_18
    have hn := sp_new_01 (fun x y => μ 67 (192 * a0 + 16 * y + x)) (μ 1 0) x y
    have he : mv38_66 a0 x y μ = 1 - sp_new (fun x y => μ 67 (192 * a0 + 16 * y + x)) (μ 1 0) x y := rfl
    rw [mi_wr_id (z := x) (by omega) (by omega), mi_wr_id (z := μ 1 0) (by omega) (by omega), if_pos (by omega), mi_wr_id (z := mv38_66 a0 x y μ) (by omega) (by omega)]
    refine ⟨⟨hm, ⟨hv, hv', hx, hx', hy, hy'⟩, hR⟩, k _ ?_⟩
    rw [sm2_x hx, he]
    split <;> omega
  · rintro y acc hy hy' rfl k
    apply mh37_66_18
    rw [if_neg (by omega)]
    exact k _ (sm2_y hy).symm
end
