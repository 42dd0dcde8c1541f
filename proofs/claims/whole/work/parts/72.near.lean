/-! the nearest sure place along a way -/
noncomputable def ns_v (m : Int → Int) (v dx dy : Int) : Nat → Int → Int → Int
  | 0, _, _ => -1
  | n + 1, i, j => @ite Int (sc_in m i j) (Classical.propDecidable _) (if sp_kn m v i j = 0 then sp_sh m v i j else ns_v m v dx dy n (i + dx) (j + dy)) (-1)
theorem ns_in {m : Int → Int} {v dx dy i j : Int} {n : Nat} (h : sc_in m i j) : ns_v m v dx dy (n + 1) i j = if sp_kn m v i j = 0 then sp_sh m v i j else ns_v m v dx dy n (i + dx) (j + dy) := if_pos h
theorem ns_out {m : Int → Int} {v dx dy i j : Int} {n : Nat} (h : ¬ sc_in m i j) : ns_v m v dx dy (n + 1) i j = -1 := if_neg h
noncomputable def sp_ns (m : Int → Int) (v x y dx dy : Int) : Int := ns_v m v dx dy 16 (x + dx) (y + dy)
theorem ns_b {m : Int → Int} (hm : sc_ok m) {v dx dy : Int} : ∀ (n : Nat) (i j : Int), -1 ≤ ns_v m v dx dy n i j ∧ ns_v m v dx dy n i j ≤ 7
  | 0, _, _ => by unfold ns_v; omega
  | n + 1, i, j => by
    obtain ⟨-, -, ⟨f1, f2⟩, -⟩ := id hm
    unfold ns_v
    split
    · rename_i hi
      have := sp_sh_b hm v hi.2.1 j
      have := ns_b hm (v := v) (dx := dx) (dy := dy) n (i + dx) (j + dy)
      split <;> omega
    · omega
theorem sp_ns_b {m : Int → Int} (hm : sc_ok m) {v x y dx dy : Int} : -1 ≤ sp_ns m v x y dx dy ∧ sp_ns m v x y dx dy ≤ 7 := ns_b hm 16 _ _
def wy_is2 (dx dy : Int) : Prop := (dx = 1 ∨ dx = -1 ∨ dx = 0) ∧ (dy = 1 ∨ dy = -1 ∨ dy = 0) ∧ ¬ (dx = 0 ∧ dy = 0)
theorem mul_3 {f d : Int} (h : d = 1 ∨ d = -1 ∨ d = 0) : (d = 1 ∧ f * d = f) ∨ (d = -1 ∧ f * d = -f) ∨ (d = 0 ∧ f * d = 0) := by
  rcases h with rfl | rfl | rfl
  · exact Or.inl ⟨rfl, Int.mul_one f⟩
  · exact Or.inr (Or.inl ⟨rfl, by omega⟩)
  · exact Or.inr (Or.inr ⟨rfl, Int.mul_zero f⟩)
def mp25_71 (a0 a1 a2 a3 : Int) (μ : mi_M) : Prop := sc_ok (sc_m μ) ∧ (0 ≤ a0 ∧ a0 ≤ 1) ∧ sc_in (sc_m μ) a1 a2 ∧ (0 ≤ a3 ∧ a3 < 8) ∧ mp_is μ 72 (sc_m μ) (sp_sh (sc_m μ)) ∧ mp_is μ 73 (sc_m μ) (sp_kn (sc_m μ))
noncomputable def mv25_71 (a0 a1 a2 a3 : Int) (μ : mi_M) : Int := sp_ns (sc_m μ) a0 a1 a2 (wy_x a3) (wy_y a3)
def mp225_86 (a0 a1 a2 a3 a4 : Int) (μ : mi_M) : Prop := sc_ok (μ 87) ∧ (0 ≤ a0 ∧ a0 ≤ 1) ∧ sc_in (μ 87) a1 a2 ∧ wy_is2 a3 a4 ∧ rc4 μ (μ 87)
noncomputable def mv225_86 (a0 a1 a2 a3 a4 : Int) (μ : mi_M) : Int := sp_ns (μ 87) a0 a1 a2 a3 a4
section
variable {X : mi_X} {Q : mi_R → mi_G → mi_M → Prop} {u : mi_U} {μ : mi_M}
theorem mc25_71 {a0 a1 a2 a3 : Int} (hp : mp25_71 a0 a1 a2 a3 μ) (hq : Q (.inl (some (.inl (mv25_71 a0 a1 a2 a3 μ)))) mi_G0 μ) : mi_cok X 25 [(.inr (.inl (some 71))), (.inl a0), (.inl a1), (.inl a2), (.inl a3)] mi_G0 μ u Q := by
  obtain ⟨hm, ⟨hv, hv'⟩, ⟨b1, b2, b3, b4⟩, ⟨hr, hr'⟩, hs, hk⟩ := hp
  obtain ⟨⟨w1, w2⟩, ⟨g1, g2⟩, ⟨f1, f2⟩, -⟩ := id hm
  obtain ⟨c1, c2, c3⟩ := wy_cases hr hr'
  have h16 : mi_wr 16 = 16 := by decide
  apply me25_71
  refine qp_u (σ := Unit) (A := fun f _ => mk25_71_3 X Q u a0 a1 a2 a3 f μ) (fun f _ => mv25_71 a0 a1 a2 a3 μ = ns_v (sc_m μ) a0 (wy_x a3) (wy_y a3) (17 - f).toNat (a1 + f * wy_x a3) (a2 + f * wy_y a3)) (a := 1) (n := 16) (by omega) ?_ ?_ (s := ()) (by rw [Int.one_mul, Int.one_mul]; rfl)
  · rintro - hI
    have hno : ¬ sc_in (sc_m μ) (a1 + 16 * wy_x a3) (a2 + 16 * wy_y a3) := by unfold sc_in; omega
    apply mh25_71_3
    rw [h16, if_neg (by decide)]
    have e : mv25_71 a0 a1 a2 a3 μ = -1 := by
      rw [hI]; exact ns_out hno
    rw [e] at hq; exact hq
  · rintro f - hf hf' hI k
    have m1 := mul_3 (f := f) c1
    have m2 := mul_3 (f := f) c2
    rw [show (17 - f).toNat = (16 - f).toNat + 1 by omega] at hI
    apply mh25_71_3
    rw [h16, mi_wr_id (z := f) (by omega) (by omega), if_pos hf', wy_xC hr hr', wy_yC hr hr']
    refine ⟨by omega, by omega, ?_⟩
    by_cases hc : sc_in (sc_m μ) (a1 + f * wy_x a3) (a2 + f * wy_y a3)
    · obtain ⟨d1, d2, d3, d4⟩ := id hc
      have kb := sp_kn_b (m := sc_m μ) (v := a0) (x := a1 + f * wy_x a3) (y := a2 + f * wy_y a3)
      rw [mx_hasT hm hc, if_neg w_10, mx_spot d3 (by omega), hk a0 _ _ hv hv' d1 d2 d3 d4, hs a0 _ _ hv hv' d1 d2 d3 d4, mi_wr_id (z := sp_kn (sc_m μ) a0 (a1 + f * wy_x a3) (a2 + f * wy_y a3)) (by omega) (by omega)]
      have hI' : mv25_71 a0 a1 a2 a3 μ = if sp_kn (sc_m μ) a0 (a1 + f * wy_x a3) (a2 + f * wy_y a3) = 0 then sp_sh (sc_m μ) a0 (a1 + f * wy_x a3) (a2 + f * wy_y a3) else ns_v (sc_m μ) a0 (wy_x a3) (wy_y a3) (16 - f).toNat (a1 + f * wy_x a3 + wy_x a3) (a2 + f * wy_y a3 + wy_y a3) := by
        rw [hI]; exact ns_in hc
      refine ⟨by omega, ?_⟩
      by_cases e : sp_kn (sc_m μ) a0 (a1 + f * wy_x a3) (a2 + f * wy_y a3) = 0
      · rw [if_pos e] at hI' ⊢
        rw [hI'] at hq
        exact ⟨by omega, hq⟩
      · rw [if_neg e] at hI' ⊢
        refine k () ?_
        rw [hI', Int.add_mul, Int.add_mul, Int.one_mul, Int.one_mul, show (17 - (f + 1)).toNat = (16 - f).toNat by omega, Int.add_assoc, Int.add_assoc]
    · rw [mx_hasF hm ⟨by omega, by omega⟩ ⟨by omega, by omega⟩ hc, if_pos w_00]
      have e : mv25_71 a0 a1 a2 a3 μ = -1 := by
        rw [hI]; exact ns_out hc
      rw [e] at hq; exact hq
theorem mc225_86 {a0 a1 a2 a3 a4 : Int} (hp : mp225_86 a0 a1 a2 a3 a4 μ) (hq : Q (.inl (some (.inl (mv225_86 a0 a1 a2 a3 a4 μ)))) mi_G0 μ) : mi_cok X 225 [(.inr (.inl (some 86))), (.inl a0), (.inl a1), (.inl a2), (.inl a3), (.inl a4)] mi_G0 μ u Q := by
  obtain ⟨hm, ⟨hv, hv'⟩, ⟨b1, b2, b3, b4⟩, ⟨c1, c2, c3⟩, hrc⟩ := hp
  obtain ⟨⟨w1, w2⟩, ⟨g1, g2⟩, ⟨f1, f2⟩, -⟩ := id hm
  apply me225_86
  have key := qp_u (σ := Unit) (A := fun f _ => mk225_86_12 X Q u a0 a3 a4 (a1 + f * a3) (a2 + f * a4) μ) (fun f _ => mv225_86 a0 a1 a2 a3 a4 μ = ns_v (μ 87) a0 a3 a4 (17 - f).toNat (a1 + f * a3) (a2 + f * a4)) (a := 1) (n := 16) (by omega) ?_ ?_ (s := ()) (by rw [Int.one_mul, Int.one_mul]; rfl)
  · rw [Int.one_mul, Int.one_mul] at key; exact key
  · rintro - hI
    have hno : ¬ sc_in (μ 87) (a1 + 16 * a3) (a2 + 16 * a4) := by unfold sc_in; omega
    apply mh225_86_12
    rw [mx_placeF hm ⟨by omega, by omega⟩ ⟨by omega, by omega⟩ hno, if_pos w_00]
    have e : mv225_86 a0 a1 a2 a3 a4 μ = -1 := by
      rw [hI]; exact ns_out hno
    rw [e] at hq; exact hq
  · rintro f - hf hf' hI k
    have m1 := mul_3 (f := f) c1
    have m2 := mul_3 (f := f) c2
    rw [show (17 - f).toNat = (16 - f).toNat + 1 by omega] at hI
    apply mh225_86_12
    by_cases hc : sc_in (μ 87) (a1 + f * a3) (a2 + f * a4)
    · obtain ⟨d1, d2, d3, d4⟩ := id hc
      have kb := sp_kn_b (m := μ 87) (v := a0) (x := a1 + f * a3) (y := a2 + f * a4)
      obtain ⟨p1, p2⟩ := mx_now hm hrc hv hv' hc
      rw [mx_placeT hm hc, if_neg w_10, p2, mi_wr_id (z := sp_kn (μ 87) a0 (a1 + f * a3) (a2 + f * a4)) (by omega) (by omega), mx_spotR, hrc.1.2.2 a0 _ _ hv hv' d1 d2 d3 d4]
      have hI' : mv225_86 a0 a1 a2 a3 a4 μ = if sp_kn (μ 87) a0 (a1 + f * a3) (a2 + f * a4) = 0 then sp_sh (μ 87) a0 (a1 + f * a3) (a2 + f * a4) else ns_v (μ 87) a0 a3 a4 (16 - f).toNat (a1 + f * a3 + a3) (a2 + f * a4 + a4) := by
        rw [hI]; exact ns_in hc
      refine ⟨p1, ?_⟩
      by_cases e : sp_kn (μ 87) a0 (a1 + f * a3) (a2 + f * a4) = 0
      · rw [if_pos e] at hI' ⊢
        rw [hI'] at hq
        exact ⟨by omega, hq⟩
      · rw [if_neg e] at hI' ⊢
        have kk := k () (by
          rw [hI', Int.add_mul, Int.add_mul, Int.one_mul, Int.one_mul, show (17 - (f + 1)).toNat = (16 - f).toNat by omega, Int.add_assoc, Int.add_assoc])
        rw [Int.add_mul, Int.add_mul, Int.one_mul, Int.one_mul, ← Int.add_assoc, ← Int.add_assoc] at kk
        exact kk
    · rw [mx_placeF hm ⟨by omega, by omega⟩ ⟨by omega, by omega⟩ hc, if_pos w_00]
      have e : mv225_86 a0 a1 a2 a3 a4 μ = -1 := by
        rw [hI]; exact ns_out hc
      rw [e] at hq; exact hq
end
