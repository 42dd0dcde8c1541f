/-! goOn, begin (the class) -/
def mp44_66 (a0 a1 : Int) (μ : mi_M) : Prop := sc_ok (sc_m μ) ∧ (0 ≤ a0 ∧ a0 + 8 ≤ 1536 ∧ 0 ≤ a1 ∧ a1 + 8 ≤ 1536 ∧ (a0 + 8 ≤ a1 ∨ a1 + 8 ≤ a0)) ∧ (∀ d, 0 ≤ d → d ≤ μ 2 0 → 0 ≤ μ 70 (a1 + d) ∧ μ 70 (a1 + d) ≤ 1000)
def mq44_66 (a0 a1 : Int) (μ ν : mi_M) : Prop := fr_1 70 μ ν ∧ (∀ d, 0 ≤ d → d ≤ μ 2 0 → ν 70 (a0 + d) = μ 68 (a0 + d) + tb_v (fun e => μ 70 (a1 + e)) (μ 2 0) (μ 2 2) (μ 2 3) d) ∧ ∀ j, (j < a0 ∨ a0 + μ 2 0 < j) → ν 70 j = μ 70 j
section
variable {X : mi_X} {Q : mi_R → mi_G → mi_M → Prop} {u : mi_U} {μ : mi_M}
theorem mc44_66 {a0 a1 : Int} (hp : mp44_66 a0 a1 μ) (hq : ∀ ν, mq44_66 a0 a1 μ ν → Q (.inl none) mi_G0 ν) : mi_cok X 44 [(.inr (.inl (some 66))), (.inl a0), (.inl a1)] mi_G0 μ u Q := by
  obtain ⟨hm, ⟨b1, b2, b3, b4, b5⟩, hR⟩ := hp
  obtain ⟨-, -, ⟨f1, f2⟩, -, ⟨p1, p2, p3⟩, -⟩ := id hm
  have hs := sc_m_c μ
  have d0 : μ 2 0 = sc_m μ 2 := hs.2.2.1 0 (by decide) (by decide)
  have d2 : μ 2 2 = sc_m μ 4 := hs.2.2.1 2 (by decide) (by decide)
  have d3 : μ 2 3 = sc_m μ 5 := hs.2.2.1 3 (by decide) (by decide)
  rw [← d0] at f1 f2
  rw [← d2] at p1 p2
  rw [← d3] at p2 p3
  have lb : ∀ k : Nat, k ≤ (μ 2 0).toNat → 0 ≤ ls_t (fun e => μ 70 (a1 + e)) k ∧ ls_t (fun e => μ 70 (a1 + e)) k ≤ 1000 := by
    intro k hk
    obtain ⟨e, e1, e2, e3⟩ := ls_in (f := fun e => μ 70 (a1 + e)) k
    have := hR e e1 (by omega)
    rw [e3]; exact this
  apply me44_66
  refine ⟨by omega, ?_⟩
  refine qp_u (A := fun i acc => mk44_66_32 X Q u a0 a1 (μ 2 0) (μ 2 2) acc i μ) (fun i acc => acc = ls_t (fun e => μ 70 (a1 + e)) (i - 1).toNat) (a := 1) (n := μ 2 0 + 1) (by omega) ?_ ?_ (by show μ 70 a1 = μ 70 (a1 + 0); rw [Int.add_zero])
  · rintro acc rfl
    apply mh44_66_32
    rw [show μ 2 0 + 1 - 1 = μ 2 0 by omega, mi_wr_id (by omega) (by omega), mi_wr_id (by omega) (by omega), if_pos (by omega)]
    have hl := lb (μ 2 0).toNat (Nat.le_refl _)
    refine qp_u (A := fun d ν => mk44_66_77 X Q u a0 a1 (μ 2 0) (μ 2 2) (ls_t (fun e => μ 70 (a1 + e)) (μ 2 0).toNat) (ls_t (fun e => μ 70 (a1 + e)) (μ 2 0).toNat + μ 2 3) d ν) (fun d ν => fr_1 70 μ ν ∧ (∀ e, 0 ≤ e → e < d → ν 70 (a0 + e) = μ 68 (a0 + e) + tb_v (fun e => μ 70 (a1 + e)) (μ 2 0) (μ 2 2) (μ 2 3) e) ∧ ∀ j, (j < a0 ∨ a0 + μ 2 0 < j) → ν 70 j = μ 70 j) (a := 0) (n := μ 2 0 + 1) (by omega) ?_ ?_ ⟨fr_r _ _, fun e h1 h2 => by omega, fun _ _ => rfl⟩
    · rintro ν ⟨hf, h1, h2⟩
      apply mh44_66_77
      rw [mi_wr_id (by omega) (by omega), mi_wr_id (by omega) (by omega), if_pos (by omega)]
      exact hq ν ⟨hf, fun d e1 e2 => h1 d e1 (by omega), h2⟩
    · rintro d ν hd hd' ⟨hf, h1, h2⟩ k
      have e68 : ν 68 (a0 + d) = μ 68 (a0 + d) := by rw [hf 68 (by decide)]
      have k0 : ν 70 (a1 + d) = μ 70 (a1 + d) := h2 _ (by omega)
      have k1 : 0 < d → ν 70 (a1 + d - 1) = μ 70 (a1 + (d - 1)) := fun _ => by rw [h2 _ (by omega)]; congr 1; omega
      have k2 : d < μ 2 0 → ν 70 (a1 + d + 1) = μ 70 (a1 + (d + 1)) := fun _ => by rw [h2 _ (by omega)]; congr 1; omega
      have r0 := hR d hd (by omega)
      have r1 : 0 < d → 0 ≤ μ 70 (a1 + (d - 1)) ∧ μ 70 (a1 + (d - 1)) ≤ 1000 := fun _ => hR (d - 1) (by omega) (by omega)
      have r2 : d < μ 2 0 → 0 ≤ μ 70 (a1 + (d + 1)) ∧ μ 70 (a1 + (d + 1)) ≤ 1000 := fun _ => hR (d + 1) (by omega) (by omega)
      have t0 : mv261 (ls_t (fun e => μ 70 (a1 + e)) (μ 2 0).toNat + μ 2 3) (ν 70 (a1 + d)) ν = tb_0 (fun e => μ 70 (a1 + e)) (μ 2 0) (μ 2 3) d := by
        rw [k0, mx_min ⟨by omega, by omega⟩ ⟨by omega, by omega⟩]; rfl
      have q0 : 0 ≤ tb_0 (fun e => μ 70 (a1 + e)) (μ 2 0) (μ 2 3) d ∧ tb_0 (fun e => μ 70 (a1 + e)) (μ 2 0) (μ 2 3) d ≤ 1100 := by unfold tb_0; dsimp only; split <;> omega
      have fin : ∀ z, z = μ 68 (a0 + d) + tb_v (fun e => μ 70 (a1 + e)) (μ 2 0) (μ 2 2) (μ 2 3) d → mk44_66_77 X Q u a0 a1 (μ 2 0) (μ 2 2) (ls_t (fun e => μ 70 (a1 + e)) (μ 2 0).toNat) (ls_t (fun e => μ 70 (a1 + e)) (μ 2 0).toNat + μ 2 3) (d + 1) (mi_set ν 70 (a0 + d) z) := by
        intro z hz
        refine k _ ⟨fr_s hf _ _, fun e h3 h4 => ?_, fun j hj => ?_⟩
        · rw [ms_same]
          by_cases ee : e = d
          · subst ee; rw [if_pos rfl, hz]
          · rw [if_neg (by omega)]; exact h1 e h3 (by omega)
        · rw [ms_same, if_neg (by omega)]; exact h2 j hj
      apply mh44_66_77
      rw [mi_wr_id (z := μ 2 0) (by omega) (by omega), mi_wr_id (z := d) (by omega) (by omega), if_neg (by omega), t0, e68]
      refine ⟨by omega, ?_⟩
      by_cases c1 : 0 < d
      · have t1 : mv261 (tb_0 (fun e => μ 70 (a1 + e)) (μ 2 0) (μ 2 3) d) (ν 70 (a1 + d - 1) + μ 2 2) ν = tb_1 (fun e => μ 70 (a1 + e)) (μ 2 0) (μ 2 2) (μ 2 3) d := by
          have := r1 c1
          rw [k1 c1, mx_min ⟨by omega, by omega⟩ ⟨by omega, by omega⟩]; unfold tb_1; rw [if_pos c1]
        have q1 : 0 ≤ tb_1 (fun e => μ 70 (a1 + e)) (μ 2 0) (μ 2 2) (μ 2 3) d ∧ tb_1 (fun e => μ 70 (a1 + e)) (μ 2 0) (μ 2 2) (μ 2 3) d ≤ 1100 := by
          have := r1 c1
          unfold tb_1; rw [if_pos c1]; dsimp only; split <;> omega
        rw [if_pos c1, t1]
        refine ⟨by omega, ?_⟩
        by_cases c2 : d < μ 2 0
        · have := r2 c2
          rw [if_pos c2, k2 c2, mx_min ⟨by omega, by omega⟩ ⟨by omega, by omega⟩]
          refine ⟨by omega, by omega, by omega, fin _ ?_⟩
          unfold tb_v tb_2; rw [if_pos c2]; dsimp only; omega
        · rw [if_neg c2]
          refine ⟨by omega, by omega, fin _ ?_⟩
          unfold tb_v tb_2; rw [if_neg c2]; omega
      · have t1 : tb_1 (fun e => μ 70 (a1 + e)) (μ 2 0) (μ 2 2) (μ 2 3) d = tb_0 (fun e => μ 70 (a1 + e)) (μ 2 0) (μ 2 3) d := by unfold tb_1; rw [if_neg c1]
        rw [if_neg c1]
        by_cases c2 : d < μ 2 0
        · have := r2 c2
          rw [if_pos c2, k2 c2, mx_min ⟨by omega, by omega⟩ ⟨by omega, by omega⟩]
          refine ⟨by omega, by omega, by omega, fin _ ?_⟩
          unfold tb_v tb_2; rw [if_pos c2, t1]; dsimp only; omega
        · rw [if_neg c2]
          refine ⟨by omega, by omega, fin _ ?_⟩
          unfold tb_v tb_2; rw [if_neg c2, t1]; omega
  · rintro i acc hi hi' rfl k
    have := lb (i - 1).toNat (by omega)
    have := hR i (by omega) (by omega)
    apply mh44_66_32
    rw [mi_wr_id (by omega) (by omega), mi_wr_id (by omega) (by omega), if_neg (by omega), mx_min ⟨by omega, by omega⟩ ⟨by omega, by omega⟩]
    refine ⟨by omega, k _ ?_⟩
    have := ls_s (f := fun e => μ 70 (a1 + e)) (i := i - 1) (by omega)
    rw [show i - 1 + 1 = i by omega] at this
    rw [show i + 1 - 1 = i by omega, this]
end
