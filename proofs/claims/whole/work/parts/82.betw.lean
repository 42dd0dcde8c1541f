/-! between: who comes to a place -/
def cf_v (g f : Int → Int) (x : Int) : Nat → Int
  | 0 => -1
  | n + 1 => if g n = x ∧ (cf_v g f x n < 0 ∨ f (cf_v g f x n) < f n) then (n : Int) else cf_v g f x n
theorem cf_s {g f : Int → Int} {x i : Int} (h : 0 ≤ i) : cf_v g f x (i + 1).toNat = if g i = x ∧ (cf_v g f x i.toNat < 0 ∨ f (cf_v g f x i.toNat) < f i) then i else cf_v g f x i.toNat := by
  obtain ⟨n, rfl⟩ := Int.eq_ofNat_of_zero_le h
  rw [show ((n : Int) + 1).toNat = n + 1 by omega, show ((n : Int)).toNat = n by omega]
  rfl
theorem cf_b {g f : Int → Int} {x : Int} : ∀ n : Nat, -1 ≤ cf_v g f x n ∧ cf_v g f x n < n
  | 0 => by unfold cf_v; omega
  | n + 1 => by
    have := cf_b (g := g) (f := f) (x := x) n
    unfold cf_v
    split <;> omega
/-- where one comes to -/
def sp_to (t v : Int) (f : Int → Int) (i : Int) : Int := if v = 0 then i - (t * f i + 2) / 4 else i + ((4 - t) * f i + 2) / 4
noncomputable def sp_cf (m : Int → Int) (v t x y : Int) : Int := cf_v (sp_to t v (fun i => sp_fill m v i y)) (fun i => sp_fill m v i y) x (m 0).toNat
noncomputable def sp_bt (m : Int → Int) (t x y : Int) : Int := if sp_cf m 0 t x y = -1 then (if sp_cf m 1 t x y = -1 then -2 else sp_val m 1 (sp_cf m 1 t x y) y) else sp_val m 0 (sp_cf m 0 t x y) y
theorem mul_b {t f : Int} (ht : 0 ≤ t) (ht' : t ≤ 4) (hf : 0 ≤ f) (hf' : f ≤ 7) : 0 ≤ t * f ∧ t * f ≤ 28 := by
  rcases (show t = 0 ∨ t = 1 ∨ t = 2 ∨ t = 3 ∨ t = 4 by omega) with rfl | rfl | rfl | rfl | rfl <;> omega
def mp27_71 (a0 a1 a2 a3 : Int) (μ : mi_M) : Prop := sc_ok (sc_m μ) ∧ (0 ≤ a0 ∧ a0 ≤ 1) ∧ (0 ≤ a1 ∧ a1 ≤ 4) ∧ sc_in (sc_m μ) a2 a3 ∧ mp_is μ 74 (sc_m μ) (sp_fill (sc_m μ))
noncomputable def mv27_71 (a0 a1 a2 a3 : Int) (μ : mi_M) : Int := sp_cf (sc_m μ) a0 a1 a2 a3
def mp235_86 (a0 a1 a2 a3 : Int) (μ : mi_M) : Prop := sc_ok (μ 87) ∧ (0 ≤ a0 ∧ a0 ≤ 1) ∧ (0 ≤ a1 ∧ a1 ≤ 4) ∧ sc_in (μ 87) a2 a3 ∧ mp_is μ 99 (μ 87) (sp_fill (μ 87))
noncomputable def mv235_86 (a0 a1 a2 a3 : Int) (μ : mi_M) : Int := sp_cf (μ 87) a0 a1 a2 a3
section
variable {X : mi_X} {Q : mi_R → mi_G → mi_M → Prop} {u : mi_U} {μ : mi_M}
theorem mc27_71 {a0 a1 a2 a3 : Int} (hp : mp27_71 a0 a1 a2 a3 μ) (hq : Q (.inl (some (.inl (mv27_71 a0 a1 a2 a3 μ)))) mi_G0 μ) : mi_cok X 27 [(.inr (.inl (some 71))), (.inl a0), (.inl a1), (.inl a2), (.inl a3)] mi_G0 μ u Q := by
  obtain ⟨hm, ⟨hv, hv'⟩, ⟨ht, ht'⟩, ⟨hx, hx', hy, hy'⟩, hf⟩ := hp
  obtain ⟨⟨w1, w2⟩, ⟨g1, g2⟩, -⟩ := id hm
  have s0 : μ 1 0 = sc_m μ 0 := rfl
  apply me27_71
  refine qp_u (σ := Int × Int) (A := fun i s => mk27_71_9 X Q u a0 a1 a2 a3 s.1 s.2 i μ) (fun i s => s.1 = cf_v (sp_to a1 a0 (fun i => sp_fill (sc_m μ) a0 i a3)) (fun i => sp_fill (sc_m μ) a0 i a3) a2 i.toNat ∧ s.2 = if s.1 < 0 then -1 else sp_fill (sc_m μ) a0 s.1 a3) (a := 0) (n := sc_m μ 0) (by omega) ?_ ?_ (s := (-1, -1)) ⟨rfl, rfl⟩
  · rintro ⟨b, g⟩ ⟨rfl, -⟩
    apply mh27_71_9
    rw [s0, if_neg (by omega)]
    exact hq
  · rintro i ⟨b, g⟩ hi hi' ⟨hb, hg⟩ k
    dsimp only at hb hg
    show mk27_71_9 X Q u a0 a1 a2 a3 b g i μ
    have fb := sp_fill_b hm (v := a0) (x := i) (y := a3) hi'
    have cb := cf_b (g := sp_to a1 a0 (fun i => sp_fill (sc_m μ) a0 i a3)) (f := fun i => sp_fill (sc_m μ) a0 i a3) (x := a2) i.toNat
    have fb2 := sp_fill_b hm (v := a0) (x := b) (y := a3) (by omega)
    have mb := mul_b ht ht' fb.1 fb.2
    have mb2 := mul_b (t := 4 - a1) (by omega) (by omega) fb.1 fb.2
    have gb : -1 ≤ g ∧ g ≤ 7 := by rw [hg]; split <;> omega
    have gt : g < sp_fill (sc_m μ) a0 i a3 ↔ (b < 0 ∨ sp_fill (sc_m μ) a0 b a3 < sp_fill (sc_m μ) a0 i a3) := by
      rw [hg]; split <;> omega
    have cs := cf_s (g := sp_to a1 a0 (fun i => sp_fill (sc_m μ) a0 i a3)) (f := fun i => sp_fill (sc_m μ) a0 i a3) (x := a2) hi
    rw [← hb] at cs
    have step : (if sp_to a1 a0 (fun i => sp_fill (sc_m μ) a0 i a3) i = a2 then (if g < sp_fill (sc_m μ) a0 i a3 then mk27_71_9 X Q u a0 a1 a2 a3 i (sp_fill (sc_m μ) a0 i a3) (i + 1) μ else mk27_71_9 X Q u a0 a1 a2 a3 b g (i + 1) μ) else mk27_71_9 X Q u a0 a1 a2 a3 b g (i + 1) μ) := by
      by_cases c1 : sp_to a1 a0 (fun i => sp_fill (sc_m μ) a0 i a3) i = a2
      · rw [if_pos c1]
        by_cases c2 : g < sp_fill (sc_m μ) a0 i a3
        · rw [if_pos c2]
          rw [if_pos ⟨c1, gt.mp c2⟩] at cs
          exact k (i, _) ⟨cs.symm, (if_neg (by show ¬ i < 0; omega)).symm⟩
        · rw [if_neg c2]
          rw [if_neg (fun h => c2 (gt.mpr h.2))] at cs
          exact k (b, g) ⟨cs.symm, hg⟩
      · rw [if_neg c1]
        rw [if_neg (fun h => c1 h.1)] at cs
        exact k (b, g) ⟨cs.symm, hg⟩
    apply mh27_71_9
    rw [mx_spot hy (by omega), hf a0 i a3 hv hv' hi hi' hy hy', s0, mi_wr_id (z := i) (by omega) (by omega), mi_wr_id (z := sc_m μ 0) (by omega) (by omega), if_pos hi', mi_wr_id (z := a0) (by omega) (by omega), mi_wr_id (z := a2) (by omega) (by omega), mi_wr_id (z := g) (by omega) (by omega), mi_wr_id (z := sp_fill (sc_m μ) a0 i a3) (by omega) (by omega)]
    unfold mv28
    rw [mx_shr2 (a := a1 * sp_fill (sc_m μ) a0 i a3 + 2) (by omega) (by omega), mx_shr2 (a := (4 - a1) * sp_fill (sc_m μ) a0 i a3 + 2) (by omega) (by omega), mi_wr_id (z := i - (a1 * sp_fill (sc_m μ) a0 i a3 + 2) / 4) (by omega) (by omega), mi_wr_id (z := i + ((4 - a1) * sp_fill (sc_m μ) a0 i a3 + 2) / 4) (by omega) (by omega)]
    refine ⟨by omega, ?_⟩
    unfold sp_to at step
    dsimp only at step
    by_cases c : a0 = 0
    · rw [if_pos c] at step ⊢; exact step
    · rw [if_neg c] at step ⊢; exact step
theorem mc235_86 {a0 a1 a2 a3 : Int} (hp : mp235_86 a0 a1 a2 a3 μ) (hq : Q (.inl (some (.inl (mv235_86 a0 a1 a2 a3 μ)))) mi_G0 μ) : mi_cok X 235 [(.inr (.inl (some 86))), (.inl a0), (.inl a1), (.inl a2), (.inl a3)] mi_G0 μ u Q := by
  obtain ⟨hm, ⟨hv, hv'⟩, ⟨ht, ht'⟩, ⟨hx, hx', hy, hy'⟩, hf⟩ := hp
  obtain ⟨⟨w1, w2⟩, ⟨g1, g2⟩, -⟩ := id hm
  apply me235_86
  refine qp_u (A := fun i b => mk235_86_6 X Q u a0 a1 a2 a3 b i μ) (fun i b => b = cf_v (sp_to a1 a0 (fun i => sp_fill (μ 87) a0 i a3)) (fun i => sp_fill (μ 87) a0 i a3) a2 i.toNat) (a := 0) (n := μ 87 0) (by omega) ?_ ?_ rfl
  · rintro b rfl
    apply mh235_86_6
    rw [if_neg (by omega)]
    exact hq
  · rintro i b hi hi' hb k
    have fb := sp_fill_b hm (v := a0) (x := i) (y := a3) hi'
    have cb := cf_b (g := sp_to a1 a0 (fun i => sp_fill (μ 87) a0 i a3)) (f := fun i => sp_fill (μ 87) a0 i a3) (x := a2) i.toNat
    have fb2 := sp_fill_b hm (v := a0) (x := b) (y := a3) (by omega)
    have mb := mul_b ht ht' fb.1 fb.2
    have mb2 := mul_b (t := 4 - a1) (by omega) (by omega) fb.1 fb.2
    have cs := cf_s (g := sp_to a1 a0 (fun i => sp_fill (μ 87) a0 i a3)) (f := fun i => sp_fill (μ 87) a0 i a3) (x := a2) hi
    rw [← hb] at cs
    have step : (if sp_to a1 a0 (fun i => sp_fill (μ 87) a0 i a3) i = a2 then (if b < 0 then mk235_86_6 X Q u a0 a1 a2 a3 i (i + 1) μ else (0 ≤ 192 * a0 + 16 * a3 + b ∧ 192 * a0 + 16 * a3 + b < 384) ∧ mk235_86_6 X Q u a0 a1 a2 a3 (if mi_wr (μ 99 (192 * a0 + 16 * a3 + b)) < sp_fill (μ 87) a0 i a3 then i else b) (i + 1) μ) else mk235_86_6 X Q u a0 a1 a2 a3 b (i + 1) μ) := by
      by_cases c1 : sp_to a1 a0 (fun i => sp_fill (μ 87) a0 i a3) i = a2
      · rw [if_pos c1]
        by_cases c2 : b < 0
        · rw [if_pos c2]
          rw [if_pos ⟨c1, Or.inl c2⟩] at cs
          exact k i cs.symm
        · rw [if_neg c2, hf a0 b a3 hv hv' (by omega) (by omega) hy hy', mi_wr_id (z := sp_fill (μ 87) a0 b a3) (by omega) (by omega)]
          refine ⟨by omega, k _ ?_⟩
          rw [cs]
          by_cases c3 : sp_fill (μ 87) a0 b a3 < sp_fill (μ 87) a0 i a3
          · rw [if_pos c3, if_pos ⟨c1, Or.inr c3⟩]
          · rw [if_neg c3, if_neg (fun h => h.2.elim c2 c3)]
      · rw [if_neg c1]
        rw [if_neg (fun h => c1 h.1)] at cs
        exact k b cs.symm
    apply mh235_86_6
    simp only [mx_spotR]
    rw [hf a0 i a3 hv hv' hi hi' hy hy', mi_wr_id (z := i) (by omega) (by omega), mi_wr_id (z := μ 87 0) (by omega) (by omega), if_pos hi', mi_wr_id (z := a0) (by omega) (by omega), mi_wr_id (z := a2) (by omega) (by omega), mi_wr_id (z := b) (by omega) (by omega), mi_wr_id (z := sp_fill (μ 87) a0 i a3) (by omega) (by omega), mx_div (a := a1 * sp_fill (μ 87) a0 i a3 + 2) (by omega) (by omega) (by decide) (by decide), mx_div (a := (4 - a1) * sp_fill (μ 87) a0 i a3 + 2) (by omega) (by omega) (by decide) (by decide)]
    refine ⟨by omega, ?_⟩
    unfold sp_to at step
    dsimp only at step
    by_cases c : a0 = 0
    · rw [if_pos c] at step
      rw [if_pos c, if_pos c, mi_wr_id (z := i - (a1 * sp_fill (μ 87) a0 i a3 + 2) / 4) (by omega) (by omega)]
      exact step
    · rw [if_neg c] at step
      rw [if_neg c, if_neg c, mi_wr_id (z := i + ((4 - a1) * sp_fill (μ 87) a0 i a3 + 2) / 4) (by omega) (by omega)]
      exact step
end
