/-! laysPieces: the loop till none is lowered -/
/-- no place ahead of (py, px) can be lowered -/
def pj_to (μ : mi_M) (v : Int) (ρ : mi_M) (py px : Int) : Prop := ∀ x y i j, sc_in (μ 87) x y → (y < py ∨ y = py ∧ x < px) → lk (μ 87) v x y i j → ρ 97 (192 * v + 16 * y + x) ≤ ρ 97 (192 * v + 16 * j + i)
/-- since the pass began: changed, or not and looked at -/
def pj_g (μ : mi_M) (v : Int) (ρ0 : mi_M) (fl : Int) (P : Prop) (ρ : mi_M) : Prop := pj μ v ρ ∧ ((fl = 1 ∧ pj_S v ρ < pj_S v ρ0) ∨ (fl = 0 ∧ ρ = ρ0 ∧ P))
section
variable {X : mi_X} {Q : mi_R → mi_G → mi_M → Prop} {u : mi_U} {μ ρ0 : mi_M} {v : Int}
/-- one more side is looked at -/
theorem pj_s (hp : mp212_86 v μ) {ρ σ : mi_M} {fl r : Int} {P : Prop} {x y i j : Int} (hi : sc_in (μ 87) x y) (h : pj_g μ v ρ0 fl P ρ) (hq : mq211r v x y i j ρ r σ) : (r = 0 ∨ r = 1) ∧ pj_g μ v ρ0 (if fl = 0 then r else 1) (P ∧ ¬ (lk (μ 87) v x y i j ∧ ρ0 97 (192 * v + 16 * j + i) < ρ0 97 (192 * v + 16 * y + x))) σ := by
  obtain ⟨h1, h2⟩ := h
  rcases pj_l hp h1 hi hq with ⟨rfl, rfl, h3⟩ | ⟨rfl, h3, h4⟩
  · refine ⟨Or.inl rfl, h1, ?_⟩
    rcases h2 with ⟨h5, h6⟩ | ⟨h5, h6, h7⟩
    · subst h5; exact Or.inl ⟨by decide, h6⟩
    · subst h5; subst h6; exact Or.inr ⟨by decide, rfl, h7, h3⟩
  · refine ⟨Or.inr rfl, h3, Or.inl ?_⟩
    rcases h2 with ⟨h5, h6⟩ | ⟨h5, h6, h7⟩
    · subst h5; exact ⟨by decide, by omega⟩
    · subst h5; subst h6; exact ⟨by decide, h4⟩
theorem pj_g1 {ρ : mi_M} {fl : Int} {P P' : Prop} (h : pj_g μ v ρ0 fl P ρ) (hf : fl = 1) : pj_g μ v ρ0 1 P' ρ := by
  subst hf
  exact ⟨h.1, h.2.elim (fun h => Or.inl h) (fun h => absurd h.1 (by decide))⟩
theorem pj_gP {ρ : mi_M} {fl : Int} {P P' : Prop} (h : pj_g μ v ρ0 fl P ρ) (hP : P → P') : pj_g μ v ρ0 fl P' ρ := ⟨h.1, h.2.elim (fun h => Or.inl h) (fun h => Or.inr ⟨h.1, h.2.1, hP h.2.2⟩)⟩
theorem pj_fl {ρ : mi_M} {fl : Int} {P : Prop} (h : pj_g μ v ρ0 fl P ρ) : fl = 0 ∨ fl = 1 := h.2.elim (fun h => Or.inr h.1) (fun h => Or.inl h.1)
theorem ml212_47 (hp : mp212_86 v μ) (h0 : pj μ v ρ0) (hk : ∀ ρ fl, pj_g μ v ρ0 fl (pj_st μ v ρ0) ρ → mk212_86_39 X Q u v fl ρ) : mk212_86_47 X Q u v 0 0 ρ0 := by
  obtain ⟨hm, ⟨hv, hv'⟩, hs0, hk0⟩ := id hp
  obtain ⟨⟨w1, w2⟩, ⟨g1, g2⟩, -⟩ := id hm
  refine qp_2 (σ := Int × mi_M) (A := fun y s => mk212_86_47 X Q u v s.1 y s.2) (B := fun y x s => mk212_86_60 X Q u v s.1 y x s.2) (I := fun py px s => pj_g μ v ρ0 s.1 (pj_to μ v ρ0 py px) s.2) (w := μ 87 0) (h := μ 87 1) (by omega) (by omega) ?_ ?_ ?_ ?_ (s := (0, ρ0)) ⟨h0, Or.inr ⟨rfl, rfl, fun x y i j hi hb => by obtain ⟨a1, a2, a3, a4⟩ := id hi; omega⟩⟩
  · rintro ⟨fl, ρ⟩ h
    dsimp only at h
    show mk212_86_47 X Q u v fl (μ 87 1) ρ
    apply mh212_86_47
    rw [h.1.1 87 (by decide), if_neg (by omega)]
    exact hk ρ fl (pj_gP h (fun hh x y i j hi hl => hh x y i j hi (by obtain ⟨a1, a2, a3, a4⟩ := id hi; omega) hl))
  · rintro y ⟨fl, ρ⟩ hy hy' h k
    dsimp only at h
    show mk212_86_47 X Q u v fl y ρ
    apply mh212_86_47
    rw [h.1.1 87 (by decide), mi_wr_id (by omega) (by omega), mi_wr_id (by omega) (by omega), if_pos (by omega)]
    exact k (fl, ρ) h
  · rintro y x ⟨fl, ρ⟩ hy hy' hx hx' h k
    have hi : sc_in (μ 87) x y := ⟨hx, hx', hy, hy'⟩
    have hfl := pj_fl h
    dsimp only at h hfl
    show mk212_86_60 X Q u v fl y x ρ
    apply mh212_86_60
    rw [h.1.1 87 (by decide), mi_wr_id (by omega) (by omega), mi_wr_id (by omega) (by omega), if_pos (by omega)]
    have d1 : ad x y (x + 1) y := Or.inl ⟨rfl, rfl⟩
    have d2 : ad x y (x - 1) y := Or.inr (Or.inl ⟨rfl, rfl⟩)
    have d3 : ad x y x (y + 1) := Or.inr (Or.inr (Or.inl ⟨rfl, rfl⟩))
    have d4 : ad x y x (y - 1) := Or.inr (Or.inr (Or.inr ⟨rfl, rfl⟩))
    -- behind all four sides
    have k149 : ∀ l5 l6 σ, (l5 = 0 ∨ l5 = 1) → (l6 = 0 ∨ l6 = 1) → pj_g μ v ρ0 (if fl = 0 then (if l5 = 0 then l6 else 1) else 1) ((((pj_to μ v ρ0 y x ∧ ¬ (lk (μ 87) v x y (x + 1) y ∧ ρ0 97 (192 * v + 16 * y + (x + 1)) < ρ0 97 (192 * v + 16 * y + x))) ∧ ¬ (lk (μ 87) v x y (x - 1) y ∧ ρ0 97 (192 * v + 16 * y + (x - 1)) < ρ0 97 (192 * v + 16 * y + x))) ∧ ¬ (lk (μ 87) v x y x (y + 1) ∧ ρ0 97 (192 * v + 16 * (y + 1) + x) < ρ0 97 (192 * v + 16 * y + x))) ∧ ¬ (lk (μ 87) v x y x (y - 1) ∧ ρ0 97 (192 * v + 16 * (y - 1) + x) < ρ0 97 (192 * v + 16 * y + x))) σ → mk212_86_149 X Q u v fl y x l5 l6 σ := by
      intro l5 l6 σ e5 e6 hg
      apply mh212_86_149
      have ef : (if mi_wr fl = 0 then (if mi_wr l5 = 0 then (if mi_wr l6 = 0 then 0 else 1) else 1) else (1 : Int)) = if fl = 0 then (if l5 = 0 then l6 else 1) else 1 := by
        rcases hfl with rfl | rfl <;> rcases e5 with rfl | rfl <;> rcases e6 with rfl | rfl <;> decide
      rw [ef]
      refine k (_, σ) (pj_gP hg (fun ⟨⟨⟨⟨q0, q1⟩, q2⟩, q3⟩, q4⟩ x' y' i j hi' hb hl => ?_))
      by_cases e : y' = y ∧ x' = x
      · obtain ⟨rfl, rfl⟩ := e
        refine Int.not_lt.mp (fun hlt => ?_)
        rcases hl.1 with ⟨rfl, rfl⟩ | ⟨rfl, rfl⟩ | ⟨rfl, rfl⟩ | ⟨rfl, rfl⟩
        · exact q1 ⟨hl, hlt⟩
        · exact q2 ⟨hl, hlt⟩
        · exact q3 ⟨hl, hlt⟩
        · exact q4 ⟨hl, hlt⟩
      · exact q0 x' y' i j hi' (by omega) hl
    have k110 : ∀ l5 σ, (l5 = 0 ∨ l5 = 1) → pj_g μ v ρ0 (if fl = 0 then l5 else 1) ((pj_to μ v ρ0 y x ∧ ¬ (lk (μ 87) v x y (x + 1) y ∧ ρ0 97 (192 * v + 16 * y + (x + 1)) < ρ0 97 (192 * v + 16 * y + x))) ∧ ¬ (lk (μ 87) v x y (x - 1) y ∧ ρ0 97 (192 * v + 16 * y + (x - 1)) < ρ0 97 (192 * v + 16 * y + x))) σ → mk212_86_110 X Q u v fl y x l5 σ := by
      intro l5 σ e5 hg
      apply mh212_86_110
      refine ⟨pj_p hp hg.1 hi d3, fun r0 σ0 h0 => ?_⟩
      obtain ⟨er, hg0⟩ := pj_s hp hi hg h0
      rcases er with rfl | rfl
      · rw [if_pos (by decide)]
        refine ⟨pj_p hp hg0.1 hi d4, fun r1 σ1 h1 => ?_⟩
        obtain ⟨er, hg1⟩ := pj_s hp hi hg0 h1
        have e1 : (if mi_wr r1 = 0 then (0 : Int) else 1) = r1 := by rcases er with rfl | rfl <;> decide
        rw [e1]
        refine k149 l5 r1 σ1 e5 er ?_
        have ef : (if (if (if fl = 0 then l5 else 1) = 0 then (0 : Int) else 1) = 0 then r1 else 1) = if fl = 0 then (if l5 = 0 then r1 else 1) else 1 := by
          rcases hfl with rfl | rfl <;> rcases e5 with rfl | rfl <;> rcases er with rfl | rfl <;> decide
        rw [ef] at hg1
        exact hg1
      · rw [if_neg (by decide)]
        refine k149 l5 1 σ0 e5 (Or.inr rfl) ?_
        have ef : (if fl = 0 then (if l5 = 0 then (1 : Int) else 1) else 1) = 1 := by split <;> (try split) <;> rfl
        rw [ef]
        exact pj_g1 hg0 (ite_self _)
    refine ⟨pj_p hp h.1 hi d1, fun r0 σ0 h0 => ?_⟩
    obtain ⟨er, hg0⟩ := pj_s hp hi h h0
    rcases er with rfl | rfl
    · rw [if_pos (by decide)]
      refine ⟨pj_p hp hg0.1 hi d2, fun r1 σ1 h1 => ?_⟩
      obtain ⟨er, hg1⟩ := pj_s hp hi hg0 h1
      have e1 : (if mi_wr r1 = 0 then (0 : Int) else 1) = r1 := by rcases er with rfl | rfl <;> decide
      rw [e1]
      refine k110 r1 σ1 er ?_
      have ef : (if (if fl = 0 then (0 : Int) else 1) = 0 then r1 else 1) = if fl = 0 then r1 else 1 := by
        rcases hfl with rfl | rfl <;> rcases er with rfl | rfl <;> decide
      rw [ef] at hg1
      exact hg1
    · rw [if_neg (by decide)]
      refine k110 1 σ0 (Or.inr rfl) ?_
      have ef : (if fl = 0 then (1 : Int) else 1) = 1 := by split <;> rfl
      rw [ef]
      exact pj_g1 hg0 (ite_self _)
  · rintro y ⟨fl, ρ⟩ hy hy' h k
    dsimp only at h
    show mk212_86_60 X Q u v fl y (μ 87 0) ρ
    apply mh212_86_60
    rw [h.1.1 87 (by decide), if_neg (by omega)]
    exact k (fl, ρ) (pj_gP h (fun hh x' y' i j hi hb hl => hh x' y' i j hi (by obtain ⟨a1, a2, a3, a4⟩ := id hi; omega) hl))
theorem ml212_39 (hp : mp212_86 v μ) (hq : ∀ ν, mq212_86 v μ ν → Q (.inl none) mi_G0 ν) : ∀ (n : Nat) (ρ : mi_M), pj μ v ρ → pj_S v ρ < n → mk212_86_39 X Q u v 1 ρ := by
  intro n
  induction n with
  | zero =>
    intro ρ h hn
    have := pj_0 hp.1 hp.2.1.1 h
    omega
  | succ n ih =>
    intro ρ h hn
    apply mh212_86_39
    rw [if_neg (by decide)]
    refine ml212_47 hp h (fun σ fl hg => ?_)
    obtain ⟨h1, ⟨rfl, h2⟩ | ⟨rfl, rfl, h2⟩⟩ := hg
    · exact ih σ h1 (by omega)
    · apply mh212_86_39
      rw [if_pos (by decide)]
      exact ml212_186 hp hq h h2
theorem mc212_86 (hp : mp212_86 v μ) (hq : ∀ ν, mq212_86 v μ ν → Q (.inl none) mi_G0 ν) : mi_cok X 212 [(.inr (.inl (some 86))), (.inl v)] mi_G0 μ u Q := by
  obtain ⟨hm, ⟨hv, hv'⟩, hs0, hk0⟩ := id hp
  obtain ⟨⟨w1, w2⟩, ⟨g1, g2⟩, -⟩ := id hm
  apply me212_86
  refine qp_u (A := fun i ρ => mk212_86_6 X Q u v i ρ) (fun i ρ => fr_l [97, 98] μ ρ ∧ (∀ k, (k < 192 * v ∨ 192 * v + 192 ≤ k) → ρ 97 k = μ 97 k ∧ ρ 98 k = μ 98 k) ∧ ∀ k, 192 * v ≤ k → k < i → ρ 97 k = k ∧ ρ 98 k = 0) (a := 192 * v) (n := 192 * v + 192) (by omega) ?_ ?_ ⟨fr_lr _ _, fun _ _ => ⟨rfl, rfl⟩, fun k h1 h2 => by omega⟩
  · rintro ρ ⟨f1, f2, f3⟩
    apply mh212_86_6
    rw [mi_wr_id (by omega) (by omega), mi_wr_id (by omega) (by omega), if_neg (by omega)]
    have hj : pj μ v ρ := ⟨f1, f2, fun k h1 h2 => ⟨(f3 k h1 h2).2, by rw [(f3 k h1 h2).1]; omega, by rw [(f3 k h1 h2).1]; omega⟩, fun x y hi => ⟨x, y, cn_r, by obtain ⟨a1, a2, a3, a4⟩ := id hi; rw [(f3 (192 * v + 16 * y + x) (by omega) (by omega)).1]⟩, fun x y hi => by obtain ⟨a1, a2, a3, a4⟩ := id hi; rw [(f3 (192 * v + 16 * y + x) (by omega) (by omega)).1]; omega⟩
    have h0 := pj_0 hm hv hj
    exact ml212_39 hp hq (pj_S v ρ + 1).toNat ρ hj (by omega)
  · rintro i ρ hi hi' ⟨f1, f2, f3⟩ k
    apply mh212_86_6
    rw [mi_wr_id (by omega) (by omega), mi_wr_id (by omega) (by omega), if_pos (by omega)]
    refine ⟨by omega, by omega, k _ ⟨fr_ls (fr_ls f1 (by decide) _ _) (by decide) _ _, fun j hj => ?_, fun j h1 h2 => ?_⟩⟩
    · rw [ms_other _ (by decide), ms_same, ms_same, ms_other _ (by decide), if_neg (by omega), if_neg (by omega)]; exact f2 j hj
    · rw [ms_other _ (by decide), ms_same, ms_same, ms_other _ (by decide)]
      by_cases e : j = i
      · rw [if_pos e, if_pos e]; exact ⟨e.symm, rfl⟩
      · rw [if_neg e, if_neg e]; exact f3 j h1 (by omega)
end
