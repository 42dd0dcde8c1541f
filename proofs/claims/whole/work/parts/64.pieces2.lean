/-! laysPieces (the reference) -/
/-- a sum of all numbers -/
def pj_S (v : Int) (ρ : mi_M) : Int := sm (fun k => ρ 97 (192 * v + k)) 192
/-- while numbers are lowered -/
def pj (μ : mi_M) (v : Int) (ρ : mi_M) : Prop := fr_l [97, 98] μ ρ ∧ (∀ k, (k < 192 * v ∨ 192 * v + 192 ≤ k) → ρ 97 k = μ 97 k ∧ ρ 98 k = μ 98 k) ∧ (∀ k, 192 * v ≤ k → k < 192 * v + 192 → ρ 98 k = 0 ∧ 0 ≤ ρ 97 k ∧ ρ 97 k < 384) ∧ (∀ x y, sc_in (μ 87) x y → ∃ i j, cn (μ 87) v x y i j ∧ ρ 97 (192 * v + 16 * y + x) = 192 * v + 16 * j + i) ∧ (∀ x y, sc_in (μ 87) x y → ρ 97 (192 * v + 16 * y + x) ≤ 192 * v + 16 * y + x)
def rp_is (ν : mi_M) (m : Int → Int) (v : Int) : Prop := (∀ x y, sc_in m x y → ν 97 (192 * v + 16 * y + x) = if sp_k0 m v x y = 0 then 192 * v + rt m v x y else -1) ∧ ∀ r, 0 ≤ r → r < 192 → ν 98 (192 * v + r) = sz m v r
def mp212_86 (v : Int) (μ : mi_M) : Prop := sc_ok (μ 87) ∧ (0 ≤ v ∧ v ≤ 1) ∧ mp_is μ 95 (μ 87) (sp_sh (μ 87)) ∧ mp_is μ 96 (μ 87) (sp_k0 (μ 87))
def mq212_86 (v : Int) (μ ν : mi_M) : Prop := fr_l [97, 98] μ ν ∧ (∀ k, (k < 192 * v ∨ 192 * v + 192 ≤ k) → ν 97 k = μ 97 k ∧ ν 98 k = μ 98 k) ∧ rp_is ν (μ 87) v
section
variable {X : mi_X} {Q : mi_R → mi_G → mi_M → Prop} {u : mi_U} {μ ρ : mi_M} {v : Int}
theorem pj_0 (hm : sc_ok (μ 87)) (hv : 0 ≤ v) (h : pj μ v ρ) : 0 ≤ pj_S v ρ := sm_0le 192 (fun k h1 h2 => (h.2.2.1 _ (by omega) (by omega)).2.1)
theorem pj_p (hp : mp212_86 v μ) (h : pj μ v ρ) {x y i j : Int} (hi : sc_in (μ 87) x y) (ha : ad x y i j) : mp211r v x y i j ρ := by
  obtain ⟨hm, hv, hs, hk⟩ := hp
  have e87 : ρ 87 = μ 87 := h.1 87 (by decide)
  refine ⟨by rw [e87]; exact hm, hv, by rw [e87]; exact hi, ha, by rw [e87]; exact mp_is_fr (h.1 95 (by decide)) hs, by rw [e87]; exact mp_is_fr (h.1 96 (by decide)) hk, fun k h1 h2 => (h.2.2.1 k h1 h2).2⟩
theorem pj_l (hp : mp212_86 v μ) (h : pj μ v ρ) {x y i j r : Int} {σ : mi_M} (hi : sc_in (μ 87) x y) (hq : mq211r v x y i j ρ r σ) : (r = 0 ∧ σ = ρ ∧ ¬ (lk (μ 87) v x y i j ∧ ρ 97 (192 * v + 16 * j + i) < ρ 97 (192 * v + 16 * y + x))) ∨ (r = 1 ∧ pj μ v σ ∧ pj_S v σ < pj_S v ρ) := by
  obtain ⟨hm, hv, hs, hk⟩ := hp
  obtain ⟨⟨w1, w2⟩, ⟨g1, g2⟩, -⟩ := id hm
  have e87 : ρ 87 = μ 87 := h.1 87 (by decide)
  unfold mq211r at hq
  rw [e87] at hq
  rcases hq with hq | ⟨h1, h2, h3, rfl⟩
  · exact Or.inl hq
  · refine Or.inr ⟨h1, ?_, ?_⟩
    · obtain ⟨f1, f2, f3, f4, f5⟩ := h
      obtain ⟨a1, a2, a3, a4⟩ := id hi
      obtain ⟨b1, b2, b3, b4⟩ := id h2.2.2.1
      refine ⟨fr_ls f1 (by decide) _ _, fun k hk => ?_, fun k k1 k2 => ?_, fun x' y' hi' => ?_, fun x' y' hi' => ?_⟩
      · rw [ms_same, if_neg (by omega), ms_other _ (by decide)]; exact f2 k hk
      · rw [ms_same, ms_other _ (by decide)]
        refine ⟨(f3 k k1 k2).1, ?_⟩
        split
        · exact (f3 _ (by omega) (by omega)).2
        · exact (f3 k k1 k2).2
      · rw [ms_same]
        by_cases e : y' = y ∧ x' = x
        · obtain ⟨rfl, rfl⟩ := e
          rw [if_pos rfl]
          obtain ⟨c, d, c1, c2⟩ := f4 i j h2.2.2.1
          exact ⟨c, d, cn_t (cn_1 h2) c1, c2⟩
        · obtain ⟨c1, c2, c3, c4⟩ := id hi'
          rw [if_neg (by omega)]; exact f4 x' y' hi'
      · rw [ms_same]
        by_cases e : y' = y ∧ x' = x
        · obtain ⟨rfl, rfl⟩ := e
          rw [if_pos rfl]
          have := f5 x' y' hi'
          omega
        · obtain ⟨c1, c2, c3, c4⟩ := id hi'
          rw [if_neg (by omega)]; exact f5 x' y' hi'
    · obtain ⟨a1, a2, a3, a4⟩ := id hi
      have := sm_upd (f := fun k => ρ 97 (192 * v + k)) (g := fun k => mi_set ρ 97 (192 * v + 16 * y + x) (ρ 97 (192 * v + 16 * j + i)) 97 (192 * v + k)) (k := 16 * y + x) 192 (by omega) (by omega) (fun k hk => by
        rw [ms_same, if_neg (by omega)])
      unfold pj_S
      rw [this, ms_same, if_pos (by omega), show 192 * v + (16 * y + x) = 192 * v + 16 * y + x by omega]
      omega
/-- none is lowered any more -/
def pj_st (μ : mi_M) (v : Int) (ρ : mi_M) : Prop := ∀ x y i j, sc_in (μ 87) x y → lk (μ 87) v x y i j → ρ 97 (192 * v + 16 * y + x) ≤ ρ 97 (192 * v + 16 * j + i)
theorem pj_e (h : pj μ v ρ) (hs : pj_st μ v ρ) {x y : Int} (hi : sc_in (μ 87) x y) : ρ 97 (192 * v + 16 * y + x) = 192 * v + rt (μ 87) v x y := by
  have hc : ∀ i j, cn (μ 87) v x y i j → ρ 97 (192 * v + 16 * j + i) = ρ 97 (192 * v + 16 * y + x) := fun i j hc => hc (fun i j => ρ 97 (192 * v + 16 * j + i) = ρ 97 (192 * v + 16 * y + x)) rfl (fun a b c d g1 g2 => by
    have := hs a b c d g2.2.1 g2
    have := hs c d a b g2.2.2.1 (lk_y g2)
    omega)
  obtain ⟨i, j, h1, h2⟩ := h.2.2.2.1 x y hi
  have := rt_u (v := v) (k := 16 * j + i) hi ⟨i, j, h1, rfl⟩ (fun i' j' h' => by
    have := hc i' j' h'
    have := h.2.2.2.2 i' j' (cn_in h' hi)
    omega)
  rw [this]; omega
theorem ml212_186 (hp : mp212_86 v μ) (hq : ∀ ν, mq212_86 v μ ν → Q (.inl none) mi_G0 ν) (h : pj μ v ρ) (hs : pj_st μ v ρ) : mk212_86_186 X Q u v 0 ρ := by
  obtain ⟨hm, ⟨hv, hv'⟩, hs0, hk⟩ := id hp
  obtain ⟨⟨w1, w2⟩, ⟨g1, g2⟩, -⟩ := id hm
  refine qp_2 (A := fun y ν => mk212_86_186 X Q u v y ν) (B := fun y x ν => mk212_86_199 X Q u v y x ν) (I := fun py px ν => fr_l [97, 98] μ ν ∧ (∀ k, (k < 192 * v ∨ 192 * v + 192 ≤ k) → ν 97 k = μ 97 k ∧ ν 98 k = μ 98 k) ∧ (∀ x y, sc_in (μ 87) x y → ν 97 (192 * v + 16 * y + x) = if (y < py ∨ y = py ∧ x < px) ∧ sp_k0 (μ 87) v x y ≠ 0 then -1 else 192 * v + rt (μ 87) v x y) ∧ ∀ r, 0 ≤ r → r < 192 → ν 98 (192 * v + r) = sm2a (fun x y => if sp_rt (μ 87) v x y = r then 1 else 0) (μ 87 0) py px) (w := μ 87 0) (h := μ 87 1) (by omega) (by omega) ?_ ?_ ?_ ?_ ⟨h.1, h.2.1, fun x y hi => ?_, fun r h1 h2 => ?_⟩
  · rintro ν ⟨f1, f2, f3, f4⟩
    apply mh212_86_186
    rw [f1 87 (by decide), if_neg (by omega)]
    refine hq ν ⟨f1, f2, fun x y hi => ?_, fun r h1 h2 => ?_⟩
    · rw [f3 x y hi]
      obtain ⟨a1, a2, a3, a4⟩ := id hi
      by_cases e : sp_k0 (μ 87) v x y = 0
      · rw [if_neg (fun hh => hh.2 e), if_pos e]
      · rw [if_pos ⟨by omega, e⟩, if_neg e]
    · rw [f4 r h1 h2, sm2_e]; rfl
  · rintro y ν hy hy' ⟨f1, f2⟩ k
    apply mh212_86_186
    rw [f1 87 (by decide), mi_wr_id (by omega) (by omega), mi_wr_id (by omega) (by omega), if_pos (by omega)]
    exact k ν ⟨f1, f2⟩
  · rintro y x ν hy hy' hx hx' ⟨f1, f2, f3, f4⟩ k
    have hi : sc_in (μ 87) x y := ⟨hx, hx', hy, hy'⟩
    have kb := sp_k0_b (m := μ 87) (v := v) (x := x) (y := y)
    have rb := rt_b (v := v) w2 g2 hi
    have e97 := f3 x y hi
    rw [if_neg (by omega)] at e97
    apply mh212_86_199
    rw [mx_spotR, f1 87 (by decide), mi_wr_id (z := x) (by omega) (by omega), mi_wr_id (z := μ 87 0) (by omega) (by omega), if_pos (by omega), f1 96 (by decide), hk v x y hv hv' hx hx' hy hy', mi_wr_id (z := sp_k0 (μ 87) v x y) (by omega) (by omega)]
    refine ⟨by omega, ?_⟩
    by_cases e : sp_k0 (μ 87) v x y = 0
    · rw [if_pos e]
      refine ⟨by omega, by omega, ?_⟩
      apply mh212_86_247
      rw [ms_same, if_pos rfl, e97, mi_wr_id (by omega) (by omega), if_neg (by omega), ms_other _ (by decide)]
      refine ⟨by omega, by omega, by omega, by omega, k _ ⟨fr_ls (fr_ls f1 (by decide) _ _) (by decide) _ _, fun j hj => ?_, fun x' y' hi' => ?_, fun r h1 h2 => ?_⟩⟩
      · rw [ms_other _ (by decide), ms_same, ms_same, ms_other _ (by decide), if_neg (by omega), if_neg (by omega)]; exact f2 j hj
      · obtain ⟨a1, a2, a3, a4⟩ := id hi'
        rw [ms_other _ (by decide), ms_same]
        by_cases ee : y' = y ∧ x' = x
        · obtain ⟨rfl, rfl⟩ := ee
          rw [if_pos rfl, if_neg (fun hh => hh.2 e)]
        · rw [if_neg (by omega), f3 x' y' hi']
          by_cases e2 : (y' < y ∨ y' = y ∧ x' < x) ∧ sp_k0 (μ 87) v x' y' ≠ 0
          · rw [if_pos e2, if_pos ⟨by omega, e2.2⟩]
          · rw [if_neg e2, if_neg (by omega)]
      · rw [ms_same, ms_other _ (by decide), f4 _ rb.1 rb.2.2, f4 r h1 h2, sm2_x hx]
        have er : sp_rt (μ 87) v x y = rt (μ 87) v x y := if_pos e
        by_cases ee : r = rt (μ 87) v x y
        · subst ee
          rw [if_pos rfl, er, if_pos rfl]
        · rw [if_neg (by omega), er, if_neg (fun hh => ee hh.symm), Int.add_zero]
    · rw [if_neg e]
      refine ⟨by omega, ?_⟩
      apply mh212_86_247
      rw [ms_same, if_pos rfl, mi_wr_id (by omega) (by omega), if_pos (by omega)]
      refine ⟨by omega, k _ ⟨fr_ls f1 (by decide) _ _, fun j hj => ?_, fun x' y' hi' => ?_, fun r h1 h2 => ?_⟩⟩
      · rw [ms_same, ms_other _ (by decide), if_neg (by omega)]; exact f2 j hj
      · obtain ⟨a1, a2, a3, a4⟩ := id hi'
        rw [ms_same]
        by_cases ee : y' = y ∧ x' = x
        · obtain ⟨rfl, rfl⟩ := ee
          rw [if_pos rfl, if_pos ⟨by omega, e⟩]
        · rw [if_neg (by omega), f3 x' y' hi']
          by_cases e2 : (y' < y ∨ y' = y ∧ x' < x) ∧ sp_k0 (μ 87) v x' y' ≠ 0
          · rw [if_pos e2, if_pos ⟨by omega, e2.2⟩]
          · rw [if_neg e2, if_neg (by omega)]
      · have er : sp_rt (μ 87) v x y = -1 := if_neg e
        rw [ms_other _ (by decide), f4 r h1 h2, sm2_x hx, er, if_neg (by omega), Int.add_zero]
  · rintro y ν hy hy' ⟨f1, f2, f3, f4⟩ k
    apply mh212_86_199
    rw [f1 87 (by decide), if_neg (by omega)]
    refine k ν ⟨f1, f2, fun x' y' hi' => ?_, fun r h1 h2 => ?_⟩
    · obtain ⟨a1, a2, a3, a4⟩ := id hi'
      rw [f3 x' y' hi']
      by_cases e2 : (y' < y ∨ y' = y ∧ x' < μ 87 0) ∧ sp_k0 (μ 87) v x' y' ≠ 0
      · rw [if_pos e2, if_pos ⟨by omega, e2.2⟩]
      · rw [if_neg e2, if_neg (by omega)]
    · rw [f4 r h1 h2, sm2_y hy]
  · obtain ⟨a1, a2, a3, a4⟩ := id hi
    rw [pj_e h hs hi, if_neg (by omega)]
  · rw [(h.2.2.1 _ (by omega) (by omega)).1]; rfl
end
