/-! all places are filled -/
theorem mp_to_row {ρ σ : mi_M} {c : Nat} {m : Int → Int} {f : Int → Int → Int → Int} {y x : Int} (e : ρ c = σ c) (h : mp_to σ c m f y x) : mp_to ρ c m f y x := fun v x' y' h1 h2 h3 h4 h5 h6 => by rw [e]; exact h v x' y' h1 h2 h3 h4 h5 h6
theorem ms_row {ρ σ : mi_M} {c : Nat} (e : ρ c = σ c) (i v : Int) : (mi_set ρ c i v) c = (mi_set σ c i v) c := by
  funext k; rw [ms_same, ms_same, e]
def mp21_71 (μ : mi_M) : Prop := sc_ok (sc_m μ) ∧ mp_is μ 72 (sc_m μ) (sp_sh (sc_m μ)) ∧ mp_is μ 73 (sc_m μ) (sp_kn (sc_m μ))
def mq21_71 (μ ν : mi_M) : Prop := fr_l [74, 75] μ ν ∧ mp_is ν 74 (sc_m μ) (sp_fill (sc_m μ))
def mp228_86 (μ : mi_M) : Prop := sc_ok (μ 87)
def rc5 (ν : mi_M) (m : Int → Int) : Prop := rc4 ν m ∧ mp_is ν 99 m (sp_fill m)
def mq228_86 (μ ν : mi_M) : Prop := fr_l [92, 93, 94, 95, 96, 97, 98, 99] μ ν ∧ rc5 ν (μ 87)
theorem rp_fr {μ ν : mi_M} {m : Int → Int} {v : Int} (e1 : ν 97 = μ 97) (e2 : ν 98 = μ 98) (h : rp_is μ m v) : rp_is ν m v := ⟨fun x y hi => by rw [e1]; exact h.1 x y hi, fun r h1 h2 => by rw [e2]; exact h.2 r h1 h2⟩
theorem rc4_fr {L : List Nat} {μ ν : mi_M} {m : Int → Int} (hf : fr_l L μ ν) (hl : L.all (fun q => !([92, 94, 95, 96, 97, 98].contains q)) = true) (h : rc4 μ m) : rc4 ν m := by
  have k : ∀ q, [92, 94, 95, 96, 97, 98].contains q = true → ν q = μ q := fun q hq => hf q (fun hm => by
    have := List.all_eq_true.mp hl q hm
    rw [hq] at this; exact absurd this (by decide))
  obtain ⟨⟨h1, h2, h3⟩, h4, h5, h6⟩ := h
  exact ⟨⟨mp_is_fr (k 92 rfl) h1, ct_is_fr (k 94 rfl) h2, mp_is_fr (k 95 rfl) h3⟩, mp_is_fr (k 96 rfl) h4, rp_fr (k 97 rfl) (k 98 rfl) h5, rp_fr (k 97 rfl) (k 98 rfl) h6⟩
section
variable {X : mi_X} {Q : mi_R → mi_G → mi_M → Prop} {u : mi_U} {μ : mi_M}
theorem mc21_71 (hp : mp21_71 μ) (hq : ∀ ν, mq21_71 μ ν → Q (.inl none) mi_G0 ν) : mi_cok X 21 [(.inr (.inl (some 71)))] mi_G0 μ u Q := by
  obtain ⟨hm, hs, hk⟩ := hp
  obtain ⟨⟨w1, w2⟩, ⟨g1, g2⟩, -⟩ := id hm
  have pre : ∀ ν v x y, fr_l [74, 75] μ ν → 0 ≤ v → v ≤ 1 → sc_in (sc_m μ) x y → mp22_71 v x y ν := fun ν v x y hf h1 h2 hi => by
    have es : sc_m ν = sc_m μ := sc_m_frl hf (by decide) (by decide) (by decide)
    exact ⟨by rw [es]; exact hm, ⟨h1, h2⟩, by rw [es]; exact hi, by rw [es]; exact mp_is_fr (hf 72 (by decide)) hs, by rw [es]; exact mp_is_fr (hf 73 (by decide)) hk⟩
  apply me21_71
  refine qp_2 (A := fun y ν => mk21_71_2 X Q u y ν) (B := fun y x ν => mk21_71_15 X Q u y x ν) (I := fun y x ν => fr_l [74, 75] μ ν ∧ mp_to ν 74 (sc_m μ) (sp_fill (sc_m μ)) y x) (w := sc_m μ 0) (h := sc_m μ 1) (by omega) (by omega) ?_ ?_ ?_ ?_ ⟨fr_lr _ _, mp_to0⟩
  · rintro ν ⟨hf, ht⟩
    apply mh21_71_2
    rw [hf 1 (by decide), ← sc_m1 μ, if_neg (by omega)]
    exact hq ν ⟨hf, mp_toE ht⟩
  · rintro y ν hy hy' ⟨hf, ht⟩ k
    apply mh21_71_2
    rw [hf 1 (by decide), ← sc_m1 μ, mi_wr_id (by omega) (by omega), mi_wr_id (by omega) (by omega), if_pos (by omega)]
    exact k ν ⟨hf, ht⟩
  · rintro y x ν hy hy' hx hx' ⟨hf, ht⟩ k
    have es : sc_m ν = sc_m μ := sc_m_frl hf (by decide) (by decide) (by decide)
    have e0 : ν 1 0 = sc_m μ 0 := by rw [hf 1 (by decide)]; rfl
    apply mh21_71_15
    simp only [mx_spot hy (show y < 16777216 by omega)]
    rw [e0, mi_wr_id (by omega) (by omega), mi_wr_id (by omega) (by omega), if_pos (by omega)]
    refine ⟨pre ν 0 x y hf (by decide) (by decide) ⟨hx, hx', hy, hy'⟩, fun r0 ν0 ⟨f0, q0⟩ => ⟨by omega, ?_⟩⟩
    have f01 : fr_l [74, 75] μ (mi_set ν0 74 (192 * 0 + 16 * y + x) r0) := fr_ls (fr_lt hf (fr_lm (fr_l1 f0) rfl)) (by decide) _ _
    have es1 : sc_m (mi_set ν0 74 (192 * 0 + 16 * y + x) r0) = sc_m μ := sc_m_frl f01 (by decide) (by decide) (by decide)
    refine ⟨pre _ 1 x y f01 (by decide) (by decide) ⟨hx, hx', hy, hy'⟩, fun r1 ν1 ⟨f1, q1⟩ => ⟨by omega, k _ ⟨fr_ls (fr_lt f01 (fr_lm (fr_l1 f1) rfl)) (by decide) _ _, ?_⟩⟩⟩
    rw [es] at q0
    rw [es1] at q1
    refine mp_to_row (σ := mi_set (mi_set ν 74 (192 * 0 + 16 * y + x) r0) 74 (192 * 1 + 16 * y + x) r1) (ms_row ((f1 74 (by decide)).trans (ms_row (f0 74 (by decide)) _ _)) _ _) (mp_toX w2 ht hx hx' hy (by omega) q0 q1)
  · rintro y ν hy hy' ⟨hf, ht⟩ k
    apply mh21_71_15
    rw [hf 1 (by decide), ← sc_m0 μ, if_neg (by omega)]
    exact k ν ⟨hf, mp_toY ht⟩
theorem mc228_86 (hp : mp228_86 μ) (hq : ∀ ν, mq228_86 μ ν → Q (.inl none) mi_G0 ν) : mi_cok X 228 [(.inr (.inl (some 86)))] mi_G0 μ u Q := by
  have hm : sc_ok (μ 87) := hp
  obtain ⟨⟨w1, w2⟩, ⟨g1, g2⟩, -⟩ := id hm
  have h22 : mi_wr 2 = 2 := by decide
  apply me228_86
  refine ⟨hm, fun μ0 ⟨hf0, hrc⟩ => ?_⟩
  have e87 : μ0 87 = μ 87 := hf0 87 (by decide)
  refine qp_u (A := fun v ν => mk228_86_6 X Q u v ν) (fun v ν => fr_1 99 μ0 ν ∧ ∀ v', 0 ≤ v' → v' < v → in1 ν 99 (μ 87) v' (sp_fill (μ 87) v')) (a := 0) (n := 2) (by omega) ?_ ?_ ⟨fr_r _ _, fun v' h1 h2 => by omega⟩
  · rintro ν ⟨hf, ht⟩
    apply mh228_86_6
    rw [h22, if_neg (by decide)]
    refine hq ν ⟨fr_lt (fr_lm hf0 rfl) (fr_lm (fr_l1 hf) rfl), rc4_fr (fr_l1 hf) rfl hrc, fun v x y h1 h2 h3 h4 h5 h6 => ht v h1 (by omega) x y ⟨h3, h4, h5, h6⟩⟩
  · rintro v ν0 hv hv' ⟨hfa, hta⟩ k
    apply mh228_86_6
    rw [h22, mi_wr_id (by omega) (by omega), if_pos hv']
    refine qp_2 (A := fun y ν => mk228_86_13 X Q u v y ν) (B := fun y x ν => mk228_86_25 X Q u v y x ν) (I := fun py px ν => fr_1 99 μ0 ν ∧ (∀ v', 0 ≤ v' → v' < v → in1 ν 99 (μ 87) v' (sp_fill (μ 87) v')) ∧ ∀ x y, sc_in (μ 87) x y → (y < py ∨ y = py ∧ x < px) → ν 99 (192 * v + 16 * y + x) = sp_fill (μ 87) v x y) (w := μ 87 0) (h := μ 87 1) (by omega) (by omega) ?_ ?_ ?_ ?_ ⟨hfa, hta, fun x y hi h => by obtain ⟨a1, a2, a3, a4⟩ := id hi; omega⟩
    · rintro ν ⟨hf, ht, h⟩
      apply mh228_86_13
      rw [hf 87 (by decide), e87, if_neg (by omega)]
      refine k ν ⟨hf, fun v' h1 h2 => ?_⟩
      by_cases e : v' = v
      · subst e; exact fun x y hi => h x y hi (by obtain ⟨a1, a2, a3, a4⟩ := id hi; omega)
      · exact ht v' h1 (by omega)
    · rintro y ν hy hy' ⟨hf, ht⟩ k
      apply mh228_86_13
      rw [hf 87 (by decide), e87, mi_wr_id (by omega) (by omega), mi_wr_id (by omega) (by omega), if_pos (by omega)]
      exact k ν ⟨hf, ht⟩
    · rintro y x ν hy hy' hx hx' ⟨hf, ht, h⟩ k
      have es : ν 87 = μ 87 := (hf 87 (by decide)).trans e87
      have hi : sc_in (μ 87) x y := ⟨hx, hx', hy, hy'⟩
      have hrc' : rc4 ν (ν 87) := by rw [es]; exact rc4_fr (fr_l1 hf) rfl hrc
      have kb := sp_kn_b (m := μ 87) (v := v) (x := x) (y := y)
      obtain ⟨p1, p2⟩ := mx_now (μ := ν) (v := v) (x := x) (y := y) (by rw [es]; exact hm) hrc' hv (by omega) (by rw [es]; exact hi)
      have put : ∀ z, z = sp_fill (μ 87) v x y → mk228_86_25 X Q u v y (x + 1) (mi_set ν 99 (192 * v + 16 * y + x) z) := by
        intro z hz
        refine k _ ⟨fr_s hf _ _, fun v' h1 h2 x' y' hi' => ?_, fun x' y' hi' hb => ?_⟩
        · obtain ⟨a1, a2, a3, a4⟩ := id hi'
          rw [ms_same, if_neg (by omega)]; exact ht v' h1 h2 x' y' hi'
        · obtain ⟨a1, a2, a3, a4⟩ := id hi'
          rw [ms_same]
          by_cases e : y' = y ∧ x' = x
          · obtain ⟨rfl, rfl⟩ := e
            rw [if_pos rfl, hz]
          · rw [if_neg (by omega)]; exact h x' y' hi' (by omega)
      rw [es] at p2
      apply mh228_86_25
      rw [p2, mx_spotR, es, mi_wr_id (z := x) (by omega) (by omega), mi_wr_id (z := μ 87 0) (by omega) (by omega), if_pos (by omega), mi_wr_id (z := sp_kn (μ 87) v x y) (by omega) (by omega), h22, mx_hfR (by rw [es]; exact hm), hrc'.1.2.2 v x y hv (by omega) hx (by rw [es]; exact hx') hy (by rw [es]; exact hy'), es]
      refine ⟨p1, ?_⟩
      by_cases c0 : sp_kn (μ 87) v x y = 0
      · rw [if_pos c0]
        exact ⟨by omega, by omega, put _ (by unfold sp_fill; rw [if_pos c0])⟩
      · rw [if_neg c0]
        by_cases c2 : sp_kn (μ 87) v x y = 2
        · rw [if_pos c2]
          have hn : ∀ dx dy, wy_is2 dx dy → mp225_86 v x y dx dy ν := fun dx dy hd => ⟨by rw [es]; exact hm, ⟨hv, by omega⟩, by rw [es]; exact hi, hd, hrc'⟩
          exact ⟨⟨hn _ _ (by unfold wy_is2; decide), hn _ _ (by unfold wy_is2; decide)⟩, by omega, put _ (by unfold sp_fill; rw [if_neg c0, if_pos c2])⟩
        · rw [if_neg c2]
          exact ⟨⟨by rw [es]; exact hm, ⟨hv, by omega⟩, by rw [es]; exact hi, hrc'⟩, by omega, put _ (by unfold sp_fill mv227_86; rw [if_neg c0, if_neg c2, es])⟩
    · rintro y ν hy hy' ⟨hf, ht, h⟩ k
      apply mh228_86_25
      rw [hf 87 (by decide), e87, if_neg (by omega)]
      exact k ν ⟨hf, ht, fun x' y' hi' hb => h x' y' hi' (by obtain ⟨a1, a2, a3, a4⟩ := id hi'; omega)⟩
end
