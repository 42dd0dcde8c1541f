/-! grow (the class), whole -/
theorem sm_z {f : Int → Int} : ∀ n : Nat, (∀ i : Int, 0 ≤ i → i < n → f i = 0) → sm f n = 0
  | 0, _ => rfl
  | n + 1, h => by
    show sm f n + f n = 0
    rw [sm_z n (fun i a b => h i a (by omega)), h n (by omega) (by omega)]; rfl
theorem sm2_z {f : Int → Int → Int} {w h : Int} (e : ∀ x y, 0 ≤ x → x < w → 0 ≤ y → y < h → f x y = 0) : sm2 f w h = 0 := by
  unfold sm2
  exact sm_z _ (fun y h1 h2 => sm_z _ (fun x h3 h4 => e x y h3 (by omega) h1 (by omega)))
theorem mx_join {ν : mi_M} {v x y n : Int} (hy : 0 ≤ y) (hy' : y < 100) : mm51_76 v x y n ν = gj ν v x y n := by
  unfold mm51_76 gj
  rw [mx_spot hy (by omega), mx_spot hy (by omega), show 192 * 0 + 16 * y + x = 16 * y + x by omega]
def gp (v x0 y0 n : Int) (μ ν : mi_M) : Prop := fr_l [76, 77, 78, 79, 80] μ ν ∧ (∀ k, ν 77 k ≠ μ 77 k → ∃ a b, cn (sc_m μ) v x0 y0 a b ∧ k = 192 * v + 16 * b + a) ∧ (∀ a b, cn (sc_m μ) v x0 y0 a b → ν 77 (192 * v + 16 * b + a) = n) ∧ (∀ k, ν 78 k = if k = 192 * v + n then sz (sc_m μ) v (rt (sc_m μ) v x0 y0) else μ 78 k) ∧ ∀ k, ν 79 k = if k = v then n + 1 else μ 79 k
section
variable {X : mi_X} {Q : mi_R → mi_G → mi_M → Prop} {u : mi_U} {μ ρ : mi_M} {v x0 y0 n : Int}
theorem gi_e (hb : gb μ v x0 y0 n) (h : gi μ v x0 y0 n (ρ 76 6) ρ) (h0 : ρ 77 (192 * v + 16 * y0 + x0) = n) : gp v x0 y0 n μ (mi_set (mi_set ρ 78 (v * 192 + n) (ρ 76 6)) 79 v (n + 1)) := by
  obtain ⟨hm, ⟨hv, hv'⟩, hs, hk, hin, hk00, hn, hl, hc0⟩ := id hb
  obtain ⟨⟨w1, w2⟩, ⟨g1, g2⟩, ⟨f1, f2⟩, -⟩ := id hm
  obtain ⟨q1, q2, q3, q4, q5, q6, q7⟩ := id h
  have hall : ∀ a b, cn (sc_m μ) v x0 y0 a b → ρ 77 (192 * v + 16 * b + a) = n := fun a b hc => (hc (fun a b => cn (sc_m μ) v x0 y0 a b ∧ ρ 77 (192 * v + 16 * b + a) = n) ⟨cn_r, h0⟩ (fun a b c d h1 h2 => by
    have hcd := cn_t h1.1 (cn_1 h2)
    refine ⟨hcd, ?_⟩
    obtain ⟨i, i1, i2, i3⟩ := q5 a b h2.2.1 h1.2
    have hne := q7 i i1 i2 a b h2.2.1 i3 c d h2
    have : ρ 77 (192 * v + 16 * d + c) ≠ μ 77 (192 * v + 16 * d + c) := by rw [hc0 c d hcd]; exact hne
    obtain ⟨a', b', h3, h4, h5⟩ := q3 _ this
    exact h5)).2
  refine ⟨?_, fun k hk => ?_, fun a b hc => ?_, fun k => ?_, fun k => ?_⟩
  · exact fr_ls (fr_ls (fr_lm q1 rfl) (by decide) _ _) (by decide) _ _
  · rw [ms_other _ (by decide), ms_other _ (by decide)] at hk
    obtain ⟨a', b', h3, h4, h5⟩ := q3 _ hk
    exact ⟨a', b', h3, h4⟩
  · rw [ms_other _ (by decide), ms_other _ (by decide)]; exact hall a b hc
  · rw [ms_other _ (by decide), ms_same, q1 78 (by decide)]
    by_cases e : k = 192 * v + n
    · rw [if_pos e, if_pos (by omega), q6]
      refine sm2_eq (fun a b h1 h2 h3 h4 => ?_)
      have hab : sc_in (sc_m μ) a b := ⟨h1, h2, h3, h4⟩
      have rb := rt_b (v := v) w2 g2 hin
      by_cases ec : cn (sc_m μ) v x0 y0 a b
      · have e2 : sp_rt (sc_m μ) v a b = rt (sc_m μ) v x0 y0 := by unfold sp_rt; rw [if_pos (cn_k ec hk00), rt_c hin ec]
        rw [if_pos (hall a b ec), if_pos e2]
      · have e1 : ¬ ρ 77 (192 * v + 16 * b + a) = n := fun he => by
          have hne : ρ 77 (192 * v + 16 * b + a) ≠ μ 77 (192 * v + 16 * b + a) := by have := hl a b hab; omega
          obtain ⟨c, d, h5, h6, -⟩ := q3 _ hne
          obtain ⟨c1, c2, c3, c4⟩ := cn_in h5 hin
          have e1 : c = a := by omega
          have e2 : d = b := by omega
          subst e1; subst e2; exact ec h5
        have e2 : ¬ sp_rt (sc_m μ) v a b = rt (sc_m μ) v x0 y0 := fun he => by
          unfold sp_rt at he
          by_cases ek : sp_k0 (sc_m μ) v a b = 0
          · rw [if_pos ek] at he; exact ec (rt_e w2 hin hab he)
          · rw [if_neg ek] at he; omega
        rw [if_neg e1, if_neg e2]
    · rw [if_neg e, if_neg (by omega)]
  · rw [ms_same, ms_other _ (by decide), q1 79 (by decide)]
theorem mc50_76 (hb : gb μ v x0 y0 n) (hn : n = μ 79 v) (hq : ∀ ν, gp v x0 y0 n μ ν → Q (.inl none) mi_G0 ν) : mi_cok X 50 [(.inr (.inl (some 76))), (.inl v), (.inl x0), (.inl y0)] mi_G0 μ u Q := by
  obtain ⟨hm, ⟨hv, hv'⟩, hs, hk, hin, hk00, hn0, hl, hc0⟩ := id hb
  obtain ⟨⟨w1, w2⟩, ⟨g1, g2⟩, ⟨f1, f2⟩, -⟩ := id hm
  obtain ⟨a1, a2, a3, a4⟩ := id hin
  have h192 : mi_wr 192 = 192 := by decide
  apply me50_76
  rw [← hn, mx_join a3 (by omega)]
  refine ⟨by omega, ⟨by rw [mx_spot a3 (by omega)]; omega, by rw [ms_same, if_pos rfl]; omega⟩, ?_⟩
  have hi0 : gi μ v x0 y0 n 0 (mi_set μ 76 6 0) := by
    refine ⟨fr_ls (fr_lr _ _) (by decide) _ _, by rw [ms_same, if_pos rfl]; omega, fun k hk => ?_, fun i h1 h2 => ?_, fun a b hab he => ?_, ?_, fun i h1 h2 => by omega⟩
    · rw [ms_other _ (by decide)] at hk; exact absurd rfl hk
    · rw [ms_same, if_pos rfl] at h2; omega
    · rw [ms_other _ (by decide)] at he
      have := hl a b hab; omega
    · rw [ms_same, if_pos rfl, ms_other _ (by decide)]
      refine (sm2_z (fun a b h1 h2 h3 h4 => ?_)).symm
      have := hl a b ⟨h1, h2, h3, h4⟩
      rw [if_neg (by omega)]
  obtain ⟨j1, j2, j3, j4, j5⟩ := gi_j hb hi0 (by rw [ms_same, if_pos rfl]; exact Int.le_refl _) (cn_r (m := sc_m μ) (v := v) (x := x0) (y := y0)) (by rw [ms_other _ (by decide)]; exact hc0 x0 y0 cn_r)
  have hlab : gj (mi_set μ 76 6 0) v x0 y0 n 77 (192 * v + 16 * y0 + x0) = n := by rw [j4, if_pos rfl]
  have fin : ∀ i ρ, gi μ v x0 y0 n i ρ → i = ρ 76 6 → ρ 77 (192 * v + 16 * y0 + x0) = n → (0 ≤ v * 192 + n ∧ v * 192 + n < 384) ∧ (0 ≤ v ∧ v < 2) ∧ Q (.inl none) mi_G0 (mi_set (mi_set ρ 78 (v * 192 + n) (ρ 76 6)) 79 v (n + 1)) := fun i ρ hg he h0 => by
    subst he
    exact ⟨by omega, by omega, hq _ (gi_e hb hg h0)⟩
  refine qp_u (A := fun i ρ => mk50_76_25 X Q u v n i ρ) (fun i ρ => gi μ v x0 y0 n i ρ ∧ i ≤ ρ 76 6 ∧ ρ 77 (192 * v + 16 * y0 + x0) = n) (a := 0) (n := 192) (by omega) ?_ ?_ ⟨j2, by rw [j3, ms_same, if_pos rfl]; decide, hlab⟩
  · rintro ρ ⟨hg, h1, h2⟩
    have := hg.2.1
    apply mh50_76_25
    rw [h192, mi_wr_id (z := ρ 76 6) (by omega) (by omega), if_neg (by omega)]
    exact fin _ ρ hg (by omega) h2
  · rintro i ρ hi hi' ⟨hg, h1, h2⟩ k
    have := hg.2.1
    apply mh50_76_25
    rw [h192, mi_wr_id (z := i) (by omega) (by omega), mi_wr_id (z := ρ 76 6) (by omega) (by omega)]
    by_cases e : i < ρ 76 6
    · rw [if_pos e, if_pos hi']
      exact ⟨by omega, fun Q_ hQ => mc52_76 hb hg hi e rfl (fun σ hs1 hs2 hs3 => hQ σ (k σ ⟨hs1, hs2, hs3 _ h2⟩))⟩
    · rw [if_neg e]
      exact fin _ ρ hg (by omega) h2
end
