/-! TEXTS, by the reference -/
section
variable {X : mi_X} {Q : mi_R → mi_G → mi_M → Prop} {μ : mi_M}
theorem rr_go {B : Int → Int} {n : Int} (hB : byt (μ 90) = B) (hn : n ≤ 700) : ∀ (k : Nat) (p l : Int) (ρ : mi_M) (u : mi_U), fr_l [86, 91, 104] μ ρ → (∀ j, j ∉ RF → ρ 86 j = μ 86 j) → RR ρ → ρ 86 8 = n → 0 ≤ p → p ≤ n → ρ 86 9 = tS B n p → n - p < 5 * k → 7 * k ≤ u.1 → 49 * k ≤ u.2 → sc_ok (ρ 91) → (∀ (u' : mi_U) (g l' : Int) (ν : mi_M), fr_l [86, 91, 104] μ ν → (∀ j, j ∉ RF → ν 86 j = μ 86 j) → (((tl B n k p (ρ 91) l).1 = 0 ∧ g = 1 ∧ l' = (tl B n k p (ρ 91) l).2.1 ∧ ν 91 = (tl B n k p (ρ 91) l).2.2) ∨ ((tl B n k p (ρ 91) l).1 ≠ 0 ∧ g = 0 ∧ ν 86 12 = (tl B n k p (ρ 91) l).1)) → mk168_86_257 X Q u' g l' ν) → mk168_86_209 X Q u 1 l ρ
  | 0, p, l, ρ, u, hf, ho, hr, h8, h0, hp, h9, hk, hu, hu', hm, hq => by omega
  | k + 1, p, l, ρ, u, hf, ho, hr, h8, h0, hp, h9, hk, hu, hu', hm, hq => by
    obtain ⟨⟨r1, r2, r3⟩, r4, r5, r6⟩ := id hr
    have e90 : byt (ρ 90) = B := by rw [hf 90 (by decide)]; exact hB
    rw [e90, h8, h9] at r4 r5
    have tb := tS_b (B := B) (n := n) (p := p) hp
    have kb := kd_b (B := B) (n := n) (s := tS B n p)
    have w2 : mi_wr 2 = 2 := by decide
    have hz : tl B n (k + 1) p (ρ 91) l = (if n ≤ tS B n p then (0, l, ρ 91) else if (lnc B n (ρ 91) (tS B n p)).1 = 0 then tl B n k (lnc B n (ρ 91) (tS B n p)).2.1 (lnc B n (ρ 91) (tS B n p)).2.2 (l + 1) else ((lnc B n (ρ 91) (tS B n p)).1, l, ρ 91)) := rfl
    rw [hz] at hq
    apply mh168_86_209
    rw [if_neg w_10, if_neg w_10, r5, mi_wr_id (z := kd B n (tS B n p)) (by omega) (by omega), w2]
    by_cases c2 : kd B n (tS B n p) = 2
    · obtain ⟨q1, q2⟩ := kd_2.mp c2
      rw [if_pos c2]
      rw [if_neg (by omega)] at hq
      have el : lnc B n (ρ 91) (tS B n p) = ln B n (ρ 91) (tS B n (tS B n p + 1)) := by unfold lnc; rw [if_pos q2]
      rw [el] at hq
      have e10 : ρ 86 10 = tS B n p + 1 := by rw [r4]; unfold rE; rw [if_neg (by omega), if_neg (rn59 q2)]
      refine ⟨⟨by omega, by omega, by omega⟩, fun ρ0 h0' => ?_⟩
      obtain ⟨m1, m2, m3, m4, m5⟩ := RR_on (μ := ρ) (p := tS B n p + 1) (by omega) (by omega) (by omega) e10 r6 h0'
      rw [e90, h8] at m2
      have f0 : fr_l [86, 91, 104] μ ρ0 := fr_lt hf (fr_lm h0'.1 rfl)
      have o0 : ∀ j, j ∉ RF → ρ0 86 j = μ 86 j := fun j hj => by rw [h0'.2.1 j (RF_no hj).1 (RF_no hj).2.1 (RF_no hj).2.2.1]; exact ho j hj
      have e91 : ρ0 91 = ρ 91 := h0'.1 91 (by decide)
      obtain ⟨hw, hh, -⟩ := id hm
      refine ⟨⟨by omega, by omega⟩, ⟨m1, by rw [e91]; exact hw, by rw [e91]; exact hh⟩, fun v1 ρ1 h1 => ?_⟩
      have h1' : RLn ρ0 (ln B n (ρ 91) (tS B n (tS B n p + 1))) v1 ρ1 := by
        have := h1
        unfold mq167_86 at this
        rw [m4, e90, m3, h8, m2, e91] at this
        exact this
      obtain ⟨g1, g2, g3⟩ := h1'
      have f1 := fr_lt f0 g1
      have o1 : ∀ j, j ∉ RF → ρ1 86 j = μ 86 j := fun j hj => by rw [g2 j hj]; exact o0 j hj
      rcases g3 with ⟨d, rfl, d1, d2, d3⟩ | ⟨d, rfl, d1⟩
      · rw [if_pos d] at hq
        have ok := lnc_ok (B := B) (n := n) hm (s := tS B n p) (by omega) (by omega) (by rw [el]; exact d)
        rw [el] at ok
        rw [← d1] at hq
        rw [m4, e90, m3, h8] at d2
        exact rr_go hB hn k (ln B n (ρ 91) (tS B n (tS B n p + 1))).2.1 (l + 1) ρ1 _ f1 o1 d3 (by rw [g2 8 (by decide), m3, h8]) (by omega) (by omega) d2 (by omega) (by show 7 * k ≤ u.1 - 7; omega) (by show 49 * k ≤ u.2 - 49; omega) (by rw [d1]; exact ok.2) hq
      · rw [if_neg d] at hq
        apply mh168_86_209
        rw [if_pos w_00, if_pos w_00]
        exact hq _ _ _ _ f1 o1 (Or.inr ⟨d, rfl, d1⟩)
    · rw [if_neg c2]
      by_cases c0 : kd B n (tS B n p) = 0
      · rw [if_pos c0]
        rw [if_pos (kd_0.mp c0)] at hq
        exact hq _ _ _ _ hf ho (Or.inl ⟨rfl, rfl, rfl, rfl⟩)
      · rw [if_neg c0]
        have hlt : ¬ n ≤ tS B n p := fun h => c0 (kd_0.mpr h)
        have h59 : ¬ B (tS B n p) = 59 := fun h => c2 (kd_2.mpr ⟨by omega, h⟩)
        have el : lnc B n (ρ 91) (tS B n p) = (8 * tS B n p + 1, 0, ρ 91) := by unfold lnc; rw [if_neg h59]
        rw [if_neg hlt, el] at hq
        have hne : ¬ (8 * tS B n p + 1 = 0) := by omega
        rw [if_neg hne] at hq
        obtain ⟨b1, b2, b3⟩ := fb_is (μ := ρ) (k := 1) (p := ρ 86 9) r6
        refine hq _ _ _ _ (fr_lt hf (fr_lm b1 rfl)) (fun j hj => by rw [b2 j (RF_no hj).2.2.2.1]; exact ho j hj) (Or.inr ⟨hne, rfl, ?_⟩)
        rw [b3, h9]
theorem tl_b {B : Int → Int} {n : Int} : ∀ (k : Nat) (p : Int) (m : Int → Int) (l : Int), 0 ≤ p → p ≤ n → sc_ok m → (tl B n k p m l).1 = 0 → sc_ok (tl B n k p m l).2.2
  | 0, p, m, l, _, _, _, h => by
    have h' : (1 : Int) = 0 := h
    omega
  | k + 1, p, m, l, h0, hp, hm, h => by
    have tb := tS_b (B := B) (n := n) (p := p) hp
    have hz : tl B n (k + 1) p m l = (if n ≤ tS B n p then (0, l, m) else if (lnc B n m (tS B n p)).1 = 0 then tl B n k (lnc B n m (tS B n p)).2.1 (lnc B n m (tS B n p)).2.2 (l + 1) else ((lnc B n m (tS B n p)).1, l, m)) := rfl
    rw [hz] at h ⊢
    by_cases c : n ≤ tS B n p
    · rw [if_pos c]; exact hm
    · rw [if_neg c] at h ⊢
      by_cases d : (lnc B n m (tS B n p)).1 = 0
      · rw [if_pos d] at h ⊢
        have ok := lnc_ok (B := B) (n := n) hm (by omega) (by omega) d
        exact tl_b k _ _ _ (by omega) ok.1.2 ok.2 h
      · rw [if_neg d] at h; exact absurd h d
theorem txs_ok {B : Int → Int} {n a b : Int} (hn : 0 ≤ n) (ha : 1 ≤ a ∧ a ≤ 50) (hb : 1 ≤ b ∧ b ≤ 999) (h : (txs B n a b).1 = 0) : sc_ok (txs B n a b).2.2 := by
  unfold txs at h ⊢
  by_cases d : (lsz B n (tm 0 0 a b) 0).1 = 0
  · rw [if_pos d] at h ⊢
    obtain ⟨⟨p1, p2⟩, w, h', hw', hh', hsz⟩ := lsz_ok (B := B) (n := n) (p := 0) (m := tm 0 0 a b) (by decide) hn d
    refine tl_b 141 _ _ _ p1 p2 ?_ h
    rw [hsz, szf_tm]; exact ok_tm hw' hh' ha hb
  · rw [if_neg d] at h; exact absurd h d
/-- its end -/
theorem rx_end {u : mi_U} {g l : Int} {ρ : mi_M} (hg : g = 0 ∨ g = 1) (hp : mp148_86 ρ) (hq0 : g = 0 → Q (.inl (some (.inl (-2 - ρ 86 12)))) mi_G0 ρ) (hq1 : g = 1 → ∀ ν, fr_l [86, 87, 88] ρ ν → (∀ j, j ≠ 3 → ν 86 j = ρ 86 j) → kpr ρ ν → (∀ j, ν 87 j = if 0 ≤ j ∧ j < 394 then ρ 91 j else ρ 87 j) → Q (.inl (some (.inl l))) mi_G0 ν) : mk168_86_257 X Q u g l ρ := by
  apply mh168_86_257
  rcases hg with rfl | rfl
  · rw [if_pos w_00]; exact hq0 rfl
  · rw [if_neg w_10]
    refine ⟨hp, fun ρ0 ⟨h1, h2, h3⟩ => ?_⟩
    refine qp_u (A := fun k ν => mk168_86_276 X Q u l k ν) (fun k ν => ν = mi_row ρ0 87 (fl (ρ 91) (ρ 87) 0 k)) (a := 0) (n := 394) (by decide) ?_ ?_ ?_
    · rintro ν rfl
      apply mh168_86_276
      rw [if_neg (by decide)]
      refine hq1 rfl _ (fun q hq => ?_) (fun j hj => ?_) (kpr_fr h3 (by rw [mr_other _ (by decide)]) (mr_other _ (by decide) _)) (fun j => by rw [mr_same]; rfl)
      · simp only [List.mem_cons, List.not_mem_nil, or_false, not_or] at hq
        rw [mr_other _ hq.2.1]
        exact h1 q (by simp only [List.mem_cons, List.not_mem_nil, or_false, not_or]; exact ⟨hq.1, hq.2.2⟩)
      · rw [mr_other _ (by decide)]; exact h2 j hj
    · rintro k ν g1 g2 rfl t
      apply mh168_86_276
      rw [mi_wr_id (by omega) (by omega), mi_wr_id (by omega) (by omega), if_pos (by omega)]
      refine ⟨⟨g1, g2⟩, ⟨g1, g2⟩, t _ (fl_s g1 ?_)⟩
      rw [mr_other _ (by decide), h1 91 (by decide)]
    · have := fl_0 ρ0 87 (ρ 91) 0
      rw [h1 87 (by decide)] at this
      exact this.symm
def mp168_86 (a0 : Int) (μ : mi_M) : Prop := sc_ok (μ 87) ∧ mp148_86 μ ∧ (0 ≤ μ 86 7 ∧ μ 86 7 ≤ 700) ∧ mx_R a0
abbrev RT : List Int := [0, 3, 7, 8, 9, 10, 11, 12, 14]
def mq168_86 (a0 : Int) (μ : mi_M) (r : Int) (ν : mi_M) : Prop := (¬ (0 ≤ a0 ∧ a0 ≤ μ 86 7) → r = -1 ∧ rno μ ν) ∧ (0 ≤ a0 ∧ a0 ≤ μ 86 7 → (∀ j, j ∉ RT → ν 86 j = μ 86 j) ∧ ν 86 0 = 0 ∧ ν 86 7 = 0 ∧ ((txs (byt (μ 90)) a0 (μ 87 8) (μ 87 9)).1 ≠ 0 → r = -2 - (txs (byt (μ 90)) a0 (μ 87 8) (μ 87 9)).1 ∧ fr_l [86, 91, 104] μ ν ∧ ν 86 3 = μ 86 3) ∧ ((txs (byt (μ 90)) a0 (μ 87 8) (μ 87 9)).1 = 0 → r = (txs (byt (μ 90)) a0 (μ 87 8) (μ 87 9)).2.1 ∧ fr_l [86, 87, 88, 91, 104] μ ν ∧ kpr μ ν ∧ ∀ j, ν 87 j = if 0 ≤ j ∧ j < 394 then (txs (byt (μ 90)) a0 (μ 87 8) (μ 87 9)).2.2 j else μ 87 j))
end
