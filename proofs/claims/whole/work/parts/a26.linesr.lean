/-! LINES of a text, by the reference -/
def RP (μ : mi_M) : Prop := (0 ≤ μ 86 10 ∧ μ 86 10 ≤ μ 86 8 ∧ μ 86 8 ≤ 700) ∧ μ 86 12 = 0
section
variable {X : mi_X} {Q : mi_R → mi_G → mi_M → Prop} {u : mi_U} {μ : mi_M}
theorem RF_no {j : Int} (h : j ∉ RF) : j ≠ 9 ∧ j ≠ 10 ∧ j ≠ 11 ∧ j ≠ 12 ∧ j ≠ 14 := by
  simp only [List.mem_cons, List.not_mem_nil, or_false, not_or] at h; exact h
theorem RP_158 (h : RP μ) : mp158_86 μ := h.1
/-- reading on, then a number -/
theorem rp_on {ν : mi_M} (h : RP μ) (hν : mq158_86 μ ν) : fr_l [86] μ ν ∧ (∀ j, j ∉ RF → ν 86 j = μ 86 j) ∧ RR ν ∧ ν 86 9 = tS (byt (μ 90)) (μ 86 8) (μ 86 10) ∧ ν 86 8 = μ 86 8 ∧ ν 90 = μ 90 := by
  obtain ⟨m1, m2, m3, m4, -⟩ := RR_on (p := μ 86 10) h.1.1 h.1.2.1 h.1.2.2 rfl h.2 hν
  exact ⟨hν.1, fun j hj => hν.2.1 j (RF_no hj).1 (RF_no hj).2.1 (RF_no hj).2.2.1, m1, m2, m3, m4⟩
def mp163_86 (a0 a1 a2 : Int) (μ : mi_M) : Prop := RP μ ∧ (0 ≤ a0 ∧ a0 < 394) ∧ mx_R a1 ∧ mx_R a2
def mq163_86 (a0 a1 a2 : Int) (μ : mi_M) (r : Int) (ν : mi_M) : Prop := RLn μ (ldl (byt (μ 90)) (μ 86 8) (μ 91) (μ 86 10) a0 a1 a2) r ν ∧ (r = 1 → ν 86 14 = nN (byt (μ 90)) (μ 86 8) (tS (byt (μ 90)) (μ 86 8) (μ 86 10)))
theorem vlf_91 {ν : mi_M} {k v : Int} : mi_set ν 91 k v 91 = vlf k v (ν 91) := by
  funext j; rw [ms_same]; rfl
theorem RR_91 {ν : mi_M} {k v : Int} (h : RR ν) : RR (mi_set ν 91 k v) := by
  unfold RR; rw [ms_other _ (by decide), ms_other _ (by decide)]; exact h
theorem mc163_86 {a0 a1 a2 : Int} (hp : mp163_86 a0 a1 a2 μ) (hq : ∀ r ν, mq163_86 a0 a1 a2 μ r ν → Q (.inl (some (.inl r))) mi_G0 ν) : mi_cok X 163 [(.inr (.inl (some 86))), (.inl a0), (.inl a1), (.inl a2)] mi_G0 μ u Q := by
  obtain ⟨hr, hb, r1, r2⟩ := hp
  apply me163_86
  refine ⟨RP_158 hr, fun μ0 h0 => ?_⟩
  obtain ⟨f1, f2, f3, f4, f5, f6⟩ := rp_on hr h0
  refine ⟨⟨f3, r1, r2⟩, fun v1 μ1 ⟨g1, g2, g3⟩ => ?_⟩
  rw [f6, f5, f4] at g3
  have fr1 : fr_l [86, 91, 104] μ μ1 := fr_lt (fr_lm f1 rfl) (fr_lm g1 rfl)
  have e86 : ∀ k v, mi_set μ1 91 k v 86 = μ1 86 := fun k v => ms_other _ (by decide) _ _
  rcases g3 with ⟨c, rfl, g4, g5, g6⟩ | ⟨c, rfl, g4⟩
  · rw [if_neg w_10]
    refine ⟨hb, Or.inr rfl, hq _ _ ⟨⟨fr_ls fr1 (by decide) _ _, fun j hj => by rw [e86, g2 j hj, f2 j hj], Or.inl ⟨c, rfl, ?_, by rw [e86]; exact g5, RR_91 g6⟩⟩, fun _ => by rw [e86]; exact g4⟩⟩
    rw [vlf_91, g4, g1 91 (by decide), f1 91 (by decide)]; rfl
  · rw [if_pos w_00]
    exact ⟨hb, hb, Or.inl rfl, hq _ _ ⟨⟨fr_ls fr1 (by decide) _ _, fun j hj => by rw [e86, g2 j hj, f2 j hj], Or.inr ⟨c, rfl, by rw [e86]; exact g4⟩⟩, fun h => by omega⟩⟩
def mp166_86 (μ : mi_M) : Prop := RP μ
def mq166_86 (μ : mi_M) (r : Int) (ν : mi_M) : Prop := RLn μ (lpn (byt (μ 90)) (μ 86 8) (μ 91) (μ 86 10)) r ν
theorem mc166_86 (hp : mp166_86 μ) (hq : ∀ r ν, mq166_86 μ r ν → Q (.inl (some (.inl r))) mi_G0 ν) : mi_cok X 166 [(.inr (.inl (some 86)))] mi_G0 μ u Q := by
  have nb' : ∀ s, -1 ≤ nN (byt (μ 90)) (μ 86 8) s ∧ nN (byt (μ 90)) (μ 86 8) s ≤ 999999 := fun s => nmb_b (B := byt (μ 90)) byt_B
  apply me166_86
  refine ⟨RP_158 hp, fun μ0 h0 => ?_⟩
  obtain ⟨f1, f2, f3, f4, f5, f6⟩ := rp_on hp h0
  refine ⟨⟨f3, by unfold mx_R; omega, by unfold mx_R; omega⟩, fun v1 μ1 ⟨g1, g2, g3⟩ => ?_⟩
  rw [f6, f5, f4] at g3
  have fr1 : fr_l [86, 91, 104] μ μ1 := fr_lt (fr_lm f1 rfl) (fr_lm g1 rfl)
  have o1 : ∀ j, j ∉ RF → μ1 86 j = μ 86 j := fun j hj => by rw [g2 j hj, f2 j hj]
  unfold mq166_86 lpn at hq
  rcases g3 with ⟨c, rfl, g4, g5, g6⟩ | ⟨c, rfl, g4⟩
  · rw [if_neg w_10]
    have := nb' (tS (byt (μ 90)) (μ 86 8) (μ 86 10))
    refine ⟨⟨g6, by rw [g4]; unfold mx_R; omega, by unfold mx_R; omega⟩, fun v2 μ2 ⟨k1, k2, k3⟩ => ?_⟩
    rw [g5, g4, show μ1 90 = μ 90 from fr1 90 (by decide), o1 8 (by decide)] at k3
    rw [if_pos c] at hq
    have fr2 : fr_l [86, 91, 104] μ μ2 := fr_lt fr1 (fr_lm k1 rfl)
    have e86 : mi_set (mi_set μ2 91 4 (μ1 86 14)) 91 5 (μ2 86 14) 86 = μ2 86 := by rw [ms_other _ (by decide), ms_other _ (by decide)]
    rcases k3 with ⟨d, rfl, k4, k5, k6⟩ | ⟨d, rfl, k4⟩
    · rw [if_neg w_10]
      refine hq _ _ ⟨fr_ls (fr_ls fr2 (by decide) _ _) (by decide) _ _, fun j hj => by rw [e86, k2 j hj, o1 j hj], Or.inl ⟨d, rfl, ?_, by rw [e86]; exact k5, RR_91 (RR_91 k6)⟩⟩
      rw [vlf_91, vlf_91, k4, g4, k1 91 (by decide), g1 91 (by decide), f1 91 (by decide)]
    · rw [if_pos w_00]
      exact hq _ _ ⟨fr2, fun j hj => by rw [k2 j hj, o1 j hj], Or.inr ⟨d, rfl, k4⟩⟩
  · rw [if_pos w_00]
    rw [if_neg c] at hq
    exact hq _ _ ⟨fr1, o1, Or.inr ⟨c, rfl, g4⟩⟩
def mp165_86 (a0 : Int) (μ : mi_M) : Prop := RP μ ∧ (0 ≤ a0 ∧ a0 ≤ 1) ∧ (3 ≤ μ 91 0 ∧ μ 91 0 ≤ 16) ∧ (3 ≤ μ 91 1 ∧ μ 91 1 ≤ 12)
def mq165_86 (a0 : Int) (μ : mi_M) (r : Int) (ν : mi_M) : Prop := RLn μ (lrw (byt (μ 90)) (μ 86 8) (μ 91) a0 (μ 86 10)) r ν
theorem nF_0 {B : Int → Int} {n s lo hi : Int} (hs : 0 ≤ s) (h : nF B n s lo hi = 0) : nN B n s ≠ -1 ∧ lo ≤ nN B n s ∧ nN B n s ≤ hi := by
  unfold nF at h
  split at h
  · omega
  · split at h
    · omega
    · omega
theorem mc165_86 {a0 : Int} (hp : mp165_86 a0 μ) (hq : ∀ r ν, mq165_86 a0 μ r ν → Q (.inl (some (.inl r))) mi_G0 ν) : mi_cok X 165 [(.inr (.inl (some 86))), (.inl a0)] mi_G0 μ u Q := by
  obtain ⟨hr, ⟨v1, v2⟩, ⟨w1, w2⟩, ⟨y1, y2⟩⟩ := hp
  have w1' : mi_wr 1 = 1 := by decide
  have hS := tS_b (B := byt (μ 90)) (n := μ 86 8) (p := μ 86 10) hr.1.2.1
  have hr1 := hr.1
  apply me165_86
  refine ⟨RP_158 hr, fun μ0 h0 => ?_⟩
  obtain ⟨f1, f2, f3, f4, f5, f6⟩ := rp_on hr h0
  have e91 : μ0 91 = μ 91 := f1 91 (by decide)
  rw [e91]
  refine ⟨⟨f3, by unfold mx_R; omega, by unfold mx_R; omega⟩, fun r1 μ1 ⟨g1, g2, g3⟩ => ?_⟩
  rw [f6, f5, f4] at g3
  have fr1 : fr_l [86, 91, 104] μ μ1 := fr_lt (fr_lm f1 rfl) (fr_lm g1 rfl)
  have o1 : ∀ j, j ∉ RF → μ1 86 j = μ 86 j := fun j hj => by rw [g2 j hj, f2 j hj]
  unfold mq165_86 lrw at hq
  rcases g3 with ⟨c, rfl, g4, g5, g6⟩ | ⟨c, rfl, g4⟩
  · rw [if_neg w_10]
    rw [if_pos c] at hq
    have hy := nF_0 (by omega) c
    have e90 : μ1 90 = μ 90 := fr1 90 (by decide)
    have e8 : μ1 86 8 = μ 86 8 := o1 8 (by decide)
    have e91' : μ1 91 = μ 91 := (g1 91 (by decide)).trans e91
    obtain ⟨⟨i1, i2, i3⟩, i4, i5, i6⟩ := id g6
    rw [e8] at i2 i3
    rw [e90, e8] at i4 i5
    generalize hS2 : tS (byt (μ 90)) (μ 86 8) (tE (byt (μ 90)) (μ 86 8) (tS (byt (μ 90)) (μ 86 8) (μ 86 10))) = S2 at hq g5
    rw [← g4] at hq hy
    rw [g5] at i1 i2 i4 i5
    have kb := kd_b (B := byt (μ 90)) (n := μ 86 8) (s := S2)
    have rb := rE_b (B := byt (μ 90)) i2
    have bad : ∀ k t, 0 < k → k ≤ 3 → 0 ≤ t → ∀ ρ : mi_M, fr_l [86, 91, 104] μ ρ → ρ 86 = μ1 86 → fr_l [86, 91, 104] μ (mm159_86 k t ρ) ∧ (∀ j, j ∉ RF → mm159_86 k t ρ 86 j = μ 86 j) ∧ mm159_86 k t ρ 86 12 = 8 * t + k := fun k t k1 k2 t1 ρ hf e86 => by
      obtain ⟨b1, b2, b3⟩ := fb_is (μ := ρ) (k := k) (p := t) (by rw [e86]; exact i6)
      exact ⟨fr_lt hf (fr_lm b1 rfl), fun j hj => by rw [b2 j (RF_no hj).2.2.2.1, e86]; exact o1 j hj, b3⟩
    rw [e91', g5, i4, i5, mi_wr_id (z := kd (byt (μ 90)) (μ 86 8) S2) (by omega) (by omega), w1', mi_wr_id (z := rE (byt (μ 90)) (μ 86 8) S2 - S2) (by omega) (by omega), mi_wr_id (z := μ 91 0) (by omega) (by omega)]
    by_cases d : tE (byt (μ 90)) (μ 86 8) S2 = S2
    · rw [if_pos d] at hq
      have hk : ¬ kd (byt (μ 90)) (μ 86 8) S2 = 1 := fun h => by
        have := kd_1.mp h
        have := tE_yes this.1 this.2
        omega
      rw [if_neg hk]
      obtain ⟨b1, b2, b3⟩ := bad 1 S2 (by decide) (by decide) i1 μ1 fr1 rfl
      exact ⟨Or.inl rfl, hq _ _ ⟨b1, b2, Or.inr ⟨by show 8 * S2 + 1 ≠ 0; omega, rfl, b3⟩⟩⟩
    · rw [if_neg d] at hq
      have hnr : S2 < μ 86 8 ∧ rnb (byt (μ 90) S2) = true := by
        refine ⟨?_, ?_⟩
        · by_cases z : S2 < μ 86 8
          · exact z
          · exact absurd (tE_nn (by omega)) d
        · by_cases z : rnb (byt (μ 90) S2) = true
          · exact z
          · exact absurd (tE_no z) d
      have eE : rE (byt (μ 90)) (μ 86 8) S2 = tE (byt (μ 90)) (μ 86 8) S2 := rE_run hnr.1 hnr.2
      rw [if_pos (kd_1.mpr hnr), eE]
      by_cases f : tE (byt (μ 90)) (μ 86 8) S2 - S2 = μ 91 0
      · rw [if_pos f] at hq ⊢
        refine qp_u (A := fun x ρ => mk165_86_75 X Q u a0 (μ1 86 14) x ρ) (fun x ρ => fr_l [86, 91, 104] μ ρ ∧ ρ 86 = μ1 86 ∧ ρ 91 0 = μ 91 0 ∧ hx (byt (μ 90)) a0 (μ1 86 14) S2 (μ 91 0 - x).toNat x (ρ 91) = hx (byt (μ 90)) a0 (μ1 86 14) S2 (μ 91 0).toNat 0 (μ 91)) (a := 0) (n := μ 91 0) (by omega) ?_ ?_ ⟨fr1, rfl, by rw [e91'], by rw [e91', Int.sub_zero]⟩
        · rintro ρ ⟨k1, k2, k3, k4⟩
          rw [show (μ 91 0 - μ 91 0).toNat = 0 by omega] at k4
          have k4' : ((0 : Int), ρ 91) = hx (byt (μ 90)) a0 (μ1 86 14) S2 (μ 91 0).toNat 0 (μ 91) := k4
          have hRP : RP ρ := by
            unfold RP; rw [k2, e8, i4, eE]
            exact ⟨⟨by omega, by omega, i3⟩, i6⟩
          apply mh165_86_75
          rw [k3, if_neg (Int.lt_irrefl _)]
          refine ⟨RP_158 hRP, fun ν hν => hq _ _ ?_⟩
          obtain ⟨n1, n2, n3, n4, n5, n6⟩ := rp_on hRP hν
          refine ⟨fr_lt k1 (fr_lm n1 rfl), fun j hj => by rw [n2 j hj, k2]; exact o1 j hj, Or.inl ⟨by rw [← k4'], rfl, ?_, ?_, n3⟩⟩
          · rw [n1 91 (by decide), ← k4']
          · rw [n4, k1 90 (by decide), k2, e8, i4, eE]
        · rintro x ρ x1 x2 ⟨k1, k2, k3, k4⟩ t
          have r90 : ρ 90 = μ 90 := k1 90 (by decide)
          have bb := byt_b (g := μ 90) (j := S2 + x)
          have hb := hexv_b (c := byt (μ 90) (S2 + x))
          rw [show (μ 91 0 - x).toNat = (μ 91 0 - (x + 1)).toNat + 1 by omega] at k4
          have k4' : (if hexv (byt (μ 90) (S2 + x)) = -1 then (8 * (S2 + x) + 3, ρ 91) else hx (byt (μ 90)) a0 (μ1 86 14) S2 (μ 91 0 - (x + 1)).toNat (x + 1) (vlf (10 + (192 * a0 + 16 * μ1 86 14 + x)) (hexv (byt (μ 90) (S2 + x))) (ρ 91))) = hx (byt (μ 90)) a0 (μ1 86 14) S2 (μ 91 0).toNat 0 (μ 91) := k4
          obtain ⟨p1, p2⟩ := v156_in (μ := ρ) (q := S2 + x) (by omega) (by rw [k2, e8]; have := tE_b (B := byt (μ 90)) i2; omega) (by rw [k2, e8]; exact i3)
          apply mh165_86_75
          rw [k3, show ρ 86 9 = S2 by rw [k2]; exact g5, mi_wr_id (z := x) (by omega) (by omega), mi_wr_id (z := μ 91 0) (by omega) (by omega), if_pos x2, p2, r90, hx_w (by omega), mi_wr_id (z := hexv (byt (μ 90) (S2 + x))) (by omega) (by omega), mx_cel]
          refine ⟨p1, ?_⟩
          by_cases z : hexv (byt (μ 90) (S2 + x)) = -1
          · rw [if_pos (by omega)]
            rw [if_pos z] at k4'
            obtain ⟨b1, b2, b3⟩ := bad 3 (S2 + x) (by decide) (by decide) (by omega) ρ k1 k2
            refine ⟨Or.inl rfl, hq _ _ ⟨b1, b2, Or.inr ⟨?_, rfl, ?_⟩⟩⟩
            · rw [← k4']; show 8 * (S2 + x) + 3 ≠ 0; omega
            · rw [← k4']; exact b3
          · rw [if_neg (by omega)]
            rw [if_neg z] at k4'
            refine ⟨by omega, t _ ⟨fr_ls k1 (by decide) _ _, by rw [ms_other _ (by decide)]; exact k2, by rw [ms_same, if_neg (by omega)]; exact k3, ?_⟩⟩
            rw [vlf_91]; exact k4'
      · rw [if_neg f] at hq ⊢
        obtain ⟨b1, b2, b3⟩ := bad 3 S2 (by decide) (by decide) i1 μ1 fr1 rfl
        exact ⟨Or.inl rfl, hq _ _ ⟨b1, b2, Or.inr ⟨by show 8 * S2 + 3 ≠ 0; omega, rfl, b3⟩⟩⟩
  · rw [if_pos w_00]
    rw [if_neg c] at hq
    exact hq _ _ ⟨fr1, o1, Or.inr ⟨c, rfl, g4⟩⟩
end
