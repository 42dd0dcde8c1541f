/-! THE SIZE, by the class -/
def lsz (B : Int → Int) (n : Int) (m : Int → Int) (p : Int) : LR :=
  if isw B (tS B n p) (tE B n (tS B n p)) wd1020 = true then
    (if nF B n (tS B n (tE B n (tS B n p))) 3 16 = 0 then
      (nF B n (tS B n (tE B n (tS B n (tE B n (tS B n p))))) 3 12, tE B n (tS B n (tE B n (tS B n (tE B n (tS B n p))))), szf (nN B n (tS B n (tE B n (tS B n p)))) (nN B n (tS B n (tE B n (tS B n (tE B n (tS B n p)))))) m)
    else (nF B n (tS B n (tE B n (tS B n p))) 3 16, 0, m))
  else (8 * tS B n p + 1, 0, m)
section
variable {X : mi_X} {Q : mi_R → mi_G → mi_M → Prop} {u : mi_U} {μ : mi_M}
theorem bl_14 {a b : Int} {ν : mi_M} (h : mq85_14 a b μ ν) : fr_l [14, 16] μ ν ∧ sk ν 14 = szf a b (sk μ 14) := by
  unfold mq85_14 at h
  refine ⟨fun q hq => ?_, ?_⟩
  · simp only [List.mem_cons, List.not_mem_nil, or_false, not_or] at hq
    rw [h, mr_other _ hq.2, ms_other _ hq.1, ms_other _ hq.1]
  · rw [h]
    funext j
    unfold sk szf
    rw [mr_other _ (show (14 : Nat) ≠ 16 by decide), mr_other _ (show 14 + 1 ≠ 16 by decide), show mi_row (mi_set (mi_set μ 14 0 a) 14 1 b) 16 (fl (fun _ => 0) (μ 16) 0 384) (14 + 2) = fl (fun _ => 0) (μ 16) 0 384 from mr_same _ _ _, ms_same, ms_same, ms_other _ (show 14 + 1 ≠ 14 by decide), ms_other _ (show 14 + 1 ≠ 14 by decide)]
    dsimp only
    by_cases c1 : j < 2
    · rw [if_pos c1]
      by_cases c2 : j = 0
      · rw [if_pos c2, if_neg (by omega), if_pos c2]
      · by_cases c3 : j = 1
        · rw [if_pos c3, if_neg c2, if_pos c3]
        · rw [if_neg c3, if_neg c2, if_neg c2, if_neg c3, if_neg (by omega), if_pos c1]
    · rw [if_neg c1, if_neg (show ¬ j = 0 by omega), if_neg (show ¬ j = 1 by omega), if_neg c1]
      by_cases c2 : j < 10
      · rw [if_pos c2, if_neg (by omega), if_pos c2]
      · rw [if_neg c2, if_neg c2]
        by_cases c3 : j < 394
        · rw [if_pos (by omega), fl_in (by omega) (by omega)]
        · rw [if_neg (by omega), fl_out (by omega)]
def mp65_13 (μ : mi_M) : Prop := RIw μ ∧ μ 13 5 = 0
def mq65_13 (μ ν : mi_M) : Prop := CLn μ (lsz (byt (μ 12)) (μ 13 2) (sk μ 14) (μ 13 4)) ν
theorem mc65_13 (hp : mp65_13 μ) (hq : ∀ ν, mq65_13 μ ν → Q (.inl none) mi_G0 ν) : mi_cok X 65 [(.inr (.inl (some 13)))] mi_G0 μ u Q := by
  obtain ⟨hr, h5⟩ := hp
  obtain ⟨⟨a2, a3, a4⟩, -⟩ := id hr
  unfold mq65_13 lsz at hq
  apply me65_13
  refine ⟨⟨by omega, a3, a4⟩, fun μ0 h0 => ?_⟩
  obtain ⟨i1, i2, i3, i4⟩ := RI_onw hr h0
  obtain ⟨s1, s2, s3, s4⟩ := h0
  have i5 : μ0 13 5 = 0 := i2.trans h5
  obtain ⟨⟨j1, j2, j3, j4⟩, -⟩ := id i1
  have es : sk μ0 14 = sk μ 14 := sk_fr s1 (by decide) (by decide) (by decide)
  refine ⟨⟨j1, j2, by omega⟩, ?_⟩
  generalize hT : tS (byt (μ 12)) (μ 13 2) (μ 13 4) = T at hq s3 s4
  have wv : isw (byt (μ0 12)) (μ0 13 3) (μ0 13 4) wd1020 = isw (byt (μ 12)) T (tE (byt (μ 12)) (μ 13 2) T) wd1020 := by rw [i4, s3, s4, isw_c (by decide)]
  have R3 : mx_R 3 := by unfold mx_R; omega
  have R16 : mx_R 16 := by unfold mx_R; omega
  have R12 : mx_R 12 := by unfold mx_R; omega
  unfold mv73_13_1020; rw [wv]
  by_cases c : isw (byt (μ 12)) T (tE (byt (μ 12)) (μ 13 2) T) wd1020 = true
  · rw [if_pos c, if_neg w_10]; rw [if_pos c] at hq
    have ru := isw_run (by decide) c
    have e4 : μ0 13 4 = tE (byt (μ 12)) (μ 13 2) T := by rw [s4, cE_run ru.1 ru.2]
    refine ⟨⟨i1, R3, R16⟩, fun v1 μ1 ⟨q1, q2, q3, _, q5⟩ => ?_⟩
    obtain ⟨p1, p2, p3⟩ := q5 i5
    rw [i4, i3, e4] at p1 p2
    refine ⟨⟨q3, R3, R12⟩, fun v2 μ2 ⟨g1, g2, g3, g4, g5⟩ μ3 h3 => hq _ ?_⟩
    obtain ⟨f1, f2⟩ := bl_14 h3
    have e13 : μ3 13 = μ2 13 := f1 13 (by decide)
    have hfr : fr_l [13, 14, 15, 16] μ μ3 := fr_lt (fr_lt (fr_lt (fr_lm s1 rfl) (fr_lm q1 rfl)) (fr_lm g1 rfl)) (fr_lm f1 rfl)
    have es3 : sk μ3 14 = szf v1 v2 (sk μ 14) := by rw [f2, sk_fr g1 (by decide) (by decide) (by decide), sk_fr q1 (by decide) (by decide) (by decide), es]
    by_cases d : nF (byt (μ 12)) (μ 13 2) (tS (byt (μ 12)) (μ 13 2) (tE (byt (μ 12)) (μ 13 2) T)) 3 16 = 0
    · rw [if_pos d]
      have h1 : μ1 13 5 = 0 := p1.trans d
      obtain ⟨t1, t2⟩ := p2 h1
      obtain ⟨k1, k2, k3⟩ := g5 h1
      rw [q1 12 (by decide), i4, q2, i3, t2] at k1 k2
      refine ⟨hfr, by rw [e13, g2, q2, i3], RI_fr e13 g3, by rw [e13]; exact k1, fun h => ?_⟩
      obtain ⟨l1, l2⟩ := k2 (k1.trans h)
      exact ⟨by rw [e13]; exact l2, by rw [es3, t1, l1]⟩
    · rw [if_neg d]
      have h1 : μ1 13 5 ≠ 0 := fun h => d (p1.symm.trans h)
      obtain ⟨k1, k2⟩ := g4 h1
      exact ⟨hfr, by rw [e13, g2, q2, i3], RI_fr e13 g3, by rw [e13, k2]; exact p1, fun h => absurd h d⟩
  · rw [if_neg c, if_pos w_00]; rw [if_neg c] at hq
    obtain ⟨f1, f2, f3⟩ := fa_is (μ := μ0) (k := 1) (p := μ0 13 3) i5
    have hR := RI_fa (μ := μ0) (k := 1) (p := μ0 13 3) i1 i5 j1 (by omega) (by decide) (by decide)
    have hz : mm74_13 1 (μ0 13 3) μ0 13 5 ≠ 0 := by rw [f3]; omega
    refine ⟨⟨hR, R3, R16⟩, fun v4 μ4 ⟨q1, q2, q3, q4, _⟩ => ?_⟩
    obtain ⟨-, rfl⟩ := q4 hz
    refine ⟨⟨hR, R3, R12⟩, fun v5 μ5 ⟨g1, g2, g3, g4, _⟩ μ6 h6 => hq _ ?_⟩
    obtain ⟨-, rfl⟩ := g4 hz
    obtain ⟨b1, b2⟩ := bl_14 h6
    have e13 := b1 13 (by decide)
    refine ⟨fr_lt (fr_lt (fr_lm s1 rfl) (fr_lm f1 rfl)) (fr_lm b1 rfl), by rw [e13, f2 2 (by decide), i3], RI_fr e13 hR, by rw [e13, f3, s3], fun h => ?_⟩
    have h' : 8 * T + 1 = 0 := h
    omega
end
