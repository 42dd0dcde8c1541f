/-! LINES of a text, by both -/
abbrev LR : Type := Int × Int × (Int → Int)
def ldl (B : Int → Int) (n : Int) (m : Int → Int) (p k lo hi : Int) : LR := (nF B n (tS B n p) lo hi, tE B n (tS B n p), vlf k (nN B n (tS B n p)) m)
def lpn (B : Int → Int) (n : Int) (m : Int → Int) (p : Int) : LR := if nF B n (tS B n p) 0 60 = 0 then (nF B n (tS B n (tE B n (tS B n p))) (nN B n (tS B n p)) 60, tE B n (tS B n (tE B n (tS B n p))), vlf 5 (nN B n (tS B n (tE B n (tS B n p)))) (vlf 4 (nN B n (tS B n p)) m)) else (nF B n (tS B n p) 0 60, 0, m)
def hexv (c : Int) : Int := if 48 ≤ c ∧ c ≤ 57 then c - 48 else if 97 ≤ c ∧ c ≤ 102 then c - 87 else -1
def hx (B : Int → Int) (v y s : Int) : Nat → Int → (Int → Int) → Int × (Int → Int)
  | 0, _, m => (0, m)
  | k + 1, x, m => if hexv (B (s + x)) = -1 then (8 * (s + x) + 3, m) else hx B v y s k (x + 1) (vlf (10 + (192 * v + 16 * y + x)) (hexv (B (s + x))) m)
def lrw (B : Int → Int) (n : Int) (m : Int → Int) (v p : Int) : LR :=
  if nF B n (tS B n p) 0 (m 1 - 1) = 0 then
    (if tE B n (tS B n (tE B n (tS B n p))) = tS B n (tE B n (tS B n p)) then (8 * tS B n (tE B n (tS B n p)) + 1, 0, m)
    else if tE B n (tS B n (tE B n (tS B n p))) - tS B n (tE B n (tS B n p)) = m 0 then ((hx B v (nN B n (tS B n p)) (tS B n (tE B n (tS B n p))) (m 0).toNat 0 m).1, tE B n (tS B n (tE B n (tS B n p))), (hx B v (nN B n (tS B n p)) (tS B n (tE B n (tS B n p))) (m 0).toNat 0 m).2)
    else (8 * tS B n (tE B n (tS B n p)) + 3, 0, m))
  else (nF B n (tS B n p) 0 (m 1 - 1), 0, m)
/-- what the class has after a line, what the reference -/
def CLn (μ : mi_M) (res : LR) (ν : mi_M) : Prop := fr_l [13, 14, 15, 16] μ ν ∧ ν 13 2 = μ 13 2 ∧ RI ν ∧ ν 13 5 = res.1 ∧ (res.1 = 0 → ν 13 4 = res.2.1 ∧ sk ν 14 = res.2.2)
def RLn (μ : mi_M) (res : LR) (r : Int) (ν : mi_M) : Prop := fr_l [86, 91, 104] μ ν ∧ (∀ j, j ∉ RF → ν 86 j = μ 86 j) ∧ ((res.1 = 0 ∧ r = 1 ∧ ν 91 = res.2.2 ∧ ν 86 9 = tS (byt (μ 90)) (μ 86 8) res.2.1 ∧ RR ν) ∨ (res.1 ≠ 0 ∧ r = 0 ∧ ν 86 12 = res.1))
section
variable {X : mi_X} {Q : mi_R → mi_G → mi_M → Prop} {u : mi_U} {μ : mi_M}
theorem sk_15 {ν : mi_M} {k v : Int} (h : 0 ≤ k) (h' : k < 8) : sk (mi_set ν 15 k v) 14 = vlf (2 + k) v (sk ν 14) := by
  funext j
  unfold vlf sk
  rw [ms_other _ (show (14 : Nat) ≠ 15 by decide), ms_other _ (show 14 + 2 ≠ 15 by decide), show mi_set ν 15 k v (14 + 1) (j - 2) = if j - 2 = k then v else ν 15 (j - 2) from ms_same _ _ _ _ _]
  by_cases c1 : j < 2
  · rw [if_pos c1, if_pos c1, if_neg (show ¬ j = 2 + k by omega)]
  · rw [if_neg c1, if_neg c1]
    by_cases c2 : j < 10
    · rw [if_pos c2, if_pos c2]
      by_cases c3 : j = 2 + k
      · rw [if_pos c3, if_pos (show j - 2 = k by omega)]
      · rw [if_neg c3, if_neg (show ¬ j - 2 = k by omega)]
    · rw [if_neg c2, if_neg c2, if_neg (show ¬ j = 2 + k by omega)]
theorem sk_16 {ν : mi_M} {k v : Int} (h : 0 ≤ k) : sk (mi_set ν 16 k v) 14 = vlf (10 + k) v (sk ν 14) := by
  funext j
  unfold vlf sk
  rw [ms_other _ (show (14 : Nat) ≠ 16 by decide), ms_other _ (show 14 + 1 ≠ 16 by decide), show mi_set ν 16 k v (14 + 2) (j - 10) = if j - 10 = k then v else ν 16 (j - 10) from ms_same _ _ _ _ _]
  by_cases c1 : j < 2
  · rw [if_pos c1, if_pos c1, if_neg (show ¬ j = 10 + k by omega)]
  · rw [if_neg c1, if_neg c1]
    by_cases c2 : j < 10
    · rw [if_pos c2, if_pos c2, if_neg (show ¬ j = 10 + k by omega)]
    · rw [if_neg c2, if_neg c2]
      by_cases c3 : j = 10 + k
      · rw [if_pos c3, if_pos (show j - 10 = k by omega)]
      · rw [if_neg c3, if_neg (show ¬ j - 10 = k by omega)]
theorem sk_fr {L : List Nat} {ν : mi_M} (h : fr_l L μ ν) (h1 : 14 ∉ L) (h2 : 15 ∉ L) (h3 : 16 ∉ L) : sk ν 14 = sk μ 14 := sk_eq (h 14 h1) (h (14 + 1) h2) (h (14 + 2) h3)
/-- RI looks at cell 13 alone -/
theorem RI_fr {ν : mi_M} (e : ν 13 = μ 13) (h : RI μ) : RI ν := by unfold RI; rw [e]; exact h
def dlo (a : Int) : Int := if a = 2 ∨ a = 3 ∨ a = 5 then 0 else 1
def dhi (a : Int) : Int := if a = 0 then 7 else if a = 1 then 2 else if a = 4 then 255 else if a = 5 then 3 else 60
theorem dlo_is {a : Int} (h : a = 0 ∨ a = 1 ∨ a = 4 ∨ a = 5) : mi_ro X 1000 a = dlo a ∧ mi_ro X 1001 a = dhi a := by
  rcases h with rfl | rfl | rfl | rfl <;> exact ⟨rfl, rfl⟩
theorem dlo_R {a : Int} : mx_R (dlo a) ∧ mx_R (dhi a) := by
  unfold dlo dhi mx_R; constructor <;> ((repeat' split) <;> omega)
def mp67_13 (a0 : Int) (μ : mi_M) : Prop := RI μ ∧ μ 13 5 = 0 ∧ (a0 = 0 ∨ a0 = 1 ∨ a0 = 4 ∨ a0 = 5)
def mq67_13 (a0 : Int) (μ ν : mi_M) : Prop := CLn μ (ldl (byt (μ 12)) (μ 13 2) (sk μ 14) (μ 13 4) (2 + a0) (dlo a0) (dhi a0)) ν
theorem mc67_13 {a0 : Int} (hp : mp67_13 a0 μ) (hq : ∀ ν, mq67_13 a0 μ ν → Q (.inl none) mi_G0 ν) : mi_cok X 67 [(.inr (.inl (some 13))), (.inl a0)] mi_G0 μ u Q := by
  obtain ⟨hr, h5, ha⟩ := hp
  have hb : 0 ≤ a0 ∧ a0 < 8 := by omega
  apply me67_13
  rw [(dlo_is ha).1, (dlo_is ha).2]
  refine ⟨hb, hb, ⟨hr, dlo_R.1, dlo_R.2⟩, fun v0 μ0 ⟨q1, q2, q3, _, q5⟩ => ⟨hb, hq _ ?_⟩⟩
  obtain ⟨p1, p2, p3⟩ := q5 h5
  have e13 : mi_set μ0 15 a0 v0 13 = μ0 13 := ms_other _ (by decide) _ _
  refine ⟨fr_ls (fr_lm q1 rfl) (by decide) _ _, by rw [e13]; exact q2, RI_fr e13 q3, by rw [e13]; exact p1, fun h => ?_⟩
  have h' : μ0 13 5 = 0 := p1.trans h
  obtain ⟨t1, t2⟩ := p2 h'
  refine ⟨by rw [e13]; exact t2, ?_⟩
  rw [sk_15 hb.1 hb.2, sk_fr q1 (by decide) (by decide) (by decide), t1]
  rfl
def mp68_13 (μ : mi_M) : Prop := RI μ ∧ μ 13 5 = 0
def mq68_13 (μ ν : mi_M) : Prop := CLn μ (lpn (byt (μ 12)) (μ 13 2) (sk μ 14) (μ 13 4)) ν
theorem mc68_13 (hp : mp68_13 μ) (hq : ∀ ν, mq68_13 μ ν → Q (.inl none) mi_G0 ν) : mi_cok X 68 [(.inr (.inl (some 13)))] mi_G0 μ u Q := by
  obtain ⟨hr, h5⟩ := hp
  have nb' : ∀ s, -1 ≤ nN (byt (μ 12)) (μ 13 2) s ∧ nN (byt (μ 12)) (μ 13 2) s ≤ 999999 := fun s => nmb_b (B := byt (μ 12)) byt_B
  apply me68_13
  rw [show mi_ro X 1000 2 = 0 from rfl, show mi_ro X 1001 2 = 60 from rfl, show mi_ro X 1001 3 = 60 from rfl]
  refine ⟨⟨hr, by unfold mx_R; omega, by unfold mx_R; omega⟩, fun v0 μ0 ⟨q1, q2, q3, _, q5⟩ => ?_⟩
  obtain ⟨p1, p2, p3⟩ := q5 h5
  have e13 : mi_set μ0 15 2 v0 13 = μ0 13 := ms_other _ (by decide) _ _
  have e12 : mi_set μ0 15 2 v0 12 = μ 12 := (ms_other _ (by decide) _ _).trans (q1 12 (by decide))
  have hv : mx_R v0 := by
    have := nb' (tS (byt (μ 12)) (μ 13 2) (μ 13 4))
    unfold mx_R
    by_cases c : μ0 13 5 = 0
    · rw [(p2 c).1]; omega
    · rw [p3 c]; omega
  refine ⟨⟨RI_fr e13 q3, hv, by unfold mx_R; omega⟩, fun v1 μ1 ⟨g1, g2, g3, g4, g5⟩ => hq _ ?_⟩
  have f13 : mi_set μ1 15 3 v1 13 = μ1 13 := ms_other _ (by decide) _ _
  have hfr : fr_l [13, 14, 15, 16] μ (mi_set μ1 15 3 v1) := fr_ls (fr_lt (fr_ls (fr_lm q1 rfl) (show 15 ∈ [13, 14, 15, 16] by decide) 2 v0) (fr_lm g1 rfl)) (by decide) _ _
  rw [e13, e12] at g5
  rw [e13] at g2 g4
  have es : sk (mi_set μ1 15 3 v1) 14 = vlf 5 v1 (vlf 4 v0 (sk μ 14)) := by
    rw [sk_15 (by decide) (by decide), sk_fr g1 (by decide) (by decide) (by decide), sk_15 (by decide) (by decide), sk_fr q1 (by decide) (by decide) (by decide)]
    rfl
  unfold mq68_13 lpn
  by_cases c : nF (byt (μ 12)) (μ 13 2) (tS (byt (μ 12)) (μ 13 2) (μ 13 4)) 0 60 = 0
  · rw [if_pos c]
    have h0 : μ0 13 5 = 0 := p1.trans c
    obtain ⟨t1, t2⟩ := p2 h0
    obtain ⟨k1, k2, k3⟩ := g5 h0
    rw [q2, t2, t1] at k1
    rw [q2, t2] at k2
    refine ⟨hfr, by rw [f13, g2, q2], RI_fr f13 g3, by rw [f13]; exact k1, fun h => ?_⟩
    have h1 : μ1 13 5 = 0 := k1.trans h
    obtain ⟨l1, l2⟩ := k2 h1
    exact ⟨by rw [f13]; exact l2, by rw [es, t1, l1]⟩
  · rw [if_neg c]
    have h0 : μ0 13 5 ≠ 0 := fun h => c (p1.symm.trans h)
    obtain ⟨k1, k2⟩ := g4 h0
    refine ⟨hfr, by rw [f13, g2, q2], RI_fr f13 g3, ?_, fun h => absurd h c⟩
    rw [f13, k2, e13]; exact p1
/-- rows -/
theorem hx_v {c : Int} (h : 0 ≤ c ∧ c ≤ 255) : mv78 c μ = hexv c := by
  have w97 : mi_wr 97 = 97 := by decide
  have w102 : mi_wr 102 = 102 := by decide
  unfold mv78 hexv
  rw [v76_is h, mi_wr_id (z := c) (by omega) (by omega), w97, w102]
  by_cases d : 48 ≤ c ∧ c ≤ 57
  · rw [if_pos (dgb_t.mpr d), if_neg w_10, if_pos d]
  · rw [if_neg (show ¬ dgb c = true from fun hh => d (dgb_t.mp hh)), if_pos w_00, if_neg d]
    by_cases e : c < 97
    · rw [if_pos e, if_neg (by omega)]
    · rw [if_neg e]
      by_cases f : 102 < c
      · rw [if_pos f, if_neg (by omega)]
      · rw [if_neg f, if_pos (by omega)]; omega
theorem hexv_b {c : Int} : -1 ≤ hexv c ∧ hexv c ≤ 15 := by unfold hexv; (repeat' split) <;> omega
theorem hx_w {c : Int} (h : -1 ≤ c ∧ c ≤ 255) : mv164 c μ = hexv c := by
  unfold mv164 hexv
  rw [mx_withinM (show mx_R c by unfold mx_R; omega) (by unfold mx_R; omega) (by unfold mx_R; omega), mx_withinM (show mx_R c by unfold mx_R; omega) (by unfold mx_R; omega) (by unfold mx_R; omega)]
  by_cases d : 48 ≤ c ∧ c ≤ 57
  · rw [if_pos d, if_neg w_10, if_pos d]
  · rw [if_neg d, if_pos w_00, if_neg d]
    by_cases e : 97 ≤ c ∧ c ≤ 102
    · rw [if_pos e, if_neg w_10, if_pos e]; omega
    · rw [if_neg e, if_pos w_00, if_neg e]
def mp69_13 (a0 : Int) (μ : mi_M) : Prop := RI μ ∧ μ 13 5 = 0 ∧ (0 ≤ a0 ∧ a0 ≤ 1) ∧ (3 ≤ μ 14 0 ∧ μ 14 0 ≤ 16) ∧ (3 ≤ μ 14 1 ∧ μ 14 1 ≤ 12)
def mq69_13 (a0 : Int) (μ ν : mi_M) : Prop := CLn μ (lrw (byt (μ 12)) (μ 13 2) (sk μ 14) a0 (μ 13 4)) ν
theorem mc69_13 {a0 : Int} (hp : mp69_13 a0 μ) (hq : ∀ ν, mq69_13 a0 μ ν → Q (.inl none) mi_G0 ν) : mi_cok X 69 [(.inr (.inl (some 13))), (.inl a0)] mi_G0 μ u Q := by
  obtain ⟨hr, h5, ⟨v1, v2⟩, ⟨w1, w2⟩, ⟨g1, g2⟩⟩ := hp
  have eh : sk μ 14 1 = μ 14 1 := rfl
  have ew : sk μ 14 0 = μ 14 0 := rfl
  apply me69_13
  refine ⟨⟨hr, by unfold mx_R; omega, by unfold mx_R; omega⟩, fun y μ0 ⟨q1, q2, q3, _, q5⟩ => ?_⟩
  obtain ⟨p1, p2, p3⟩ := q5 h5
  have b5 := q3.2
  rw [mi_wr_id (z := μ0 13 5) (by omega) (by omega)]
  unfold mq69_13 lrw at hq
  rw [eh, ew] at hq
  by_cases c : nF (byt (μ 12)) (μ 13 2) (tS (byt (μ 12)) (μ 13 2) (μ 13 4)) 0 (μ 14 1 - 1) = 0
  · rw [if_pos c] at hq
    have h0 : μ0 13 5 = 0 := p1.trans c
    obtain ⟨t1, t2⟩ := p2 h0
    rw [if_pos h0]
    obtain ⟨⟨j1, j2, j3, j4⟩, -⟩ := id q3
    refine ⟨⟨by omega, by omega, j4⟩, fun μ1 hμ1 => ?_⟩
    obtain ⟨i1, i2, i3, i4⟩ := RI_on q3 hμ1
    obtain ⟨⟨m1, m2, m3, m4⟩, -⟩ := id i1
    obtain ⟨s1, s2, s3, s4⟩ := hμ1
    have e12 : μ0 12 = μ 12 := q1 12 (by decide)
    have i5 : μ1 13 5 = 0 := i2.trans h0
    rw [e12, q2, t2] at s3 s4
    -- names
    have hy : 0 ≤ y ∧ y ≤ μ 14 1 - 1 := by
      unfold nF at c
      split at c
      · have := (tS_b (B := byt (μ 12)) (n := μ 13 2) (p := μ 13 4) hr.1.2.2.1).1; have := hr.1; omega
      · split at c
        · have := (tS_b (B := byt (μ 12)) (n := μ 13 2) (p := μ 13 4) hr.1.2.2.1).1; have := hr.1; omega
        · rw [t1]; omega
    rw [← t1] at hq
    generalize hS2 : tS (byt (μ 12)) (μ 13 2) (tE (byt (μ 12)) (μ 13 2) (tS (byt (μ 12)) (μ 13 2) (μ 13 4))) = S2 at hq s3 s4
    have fr1 : fr_l [13, 14, 15, 16] μ μ1 := fr_lt (fr_lm q1 rfl) (fr_lm s1 rfl)
    have es : sk μ1 14 = sk μ 14 := (sk_fr s1 (by decide) (by decide) (by decide)).trans (sk_fr q1 (by decide) (by decide) (by decide))
    have en : μ1 13 2 = μ 13 2 := i3.trans q2
    have bad : ∀ k t, 0 < k → k ≤ 3 → 0 ≤ t → t ≤ 701 → ∀ ρ : mi_M, fr_l [13, 14, 15, 16] μ ρ → ρ 13 = μ1 13 → CLn μ (8 * t + k, 0, sk μ 14) (mm74_13 k t ρ) := fun k t k1 k2 t1 t2 ρ hf e13 => by
      obtain ⟨f1, f2, f3⟩ := fa_is (μ := ρ) (k := k) (p := t) (by rw [e13]; exact i5)
      refine ⟨fr_lt hf (fr_lm f1 rfl), by rw [f2 2 (by decide), e13]; exact en, RI_fa (RI_fr e13 i1) (by rw [e13]; exact i5) t1 t2 (by omega) k2, f3, fun h => ?_⟩
      have h' : 8 * t + k = 0 := h
      omega
    rw [mi_wr_id (z := μ1 13 3) (by omega) (by omega), mi_wr_id (z := μ1 13 4) (by omega) (by omega), mi_wr_id (z := μ1 13 4 - μ1 13 3) (by omega) (by omega)]
    -- an empty token, or a sign
    by_cases d : tE (byt (μ 12)) (μ 13 2) S2 = S2
    · rw [if_pos d] at hq
      have fin : Q (.inl none) mi_G0 (mm74_13 1 (μ1 13 3) μ1) := by
        rw [s3]; exact hq _ (bad 1 S2 (by decide) (by decide) (by omega) (by omega) μ1 fr1 rfl)
      by_cases f : μ1 13 3 = μ1 13 4
      · rw [if_pos f]; exact fin
      · rw [if_neg f]
        have hsg : S2 < μ 13 2 ∧ byt (μ 12) S2 = 59 := by
          by_cases z : S2 < μ 13 2 ∧ byt (μ 12) S2 = 59
          · exact z
          · unfold cE at s4; rw [if_neg z] at s4; omega
        have h59 : mv73_13_1021 μ1 = 1 := by
          unfold mv73_13_1021 isw
          refine if_pos ?_
          unfold cE at s4; rw [if_pos hsg] at s4
          rw [s3, s4, show S2 + 1 - S2 = 1 by omega]
          show (decide ((1 : Int) = 1) && (decide (byt (μ1 12) S2 = 59) && true)) = true
          rw [i4, e12, decide_eq_true hsg.2]; rfl
        rw [h59, if_neg w_10]
        exact ⟨⟨by omega, by omega, by omega⟩, fin⟩
    · rw [if_neg d] at hq
      have hbS : S2 ≤ μ 13 2 := by omega
      have hEb := tE_b (B := byt (μ 12)) (n := μ 13 2) (p := S2) hbS
      have hnr : S2 < μ 13 2 ∧ rnb (byt (μ 12) S2) = true := by
        refine ⟨?_, ?_⟩
        · by_cases z : S2 < μ 13 2
          · exact z
          · exact absurd (tE_nn (by omega)) d
        · by_cases z : rnb (byt (μ 12) S2) = true
          · exact z
          · exact absurd (tE_no z) d
      rw [cE_run hnr.1 hnr.2] at s4
      have h59 : mv73_13_1021 μ1 = 0 := by
        unfold mv73_13_1021 isw
        refine if_neg ?_
        rw [s3, s4, i4, e12]
        show ¬ (decide (tE (byt (μ 12)) (μ 13 2) S2 - S2 = 1) && (decide (byt (μ 12) S2 = 59) && true)) = true
        rw [decide_eq_false (fun h => rn59 h hnr.2), Bool.false_and, Bool.and_false]; decide
      rw [if_neg (by omega), h59, if_pos w_00]
      refine ⟨⟨by omega, by omega, by omega⟩, ?_⟩
      have e14 : μ1 14 = μ 14 := (s1 14 (by decide)).trans (q1 14 (by decide))
      rw [e14, mi_wr_id (z := μ 14 0) (by omega) (by omega), s3, s4]
      by_cases f : tE (byt (μ 12)) (μ 13 2) S2 - S2 = μ 14 0
      · rw [if_pos f] at hq ⊢
        -- sign by sign
        refine qp_u (A := fun x ρ => mk69_13_88 X Q u a0 y x ρ) (fun x ρ => fr_l [13, 14, 15, 16] μ ρ ∧ ρ 13 = μ1 13 ∧ ρ 14 = μ 14 ∧ hx (byt (μ 12)) a0 y S2 (μ 14 0 - x).toNat x (sk ρ 14) = hx (byt (μ 12)) a0 y S2 (μ 14 0).toNat 0 (sk μ 14)) (a := 0) (n := μ 14 0) (by omega) ?_ ?_ ⟨fr1, rfl, e14, by rw [es, Int.sub_zero]⟩
        · rintro ρ ⟨k1, k2, k3, k4⟩
          rw [show (μ 14 0 - μ 14 0).toNat = 0 by omega] at k4
          have k4' : ((0 : Int), sk ρ 14) = hx (byt (μ 12)) a0 y S2 (μ 14 0).toNat 0 (sk μ 14) := k4
          apply mh69_13_88
          rw [k3, if_neg (Int.lt_irrefl _)]
          refine hq _ ⟨k1, by rw [k2]; exact en, RI_fr k2 i1, ?_, fun _ => ⟨?_, ?_⟩⟩
          · rw [← k4', k2]; exact i5
          · rw [k2]; exact s4
          · rw [← k4']
        · rintro x ρ x1 x2 ⟨k1, k2, k3, k4⟩ t
          have r12 : ρ 12 = μ 12 := k1 12 (by decide)
          have bb := byt_b (g := μ 12) (j := S2 + x)
          have hb := hexv_b (c := byt (μ 12) (S2 + x))
          rw [show (μ 14 0 - x).toNat = (μ 14 0 - (x + 1)).toNat + 1 by omega] at k4
          have k4' : (if hexv (byt (μ 12) (S2 + x)) = -1 then (8 * (S2 + x) + 3, sk ρ 14) else hx (byt (μ 12)) a0 y S2 (μ 14 0 - (x + 1)).toNat (x + 1) (vlf (10 + (192 * a0 + 16 * y + x)) (hexv (byt (μ 12) (S2 + x))) (sk ρ 14))) = hx (byt (μ 12)) a0 y S2 (μ 14 0).toNat 0 (sk μ 14) := k4
          apply mh69_13_88
          rw [k3, k2, s3, mi_wr_id (z := x) (by omega) (by omega), mi_wr_id (z := μ 14 0) (by omega) (by omega), if_pos x2, show mv95_11 (S2 + x) ρ = byt (ρ 12) (S2 + x) from rfl, r12, hx_v bb, mi_wr_id (z := hexv (byt (μ 12) (S2 + x))) (by omega) (by omega), show mi_wr (-1) = -1 by decide, mx_spot (by omega) (by omega)]
          refine ⟨⟨by omega, by omega⟩, ?_⟩
          by_cases z : hexv (byt (μ 12) (S2 + x)) = -1
          · rw [if_pos z]
            rw [if_pos z] at k4'
            have b := bad 3 (S2 + x) (by decide) (by decide) (by omega) (by omega) ρ k1 k2
            refine hq _ ⟨b.1, b.2.1, b.2.2.1, ?_, fun h => ?_⟩
            · rw [← k4']; exact b.2.2.2.1
            · rw [← k4'] at h
              have h' : 8 * (S2 + x) + 3 = 0 := h
              omega
          · rw [if_neg z]
            rw [if_neg z] at k4'
            refine ⟨by omega, t _ ⟨fr_ls k1 (by decide) _ _, by rw [ms_other _ (by decide)]; exact k2, by rw [ms_other _ (by decide)]; exact k3, ?_⟩⟩
            rw [sk_16 (by omega)]; exact k4'
      · rw [if_neg f] at hq ⊢
        exact hq _ (bad 3 S2 (by decide) (by decide) (by omega) (by omega) μ1 fr1 rfl)
  · rw [if_neg c] at hq
    have h0 : μ0 13 5 ≠ 0 := fun h => c (p1.symm.trans h)
    rw [if_neg h0]
    exact hq _ ⟨fr_lm q1 rfl, q2, q3, p1, fun h => absurd h c⟩
end
