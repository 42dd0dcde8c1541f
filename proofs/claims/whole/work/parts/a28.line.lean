/-! A LINE; the size -/
def ln (B : Int → Int) (n : Int) (m : Int → Int) (s : Int) : LR :=
  if isw B s (tE B n s) wd1022 = true then ldl B n m (tE B n s) 2 1 7
  else if isw B s (tE B n s) wd1023 = true then ldl B n m (tE B n s) 3 1 2
  else if isw B s (tE B n s) wd1024 = true then lpn B n m (tE B n s)
  else if isw B s (tE B n s) wd1025 = true then ldl B n m (tE B n s) 6 1 255
  else if isw B s (tE B n s) wd1026 = true then ldl B n m (tE B n s) 7 0 3
  else if isw B s (tE B n s) wd1027 = true then lrw B n m 0 (tE B n s)
  else if isw B s (tE B n s) wd1028 = true then lrw B n m 1 (tE B n s)
  else (8 * s + 1, 0, m)
def lnc (B : Int → Int) (n : Int) (m : Int → Int) (s : Int) : LR := if B s = 59 then ln B n m (tS B n (s + 1)) else (8 * s + 1, 0, m)
section
variable {X : mi_X} {Q : mi_R → mi_G → mi_M → Prop} {u : mi_U} {μ : mi_M}
theorem isw_len {B : Int → Int} {s e : Int} {w : List Int} (h : isw B s e w = true) : e - s = (w.length : Int) := by
  unfold isw at h; exact of_decide_eq_true (Bool.and_eq_true_iff.mp h).1
theorem isw_c {B : Int → Int} {n s : Int} {w : List Int} (hw : 2 ≤ w.length) : isw B s (cE B n s) w = isw B s (tE B n s) w := by
  unfold cE
  by_cases c : s < n ∧ B s = 59
  · rw [if_pos c, tE_no (rn59 c.2)]
    unfold isw
    rw [decide_eq_false (by omega), decide_eq_false (by omega)]
  · rw [if_neg c]
theorem isw_run {B : Int → Int} {n s : Int} {w : List Int} (hw : 1 ≤ w.length) (h : isw B s (tE B n s) w = true) : s < n ∧ rnb (B s) = true := by
  have hl := isw_len h
  refine ⟨?_, ?_⟩
  · by_cases z : s < n
    · exact z
    · rw [tE_nn (by omega)] at hl; omega
  · by_cases z : rnb (B s) = true
    · exact z
    · rw [tE_no z] at hl; omega
theorem CL_tr {μ0 ν : mi_M} {res : LR} (hf : fr_l [13] μ μ0) (h2 : μ0 13 2 = μ 13 2) (h : CLn μ0 res ν) : CLn μ res ν := by
  obtain ⟨a, b, c, d, e⟩ := h
  exact ⟨fr_lt (fr_lm hf rfl) a, b.trans h2, c, d, e⟩
def mp66_13 (μ : mi_M) : Prop := RI μ ∧ μ 13 5 = 0 ∧ μ 13 3 < μ 13 2 ∧ μ 13 4 = cE (byt (μ 12)) (μ 13 2) (μ 13 3) ∧ (3 ≤ μ 14 0 ∧ μ 14 0 ≤ 16) ∧ (3 ≤ μ 14 1 ∧ μ 14 1 ≤ 12)
def mq66_13 (μ ν : mi_M) : Prop := CLn μ (lnc (byt (μ 12)) (μ 13 2) (sk μ 14) (μ 13 3)) ν
theorem fail_1 {μ0 : mi_M} {s : Int} (hf : fr_l [13] μ μ0) (h2 : μ0 13 2 = μ 13 2) (hr : RI μ0) (h5 : μ0 13 5 = 0) (h3 : μ0 13 3 = s) : CLn μ (8 * s + 1, 0, sk μ 14) (mm74_13 1 (μ0 13 3) μ0) := by
  obtain ⟨f1, f2, f3⟩ := fa_is (μ := μ0) (k := 1) (p := μ0 13 3) h5
  have := hr.1
  refine ⟨fr_lt (fr_lm hf rfl) (fr_lm f1 rfl), by rw [f2 2 (by decide)]; exact h2, RI_fa hr h5 (by omega) (by omega) (by decide) (by decide), by rw [f3, h3], fun h => ?_⟩
  have h' : 8 * s + 1 = 0 := h
  omega
theorem mc66_13 (hp : mp66_13 μ) (hq : ∀ ν, mq66_13 μ ν → Q (.inl none) mi_G0 ν) : mi_cok X 66 [(.inr (.inl (some 13)))] mi_G0 μ u Q := by
  obtain ⟨hr, h5, hlt, h4, hw, hh⟩ := hp
  obtain ⟨⟨a1, a2, a3, a4⟩, -⟩ := id hr
  unfold mq66_13 lnc at hq
  apply me66_13
  refine ⟨⟨a1, a2, by omega⟩, ?_⟩
  by_cases c : byt (μ 12) (μ 13 3) = 59
  · have e4 : μ 13 4 = μ 13 3 + 1 := by rw [h4]; unfold cE; rw [if_pos ⟨hlt, c⟩]
    have h59 : mv73_13_1021 μ = 1 := by
      unfold mv73_13_1021 isw
      refine if_pos ?_
      rw [e4, show μ 13 3 + 1 - μ 13 3 = 1 by omega]
      show (decide ((1 : Int) = 1) && (decide (byt (μ 12) (μ 13 3) = 59) && true)) = true
      rw [decide_eq_true c]; rfl
    rw [h59, if_neg w_10]
    rw [if_pos c] at hq
    refine ⟨⟨by omega, a3, a4⟩, fun μ0 h0 => ?_⟩
    obtain ⟨i1, i2, i3, i4⟩ := RI_on hr h0
    obtain ⟨s1, s2, s3, s4⟩ := h0
    rw [e4] at s3 s4
    have i5 : μ0 13 5 = 0 := i2.trans h5
    obtain ⟨⟨j1, j2, j3, j4⟩, -⟩ := id i1
    have e14 : μ0 14 = μ 14 := s1 14 (by decide)
    have es : sk μ0 14 = sk μ 14 := sk_fr s1 (by decide) (by decide) (by decide)
    have tk : tk_p μ0 := ⟨j1, j2, by omega⟩
    generalize hT : tS (byt (μ 12)) (μ 13 2) (μ 13 3 + 1) = T at hq s3 s4
    have wv : ∀ w : List Int, 2 ≤ w.length → isw (byt (μ0 12)) (μ0 13 3) (μ0 13 4) w = isw (byt (μ 12)) T (tE (byt (μ 12)) (μ 13 2) T) w := fun w hw => by rw [i4, s3, s4, isw_c hw]
    have wr : ∀ w : List Int, 2 ≤ w.length → isw (byt (μ 12)) T (tE (byt (μ 12)) (μ 13 2) T) w = true → μ0 13 4 = tE (byt (μ 12)) (μ 13 2) T := fun w hw h => by
      have := isw_run (by omega) h
      rw [s4, cE_run this.1 this.2]
    have dial : ∀ (w : List Int) (a : Int), 2 ≤ w.length → (a = 0 ∨ a = 1 ∨ a = 4 ∨ a = 5) → isw (byt (μ 12)) T (tE (byt (μ 12)) (μ 13 2) T) w = true → (∀ ν, CLn μ (ldl (byt (μ 12)) (μ 13 2) (sk μ 14) (tE (byt (μ 12)) (μ 13 2) T) (2 + a) (dlo a) (dhi a)) ν → Q (.inl none) mi_G0 ν) → mp67_13 a μ0 ∧ ∀ μ1, mq67_13 a μ0 μ1 → Q (.inl none) mi_G0 μ1 := fun w a hw ha h hq' => by
      refine ⟨⟨i1, i5, ha⟩, fun ν hν => hq' _ (CL_tr s1 i3 ?_)⟩
      unfold mq67_13 at hν
      rw [i4, i3, es, wr w hw h] at hν
      exact hν
    have rows : ∀ (w : List Int) (a : Int), 2 ≤ w.length → (0 ≤ a ∧ a ≤ 1) → isw (byt (μ 12)) T (tE (byt (μ 12)) (μ 13 2) T) w = true → (∀ ν, CLn μ (lrw (byt (μ 12)) (μ 13 2) (sk μ 14) a (tE (byt (μ 12)) (μ 13 2) T)) ν → Q (.inl none) mi_G0 ν) → mp69_13 a μ0 ∧ ∀ μ1, mq69_13 a μ0 μ1 → Q (.inl none) mi_G0 μ1 := fun w a hwl ha h hq' => by
      refine ⟨⟨i1, i5, ha, by rw [e14]; exact hw, by rw [e14]; exact hh⟩, fun ν hν => hq' _ (CL_tr s1 i3 ?_)⟩
      unfold mq69_13 at hν
      rw [i4, i3, es, wr w hwl h] at hν
      exact hν
    unfold ln at hq
    refine ⟨tk, ?_⟩
    unfold mv73_13_1022; rw [wv wd1022 (by decide)]
    by_cases c1 : isw (byt (μ 12)) T (tE (byt (μ 12)) (μ 13 2) T) wd1022 = true
    · rw [if_pos c1, if_neg w_10]; rw [if_pos c1] at hq
      exact dial _ 0 (by decide) (by decide) c1 hq
    rw [if_neg c1, if_pos w_00]; rw [if_neg c1] at hq
    refine ⟨tk, ?_⟩
    unfold mv73_13_1023; rw [wv wd1023 (by decide)]
    by_cases c2 : isw (byt (μ 12)) T (tE (byt (μ 12)) (μ 13 2) T) wd1023 = true
    · rw [if_pos c2, if_neg w_10]; rw [if_pos c2] at hq
      exact dial _ 1 (by decide) (by decide) c2 hq
    rw [if_neg c2, if_pos w_00]; rw [if_neg c2] at hq
    refine ⟨tk, ?_⟩
    unfold mv73_13_1024; rw [wv wd1024 (by decide)]
    by_cases c3 : isw (byt (μ 12)) T (tE (byt (μ 12)) (μ 13 2) T) wd1024 = true
    · rw [if_pos c3, if_neg w_10]; rw [if_pos c3] at hq
      refine ⟨⟨i1, i5⟩, fun ν hν => hq _ (CL_tr s1 i3 ?_)⟩
      unfold mq68_13 at hν
      rw [i4, i3, es, wr _ (by decide) c3] at hν
      exact hν
    rw [if_neg c3, if_pos w_00]; rw [if_neg c3] at hq
    refine ⟨tk, ?_⟩
    unfold mv73_13_1025; rw [wv wd1025 (by decide)]
    by_cases c4 : isw (byt (μ 12)) T (tE (byt (μ 12)) (μ 13 2) T) wd1025 = true
    · rw [if_pos c4, if_neg w_10]; rw [if_pos c4] at hq
      exact dial _ 4 (by decide) (by decide) c4 hq
    rw [if_neg c4, if_pos w_00]; rw [if_neg c4] at hq
    refine ⟨tk, ?_⟩
    unfold mv73_13_1026; rw [wv wd1026 (by decide)]
    by_cases c5 : isw (byt (μ 12)) T (tE (byt (μ 12)) (μ 13 2) T) wd1026 = true
    · rw [if_pos c5, if_neg w_10]; rw [if_pos c5] at hq
      exact dial _ 5 (by decide) (by decide) c5 hq
    rw [if_neg c5, if_pos w_00]; rw [if_neg c5] at hq
    refine ⟨tk, ?_⟩
    unfold mv73_13_1027; rw [wv wd1027 (by decide)]
    by_cases c6 : isw (byt (μ 12)) T (tE (byt (μ 12)) (μ 13 2) T) wd1027 = true
    · rw [if_pos c6, if_neg w_10]; rw [if_pos c6] at hq
      exact rows _ 0 (by decide) (by decide) c6 hq
    rw [if_neg c6, if_pos w_00]; rw [if_neg c6] at hq
    refine ⟨tk, ?_⟩
    unfold mv73_13_1028; rw [wv wd1028 (by decide)]
    by_cases c7 : isw (byt (μ 12)) T (tE (byt (μ 12)) (μ 13 2) T) wd1028 = true
    · rw [if_pos c7, if_neg w_10]; rw [if_pos c7] at hq
      exact rows _ 1 (by decide) (by decide) c7 hq
    rw [if_neg c7, if_pos w_00]; rw [if_neg c7] at hq
    exact hq _ (fail_1 s1 i3 i1 i5 s3)
  · rw [if_neg c] at hq
    have h59 : mv73_13_1021 μ = 0 := by
      unfold mv73_13_1021 isw
      refine if_neg ?_
      show ¬ (decide (μ 13 4 - μ 13 3 = 1) && (decide (byt (μ 12) (μ 13 3) = 59) && true)) = true
      rw [decide_eq_false c, Bool.false_and, Bool.and_false]; decide
    rw [h59, if_pos w_00]
    exact hq _ (fail_1 (fr_lr _ _) rfl hr h5 rfl)
/-- the reference's words -/
theorem wd_iff {w : List Int} {m : Nat} (hm : w.length + m = 7) (hw : ∀ c ∈ w, c ≠ 0) (hl : 1 ≤ w.length) (hr : RR μ) : (μ 86 11 = 1 ∧ μ 86 10 - μ 86 9 ≤ 7 ∧ eq7 (byt (μ 90)) (μ 86 9) (μ 86 10) 0 (w ++ List.replicate m 0) = true) ↔ isw (byt (μ 90)) (μ 86 9) (tE (byt (μ 90)) (μ 86 8) (μ 86 9)) w = true := by
  obtain ⟨⟨h1, h2, h3⟩, h4, h5, h6⟩ := hr
  by_cases k : kd (byt (μ 90)) (μ 86 8) (μ 86 9) = 1
  · have ru := kd_1.mp k
    have eE : μ 86 10 = tE (byt (μ 90)) (μ 86 8) (μ 86 9) := by rw [h4, rE_run ru.1 ru.2]
    have hb := tE_b (B := byt (μ 90)) h2
    have hB : ∀ j, μ 86 9 ≤ j → j < μ 86 10 → byt (μ 90) j ≠ 0 := fun j g1 g2 => by have := hb.2.2 j g1 (by omega); omega
    have key := fun h7 : μ 86 10 - μ 86 9 ≤ 7 => eq7_w hB m (Or.inr trivial) w 0 (by decide) (by omega) hw (fun hm0 => by omega)
    unfold isw
    rw [Bool.and_eq_true_iff, decide_eq_true_iff, ← eE]
    constructor
    · rintro ⟨-, g2, g3⟩
      have := (key g2).mp g3
      rw [Int.add_zero, Int.zero_add] at this
      exact this
    · rintro ⟨g1, g2⟩
      have g7 : μ 86 10 - μ 86 9 ≤ 7 := by omega
      refine ⟨by rw [h5]; exact k, g7, (key g7).mpr ?_⟩
      rw [Int.add_zero, Int.zero_add]
      exact ⟨g1, g2⟩
  · constructor
    · rintro ⟨g1, -⟩; rw [h5] at g1; exact absurd g1 k
    · intro h; exact absurd (kd_1.mpr (isw_run hl h)) k
theorem RR_fr {ν : mi_M} (h86 : ν 86 = μ 86) (h90 : ν 90 = μ 90) (h : RR μ) : RR ν := by unfold RR; rw [h86, h90]; exact h
theorem RR_P (h : RR μ) : RP μ := by
  have t := RR_t h
  exact ⟨⟨by have := t; unfold tkr at this; omega, t.2.2.1, t.2.2.2⟩, h.2.2.2⟩
theorem RL_tr {μ0 ν : mi_M} {res : LR} {r : Int} (hf : fr_l [104] μ μ0) (h : RLn μ0 res r ν) : RLn μ res r ν := by
  obtain ⟨a, b, c⟩ := h
  have e86 : μ0 86 = μ 86 := hf 86 (by decide)
  have e90 : μ0 90 = μ 90 := hf 90 (by decide)
  rw [e86, e90] at c
  rw [e86] at b
  exact ⟨fr_lt (fr_lm hf rfl) a, b, c⟩
theorem RL_r {ν : mi_M} {res : LR} {r : Int} (h : RLn μ res r ν) : r = 0 ∨ r = 1 := by
  rcases h.2.2 with ⟨-, h, -⟩ | ⟨-, h, -⟩
  · exact Or.inr h
  · exact Or.inl h
def mp167_86 (μ : mi_M) : Prop := RR μ ∧ (3 ≤ μ 91 0 ∧ μ 91 0 ≤ 16) ∧ (3 ≤ μ 91 1 ∧ μ 91 1 ≤ 12)
def mq167_86 (μ : mi_M) (r : Int) (ν : mi_M) : Prop := RLn μ (ln (byt (μ 90)) (μ 86 8) (μ 91) (μ 86 9)) r ν
theorem mc167_86 (hp : mp167_86 μ) (hq : ∀ r ν, mq167_86 μ r ν → Q (.inl (some (.inl r))) mi_G0 ν) : mi_cok X 167 [(.inr (.inl (some 86)))] mi_G0 μ (7, 49) Q := by
  obtain ⟨hr, hw, hh⟩ := hp
  have kb : ∀ ρ : mi_M, fr_l [104] μ ρ → ∀ a0 a1 a2 a3 a4 a5 a6, c8 a0 → c8 a1 → c8 a2 → c8 a3 → c8 a4 → c8 a5 → c8 a6 → mp160_86 a0 a1 a2 a3 a4 a5 a6 ρ := fun ρ hf a0 a1 a2 a3 a4 a5 a6 g0 g1 g2 g3 g4 g5 g6 => by
    have hr' := RR_fr (hf 86 (by decide)) (hf 90 (by decide)) hr
    exact ⟨RR_t hr', by rw [hr'.2.2.1]; exact kd_b, g0, g1, g2, g3, g4, g5, g6⟩
  -- one word asked
  have ask : ∀ (w : List Int) (m : Nat), w.length + m = 7 → (∀ c ∈ w, c ≠ 0) → 1 ≤ w.length → ∀ ρ, fr_l [104] μ ρ → ((ρ 86 11 = 1 ∧ ρ 86 10 - ρ 86 9 ≤ 7 ∧ eq7 (byt (ρ 90)) (ρ 86 9) (ρ 86 10) 0 (w ++ List.replicate m 0) = true) ↔ isw (byt (μ 90)) (μ 86 9) (tE (byt (μ 90)) (μ 86 8) (μ 86 9)) w = true) := fun w m h1 h2 h3 ρ hf => by
    have := wd_iff h1 h2 h3 hr
    rw [hf 86 (by decide), hf 90 (by decide)]; exact this
  have tell : ∀ (w : List Int) (a lo hi : Int), 1 ≤ w.length → (0 ≤ a ∧ a < 394) → mx_R lo → mx_R hi → isw (byt (μ 90)) (μ 86 9) (tE (byt (μ 90)) (μ 86 8) (μ 86 9)) w = true → ∀ ρ, fr_l [104] μ ρ → (∀ r ν, RLn μ (ldl (byt (μ 90)) (μ 86 8) (μ 91) (tE (byt (μ 90)) (μ 86 8) (μ 86 9)) a lo hi) r ν → Q (.inl (some (.inl r))) mi_G0 ν) → mp163_86 a lo hi ρ ∧ ∀ (v : Int) (ν : mi_M), mq163_86 a lo hi ρ v ν → (v = 0 ∨ v = 1) ∧ Q (.inl (some (.inl v))) mi_G0 ν := fun w a lo hi h1 h2 h3 h4 h5 ρ hf hq' => by
    have hr' := RR_fr (hf 86 (by decide)) (hf 90 (by decide)) hr
    have ru := isw_run h1 h5
    have e10 : ρ 86 10 = tE (byt (μ 90)) (μ 86 8) (μ 86 9) := by rw [hf 86 (by decide), hr.2.1, rE_run ru.1 ru.2]
    refine ⟨⟨RR_P hr', h2, h3, h4⟩, fun v ν hν => ?_⟩
    have hh := hν.1
    rw [e10, hf 90 (by decide), hf 86 (by decide), hf 91 (by decide)] at hh
    exact ⟨RL_r hh, hq' _ _ (RL_tr hf hh)⟩
  have rows : ∀ (w : List Int) (a : Int), 1 ≤ w.length → (0 ≤ a ∧ a ≤ 1) → isw (byt (μ 90)) (μ 86 9) (tE (byt (μ 90)) (μ 86 8) (μ 86 9)) w = true → ∀ ρ, fr_l [104] μ ρ → (∀ r ν, RLn μ (lrw (byt (μ 90)) (μ 86 8) (μ 91) a (tE (byt (μ 90)) (μ 86 8) (μ 86 9))) r ν → Q (.inl (some (.inl r))) mi_G0 ν) → mp165_86 a ρ ∧ ∀ (v : Int) (ν : mi_M), mq165_86 a ρ v ν → (v = 0 ∨ v = 1) ∧ Q (.inl (some (.inl v))) mi_G0 ν := fun w a h1 h2 h5 ρ hf hq' => by
    have hr' := RR_fr (hf 86 (by decide)) (hf 90 (by decide)) hr
    have ru := isw_run h1 h5
    have e10 : ρ 86 10 = tE (byt (μ 90)) (μ 86 8) (μ 86 9) := by rw [hf 86 (by decide), hr.2.1, rE_run ru.1 ru.2]
    refine ⟨⟨RR_P hr', h2, by rw [hf 91 (by decide)]; exact hw, by rw [hf 91 (by decide)]; exact hh⟩, fun v ν hν => ?_⟩
    unfold mq165_86 at hν
    rw [e10, hf 90 (by decide), hf 86 (by decide), hf 91 (by decide)] at hν
    exact ⟨RL_r hν, hq' _ _ (RL_tr hf hν)⟩
  unfold mq167_86 ln at hq
  apply me167_86
  refine ⟨⟨by decide, by decide⟩, kb μ (fr_lr _ _) _ _ _ _ _ _ _ (by unfold c8; omega) (by unfold c8; omega) (by unfold c8; omega) (by unfold c8; omega) (by unfold c8; omega) (by unfold c8; omega) (by unfold c8; omega), fun v0 μ0 ⟨k0, j0⟩ => ?_⟩
  have a1 := ask wd1022 3 rfl (by decide) (by decide) μ (fr_lr _ _)
  rcases j0 with ⟨c1, rfl⟩ | ⟨c1, rfl⟩
  · rw [if_neg w_10]
    have d1 := a1.mp c1
    rw [if_pos d1] at hq
    exact tell _ 2 1 7 (by decide) (by decide) (by unfold mx_R; omega) (by unfold mx_R; omega) d1 μ0 k0 hq
  rw [if_pos w_00, ]
  have d1 := fun h => c1 (a1.mpr h)
  rw [if_neg d1] at hq
  refine ⟨⟨by decide, by decide⟩, kb μ0 k0 _ _ _ _ _ _ _ (by unfold c8; omega) (by unfold c8; omega) (by unfold c8; omega) (by unfold c8; omega) (by unfold c8; omega) (by unfold c8; omega) (by unfold c8; omega), fun v1 μ1 ⟨k1, j1⟩ => ?_⟩
  have a2 := ask wd1023 1 rfl (by decide) (by decide) μ0 k0
  have k1 := fr_lt k0 k1
  rcases j1 with ⟨c2, rfl⟩ | ⟨c2, rfl⟩
  · rw [if_neg w_10]
    have d2 := a2.mp c2
    rw [if_pos d2] at hq
    exact tell _ 3 1 2 (by decide) (by decide) (by unfold mx_R; omega) (by unfold mx_R; omega) d2 μ1 k1 hq
  rw [if_pos w_00]
  have d2 := fun h => c2 (a2.mpr h)
  rw [if_neg d2] at hq
  refine ⟨⟨by decide, by decide⟩, kb μ1 k1 _ _ _ _ _ _ _ (by unfold c8; omega) (by unfold c8; omega) (by unfold c8; omega) (by unfold c8; omega) (by unfold c8; omega) (by unfold c8; omega) (by unfold c8; omega), fun v2 μ2 ⟨k2, j2⟩ => ?_⟩
  have a3 := ask wd1024 0 rfl (by decide) (by decide) μ1 k1
  have k2 := fr_lt k1 k2
  rcases j2 with ⟨c3, rfl⟩ | ⟨c3, rfl⟩
  · rw [if_neg w_10]
    have d3 := a3.mp c3
    rw [if_pos d3] at hq
    have hr' := RR_fr (k2 86 (by decide)) (k2 90 (by decide)) hr
    have ru := isw_run (by decide) d3
    have e10 : μ2 86 10 = tE (byt (μ 90)) (μ 86 8) (μ 86 9) := by rw [k2 86 (by decide), hr.2.1, rE_run ru.1 ru.2]
    refine ⟨RR_P hr', fun v ν hν => ?_⟩
    unfold mq166_86 at hν
    rw [e10, k2 90 (by decide), k2 86 (by decide), k2 91 (by decide)] at hν
    exact ⟨RL_r hν, hq _ _ (RL_tr k2 hν)⟩
  rw [if_pos w_00]
  have d3 := fun h => c3 (a3.mpr h)
  rw [if_neg d3] at hq
  refine ⟨⟨by decide, by decide⟩, kb μ2 k2 _ _ _ _ _ _ _ (by unfold c8; omega) (by unfold c8; omega) (by unfold c8; omega) (by unfold c8; omega) (by unfold c8; omega) (by unfold c8; omega) (by unfold c8; omega), fun v3 μ3 ⟨k3, j3⟩ => ?_⟩
  have a4 := ask wd1025 2 rfl (by decide) (by decide) μ2 k2
  have k3 := fr_lt k2 k3
  rcases j3 with ⟨c4, rfl⟩ | ⟨c4, rfl⟩
  · rw [if_neg w_10]
    have d4 := a4.mp c4
    rw [if_pos d4] at hq
    exact tell _ 6 1 255 (by decide) (by decide) (by unfold mx_R; omega) (by unfold mx_R; omega) d4 μ3 k3 hq
  rw [if_pos w_00]
  have d4 := fun h => c4 (a4.mpr h)
  rw [if_neg d4] at hq
  refine ⟨⟨by decide, by decide⟩, kb μ3 k3 _ _ _ _ _ _ _ (by unfold c8; omega) (by unfold c8; omega) (by unfold c8; omega) (by unfold c8; omega) (by unfold c8; omega) (by unfold c8; omega) (by unfold c8; omega), fun v4 μ4 ⟨k4, j4⟩ => ?_⟩
  have a5 := ask wd1026 2 rfl (by decide) (by decide) μ3 k3
  have k4 := fr_lt k3 k4
  rcases j4 with ⟨c5, rfl⟩ | ⟨c5, rfl⟩
  · rw [if_neg w_10]
    have d5 := a5.mp c5
    rw [if_pos d5] at hq
    exact tell _ 7 0 3 (by decide) (by decide) (by unfold mx_R; omega) (by unfold mx_R; omega) d5 μ4 k4 hq
  rw [if_pos w_00]
  have d5 := fun h => c5 (a5.mpr h)
  rw [if_neg d5] at hq
  refine ⟨⟨by decide, by decide⟩, kb μ4 k4 _ _ _ _ _ _ _ (by unfold c8; omega) (by unfold c8; omega) (by unfold c8; omega) (by unfold c8; omega) (by unfold c8; omega) (by unfold c8; omega) (by unfold c8; omega), fun v5 μ5 ⟨k5, j5⟩ => ?_⟩
  have a6 := ask wd1027 3 rfl (by decide) (by decide) μ4 k4
  have k5 := fr_lt k4 k5
  rcases j5 with ⟨c6, rfl⟩ | ⟨c6, rfl⟩
  · rw [if_neg w_10]
    have d6 := a6.mp c6
    rw [if_pos d6] at hq
    exact rows _ 0 (by decide) (by decide) d6 μ5 k5 hq
  rw [if_pos w_00]
  have d6 := fun h => c6 (a6.mpr h)
  rw [if_neg d6] at hq
  refine ⟨⟨by decide, by decide⟩, kb μ5 k5 _ _ _ _ _ _ _ (by unfold c8; omega) (by unfold c8; omega) (by unfold c8; omega) (by unfold c8; omega) (by unfold c8; omega) (by unfold c8; omega) (by unfold c8; omega), fun v6 μ6 ⟨k6, j6⟩ => ?_⟩
  have a7 := ask wd1028 2 rfl (by decide) (by decide) μ5 k5
  have k6 := fr_lt k5 k6
  rcases j6 with ⟨c7, rfl⟩ | ⟨c7, rfl⟩
  · rw [if_neg w_10]
    have d7 := a7.mp c7
    rw [if_pos d7] at hq
    exact rows _ 1 (by decide) (by decide) d7 μ6 k6 hq
  rw [if_pos w_00]
  have d7 := fun h => c7 (a7.mpr h)
  rw [if_neg d7] at hq
  have e86 : μ6 86 = μ 86 := k6 86 (by decide)
  obtain ⟨b1, b2, b3⟩ := fb_is (μ := μ6) (k := 1) (p := μ6 86 9) (by rw [e86]; exact hr.2.2.2)
  refine ⟨Or.inl rfl, hq _ _ ⟨fr_lt (fr_lm k6 rfl) (fr_lm b1 rfl), fun j hj => by rw [b2 j (RF_no hj).2.2.2.1, e86], Or.inr ⟨?_, rfl, ?_⟩⟩⟩
  · show 8 * μ 86 9 + 1 ≠ 0
    have := hr.1; omega
  · rw [b3, e86]
end
