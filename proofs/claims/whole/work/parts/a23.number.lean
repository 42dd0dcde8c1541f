/-! NUMBERS, by both -/
/-- the number that a token at s tells; what is wrong with it -/
def nN (B : Int → Int) (n s : Int) : Int := nmb B s (tE B n s)
def nF (B : Int → Int) (n s lo hi : Int) : Int := if nN B n s = -1 then 8 * s + 1 else if nN B n s < lo ∨ hi < nN B n s then 8 * s + 2 else 0
theorem dv_b {B : Int → Int} (hB : ∀ j, 0 ≤ B j ∧ B j ≤ 255) : ∀ (k : Nat) (s a : Int), k ≤ 3 → 0 ≤ a → a ≤ 999 → -1 ≤ dv B k s a ∧ dv B k s a ≤ 999999 + 1000 * a
  | 0, s, a, _, h1, h2 => by show -1 ≤ a ∧ a ≤ _; omega
  | 1, s, a, _, h1, h2 => by
    show -1 ≤ (if dgb (B s) = true then a * 10 + B s - 48 else -1) ∧ (if dgb (B s) = true then a * 10 + B s - 48 else -1) ≤ _
    have := hB s
    by_cases c : dgb (B s) = true
    · rw [if_pos c]; have := dgb_t.mp c; omega
    · rw [if_neg c]; omega
  | 2, s, a, _, h1, h2 => by
    show -1 ≤ (if dgb (B s) = true then (if dgb (B (s + 1)) = true then (a * 10 + B s - 48) * 10 + B (s + 1) - 48 else -1) else -1) ∧ (if dgb (B s) = true then (if dgb (B (s + 1)) = true then (a * 10 + B s - 48) * 10 + B (s + 1) - 48 else -1) else -1) ≤ _
    by_cases c : dgb (B s) = true
    · rw [if_pos c]; have := dgb_t.mp c
      by_cases d : dgb (B (s + 1)) = true
      · rw [if_pos d]; have := dgb_t.mp d; omega
      · rw [if_neg d]; omega
    · rw [if_neg c]; omega
  | 3, s, a, _, h1, h2 => by
    show -1 ≤ (if dgb (B s) = true then (if dgb (B (s + 1)) = true then (if dgb (B (s + 1 + 1)) = true then ((a * 10 + B s - 48) * 10 + B (s + 1) - 48) * 10 + B (s + 1 + 1) - 48 else -1) else -1) else -1) ∧ (if dgb (B s) = true then (if dgb (B (s + 1)) = true then (if dgb (B (s + 1 + 1)) = true then ((a * 10 + B s - 48) * 10 + B (s + 1) - 48) * 10 + B (s + 1 + 1) - 48 else -1) else -1) else -1) ≤ _
    by_cases c : dgb (B s) = true
    · rw [if_pos c]; have := dgb_t.mp c
      by_cases d : dgb (B (s + 1)) = true
      · rw [if_pos d]; have := dgb_t.mp d
        by_cases e : dgb (B (s + 1 + 1)) = true
        · rw [if_pos e]; have := dgb_t.mp e; omega
        · rw [if_neg e]; omega
      · rw [if_neg d]; omega
    · rw [if_neg c]; omega
  | k + 4, s, a, h, _, _ => by omega
theorem nmb_b {B : Int → Int} (hB : ∀ j, 0 ≤ B j ∧ B j ≤ 255) {s e : Int} : -1 ≤ nmb B s e ∧ nmb B s e ≤ 999999 := by
  unfold nmb
  by_cases c : 1 ≤ e - s ∧ e - s ≤ 3
  · rw [if_pos c]; have := dv_b hB (e - s).toNat s 0 (by omega) (by decide) (by decide); omega
  · rw [if_neg c]; omega
theorem byt_B {g : Int → Int} : ∀ j, 0 ≤ byt g j ∧ byt g j ≤ 255 := fun _ => byt_b
section
variable {B : Int → Int} {n s : Int}
theorem tE_no (h : ¬ rnb (B s) = true) : tE B n s = s := sn_out (P := fun j => rnb (B j)) h
theorem tE_nn (h : n ≤ s) : tE B n s = s := sn_end h
theorem tE_yes (h : s < n) (hr : rnb (B s) = true) : s < tE B n s := by
  have e : tE B n s = tE B n (s + 1) := sn_in (P := fun j => rnb (B j)) h hr
  have := (tE_b (B := B) (n := n) (p := s + 1) (by omega)).1
  omega
theorem nN_no (h : ¬ rnb (B s) = true ∨ n ≤ s) : nN B n s = -1 := by
  have e : tE B n s = s := h.elim tE_no tE_nn
  unfold nN nmb; rw [e, if_neg (by omega)]
theorem rn59 {c : Int} (h : c = 59) : ¬ rnb c = true := fun hr => by have := rnb_t.mp hr; omega
/-- the class's token tells the same number -/
theorem cE_N : nmb B s (cE B n s) = nN B n s := by
  unfold cE
  by_cases c : s < n ∧ B s = 59
  · rw [if_pos c, nN_no (Or.inl (rn59 c.2))]
    exact nmb_n (j := s) (Int.le_refl _) (by omega) (by omega)
  · rw [if_neg c]; rfl
theorem nN_run (h : nN B n s ≠ -1) : s < n ∧ rnb (B s) = true := by
  refine ⟨?_, ?_⟩
  · by_cases c : s < n
    · exact c
    · exact absurd (nN_no (Or.inr (by omega))) h
  · by_cases c : rnb (B s) = true
    · exact c
    · exact absurd (nN_no (Or.inl c)) h
theorem cE_run (h : s < n) (hr : rnb (B s) = true) : cE B n s = tE B n s := by
  unfold cE; rw [if_neg (fun hc => rn59 hc.2 hr)]
theorem cE_b (h : s ≤ n) : s ≤ cE B n s ∧ cE B n s ≤ n := by
  unfold cE
  split
  · omega
  · have := tE_b (B := B) h; omega
theorem kd_1 : kd B n s = 1 ↔ s < n ∧ rnb (B s) = true := by
  unfold kd
  by_cases c : n ≤ s
  · rw [if_pos c]; constructor
    · intro h; omega
    · rintro ⟨h, -⟩; omega
  · rw [if_neg c]
    by_cases d : rnb (B s) = true
    · rw [if_pos d]; exact ⟨fun _ => ⟨by omega, d⟩, fun _ => rfl⟩
    · rw [if_neg d]; constructor
      · intro h; split at h <;> omega
      · rintro ⟨-, h⟩; exact absurd h d
theorem kd_b : 0 ≤ kd B n s ∧ kd B n s ≤ 3 := by unfold kd; (repeat' split) <;> omega
theorem kd_2 : kd B n s = 2 ↔ s < n ∧ B s = 59 := by
  unfold kd
  by_cases c : n ≤ s
  · rw [if_pos c]; constructor
    · intro h; omega
    · rintro ⟨h, -⟩; omega
  · rw [if_neg c]
    by_cases d : rnb (B s) = true
    · rw [if_pos d]; constructor
      · intro h; omega
      · rintro ⟨-, h⟩; exact absurd d (rn59 h)
    · rw [if_neg d]
      by_cases e : B s = 59
      · rw [if_pos e]; exact ⟨fun _ => ⟨by omega, e⟩, fun _ => rfl⟩
      · rw [if_neg e]; exact ⟨fun h => by omega, fun h => absurd h.2 e⟩
theorem kd_0 : kd B n s = 0 ↔ n ≤ s := by
  unfold kd
  by_cases c : n ≤ s
  · rw [if_pos c]; exact ⟨fun _ => c, fun _ => rfl⟩
  · rw [if_neg c]; constructor
    · intro h; (repeat' split at h) <;> omega
    · intro h; omega
theorem rE_b (h : s ≤ n) : s ≤ rE B n s ∧ rE B n s ≤ n := by
  unfold rE
  by_cases c : n ≤ s
  · rw [if_pos c]; omega
  · rw [if_neg c]
    split
    · have := tE_b (B := B) h; omega
    · omega
theorem rE_run (h : s < n) (hr : rnb (B s) = true) : rE B n s = tE B n s := by
  unfold rE; rw [if_neg (by omega), if_pos hr]
end
/-- the class's reader is in order -/
def RI (μ : mi_M) : Prop := (0 ≤ μ 13 3 ∧ μ 13 3 ≤ μ 13 4 ∧ μ 13 4 ≤ μ 13 2 ∧ μ 13 2 ≤ 700) ∧ (0 ≤ μ 13 5 ∧ μ 13 5 ≤ 10000)
section
variable {X : mi_X} {Q : mi_R → mi_G → mi_M → Prop} {u : mi_U} {μ : mi_M}
/-- before a token has been read -/
def RIw (μ : mi_M) : Prop := (0 ≤ μ 13 4 ∧ μ 13 4 ≤ μ 13 2 ∧ μ 13 2 ≤ 700) ∧ (0 ≤ μ 13 5 ∧ μ 13 5 ≤ 10000)
theorem RI_w (h : RI μ) : RIw μ := by
  obtain ⟨⟨h1, h2, h3, h4⟩, h5⟩ := h
  exact ⟨⟨by omega, h3, h4⟩, h5⟩
/-- after reading on -/
theorem RI_onw {ν : mi_M} (h : RIw μ) (hq : mq72_13 μ ν) : RI ν ∧ ν 13 5 = μ 13 5 ∧ ν 13 2 = μ 13 2 ∧ ν 12 = μ 12 := by
  obtain ⟨⟨h2, h3, h4⟩, h5⟩ := h
  obtain ⟨q1, q2, q3, q4⟩ := hq
  have e2 : ν 13 2 = μ 13 2 := q2 2 (by decide) (by decide)
  have e5 : ν 13 5 = μ 13 5 := q2 5 (by decide) (by decide)
  have b := tS_b (B := byt (μ 12)) (n := μ 13 2) (p := μ 13 4) h3
  have c := cE_b (B := byt (μ 12)) (n := μ 13 2) (s := tS (byt (μ 12)) (μ 13 2) (μ 13 4)) b.2.1
  exact ⟨⟨⟨by omega, by omega, by omega, by omega⟩, by omega⟩, e5, e2, q1 12 (by decide)⟩
theorem RI_on {ν : mi_M} (h : RI μ) (hq : mq72_13 μ ν) : RI ν ∧ ν 13 5 = μ 13 5 ∧ ν 13 2 = μ 13 2 ∧ ν 12 = μ 12 := RI_onw (RI_w h) hq
/-- a fault told -/
theorem fa_is {k p : Int} (h : μ 13 5 = 0) : fr_l [13] μ (mm74_13 k p μ) ∧ (∀ j, j ≠ 5 → mm74_13 k p μ 13 j = μ 13 j) ∧ mm74_13 k p μ 13 5 = 8 * p + k := by
  unfold mm74_13
  rw [if_pos (by rw [h]; decide)]
  exact ⟨fr_ls (fr_lr _ _) (by decide) _ _, fun j hj => by rw [ms_same, if_neg hj], by rw [ms_same, if_pos rfl]⟩
theorem RI_fa {k p : Int} (h : RI μ) (h5 : μ 13 5 = 0) (hp : 0 ≤ p) (hp' : p ≤ 701) (hk : 0 ≤ k) (hk' : k ≤ 3) : RI (mm74_13 k p μ) := by
  obtain ⟨f1, f2, f3⟩ := fa_is (k := k) (p := p) h5
  unfold RI
  rw [f2 2 (by decide), f2 3 (by decide), f2 4 (by decide), f3]
  exact ⟨h.1, by omega⟩
def mp70_13 (a0 a1 : Int) (μ : mi_M) : Prop := RI μ ∧ mx_R a0 ∧ mx_R a1
def mq70_13 (a0 a1 : Int) (μ : mi_M) (r : Int) (ν : mi_M) : Prop := fr_l [13] μ ν ∧ ν 13 2 = μ 13 2 ∧ RI ν ∧ (μ 13 5 ≠ 0 → r = a0 ∧ ν = μ) ∧ (μ 13 5 = 0 → ν 13 5 = nF (byt (μ 12)) (μ 13 2) (tS (byt (μ 12)) (μ 13 2) (μ 13 4)) a0 a1 ∧ (ν 13 5 = 0 → r = nN (byt (μ 12)) (μ 13 2) (tS (byt (μ 12)) (μ 13 2) (μ 13 4)) ∧ ν 13 4 = tE (byt (μ 12)) (μ 13 2) (tS (byt (μ 12)) (μ 13 2) (μ 13 4))) ∧ (ν 13 5 ≠ 0 → r = a0))
theorem mc70_13 {a0 a1 : Int} (hp : mp70_13 a0 a1 μ) (hq : ∀ r ν, mq70_13 a0 a1 μ r ν → Q (.inl (some (.inl r))) mi_G0 ν) : mi_cok X 70 [(.inr (.inl (some 13))), (.inl a0), (.inl a1)] mi_G0 μ u Q := by
  obtain ⟨hr, r0, r1⟩ := hp
  obtain ⟨⟨h1, h2, h3, h4⟩, h5, h5'⟩ := id hr
  have wm1 : mi_wr (-1) = -1 := by decide
  apply me70_13
  rw [mi_wr_id (z := μ 13 5) (by omega) (by omega)]
  by_cases c : μ 13 5 = 0
  · rw [if_pos c]
    refine ⟨⟨by omega, by omega, h4⟩, fun ν hν => ?_⟩
    obtain ⟨i1, i2, i3, i4⟩ := RI_on hr hν
    obtain ⟨q1, q2, q3, q4⟩ := hν
    have i5 : ν 13 5 = 0 := by omega
    obtain ⟨⟨j1, j2, j3, j4⟩, -⟩ := id i1
    have eN : mv71_13 ν = nN (byt (μ 12)) (μ 13 2) (tS (byt (μ 12)) (μ 13 2) (μ 13 4)) := by
      unfold mv71_13; rw [i4, q3, q4, cE_N]
    have nb := nmb_b (B := byt (μ 12)) byt_B (s := tS (byt (μ 12)) (μ 13 2) (μ 13 4)) (e := tE (byt (μ 12)) (μ 13 2) (tS (byt (μ 12)) (μ 13 2) (μ 13 4)))
    have nb' : -1 ≤ nN (byt (μ 12)) (μ 13 2) (tS (byt (μ 12)) (μ 13 2) (μ 13 4)) ∧ nN (byt (μ 12)) (μ 13 2) (tS (byt (μ 12)) (μ 13 2) (μ 13 4)) ≤ 999999 := nb
    refine ⟨⟨j1, j2, by omega⟩, ?_⟩
    rw [eN, mi_wr_id (z := nN (byt (μ 12)) (μ 13 2) (tS (byt (μ 12)) (μ 13 2) (μ 13 4))) (by omega) (by omega), wm1, mx_wr r0, mx_wr r1]
    have bad : ∀ k : Int, 0 < k → k ≤ 2 → nF (byt (μ 12)) (μ 13 2) (tS (byt (μ 12)) (μ 13 2) (μ 13 4)) a0 a1 = 8 * tS (byt (μ 12)) (μ 13 2) (μ 13 4) + k → Q (.inl (some (.inl a0))) mi_G0 (mm74_13 k (ν 13 3) ν) := fun k k1 k2 hk => by
      obtain ⟨f1, f2, f3⟩ := fa_is (k := k) (p := ν 13 3) i5
      refine hq _ _ ⟨fr_lt q1 f1, by rw [f2 2 (by decide), i3], RI_fa i1 i5 j1 (by omega) (by omega) (by omega), fun h => absurd c h, fun _ => ⟨by rw [f3, hk, q3], fun h => ?_, fun _ => rfl⟩⟩
      rw [f3] at h; omega
    by_cases d1 : nN (byt (μ 12)) (μ 13 2) (tS (byt (μ 12)) (μ 13 2) (μ 13 4)) = -1
    · rw [if_pos d1]; exact bad 1 (by decide) (by decide) (by unfold nF; rw [if_pos d1])
    rw [if_neg d1]
    by_cases d2 : nN (byt (μ 12)) (μ 13 2) (tS (byt (μ 12)) (μ 13 2) (μ 13 4)) < a0
    · rw [if_pos d2]; exact bad 2 (by decide) (by decide) (by unfold nF; rw [if_neg d1, if_pos (Or.inl d2)])
    rw [if_neg d2]
    by_cases d3 : a1 < nN (byt (μ 12)) (μ 13 2) (tS (byt (μ 12)) (μ 13 2) (μ 13 4))
    · rw [if_pos d3]; exact bad 2 (by decide) (by decide) (by unfold nF; rw [if_neg d1, if_pos (Or.inr d3)])
    rw [if_neg d3]
    have ru := nN_run d1
    refine hq _ _ ⟨q1, i3, i1, fun h => absurd c h, fun _ => ⟨?_, fun _ => ⟨rfl, ?_⟩, fun h => absurd i5 h⟩⟩
    · rw [i5]; unfold nF; rw [if_neg d1, if_neg (by omega)]
    · rw [q4, cE_run ru.1 ru.2]
  · rw [if_neg c]
    exact hq _ _ ⟨fr_lr _ _, rfl, hr, fun _ => ⟨rfl, rfl⟩, fun h => absurd h c⟩
/-- the reference's token -/
def RR (μ : mi_M) : Prop := (0 ≤ μ 86 9 ∧ μ 86 9 ≤ μ 86 8 ∧ μ 86 8 ≤ 700) ∧ μ 86 10 = rE (byt (μ 90)) (μ 86 8) (μ 86 9) ∧ μ 86 11 = kd (byt (μ 90)) (μ 86 8) (μ 86 9) ∧ μ 86 12 = 0
theorem RR_t (h : RR μ) : tkr μ := by
  obtain ⟨⟨h1, h2, h3⟩, h4, -, -⟩ := h
  have := rE_b (B := byt (μ 90)) h2
  exact ⟨h1, by omega, by omega, h3⟩
/-- reading on from p -/
theorem RR_on {ν : mi_M} {p : Int} (h0 : 0 ≤ p) (hp : p ≤ μ 86 8) (hn : μ 86 8 ≤ 700) (e10 : μ 86 10 = p) (e12 : μ 86 12 = 0) (hq : mq158_86 μ ν) : RR ν ∧ ν 86 9 = tS (byt (μ 90)) (μ 86 8) p ∧ ν 86 8 = μ 86 8 ∧ ν 90 = μ 90 ∧ ν 86 14 = μ 86 14 := by
  obtain ⟨q1, q2, q3, q4, q5⟩ := hq
  have e8 : ν 86 8 = μ 86 8 := q2 8 (by decide) (by decide) (by decide)
  have e90 : ν 90 = μ 90 := q1 90 (by decide)
  have b := tS_b (B := byt (μ 90)) (n := μ 86 8) (p := p) hp
  rw [e10] at q3 q4 q5
  refine ⟨⟨⟨by omega, by omega, by omega⟩, ?_, ?_, ?_⟩, q3, e8, e90, q2 14 (by decide) (by decide) (by decide)⟩
  · rw [e90, e8, q3]; exact q4
  · rw [e90, e8, q3]; exact q5
  · rw [q2 12 (by decide) (by decide) (by decide)]; exact e12
theorem fb_is {k p : Int} (h : μ 86 12 = 0) : fr_l [86] μ (mm159_86 k p μ) ∧ (∀ j, j ≠ 12 → mm159_86 k p μ 86 j = μ 86 j) ∧ mm159_86 k p μ 86 12 = 8 * p + k := by
  unfold mm159_86
  rw [if_pos (by rw [h]; decide)]
  exact ⟨fr_ls (fr_lr _ _) (by decide) _ _, fun j hj => by rw [ms_same, if_neg hj], by rw [ms_same, if_pos rfl]⟩
abbrev RF : List Int := [9, 10, 11, 12, 14]
def mp162_86 (a0 a1 : Int) (μ : mi_M) : Prop := RR μ ∧ mx_R a0 ∧ mx_R a1
def mq162_86 (a0 a1 : Int) (μ : mi_M) (r : Int) (ν : mi_M) : Prop := fr_l [86] μ ν ∧ (∀ j, j ∉ RF → ν 86 j = μ 86 j) ∧ ((nF (byt (μ 90)) (μ 86 8) (μ 86 9) a0 a1 = 0 ∧ r = 1 ∧ ν 86 14 = nN (byt (μ 90)) (μ 86 8) (μ 86 9) ∧ ν 86 9 = tS (byt (μ 90)) (μ 86 8) (tE (byt (μ 90)) (μ 86 8) (μ 86 9)) ∧ RR ν) ∨ (nF (byt (μ 90)) (μ 86 8) (μ 86 9) a0 a1 ≠ 0 ∧ r = 0 ∧ ν 86 12 = nF (byt (μ 90)) (μ 86 8) (μ 86 9) a0 a1))
theorem mc162_86 {a0 a1 : Int} (hp : mp162_86 a0 a1 μ) (hq : ∀ r ν, mq162_86 a0 a1 μ r ν → Q (.inl (some (.inl r))) mi_G0 ν) : mi_cok X 162 [(.inr (.inl (some 86))), (.inl a0), (.inl a1)] mi_G0 μ u Q := by
  obtain ⟨hr, r0, r1⟩ := hp
  have ht := RR_t hr
  obtain ⟨⟨h1, h2, h3⟩, h4, h5, h6⟩ := id hr
  obtain ⟨-, t2, t3, -⟩ := id ht
  have nb' : -1 ≤ nN (byt (μ 90)) (μ 86 8) (μ 86 9) ∧ nN (byt (μ 90)) (μ 86 8) (μ 86 9) ≤ 999999 := nmb_b (B := byt (μ 90)) byt_B
  have kb := kd_b (B := byt (μ 90)) (n := μ 86 8) (s := μ 86 9)
  apply me162_86
  have h161 : mp161_86 μ := ⟨ht, fun h => by
    rw [h5] at h
    have := kd_1.mp h
    rw [h4, rE_run this.1 this.2]; exact tE_yes this.1 this.2, by omega⟩
  refine ⟨h161, ?_⟩
  by_cases d1 : nN (byt (μ 90)) (μ 86 8) (μ 86 9) = -1
  · have e1 : mv161_86 μ = 0 := by
      unfold mv161_86
      refine if_neg (fun h => h.2 ?_)
      have k1 : kd (byt (μ 90)) (μ 86 8) (μ 86 9) = 1 := by rw [← h5]; exact h.1
      have := kd_1.mp k1
      rw [h4, rE_run this.1 this.2]; exact d1
    rw [e1, if_pos w_00]
    obtain ⟨f1, f2, f3⟩ := fb_is (k := 1) (p := μ 86 9) h6
    have hF : nF (byt (μ 90)) (μ 86 8) (μ 86 9) a0 a1 = 8 * μ 86 9 + 1 := by unfold nF; rw [if_pos d1]
    exact ⟨Or.inl rfl, hq _ _ ⟨f1, fun j hj => f2 j (fun e => hj (by rw [e]; decide)), Or.inr ⟨by omega, rfl, by rw [hF]; exact f3⟩⟩⟩
  · have ru := nN_run d1
    have eE : μ 86 10 = tE (byt (μ 90)) (μ 86 8) (μ 86 9) := by rw [h4, rE_run ru.1 ru.2]
    have e1 : mv161_86 μ = 1 := by
      unfold mv161_86
      refine if_pos ⟨by rw [h5]; exact kd_1.mpr ru, ?_⟩
      rw [eE]; exact d1
    rw [e1, if_neg w_10]
    have hlt := tE_yes ru.1 ru.2
    have hln : tE (byt (μ 90)) (μ 86 8) (μ 86 9) - μ 86 9 ≤ 3 := by
      by_cases c : tE (byt (μ 90)) (μ 86 8) (μ 86 9) - μ 86 9 ≤ 3
      · exact c
      · exact absurd (nmb_l (by omega)) d1
    have hdg : ∀ j, μ 86 9 ≤ j → j < μ 86 10 → 48 ≤ byt (μ 90) j ∧ byt (μ 90) j ≤ 57 := fun j j1 j2 => by
      by_cases c : 48 ≤ byt (μ 90) j ∧ byt (μ 90) j ≤ 57
      · exact c
      · exact absurd (nmb_n j1 (by omega) c) d1
    have hval : nN (byt (μ 90)) (μ 86 8) (μ 86 9) = dv (byt (μ 90)) (μ 86 10 - μ 86 9).toNat (μ 86 9) 0 := by
      unfold nN nmb; rw [if_pos (by omega), eE]
    refine qp_u (A := fun q ρ => mk162_86_27 X Q u a0 a1 q ρ) (fun q ρ => fr_l [86] μ ρ ∧ (∀ j, j ≠ 14 → ρ 86 j = μ 86 j) ∧ dv (byt (μ 90)) (μ 86 10 - q).toNat q (ρ 86 14) = nN (byt (μ 90)) (μ 86 8) (μ 86 9)) (a := μ 86 9) (n := μ 86 10) t2 ?_ ?_ ⟨fr_ls (fr_lr _ _) (by decide) _ _, fun j hj => by rw [ms_same, if_neg hj], by rw [ms_same, if_pos rfl]; exact hval.symm⟩
    · rintro ρ ⟨g1, g2, g3⟩
      rw [show (μ 86 10 - μ 86 10).toNat = 0 by omega] at g3
      have g3' : ρ 86 14 = nN (byt (μ 90)) (μ 86 8) (μ 86 9) := g3
      apply mh162_86_27
      rw [g2 10 (by decide), if_neg (Int.lt_irrefl _), mx_withinM (by rw [g3']; unfold mx_R; omega) r0 r1, g3']
      by_cases d2 : a0 ≤ nN (byt (μ 90)) (μ 86 8) (μ 86 9) ∧ nN (byt (μ 90)) (μ 86 8) (μ 86 9) ≤ a1
      · rw [if_pos d2, if_neg w_10]
        refine ⟨⟨by rw [g2 10 (by decide)]; omega, by rw [g2 10 (by decide), g2 8 (by decide)]; omega, by rw [g2 8 (by decide)]; omega⟩, fun ν hν => hq _ _ ?_⟩
        obtain ⟨m1, m2, m3, m4, m5⟩ := RR_on (μ := ρ) (p := tE (byt (μ 90)) (μ 86 8) (μ 86 9)) (by omega) (by rw [g2 8 (by decide)]; omega) (by rw [g2 8 (by decide)]; omega) (by rw [g2 10 (by decide)]; exact eE) (by rw [g2 12 (by decide)]; exact h6) hν
        refine ⟨fr_lt g1 hν.1, fun j hj => ?_, Or.inl ⟨?_, rfl, by rw [m5]; exact g3', ?_, m1⟩⟩
        · rw [hν.2.1 j (fun e => hj (by rw [e]; decide)) (fun e => hj (by rw [e]; decide)) (fun e => hj (by rw [e]; decide)), g2 j (fun e => hj (by rw [e]; decide))]
        · unfold nF; rw [if_neg d1, if_neg (by omega)]
        · rw [m2, g1 90 (by decide), g2 8 (by decide)]
      · rw [if_neg d2, if_pos w_00]
        obtain ⟨f1, f2, f3⟩ := fb_is (μ := ρ) (k := 2) (p := ρ 86 9) (by rw [g2 12 (by decide)]; exact h6)
        have hF : nF (byt (μ 90)) (μ 86 8) (μ 86 9) a0 a1 = 8 * μ 86 9 + 2 := by unfold nF; rw [if_neg d1, if_pos (by omega)]
        refine ⟨Or.inl rfl, hq _ _ ⟨fr_lt g1 f1, fun j hj => ?_, Or.inr ⟨by omega, rfl, ?_⟩⟩⟩
        · rw [f2 j (fun e => hj (by rw [e]; decide)), g2 j (fun e => hj (by rw [e]; decide))]
        · rw [hF, f3, g2 9 (by decide)]
    · rintro q ρ q1 q2 ⟨g1, g2, g3⟩ k
      have e90 : ρ 90 = μ 90 := g1 90 (by decide)
      obtain ⟨p1, p2⟩ := v156_in (μ := ρ) (q := q) (by omega) (by rw [g2 8 (by decide)]; omega) (by rw [g2 8 (by decide)]; omega)
      apply mh162_86_27
      rw [g2 10 (by decide), mi_wr_id (by omega) (by omega), mi_wr_id (by omega) (by omega), if_pos q2, p2, e90]
      refine ⟨p1, k _ ⟨fr_ls g1 (by decide) _ _, fun j hj => by rw [ms_same, if_neg hj]; exact g2 j hj, ?_⟩⟩
      rw [ms_same, if_pos rfl, ← g3, show (μ 86 10 - q).toNat = (μ 86 10 - (q + 1)).toNat + 1 by omega]
      show _ = (if dgb (byt (μ 90) q) = true then dv (byt (μ 90)) (μ 86 10 - (q + 1)).toNat (q + 1) (ρ 86 14 * 10 + byt (μ 90) q - 48) else -1)
      rw [if_pos (dgb_t.mpr (hdg q q1 q2)), show 10 * ρ 86 14 + byt (μ 90) q - 48 = ρ 86 14 * 10 + byt (μ 90) q - 48 by omega]
end
