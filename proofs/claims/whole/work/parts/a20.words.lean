/-! PRINTED by wip/whole/gen/mka20.py: tokens of the class -/
theorem getD_b {w : List Int} (h : ∀ c ∈ w, 0 ≤ c ∧ c ≤ 255) (l : Nat) : 0 ≤ w.getD l 0 ∧ w.getD l 0 ≤ 255 := by
  unfold List.getD
  cases e : w[l]? with
  | none => decide
  | some c => exact h c (List.mem_of_getElem? e)
/-- the reader's places are in order -/
def tk_p (μ : mi_M) : Prop := 0 ≤ μ 13 3 ∧ μ 13 3 ≤ μ 13 4 ∧ μ 13 4 ≤ 700
section
variable {X : mi_X} {Q : mi_R → mi_G → mi_M → Prop} {u : mi_U} {μ : mi_M}
theorem v75_is {c : Int} (h : 0 ≤ c ∧ c ≤ 255) : mv75 c μ = if bkb c = true then 1 else 0 := by
  have w32 : mi_wr 32 = 32 := by decide
  have w10 : mi_wr 10 = 10 := by decide
  unfold mv75
  rw [mi_wr_id (by omega) (by omega), w32, w10]
  by_cases d : c = 32
  · rw [if_pos d, if_pos (bkb_t.mpr (Or.inl d))]
  · rw [if_neg d]
    by_cases e : c = 10
    · rw [if_pos e, if_pos (bkb_t.mpr (Or.inr e))]
    · rw [if_neg e, if_neg (fun h => by have := bkb_t.mp h; omega)]
theorem v76_is {c : Int} (h : 0 ≤ c ∧ c ≤ 255) : mv76 c μ = if dgb c = true then 1 else 0 := by
  have w48 : mi_wr 48 = 48 := by decide
  have w57 : mi_wr 57 = 57 := by decide
  unfold mv76
  rw [mi_wr_id (by omega) (by omega), w48, w57]
  by_cases d : 48 ≤ c ∧ c ≤ 57
  · rw [if_neg (by omega), if_neg (by omega), if_pos (dgb_t.mpr d)]
  · rw [if_neg (show ¬ dgb c = true from fun h => d (dgb_t.mp h))]
    by_cases e : c < 48
    · rw [if_pos e]
    · rw [if_neg e, if_pos (by omega)]
theorem v77_is {c : Int} (h : 0 ≤ c ∧ c ≤ 255) : mv77 c μ = if rnb c = true then 1 else 0 := by
  have w48 : mi_wr 48 = 48 := by decide
  have w57 : mi_wr 57 = 57 := by decide
  have w97 : mi_wr 97 = 97 := by decide
  have w122 : mi_wr 122 = 122 := by decide
  unfold mv77
  rw [mi_wr_id (by omega) (by omega), w48, w57, w97, w122]
  by_cases d : (97 ≤ c ∧ c ≤ 122) ∨ (48 ≤ c ∧ c ≤ 57)
  · rw [if_pos (rnb_t.mpr d)]
    (repeat' split) <;> omega
  · rw [if_neg (show ¬ rnb c = true from fun h => d (rnb_t.mp h))]
    (repeat' split) <;> omega
theorem v157_is {c : Int} (h : -1 ≤ c ∧ c ≤ 255) : mv157 c μ = if rnb c = true then 1 else 0 := by
  unfold mv157
  rw [mx_withinM (show mx_R c by unfold mx_R; omega) (by unfold mx_R; omega) (by unfold mx_R; omega), mx_withinM (show mx_R c by unfold mx_R; omega) (by unfold mx_R; omega) (by unfold mx_R; omega)]
  by_cases d : 97 ≤ c ∧ c ≤ 122
  · rw [if_pos d, if_neg w_10, if_pos (rnb_t.mpr (Or.inl d))]
  · rw [if_neg d, if_pos w_00]
    by_cases e : 48 ≤ c ∧ c ≤ 57
    · rw [if_pos e, if_neg w_10, if_pos (rnb_t.mpr (Or.inr e))]
    · rw [if_neg e, if_pos w_00, if_neg (fun h => by have := rnb_t.mp h; omega)]
/-- the class reads on -/
def mp72_13 (μ : mi_M) : Prop := 0 ≤ μ 13 4 ∧ μ 13 4 ≤ μ 13 2 ∧ μ 13 2 ≤ 700
def mq72_13 (μ ν : mi_M) : Prop := fr_l [13] μ ν ∧ (∀ j, j ≠ 3 → j ≠ 4 → ν 13 j = μ 13 j) ∧ ν 13 3 = tS (byt (μ 12)) (μ 13 2) (μ 13 4) ∧ ν 13 4 = cE (byt (μ 12)) (μ 13 2) (tS (byt (μ 12)) (μ 13 2) (μ 13 4))
theorem ad_2 {s : Int} {ρ : mi_M} (hs : 0 ≤ s) (hs' : s ≤ μ 13 2) (hn : μ 13 2 ≤ 700) (hf : fr_l [13] μ ρ) (ho : ∀ j, j ≠ 3 → j ≠ 4 → ρ 13 j = μ 13 j) (h3 : ρ 13 3 = s) (h4 : ρ 13 4 = s) (hq : ∀ ν, fr_l [13] μ ν → (∀ j, j ≠ 3 → j ≠ 4 → ν 13 j = μ 13 j) → ν 13 3 = s → ν 13 4 = tE (byt (μ 12)) (μ 13 2) s → Q (.inl none) mi_G0 ν) : mk72_13_95 X Q u ρ := by
  refine wl (A := fun ρ => mk72_13_95 X Q u ρ) (I := fun q ρ => fr_l [13] μ ρ ∧ (∀ j, j ≠ 3 → j ≠ 4 → ρ 13 j = μ 13 j) ∧ ρ 13 3 = s ∧ ρ 13 4 = q ∧ s ≤ q ∧ tE (byt (μ 12)) (μ 13 2) q = tE (byt (μ 12)) (μ 13 2) s) (n := μ 13 2) ?_ _ s ρ rfl hs' ⟨hf, ho, h3, h4, Int.le_refl _, rfl⟩
  rintro q ρ hle ⟨hf, ho, h3, h4, hq1, hq2⟩ k
  have e12 : ρ 12 = μ 12 := hf 12 (by decide)
  have bb := byt_b (g := μ 12) (j := q)
  apply mh72_13_95
  rw [h4, ho 2 (by decide) (by decide), mi_wr_id (by omega) (by omega), mi_wr_id (by omega) (by omega), show mv95_11 q ρ = byt (ρ 12) q from rfl, e12, v77_is bb]
  by_cases c : q < μ 13 2
  · rw [if_pos c]
    refine ⟨⟨by omega, by omega⟩, ?_⟩
    by_cases d : rnb (byt (μ 12) q) = true
    · rw [if_pos d, if_neg w_10]
      refine k _ c ⟨fr_ls hf (by decide) _ _, fun j j3 j4 => by rw [ms_same, if_neg j4]; exact ho j j3 j4, by rw [ms_same, if_neg (by decide)]; exact h3, by rw [ms_same, if_pos rfl], by omega, ?_⟩
      rw [← hq2]; exact (sn_in (P := fun j => rnb (byt (μ 12) j)) c d).symm
    · rw [if_neg d, if_pos w_00]
      refine hq _ hf ho h3 ?_
      rw [h4, ← hq2]; exact (sn_out (P := fun j => rnb (byt (μ 12) j)) d).symm
  · rw [if_neg c]
    refine hq _ hf ho h3 ?_
    rw [h4, ← hq2]; exact (sn_end (by omega)).symm
theorem mc72_13 (hp : mp72_13 μ) (hq : ∀ ν, mq72_13 μ ν → Q (.inl none) mi_G0 ν) : mi_cok X 72 [(.inr (.inl (some 13)))] mi_G0 μ u Q := by
  obtain ⟨h1, h2, h3⟩ := hp
  apply me72_13
  refine wl (A := fun ρ => mk72_13_8 X Q u ρ) (I := fun q ρ => fr_l [13] μ ρ ∧ (∀ j, j ≠ 3 → j ≠ 4 → ρ 13 j = μ 13 j) ∧ ρ 13 3 = q ∧ μ 13 4 ≤ q ∧ tS (byt (μ 12)) (μ 13 2) q = tS (byt (μ 12)) (μ 13 2) (μ 13 4)) (n := μ 13 2) ?_ _ (μ 13 4) _ rfl h2 ⟨fr_ls (fr_lr _ _) (by decide) _ _, fun j j3 _ => by rw [ms_same, if_neg j3], by rw [ms_same, if_pos rfl], Int.le_refl _, rfl⟩
  rintro q ρ hle ⟨hf, ho, e3, hq1, hq2⟩ k
  have e12 : ρ 12 = μ 12 := hf 12 (by decide)
  have bb := byt_b (g := μ 12) (j := q)
  have w59 : mi_wr 59 = 59 := by decide
  -- the token begins at q
  have fin : tS (byt (μ 12)) (μ 13 2) q = q → (¬ (q < μ 13 2 ∧ byt (μ 12) q = 59)) → mk72_13_95 X Q u (mi_set ρ 13 4 q) := fun hs hn => by
    refine ad_2 (μ := μ) (s := q) (by omega) hle h3 (fr_ls hf (by decide) _ _) (fun j j3 j4 => by rw [ms_same, if_neg j4]; exact ho j j3 j4) (by rw [ms_same, if_neg (by decide)]; exact e3) (by rw [ms_same, if_pos rfl]) (fun ν g1 g2 g3 g4 => hq _ ⟨g1, g2, ?_, ?_⟩)
    · rw [← hq2, hs]; exact g3
    · rw [← hq2, hs]; unfold cE; rw [if_neg hn]; exact g4
  apply mh72_13_8
  rw [e3, ho 2 (by decide) (by decide), mi_wr_id (by omega) (by omega), mi_wr_id (by omega) (by omega), show mv95_11 q ρ = byt (ρ 12) q from rfl, show mv95_11 q (mi_set ρ 13 4 q) = byt (mi_set ρ 13 4 q 12) q from rfl, ms_other _ (show (12 : Nat) ≠ 13 by decide), e12, v75_is bb, mi_wr_id (z := byt (μ 12) q) (by omega) (by omega), w59]
  by_cases c : q < μ 13 2
  · rw [if_pos c]
    refine ⟨⟨by omega, by omega⟩, ?_⟩
    by_cases d : bkb (byt (μ 12) q) = true
    · rw [if_pos d, if_neg w_10]
      refine k _ c ⟨fr_ls hf (by decide) _ _, fun j j3 j4 => by rw [ms_same, if_neg j3]; exact ho j j3 j4, by rw [ms_same, if_pos rfl], by omega, ?_⟩
      rw [← hq2]; exact (sn_in (P := fun j => bkb (byt (μ 12) j)) c d).symm
    · have hs : tS (byt (μ 12)) (μ 13 2) q = q := sn_out (P := fun j => bkb (byt (μ 12) j)) d
      rw [if_neg d, if_pos w_00, if_pos c]
      refine ⟨⟨by omega, by omega⟩, ?_⟩
      by_cases f : byt (μ 12) q = 59
      · rw [if_pos f]
        refine hq _ ⟨fr_ls (fr_ls hf (by decide) _ _) (by decide) _ _, fun j j3 j4 => by rw [ms_same, if_neg j4, ms_same, if_neg j4]; exact ho j j3 j4, ?_, ?_⟩
        · rw [ms_same, if_neg (by decide), ms_same, if_neg (by decide), ← hq2, hs]; exact e3
        · rw [ms_same, if_pos rfl, ← hq2, hs]; unfold cE; rw [if_pos ⟨c, f⟩]
      · rw [if_neg f]
        exact fin hs (fun h => f h.2)
  · rw [if_neg c, if_neg c]
    exact fin (sn_end (by omega)) (fun h => c h.1)
/-- the number told -/
def mp71_13 (μ : mi_M) : Prop := tk_p μ
noncomputable def mv71_13 (μ : mi_M) : Int := nmb (byt (μ 12)) (μ 13 3) (μ 13 4)
theorem mc71_13 (hp : mp71_13 μ) (hq : Q (.inl (some (.inl (mv71_13 μ)))) mi_G0 μ) : mi_cok X 71 [(.inr (.inl (some 13)))] mi_G0 μ u Q := by
  obtain ⟨h1, h2, h3⟩ := hp
  have w1 : mi_wr 1 = 1 := by decide
  have w3 : mi_wr 3 = 3 := by decide
  apply me71_13
  unfold mv71_13 nmb at hq
  rw [mi_wr_id (z := μ 13 4 - μ 13 3) (by omega) (by omega), w1, w3]
  by_cases c1 : μ 13 4 - μ 13 3 < 1
  · rw [if_pos c1]; rw [if_neg (by omega)] at hq; exact hq
  rw [if_neg c1]
  by_cases c2 : 3 < μ 13 4 - μ 13 3
  · rw [if_pos c2]; rw [if_neg (by omega)] at hq; exact hq
  rw [if_neg c2]
  rw [if_pos (by omega)] at hq
  refine qp_u (A := fun q a => mk71_13_35 X Q u a q μ) (fun q a => dv (byt (μ 12)) (μ 13 4 - q).toNat q a = dv (byt (μ 12)) (μ 13 4 - μ 13 3).toNat (μ 13 3) 0) (a := μ 13 3) (n := μ 13 4) h2 ?_ ?_ rfl
  · intro a ha
    apply mh71_13_35
    rw [if_neg (Int.lt_irrefl _)]
    rw [← ha, show (μ 13 4 - μ 13 4).toNat = 0 by omega] at hq
    exact hq
  · intro q a g1 g2 ha k
    have bb := byt_b (g := μ 12) (j := q)
    apply mh71_13_35
    rw [mi_wr_id (by omega) (by omega), mi_wr_id (by omega) (by omega), if_pos g2, show mv95_11 q μ = byt (μ 12) q from rfl, v76_is bb]
    refine ⟨⟨by omega, by omega⟩, ?_⟩
    rw [show (μ 13 4 - q).toNat = (μ 13 4 - (q + 1)).toNat + 1 by omega] at ha
    have ha' : (if dgb (byt (μ 12) q) = true then dv (byt (μ 12)) (μ 13 4 - (q + 1)).toNat (q + 1) (a * 10 + byt (μ 12) q - 48) else -1) = dv (byt (μ 12)) (μ 13 4 - μ 13 3).toNat (μ 13 3) 0 := ha
    by_cases d : dgb (byt (μ 12) q) = true
    · rw [if_pos d, if_neg w_10]
      rw [if_pos d] at ha'
      exact k _ ha'
    · rw [if_neg d, if_pos w_00]
      rw [if_neg d] at ha'
      rw [← ha'] at hq; exact hq

abbrev wd1020 : List Int := [115, 105, 122, 101]
noncomputable def mv73_13_1020 (μ : mi_M) : Int := if isw (byt (μ 12)) (μ 13 3) (μ 13 4) wd1020 = true then 1 else 0
def mp73_13_1020 (μ : mi_M) : Prop := tk_p μ
theorem mc73_13_1020 (hp : mp73_13_1020 μ) (hq : Q (.inl (some (.inl (mv73_13_1020 μ)))) mi_G0 μ) : mi_cok X 73 [(.inr (.inl (some 13))), (.inr (.inl (some 1020)))] mi_G0 μ u Q := by
  obtain ⟨h1, h2, h3⟩ := hp
  apply me73_13_1020
  rw [show ((mi_rl X 1020 : Nat) : Int) = 4 from rfl]
  apply mh73_13_1020_13
  unfold mv73_13_1020 isw at hq
  rw [mi_wr_id (by omega) (by omega), mi_wr_id (by omega) (by omega)]
  by_cases c : μ 13 4 - μ 13 3 = 4
  · rw [if_pos c]
    rw [decide_eq_true (show μ 13 4 - μ 13 3 = ((wd1020.length : Nat) : Int) from c), Bool.true_and] at hq
    refine tk_go (A := fun l => mk73_13_1020_20 X Q u l μ) (Qt := Q (.inl (some (.inl 1))) mi_G0 μ) (Qf := Q (.inl (some (.inl 0))) mi_G0 μ) (B := byt (μ 12)) (s := μ 13 3) (w := wd1020) (fun l hw hl => ?_) wd1020 0 (Nat.zero_le _) rfl ?_
    · skip
      generalize hi : ((l : Nat) : Int) = i at hl ⊢
      apply mh73_13_1020_20
      rw [show ((mi_rl X 1020 : Nat) : Int) = 4 from rfl]
      apply mh73_13_1020_25
      rw [show ((mi_rl X 1020 : Nat) : Int) = 4 from rfl]
      by_cases d : l < 4
      · rw [if_pos (show l < wd1020.length from d)] at hl
        have wb : 0 ≤ wd1020.getD l 0 ∧ wd1020.getD l 0 ≤ 255 := getD_b (by decide) l
        have bb := byt_b (g := μ 12) (j := μ 13 3 + i)
        rw [mi_wr_id (z := i) (by omega) (by omega), show mi_wr 4 = 4 by decide, if_pos (by omega), show mi_ro X 1020 i = wd1020.getD i.toNat 0 from rfl, show i.toNat = l by omega, show mv95_11 (μ 13 3 + i) μ = byt (μ 12) (μ 13 3 + i) from rfl, mi_wr_id (z := byt (μ 12) (μ 13 3 + i)) (by omega) (by omega), mi_wr_id (z := wd1020.getD l 0) (by omega) (by omega)]
        exact ⟨⟨by omega, by omega⟩, by omega, hl⟩
      · rw [if_neg (show ¬ l < wd1020.length from d)] at hl
        have hw' : l ≤ 4 := hw
        rw [mi_wr_id (z := i) (by omega) (by omega), show mi_wr 4 = 4 by decide, if_neg (by omega)]
        exact hl
    · rw [show μ 13 3 + ((0 : Nat) : Int) = μ 13 3 by omega]
      by_cases d : eqw (byt (μ 12)) (μ 13 3) wd1020 = true
      · rw [if_pos d] at hq ⊢; exact hq
      · rw [if_neg d] at hq ⊢; exact hq
  · rw [if_neg c]
    rw [decide_eq_false (show ¬ μ 13 4 - μ 13 3 = ((wd1020.length : Nat) : Int) from c), Bool.false_and, if_neg (by decide)] at hq
    exact hq
abbrev wd1021 : List Int := [59]
noncomputable def mv73_13_1021 (μ : mi_M) : Int := if isw (byt (μ 12)) (μ 13 3) (μ 13 4) wd1021 = true then 1 else 0
def mp73_13_1021 (μ : mi_M) : Prop := tk_p μ
theorem mc73_13_1021 (hp : mp73_13_1021 μ) (hq : Q (.inl (some (.inl (mv73_13_1021 μ)))) mi_G0 μ) : mi_cok X 73 [(.inr (.inl (some 13))), (.inr (.inl (some 1021)))] mi_G0 μ u Q := by
  obtain ⟨h1, h2, h3⟩ := hp
  apply me73_13_1021
  rw [show ((mi_rl X 1021 : Nat) : Int) = 1 from rfl]
  apply mh73_13_1021_13
  unfold mv73_13_1021 isw at hq
  rw [mi_wr_id (by omega) (by omega), mi_wr_id (by omega) (by omega)]
  by_cases c : μ 13 4 - μ 13 3 = 1
  · rw [if_pos c]
    rw [decide_eq_true (show μ 13 4 - μ 13 3 = ((wd1021.length : Nat) : Int) from c), Bool.true_and] at hq
    refine tk_go (A := fun l => mk73_13_1021_20 X Q u l μ) (Qt := Q (.inl (some (.inl 1))) mi_G0 μ) (Qf := Q (.inl (some (.inl 0))) mi_G0 μ) (B := byt (μ 12)) (s := μ 13 3) (w := wd1021) (fun l hw hl => ?_) wd1021 0 (Nat.zero_le _) rfl ?_
    · skip
      generalize hi : ((l : Nat) : Int) = i at hl ⊢
      apply mh73_13_1021_20
      rw [show ((mi_rl X 1021 : Nat) : Int) = 1 from rfl]
      apply mh73_13_1021_25
      rw [show ((mi_rl X 1021 : Nat) : Int) = 1 from rfl]
      by_cases d : l < 1
      · rw [if_pos (show l < wd1021.length from d)] at hl
        have wb : 0 ≤ wd1021.getD l 0 ∧ wd1021.getD l 0 ≤ 255 := getD_b (by decide) l
        have bb := byt_b (g := μ 12) (j := μ 13 3 + i)
        rw [mi_wr_id (z := i) (by omega) (by omega), show mi_wr 1 = 1 by decide, if_pos (by omega), show mi_ro X 1021 i = wd1021.getD i.toNat 0 from rfl, show i.toNat = l by omega, show mv95_11 (μ 13 3 + i) μ = byt (μ 12) (μ 13 3 + i) from rfl, mi_wr_id (z := byt (μ 12) (μ 13 3 + i)) (by omega) (by omega), mi_wr_id (z := wd1021.getD l 0) (by omega) (by omega)]
        exact ⟨⟨by omega, by omega⟩, by omega, hl⟩
      · rw [if_neg (show ¬ l < wd1021.length from d)] at hl
        have hw' : l ≤ 1 := hw
        rw [mi_wr_id (z := i) (by omega) (by omega), show mi_wr 1 = 1 by decide, if_neg (by omega)]
        exact hl
    · rw [show μ 13 3 + ((0 : Nat) : Int) = μ 13 3 by omega]
      by_cases d : eqw (byt (μ 12)) (μ 13 3) wd1021 = true
      · rw [if_pos d] at hq ⊢; exact hq
      · rw [if_neg d] at hq ⊢; exact hq
  · rw [if_neg c]
    rw [decide_eq_false (show ¬ μ 13 4 - μ 13 3 = ((wd1021.length : Nat) : Int) from c), Bool.false_and, if_neg (by decide)] at hq
    exact hq
abbrev wd1022 : List Int := [109, 111, 115, 116]
noncomputable def mv73_13_1022 (μ : mi_M) : Int := if isw (byt (μ 12)) (μ 13 3) (μ 13 4) wd1022 = true then 1 else 0
def mp73_13_1022 (μ : mi_M) : Prop := tk_p μ
theorem mc73_13_1022 (hp : mp73_13_1022 μ) (hq : Q (.inl (some (.inl (mv73_13_1022 μ)))) mi_G0 μ) : mi_cok X 73 [(.inr (.inl (some 13))), (.inr (.inl (some 1022)))] mi_G0 μ u Q := by
  obtain ⟨h1, h2, h3⟩ := hp
  apply me73_13_1022
  rw [show ((mi_rl X 1022 : Nat) : Int) = 4 from rfl]
  apply mh73_13_1022_13
  unfold mv73_13_1022 isw at hq
  rw [mi_wr_id (by omega) (by omega), mi_wr_id (by omega) (by omega)]
  by_cases c : μ 13 4 - μ 13 3 = 4
  · rw [if_pos c]
    rw [decide_eq_true (show μ 13 4 - μ 13 3 = ((wd1022.length : Nat) : Int) from c), Bool.true_and] at hq
    refine tk_go (A := fun l => mk73_13_1022_20 X Q u l μ) (Qt := Q (.inl (some (.inl 1))) mi_G0 μ) (Qf := Q (.inl (some (.inl 0))) mi_G0 μ) (B := byt (μ 12)) (s := μ 13 3) (w := wd1022) (fun l hw hl => ?_) wd1022 0 (Nat.zero_le _) rfl ?_
    · skip
      generalize hi : ((l : Nat) : Int) = i at hl ⊢
      apply mh73_13_1022_20
      rw [show ((mi_rl X 1022 : Nat) : Int) = 4 from rfl]
      apply mh73_13_1022_25
      rw [show ((mi_rl X 1022 : Nat) : Int) = 4 from rfl]
      by_cases d : l < 4
      · rw [if_pos (show l < wd1022.length from d)] at hl
        have wb : 0 ≤ wd1022.getD l 0 ∧ wd1022.getD l 0 ≤ 255 := getD_b (by decide) l
        have bb := byt_b (g := μ 12) (j := μ 13 3 + i)
        rw [mi_wr_id (z := i) (by omega) (by omega), show mi_wr 4 = 4 by decide, if_pos (by omega), show mi_ro X 1022 i = wd1022.getD i.toNat 0 from rfl, show i.toNat = l by omega, show mv95_11 (μ 13 3 + i) μ = byt (μ 12) (μ 13 3 + i) from rfl, mi_wr_id (z := byt (μ 12) (μ 13 3 + i)) (by omega) (by omega), mi_wr_id (z := wd1022.getD l 0) (by omega) (by omega)]
        exact ⟨⟨by omega, by omega⟩, by omega, hl⟩
      · rw [if_neg (show ¬ l < wd1022.length from d)] at hl
        have hw' : l ≤ 4 := hw
        rw [mi_wr_id (z := i) (by omega) (by omega), show mi_wr 4 = 4 by decide, if_neg (by omega)]
        exact hl
    · rw [show μ 13 3 + ((0 : Nat) : Int) = μ 13 3 by omega]
      by_cases d : eqw (byt (μ 12)) (μ 13 3) wd1022 = true
      · rw [if_pos d] at hq ⊢; exact hq
      · rw [if_neg d] at hq ⊢; exact hq
  · rw [if_neg c]
    rw [decide_eq_false (show ¬ μ 13 4 - μ 13 3 = ((wd1022.length : Nat) : Int) from c), Bool.false_and, if_neg (by decide)] at hq
    exact hq
abbrev wd1023 : List Int := [119, 105, 110, 100, 111, 119]
noncomputable def mv73_13_1023 (μ : mi_M) : Int := if isw (byt (μ 12)) (μ 13 3) (μ 13 4) wd1023 = true then 1 else 0
def mp73_13_1023 (μ : mi_M) : Prop := tk_p μ
theorem mc73_13_1023 (hp : mp73_13_1023 μ) (hq : Q (.inl (some (.inl (mv73_13_1023 μ)))) mi_G0 μ) : mi_cok X 73 [(.inr (.inl (some 13))), (.inr (.inl (some 1023)))] mi_G0 μ u Q := by
  obtain ⟨h1, h2, h3⟩ := hp
  apply me73_13_1023
  rw [show ((mi_rl X 1023 : Nat) : Int) = 6 from rfl]
  apply mh73_13_1023_13
  unfold mv73_13_1023 isw at hq
  rw [mi_wr_id (by omega) (by omega), mi_wr_id (by omega) (by omega)]
  by_cases c : μ 13 4 - μ 13 3 = 6
  · rw [if_pos c]
    rw [decide_eq_true (show μ 13 4 - μ 13 3 = ((wd1023.length : Nat) : Int) from c), Bool.true_and] at hq
    refine tk_go (A := fun l => mk73_13_1023_20 X Q u l μ) (Qt := Q (.inl (some (.inl 1))) mi_G0 μ) (Qf := Q (.inl (some (.inl 0))) mi_G0 μ) (B := byt (μ 12)) (s := μ 13 3) (w := wd1023) (fun l hw hl => ?_) wd1023 0 (Nat.zero_le _) rfl ?_
    · skip
      generalize hi : ((l : Nat) : Int) = i at hl ⊢
      apply mh73_13_1023_20
      rw [show ((mi_rl X 1023 : Nat) : Int) = 6 from rfl]
      apply mh73_13_1023_25
      rw [show ((mi_rl X 1023 : Nat) : Int) = 6 from rfl]
      by_cases d : l < 6
      · rw [if_pos (show l < wd1023.length from d)] at hl
        have wb : 0 ≤ wd1023.getD l 0 ∧ wd1023.getD l 0 ≤ 255 := getD_b (by decide) l
        have bb := byt_b (g := μ 12) (j := μ 13 3 + i)
        rw [mi_wr_id (z := i) (by omega) (by omega), show mi_wr 6 = 6 by decide, if_pos (by omega), show mi_ro X 1023 i = wd1023.getD i.toNat 0 from rfl, show i.toNat = l by omega, show mv95_11 (μ 13 3 + i) μ = byt (μ 12) (μ 13 3 + i) from rfl, mi_wr_id (z := byt (μ 12) (μ 13 3 + i)) (by omega) (by omega), mi_wr_id (z := wd1023.getD l 0) (by omega) (by omega)]
        exact ⟨⟨by omega, by omega⟩, by omega, hl⟩
      · rw [if_neg (show ¬ l < wd1023.length from d)] at hl
        have hw' : l ≤ 6 := hw
        rw [mi_wr_id (z := i) (by omega) (by omega), show mi_wr 6 = 6 by decide, if_neg (by omega)]
        exact hl
    · rw [show μ 13 3 + ((0 : Nat) : Int) = μ 13 3 by omega]
      by_cases d : eqw (byt (μ 12)) (μ 13 3) wd1023 = true
      · rw [if_pos d] at hq ⊢; exact hq
      · rw [if_neg d] at hq ⊢; exact hq
  · rw [if_neg c]
    rw [decide_eq_false (show ¬ μ 13 4 - μ 13 3 = ((wd1023.length : Nat) : Int) from c), Bool.false_and, if_neg (by decide)] at hq
    exact hq
abbrev wd1024 : List Int := [112, 101, 110, 97, 108, 116, 121]
noncomputable def mv73_13_1024 (μ : mi_M) : Int := if isw (byt (μ 12)) (μ 13 3) (μ 13 4) wd1024 = true then 1 else 0
def mp73_13_1024 (μ : mi_M) : Prop := tk_p μ
theorem mc73_13_1024 (hp : mp73_13_1024 μ) (hq : Q (.inl (some (.inl (mv73_13_1024 μ)))) mi_G0 μ) : mi_cok X 73 [(.inr (.inl (some 13))), (.inr (.inl (some 1024)))] mi_G0 μ u Q := by
  obtain ⟨h1, h2, h3⟩ := hp
  apply me73_13_1024
  rw [show ((mi_rl X 1024 : Nat) : Int) = 7 from rfl]
  apply mh73_13_1024_13
  unfold mv73_13_1024 isw at hq
  rw [mi_wr_id (by omega) (by omega), mi_wr_id (by omega) (by omega)]
  by_cases c : μ 13 4 - μ 13 3 = 7
  · rw [if_pos c]
    rw [decide_eq_true (show μ 13 4 - μ 13 3 = ((wd1024.length : Nat) : Int) from c), Bool.true_and] at hq
    refine tk_go (A := fun l => mk73_13_1024_20 X Q u l μ) (Qt := Q (.inl (some (.inl 1))) mi_G0 μ) (Qf := Q (.inl (some (.inl 0))) mi_G0 μ) (B := byt (μ 12)) (s := μ 13 3) (w := wd1024) (fun l hw hl => ?_) wd1024 0 (Nat.zero_le _) rfl ?_
    · skip
      generalize hi : ((l : Nat) : Int) = i at hl ⊢
      apply mh73_13_1024_20
      rw [show ((mi_rl X 1024 : Nat) : Int) = 7 from rfl]
      apply mh73_13_1024_25
      rw [show ((mi_rl X 1024 : Nat) : Int) = 7 from rfl]
      by_cases d : l < 7
      · rw [if_pos (show l < wd1024.length from d)] at hl
        have wb : 0 ≤ wd1024.getD l 0 ∧ wd1024.getD l 0 ≤ 255 := getD_b (by decide) l
        have bb := byt_b (g := μ 12) (j := μ 13 3 + i)
        rw [mi_wr_id (z := i) (by omega) (by omega), show mi_wr 7 = 7 by decide, if_pos (by omega), show mi_ro X 1024 i = wd1024.getD i.toNat 0 from rfl, show i.toNat = l by omega, show mv95_11 (μ 13 3 + i) μ = byt (μ 12) (μ 13 3 + i) from rfl, mi_wr_id (z := byt (μ 12) (μ 13 3 + i)) (by omega) (by omega), mi_wr_id (z := wd1024.getD l 0) (by omega) (by omega)]
        exact ⟨⟨by omega, by omega⟩, by omega, hl⟩
      · rw [if_neg (show ¬ l < wd1024.length from d)] at hl
        have hw' : l ≤ 7 := hw
        rw [mi_wr_id (z := i) (by omega) (by omega), show mi_wr 7 = 7 by decide, if_neg (by omega)]
        exact hl
    · rw [show μ 13 3 + ((0 : Nat) : Int) = μ 13 3 by omega]
      by_cases d : eqw (byt (μ 12)) (μ 13 3) wd1024 = true
      · rw [if_pos d] at hq ⊢; exact hq
      · rw [if_neg d] at hq ⊢; exact hq
  · rw [if_neg c]
    rw [decide_eq_false (show ¬ μ 13 4 - μ 13 3 = ((wd1024.length : Nat) : Int) from c), Bool.false_and, if_neg (by decide)] at hq
    exact hq
abbrev wd1025 : List Int := [112, 97, 116, 104, 115]
noncomputable def mv73_13_1025 (μ : mi_M) : Int := if isw (byt (μ 12)) (μ 13 3) (μ 13 4) wd1025 = true then 1 else 0
def mp73_13_1025 (μ : mi_M) : Prop := tk_p μ
theorem mc73_13_1025 (hp : mp73_13_1025 μ) (hq : Q (.inl (some (.inl (mv73_13_1025 μ)))) mi_G0 μ) : mi_cok X 73 [(.inr (.inl (some 13))), (.inr (.inl (some 1025)))] mi_G0 μ u Q := by
  obtain ⟨h1, h2, h3⟩ := hp
  apply me73_13_1025
  rw [show ((mi_rl X 1025 : Nat) : Int) = 5 from rfl]
  apply mh73_13_1025_13
  unfold mv73_13_1025 isw at hq
  rw [mi_wr_id (by omega) (by omega), mi_wr_id (by omega) (by omega)]
  by_cases c : μ 13 4 - μ 13 3 = 5
  · rw [if_pos c]
    rw [decide_eq_true (show μ 13 4 - μ 13 3 = ((wd1025.length : Nat) : Int) from c), Bool.true_and] at hq
    refine tk_go (A := fun l => mk73_13_1025_20 X Q u l μ) (Qt := Q (.inl (some (.inl 1))) mi_G0 μ) (Qf := Q (.inl (some (.inl 0))) mi_G0 μ) (B := byt (μ 12)) (s := μ 13 3) (w := wd1025) (fun l hw hl => ?_) wd1025 0 (Nat.zero_le _) rfl ?_
    · skip
      generalize hi : ((l : Nat) : Int) = i at hl ⊢
      apply mh73_13_1025_20
      rw [show ((mi_rl X 1025 : Nat) : Int) = 5 from rfl]
      apply mh73_13_1025_25
      rw [show ((mi_rl X 1025 : Nat) : Int) = 5 from rfl]
      by_cases d : l < 5
      · rw [if_pos (show l < wd1025.length from d)] at hl
        have wb : 0 ≤ wd1025.getD l 0 ∧ wd1025.getD l 0 ≤ 255 := getD_b (by decide) l
        have bb := byt_b (g := μ 12) (j := μ 13 3 + i)
        rw [mi_wr_id (z := i) (by omega) (by omega), show mi_wr 5 = 5 by decide, if_pos (by omega), show mi_ro X 1025 i = wd1025.getD i.toNat 0 from rfl, show i.toNat = l by omega, show mv95_11 (μ 13 3 + i) μ = byt (μ 12) (μ 13 3 + i) from rfl, mi_wr_id (z := byt (μ 12) (μ 13 3 + i)) (by omega) (by omega), mi_wr_id (z := wd1025.getD l 0) (by omega) (by omega)]
        exact ⟨⟨by omega, by omega⟩, by omega, hl⟩
      · rw [if_neg (show ¬ l < wd1025.length from d)] at hl
        have hw' : l ≤ 5 := hw
        rw [mi_wr_id (z := i) (by omega) (by omega), show mi_wr 5 = 5 by decide, if_neg (by omega)]
        exact hl
    · rw [show μ 13 3 + ((0 : Nat) : Int) = μ 13 3 by omega]
      by_cases d : eqw (byt (μ 12)) (μ 13 3) wd1025 = true
      · rw [if_pos d] at hq ⊢; exact hq
      · rw [if_neg d] at hq ⊢; exact hq
  · rw [if_neg c]
    rw [decide_eq_false (show ¬ μ 13 4 - μ 13 3 = ((wd1025.length : Nat) : Int) from c), Bool.false_and, if_neg (by decide)] at hq
    exact hq
abbrev wd1026 : List Int := [115, 108, 97, 99, 107]
noncomputable def mv73_13_1026 (μ : mi_M) : Int := if isw (byt (μ 12)) (μ 13 3) (μ 13 4) wd1026 = true then 1 else 0
def mp73_13_1026 (μ : mi_M) : Prop := tk_p μ
theorem mc73_13_1026 (hp : mp73_13_1026 μ) (hq : Q (.inl (some (.inl (mv73_13_1026 μ)))) mi_G0 μ) : mi_cok X 73 [(.inr (.inl (some 13))), (.inr (.inl (some 1026)))] mi_G0 μ u Q := by
  obtain ⟨h1, h2, h3⟩ := hp
  apply me73_13_1026
  rw [show ((mi_rl X 1026 : Nat) : Int) = 5 from rfl]
  apply mh73_13_1026_13
  unfold mv73_13_1026 isw at hq
  rw [mi_wr_id (by omega) (by omega), mi_wr_id (by omega) (by omega)]
  by_cases c : μ 13 4 - μ 13 3 = 5
  · rw [if_pos c]
    rw [decide_eq_true (show μ 13 4 - μ 13 3 = ((wd1026.length : Nat) : Int) from c), Bool.true_and] at hq
    refine tk_go (A := fun l => mk73_13_1026_20 X Q u l μ) (Qt := Q (.inl (some (.inl 1))) mi_G0 μ) (Qf := Q (.inl (some (.inl 0))) mi_G0 μ) (B := byt (μ 12)) (s := μ 13 3) (w := wd1026) (fun l hw hl => ?_) wd1026 0 (Nat.zero_le _) rfl ?_
    · skip
      generalize hi : ((l : Nat) : Int) = i at hl ⊢
      apply mh73_13_1026_20
      rw [show ((mi_rl X 1026 : Nat) : Int) = 5 from rfl]
      apply mh73_13_1026_25
      rw [show ((mi_rl X 1026 : Nat) : Int) = 5 from rfl]
      by_cases d : l < 5
      · rw [if_pos (show l < wd1026.length from d)] at hl
        have wb : 0 ≤ wd1026.getD l 0 ∧ wd1026.getD l 0 ≤ 255 := getD_b (by decide) l
        have bb := byt_b (g := μ 12) (j := μ 13 3 + i)
        rw [mi_wr_id (z := i) (by omega) (by omega), show mi_wr 5 = 5 by decide, if_pos (by omega), show mi_ro X 1026 i = wd1026.getD i.toNat 0 from rfl, show i.toNat = l by omega, show mv95_11 (μ 13 3 + i) μ = byt (μ 12) (μ 13 3 + i) from rfl, mi_wr_id (z := byt (μ 12) (μ 13 3 + i)) (by omega) (by omega), mi_wr_id (z := wd1026.getD l 0) (by omega) (by omega)]
        exact ⟨⟨by omega, by omega⟩, by omega, hl⟩
      · rw [if_neg (show ¬ l < wd1026.length from d)] at hl
        have hw' : l ≤ 5 := hw
        rw [mi_wr_id (z := i) (by omega) (by omega), show mi_wr 5 = 5 by decide, if_neg (by omega)]
        exact hl
    · rw [show μ 13 3 + ((0 : Nat) : Int) = μ 13 3 by omega]
      by_cases d : eqw (byt (μ 12)) (μ 13 3) wd1026 = true
      · rw [if_pos d] at hq ⊢; exact hq
      · rw [if_neg d] at hq ⊢; exact hq
  · rw [if_neg c]
    rw [decide_eq_false (show ¬ μ 13 4 - μ 13 3 = ((wd1026.length : Nat) : Int) from c), Bool.false_and, if_neg (by decide)] at hq
    exact hq
abbrev wd1027 : List Int := [108, 101, 102, 116]
noncomputable def mv73_13_1027 (μ : mi_M) : Int := if isw (byt (μ 12)) (μ 13 3) (μ 13 4) wd1027 = true then 1 else 0
def mp73_13_1027 (μ : mi_M) : Prop := tk_p μ
theorem mc73_13_1027 (hp : mp73_13_1027 μ) (hq : Q (.inl (some (.inl (mv73_13_1027 μ)))) mi_G0 μ) : mi_cok X 73 [(.inr (.inl (some 13))), (.inr (.inl (some 1027)))] mi_G0 μ u Q := by
  obtain ⟨h1, h2, h3⟩ := hp
  apply me73_13_1027
  rw [show ((mi_rl X 1027 : Nat) : Int) = 4 from rfl]
  apply mh73_13_1027_13
  unfold mv73_13_1027 isw at hq
  rw [mi_wr_id (by omega) (by omega), mi_wr_id (by omega) (by omega)]
  by_cases c : μ 13 4 - μ 13 3 = 4
  · rw [if_pos c]
    rw [decide_eq_true (show μ 13 4 - μ 13 3 = ((wd1027.length : Nat) : Int) from c), Bool.true_and] at hq
    refine tk_go (A := fun l => mk73_13_1027_20 X Q u l μ) (Qt := Q (.inl (some (.inl 1))) mi_G0 μ) (Qf := Q (.inl (some (.inl 0))) mi_G0 μ) (B := byt (μ 12)) (s := μ 13 3) (w := wd1027) (fun l hw hl => ?_) wd1027 0 (Nat.zero_le _) rfl ?_
    · skip
      generalize hi : ((l : Nat) : Int) = i at hl ⊢
      apply mh73_13_1027_20
      rw [show ((mi_rl X 1027 : Nat) : Int) = 4 from rfl]
      apply mh73_13_1027_25
      rw [show ((mi_rl X 1027 : Nat) : Int) = 4 from rfl]
      by_cases d : l < 4
      · rw [if_pos (show l < wd1027.length from d)] at hl
        have wb : 0 ≤ wd1027.getD l 0 ∧ wd1027.getD l 0 ≤ 255 := getD_b (by decide) l
        have bb := byt_b (g := μ 12) (j := μ 13 3 + i)
        rw [mi_wr_id (z := i) (by omega) (by omega), show mi_wr 4 = 4 by decide, if_pos (by omega), show mi_ro X 1027 i = wd1027.getD i.toNat 0 from rfl, show i.toNat = l by omega, show mv95_11 (μ 13 3 + i) μ = byt (μ 12) (μ 13 3 + i) from rfl, mi_wr_id (z := byt (μ 12) (μ 13 3 + i)) (by omega) (by omega), mi_wr_id (z := wd1027.getD l 0) (by omega) (by omega)]
        exact ⟨⟨by omega, by omega⟩, by omega, hl⟩
      · rw [if_neg (show ¬ l < wd1027.length from d)] at hl
        have hw' : l ≤ 4 := hw
        rw [mi_wr_id (z := i) (by omega) (by omega), show mi_wr 4 = 4 by decide, if_neg (by omega)]
        exact hl
    · rw [show μ 13 3 + ((0 : Nat) : Int) = μ 13 3 by omega]
      by_cases d : eqw (byt (μ 12)) (μ 13 3) wd1027 = true
      · rw [if_pos d] at hq ⊢; exact hq
      · rw [if_neg d] at hq ⊢; exact hq
  · rw [if_neg c]
    rw [decide_eq_false (show ¬ μ 13 4 - μ 13 3 = ((wd1027.length : Nat) : Int) from c), Bool.false_and, if_neg (by decide)] at hq
    exact hq
abbrev wd1028 : List Int := [114, 105, 103, 104, 116]
noncomputable def mv73_13_1028 (μ : mi_M) : Int := if isw (byt (μ 12)) (μ 13 3) (μ 13 4) wd1028 = true then 1 else 0
def mp73_13_1028 (μ : mi_M) : Prop := tk_p μ
theorem mc73_13_1028 (hp : mp73_13_1028 μ) (hq : Q (.inl (some (.inl (mv73_13_1028 μ)))) mi_G0 μ) : mi_cok X 73 [(.inr (.inl (some 13))), (.inr (.inl (some 1028)))] mi_G0 μ u Q := by
  obtain ⟨h1, h2, h3⟩ := hp
  apply me73_13_1028
  rw [show ((mi_rl X 1028 : Nat) : Int) = 5 from rfl]
  apply mh73_13_1028_13
  unfold mv73_13_1028 isw at hq
  rw [mi_wr_id (by omega) (by omega), mi_wr_id (by omega) (by omega)]
  by_cases c : μ 13 4 - μ 13 3 = 5
  · rw [if_pos c]
    rw [decide_eq_true (show μ 13 4 - μ 13 3 = ((wd1028.length : Nat) : Int) from c), Bool.true_and] at hq
    refine tk_go (A := fun l => mk73_13_1028_20 X Q u l μ) (Qt := Q (.inl (some (.inl 1))) mi_G0 μ) (Qf := Q (.inl (some (.inl 0))) mi_G0 μ) (B := byt (μ 12)) (s := μ 13 3) (w := wd1028) (fun l hw hl => ?_) wd1028 0 (Nat.zero_le _) rfl ?_
    · skip
      generalize hi : ((l : Nat) : Int) = i at hl ⊢
      apply mh73_13_1028_20
      rw [show ((mi_rl X 1028 : Nat) : Int) = 5 from rfl]
      apply mh73_13_1028_25
      rw [show ((mi_rl X 1028 : Nat) : Int) = 5 from rfl]
      by_cases d : l < 5
      · rw [if_pos (show l < wd1028.length from d)] at hl
        have wb : 0 ≤ wd1028.getD l 0 ∧ wd1028.getD l 0 ≤ 255 := getD_b (by decide) l
        have bb := byt_b (g := μ 12) (j := μ 13 3 + i)
        rw [mi_wr_id (z := i) (by omega) (by omega), show mi_wr 5 = 5 by decide, if_pos (by omega), show mi_ro X 1028 i = wd1028.getD i.toNat 0 from rfl, show i.toNat = l by omega, show mv95_11 (μ 13 3 + i) μ = byt (μ 12) (μ 13 3 + i) from rfl, mi_wr_id (z := byt (μ 12) (μ 13 3 + i)) (by omega) (by omega), mi_wr_id (z := wd1028.getD l 0) (by omega) (by omega)]
        exact ⟨⟨by omega, by omega⟩, by omega, hl⟩
      · rw [if_neg (show ¬ l < wd1028.length from d)] at hl
        have hw' : l ≤ 5 := hw
        rw [mi_wr_id (z := i) (by omega) (by omega), show mi_wr 5 = 5 by decide, if_neg (by omega)]
        exact hl
    · rw [show μ 13 3 + ((0 : Nat) : Int) = μ 13 3 by omega]
      by_cases d : eqw (byt (μ 12)) (μ 13 3) wd1028 = true
      · rw [if_pos d] at hq ⊢; exact hq
      · rw [if_neg d] at hq ⊢; exact hq
  · rw [if_neg c]
    rw [decide_eq_false (show ¬ μ 13 4 - μ 13 3 = ((wd1028.length : Nat) : Int) from c), Bool.false_and, if_neg (by decide)] at hq
    exact hq
end
