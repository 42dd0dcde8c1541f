/-! TOKENS of the reference -/
/-- the places of its token are in order -/
def tkr (μ : mi_M) : Prop := 0 ≤ μ 86 9 ∧ μ 86 9 ≤ μ 86 10 ∧ μ 86 10 ≤ μ 86 8 ∧ μ 86 8 ≤ 700
section
variable {X : mi_X} {Q : mi_R → mi_G → mi_M → Prop} {u : mi_U} {μ : mi_M}
theorem v156_in {q : Int} (h0 : 0 ≤ q) (h : q < μ 86 8) (hn : μ 86 8 ≤ 700) : mp156_86 q μ ∧ mv156_86 q μ = byt (μ 90) q := by
  unfold mp156_86 mv156_86
  rw [mi_wr_id (by omega) (by omega), mi_wr_id (by omega) (by omega), if_pos h, if_pos h]
  exact ⟨by omega, rfl⟩
theorem v156_out {q : Int} (h0 : 0 ≤ q) (h : μ 86 8 ≤ q) (hq : q < 100000) (hn : 0 ≤ μ 86 8) : mp156_86 q μ ∧ mv156_86 q μ = -1 := by
  unfold mp156_86 mv156_86
  rw [mi_wr_id (by omega) (by omega), mi_wr_id (by omega) (by omega), if_neg (by omega), if_neg (by omega)]
  exact ⟨trivial, rfl⟩
def mp158_86 (μ : mi_M) : Prop := 0 ≤ μ 86 10 ∧ μ 86 10 ≤ μ 86 8 ∧ μ 86 8 ≤ 700
def mq158_86 (μ ν : mi_M) : Prop := fr_l [86] μ ν ∧ (∀ j, j ≠ 9 → j ≠ 10 → j ≠ 11 → ν 86 j = μ 86 j) ∧ ν 86 9 = tS (byt (μ 90)) (μ 86 8) (μ 86 10) ∧ ν 86 10 = rE (byt (μ 90)) (μ 86 8) (tS (byt (μ 90)) (μ 86 8) (μ 86 10)) ∧ ν 86 11 = kd (byt (μ 90)) (μ 86 8) (tS (byt (μ 90)) (μ 86 8) (μ 86 10))
theorem go_2 {s : Int} {ρ : mi_M} (hs : 0 ≤ s) (hs' : s ≤ μ 86 8) (hn : μ 86 8 ≤ 700) (hf : fr_l [86] μ ρ) (ho : ∀ j, j ≠ 9 → j ≠ 10 → ρ 86 j = μ 86 j) (h9 : ρ 86 9 = s) (h10 : ρ 86 10 = s) (hq : ∀ ν, fr_l [86] μ ν → (∀ j, j ≠ 9 → j ≠ 10 → j ≠ 11 → ν 86 j = μ 86 j) → ν 86 9 = s → ν 86 10 = tE (byt (μ 90)) (μ 86 8) s → ν 86 11 = 1 → Q (.inl none) mi_G0 ν) : mk158_86_75 X Q u ρ := by
  refine wl (A := fun ρ => mk158_86_75 X Q u ρ) (I := fun q ρ => fr_l [86] μ ρ ∧ (∀ j, j ≠ 9 → j ≠ 10 → ρ 86 j = μ 86 j) ∧ ρ 86 9 = s ∧ ρ 86 10 = q ∧ s ≤ q ∧ tE (byt (μ 90)) (μ 86 8) q = tE (byt (μ 90)) (μ 86 8) s) (n := μ 86 8) ?_ _ s ρ rfl hs' ⟨hf, ho, h9, h10, Int.le_refl _, rfl⟩
  rintro q ρ hle ⟨hf, ho, h9, h10, hq1, hq2⟩ k
  have e90 : ρ 90 = μ 90 := hf 90 (by decide)
  have e8 : ρ 86 8 = μ 86 8 := ho 8 (by decide) (by decide)
  have bb := byt_b (g := μ 90) (j := q)
  have fin : tE (byt (μ 90)) (μ 86 8) q = q → Q (.inl none) mi_G0 (mi_set ρ 86 11 1) := fun he => hq _ (fr_ls hf (by decide) _ _) (fun j a b c => by rw [ms_same, if_neg c]; exact ho j a b) (by rw [ms_same, if_neg (by decide)]; exact h9) (by rw [ms_same, if_neg (by decide), h10, ← hq2, he]) (by rw [ms_same, if_pos rfl])
  apply mh158_86_75
  rw [h10]
  by_cases c : q < μ 86 8
  · obtain ⟨p1, p2⟩ := v156_in (μ := ρ) (q := q) (by omega) (by omega) (by omega)
    refine ⟨p1, ?_⟩
    rw [p2, e90, v157_is (by omega)]
    by_cases d : rnb (byt (μ 90) q) = true
    · rw [if_pos d, if_neg w_10]
      refine k _ c ⟨fr_ls hf (by decide) _ _, fun j a b => by rw [ms_same, if_neg b]; exact ho j a b, by rw [ms_same, if_neg (by decide)]; exact h9, by rw [ms_same, if_pos rfl], by omega, ?_⟩
      rw [← hq2]; exact (sn_in (P := fun j => rnb (byt (μ 90) j)) c d).symm
    · rw [if_neg d, if_pos w_00]
      exact fin (sn_out (P := fun j => rnb (byt (μ 90) j)) d)
  · obtain ⟨p1, p2⟩ := v156_out (μ := ρ) (q := q) (by omega) (by omega) (by omega) (by omega)
    refine ⟨p1, ?_⟩
    rw [p2, v157_is (by decide), if_neg (show ¬ rnb (-1) = true by decide), if_pos w_00]
    exact fin (sn_end (by omega))
theorem mc158_86 (hp : mp158_86 μ) (hq : ∀ ν, mq158_86 μ ν → Q (.inl none) mi_G0 ν) : mi_cok X 158 [(.inr (.inl (some 86)))] mi_G0 μ u Q := by
  obtain ⟨h1, h2, h3⟩ := hp
  have w32 : mi_wr 32 = 32 := by decide
  have w10' : mi_wr 10 = 10 := by decide
  have w59 : mi_wr 59 = 59 := by decide
  have wm1 : mi_wr (-1) = -1 := by decide
  apply me158_86
  refine wl (A := fun ρ => mk158_86_0 X Q u ρ) (I := fun q ρ => fr_l [86] μ ρ ∧ (∀ j, j ≠ 10 → ρ 86 j = μ 86 j) ∧ ρ 86 10 = q ∧ μ 86 10 ≤ q ∧ tS (byt (μ 90)) (μ 86 8) q = tS (byt (μ 90)) (μ 86 8) (μ 86 10)) (n := μ 86 8) ?_ _ (μ 86 10) μ rfl h2 ⟨fr_lr _ _, fun _ _ => rfl, rfl, Int.le_refl _, rfl⟩
  rintro q ρ hle ⟨hf, ho, e10, hq1, hq2⟩ k
  have e90 : ρ 90 = μ 90 := hf 90 (by decide)
  have e8 : ρ 86 8 = μ 86 8 := ho 8 (by decide)
  have bb := byt_b (g := μ 90) (j := q)
  have e8' : mi_set ρ 86 9 q 86 8 = μ 86 8 := by rw [ms_same, if_neg (by decide), e8]
  have e90' : mi_set ρ 86 9 q 90 = μ 90 := by rw [ms_other _ (by decide), e90]
  apply mh158_86_0
  rw [e10]
  by_cases c : q < μ 86 8
  · obtain ⟨p1, p2⟩ := v156_in (μ := ρ) (q := q) (by omega) (by omega) (by omega)
    obtain ⟨p3, p4⟩ := v156_in (μ := mi_set ρ 86 9 q) (q := q) (by omega) (by omega) (by omega)
    rw [p2, p4, e90, e90', v157_is (by omega), mi_wr_id (z := byt (μ 90) q) (by omega) (by omega), w32, w10', w59]
    refine ⟨p1, ?_⟩
    have nxt : bkb (byt (μ 90) q) = true → mk158_86_0 X Q u (mi_set ρ 86 10 (q + 1)) := fun d => by
      refine k _ c ⟨fr_ls hf (by decide) _ _, fun j a => by rw [ms_same, if_neg a]; exact ho j a, by rw [ms_same, if_pos rfl], by omega, ?_⟩
      rw [← hq2]; exact (sn_in (P := fun j => bkb (byt (μ 90) j)) c d).symm
    by_cases d1 : byt (μ 90) q = 32
    · rw [if_pos d1]; exact nxt (bkb_t.mpr (Or.inl d1))
    rw [if_neg d1]
    refine ⟨p1, ?_⟩
    by_cases d2 : byt (μ 90) q = 10
    · rw [if_pos d2]; exact nxt (bkb_t.mpr (Or.inr d2))
    rw [if_neg d2, if_neg (show ¬ byt (μ 90) q < 0 by omega)]
    refine ⟨p3, ?_⟩
    have hs : tS (byt (μ 90)) (μ 86 8) q = q := sn_out (P := fun j => bkb (byt (μ 90) j)) (fun h => by have := bkb_t.mp h; omega)
    by_cases d3 : rnb (byt (μ 90) q) = true
    · rw [if_pos d3, if_neg w_10]
      refine go_2 (μ := μ) (s := q) (by omega) hle h3 (fr_ls hf (by decide) _ _) (fun j a b => by rw [ms_same, if_neg a]; exact ho j b) (by rw [ms_same, if_pos rfl]) (by rw [ms_same, if_neg (by decide)]; exact e10) (fun ν g1 g2 g3 g4 g5 => hq _ ⟨g1, g2, ?_, ?_, ?_⟩)
      · rw [← hq2, hs]; exact g3
      · rw [← hq2, hs]; unfold rE; rw [if_neg (by omega), if_pos d3]; exact g4
      · rw [← hq2, hs]; unfold kd; rw [if_neg (by omega), if_pos d3]; exact g5
    · rw [if_neg d3, if_pos w_00]
      have hm : ∀ t : Int, fr_l [86] μ (mi_set (mi_set (mi_set ρ 86 9 q) 86 10 (q + 1)) 86 11 t) ∧ (∀ j, j ≠ 9 → j ≠ 10 → j ≠ 11 → mi_set (mi_set (mi_set ρ 86 9 q) 86 10 (q + 1)) 86 11 t 86 j = μ 86 j) ∧ mi_set (mi_set (mi_set ρ 86 9 q) 86 10 (q + 1)) 86 11 t 86 9 = q ∧ mi_set (mi_set (mi_set ρ 86 9 q) 86 10 (q + 1)) 86 11 t 86 10 = q + 1 ∧ mi_set (mi_set (mi_set ρ 86 9 q) 86 10 (q + 1)) 86 11 t 86 11 = t := fun t => ⟨fr_ls (fr_ls (fr_ls hf (by decide) _ _) (by decide) _ _) (by decide) _ _, fun j a b c => by rw [ms_same, if_neg c, ms_same, if_neg b, ms_same, if_neg a]; exact ho j b, by rw [ms_same, if_neg (by decide), ms_same, if_neg (by decide), ms_same, if_pos rfl], by rw [ms_same, if_neg (by decide), ms_same, if_pos rfl], by rw [ms_same, if_pos rfl]⟩
      by_cases d4 : byt (μ 90) q = 59
      · rw [if_pos d4]
        obtain ⟨m1, m2, m3, m4, m5⟩ := hm 2
        refine hq _ ⟨m1, m2, ?_, ?_, ?_⟩
        · rw [← hq2, hs]; exact m3
        · rw [← hq2, hs]; unfold rE; rw [if_neg (by omega), if_neg d3]; exact m4
        · rw [← hq2, hs]; unfold kd; rw [if_neg (by omega), if_neg d3, if_pos d4]; exact m5
      · rw [if_neg d4]
        obtain ⟨m1, m2, m3, m4, m5⟩ := hm 3
        refine hq _ ⟨m1, m2, ?_, ?_, ?_⟩
        · rw [← hq2, hs]; exact m3
        · rw [← hq2, hs]; unfold rE; rw [if_neg (by omega), if_neg d3]; exact m4
        · rw [← hq2, hs]; unfold kd; rw [if_neg (by omega), if_neg d3, if_neg d4]; exact m5
  · obtain ⟨p1, p2⟩ := v156_out (μ := ρ) (q := q) (by omega) (by omega) (by omega) (by omega)
    obtain ⟨p3, p4⟩ := v156_out (μ := mi_set ρ 86 9 q) (q := q) (by omega) (by omega) (by omega) (by omega)
    rw [p2, p4, wm1, w32, w10', if_neg (by decide), if_neg (by decide), if_pos (show (-1 : Int) < 0 by decide)]
    have hs : tS (byt (μ 90)) (μ 86 8) q = q := sn_end (by omega)
    refine ⟨p1, p1, p3, hq _ ⟨fr_ls (fr_ls hf (by decide) _ _) (by decide) _ _, fun j a b c => by rw [ms_same, if_neg c, ms_same, if_neg a]; exact ho j b, ?_, ?_, ?_⟩⟩
    · rw [ms_same, if_neg (by decide), ms_same, if_pos rfl, ← hq2, hs]
    · rw [ms_same, if_neg (by decide), ms_same, if_neg (by decide), ← hq2, hs]; unfold rE; rw [if_pos (by omega)]; exact e10
    · rw [ms_same, if_pos rfl, ← hq2, hs]; unfold kd; rw [if_pos (by omega)]
/-- digits: all of them, or none told -/
theorem dv_d {B : Int → Int} : ∀ (k : Nat) (s a : Int), 0 ≤ a → (∀ j, s ≤ j → j < s + k → 48 ≤ B j ∧ B j ≤ 57) → 0 ≤ dv B k s a
  | 0, _, a, ha, _ => ha
  | k + 1, s, a, ha, h => by
    have hs := h s (Int.le_refl _) (by omega)
    show 0 ≤ if dgb (B s) = true then dv B k (s + 1) (a * 10 + B s - 48) else -1
    rw [if_pos (dgb_t.mpr hs)]
    exact dv_d k (s + 1) _ (by omega) (fun j g1 g2 => h j (by omega) (by omega))
theorem dv_n {B : Int → Int} : ∀ (k : Nat) (s a j : Int), s ≤ j → j < s + k → ¬ (48 ≤ B j ∧ B j ≤ 57) → dv B k s a = -1
  | 0, s, a, j, h1, h2, _ => by omega
  | k + 1, s, a, j, h1, h2, h3 => by
    show (if dgb (B s) = true then dv B k (s + 1) (a * 10 + B s - 48) else -1) = -1
    by_cases c : dgb (B s) = true
    · rw [if_pos c]
      have : s ≠ j := fun e => h3 (by rw [← e]; exact dgb_t.mp c)
      exact dv_n k (s + 1) _ j (by omega) (by omega) h3
    · rw [if_neg c]
theorem nmb_d {B : Int → Int} {s e : Int} (h : s < e) (h' : e - s ≤ 3) (hd : ∀ j, s ≤ j → j < e → 48 ≤ B j ∧ B j ≤ 57) : 0 ≤ nmb B s e := by
  unfold nmb; rw [if_pos (by omega)]; exact dv_d _ _ _ (by decide) (fun j g1 g2 => hd j g1 (by omega))
theorem nmb_n {B : Int → Int} {s e j : Int} (h1 : s ≤ j) (h2 : j < e) (hd : ¬ (48 ≤ B j ∧ B j ≤ 57)) : nmb B s e = -1 := by
  unfold nmb
  by_cases c : 1 ≤ e - s ∧ e - s ≤ 3
  · rw [if_pos c]; exact dv_n _ _ _ j h1 (by omega) hd
  · rw [if_neg c]
theorem nmb_l {B : Int → Int} {s e : Int} (h : 3 < e - s) : nmb B s e = -1 := by unfold nmb; rw [if_neg (by omega)]
def mp161_86 (μ : mi_M) : Prop := tkr μ ∧ (μ 86 11 = 1 → μ 86 9 < μ 86 10) ∧ (0 ≤ μ 86 11 ∧ μ 86 11 ≤ 3)
noncomputable def mv161_86 (μ : mi_M) : Int := if μ 86 11 = 1 ∧ nmb (byt (μ 90)) (μ 86 9) (μ 86 10) ≠ -1 then 1 else 0
theorem mc161_86 (hp : mp161_86 μ) (hq : Q (.inl (some (.inl (mv161_86 μ)))) mi_G0 μ) : mi_cok X 161 [(.inr (.inl (some 86)))] mi_G0 μ u Q := by
  obtain ⟨⟨h1, h2, h3, h4⟩, h5, h6⟩ := hp
  have w1 : mi_wr 1 = 1 := by decide
  have w3 : mi_wr 3 = 3 := by decide
  unfold mv161_86 at hq
  have no : ¬ (μ 86 11 = 1 ∧ nmb (byt (μ 90)) (μ 86 9) (μ 86 10) ≠ -1) → Q (.inl (some (.inl 0))) mi_G0 μ := fun h => by rw [if_neg h] at hq; exact hq
  apply me161_86
  rw [mi_wr_id (z := μ 86 11) (by omega) (by omega), w1, w3, mi_wr_id (z := μ 86 10 - μ 86 9) (by omega) (by omega)]
  refine qp_u (A := fun q a => mk161_86_32 X Q u a q μ) (fun q a => (a = 0 ∧ ¬ (μ 86 11 = 1 ∧ nmb (byt (μ 90)) (μ 86 9) (μ 86 10) ≠ -1)) ∨ (a = 1 ∧ μ 86 11 = 1 ∧ μ 86 10 - μ 86 9 ≤ 3 ∧ ∀ j, μ 86 9 ≤ j → j < q → 48 ≤ byt (μ 90) j ∧ byt (μ 90) j ≤ 57)) (a := μ 86 9) (n := μ 86 10) h2 ?_ ?_ ?_
  · rintro a (⟨rfl, h⟩ | ⟨rfl, g1, g2, g3⟩)
    · apply mh161_86_32
      rw [if_neg (Int.lt_irrefl _)]; exact ⟨Or.inl rfl, no h⟩
    · apply mh161_86_32
      rw [if_neg (Int.lt_irrefl _)]
      have := nmb_d (h5 g1) g2 g3
      rw [if_pos ⟨g1, by omega⟩] at hq
      exact ⟨Or.inr rfl, hq⟩
  · rintro q a g1 g2 (⟨rfl, h⟩ | ⟨rfl, d1, d2, d3⟩) k
    · apply mh161_86_32
      rw [mi_wr_id (by omega) (by omega), mi_wr_id (by omega) (by omega), if_pos g2, if_pos w_00]; exact ⟨Or.inl rfl, no h⟩
    · apply mh161_86_32
      obtain ⟨p1, p2⟩ := v156_in (μ := μ) (q := q) (by omega) (by omega) h4
      have bb := byt_b (g := μ 90) (j := q)
      rw [mi_wr_id (by omega) (by omega), mi_wr_id (by omega) (by omega), if_pos g2, if_neg w_10, p2, mx_withinM (by unfold mx_R; omega) (by unfold mx_R; omega) (by unfold mx_R; omega)]
      refine ⟨p1, k _ ?_⟩
      by_cases e : 48 ≤ byt (μ 90) q ∧ byt (μ 90) q ≤ 57
      · rw [if_pos e]
        refine Or.inr ⟨rfl, d1, d2, fun j j1 j2 => ?_⟩
        by_cases f : j = q
        · rw [f]; exact e
        · exact d3 j j1 (by omega)
      · rw [if_neg e]
        exact Or.inl ⟨rfl, fun h => h.2 (nmb_n g1 g2 e)⟩
  · by_cases c : μ 86 11 = 1
    · rw [if_pos c]
      by_cases d : 3 < μ 86 10 - μ 86 9
      · rw [if_pos d]; exact Or.inl ⟨rfl, fun h => h.2 (nmb_l d)⟩
      · rw [if_neg d]; exact Or.inr ⟨rfl, c, by omega, fun j _ _ => by omega⟩
    · rw [if_neg c]; exact Or.inl ⟨rfl, fun h => c h.1⟩
/-- is it the word -/
def c8 (a : Int) : Prop := 0 ≤ a ∧ a ≤ 255
def mp160_86 (a0 a1 a2 a3 a4 a5 a6 : Int) (μ : mi_M) : Prop := tkr μ ∧ (0 ≤ μ 86 11 ∧ μ 86 11 ≤ 3) ∧ c8 a0 ∧ c8 a1 ∧ c8 a2 ∧ c8 a3 ∧ c8 a4 ∧ c8 a5 ∧ c8 a6
def w7 (a0 a1 a2 a3 a4 a5 a6 : Int) (μ : mi_M) : Prop := μ 86 11 = 1 ∧ μ 86 10 - μ 86 9 ≤ 7 ∧ eq7 (byt (μ 90)) (μ 86 9) (μ 86 10) 0 [a0, a1, a2, a3, a4, a5, a6] = true
def mq160_86 (a0 a1 a2 a3 a4 a5 a6 : Int) (μ : mi_M) (r : Int) (ν : mi_M) : Prop := fr_l [104] μ ν ∧ ((w7 a0 a1 a2 a3 a4 a5 a6 μ ∧ r = 1) ∨ (¬ w7 a0 a1 a2 a3 a4 a5 a6 μ ∧ r = 0))
theorem mc160_86 {a0 a1 a2 a3 a4 a5 a6 : Int} (hp : mp160_86 a0 a1 a2 a3 a4 a5 a6 μ) (hq : ∀ r ν, mq160_86 a0 a1 a2 a3 a4 a5 a6 μ r ν → Q (.inl (some (.inl r))) mi_G0 ν) : mi_cok X 160 [(.inr (.inl (some 86))), (.inl a0), (.inl a1), (.inl a2), (.inl a3), (.inl a4), (.inl a5), (.inl a6)] mi_G0 μ (1, 7) Q := by
  obtain ⟨⟨h1, h2, h3, h4⟩, h5, b0, b1, b2, b3, b4, b5, b6⟩ := hp
  have w1 : mi_wr 1 = 1 := by decide
  have w7' : mi_wr 7 = 7 := by decide
  apply me160_86
  refine ⟨⟨Nat.le_refl _, Nat.le_refl _⟩, ?_⟩
  have hf : fr_l [104] μ (mi_set (mi_set (mi_set (mi_set (mi_set (mi_set (mi_set (mi_row μ 104 (fun _ => 0)) 104 0 a0) 104 1 a1) 104 2 a2) 104 3 a3) 104 4 a4) 104 5 a5) 104 6 a6) := fun q hq => by
    simp only [List.mem_cons, List.not_mem_nil, or_false] at hq
    rw [ms_other _ hq, ms_other _ hq, ms_other _ hq, ms_other _ hq, ms_other _ hq, ms_other _ hq, ms_other _ hq, mr_other _ hq]
  have hr : ∀ k : Int, 0 ≤ k → k < 7 → ∃ c, mi_set (mi_set (mi_set (mi_set (mi_set (mi_set (mi_set (mi_row μ 104 (fun _ => 0)) 104 0 a0) 104 1 a1) 104 2 a2) 104 3 a3) 104 4 a4) 104 5 a5) 104 6 a6 104 k = c ∧ [a0, a1, a2, a3, a4, a5, a6].drop k.toNat = c :: [a0, a1, a2, a3, a4, a5, a6].drop (k + 1).toNat ∧ c8 c := by
    intro k k1 k2
    rcases (show k = 0 ∨ k = 1 ∨ k = 2 ∨ k = 3 ∨ k = 4 ∨ k = 5 ∨ k = 6 by omega) with rfl | rfl | rfl | rfl | rfl | rfl | rfl
    · exact ⟨a0, rfl, rfl, b0⟩
    · exact ⟨a1, rfl, rfl, b1⟩
    · exact ⟨a2, rfl, rfl, b2⟩
    · exact ⟨a3, rfl, rfl, b3⟩
    · exact ⟨a4, rfl, rfl, b4⟩
    · exact ⟨a5, rfl, rfl, b5⟩
    · exact ⟨a6, rfl, rfl, b6⟩
  revert hf hr
  generalize mi_set (mi_set (mi_set (mi_set (mi_set (mi_set (mi_set (mi_row μ 104 (fun _ => 0)) 104 0 a0) 104 1 a1) 104 2 a2) 104 3 a3) 104 4 a4) 104 5 a5) 104 6 a6 = ρ
  intro hf hr
  have e86 : ρ 86 = μ 86 := hf 86 (by decide)
  have e90 : ρ 90 = μ 90 := hf 90 (by decide)
  have no : ¬ w7 a0 a1 a2 a3 a4 a5 a6 μ → Q (.inl (some (.inl 0))) mi_G0 ρ := fun h => hq _ _ ⟨hf, Or.inr ⟨h, rfl⟩⟩
  rw [mi_wr_id (z := μ 86 11) (by omega) (by omega), w1, w7', mi_wr_id (z := μ 86 10 - μ 86 9) (by omega) (by omega)]
  refine qp_u (A := fun k a => mk160_86_71 X Q _ a k ρ) (fun k a => (a = 0 ∧ ¬ w7 a0 a1 a2 a3 a4 a5 a6 μ) ∨ (a = 1 ∧ (w7 a0 a1 a2 a3 a4 a5 a6 μ ↔ eq7 (byt (μ 90)) (μ 86 9) (μ 86 10) k ([a0, a1, a2, a3, a4, a5, a6].drop k.toNat) = true))) (a := 0) (n := 7) (by decide) ?_ ?_ ?_
  · rintro a (⟨rfl, h⟩ | ⟨rfl, h⟩)
    · apply mh160_86_71
      rw [if_neg (Int.lt_irrefl _)]; exact ⟨Or.inl rfl, no h⟩
    · apply mh160_86_71
      rw [if_neg (Int.lt_irrefl _)]; exact ⟨Or.inr rfl, hq _ _ ⟨hf, Or.inl ⟨h.mpr rfl, rfl⟩⟩⟩
  · rintro k a g1 g2 (⟨rfl, h⟩ | ⟨rfl, h⟩) t
    · apply mh160_86_71
      rw [mi_wr_id (by omega) (by omega), w7', if_pos g2, if_pos w_00]; exact ⟨Or.inl rfl, no h⟩
    · obtain ⟨c, c1, c2, c3, c4⟩ := hr k g1 g2
      have wc : mi_wr c = c := mi_wr_id (by omega) (by omega)
      rw [c2] at h
      have h' : w7 a0 a1 a2 a3 a4 a5 a6 μ ↔ (decide ((if k < μ 86 10 - μ 86 9 then byt (μ 90) (μ 86 9 + k) else 0) = c) && eq7 (byt (μ 90)) (μ 86 9) (μ 86 10) (k + 1) ([a0, a1, a2, a3, a4, a5, a6].drop (k + 1).toNat)) = true := h
      have nx : ∀ x : Int, (if k < μ 86 10 - μ 86 9 then byt (μ 90) (μ 86 9 + k) else 0) = x → mk160_86_71 X Q ((1, 7).1 - 1, (1, 7).2 - 7) (if x = c then 1 else 0) (k + 1) ρ := fun x hx => by
        rw [hx] at h'
        refine t _ ?_
        by_cases d : x = c
        · rw [if_pos d]
          rw [decide_eq_true d, Bool.true_and] at h'
          exact Or.inr ⟨rfl, h'⟩
        · rw [if_neg d]
          rw [decide_eq_false d, Bool.false_and] at h'
          exact Or.inl ⟨rfl, fun hw => absurd (h'.mp hw) (by decide)⟩
      apply mh160_86_71
      rw [mi_wr_id (z := k) (by omega) (by omega), w7', if_pos g2, if_neg w_10, e86, mi_wr_id (z := μ 86 10 - μ 86 9) (by omega) (by omega), c1, wc]
      by_cases d : k < μ 86 10 - μ 86 9
      · obtain ⟨p1, p2⟩ := v156_in (μ := ρ) (q := μ 86 9 + k) (by omega) (by rw [e86]; omega) (by rw [e86]; omega)
        have bb := byt_b (g := μ 90) (j := μ 86 9 + k)
        rw [if_pos d, p2, e90, mi_wr_id (z := byt (μ 90) (μ 86 9 + k)) (by omega) (by omega)]
        exact ⟨p1, by omega, nx _ (if_pos d)⟩
      · rw [if_neg d, show mi_wr 0 = 0 by decide]
        exact ⟨by omega, nx _ (if_neg d)⟩
  · by_cases c : μ 86 11 = 1
    · rw [if_pos c]
      by_cases d : 7 < μ 86 10 - μ 86 9
      · rw [if_pos d]; exact Or.inl ⟨rfl, fun h => by have := h.2.1; omega⟩
      · rw [if_neg d]; exact Or.inr ⟨rfl, fun h => h.2.2, fun h => ⟨c, by omega, h⟩⟩
    · rw [if_neg c]; exact Or.inl ⟨rfl, fun h => c h.1⟩
end
