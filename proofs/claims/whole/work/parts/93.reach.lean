/-! WHAT THE CLASS KEEPS: right up to its stage -/
def cvu (k : Int) (μ : mi_M) : Prop := (1 ≤ k → mp_is μ 67 (sc_m μ) (sp_code (sc_m μ)) ∧ ct_is μ 68 (sc_m μ) 8 (sp_cost (sc_m μ))) ∧ (2 ≤ k → ct_is μ 69 (sc_m μ) (sc_m μ 2 + 1) (sp_sum (sc_m μ))) ∧ (3 ≤ k → mp_is μ 72 (sc_m μ) (sp_sh (sc_m μ))) ∧ (4 ≤ k → mp_is μ 73 (sc_m μ) (sp_kn (sc_m μ)) ∧ cpl μ (sc_m μ) 0 ∧ cpl μ (sc_m μ) 1) ∧ (5 ≤ k → mp_is μ 74 (sc_m μ) (sp_fill (sc_m μ)))
def ci (μ : mi_M) : Prop := (0 ≤ μ 0 11 ∧ μ 0 11 ≤ 5) ∧ tw_ok μ ∧ (μ 0 11 = 0 → μ 66 5 = -1) ∧ cvu (μ 0 11) μ
theorem cvu_le {k k' : Int} {μ : mi_M} (h : cvu k μ) (hk : k' ≤ k) : cvu k' μ := ⟨fun h1 => h.1 (by omega), fun h1 => h.2.1 (by omega), fun h1 => h.2.2.1 (by omega), fun h1 => h.2.2.2.1 (by omega), fun h1 => h.2.2.2.2 (by omega)⟩
theorem cpl_fr {μ ν : mi_M} {m : Int → Int} {v : Int} (e1 : ν 77 = μ 77) (e2 : ν 78 = μ 78) (e3 : ν 79 = μ 79) (h : cpl μ m v) : cpl ν m v := ⟨fun x y hi => by rw [e1]; exact h.1 x y hi, fun r h1 h2 h3 => by rw [e2]; exact h.2.1 r h1 h2 h3, by rw [e3]; exact h.2.2⟩
/-- the cells that a level and those ahead of it read -/
theorem cvu_fr {k : Int} {L : List Nat} {μ ν : mi_M} (hf : fr_l L μ ν) (hs : L.all (fun q => !([1, 2, 3].contains q)) = true) (h1 : 1 ≤ k → 67 ∉ L ∧ 68 ∉ L) (h2 : 2 ≤ k → 69 ∉ L) (h3 : 3 ≤ k → 72 ∉ L) (h4 : 4 ≤ k → 73 ∉ L ∧ 77 ∉ L ∧ 78 ∉ L ∧ 79 ∉ L) (h5 : 5 ≤ k → 74 ∉ L) (h : cvu k μ) : cvu k ν := by
  have kk : ∀ q, [1, 2, 3].contains q = true → ν q = μ q := fun q hq => hf q (fun hm => by
    have := List.all_eq_true.mp hs q hm
    rw [hq] at this; exact absurd this (by decide))
  have es : sc_m ν = sc_m μ := sc_m_fr (kk 1 rfl) (kk 2 rfl) (kk 3 rfl)
  unfold cvu
  rw [es]
  obtain ⟨a1, a2, a3, a4, a5⟩ := h
  refine ⟨fun e => ⟨mp_is_fr (hf 67 (h1 e).1) (a1 e).1, ct_is_fr (hf 68 (h1 e).2) (a1 e).2⟩, fun e => ct_is_fr (hf 69 (h2 e)) (a2 e), fun e => mp_is_fr (hf 72 (h3 e)) (a3 e), fun e => ?_, fun e => mp_is_fr (hf 74 (h5 e)) (a5 e)⟩
  obtain ⟨b1, b2, b3, b4⟩ := h4 e
  exact ⟨mp_is_fr (hf 73 b1) (a4 e).1, cpl_fr (hf 77 b2) (hf 78 b3) (hf 79 b4) (a4 e).2.1, cpl_fr (hf 77 b2) (hf 78 b3) (hf 79 b4) (a4 e).2.2⟩
theorem tw_fr {L : List Nat} {μ ν : mi_M} (hf : fr_l L μ ν) (hs : L.all (fun q => !([1, 2, 3, 66, 70].contains q)) = true) (h : tw_ok μ) : tw_ok ν := by
  have kk : ∀ q, [1, 2, 3, 66, 70].contains q = true → ν q = μ q := fun q hq => hf q (fun hm => by
    have := List.all_eq_true.mp hs q hm
    rw [hq] at this; exact absurd this (by decide))
  have es : sc_m ν = sc_m μ := sc_m_fr (kk 1 rfl) (kk 2 rfl) (kk 3 rfl)
  refine ⟨by rw [kk 66 rfl]; exact h.1, fun r h1 h2 => ?_⟩
  rw [kk 66 rfl] at h2
  rw [es]
  exact wy_is_fr (kk 70 rfl) (h.2 r h1 h2)
abbrev CR : List Nat := [0, 66, 67, 68, 69, 70, 72, 73, 74, 75, 76, 77, 78, 79, 80]
def mp141_0 (g : Int) (μ : mi_M) : Prop := sc_ok (sc_m μ) ∧ ci μ ∧ (1 ≤ g ∧ g ≤ 5)
def mq141_0 (g : Int) (μ ν : mi_M) : Prop := fr_l CR μ ν ∧ ci ν ∧ g ≤ ν 0 11
/-- while it goes up -/
def rj (g : Int) (μ : mi_M) (i : Int) (ν : mi_M) : Prop := fr_l CR μ ν ∧ ν 0 11 = μ 0 11 ∧ tw_ok ν ∧ ∃ k, cvu k ν ∧ ((μ 0 11 ≤ i → g ≤ i → k = if μ 0 11 < g then g else μ 0 11) ∧ (μ 0 11 ≤ i → i < g → k = i) ∧ (i < μ 0 11 → k = μ 0 11))
section
variable {X : mi_X} {Q : mi_R → mi_G → mi_M → Prop} {u : mi_U} {μ : mi_M}
theorem in1_is {ν : mi_M} {c : Nat} {m : Int → Int} {f : Int → Int → Int → Int} (h0 : in1 ν c m 0 (f 0)) (h1 : in1 ν c m 1 (f 1)) : mp_is ν c m f := fun v x y a1 a2 a3 a4 a5 a6 => by
  rcases (show v = 0 ∨ v = 1 by omega) with rfl | rfl
  · exact h0 x y ⟨a3, a4, a5, a6⟩
  · exact h1 x y ⟨a3, a4, a5, a6⟩
theorem is_in1 {ν : mi_M} {c : Nat} {m : Int → Int} {f : Int → Int → Int → Int} (h : mp_is ν c m f) {v : Int} (hv : 0 ≤ v) (hv' : v ≤ 1) : in1 ν c m v (f v) := fun x y hi => h v x y hv hv' hi.1 hi.2.1 hi.2.2.1 hi.2.2.2
theorem mc141_0 {g : Int} (hp : mp141_0 g μ) (hq : ∀ ν, mq141_0 g μ ν → Q (.inl none) mi_G0 ν) : mi_cok X 141 [(.inr (.inl (some 0))), (.inl g)] mi_G0 μ u Q := by
  obtain ⟨hm, ⟨⟨s1, s2⟩, htw, ht0, hcv⟩, ⟨q1, q2⟩⟩ := hp
  have w1 : mi_wr 1 = 1 := by decide
  have w2 : mi_wr 2 = 2 := by decide
  have w3 : mi_wr 3 = 3 := by decide
  have w4 : mi_wr 4 = 4 := by decide
  have w5 : mi_wr 5 = 5 := by decide
  have es : ∀ ν, fr_l CR μ ν → sc_m ν = sc_m μ := fun ν hf => sc_m_frl hf (by decide) (by decide) (by decide)
  -- level 5 done
  have k123 : ∀ ν, rj g μ 5 ν → mk141_0_123 X Q u g ν := by
    rintro ν ⟨hf, h0, ht, k, hk, hk1, hk2, hk3⟩
    apply mh141_0_123
    rw [h0, mi_wr_id (z := μ 0 11) (by omega) (by omega), mi_wr_id (z := g) (by omega) (by omega)]
    have ek := hk1 (by omega) (by omega)
    by_cases c : μ 0 11 < g
    · rw [if_pos c] at ek ⊢
      subst ek
      refine hq _ ⟨fr_ls hf (by decide) _ _, ⟨by rw [ms_same, if_pos rfl]; omega, tw_fr (L := [0]) (fr_ls (fr_lr _ _) (by decide) _ _) rfl ht, fun h => ?_, ?_⟩, by rw [ms_same, if_pos rfl]; exact Int.le_refl _⟩
      · rw [ms_same, if_pos rfl] at h; omega
      · rw [ms_same, if_pos rfl]
        exact cvu_fr (L := [0]) (fr_ls (fr_lr _ _) (by decide) _ _) rfl (fun _ => by decide) (fun _ => by decide) (fun _ => by decide) (fun _ => by decide) (fun _ => by decide) hk
    · rw [if_neg c] at ek ⊢
      subst ek
      refine hq _ ⟨hf, ⟨by rw [h0]; omega, ht, fun h => by rw [h0] at h; omega, by rw [h0]; exact hk⟩, by rw [h0]; omega⟩
  have k103 : ∀ ν, rj g μ 4 ν → mk141_0_103 X Q u g ν := by
    rintro ν ⟨hf, h0, ht, k, hk, hk1, hk2, hk3⟩
    have skip : ¬ (μ 0 11 < 5 ∧ 5 ≤ g) → mk141_0_123 X Q u g ν := fun hn => k123 ν ⟨hf, h0, ht, k, hk, by omega, by omega, by omega⟩
    apply mh141_0_103
    rw [h0, w5, mi_wr_id (z := μ 0 11) (by omega) (by omega), mi_wr_id (z := g) (by omega) (by omega)]
    by_cases c1 : μ 0 11 < 5
    · by_cases c2 : g < 5
      · rw [if_pos c1, if_pos c2]; exact skip (by omega)
      · rw [if_pos c1, if_neg c2]
        have ek : k = 4 := by omega
        subst ek
        have e := es ν hf
        have h72 := hk.2.2.1 (by decide)
        have h73 := (hk.2.2.2.1 (by decide)).1
        refine ⟨⟨by rw [e]; exact hm, h72, h73⟩, fun ρ ⟨f1, q1⟩ => k123 ρ ⟨fr_lt hf (fr_lm f1 rfl), (congrFun (f1 0 (by decide)) 11).trans h0, tw_fr f1 rfl ht, 5, ?_, by omega, by omega, by omega⟩⟩
        have e2 : sc_m ρ = sc_m ν := sc_m_frl f1 (by decide) (by decide) (by decide)
        have c4 := cvu_fr (k := 4) f1 rfl (fun _ => by decide) (fun _ => by decide) (fun _ => by decide) (fun _ => by decide) (fun h => by omega) hk
        exact ⟨fun _ => c4.1 (by decide), fun _ => c4.2.1 (by decide), fun _ => c4.2.2.1 (by decide), fun _ => c4.2.2.2.1 (by decide), fun _ => by rw [e2]; exact q1⟩
    · rw [if_neg c1]; exact skip (by omega)
  have k67 : ∀ ν, rj g μ 3 ν → mk141_0_67 X Q u g ν := by
    rintro ν ⟨hf, h0, ht, k, hk, hk1, hk2, hk3⟩
    have skip : ¬ (μ 0 11 < 4 ∧ 4 ≤ g) → mk141_0_103 X Q u g ν := fun hn => k103 ν ⟨hf, h0, ht, k, hk, by omega, by omega, by omega⟩
    apply mh141_0_67
    rw [h0, w4, mi_wr_id (z := μ 0 11) (by omega) (by omega), mi_wr_id (z := g) (by omega) (by omega)]
    by_cases c1 : μ 0 11 < 4
    · by_cases c2 : g < 4
      · rw [if_pos c1, if_pos c2]; exact skip (by omega)
      · rw [if_pos c1, if_neg c2]
        have ek : k = 3 := by omega
        subst ek
        have e := es ν hf
        have h72 := hk.2.2.1 (by decide)
        refine ⟨⟨by rw [e]; exact hm, h72⟩, fun ν1 ⟨f1, p1⟩ => ?_⟩
        have e1 : sc_m ν1 = sc_m ν := sc_m_fr (f1 1 (by decide)) (f1 2 (by decide)) (f1 3 (by decide))
        have h72a : mp_is ν1 72 (sc_m ν) (sp_sh (sc_m ν)) := mp_is_fr (f1 72 (by decide)) h72
        refine ⟨⟨by rw [e1, e]; exact hm, by decide, by rw [e1]; exact is_in1 h72a (by decide) (by decide), by rw [e1]; exact is_in1 p1 (by decide) (by decide)⟩, fun ν2 ⟨f2, o2, o2', c20, c21⟩ => ?_⟩
        have e2 : sc_m ν2 = sc_m ν1 := sc_m_frl f2 (by decide) (by decide) (by decide)
        rw [e1] at c20 c21
        have h72b : mp_is ν2 72 (sc_m ν) (sp_sh (sc_m ν)) := mp_is_fr (f2 72 (by decide)) h72a
        refine ⟨⟨by rw [e2, e1, e]; exact hm, by decide, by rw [e2, e1]; exact is_in1 h72b (by decide) (by decide), fun x y hi => ?_⟩, fun ν3 ⟨f3, o3, o3', c30, c31⟩ => ?_⟩
        · rw [e2, e1] at hi ⊢
          obtain ⟨a1, a2, a3, a4⟩ := id hi
          rw [(o2 _ (by omega)).1]
          exact is_in1 p1 (v := 1) (by decide) (by decide) x y hi
        have e3 : sc_m ν3 = sc_m ν2 := sc_m_frl f3 (by decide) (by decide) (by decide)
        rw [e2, e1] at c30 c31
        have fa : fr_l [73, 76, 77, 78, 79, 80] ν ν3 := fr_lt (fr_lm (fr_l1 f1) rfl) (fr_lt (fr_lm f2 rfl) (fr_lm f3 rfl))
        have ea : sc_m ν3 = sc_m ν := e3.trans (e2.trans e1)
        have hsz := hm
        rw [← e] at hsz
        obtain ⟨⟨z1, z2⟩, ⟨z3, z4⟩, -⟩ := hsz
        have in0 : in1 ν3 73 (sc_m ν) 0 (sp_kn (sc_m ν) 0) := fun x y hi => by
          obtain ⟨a1, a2, a3, a4⟩ := id hi
          rw [(o3 _ (by omega)).1]; exact c21 x y hi
        have cp0 : cpl ν3 (sc_m ν) 0 := by
          refine ⟨fun x y hi => ?_, fun r h1 h2 h3 => ?_, ?_⟩
          · obtain ⟨a1, a2, a3, a4⟩ := id hi
            rw [(o3 _ (by omega)).2.1]; exact c20.1 x y hi
          · have rb := rk_b (m := sc_m ν) (v := 0) h1
            rw [(o3 _ (by omega)).2.2]; exact c20.2.1 r h1 h2 h3
          · rw [o3' 0 (by decide)]; exact c20.2.2
        refine k103 ν3 ⟨fr_lt hf (fr_lm fa rfl), (congrFun (fa 0 (by decide)) 11).trans h0, tw_fr fa rfl ht, 4, ?_, by omega, by omega, by omega⟩
        have c3 := cvu_fr (k := 3) fa rfl (fun _ => by decide) (fun _ => by decide) (fun _ => by decide) (fun h => by omega) (fun h => by omega) hk
        exact ⟨fun _ => c3.1 (by decide), fun _ => c3.2.1 (by decide), fun _ => c3.2.2.1 (by decide), fun _ => by rw [ea]; exact ⟨in1_is in0 c31, cp0, c30⟩, fun h => by omega⟩
    · rw [if_neg c1]; exact skip (by omega)
  have k47 : ∀ ν, rj g μ 2 ν → mk141_0_47 X Q u g ν := by
    rintro ν ⟨hf, h0, ht, k, hk, hk1, hk2, hk3⟩
    have skip : ¬ (μ 0 11 < 3 ∧ 3 ≤ g) → mk141_0_67 X Q u g ν := fun hn => k67 ν ⟨hf, h0, ht, k, hk, by omega, by omega, by omega⟩
    apply mh141_0_47
    rw [h0, w3, mi_wr_id (z := μ 0 11) (by omega) (by omega), mi_wr_id (z := g) (by omega) (by omega)]
    by_cases c1 : μ 0 11 < 3
    · by_cases c2 : g < 3
      · rw [if_pos c1, if_pos c2]; exact skip (by omega)
      · rw [if_pos c1, if_neg c2]
        have ek : k = 2 := by omega
        subst ek
        have e := es ν hf
        refine ⟨⟨by rw [e]; exact hm, hk.2.1 (by decide)⟩, fun ρ ⟨f1, q1⟩ => k67 ρ ⟨fr_lt hf (fr_lm (fr_l1 f1) rfl), (congrFun (f1 0 (by decide)) 11).trans h0, tw_fr (fr_l1 f1) rfl ht, 3, ?_, by omega, by omega, by omega⟩⟩
        have e2 : sc_m ρ = sc_m ν := sc_m_frl (fr_l1 f1) (by decide) (by decide) (by decide)
        have c4 := cvu_fr (k := 2) (fr_l1 f1) rfl (fun _ => by decide) (fun _ => by decide) (fun h => by omega) (fun h => by omega) (fun h => by omega) hk
        exact ⟨fun _ => c4.1 (by decide), fun _ => c4.2.1 (by decide), fun _ => by rw [e2]; exact q1, fun h => by omega, fun h => by omega⟩
    · rw [if_neg c1]; exact skip (by omega)
  have k27 : ∀ ν, rj g μ 1 ν → mk141_0_27 X Q u g ν := by
    rintro ν ⟨hf, h0, ht, k, hk, hk1, hk2, hk3⟩
    have skip : ¬ (μ 0 11 < 2 ∧ 2 ≤ g) → mk141_0_47 X Q u g ν := fun hn => k47 ν ⟨hf, h0, ht, k, hk, by omega, by omega, by omega⟩
    apply mh141_0_27
    rw [h0, w2, mi_wr_id (z := μ 0 11) (by omega) (by omega), mi_wr_id (z := g) (by omega) (by omega)]
    by_cases c1 : μ 0 11 < 2
    · by_cases c2 : g < 2
      · rw [if_pos c1, if_pos c2]; exact skip (by omega)
      · rw [if_pos c1, if_neg c2]
        have ek : k = 1 := by omega
        subst ek
        have e := es ν hf
        refine ⟨⟨by rw [e]; exact hm, (hk.1 (by decide)).2, ht⟩, fun ρ ⟨f1, q1, t1⟩ => k47 ρ ⟨fr_lt hf (fr_lm f1 rfl), (congrFun (f1 0 (by decide)) 11).trans h0, t1, 2, ?_, by omega, by omega, by omega⟩⟩
        have e2 : sc_m ρ = sc_m ν := sc_m_frl f1 (by decide) (by decide) (by decide)
        have c4 := cvu_fr (k := 1) f1 rfl (fun _ => by decide) (fun h => by omega) (fun h => by omega) (fun h => by omega) (fun h => by omega) hk
        exact ⟨fun _ => c4.1 (by decide), fun _ => by rw [e2]; exact q1, fun h => by omega, fun h => by omega, fun h => by omega⟩
    · rw [if_neg c1]; exact skip (by omega)
  apply me141_0
  rw [w1, mi_wr_id (z := μ 0 11) (by omega) (by omega), mi_wr_id (z := g) (by omega) (by omega)]
  by_cases c1 : μ 0 11 < 1
  · rw [if_pos c1, if_neg (by omega)]
    have s0 : μ 0 11 = 0 := by omega
    refine ⟨hm, fun ν1 ⟨f1, p1⟩ => ?_⟩
    have e1 : sc_m ν1 = sc_m μ := sc_m_frl (fr_l1 f1) (by decide) (by decide) (by decide)
    refine ⟨⟨by rw [e1]; exact hm, by rw [e1]; exact p1⟩, fun ν2 ⟨f2, p2⟩ => k27 ν2 ⟨fr_lt (fr_lm (fr_l1 f1) rfl) (fr_lm (fr_l1 f2) rfl), ?_, ?_, 1, ?_, by omega, by omega, by omega⟩⟩
    · rw [f2 0 (by decide), f1 0 (by decide)]
    · have e66 : ν2 66 5 = -1 := by rw [f2 66 (by decide), f1 66 (by decide)]; exact ht0 s0
      exact ⟨by rw [e66]; decide, fun r h1 h2 => by omega⟩
    · have e2 : sc_m ν2 = sc_m ν1 := sc_m_frl (fr_l1 f2) (by decide) (by decide) (by decide)
      rw [e1] at p2
      exact ⟨fun _ => by rw [e2, e1]; exact ⟨mp_is_fr (f2 67 (by decide)) p1, p2⟩, fun h => by omega, fun h => by omega, fun h => by omega, fun h => by omega⟩
  · rw [if_neg c1]
    exact k27 μ ⟨fr_lr _ _, rfl, htw, μ 0 11, hcv, by omega, by omega, by omega⟩
end
