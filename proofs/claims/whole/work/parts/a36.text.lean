/-! TEXTS, by the class -/
section
variable {X : mi_X} {Q : mi_R → mi_G → mi_M → Prop} {u : mi_U} {μ : mi_M}
abbrev AT : List Nat := [0, 1, 2, 3, 11, 13, 14, 15, 16, 66, 17, 19, 20, 21, 22, 23, 24, 25, 26, 27, 28, 29, 30, 31, 32, 33, 34, 35, 36, 37, 38, 39, 40, 41, 42]
def mp98_0 (a0 : Int) (μ : mi_M) : Prop := sc_ok (sc_m μ) ∧ cvP μ ∧ (0 ≤ μ 11 0 ∧ μ 11 0 ≤ 700) ∧ mx_R a0
def mq98_0 (a0 : Int) (μ : mi_M) (r : Int) (ν : mi_M) : Prop := (¬ (0 ≤ a0 ∧ a0 ≤ μ 11 0) → r = -1 ∧ ν = μ) ∧ (0 ≤ a0 ∧ a0 ≤ μ 11 0 → ν 11 0 = 0 ∧ ((txs (byt (μ 12)) a0 (sc_m μ 8) (sc_m μ 9)).1 ≠ 0 → r = -2 - (txs (byt (μ 12)) a0 (sc_m μ 8) (sc_m μ 9)).1 ∧ fr_l [11, 13, 14, 15, 16] μ ν) ∧ ((txs (byt (μ 12)) a0 (sc_m μ 8) (sc_m μ 9)).1 = 0 → r = (txs (byt (μ 12)) a0 (sc_m μ 8) (sc_m μ 9)).2.1 ∧ fr_l AT μ ν ∧ kpc μ ν ∧ (∀ j, sc_m ν j = if 0 ≤ j ∧ j < 394 then (txs (byt (μ 12)) a0 (sc_m μ 8) (sc_m μ 9)).2.2 j else sc_m μ j) ∧ ci ν))
theorem kpc_pre {ρ ν : mi_M} (h : ∀ q, q = 17 ∨ (19 ≤ q ∧ q ≤ 42) → ρ q = μ q) (hm : sc_m ρ = sc_m μ) (hk : kpc ρ ν) : kpc μ ν := by
  obtain ⟨k1, k2, k3⟩ := hk
  refine ⟨by rw [← h 17 (by omega)]; exact k1, k2, fun a j h1 h2 h3 h4 => ?_⟩
  rw [k3 a j h1 h2 h3 h4, hm, pc_fr h]
theorem tl_r {B : Int → Int} {n : Int} : ∀ (k : Nat) (p : Int) (m : Int → Int) (l : Int), (tl B n k p m l).1 = 0 → l ≤ (tl B n k p m l).2.1 ∧ (tl B n k p m l).2.1 ≤ l + k
  | 0, p, m, l, h => by
    have h' : (1 : Int) = 0 := h
    omega
  | k + 1, p, m, l, h => by
    have hz : tl B n (k + 1) p m l = (if n ≤ tS B n p then (0, l, m) else if (lnc B n m (tS B n p)).1 = 0 then tl B n k (lnc B n m (tS B n p)).2.1 (lnc B n m (tS B n p)).2.2 (l + 1) else ((lnc B n m (tS B n p)).1, l, m)) := rfl
    rw [hz] at h ⊢
    by_cases c : n ≤ tS B n p
    · rw [if_pos c]; show l ≤ l ∧ l ≤ l + ((k + 1 : Nat) : Int); omega
    · rw [if_neg c] at h ⊢
      by_cases d : (lnc B n m (tS B n p)).1 = 0
      · rw [if_pos d] at h ⊢
        have := tl_r k _ _ _ h
        omega
      · rw [if_neg d] at h; exact absurd h d
theorem txs_r {B : Int → Int} {n a b : Int} (h : (txs B n a b).1 = 0) : 0 ≤ (txs B n a b).2.1 ∧ (txs B n a b).2.1 ≤ 141 := by
  unfold txs at h ⊢
  by_cases d : (lsz B n (tm 0 0 a b) 0).1 = 0
  · rw [if_pos d] at h ⊢
    have := tl_r 141 _ _ _ h
    omega
  · rw [if_neg d] at h; exact absurd h d
theorem mc98_0 {a0 : Int} (hp : mp98_0 a0 μ) (hq : ∀ r ν, mq98_0 a0 μ r ν → Q (.inl (some (.inl r))) mi_G0 ν) : mi_cok X 98 [(.inr (.inl (some 0))), (.inl a0)] mi_G0 μ u Q := by
  obtain ⟨hm, ⟨hc, hs⟩, ⟨b1, b2⟩, hr⟩ := hp
  have no : ¬ (0 ≤ a0 ∧ a0 ≤ μ 11 0) → Q (.inl (some (.inl (-1)))) mi_G0 μ := fun h => hq _ _ ⟨fun _ => ⟨rfl, rfl⟩, fun h' => absurd h' h⟩
  apply me98_0
  rw [mx_wr hr, mi_wr_id (z := μ 11 0) (by omega) (by omega)]
  by_cases c1 : a0 < 0
  · rw [if_pos c1]; exact no (by omega)
  rw [if_neg c1]
  by_cases c2 : μ 11 0 < a0
  · rw [if_pos c2]; exact no (by omega)
  rw [if_neg c2]
  have c : 0 ≤ a0 ∧ a0 ≤ μ 11 0 := by omega
  refine ⟨⟨hm, by omega⟩, fun r μ0 ⟨f, t1, t2⟩ => ?_⟩
  have fr0 : fr_l [11, 13, 14, 15, 16] μ (mi_set μ0 11 0 0) := fr_ls (fr_lm f rfl) (by decide) _ _
  have e11 : mi_set μ0 11 0 0 11 0 = 0 := by rw [ms_same, if_pos rfl]
  by_cases d : (txs (byt (μ 12)) a0 (sc_m μ 8) (sc_m μ 9)).1 = 0
  · obtain ⟨g1, g2, g3⟩ := t1 d
    have g4 := txs_r d
    rw [mi_wr_id (z := r) (by omega) (by omega), if_neg (by omega)]
    have es : sc_m (mi_set μ0 11 0 0) = sc_m μ := sc_m_frl fr0 (by decide) (by decide) (by decide)
    have e17 : ∀ q, q = 17 ∨ (19 ≤ q ∧ q ≤ 42) → mi_set μ0 11 0 0 q = μ q := fun q hq => fr0 q (by simp only [List.mem_cons, List.not_mem_nil, or_false, not_or]; omega)
    refine ⟨⟨by unfold mp46_17_1; rw [e17 17 (by omega)]; exact hc, by decide, by rw [fr0 0 (by decide)]; exact hs⟩, fun μ1 h1 => ?_⟩
    have hb : ∀ q, q ≠ 1 → q ≠ 2 → q ≠ 3 → mm84_1_14 μ1 q = μ1 q := fun q q1 q2 q3 => bc_ot (c := 1) (d := 14) q1 q2 q3
    have hf : fr_l [1, 2, 3] μ1 (mm84_1_14 μ1) := fun q hq => by
      simp only [List.mem_cons, List.not_mem_nil, or_false, not_or] at hq
      exact hb q hq.1 hq.2.1 hq.2.2
    obtain ⟨k1, k2, -, k4⟩ := beg0 (μ := mi_set μ0 11 0 0) (by rw [fr0 0 (by decide)]; exact hs.1) h1 hf
    have hsk : sk μ1 14 = sk μ0 14 := by
      refine sk_eq ?_ ?_ ?_
      · rw [h1.1 14 (by decide), ms_other _ (by decide)]
      · rw [h1.1 (14 + 1) (by decide), ms_other _ (by decide)]
      · rw [h1.1 (14 + 2) (by decide), ms_other _ (by decide)]
    refine hq _ _ ⟨fun h => absurd c h, fun _ => ⟨?_, fun h => absurd d h, fun _ => ⟨g1, fr_lt (fr_lm fr0 rfl) (fr_lm k1 rfl), kpc_pre e17 es k2, fun j => ?_, k4⟩⟩⟩
    · rw [hb 11 (by decide) (by decide) (by decide), h1.1 11 (by decide)]; exact e11
    · have : sc_m (mm84_1_14 μ1) = fun j => if 0 ≤ j ∧ j < 394 then sk μ1 14 j else sk μ1 1 j := bc_sk (c := 1) (d := 14) (Or.inl (by decide))
      rw [this]
      show (if 0 ≤ j ∧ j < 394 then sk μ1 14 j else sk μ1 1 j) = _
      rw [hsk, sk_1, beg_m h1, es]
      by_cases z : 0 ≤ j ∧ j < 394
      · rw [if_pos z, if_pos z]; exact g3 j z.1 z.2
      · rw [if_neg z, if_neg z]
  · obtain ⟨g1, g2⟩ := t2 d
    rw [mi_wr_id (z := r) (by omega) (by omega), if_pos (by omega)]
    exact hq _ _ ⟨fun h => absurd c h, fun _ => ⟨e11, fun _ => ⟨g1, fr0⟩, fun h => absurd h d⟩⟩
end
