/-! TEXTS, read by both -/
def TXr (z : LR) (r : Int) (ν : mi_M) : Prop := (z.1 = 0 → r = z.2.1 ∧ 0 ≤ r ∧ rel (sk ν 14) z.2.2) ∧ (z.1 ≠ 0 → r = -2 - z.1 ∧ 0 ≤ z.1 ∧ z.1 ≤ 10000)
section
variable {X : mi_X} {Q : mi_R → mi_G → mi_M → Prop} {u : mi_U} {μ : mi_M}
theorem rt_go {B : Int → Int} {n : Int} (hB : byt (μ 12) = B) (hn : n ≤ 700) : ∀ (k : Nat) (p l : Int) (ρ : mi_M), fr_l [13, 14, 15, 16] μ ρ → RI ρ → ρ 13 5 = 0 → ρ 13 2 = n → ρ 13 4 = p → n - p < 5 * k → 0 ≤ l → l ≤ p → sc_ok (sk ρ 14) → (∀ r ν, fr_l [13, 14, 15, 16] μ ν → TXr (tl B n k p (sk ρ 14) l) r ν → Q (.inl (some (.inl r))) mi_G0 ν) → mk63_13_1_26 X Q u l ρ
  | 0, p, l, ρ, hf, hr, h5, h2, h4, hk, hl, hl', hm, hq => by
    have := hr.1; omega
  | k + 1, p, l, ρ, hf, hr, h5, h2, h4, hk, hl, hl', hm, hq => by
    obtain ⟨⟨a1, a2, a3, a4⟩, -⟩ := id hr
    obtain ⟨hw, hh, -⟩ := id hm
    have e12 : ρ 12 = μ 12 := hf 12 (by decide)
    have w7 : mi_wr 700 = 700 := by decide
    apply mh63_13_1_26
    rw [h5, if_pos w_00, w7, mi_wr_id (z := l) (by omega) (by omega), if_neg (by omega)]
    refine ⟨⟨by omega, a3, a4⟩, fun ρ0 h0 => ?_⟩
    obtain ⟨i1, i2, i3, i4⟩ := RI_on hr h0
    obtain ⟨s1, s2, s3, s4⟩ := h0
    rw [e12, hB, h2, h4] at s3 s4
    obtain ⟨⟨j1, j2, j3, j4⟩, -⟩ := id i1
    have es : sk ρ0 14 = sk ρ 14 := sk_fr s1 (by decide) (by decide) (by decide)
    have fr0 : fr_l [13, 14, 15, 16] μ ρ0 := fr_lt hf (fr_lm s1 rfl)
    have e14 : ρ0 14 = ρ 14 := s1 14 (by decide)
    have tb := tS_b (B := B) (n := n) (p := p) (by omega)
    have hz : ∀ z, z = tl B n (k + 1) p (sk ρ 14) l → z = (if n ≤ tS B n p then (0, l, sk ρ 14) else if (lnc B n (sk ρ 14) (tS B n p)).1 = 0 then tl B n k (lnc B n (sk ρ 14) (tS B n p)).2.1 (lnc B n (sk ρ 14) (tS B n p)).2.2 (l + 1) else ((lnc B n (sk ρ 14) (tS B n p)).1, l, sk ρ 14)) := fun z h => h
    have hz := hz _ rfl
    rw [hz] at hq
    rw [i3, h2, s3, mi_wr_id (z := tS B n p) (by omega) (by omega), mi_wr_id (z := n) (by omega) (by omega)]
    by_cases c : tS B n p = n
    · rw [if_pos c]
      rw [if_pos (by omega)] at hq
      exact hq _ _ fr0 ⟨fun _ => ⟨rfl, hl, fun j _ _ => by rw [es]⟩, fun h => absurd rfl h⟩
    · rw [if_neg c]
      rw [if_neg (by omega)] at hq
      refine ⟨⟨i1, by omega, by omega, ?_, by rw [e14]; exact hw, by rw [e14]; exact hh⟩, fun ρ1 h1 => ?_⟩
      · rw [i4, e12, hB, i3, h2, s3]; exact s4
      · have h1' : CLn ρ0 (lnc B n (sk ρ 14) (tS B n p)) ρ1 := by
          have := h1
          unfold mq66_13 at this
          rw [i4, e12, hB, i3, h2, s3, es] at this
          exact this
        obtain ⟨g1, g2, g3, g4, g5⟩ := h1'
        have fr1 := fr_lt fr0 g1
        have g3' := g3.1
        have g3'' := g3.2
        by_cases d : (lnc B n (sk ρ 14) (tS B n p)).1 = 0
        · rw [if_pos d] at hq
          obtain ⟨t1, t2⟩ := g5 d
          have ok := lnc_ok (B := B) (n := n) hm (by omega) (by omega) d
          rw [← t2] at hq
          refine rt_go hB hn k (lnc B n (sk ρ 14) (tS B n p)).2.1 (l + 1) ρ1 fr1 g3 (g4.trans d) (by omega) t1 (by omega) (by omega) (by omega) (by rw [t2]; exact ok.2) hq
        · rw [if_neg d] at hq
          apply mh63_13_1_26
          rw [g4, mi_wr_id (by omega) (by omega), if_neg d]
          exact hq _ _ fr1 ⟨fun h => absurd h d, fun _ => ⟨rfl, by show 0 ≤ (lnc B n (sk ρ 14) (tS B n p)).1; omega, by show (lnc B n (sk ρ 14) (tS B n p)).1 ≤ 10000; omega⟩⟩
theorem szf_tm {w h w' h' a b : Int} : szf w h (tm w' h' a b) = tm w h a b := by
  funext j
  unfold szf tm
  (repeat' split) <;> first | rfl | omega
theorem lsz_1 {B : Int → Int} {n p : Int} {m m' : Int → Int} : (lsz B n m p).1 = (lsz B n m' p).1 ∧ ((lsz B n m p).1 = 0 → (lsz B n m p).2.1 = (lsz B n m' p).2.1) := by
  unfold lsz
  by_cases c : isw B (tS B n p) (tE B n (tS B n p)) wd1020 = true
  · rw [if_pos c, if_pos c]
    by_cases d : nF B n (tS B n (tE B n (tS B n p))) 3 16 = 0
    · rw [if_pos d, if_pos d]; exact ⟨rfl, fun _ => rfl⟩
    · rw [if_neg d, if_neg d]; exact ⟨rfl, fun h => absurd h d⟩
  · rw [if_neg c, if_neg c]; exact ⟨rfl, fun _ => rfl⟩
/-- a good size -/
theorem lsz_ok {B : Int → Int} {n p : Int} {m : Int → Int} (hp : 0 ≤ p) (hn : p ≤ n) (h : (lsz B n m p).1 = 0) : (0 ≤ (lsz B n m p).2.1 ∧ (lsz B n m p).2.1 ≤ n) ∧ ∃ w h', (3 ≤ w ∧ w ≤ 16) ∧ (3 ≤ h' ∧ h' ≤ 12) ∧ ∀ m', (lsz B n m' p).2.2 = szf w h' m' := by
  have t0 := tSE (B := B) hn
  have t1 := tSE (B := B) t0.2.2.2
  have t2 := tSE (B := B) t1.2.2.2
  unfold lsz at h ⊢
  by_cases c : isw B (tS B n p) (tE B n (tS B n p)) wd1020 = true
  · rw [if_pos c] at h ⊢
    by_cases d : nF B n (tS B n (tE B n (tS B n p))) 3 16 = 0
    · rw [if_pos d] at h ⊢
      have f1 := nF_0 (by omega) d
      have f2 := nF_0 (by omega) (show nF B n (tS B n (tE B n (tS B n (tE B n (tS B n p))))) 3 12 = 0 from h)
      refine ⟨⟨by show 0 ≤ tE B n (tS B n (tE B n (tS B n (tE B n (tS B n p))))); omega, t2.2.2.2⟩, _, _, f1.2, f2.2, fun m' => ?_⟩
      rw [if_pos c, if_pos d]
    · rw [if_neg d] at h; exact absurd h d
  · rw [if_neg c] at h
    have h' : 8 * tS B n p + 1 = 0 := h
    omega
theorem lsz_b {B : Int → Int} {n p : Int} {m : Int → Int} (hp : 0 ≤ p) (hn : p ≤ n) : 0 ≤ (lsz B n m p).1 := by
  have t0 := tSE (B := B) hn
  have t1 := tSE (B := B) t0.2.2.2
  have t2 := tSE (B := B) t1.2.2.2
  have nf : ∀ s lo hi, 0 ≤ s → 0 ≤ nF B n s lo hi := fun s lo hi hs => by unfold nF; (repeat' split) <;> omega
  unfold lsz
  by_cases c : isw B (tS B n p) (tE B n (tS B n p)) wd1020 = true
  · rw [if_pos c]
    by_cases d : nF B n (tS B n (tE B n (tS B n p))) 3 16 = 0
    · rw [if_pos d]; exact nf _ _ _ (by omega)
    · rw [if_neg d]; exact nf _ _ _ (by omega)
  · rw [if_neg c]
    show 0 ≤ 8 * tS B n p + 1
    omega
def mp63_13_1 (a0 : Int) (μ : mi_M) : Prop := sc_ok (sc_m μ) ∧ (0 ≤ a0 ∧ a0 ≤ 700)
def mq63_13_1 (a0 : Int) (μ : mi_M) (r : Int) (ν : mi_M) : Prop := fr_l [13, 14, 15, 16] μ ν ∧ TXr (txs (byt (μ 12)) a0 (sc_m μ 8) (sc_m μ 9)) r ν
theorem df_is {ρ : mi_M} : fr_l [15] ρ (mm64_13_1 X ρ) ∧ ∀ j, 2 ≤ j → j < 10 → sk (mm64_13_1 X ρ) 14 j = tm 0 0 (sc_m ρ 8) (sc_m ρ 9) j := by
  refine ⟨fun q hq => ?_, fun j h1 h2 => ?_⟩
  · simp only [List.mem_cons, List.not_mem_nil, or_false] at hq
    unfold mm64_13_1
    rw [ms_other _ hq, ms_other _ hq, mr_other _ hq]
  · have e : mm64_13_1 X ρ 15 (j - 2) = if j - 2 = 7 then ρ 2 7 else if j - 2 = 6 then ρ 2 6 else mi_cpy (mi_ro X 1002) (ρ 15) 0 0 8 (j - 2) := by
      unfold mm64_13_1
      rw [ms_same, ms_same, mr_same]
    show (if j < 2 then _ else if j < 10 then mm64_13_1 X ρ 15 (j - 2) else _) = _
    rw [if_neg (by omega), if_pos h2, e]
    rcases (show j = 2 ∨ j = 3 ∨ j = 4 ∨ j = 5 ∨ j = 6 ∨ j = 7 ∨ j = 8 ∨ j = 9 by omega) with rfl | rfl | rfl | rfl | rfl | rfl | rfl | rfl <;> rfl
theorem mc63_13_1 {a0 : Int} (hp : mp63_13_1 a0 μ) (hq : ∀ r ν, mq63_13_1 a0 μ r ν → Q (.inl (some (.inl r))) mi_G0 ν) : mi_cok X 63 [(.inr (.inl (some 13))), (.inl a0), (.inr (.inl (some 1)))] mi_G0 μ u Q := by
  obtain ⟨hm, ha, ha'⟩ := hp
  obtain ⟨-, -, -, -, -, -, -, hl8, hf9, -⟩ := id hm
  apply me63_13_1
  have f0 : fr_l [13] μ (mi_set (mi_set (mi_set μ 13 2 a0) 13 4 0) 13 5 0) := fr_ls (fr_ls (fr_ls (fr_lr _ _) (by decide) _ _) (by decide) _ _) (by decide) _ _
  obtain ⟨d1, d2⟩ := df_is (X := X) (ρ := mi_set (mi_set (mi_set μ 13 2 a0) 13 4 0) 13 5 0)
  have es : sc_m (mi_set (mi_set (mi_set μ 13 2 a0) 13 4 0) 13 5 0) = sc_m μ := sc_m_frl f0 (by decide) (by decide) (by decide)
  rw [es] at d2
  have e13 : mm64_13_1 X (mi_set (mi_set (mi_set μ 13 2 a0) 13 4 0) 13 5 0) 13 = mi_set (mi_set (mi_set μ 13 2 a0) 13 4 0) 13 5 0 13 := d1 13 (by decide)
  have g2 : mm64_13_1 X (mi_set (mi_set (mi_set μ 13 2 a0) 13 4 0) 13 5 0) 13 2 = a0 := by rw [e13, ms_same, if_neg (by decide), ms_same, if_neg (by decide), ms_same, if_pos rfl]
  have g4 : mm64_13_1 X (mi_set (mi_set (mi_set μ 13 2 a0) 13 4 0) 13 5 0) 13 4 = 0 := by rw [e13, ms_same, if_neg (by decide), ms_same, if_pos rfl]
  have g5 : mm64_13_1 X (mi_set (mi_set (mi_set μ 13 2 a0) 13 4 0) 13 5 0) 13 5 = 0 := by rw [e13, ms_same, if_pos rfl]
  have fr0 : fr_l [13, 14, 15, 16] μ (mm64_13_1 X (mi_set (mi_set (mi_set μ 13 2 a0) 13 4 0) 13 5 0)) := fr_lt (fr_lm f0 rfl) (fr_lm d1 rfl)
  revert d2 g2 g4 g5 fr0
  generalize mm64_13_1 X (mi_set (mi_set (mi_set μ 13 2 a0) 13 4 0) 13 5 0) = σ
  intro d2 g2 g4 g5 fr0
  have e12 : σ 12 = μ 12 := fr0 12 (by decide)
  have hw : RIw σ := by unfold RIw; rw [g2, g4, g5]; omega
  refine ⟨⟨hw, g5⟩, fun μ0 h0 => ?_⟩
  have h0' : CLn σ (lsz (byt (μ 12)) a0 (sk σ 14) 0) μ0 := by
    have := h0
    unfold mq65_13 at this
    rw [e12, g2, g4] at this
    exact this
  obtain ⟨c1, c2, c3, c4, c5⟩ := h0'
  have z1 := lsz_1 (B := byt (μ 12)) (n := a0) (p := 0) (m := sk σ 14) (m' := tm 0 0 (sc_m μ 8) (sc_m μ 9))
  have fr1 := fr_lt fr0 c1
  unfold mq63_13_1 txs at hq
  by_cases d : (lsz (byt (μ 12)) a0 (sk σ 14) 0).1 = 0
  · have d' : (lsz (byt (μ 12)) a0 (tm 0 0 (sc_m μ 8) (sc_m μ 9)) 0).1 = 0 := z1.1.symm.trans d
    rw [if_pos d'] at hq
    obtain ⟨t1, t2⟩ := c5 d
    obtain ⟨⟨p1, p2⟩, w, h', hw', hh', hsz⟩ := lsz_ok (B := byt (μ 12)) (n := a0) (p := 0) (m := sk σ 14) (by decide) ha d
    rw [hsz] at t2 hq
    rw [szf_tm] at hq
    have hrel : rel (sk μ0 14) (tm w h' (sc_m μ 8) (sc_m μ 9)) := fun j j1 j2 => by
      rw [t2, ← szf_tm (w' := 0) (h' := 0)]
      unfold szf
      by_cases q1 : j = 0
      · rw [if_pos q1, if_pos q1]
      · by_cases q2 : j = 1
        · rw [if_neg q1, if_pos q2, if_neg q1, if_pos q2]
        · rw [if_neg q1, if_neg q2, if_neg q1, if_neg q2]
          by_cases q3 : 10 ≤ j ∧ j < 394
          · rw [if_pos q3, if_pos q3]
          · rw [if_neg q3, if_neg q3]; exact d2 j (by omega) (by omega)
    have hok : sc_ok (sk μ0 14) := sc_cg (f := tm w h' (sc_m μ 8) (sc_m μ 9)) hrel (ok_tm hw' hh' hl8 hf9)
    rw [← z1.2 d] at hq
    refine rt_go (B := byt (μ 12)) (n := a0) rfl ha' 141 (lsz (byt (μ 12)) a0 (sk σ 14) 0).2.1 0 μ0 fr1 c3 (c4.trans d) (c2.trans g2) t1 (by omega) (by decide) p1 hok (fun r ν k1 k2 => hq _ _ ⟨k1, ?_⟩)
    obtain ⟨b1, b2, b3⟩ := tl_cg (B := byt (μ 12)) (n := a0) 141 (lsz (byt (μ 12)) a0 (sk σ 14) 0).2.1 _ _ 0 hrel
    obtain ⟨k3, k4⟩ := k2
    rw [b1, b2] at k3
    rw [b1] at k4
    exact ⟨fun h => ⟨(k3 h).1, (k3 h).2.1, fun j j1 j2 => by rw [(k3 h).2.2 j j1 j2]; exact b3 j j1 j2⟩, k4⟩
  · have d' : ¬ (lsz (byt (μ 12)) a0 (tm 0 0 (sc_m μ 8) (sc_m μ 9)) 0).1 = 0 := fun h => d (z1.1.trans h)
    rw [if_neg d'] at hq
    have b5 := c3.2
    apply mh63_13_1_26
    rw [c4, mi_wr_id (by omega) (by omega), if_neg d]
    refine hq _ _ ⟨fr1, fun h => absurd h d', fun _ => ⟨?_, ?_, ?_⟩⟩
    · show _ = -2 - (lsz (byt (μ 12)) a0 (tm 0 0 (sc_m μ 8) (sc_m μ 9)) 0).1
      rw [z1.1]
    · show 0 ≤ (lsz (byt (μ 12)) a0 (tm 0 0 (sc_m μ 8) (sc_m μ 9)) 0).1
      rw [← z1.1]; omega
    · show (lsz (byt (μ 12)) a0 (tm 0 0 (sc_m μ 8) (sc_m μ 9)) 0).1 ≤ 10000
      rw [← z1.1]; omega
end
