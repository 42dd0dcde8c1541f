/-! ACTS: size, value, tune -/
def vlf (k v : Int) (m : Int → Int) : Int → Int := fun j => if j = k then v else m j
def szf (w h : Int) (m : Int → Int) : Int → Int := fun j => if j = 0 then w else if j = 1 then h else if 10 ≤ j ∧ j < 394 then 0 else m j
def acc (μ ν : mi_M) (f : Int → Int) : Prop := fr_l AS μ ν ∧ kpc μ ν ∧ sc_m ν = f ∧ ci ν
def acr (μ ν : mi_M) (f : Int → Int) : Prop := fr_l [86, 87, 88] μ ν ∧ (∀ j, j ≠ 0 → j ≠ 3 → ν 86 j = μ 86 j) ∧ ν 86 0 = 0 ∧ kpr μ ν ∧ ν 87 = f
def cvP (μ : mi_M) : Prop := mp46_17_1 μ ∧ (0 ≤ μ 0 11 ∧ μ 0 11 ≤ 5)
/-- what tune takes -/
def tnb (m : Int → Int) (a b : Int) : Prop := (a = 0 ∧ 1 ≤ b ∧ b ≤ 7) ∨ (a = 1 ∧ 1 ≤ b ∧ b ≤ 2) ∨ (a = 2 ∧ 0 ≤ b ∧ b ≤ m 5) ∨ (a = 3 ∧ m 4 ≤ b ∧ b ≤ 60) ∨ (a = 4 ∧ 1 ≤ b ∧ b ≤ 255) ∨ (a = 5 ∧ 0 ≤ b ∧ b ≤ 3) ∨ (a = 6 ∧ 1 ≤ b ∧ b ≤ 50) ∨ (a = 7 ∧ 1 ≤ b ∧ b ≤ 999)
section
variable {X : mi_X} {Q : mi_R → mi_G → mi_M → Prop} {u : mi_U} {μ : mi_M}
theorem vlf_3 {ν : mi_M} {k v : Int} (h : 0 ≤ k) : sc_m (mi_set ν 3 k v) = vlf (10 + k) v (sc_m ν) := by
  funext j
  unfold vlf sc_m
  rw [ms_other _ (show (1 : Nat) ≠ 3 by decide), ms_other _ (show (2 : Nat) ≠ 3 by decide), ms_same]
  by_cases c1 : j < 2
  · rw [if_pos c1, if_pos c1, if_neg (show ¬ j = 10 + k by omega)]
  · rw [if_neg c1, if_neg c1]
    by_cases c2 : j < 10
    · rw [if_pos c2, if_pos c2, if_neg (show ¬ j = 10 + k by omega)]
    · rw [if_neg c2, if_neg c2]
      by_cases c3 : j = 10 + k
      · rw [if_pos c3, if_pos (show j - 10 = k by omega)]
      · rw [if_neg c3, if_neg (show ¬ j - 10 = k by omega)]
theorem vlf_2 {ν : mi_M} {k v : Int} (h : 0 ≤ k) (h' : k < 8) : sc_m (mi_set ν 2 k v) = vlf (2 + k) v (sc_m ν) := by
  funext j
  unfold vlf sc_m
  rw [ms_other _ (show (1 : Nat) ≠ 2 by decide), ms_other _ (show (3 : Nat) ≠ 2 by decide), ms_same]
  by_cases c1 : j < 2
  · rw [if_pos c1, if_pos c1, if_neg (show ¬ j = 2 + k by omega)]
  · rw [if_neg c1, if_neg c1]
    by_cases c2 : j < 10
    · rw [if_pos c2, if_pos c2]
      by_cases c3 : j = 2 + k
      · rw [if_pos c3, if_pos (show j - 2 = k by omega)]
      · rw [if_neg c3, if_neg (show ¬ j - 2 = k by omega)]
    · rw [if_neg c2, if_neg c2, if_neg (show ¬ j = 2 + k by omega)]
theorem vlf_R {ν : mi_M} {k v : Int} : mi_set ν 87 k v 87 = vlf k v (ν 87) := by
  funext j; rw [ms_same]; rfl
theorem BS_no {q : Nat} (h : q ≠ 0) (h1 : q ≠ 66) (h2 : ¬ (q = 17 ∨ (19 ≤ q ∧ q ≤ 42))) : q ∉ BS := by
  simp only [List.mem_cons, List.not_mem_nil, or_false, not_or]
  omega
theorem beg0 {μ0 ρ : mi_M} (hs : 0 ≤ μ 0 11) (h : mq139_0 0 μ μ0) (hf : fr_l [1, 2, 3] μ0 ρ) : acc μ ρ (sc_m ρ) := by
  obtain ⟨h1, h2, h3, h4⟩ := h
  refine ⟨fr_lt (fr_lm h1 rfl) (fr_lm hf rfl), kpc_fr h2 (fun q hq => hf q (by
    simp only [List.mem_cons, List.not_mem_nil, or_false, not_or]; omega)), rfl, ci_0 ?_ ?_⟩
  · rw [hf 0 (by decide), h3]; split <;> omega
  · rw [hf 66 (by decide), h4]; rfl
theorem beg_m {a0 : Int} {μ0 : mi_M} (h : mq139_0 a0 μ μ0) : sc_m μ0 = sc_m μ := sc_m_frl h.1 (by decide) (by decide) (by decide)
theorem kpr_fr {ν ρ : mi_M} (h : kpr μ ν) (e3 : ρ 86 3 = ν 86 3) (e : ρ 88 = ν 88) : kpr μ ρ := by
  obtain ⟨k1, k2⟩ := h
  refine ⟨by rw [e3]; exact k1, fun a j h1 h2 h3 h4 => ?_⟩
  rw [e3] at h2
  have := k2 a j h1 h2 h3 h4
  unfold pr_ at this ⊢
  rw [e3, e]; exact this
theorem kpr_0 {ν : mi_M} {t : Int} (h : kpr (mi_set μ 86 0 t) ν) : kpr μ ν := by
  obtain ⟨k1, k2⟩ := h
  rw [ms_same, if_neg (by decide)] at k1
  refine ⟨k1, fun a j h1 h2 h3 h4 => ?_⟩
  have := k2 a j h1 h2 h3 h4
  unfold pr_ at this ⊢
  rw [th_87, ms_other _ (by decide), ms_same _ _ _ _ 3, if_neg (show ¬ (3 : Int) = 0 by decide)] at this
  exact this
theorem begR {μ0 ρ : mi_M} (h : mq148_86 (mi_set μ 86 0 0) μ0) (hf : fr_l [87] μ0 ρ) : acr μ ρ (ρ 87) := by
  obtain ⟨h1, h2, h3⟩ := h
  have e : ρ 86 = μ0 86 := hf 86 (by decide)
  refine ⟨fr_lt (fr_lt (fr_ls (fr_lr _ μ) (show 86 ∈ [86, 87, 88] by decide) 0 0) (fr_lm h1 rfl)) (fr_lm hf rfl), fun j g1 g2 => ?_, ?_, kpr_fr (kpr_0 h3) (by rw [e]) (hf 88 (by decide)), rfl⟩
  · rw [e, h2 j g2, ms_same, if_neg g1]
  · rw [e, h2 0 (by decide), th_0]
theorem begR_m {μ0 : mi_M} (h : mq148_86 (mi_set μ 86 0 0) μ0) : μ0 87 = μ 87 := by rw [h.1 87 (by decide), th_87]
theorem begR_p {t : Int} (h : mp148_86 μ) : mp148_86 (mi_set μ 86 0 t) := by
  unfold mp148_86; rw [ms_same, if_neg (by decide)]; exact h
theorem acr_no : fr_l [86] μ (mi_set μ 86 0 0) ∧ (∀ j, j ≠ 0 → mi_set μ 86 0 0 86 j = μ 86 j) ∧ mi_set μ 86 0 0 86 0 = 0 := ⟨fr_ls (fr_lr _ _) (by decide) _ _, fun j hj => by rw [ms_same, if_neg hj], th_0 _ _⟩
/-- size -/
def szb (a b : Int) : Prop := (3 ≤ a ∧ a ≤ 16) ∧ (3 ≤ b ∧ b ≤ 12)
def mp99_0 (a0 a1 : Int) (μ : mi_M) : Prop := cvP μ ∧ mx_R a0 ∧ mx_R a1
def mq99_0 (a0 a1 : Int) (μ : mi_M) (r : Int) (ν : mi_M) : Prop := (szb a0 a1 → r = 1 ∧ acc μ ν (szf a0 a1 (sc_m μ))) ∧ (¬ szb a0 a1 → r = 0 ∧ ν = μ)
theorem mc99_0 {a0 a1 : Int} (hp : mp99_0 a0 a1 μ) (hq : ∀ r ν, mq99_0 a0 a1 μ r ν → Q (.inl (some (.inl r))) mi_G0 ν) : mi_cok X 99 [(.inr (.inl (some 0))), (.inl a0), (.inl a1)] mi_G0 μ u Q := by
  obtain ⟨⟨hc, hs⟩, ⟨r1, r2⟩, ⟨r3, r4⟩⟩ := hp
  have w3 : mi_wr 3 = 3 := by decide
  have w16 : mi_wr 16 = 16 := by decide
  have w12 : mi_wr 12 = 12 := by decide
  have no : ¬ szb a0 a1 → Q (.inl (some (.inl 0))) mi_G0 μ := fun h => hq _ _ ⟨fun h' => absurd h' h, fun _ => ⟨rfl, rfl⟩⟩
  apply me99_0
  rw [w3, w16, w12, mi_wr_id (z := a0) (by omega) (by omega), mi_wr_id (z := a1) (by omega) (by omega)]
  unfold szb at no
  by_cases c1 : a0 < 3
  · rw [if_pos c1]; exact no (by omega)
  rw [if_neg c1]
  by_cases c2 : 16 < a0
  · rw [if_pos c2]; exact no (by omega)
  rw [if_neg c2]
  by_cases c3 : a1 < 3
  · rw [if_pos c3]; exact no (by omega)
  rw [if_neg c3]
  by_cases c4 : 12 < a1
  · rw [if_pos c4]; exact no (by omega)
  rw [if_neg c4]
  refine ⟨⟨hc, by decide, hs⟩, fun μ0 h0 μ1 ⟨h1, h2⟩ => hq _ _ ⟨fun _ => ⟨rfl, ?_⟩, fun h => absurd (show szb a0 a1 by unfold szb; omega) h⟩⟩
  have := beg0 hs.1 h0 (fr_lm h1 rfl)
  rw [show sc_m μ1 = szf a0 a1 (sc_m μ) from funext fun j => by rw [h2 j, beg_m h0]; rfl] at this
  exact this
def mp169_86 (a0 a1 : Int) (μ : mi_M) : Prop := mp148_86 μ ∧ mx_R a0 ∧ mx_R a1
/-- nothing done but the mark of a throw taken off -/
def rno (μ ν : mi_M) : Prop := ν = mi_set μ 86 0 0
def mq169_86 (a0 a1 : Int) (μ : mi_M) (r : Int) (ν : mi_M) : Prop := (szb a0 a1 → r = 1 ∧ acr μ ν (szf a0 a1 (μ 87))) ∧ (¬ szb a0 a1 → r = 0 ∧ rno μ ν)
theorem mc169_86 {a0 a1 : Int} (hp : mp169_86 a0 a1 μ) (hq : ∀ r ν, mq169_86 a0 a1 μ r ν → Q (.inl (some (.inl r))) mi_G0 ν) : mi_cok X 169 [(.inr (.inl (some 86))), (.inl a0), (.inl a1)] mi_G0 μ u Q := by
  obtain ⟨hc, r1, r3⟩ := hp
  have no : ¬ szb a0 a1 → Q (.inl (some (.inl 0))) mi_G0 (mi_set μ 86 0 0) := fun h => hq _ _ ⟨fun h' => absurd h' h, fun _ => ⟨rfl, rfl⟩⟩
  apply me169_86
  rw [mx_withinM r1 (by unfold mx_R; omega) (by unfold mx_R; omega), mx_withinM r3 (by unfold mx_R; omega) (by unfold mx_R; omega)]
  unfold szb at no
  by_cases c1 : 3 ≤ a0 ∧ a0 ≤ 16
  · rw [if_pos c1, if_neg w_10]
    by_cases c2 : 3 ≤ a1 ∧ a1 ≤ 12
    · rw [if_pos c2, if_neg w_10]
      refine ⟨begR_p hc, fun μ0 h0 μ1 h1 => hq _ _ ⟨fun _ => ⟨rfl, ?_⟩, fun h => absurd ⟨c1, c2⟩ h⟩⟩
      have hf : fr_l [87] μ0 μ1 := by
        rw [h1]; intro q hq
        simp only [List.mem_cons, List.not_mem_nil, or_false] at hq
        rw [mr_other _ hq, ms_other _ hq, ms_other _ hq]
      have := begR h0 hf
      rw [show μ1 87 = szf a0 a1 (μ 87) from ?_] at this
      · exact this
      · rw [h1, mr_same]
        funext j
        unfold szf fl
        rw [ms_same, ms_same, begR_m h0]
        (repeat' split) <;> first | rfl | omega
    · rw [if_neg c2, if_pos w_00]; exact no (fun h => c2 h.2)
  · rw [if_neg c1, if_pos w_00]; exact no (fun h => c1 h.1)
/-- value -/
def vlb (m : Int → Int) (a0 a1 a2 a3 : Int) : Prop := sc_at m a0 a1 a2 ∧ (0 ≤ a3 ∧ a3 ≤ 15)
def mp100_0 (a0 a1 a2 a3 : Int) (μ : mi_M) : Prop := sc_ok (sc_m μ) ∧ cvP μ ∧ mx_R a0 ∧ mx_R a1 ∧ mx_R a2 ∧ mx_R a3
def mq100_0 (a0 a1 a2 a3 : Int) (μ : mi_M) (r : Int) (ν : mi_M) : Prop := (vlb (sc_m μ) a0 a1 a2 a3 → r = sp_val (sc_m μ) a0 a1 a2 ∧ acc μ ν (vlf (10 + (192 * a0 + 16 * a2 + a1)) a3 (sc_m μ))) ∧ (¬ vlb (sc_m μ) a0 a1 a2 a3 → r = -1 ∧ ν = μ)
theorem mc100_0 {a0 a1 a2 a3 : Int} (hp : mp100_0 a0 a1 a2 a3 μ) (hq : ∀ r ν, mq100_0 a0 a1 a2 a3 μ r ν → Q (.inl (some (.inl r))) mi_G0 ν) : mi_cok X 100 [(.inr (.inl (some 0))), (.inl a0), (.inl a1), (.inl a2), (.inl a3)] mi_G0 μ u Q := by
  obtain ⟨hm, ⟨hc, hs⟩, r0, r1, r2, ⟨r3, r4⟩⟩ := hp
  obtain ⟨⟨w1, w2⟩, ⟨g1, g2⟩, -⟩ := id hm
  have no : ¬ vlb (sc_m μ) a0 a1 a2 a3 → Q (.inl (some (.inl (-1)))) mi_G0 μ := fun h => hq _ _ ⟨fun h' => absurd h' h, fun _ => ⟨rfl, rfl⟩⟩
  have w15 : mi_wr 15 = 15 := by decide
  apply me100_0
  by_cases c : sc_at (sc_m μ) a0 a1 a2
  · obtain ⟨⟨v1, v2⟩, x1, x2, y1, y2⟩ := id c
    rw [mx_atT hm c, if_neg w_10, w15, mi_wr_id (z := a3) (by omega) (by omega)]
    by_cases c1 : a3 < 0
    · rw [if_pos c1]; exact no (fun h => by have := h.2; omega)
    rw [if_neg c1]
    by_cases c2 : 15 < a3
    · rw [if_pos c2]; exact no (fun h => by have := h.2; omega)
    rw [if_neg c2]
    refine ⟨⟨hc, by decide, hs⟩, fun μ0 h0 => ?_⟩
    rw [mx_spot y1 (by omega)]
    refine ⟨by omega, by omega, hq _ _ ⟨fun _ => ⟨?_, ?_⟩, fun h => absurd ⟨c, by omega⟩ h⟩⟩
    · rw [← beg_m h0]
      unfold sp_val sc_m
      rw [if_neg (by omega), if_neg (by omega), show 10 + (192 * a0 + 16 * a2 + a1) - 10 = 192 * a0 + 16 * a2 + a1 by omega]
    · have := beg0 hs.1 h0 (fr_ls (fr_lr [1, 2, 3] μ0) (show 3 ∈ [1, 2, 3] by decide) (192 * a0 + 16 * a2 + a1) a3)
      rw [vlf_3 (by omega), beg_m h0] at this
      exact this
  · rw [mx_atF hm r0 r1 r2 c, if_pos w_00]
    exact no (fun h => c h.1)
def mp170_86 (a0 a1 a2 a3 : Int) (μ : mi_M) : Prop := sc_ok (μ 87) ∧ mp148_86 μ ∧ mx_R a0 ∧ mx_R a1 ∧ mx_R a2 ∧ mx_R a3
def mq170_86 (a0 a1 a2 a3 : Int) (μ : mi_M) (r : Int) (ν : mi_M) : Prop := (vlb (μ 87) a0 a1 a2 a3 → r = sp_val (μ 87) a0 a1 a2 ∧ acr μ ν (vlf (10 + (192 * a0 + 16 * a2 + a1)) a3 (μ 87))) ∧ (¬ vlb (μ 87) a0 a1 a2 a3 → r = -1 ∧ rno μ ν)
theorem mx_cel {v x y : Int} : mv152 v x y μ = 10 + (192 * v + 16 * y + x) := by unfold mv152; omega
theorem mc170_86 {a0 a1 a2 a3 : Int} (hp : mp170_86 a0 a1 a2 a3 μ) (hq : ∀ r ν, mq170_86 a0 a1 a2 a3 μ r ν → Q (.inl (some (.inl r))) mi_G0 ν) : mi_cok X 170 [(.inr (.inl (some 86))), (.inl a0), (.inl a1), (.inl a2), (.inl a3)] mi_G0 μ u Q := by
  obtain ⟨hm, hc, r0, r1, r2, r3⟩ := hp
  obtain ⟨⟨w1, w2⟩, ⟨g1, g2⟩, -⟩ := id hm
  have no : ¬ vlb (μ 87) a0 a1 a2 a3 → Q (.inl (some (.inl (-1)))) mi_G0 (mi_set μ 86 0 0) := fun h => hq _ _ ⟨fun h' => absurd h' h, fun _ => ⟨rfl, rfl⟩⟩
  apply me170_86
  rw [th_at, mx_withinM r3 (by unfold mx_R; omega) (by unfold mx_R; omega)]
  by_cases c : sc_at (μ 87) a0 a1 a2
  · obtain ⟨⟨v1, v2⟩, x1, x2, y1, y2⟩ := id c
    rw [mx_atTR hm c, if_neg w_10]
    by_cases c1 : 0 ≤ a3 ∧ a3 ≤ 15
    · rw [if_pos c1, if_neg w_10]
      refine ⟨begR_p hc, fun μ0 h0 => ?_⟩
      obtain ⟨q1, q2⟩ := sc_valR (μ := μ0) (v := a0) (x := a1) (y := a2) v1 v2 x1 (by omega) y1 (by omega)
      rw [mx_cel, q2, begR_m h0]
      refine ⟨q1, by omega, hq _ _ ⟨fun _ => ⟨rfl, ?_⟩, fun h => absurd ⟨c, c1⟩ h⟩⟩
      have := begR h0 (fr_ls (fr_lr [87] μ0) (show 87 ∈ [87] by decide) (10 + (192 * a0 + 16 * a2 + a1)) a3)
      rw [vlf_R, begR_m h0] at this
      exact this
    · rw [if_neg c1, if_pos w_00]; exact no (fun h => c1 h.2)
  · rw [mx_atFR hm r0 r1 r2 c, if_pos w_00]
    exact no (fun h => c h.1)
end
