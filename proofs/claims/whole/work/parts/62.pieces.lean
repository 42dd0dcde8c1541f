/-! PIECES: what hangs together -/
def ad (x y i j : Int) : Prop := (i = x + 1 ∧ j = y) ∨ (i = x - 1 ∧ j = y) ∨ (i = x ∧ j = y + 1) ∨ (i = x ∧ j = y - 1)
def lk (m : Int → Int) (v x y i j : Int) : Prop := ad x y i j ∧ sc_in m x y ∧ sc_in m i j ∧ sp_k0 m v x y = 0 ∧ sp_k0 m v i j = 0 ∧ -1 ≤ sp_sh m v x y - sp_sh m v i j ∧ sp_sh m v x y - sp_sh m v i j ≤ 1
/-- by steps over sides -/
def cn (m : Int → Int) (v x y i j : Int) : Prop := ∀ P : Int → Int → Prop, P x y → (∀ a b c d, P a b → lk m v a b c d → P c d) → P i j
section
variable {m : Int → Int} {v x y i j a b : Int}
theorem lk_y (h : lk m v x y i j) : lk m v i j x y := by
  obtain ⟨h1, h2, h3, h4, h5, h6, h7⟩ := h
  exact ⟨by unfold ad at h1 ⊢; omega, h3, h2, h5, h4, by omega, by omega⟩
theorem cn_r : cn m v x y x y := fun _ h _ => h
theorem cn_t (h : cn m v x y i j) (h' : cn m v i j a b) : cn m v x y a b := fun P h1 h2 => h' P (h P h1 h2) h2
theorem cn_1 (h : lk m v x y i j) : cn m v x y i j := fun _ h1 h2 => h2 _ _ _ _ h1 h
theorem cn_y (h : cn m v x y i j) : cn m v i j x y := h (fun a b => cn m v a b x y) cn_r (fun _ _ _ _ h1 h2 => cn_t (cn_1 (lk_y h2)) h1)
theorem cn_in (h : cn m v x y i j) (hi : sc_in m x y) : sc_in m i j := h (fun a b => sc_in m a b) hi (fun _ _ _ _ _ h2 => h2.2.2.1)
theorem cn_k (h : cn m v x y i j) (hi : sp_k0 m v x y = 0) : sp_k0 m v i j = 0 := h (fun a b => sp_k0 m v a b = 0) hi (fun _ _ _ _ _ h2 => h2.2.2.2.2.1)
end
/-- a least number -/
theorem least_nat {P : Nat → Prop} : ∀ n : Nat, P n → ∃ k, P k ∧ ∀ j, P j → k ≤ j := by
  intro n
  induction n using Nat.strongRecOn with
  | _ n ih =>
    intro hn
    by_cases h : ∃ k, k < n ∧ P k
    · obtain ⟨k, h1, h2⟩ := h
      exact ih k h1 h2
    · exact ⟨n, hn, fun j hj => Nat.le_of_not_lt (fun hl => h ⟨j, hl, hj⟩)⟩
/-- the number of the first place of a piece -/
noncomputable def rt (m : Int → Int) (v x y : Int) : Int := @Classical.epsilon Int ⟨0⟩ (fun k => (∃ i j, cn m v x y i j ∧ k = 16 * j + i) ∧ ∀ i j, cn m v x y i j → k ≤ 16 * j + i)
section
variable {m : Int → Int} {v x y i j : Int}
theorem rt_s (hi : sc_in m x y) : (∃ i j, cn m v x y i j ∧ rt m v x y = 16 * j + i) ∧ ∀ i j, cn m v x y i j → rt m v x y ≤ 16 * j + i := by
  refine @Classical.epsilon_spec Int (fun k => (∃ i j, cn m v x y i j ∧ k = 16 * j + i) ∧ ∀ i j, cn m v x y i j → k ≤ 16 * j + i) ?_
  obtain ⟨k, ⟨i, j, h1, h2⟩, h3⟩ := least_nat (P := fun n : Nat => ∃ i j, cn m v x y i j ∧ (n : Int) = 16 * j + i) (16 * y + x).toNat ⟨x, y, cn_r, by obtain ⟨a1, a2, a3, a4⟩ := hi; omega⟩
  refine ⟨(k : Int), ⟨i, j, h1, h2⟩, fun i' j' h => ?_⟩
  obtain ⟨a1, a2, a3, a4⟩ := cn_in h hi
  have := h3 (16 * j' + i').toNat ⟨i', j', h, by omega⟩
  omega
theorem rt_u {k : Int} (hi : sc_in m x y) (h1 : ∃ i j, cn m v x y i j ∧ k = 16 * j + i) (h2 : ∀ i j, cn m v x y i j → k ≤ 16 * j + i) : rt m v x y = k := by
  obtain ⟨⟨a, b, g1, g2⟩, g3⟩ := rt_s (v := v) hi
  obtain ⟨i, j, h3, h4⟩ := h1
  have := g3 i j h3
  have := h2 a b g1
  omega
theorem rt_b (hw : m 0 ≤ 16) (hh : m 1 ≤ 12) (hi : sc_in m x y) : 0 ≤ rt m v x y ∧ rt m v x y ≤ 16 * y + x ∧ rt m v x y < 192 := by
  obtain ⟨⟨a, b, g1, g2⟩, g3⟩ := rt_s (v := v) hi
  have := g3 x y cn_r
  obtain ⟨a1, a2, a3, a4⟩ := cn_in g1 hi
  omega
theorem rt_c (hi : sc_in m x y) (h : cn m v x y i j) : rt m v i j = rt m v x y := by
  obtain ⟨⟨a, b, g1, g2⟩, g3⟩ := rt_s (v := v) hi
  exact rt_u (cn_in h hi) ⟨a, b, cn_t (cn_y h) g1, g2⟩ (fun i' j' h' => g3 i' j' (cn_t h h'))
theorem rt_e (hw : m 0 ≤ 16) (hi : sc_in m x y) (hj : sc_in m i j) (h : rt m v i j = rt m v x y) : cn m v x y i j := by
  obtain ⟨⟨a, b, g1, g2⟩, -⟩ := rt_s (v := v) hi
  obtain ⟨⟨c, d, g3, g4⟩, -⟩ := rt_s (v := v) hj
  obtain ⟨a1, a2, a3, a4⟩ := cn_in g1 hi
  obtain ⟨b1, b2, b3, b4⟩ := cn_in g3 hj
  have e1 : a = c := by omega
  have e2 : b = d := by omega
  subst e1; subst e2
  exact cn_t g1 (cn_y g3)
/-- a place that is the first of its piece -/
theorem rt_own (hw : m 0 ≤ 16) (hi : sc_in m x y) (hj : sc_in m i j) (h : rt m v x y = 16 * j + i) : rt m v i j = 16 * j + i ∧ cn m v x y i j := by
  obtain ⟨⟨a, b, g1, g2⟩, -⟩ := rt_s (v := v) hi
  obtain ⟨a1, a2, a3, a4⟩ := cn_in g1 hi
  obtain ⟨b1, b2, b3, b4⟩ := hj
  have e1 : a = i := by omega
  have e2 : b = j := by omega
  subst e1; subst e2
  exact ⟨(rt_c hi g1).trans h, g1⟩
end
noncomputable def sp_rt (m : Int → Int) (v x y : Int) : Int := if sp_k0 m v x y = 0 then rt m v x y else -1
/-- how many places a piece has -/
noncomputable def sz (m : Int → Int) (v r : Int) : Int := sm2 (fun x y => if sp_rt m v x y = r then 1 else 0) (m 0) (m 1)
/-- how many pieces begin ahead of a place -/
noncomputable def rk (m : Int → Int) (v n : Int) : Int := sm (fun r => if 0 < sz m v r then 1 else 0) n.toNat
/-! sums -/
theorem sm_0le {f : Int → Int} : ∀ n : Nat, (∀ i : Int, 0 ≤ i → i < n → 0 ≤ f i) → 0 ≤ sm f n
  | 0, _ => Int.le_refl _
  | n + 1, h => by
    have h1 := sm_0le n (fun i a b => h i a (by omega))
    have h2 := h n (by omega) (by omega)
    show 0 ≤ sm f n + f n
    omega
theorem sm_ge {f : Int → Int} {k : Int} : ∀ n : Nat, (∀ i : Int, 0 ≤ i → i < n → 0 ≤ f i) → 0 ≤ k → k < n → f k ≤ sm f n
  | 0, _, h1, h2 => by omega
  | n + 1, h, h1, h2 => by
    have g1 := sm_0le n (fun i a b => h i a (by omega))
    have g2 := h n (by omega) (by omega)
    show f k ≤ sm f n + f n
    by_cases e : k = n
    · subst e; omega
    · have := sm_ge n (fun i a b => h i a (by omega)) h1 (by omega)
      omega
theorem sm_ex {f : Int → Int} : ∀ n : Nat, 0 < sm f n → ∃ i : Int, 0 ≤ i ∧ i < n ∧ 0 < f i
  | 0, h => absurd h (Int.lt_irrefl 0)
  | n + 1, h => by
    have h' : 0 < sm f n + f n := h
    by_cases e : 0 < f n
    · exact ⟨n, by omega, by omega, e⟩
    · obtain ⟨i, h1, h2, h3⟩ := sm_ex n (show 0 < sm f n by omega)
      exact ⟨i, h1, by omega, h3⟩
theorem sm_upd {f g : Int → Int} {k : Int} : ∀ n : Nat, 0 ≤ k → k < n → (∀ i, i ≠ k → g i = f i) → sm g n = sm f n - f k + g k
  | 0, h1, h2, _ => by omega
  | n + 1, h1, h2, h => by
    show sm g n + g n = sm f n + f n - f k + g k
    by_cases e : k = n
    · subst e
      rw [sm_eq (f := g) (g := f) n (fun i a b => h i (by omega))]
      omega
    · rw [sm_upd n h1 (by omega) h, h n (fun h => e h.symm)]
      omega
theorem sz_0 {m : Int → Int} {v r : Int} : 0 ≤ sz m v r := sm_0le _ (fun y _ _ => sm_0le _ (fun x _ _ => by dsimp only; split <;> omega))
theorem sz_ex {m : Int → Int} {v r : Int} (h : 0 < sz m v r) : ∃ x y, sc_in m x y ∧ sp_rt m v x y = r := by
  obtain ⟨y, h1, h2, h3⟩ := sm_ex _ h
  obtain ⟨x, h4, h5, h6⟩ := sm_ex _ h3
  refine ⟨x, y, ⟨h4, by omega, h1, by omega⟩, ?_⟩
  dsimp only at h6
  by_cases e : sp_rt m v x y = r
  · exact e
  · rw [if_neg e] at h6; exact absurd h6 (by decide)
theorem sz_pos {m : Int → Int} {v x y : Int} (h : sc_in m x y) : 0 < sz m v (sp_rt m v x y) := by
  obtain ⟨h1, h2, h3, h4⟩ := h
  have g1 := sm_ge (f := fun x' => if sp_rt m v x' y = sp_rt m v x y then (1 : Int) else 0) (k := x) (m 0).toNat (fun i _ _ => by split <;> omega) h1 (by omega)
  have g2 := sm_ge (f := fun y' => sm (fun x' => if sp_rt m v x' y' = sp_rt m v x y then (1 : Int) else 0) (m 0).toNat) (k := y) (m 1).toNat (fun i _ _ => sm_0le _ (fun x _ _ => by split <;> omega)) h3 (by omega)
  rw [if_pos rfl] at g1
  have : sm (fun y' => sm (fun x' => if sp_rt m v x' y' = sp_rt m v x y then (1 : Int) else 0) (m 0).toNat) (m 1).toNat = sz m v (sp_rt m v x y) := rfl
  omega
theorem sz_le {m : Int → Int} (hm : sc_ok m) (v r : Int) : sz m v r ≤ 192 := by
  obtain ⟨⟨w1, w2⟩, ⟨g1, g2⟩, -⟩ := id hm
  have h1 := fun y => sm_b (f := fun x => if sp_rt m v x y = r then (1 : Int) else 0) (a := 1) (by decide) (m 0).toNat (fun i _ _ => by split <;> omega)
  have h2 := sm_b (f := fun y => sm (fun x => if sp_rt m v x y = r then (1 : Int) else 0) (m 0).toNat) (a := 16) (by decide) (m 1).toNat (fun y _ _ => by have := h1 y; constructor <;> omega)
  have : sm (fun y => sm (fun x => if sp_rt m v x y = r then (1 : Int) else 0) (m 0).toNat) (m 1).toNat = sz m v r := rfl
  omega
/-! lowers (the reference) -/
theorem w_10 : ¬ (mi_wr 1 = 0) := by decide
theorem w_00 : mi_wr 0 = 0 := by decide
def mp211r (v x y i j : Int) (μ : mi_M) : Prop := sc_ok (μ 87) ∧ (0 ≤ v ∧ v ≤ 1) ∧ sc_in (μ 87) x y ∧ ad x y i j ∧ mp_is μ 95 (μ 87) (sp_sh (μ 87)) ∧ mp_is μ 96 (μ 87) (sp_k0 (μ 87)) ∧ ∀ k, 192 * v ≤ k → k < 192 * v + 192 → 0 ≤ μ 97 k ∧ μ 97 k < 384
def mq211r (v x y i j : Int) (μ : mi_M) (r : Int) (ν : mi_M) : Prop := (r = 0 ∧ ν = μ ∧ ¬ (lk (μ 87) v x y i j ∧ μ 97 (192 * v + 16 * j + i) < μ 97 (192 * v + 16 * y + x))) ∨ (r = 1 ∧ lk (μ 87) v x y i j ∧ μ 97 (192 * v + 16 * j + i) < μ 97 (192 * v + 16 * y + x) ∧ ν = mi_set μ 97 (192 * v + 16 * y + x) (μ 97 (192 * v + 16 * j + i)))
section
variable {X : mi_X} {Q : mi_R → mi_G → mi_M → Prop} {u : mi_U} {μ : mi_M}
theorem mx_hang {v x y i j : Int} (hp : mp211r v x y i j μ) : mp210_86 v x y i j μ ∧ (lk (μ 87) v x y i j → mv210_86 v x y i j μ = 1) ∧ (¬ lk (μ 87) v x y i j → mv210_86 v x y i j μ = 0) := by
  obtain ⟨hm, ⟨hv, hv'⟩, hi, had, hs, hk, -⟩ := hp
  obtain ⟨⟨w1, w2⟩, ⟨g1, g2⟩, ⟨f1, f2⟩, -⟩ := id hm
  obtain ⟨a1, a2, a3, a4⟩ := id hi
  have hij : mx_R i ∧ mx_R j := by unfold ad at had; exact ⟨⟨by omega, by omega⟩, ⟨by omega, by omega⟩⟩
  unfold mp210_86 mv210_86
  simp only [mx_spotR]
  by_cases hc : sc_in (μ 87) i j
  · obtain ⟨b1, b2, b3, b4⟩ := id hc
    have k1 := sp_k0_b (m := μ 87) (v := v) (x := x) (y := y)
    have k2 := sp_k0_b (m := μ 87) (v := v) (x := i) (y := j)
    have h1 := sp_sh_b hm v a2 y
    have h2 := sp_sh_b hm v b2 j
    rw [mx_placeT hm hc, hk v x y hv hv' a1 a2 a3 a4, hk v i j hv hv' b1 b2 b3 b4, hs v x y hv hv' a1 a2 a3 a4, hs v i j hv hv' b1 b2 b3 b4, mi_wr_id (z := sp_k0 (μ 87) v x y) (by omega) (by omega), mi_wr_id (z := sp_k0 (μ 87) v i j) (by omega) (by omega), mx_withinM ⟨by omega, by omega⟩ ⟨by omega, by omega⟩ ⟨by omega, by omega⟩, if_neg w_10, if_neg w_10]
    by_cases e1 : sp_k0 (μ 87) v x y = 0
    · by_cases e2 : sp_k0 (μ 87) v i j = 0
      · rw [if_pos e1, if_pos e2, if_pos e1, if_pos e2]
        refine ⟨⟨by omega, by omega, by omega, by omega⟩, fun h => ?_, fun h => ?_⟩
        · rw [if_pos h.2.2.2.2.2]; rfl
        · rw [if_neg (fun hh => h ⟨had, hi, hc, e1, e2, hh⟩)]; rfl
      · rw [if_pos e1, if_neg e2, if_pos e1, if_neg e2]
        exact ⟨⟨by omega, by omega, trivial⟩, fun h => absurd h.2.2.2.2.1 e2, fun _ => rfl⟩
    · rw [if_neg e1, if_neg e1]
      exact ⟨⟨by omega, trivial⟩, fun h => absurd h.2.2.2.1 e1, fun _ => rfl⟩
  · rw [mx_placeF hm hij.1 hij.2 hc, if_pos w_00, if_pos w_00]
    exact ⟨trivial, fun h => absurd h.2.2.1 hc, fun _ => rfl⟩
theorem mc211r {v x y i j : Int} (hp : mp211r v x y i j μ) (hq : ∀ r ν, mq211r v x y i j μ r ν → Q (.inl (some (.inl r))) mi_G0 ν) : mi_cok X 211 [(.inr (.inl (some 86))), (.inl v), (.inl x), (.inl y), (.inl i), (.inl j)] mi_G0 μ u Q := by
  obtain ⟨h1, h2, h3⟩ := mx_hang hp
  obtain ⟨hm, ⟨hv, hv'⟩, hi, had, hs, hk, hR⟩ := hp
  obtain ⟨⟨w1, w2⟩, ⟨g1, g2⟩, ⟨f1, f2⟩, -⟩ := id hm
  obtain ⟨a1, a2, a3, a4⟩ := id hi
  by_cases hl : lk (μ 87) v x y i j
  · obtain ⟨-, -, ⟨b1, b2, b3, b4⟩, -⟩ := id hl
    have r1 := hR (192 * v + 16 * y + x) (by omega) (by omega)
    have r2 := hR (192 * v + 16 * j + i) (by omega) (by omega)
    have e1 := h2 hl
    refine mc211_86 ?_ ?_
    · unfold mp211_86
      simp only [mx_spotR]
      rw [e1, if_neg w_10]
      refine ⟨h1, by omega, by omega, ?_⟩
      split
      · exact ⟨by omega, by omega⟩
      · trivial
    · unfold mv211_86 mm211_86
      simp only [mx_spotR]
      rw [e1, if_neg w_10, if_neg w_10, mi_wr_id (z := μ 97 (192 * v + 16 * y + x)) (by omega) (by omega), mi_wr_id (z := μ 97 (192 * v + 16 * j + i)) (by omega) (by omega)]
      by_cases e2 : μ 97 (192 * v + 16 * j + i) < μ 97 (192 * v + 16 * y + x)
      · rw [if_pos e2, if_pos e2]
        exact hq _ _ (Or.inr ⟨rfl, hl, e2, rfl⟩)
      · rw [if_neg e2, if_neg e2]
        exact hq _ _ (Or.inl ⟨rfl, rfl, fun h => e2 h.2⟩)
  · have e1 := h3 hl
    refine mc211_86 ?_ ?_
    · unfold mp211_86
      rw [e1, if_pos w_00]
      exact ⟨h1, trivial⟩
    · unfold mv211_86 mm211_86
      rw [e1, if_pos w_00, if_pos w_00]
      exact hq _ _ (Or.inl ⟨rfl, rfl, fun h => hl h.1⟩)
end
/-! all kinds by sight (the class) -/
def mp17_71 (μ : mi_M) : Prop := sc_ok (sc_m μ) ∧ mp_is μ 72 (sc_m μ) (sp_sh (sc_m μ))
def mq17_71 (μ ν : mi_M) : Prop := fr_1 73 μ ν ∧ mp_is ν 73 (sc_m μ) (sp_k0 (sc_m μ))
section
variable {X : mi_X} {Q : mi_R → mi_G → mi_M → Prop} {u : mi_U} {μ : mi_M}
theorem mc17_71 (hp : mp17_71 μ) (hq : ∀ ν, mq17_71 μ ν → Q (.inl none) mi_G0 ν) : mi_cok X 17 [(.inr (.inl (some 71)))] mi_G0 μ u Q := by
  obtain ⟨hm, hc⟩ := hp
  obtain ⟨⟨w1, w2⟩, ⟨g1, g2⟩, -⟩ := id hm
  apply me17_71
  refine qp_2 (A := fun y ν => mk17_71_2 X Q u y ν) (B := fun y x ν => mk17_71_15 X Q u y x ν) (I := fun y x ν => fr_1 73 μ ν ∧ mp_to ν 73 (sc_m μ) (sp_k0 (sc_m μ)) y x) (w := sc_m μ 0) (h := sc_m μ 1) (by omega) (by omega) ?_ ?_ ?_ ?_ ⟨fr_r _ _, mp_to0⟩
  · rintro ν ⟨hf, ht⟩
    apply mh17_71_2
    rw [hf 1 (by decide), ← sc_m1 μ, if_neg (by omega)]
    exact hq ν ⟨hf, mp_toE ht⟩
  · rintro y ν hy hy' ⟨hf, ht⟩ k
    apply mh17_71_2
    rw [hf 1 (by decide), ← sc_m1 μ, mi_wr_id (by omega) (by omega), mi_wr_id (by omega) (by omega), if_pos (by omega)]
    exact k ν ⟨hf, ht⟩
  · rintro y x ν hy hy' hx hx' ⟨hf, ht⟩ k
    have es : sc_m ν = sc_m μ := sc_m_fr (hf 1 (by decide)) (hf 2 (by decide)) (hf 3 (by decide))
    have e0 : ν 1 0 = sc_m μ 0 := by rw [hf 1 (by decide)]; rfl
    apply mh17_71_15
    simp only [mx_spot hy (show y < 16777216 by omega)]
    rw [e0, mi_wr_id (by omega) (by omega), mi_wr_id (by omega) (by omega), if_pos (by omega)]
    have hs1 : mp_is ν 72 (sc_m μ) (sp_sh (sc_m μ)) := mp_is_fr (hf 72 (by decide)) hc
    refine ⟨⟨by rw [es]; exact hm, by omega, by rw [es]; exact ⟨hx, hx', hy, hy'⟩, by rw [es]; exact hs1⟩, by omega, ⟨by rw [sc_m_set _ (by decide), es]; exact hm, by omega, by rw [sc_m_set _ (by decide), es]; exact ⟨hx, hx', hy, hy'⟩, by rw [sc_m_set _ (by decide), es]; exact mp_is_fr (ms_other _ (by decide) _ _) hs1⟩, by omega, k _ ⟨fr_s (fr_s hf _ _) _ _, mp_toX w2 ht hx hx' hy (by omega) ?_ ?_⟩⟩
    · unfold mv18_71; rw [es]
    · unfold mv18_71; rw [sc_m_set _ (by decide), es]
  · rintro y ν hy hy' ⟨hf, ht⟩ k
    apply mh17_71_15
    rw [hf 1 (by decide), ← sc_m0 μ, if_neg (by omega)]
    exact k ν ⟨hf, mp_toY ht⟩
end
