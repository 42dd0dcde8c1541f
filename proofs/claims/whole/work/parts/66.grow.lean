/-! a piece grows (the class) -/
theorem sm_updr {f g : Int → Int} {k : Int} : ∀ n : Nat, 0 ≤ k → k < n → (∀ i : Int, 0 ≤ i → i < n → i ≠ k → g i = f i) → sm g n = sm f n - f k + g k
  | 0, h1, h2, _ => by omega
  | n + 1, h1, h2, h => by
    show sm g n + g n = sm f n + f n - f k + g k
    by_cases e : k = n
    · subst e
      rw [sm_eq (f := g) (g := f) n (fun i a b => h i a (by omega) (by omega))]
      omega
    · rw [sm_updr n h1 (by omega) (fun i a b => h i a (by omega)), h n (by omega) (by omega) (fun h => e h.symm)]
      omega
theorem sm2_upd {f g : Int → Int → Int} {w h a b : Int} (ha : 0 ≤ a) (ha' : a < w) (hb : 0 ≤ b) (hb' : b < h) (e : ∀ x y, 0 ≤ x → x < w → 0 ≤ y → y < h → (x ≠ a ∨ y ≠ b) → g x y = f x y) : sm2 g w h = sm2 f w h - f a b + g a b := by
  unfold sm2
  rw [sm_updr (f := fun y => sm (fun x => f x y) w.toNat) (g := fun y => sm (fun x => g x y) w.toNat) (k := b) h.toNat hb (by omega) (fun y h1 h2 hy => sm_eq _ (fun x h3 h4 => e x y h3 (by omega) h1 (by omega) (Or.inr hy)))]
  rw [sm_updr (f := fun x => f x b) (g := fun x => g x b) (k := a) w.toNat ha (by omega) (fun x h3 h4 hx => e x b h3 (by omega) hb hb' (Or.inl hx))]
  omega
theorem sm2_eq {f g : Int → Int → Int} {w h : Int} (e : ∀ x y, 0 ≤ x → x < w → 0 ≤ y → y < h → f x y = g x y) : sm2 f w h = sm2 g w h := by
  unfold sm2
  exact sm_eq _ (fun y h1 h2 => sm_eq _ (fun x h3 h4 => e x y h3 (by omega) h1 (by omega)))
theorem sm2_b {f : Int → Int → Int} {w h : Int} (hw : 0 ≤ w) (hw' : w ≤ 16) (hh : 0 ≤ h) (hh' : h ≤ 12) (e : ∀ x y, 0 ≤ f x y ∧ f x y ≤ 1) : 0 ≤ sm2 f w h ∧ sm2 f w h ≤ 192 := by
  have h1 := fun y => sm_b (f := fun x => f x y) (a := 1) (by decide) w.toNat (fun i _ _ => e i y)
  have h2 := sm_b (f := fun y => sm (fun x => f x y) w.toNat) (a := 16) (by decide) h.toNat (fun y _ _ => by have := h1 y; constructor <;> omega)
  have : sm (fun y => sm (fun x => f x y) w.toNat) h.toNat = sm2 f w h := rfl
  omega
def in1 (μ : mi_M) (c : Nat) (m : Int → Int) (v : Int) (f : Int → Int → Int) : Prop := ∀ x y, sc_in m x y → μ c (192 * v + 16 * y + x) = f x y
theorem in1_fr {μ ν : mi_M} {c : Nat} {m : Int → Int} {v : Int} {f : Int → Int → Int} (e : ν c = μ c) (h : in1 μ c m v f) : in1 ν c m v f := fun x y hi => by rw [e]; exact h x y hi
/-- a start: the first place, the number -/
def gb (μ : mi_M) (v x0 y0 n : Int) : Prop := sc_ok (sc_m μ) ∧ (0 ≤ v ∧ v ≤ 1) ∧ in1 μ 72 (sc_m μ) v (sp_sh (sc_m μ) v) ∧ in1 μ 73 (sc_m μ) v (sp_k0 (sc_m μ) v) ∧ sc_in (sc_m μ) x0 y0 ∧ sp_k0 (sc_m μ) v x0 y0 = 0 ∧ (0 ≤ n ∧ n < 192) ∧ (∀ a b, sc_in (sc_m μ) a b → -1 ≤ μ 77 (192 * v + 16 * b + a) ∧ μ 77 (192 * v + 16 * b + a) < n) ∧ ∀ a b, cn (sc_m μ) v x0 y0 a b → μ 77 (192 * v + 16 * b + a) = -1
/-- while it grows: the first I of those that wait have been looked around -/
def gi (μ : mi_M) (v x0 y0 n I : Int) (ν : mi_M) : Prop := fr_l [76, 77, 80] μ ν ∧ (0 ≤ ν 76 6 ∧ ν 76 6 ≤ 192) ∧ (∀ k, ν 77 k ≠ μ 77 k → ∃ a b, cn (sc_m μ) v x0 y0 a b ∧ k = 192 * v + 16 * b + a ∧ ν 77 k = n) ∧ (∀ i, 0 ≤ i → i < ν 76 6 → ∃ a b, sc_in (sc_m μ) a b ∧ ν 80 i = 16 * b + a ∧ ν 77 (192 * v + 16 * b + a) = n) ∧ (∀ a b, sc_in (sc_m μ) a b → ν 77 (192 * v + 16 * b + a) = n → ∃ i, 0 ≤ i ∧ i < ν 76 6 ∧ ν 80 i = 16 * b + a) ∧ ν 76 6 = sm2 (fun a b => if ν 77 (192 * v + 16 * b + a) = n then 1 else 0) (sc_m μ 0) (sc_m μ 1) ∧ ∀ i, 0 ≤ i → i < I → ∀ a b, sc_in (sc_m μ) a b → ν 80 i = 16 * b + a → ∀ c d, lk (sc_m μ) v a b c d → ν 77 (192 * v + 16 * d + c) ≠ -1
theorem mx_and15 {a b : Int} (ha : 0 ≤ a) (ha' : a < 16) (hb : 0 ≤ b) (hb' : b < 1000) : mi_and (16 * b + a) 15 = a := by
  obtain ⟨n, rfl⟩ := Int.eq_ofNat_of_zero_le ha
  obtain ⟨k, rfl⟩ := Int.eq_ofNat_of_zero_le hb
  have := mx_andN (a := 16 * k + n) (b := 15) (by omega)
  have e : (16 * k + n) &&& 15 = n := by
    have := Nat.and_two_pow_sub_one_eq_mod (16 * k + n) 4
    rw [show 2 ^ 4 - 1 = 15 by decide] at this
    rw [this]; omega
  rw [e] at this
  rw [show (16 * (k : Int) + (n : Int)) = ((16 * k + n : Nat) : Int) by omega]
  exact this
/-- who may be joined -/
theorem mx_free {ν : mi_M} {m : Int → Int} {v i j own : Int} (hm : sc_ok m) (hv : 0 ≤ v) (hv' : v ≤ 1) (h2 : in1 ν 72 m v (sp_sh m v)) (h3 : in1 ν 73 m v (sp_k0 m v)) (hi : sc_in m i j) (ho : 0 ≤ own ∧ own ≤ 7) (hl : mx_R (ν 77 (192 * v + 16 * j + i))) : mp53_76 (192 * v + 16 * j + i) own ν ∧ ((sp_k0 m v i j = 0 ∧ ν 77 (192 * v + 16 * j + i) = -1 ∧ -1 ≤ own - sp_sh m v i j ∧ own - sp_sh m v i j ≤ 1) → mv53_76 (192 * v + 16 * j + i) own ν = 1) ∧ (¬ (sp_k0 m v i j = 0 ∧ ν 77 (192 * v + 16 * j + i) = -1 ∧ -1 ≤ own - sp_sh m v i j ∧ own - sp_sh m v i j ≤ 1) → mv53_76 (192 * v + 16 * j + i) own ν = 0) := by
  obtain ⟨⟨w1, w2⟩, ⟨g1, g2⟩, ⟨f1, f2⟩, -⟩ := id hm
  obtain ⟨a1, a2, a3, a4⟩ := id hi
  have kb := sp_k0_b (m := m) (v := v) (x := i) (y := j)
  have sb := sp_sh_b hm v a2 j
  have hm1 : mi_wr (-1) = -1 := by decide
  have h11 : mi_wr 1 = 1 := by decide
  unfold mp53_76 mv53_76
  rw [h3 i j hi, h2 i j hi, mi_wr_id (z := sp_k0 m v i j) (by omega) (by omega), mx_wr hl, hm1, h11, mx_abs ⟨by omega, by omega⟩]
  by_cases e1 : sp_k0 m v i j = 0
  · by_cases e2 : ν 77 (192 * v + 16 * j + i) = -1
    · rw [if_pos e1, if_pos e2, if_pos e1, if_pos e2, mi_wr_id (by split <;> omega) (by split <;> omega)]
      refine ⟨⟨by omega, by omega, by omega⟩, fun h => ?_, fun h => ?_⟩
      · rw [if_neg (by split <;> omega)]
      · rw [if_pos (by split <;> omega)]
    · rw [if_pos e1, if_neg e2, if_pos e1, if_neg e2]
      exact ⟨⟨by omega, by omega, trivial⟩, fun h => absurd h.2.1 e2, fun _ => rfl⟩
  · rw [if_neg e1, if_neg e1]
    exact ⟨⟨by omega, trivial⟩, fun h => absurd h.1 e1, fun _ => rfl⟩
section
variable {X : mi_X} {Q : mi_R → mi_G → mi_M → Prop} {u : mi_U} {μ ν : mi_M} {v x0 y0 n I : Int}
/-- labels -/
theorem gi_R (hb : gb μ v x0 y0 n) (h : gi μ v x0 y0 n I ν) {a b : Int} (hi : sc_in (sc_m μ) a b) : -1 ≤ ν 77 (192 * v + 16 * b + a) ∧ ν 77 (192 * v + 16 * b + a) ≤ 192 := by
  obtain ⟨-, -, -, -, -, -, hn, hl, -⟩ := hb
  by_cases e : ν 77 (192 * v + 16 * b + a) = μ 77 (192 * v + 16 * b + a)
  · have := hl a b hi; omega
  · obtain ⟨-, -, h3, -⟩ := h
    obtain ⟨c, d, -, -, h4⟩ := h3 _ e
    omega
/-- one joins -/
def gj (ν : mi_M) (v i j n : Int) : mi_M := mi_set (mi_set (mi_set ν 77 (192 * v + 16 * j + i) n) 80 (ν 76 6) (16 * j + i)) 76 6 (ν 76 6 + 1)
theorem gi_j (hb : gb μ v x0 y0 n) (h : gi μ v x0 y0 n I ν) (hI : I ≤ ν 76 6) {i j : Int} (hc : cn (sc_m μ) v x0 y0 i j) (hf : ν 77 (192 * v + 16 * j + i) = -1) : ν 76 6 < 192 ∧ gi μ v x0 y0 n I (gj ν v i j n) ∧ (gj ν v i j n) 76 6 = ν 76 6 + 1 ∧ (∀ k, (gj ν v i j n) 77 k = if k = 192 * v + 16 * j + i then n else ν 77 k) ∧ ∀ k, k < ν 76 6 → (gj ν v i j n) 80 k = ν 80 k := by
  obtain ⟨hm, ⟨hv, hv'⟩, -, -, hin, -, hn, hl, -⟩ := hb
  obtain ⟨⟨w1, w2⟩, ⟨g1, g2⟩, ⟨f1, f2⟩, -⟩ := id hm
  have hi := cn_in hc hin
  obtain ⟨a1, a2, a3, a4⟩ := id hi
  obtain ⟨q1, q2, q3, q4, q5, q6, q7⟩ := h
  have e77 : ∀ k, (gj ν v i j n) 77 k = if k = 192 * v + 16 * j + i then n else ν 77 k := fun k => by
    unfold gj; rw [ms_other _ (by decide), ms_other _ (by decide), ms_same]
  have e80 : ∀ k, (gj ν v i j n) 80 k = if k = ν 76 6 then 16 * j + i else ν 80 k := fun k => by
    unfold gj; rw [ms_other _ (by decide), ms_same, ms_other _ (by decide)]
  have e76 : (gj ν v i j n) 76 6 = ν 76 6 + 1 := by unfold gj; rw [ms_same, if_pos rfl]
  have hcnt : ν 76 6 + 1 = sm2 (fun a b => if (gj ν v i j n) 77 (192 * v + 16 * b + a) = n then 1 else 0) (sc_m μ 0) (sc_m μ 1) := by
    rw [sm2_upd (f := fun a b => if ν 77 (192 * v + 16 * b + a) = n then 1 else 0) (a := i) (b := j) a1 a2 a3 a4, ← q6]
    · rw [hf, if_neg (by omega), e77, if_pos rfl, if_pos rfl]; omega
    · intro x y h1 h2 h3 h4 hne
      rw [e77, if_neg (show ¬ (192 * v + 16 * y + x = 192 * v + 16 * j + i) by omega)]
  have hle : ν 76 6 + 1 ≤ 192 := by
    rw [hcnt]
    exact (sm2_b (by omega) w2 (by omega) g2 (fun a b => by split <;> omega)).2
  refine ⟨by omega, ⟨?_, by rw [e76]; omega, fun k hk => ?_, fun k h1 h2 => ?_, fun a b hab he => ?_, by rw [e76]; exact hcnt, fun k h1 h2 a b hab he c d hcd => ?_⟩, e76, e77, fun k hk => by rw [e80, if_neg (by omega)]⟩
  · unfold gj; exact fr_ls (fr_ls (fr_ls q1 (by decide) _ _) (by decide) _ _) (by decide) _ _
  · rw [e77] at hk ⊢
    by_cases e : k = 192 * v + 16 * j + i
    · rw [if_pos e]; exact ⟨i, j, hc, e, rfl⟩
    · rw [if_neg e] at hk ⊢; exact q3 k hk
  · rw [e80]
    by_cases e : k = ν 76 6
    · rw [if_pos e]; exact ⟨i, j, hi, rfl, by rw [e77, if_pos rfl]⟩
    · rw [if_neg e]
      rw [e76] at h2
      obtain ⟨a, b, h3, h4, h5⟩ := q4 k h1 (by omega)
      refine ⟨a, b, h3, h4, ?_⟩
      rw [e77]
      split
      · rfl
      · exact h5
  · rw [e77] at he
    by_cases e : 192 * v + 16 * b + a = 192 * v + 16 * j + i
    · exact ⟨ν 76 6, by omega, by rw [e76]; omega, by rw [e80, if_pos rfl]; omega⟩
    · rw [if_neg e] at he
      obtain ⟨k, h1, h2, h3⟩ := q5 a b hab he
      exact ⟨k, h1, by rw [e76]; omega, by rw [e80, if_neg (by omega)]; exact h3⟩
  · rw [e80, if_neg (by omega)] at he
    rw [e77]
    split
    · omega
    · exact q7 k h1 h2 a b hab he c d hcd
theorem mc52_76 {p : Int} (hb : gb μ v x0 y0 n) (h : gi μ v x0 y0 n I ν) (hI : 0 ≤ I) (hI' : I < ν 76 6) (hp : p = ν 80 I) (hq : ∀ ρ, gi μ v x0 y0 n (I + 1) ρ → I + 1 ≤ ρ 76 6 → (∀ k, ν 77 k = n → ρ 77 k = n) → Q (.inl none) mi_G0 ρ) : mi_cok X 52 [(.inr (.inl (some 76))), (.inl v), (.inl p), (.inl n)] mi_G0 ν u Q := by
  subst hp
  obtain ⟨hm, ⟨hv, hv'⟩, hs, hk, hin, hk00, hn, hl, hc0⟩ := id hb
  obtain ⟨⟨w1, w2⟩, ⟨g1, g2⟩, ⟨f1, f2⟩, -⟩ := id hm
  obtain ⟨q1, q2, q3, q4, q5, q6, q7⟩ := id h
  obtain ⟨a, b, hab, e80, ean⟩ := q4 I hI hI'
  obtain ⟨a1, a2, a3, a4⟩ := id hab
  have es : sc_m ν = sc_m μ := sc_m_frl q1 (by decide) (by decide) (by decide)
  have hca : cn (sc_m μ) v x0 y0 a b := by
    have hne : ν 77 (192 * v + 16 * b + a) ≠ μ 77 (192 * v + 16 * b + a) := by have := hl a b hab; omega
    obtain ⟨c, d, h1, h2, -⟩ := q3 _ hne
    obtain ⟨c1, c2, c3, c4⟩ := cn_in h1 hin
    have e1 : c = a := by omega
    have e2 : d = b := by omega
    subst e1; subst e2; exact h1
  have sb := sp_sh_b hm v a2 b
  have h4 : mi_wr 4 = 4 := by decide
  apply me52_76
  rw [e80, mx_and15 a1 (by omega) a3 (by omega), mx_shr4 (by omega) (by omega), show (16 * b + a) / 16 = b by omega, mx_spot a3 (by omega), q1 72 (by decide), hs a b hab]
  refine ⟨by omega, ?_⟩
  refine qp_u (A := fun s ρ => mk52_76_32 X Q u v n a b (sp_sh (sc_m μ) v a b) s ρ) (fun s ρ => gi μ v x0 y0 n I ρ ∧ ν 76 6 ≤ ρ 76 6 ∧ ρ 80 I = 16 * b + a ∧ (∀ k, ν 77 k = n → ρ 77 k = n) ∧ ∀ t, 0 ≤ t → t < s → lk (sc_m μ) v a b (a + wy_x t) (b + wy_y t) → ρ 77 (192 * v + 16 * (b + wy_y t) + (a + wy_x t)) ≠ -1) (a := 0) (n := 4) (by omega) ?_ ?_ ⟨h, Int.le_refl _, e80, fun _ h => h, fun t h1 h2 => by omega⟩
  · rintro ρ ⟨hg, h1, h2, hmn, h3⟩
    apply mh52_76_32
    rw [h4, if_neg (by decide)]
    obtain ⟨r1, r2, r3, r4, r5, r6, r7⟩ := id hg
    refine hq ρ ⟨r1, r2, r3, r4, r5, r6, fun i i1 i2 c d hcd he c' d' hlk => ?_⟩ (by omega) hmn
    by_cases e : i = I
    · subst e
      obtain ⟨b1, b2, b3, b4⟩ := id hcd
      have e1 : c = a := by omega
      have e2 : d = b := by omega
      subst e1; subst e2
      rcases hlk.1 with ⟨rfl, rfl⟩ | ⟨rfl, rfl⟩ | ⟨rfl, rfl⟩ | ⟨rfl, rfl⟩
      · have := h3 0 (by decide) (by decide); rw [show wy_x 0 = 1 from rfl, show wy_y 0 = 0 from rfl, Int.add_zero] at this; exact this hlk
      · have := h3 1 (by decide) (by decide); rw [show wy_x 1 = -1 from rfl, show wy_y 1 = 0 from rfl, Int.add_zero] at this; exact this hlk
      · have := h3 2 (by decide) (by decide); rw [show wy_x 2 = 0 from rfl, show wy_y 2 = 1 from rfl, Int.add_zero] at this; exact this hlk
      · have := h3 3 (by decide) (by decide); rw [show wy_x 3 = 0 from rfl, show wy_y 3 = -1 from rfl, Int.add_zero] at this; exact this hlk
    · exact r7 i i1 (by omega) c d hcd he c' d' hlk
  · rintro s ρ hs0 hs' ⟨hg, h1, h2, hmn, h3⟩ k
    obtain ⟨c1, c2, c3⟩ := wy_cases hs0 (show s < 8 by omega)
    have esr : sc_m ρ = sc_m μ := sc_m_frl hg.1 (by decide) (by decide) (by decide)
    have had : ad a b (a + wy_x s) (b + wy_y s) := by
      rcases (show s = 0 ∨ s = 1 ∨ s = 2 ∨ s = 3 by omega) with rfl | rfl | rfl | rfl
      · exact Or.inl ⟨rfl, Int.add_zero _⟩
      · exact Or.inr (Or.inl ⟨rfl, Int.add_zero _⟩)
      · exact Or.inr (Or.inr (Or.inl ⟨Int.add_zero _, rfl⟩))
      · exact Or.inr (Or.inr (Or.inr ⟨Int.add_zero _, rfl⟩))
    apply mh52_76_32
    rw [h4, mi_wr_id (z := s) (by omega) (by omega), if_pos hs', wy_xC hs0 (by omega), wy_yC hs0 (by omega)]
    refine ⟨by omega, by omega, ?_⟩
    by_cases hc : sc_in (sc_m μ) (a + wy_x s) (b + wy_y s)
    · obtain ⟨b1, b2, b3, b4⟩ := id hc
      have hR := gi_R hb hg hc
      obtain ⟨p1, p2, p3⟩ := mx_free (ν := ρ) (own := sp_sh (sc_m μ) v a b) hm hv hv' (in1_fr (hg.1 72 (by decide)) hs) (in1_fr (hg.1 73 (by decide)) hk) hc (by omega) ⟨by omega, by omega⟩
      rw [mx_hasT (by rw [esr]; exact hm) (by rw [esr]; exact hc), if_neg w_10, mx_spot b3 (by omega)]
      refine ⟨p1, ?_⟩
      by_cases hfr : (sp_k0 (sc_m μ) v (a + wy_x s) (b + wy_y s) = 0 ∧ ρ 77 (192 * v + 16 * (b + wy_y s) + (a + wy_x s)) = -1 ∧ -1 ≤ sp_sh (sc_m μ) v a b - sp_sh (sc_m μ) v (a + wy_x s) (b + wy_y s) ∧ sp_sh (sc_m μ) v a b - sp_sh (sc_m μ) v (a + wy_x s) (b + wy_y s) ≤ 1)
      · rw [p2 hfr, if_neg w_10]
        have hlk : lk (sc_m μ) v a b (a + wy_x s) (b + wy_y s) := ⟨had, hab, hc, cn_k hca hk00, hfr.1, hfr.2.2⟩
        obtain ⟨j1, j2, j3, j4, j5⟩ := gi_j hb hg (by omega) (cn_t hca (cn_1 hlk)) hfr.2.1
        have ej : mm51_76 v (a + wy_x s) (b + wy_y s) n ρ = gj ρ v (a + wy_x s) (b + wy_y s) n := by
          unfold mm51_76 gj
          rw [mx_spot b3 (by omega), mx_spot b3 (by omega), show 192 * 0 + 16 * (b + wy_y s) + (a + wy_x s) = 16 * (b + wy_y s) + (a + wy_x s) by omega]
        rw [ej]
        refine ⟨⟨by rw [mx_spot b3 (by omega)]; omega, by have := hg.2.1; omega⟩, k _ ⟨j2, by omega, by rw [j5 I (by omega)]; exact h2, fun k hk => by rw [j4]; split; rfl; exact hmn k hk, fun t t1 t2 htl => ?_⟩⟩
        rw [j4]
        split
        · omega
        · exact h3 t t1 (by
            by_cases e : t = s
            · subst e; rename_i hh; exact absurd rfl hh
            · omega) htl
      · rw [p3 hfr, if_pos w_00]
        refine k _ ⟨hg, h1, h2, hmn, fun t t1 t2 htl => ?_⟩
        by_cases e : t = s
        · subst e
          intro he
          exact hfr ⟨htl.2.2.2.2.1, he, htl.2.2.2.2.2⟩
        · exact h3 t t1 (by omega) htl
    · rw [mx_hasF (by rw [esr]; exact hm) ⟨by omega, by omega⟩ ⟨by omega, by omega⟩ (by rw [esr]; exact hc), if_pos w_00]
      refine k _ ⟨hg, h1, h2, hmn, fun t t1 t2 htl => ?_⟩
      by_cases e : t = s
      · subst e; exact absurd htl.2.2.1 hc
      · exact h3 t t1 (by omega) htl
end
