/-! ranks of pieces -/
noncomputable def sp_kn (m : Int → Int) (v x y : Int) : Int := if sp_k0 m v x y = 0 ∧ sz m v (rt m v x y) < m 8 then 1 else sp_k0 m v x y
theorem sp_kn_b {m : Int → Int} {v x y : Int} : 0 ≤ sp_kn m v x y ∧ sp_kn m v x y ≤ 2 := by
  have := sp_k0_b (m := m) (v := v) (x := x) (y := y)
  unfold sp_kn; split <;> omega
section
variable {m : Int → Int} {v r s x y : Int}
theorem rk_s (h : 0 ≤ r) : rk m v (r + 1) = rk m v r + (if 0 < sz m v r then 1 else 0) := by
  unfold rk; rw [sm_s h]
theorem rk_0 : rk m v 0 = 0 := rfl
theorem rk_n (n : Nat) : 0 ≤ rk m v n ∧ rk m v n ≤ n := by
  have := sm_b (f := fun r => if 0 < sz m v r then (1 : Int) else 0) (a := 1) (by decide) n (fun i _ _ => by split <;> omega)
  unfold rk
  rw [Int.toNat_natCast]
  omega
theorem rk_b (h : 0 ≤ r) : 0 ≤ rk m v r ∧ rk m v r ≤ r := by
  obtain ⟨n, rfl⟩ := Int.eq_ofNat_of_zero_le h
  exact rk_n n
theorem rk_m (h : 0 ≤ r) : ∀ n : Nat, rk m v r ≤ rk m v (r + n)
  | 0 => by rw [Int.natCast_zero, Int.add_zero]; exact Int.le_refl _
  | n + 1 => by
    have := rk_m h n
    have e := rk_s (m := m) (v := v) (r := r + n) (by omega)
    rw [show r + ((n + 1 : Nat) : Int) = r + n + 1 by omega, e]
    split <;> omega
theorem rk_le (h : 0 ≤ r) (hs : r ≤ s) : rk m v r ≤ rk m v s := by
  have := rk_m (m := m) (v := v) h (s - r).toNat
  rw [show r + ((s - r).toNat : Int) = s by omega] at this
  exact this
theorem rk_lt (h : 0 ≤ r) (hs : r < s) (hz : 0 < sz m v r) : rk m v r < rk m v s := by
  have h1 := rk_s (m := m) (v := v) h
  rw [if_pos hz] at h1
  have h2 := rk_le (m := m) (v := v) (r := r + 1) (s := s) (by omega) (by omega)
  omega
theorem rk_sk (h : 0 ≤ r) : ∀ n : Nat, (∀ t, r ≤ t → t < r + n → ¬ 0 < sz m v t) → rk m v (r + n) = rk m v r
  | 0, _ => by rw [Int.natCast_zero, Int.add_zero]
  | n + 1, hz => by
    have e := rk_s (m := m) (v := v) (r := r + n) (by omega)
    rw [show r + ((n + 1 : Nat) : Int) = r + n + 1 by omega, e, if_neg (hz _ (by omega) (by omega)), Int.add_zero]
    exact rk_sk h n (fun t h1 h2 => hz t h1 (by omega))
theorem rk_skip (h : 0 ≤ r) (hs : r ≤ s) (hz : ∀ t, r ≤ t → t < s → ¬ 0 < sz m v t) : rk m v s = rk m v r := by
  have := rk_sk (m := m) (v := v) h (s - r).toNat (fun t h1 h2 => hz t h1 (by omega))
  rw [show r + ((s - r).toNat : Int) = s by omega] at this
  exact this
/-- a root is a place, sure and its own root -/
theorem sz_rt (hw : m 0 ≤ 16) (hr : 0 ≤ r) (h : 0 < sz m v r) : ∃ x y, sc_in m x y ∧ sp_k0 m v x y = 0 ∧ rt m v x y = r ∧ r = 16 * y + x := by
  obtain ⟨a, b, h1, h2⟩ := sz_ex h
  unfold sp_rt at h2
  by_cases e : sp_k0 m v a b = 0
  · rw [if_pos e] at h2
    obtain ⟨⟨i, j, g1, g2⟩, -⟩ := rt_s (v := v) h1
    exact ⟨i, j, cn_in g1 h1, cn_k g1 e, (rt_c h1 g1).trans h2, by omega⟩
  · rw [if_neg e] at h2; omega
theorem sz_p (hi : sc_in m x y) (hk : sp_k0 m v x y = 0) : 0 < sz m v (rt m v x y) := by
  have := sz_pos (v := v) hi
  unfold sp_rt at this
  rw [if_pos hk] at this; exact this
end
/-! pieces as the class holds them -/
def cpl (ν : mi_M) (m : Int → Int) (v : Int) : Prop := (∀ x y, sc_in m x y → ν 77 (192 * v + 16 * y + x) = if sp_k0 m v x y = 0 then rk m v (rt m v x y) else -1) ∧ (∀ r, 0 ≤ r → r < 192 → 0 < sz m v r → ν 78 (192 * v + rk m v r) = sz m v r) ∧ ν 79 v = rk m v 192
def mp54_76 (v : Int) (μ : mi_M) : Prop := sc_ok (sc_m μ) ∧ (0 ≤ v ∧ v ≤ 1) ∧ in1 μ 73 (sc_m μ) v (sp_k0 (sc_m μ) v) ∧ cpl μ (sc_m μ) v
def mq54_76 (v : Int) (μ ν : mi_M) : Prop := fr_1 73 μ ν ∧ in1 ν 73 (sc_m μ) v (sp_kn (sc_m μ) v) ∧ ∀ k, (k < 192 * v ∨ 192 * v + 192 ≤ k) → ν 73 k = μ 73 k
section
variable {X : mi_X} {Q : mi_R → mi_G → mi_M → Prop} {u : mi_U} {μ : mi_M} {v : Int}
/-- does a piece stay -/
theorem mx_stays {ν : mi_M} {m : Int → Int} (hm : sc_ok m) (hv : 0 ≤ v) (hv' : v ≤ 1) (h : cpl ν m v) (h8 : ν 2 6 = m 8) {r : Int} (hr : 0 ≤ r) (hr' : r < 192) (hz : 0 < sz m v r) : mp55_76 v (rk m v r) ν ∧ mv55_76 v (rk m v r) ν = if sz m v r < m 8 then 0 else 1 := by
  obtain ⟨-, -, -, -, -, -, -, ⟨b1, b2⟩, -⟩ := id hm
  have rb := rk_b (m := m) (v := v) hr
  have zb := sz_le hm v r
  unfold mp55_76 mv55_76
  rw [show v * 192 + rk m v r = 192 * v + rk m v r by omega, h.2.1 r hr hr' hz, h8, mi_wr_id (by omega) (by omega), mi_wr_id (by omega) (by omega)]
  exact ⟨by omega, rfl⟩
theorem mc54_76 (hp : mp54_76 v μ) (hq : ∀ ν, mq54_76 v μ ν → Q (.inl none) mi_G0 ν) : mi_cok X 54 [(.inr (.inl (some 76))), (.inl v)] mi_G0 μ u Q := by
  obtain ⟨hm, ⟨hv, hv'⟩, hk, hc⟩ := hp
  obtain ⟨⟨w1, w2⟩, ⟨g1, g2⟩, -⟩ := id hm
  have s8 : μ 2 6 = sc_m μ 8 := (sc_m_c μ).2.2.1 6 (by decide) (by decide)
  have hm1 : mi_wr (-1) = -1 := by decide
  apply me54_76
  refine qp_2 (A := fun y ν => mk54_76_2 X Q u v y ν) (B := fun y x ν => mk54_76_15 X Q u v y x ν) (I := fun py px ν => fr_1 73 μ ν ∧ (∀ x y, sc_in (sc_m μ) x y → ν 73 (192 * v + 16 * y + x) = if y < py ∨ y = py ∧ x < px then sp_kn (sc_m μ) v x y else sp_k0 (sc_m μ) v x y) ∧ ∀ k, (k < 192 * v ∨ 192 * v + 192 ≤ k) → ν 73 k = μ 73 k) (w := sc_m μ 0) (h := sc_m μ 1) (by omega) (by omega) ?_ ?_ ?_ ?_ ⟨fr_r _ _, fun x y hi => by obtain ⟨a1, a2, a3, a4⟩ := id hi; rw [if_neg (by omega)]; exact hk x y hi, fun _ _ => rfl⟩
  · rintro ν ⟨hf, ht, ho⟩
    apply mh54_76_2
    rw [hf 1 (by decide), ← sc_m1 μ, if_neg (by omega)]
    refine hq ν ⟨hf, fun x y hi => ?_, ho⟩
    obtain ⟨a1, a2, a3, a4⟩ := id hi
    rw [ht x y hi, if_pos (by omega)]
  · rintro y ν hy hy' ⟨hf, ht⟩ k
    apply mh54_76_2
    rw [hf 1 (by decide), ← sc_m1 μ, mi_wr_id (by omega) (by omega), mi_wr_id (by omega) (by omega), if_pos (by omega)]
    exact k ν ⟨hf, ht⟩
  · rintro y x ν hy hy' hx hx' ⟨hf, ht, ho⟩ k
    have hi : sc_in (sc_m μ) x y := ⟨hx, hx', hy, hy'⟩
    have rb := rt_b (v := v) w2 g2 hi
    have rkb := rk_b (m := sc_m μ) (v := v) rb.1
    have e0 : ν 1 0 = sc_m μ 0 := by rw [hf 1 (by decide)]; rfl
    have hc' : cpl ν (sc_m μ) v := by
      obtain ⟨c1, c2, c3⟩ := hc
      exact ⟨fun x y hi => by rw [hf 77 (by decide)]; exact c1 x y hi, fun r h1 h2 h3 => by rw [hf 78 (by decide)]; exact c2 r h1 h2 h3, by rw [hf 79 (by decide)]; exact c3⟩
    have same : sp_kn (sc_m μ) v x y = sp_k0 (sc_m μ) v x y → mk54_76_15 X Q u v y (x + 1) ν := by
      intro he
      refine k ν ⟨hf, fun x' y' hi' => ?_, ho⟩
      rw [ht x' y' hi']
      obtain ⟨a1, a2, a3, a4⟩ := id hi'
      by_cases ee : y' = y ∧ x' = x
      · obtain ⟨rfl, rfl⟩ := ee
        rw [if_neg (by omega), if_pos (by omega), he]
      · by_cases e2 : y' < y ∨ y' = y ∧ x' < x
        · rw [if_pos e2, if_pos (by omega)]
        · rw [if_neg e2, if_neg (by omega)]
    apply mh54_76_15
    rw [mx_spot hy (by omega), e0, mi_wr_id (z := x) (by omega) (by omega), mi_wr_id (z := sc_m μ 0) (by omega) (by omega), if_pos (by omega), hc'.1 x y hi, hm1]
    refine ⟨by omega, ?_⟩
    by_cases ek : sp_k0 (sc_m μ) v x y = 0
    · rw [if_pos ek, mi_wr_id (z := rk (sc_m μ) v (rt (sc_m μ) v x y)) (by omega) (by omega), if_neg (by omega)]
      obtain ⟨p1, p2⟩ := mx_stays hm hv hv' hc' (by rw [hf 2 (by decide)]; exact s8) rb.1 rb.2.2 (sz_p hi ek)
      rw [p2]
      refine ⟨by omega, p1, ?_⟩
      by_cases e2 : sz (sc_m μ) v (rt (sc_m μ) v x y) < sc_m μ 8
      · rw [if_pos e2, if_pos w_00]
        refine ⟨by omega, k _ ⟨fr_s hf _ _, fun x' y' hi' => ?_, fun j hj => ?_⟩⟩
        · rw [ms_same]
          obtain ⟨a1, a2, a3, a4⟩ := id hi'
          by_cases ee : y' = y ∧ x' = x
          · obtain ⟨rfl, rfl⟩ := ee
            rw [if_pos rfl, if_pos (by omega)]
            unfold sp_kn; rw [if_pos ⟨ek, e2⟩]
          · rw [if_neg (by omega), ht x' y' hi']
            by_cases e3 : y' < y ∨ y' = y ∧ x' < x
            · rw [if_pos e3, if_pos (by omega)]
            · rw [if_neg e3, if_neg (by omega)]
        · rw [ms_same, if_neg (by omega)]; exact ho j hj
      · rw [if_neg e2, if_neg w_10]
        exact same (by unfold sp_kn; rw [if_neg (fun h => e2 h.2)])
    · rw [if_neg ek, hm1, if_pos rfl]
      exact same (by unfold sp_kn; rw [if_neg (fun h => ek h.1)])
  · rintro y ν hy hy' ⟨hf, ht, ho⟩ k
    apply mh54_76_15
    rw [hf 1 (by decide), ← sc_m0 μ, if_neg (by omega)]
    refine k ν ⟨hf, fun x' y' hi' => ?_, ho⟩
    rw [ht x' y' hi']
    obtain ⟨a1, a2, a3, a4⟩ := id hi'
    by_cases e3 : y' < y ∨ y' = y ∧ x' < sc_m μ 0
    · rw [if_pos e3, if_pos (by omega)]
    · rw [if_neg e3, if_neg (by omega)]
end
/-! laysKinds (the reference), kinds as they are now -/
def rc3 (ν : mi_M) (m : Int → Int) : Prop := mp_is ν 92 m (sp_code m) ∧ ct_is ν 94 m (m 2 + 1) (sp_sum m) ∧ mp_is ν 95 m (sp_sh m)
def rc4 (ν : mi_M) (m : Int → Int) : Prop := rc3 ν m ∧ mp_is ν 96 m (sp_k0 m) ∧ rp_is ν m 0 ∧ rp_is ν m 1
def mp209_86 (μ : mi_M) : Prop := sc_ok (μ 87)
def mq209_86 (μ ν : mi_M) : Prop := fr_l [92, 93, 94, 95, 96, 97, 98] μ ν ∧ rc4 ν (μ 87)
section
variable {X : mi_X} {Q : mi_R → mi_G → mi_M → Prop} {u : mi_U} {μ : mi_M}
theorem mc209_86 (hp : mp209_86 μ) (hq : ∀ ν, mq209_86 μ ν → Q (.inl none) mi_G0 ν) : mi_cok X 209 [(.inr (.inl (some 86)))] mi_G0 μ u Q := by
  have hm : sc_ok (μ 87) := hp
  obtain ⟨⟨w1, w2⟩, ⟨g1, g2⟩, -⟩ := id hm
  apply me209_86
  refine ⟨hm, fun μ0 ⟨hf0, hc0, hs0, hh0⟩ => ?_⟩
  have e87 : μ0 87 = μ 87 := hf0 87 (by decide)
  refine qp_2 (A := fun y ν => mk209_86_6 X Q u y ν) (B := fun y x ν => mk209_86_18 X Q u y x ν) (I := fun y x ν => fr_1 96 μ0 ν ∧ mp_to ν 96 (μ 87) (sp_k0 (μ 87)) y x) (w := μ 87 0) (h := μ 87 1) (by omega) (by omega) ?_ ?_ ?_ ?_ ⟨fr_r _ _, mp_to0⟩
  · rintro ν ⟨hf, ht⟩
    have es : ν 87 = μ 87 := (hf 87 (by decide)).trans e87
    have hk := mp_toE ht
    have hh : mp_is ν 95 (μ 87) (sp_sh (μ 87)) := mp_is_fr (hf 95 (by decide)) hh0
    apply mh209_86_6
    rw [es, if_neg (by omega)]
    refine ⟨⟨by rw [es]; exact hm, by decide, by rw [es]; exact hh, by rw [es]; exact hk⟩, fun ν1 ⟨f1, o1, r1⟩ => ?_⟩
    rw [es] at r1
    have es1 : ν1 87 = μ 87 := (f1 87 (by decide)).trans es
    refine ⟨⟨by rw [es1]; exact hm, by decide, by rw [es1]; exact mp_is_fr (f1 95 (by decide)) hh, by rw [es1]; exact mp_is_fr (f1 96 (by decide)) hk⟩, fun ν2 ⟨f2, o2, r2⟩ => ?_⟩
    rw [es1] at r2
    have fa : fr_l [92, 93, 94, 95, 96, 97, 98] μ ν2 := fr_lt (fr_lm hf0 rfl) (fr_lt (fr_lm (fr_l1 hf) rfl) (fr_lt (fr_lm f1 rfl) (fr_lm f2 rfl)))
    have f12 : fr_l [97, 98] ν ν2 := fr_lt f1 f2
    refine hq ν2 ⟨fa, ⟨mp_is_fr ((f12 92 (by decide)).trans (hf 92 (by decide))) hc0, ct_is_fr ((f12 94 (by decide)).trans (hf 94 (by decide))) hs0, mp_is_fr (f12 95 (by decide)) hh⟩, mp_is_fr (f12 96 (by decide)) hk, ⟨fun x y hi => ?_, fun r h1 h2 => ?_⟩, r2⟩
    · obtain ⟨a1, a2, a3, a4⟩ := id hi
      rw [(o2 _ (by omega)).1]; exact r1.1 x y hi
    · rw [(o2 _ (by omega)).2]; exact r1.2 r h1 h2
  · rintro y ν hy hy' ⟨hf, ht⟩ k
    apply mh209_86_6
    rw [hf 87 (by decide), e87, mi_wr_id (by omega) (by omega), mi_wr_id (by omega) (by omega), if_pos (by omega)]
    exact k ν ⟨hf, ht⟩
  · rintro y x ν hy hy' hx hx' ⟨hf, ht⟩ k
    have es : ν 87 = μ 87 := (hf 87 (by decide)).trans e87
    apply mh209_86_18
    simp only [mx_spotR]
    rw [es, mi_wr_id (by omega) (by omega), mi_wr_id (by omega) (by omega), if_pos (by omega)]
    have hs1 : mp_is ν 95 (μ 87) (sp_sh (μ 87)) := mp_is_fr (hf 95 (by decide)) hh0
    refine ⟨⟨by rw [es]; exact hm, by decide, by rw [es]; exact ⟨hx, hx', hy, hy'⟩, by rw [es]; exact hs1⟩, by omega, ⟨by rw [ms_other _ (by decide), es]; exact hm, by decide, by rw [ms_other _ (by decide), es]; exact ⟨hx, hx', hy, hy'⟩, by rw [ms_other _ (by decide : 87 ≠ 96), es]; exact mp_is_fr (ms_other _ (by decide) _ _) hs1⟩, by omega, k _ ⟨fr_s (fr_s hf _ _) _ _, mp_toX w2 ht hx hx' hy (by omega) ?_ ?_⟩⟩
    · unfold mv208_86; rw [es]
    · unfold mv208_86; rw [ms_other _ (by decide), es]
  · rintro y ν hy hy' ⟨hf, ht⟩ k
    apply mh209_86_18
    rw [hf 87 (by decide), e87, if_neg (by omega)]
    exact k ν ⟨hf, mp_toY ht⟩
theorem rp_v {ν : mi_M} {m : Int → Int} {v : Int} (h : rc4 ν m) (hv : 0 ≤ v) (hv' : v ≤ 1) : rp_is ν m v := by
  rcases (show v = 0 ∨ v = 1 by omega) with rfl | rfl
  · exact h.2.2.1
  · exact h.2.2.2
theorem mx_many {v x y : Int} (hm : sc_ok (μ 87)) (h : rc4 μ (μ 87)) (hv : 0 ≤ v) (hv' : v ≤ 1) (hi : sc_in (μ 87) x y) : mp213_86 v x y μ ∧ mv213_86 v x y μ = if sp_k0 (μ 87) v x y = 0 then sz (μ 87) v (rt (μ 87) v x y) else 0 := by
  obtain ⟨⟨w1, w2⟩, ⟨g1, g2⟩, -⟩ := id hm
  obtain ⟨a1, a2, a3, a4⟩ := id hi
  have hr := rp_v h hv hv'
  have rb := rt_b (v := v) w2 g2 hi
  have hm1 : mi_wr (-1) = -1 := by decide
  unfold mp213_86 mv213_86
  simp only [mx_spotR]
  rw [hr.1 x y hi]
  by_cases e : sp_k0 (μ 87) v x y = 0
  · rw [if_pos e, mi_wr_id (by omega) (by omega), if_neg (by omega), if_neg (by omega), hr.2 _ rb.1 rb.2.2, if_pos e]
    exact ⟨⟨by omega, by omega⟩, rfl⟩
  · rw [if_neg e, hm1, if_pos (by decide), if_pos (by decide), if_neg e]
    exact ⟨⟨by omega, trivial⟩, rfl⟩
theorem mx_now {v x y : Int} (hm : sc_ok (μ 87)) (h : rc4 μ (μ 87)) (hv : 0 ≤ v) (hv' : v ≤ 1) (hi : sc_in (μ 87) x y) : mp214_86 v x y μ ∧ mv214_86 v x y μ = sp_kn (μ 87) v x y := by
  obtain ⟨⟨w1, w2⟩, ⟨g1, g2⟩, -, -, -, -, -, ⟨b1, b2⟩, -⟩ := id hm
  obtain ⟨a1, a2, a3, a4⟩ := id hi
  obtain ⟨p1, p2⟩ := mx_many hm h hv hv' hi
  have kb := sp_k0_b (m := μ 87) (v := v) (x := x) (y := y)
  have zb := sz_le hm v (rt (μ 87) v x y)
  have z0 := sz_0 (m := μ 87) (v := v) (r := rt (μ 87) v x y)
  unfold mp214_86 mv214_86 sp_kn
  rw [p2, mx_spotR, h.2.1 v x y hv hv' a1 a2 a3 a4, mi_wr_id (z := sp_k0 (μ 87) v x y) (by omega) (by omega)]
  by_cases e : sp_k0 (μ 87) v x y = 0
  · rw [if_pos e, if_pos e, if_pos e, mi_wr_id (z := sz (μ 87) v (rt (μ 87) v x y)) (by omega) (by omega), mi_wr_id (z := μ 87 8) (by omega) (by omega)]
    refine ⟨⟨by omega, p1⟩, ?_⟩
    by_cases e2 : sz (μ 87) v (rt (μ 87) v x y) < μ 87 8
    · rw [if_pos e2, if_pos ⟨e, e2⟩]
    · rw [if_neg e2, if_neg (fun hh => e2 hh.2)]
  · rw [if_neg e, if_neg e, if_neg (fun hh => e hh.1)]
    exact ⟨⟨by omega, trivial⟩, rfl⟩
end
