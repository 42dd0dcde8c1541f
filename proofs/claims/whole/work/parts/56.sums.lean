/-! the first of the least -/
def am (f : Int → Int) : Nat → Int
  | 0 => 0
  | n + 1 => if f ((n : Int) + 1) < f (am f n) then (n : Int) + 1 else am f n
theorem am_s {f : Int → Int} {i : Int} (h : 0 ≤ i) : am f (i + 1).toNat = if f (i + 1) < f (am f i.toNat) then i + 1 else am f i.toNat := by
  obtain ⟨n, rfl⟩ := Int.eq_ofNat_of_zero_le h
  rw [show ((n : Int) + 1).toNat = n + 1 by omega, show ((n : Int)).toNat = n by omega]
  rfl
theorem am_b {f : Int → Int} : ∀ n : Nat, 0 ≤ am f n ∧ am f n ≤ n
  | 0 => by unfold am; omega
  | n + 1 => by
    have := am_b (f := f) n
    unfold am
    split <;> omega
theorem am_ls {f : Int → Int} : ∀ n : Nat, f (am f n) = ls_t f n
  | 0 => rfl
  | n + 1 => by
    have := am_ls (f := f) n
    unfold am ls_t
    rw [this]
    split
    · rfl
    · exact this
theorem am_lt {f : Int → Int} : ∀ (n : Nat) (d : Int), 0 ≤ d → d < am f n → f (am f n) < f d
  | 0, d, h, h' => by unfold am at h'; omega
  | n + 1, d, h, h' => by
    have hb := am_b (f := f) n
    unfold am at h' ⊢
    by_cases e : f ((n : Int) + 1) < f (am f n)
    · rw [if_pos e] at h' ⊢
      have := ls_le (f := f) n d h (by omega)
      rw [← am_ls] at this
      omega
    · rw [if_neg e] at h' ⊢
      exact am_lt n d h h'
theorem am_eq {f g : Int → Int} : ∀ (n : Nat), (∀ d : Int, 0 ≤ d → d ≤ n → f d = g d) → am f n = am g n
  | 0, _ => rfl
  | n + 1, h => by
    have hb := am_b (f := g) n
    unfold am
    rw [am_eq n (fun d a b => h d a (by omega)), h ((n : Int) + 1) (by omega) (by omega), h (am g n) hb.1 (by omega)]
/-- the first that is as little as the least -/
theorem am_first {f : Int → Int} {n : Nat} {d : Int} (h0 : 0 ≤ d) (hn : d ≤ n) (h : f d = ls_t f n) (hf : ∀ e, 0 ≤ e → e < d → f e ≠ ls_t f n) : d = am f n := by
  have hb := am_b (f := f) n
  have h1 := am_ls (f := f) n
  by_cases e1 : d < am f n
  · have := am_lt n d h0 e1; omega
  · by_cases e2 : am f n < d
    · exact absurd h1 (hf _ hb.1 e2)
    · omega
/-! sums -/
def sp_on (m : Int → Int) (r : Int) : Prop := mi_wr (mi_and (mi_shr (m 6) r) 1) = mi_wr 1
noncomputable def sp_part (m : Int → Int) (x y d r : Int) : Int := if mi_wr (mi_and (mi_shr (m 6) r) 1) = mi_wr 1 then sp_way m r x y d else 0
noncomputable def sp_sum (m : Int → Int) (x y d : Int) : Int := sm (sp_part m x y d) 8
theorem sp_part_b {m : Int → Int} (hm : sc_ok m) {x y d r : Int} (hd : 0 ≤ d) (hd' : d ≤ m 2) : 0 ≤ sp_part m x y d r ∧ sp_part m x y d r ≤ 92 := by
  have := sp_way_b hm (r := r) (x := x) (y := y) hd hd'
  unfold sp_part; split <;> omega
theorem sp_sum_b {m : Int → Int} (hm : sc_ok m) {x y d : Int} (hd : 0 ≤ d) (hd' : d ≤ m 2) : 0 ≤ sp_sum m x y d ∧ sp_sum m x y d ≤ 736 := by
  have := sm_b (f := sp_part m x y d) (a := 92) (by decide) 8 (fun r _ _ => sp_part_b hm hd hd')
  unfold sp_sum; omega
def tw_ok (μ : mi_M) : Prop := (-1 ≤ μ 66 5 ∧ μ 66 5 < 8) ∧ ∀ r, 0 ≤ r → μ 66 5 = r → wy_is μ 70 (sc_m μ) r
/-- a way, laid, in another state -/
theorem wy_is_fr {μ ν : mi_M} {c : Nat} {m : Int → Int} {r : Int} (e : ν c = μ c) (h : wy_is μ c m r) : wy_is ν c m r := fun x y d h1 h2 h3 h4 h5 h6 => by rw [e]; exact h x y d h1 h2 h3 h4 h5 h6
def mp41_66 (μ : mi_M) : Prop := sc_ok (sc_m μ)
def mq41_66 (μ ν : mi_M) : Prop := fr_1 69 μ ν ∧ ∀ x y d, 0 ≤ x → x < sc_m μ 0 → 0 ≤ y → y < sc_m μ 1 → 0 ≤ d → d < 8 → ν 69 (8 * (16 * y + x) + d) = μ 69 (8 * (16 * y + x) + d) + μ 70 (8 * (16 * y + x) + d)
def mp201_86 (μ : mi_M) : Prop := sc_ok (μ 87)
def mq201_86 (μ ν : mi_M) : Prop := fr_l [92, 93, 94] μ ν ∧ mp_is ν 92 (μ 87) (sp_code (μ 87)) ∧ ct_is ν 94 (μ 87) (μ 87 2 + 1) (sp_sum (μ 87))
section
variable {X : mi_X} {Q : mi_R → mi_G → mi_M → Prop} {u : mi_U} {μ : mi_M}
theorem mc41_66 (hp : mp41_66 μ) (hq : ∀ ν, mq41_66 μ ν → Q (.inl none) mi_G0 ν) : mi_cok X 41 [(.inr (.inl (some 66)))] mi_G0 μ u Q := by
  have hm : sc_ok (sc_m μ) := hp
  obtain ⟨⟨w1, w2⟩, ⟨g1, g2⟩, -⟩ := id hm
  have s0 : μ 1 0 = sc_m μ 0 := rfl
  have s1 : μ 1 1 = sc_m μ 1 := rfl
  apply me41_66
  refine qp_u (A := fun y ν => mk41_66_2 X Q u y ν) (fun y ν => fr_1 69 μ ν ∧ ∀ j, 0 ≤ j → j < 1536 → ν 69 j = if j % 128 < 8 * sc_m μ 0 ∧ j / 128 < y then μ 69 j + μ 70 j else μ 69 j) (a := 0) (n := sc_m μ 1) (by omega) ?_ ?_ ⟨fr_r _ _, fun j h1 h2 => by rw [if_neg (by omega)]⟩
  · rintro ν ⟨hf, h⟩
    apply mh41_66_2
    rw [hf 1 (by decide), s1, if_neg (by omega)]
    refine hq ν ⟨hf, fun x y d h1 h2 h3 h4 h5 h6 => ?_⟩
    rw [h _ (by omega) (by omega), if_pos (by omega)]
  · rintro y ν hy hy' ⟨hf, h⟩ k
    apply mh41_66_2
    rw [hf 1 (by decide), s1, s0, mi_wr_id (by omega) (by omega), mi_wr_id (by omega) (by omega), if_pos (by omega), mx_cell (by omega) (by omega) hy (by omega), mx_cell (by omega) (by omega) hy (by omega)]
    refine qp_u (A := fun i ν => mk41_66_39 X Q u y (8 * (16 * y + (sc_m μ 0 - 1)) + 7) i ν) (fun i ν => fr_1 69 μ ν ∧ ∀ j, 0 ≤ j → j < 1536 → ν 69 j = if j % 128 < 8 * sc_m μ 0 ∧ (j / 128 < y ∨ j / 128 = y ∧ j < i) then μ 69 j + μ 70 j else μ 69 j) (a := 8 * (16 * y + 0) + 0) (n := 8 * (16 * y + (sc_m μ 0 - 1)) + 8) (by omega) ?_ ?_ ⟨hf, fun j h1 h2 => ?_⟩
    · rintro ν ⟨hf, h⟩
      apply mh41_66_39
      rw [mi_wr_id (by omega) (by omega), mi_wr_id (by omega) (by omega), if_pos (by omega)]
      refine k ν ⟨hf, fun j h1 h2 => ?_⟩
      rw [h j h1 h2]
      by_cases e : j % 128 < 8 * sc_m μ 0 ∧ j / 128 < y + 1
      · rw [if_pos e, if_pos (by omega)]
      · rw [if_neg e, if_neg (by omega)]
    · rintro i ν hi hi' ⟨hf, h⟩ k
      apply mh41_66_39
      rw [mi_wr_id (by omega) (by omega), mi_wr_id (by omega) (by omega), if_neg (by omega)]
      refine ⟨by omega, by omega, by omega, k _ ⟨fr_s hf _ _, fun j h1 h2 => ?_⟩⟩
      rw [ms_same, hf 70 (by decide)]
      by_cases e : j = i
      · subst e
        rw [if_pos rfl, h j h1 h2, if_neg (by omega), if_pos (by omega)]
      · rw [if_neg e, h j h1 h2]
        by_cases e' : j % 128 < 8 * sc_m μ 0 ∧ (j / 128 < y ∨ j / 128 = y ∧ j < i)
        · rw [if_pos e', if_pos (by omega)]
        · rw [if_neg e', if_neg (by omega)]
    · rw [h j h1 h2]
      by_cases e : j % 128 < 8 * sc_m μ 0 ∧ j / 128 < y
      · rw [if_pos e, if_pos (by omega)]
      · rw [if_neg e, if_neg (by omega)]
theorem mc201_86 (hp : mp201_86 μ) (hq : ∀ ν, mq201_86 μ ν → Q (.inl none) mi_G0 ν) : mi_cok X 201 [(.inr (.inl (some 86)))] mi_G0 μ u Q := by
  have hm : sc_ok (μ 87) := hp
  obtain ⟨⟨w1, w2⟩, ⟨g1, g2⟩, ⟨f1, f2⟩, -⟩ := id hm
  have h1536 : mi_wr 1536 = 1536 := by decide
  have h8 : mi_wr 8 = 8 := by decide
  apply me201_86
  refine ⟨hm, fun μ0 ⟨hf0, hc0⟩ => ?_⟩
  refine qp_u (A := fun i ν => mk201_86_6 X Q u i ν) (fun i ν => fr_1 94 μ0 ν ∧ ∀ j, 0 ≤ j → j < i → ν 94 j = 0) (a := 0) (n := 1536) (by omega) ?_ ?_ ⟨fr_r _ _, fun j h1 h2 => by omega⟩
  · rintro ν0 ⟨hf1, hz⟩
    apply mh201_86_6
    rw [h1536, if_neg (by decide)]
    have hfa : fr_l [92, 93, 94] μ ν0 := fr_lt (fr_lm (fr_l1 hf0) rfl) (fr_lm (fr_l1 hf1) rfl)
    have hca : mp_is ν0 92 (μ 87) (sp_code (μ 87)) := mp_is_fr (hf1 92 (by decide)) hc0
    refine qp_u (A := fun r ν => mk201_86_28 X Q u r ν) (fun r ν => fr_l [92, 93, 94] μ ν ∧ mp_is ν 92 (μ 87) (sp_code (μ 87)) ∧ ∀ x y d, 0 ≤ x → x < μ 87 0 → 0 ≤ y → y < μ 87 1 → 0 ≤ d → d ≤ μ 87 2 → ν 94 (8 * (16 * y + x) + d) = sm (sp_part (μ 87) x y d) r.toNat) (a := 0) (n := 8) (by omega) ?_ ?_ ⟨hfa, hca, fun x y d h1 h2 h3 h4 h5 h6 => by rw [hz _ (by omega) (by omega)]; rfl⟩
    · rintro ν ⟨hf, hc, hs⟩
      apply mh201_86_28
      rw [h8, if_neg (by decide)]
      exact hq ν ⟨hf, hc, fun x y d h1 h2 h3 h4 h5 h6 => hs x y d h1 h2 h3 h4 h5 (by omega)⟩
    · rintro r ν hr hr' ⟨hf, hc, hs⟩ k
      have e87 : ν 87 = μ 87 := hf 87 (by decide)
      apply mh201_86_28
      rw [h8, mi_wr_id (z := r) (by omega) (by omega), if_pos hr', e87]
      by_cases e : mi_wr (mi_and (mi_shr (μ 87 6) r) 1) = mi_wr 1
      · rw [if_pos e]
        refine ⟨⟨by rw [e87]; exact hm, ⟨hr, hr'⟩, by rw [e87]; exact hc⟩, fun ρ ⟨hf2, hw⟩ => ?_⟩
        rw [e87] at hw
        refine qp_u (A := fun i ν => mk201_86_56 X Q u r i ν) (fun i σ => fr_1 94 ρ σ ∧ ∀ j, 0 ≤ j → j < 1536 → σ 94 j = if j < i then ρ 94 j + ρ 93 j else ρ 94 j) (a := 0) (n := 1536) (by omega) ?_ ?_ ⟨fr_r _ _, fun j h1 h2 => by rw [if_neg (by omega)]⟩
        · rintro σ ⟨hf3, h3⟩
          apply mh201_86_56
          rw [h1536, if_neg (by decide)]
          refine k σ ⟨fr_lt hf (fr_lt (fr_lm (fr_l1 hf2) rfl) (fr_lm (fr_l1 hf3) rfl)), mp_is_fr (hf3 92 (by decide)) (mp_is_fr (hf2 92 (by decide)) hc), fun x y d a1 a2 a3 a4 a5 a6 => ?_⟩
          rw [h3 _ (by omega) (by omega), if_pos (by omega), hw x y d a1 a2 a3 a4 a5 a6, hf2 94 (by decide), hs x y d a1 a2 a3 a4 a5 a6, sm_s hr]
          unfold sp_part
          rw [if_pos e]
        · rintro i σ hi hi' ⟨hf3, h3⟩ k
          apply mh201_86_56
          rw [h1536, mi_wr_id (by omega) (by omega), if_pos hi']
          refine ⟨by omega, by omega, by omega, k _ ⟨fr_s hf3 _ _, fun j a1 a2 => ?_⟩⟩
          rw [ms_same, hf3 93 (by decide)]
          by_cases ee : j = i
          · subst ee
            rw [if_pos rfl, h3 j a1 a2, if_neg (by omega), if_pos (by omega)]
          · rw [if_neg ee, h3 j a1 a2]
            by_cases e' : j < i
            · rw [if_pos e', if_pos (by omega)]
            · rw [if_neg e', if_neg (by omega)]
      · rw [if_neg e]
        refine k ν ⟨hf, hc, fun x y d a1 a2 a3 a4 a5 a6 => ?_⟩
        rw [hs x y d a1 a2 a3 a4 a5 a6, sm_s hr]
        unfold sp_part
        rw [if_neg e, Int.add_zero]
  · rintro i ν hi hi' ⟨hf, hz⟩ k
    apply mh201_86_6
    rw [h1536, mi_wr_id (by omega) (by omega), if_pos hi']
    refine ⟨by omega, k _ ⟨fr_s hf _ _, fun j h1 h2 => ?_⟩⟩
    rw [ms_same]
    by_cases e : j = i
    · rw [if_pos e]
    · rw [if_neg e, hz j h1 (by omega)]
end
