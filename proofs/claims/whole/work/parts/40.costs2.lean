/-! all costs are laid (the class) -/
def ct_is (μ : mi_M) (c : Nat) (m : Int → Int) (n : Int) (f : Int → Int → Int → Int) : Prop := ∀ x y d, 0 ≤ x → x < m 0 → 0 ≤ y → y < m 1 → 0 ≤ d → d < n → μ c (8 * (16 * y + x) + d) = f x y d
/-- .. ahead of a place and a shift -/
def ct_to (μ : mi_M) (c : Nat) (m : Int → Int) (n : Int) (f : Int → Int → Int → Int) (py px pd : Int) : Prop := ∀ x y d, 0 ≤ x → x < m 0 → 0 ≤ y → 0 ≤ d → d < n → (y < py ∨ y = py ∧ (x < px ∨ x = px ∧ d < pd)) → μ c (8 * (16 * y + x) + d) = f x y d
theorem ct_to0 {μ : mi_M} {c : Nat} {m : Int → Int} {n : Int} {f : Int → Int → Int → Int} : ct_to μ c m n f 0 0 0 := fun x y d h1 h2 h3 h4 h5 h6 => by omega
theorem ct_toY {μ : mi_M} {c : Nat} {m : Int → Int} {n : Int} {f : Int → Int → Int → Int} {y : Int} (h : ct_to μ c m n f y (m 0) 0) : ct_to μ c m n f (y + 1) 0 0 := fun x y' d h1 h2 h3 h4 h5 h6 => h x y' d h1 h2 h3 h4 h5 (by omega)
theorem ct_toX {μ : mi_M} {c : Nat} {m : Int → Int} {n : Int} {f : Int → Int → Int → Int} {y x : Int} (h : ct_to μ c m n f y x n) : ct_to μ c m n f y (x + 1) 0 := fun x' y' d h1 h2 h3 h4 h5 h6 => h x' y' d h1 h2 h3 h4 h5 (by omega)
theorem ct_toE {μ : mi_M} {c : Nat} {m : Int → Int} {n : Int} {f : Int → Int → Int → Int} (h : ct_to μ c m n f (m 1) 0 0) : ct_is μ c m n f := fun x y d h1 h2 h3 h4 h5 h6 => h x y d h1 h2 h3 h5 h6 (by omega)
theorem ct_toD {μ : mi_M} {c : Nat} {m : Int → Int} {n : Int} {f : Int → Int → Int → Int} {y x d a : Int} (hm : m 0 ≤ 16) (hn : n ≤ 8) (h : ct_to μ c m n f y x d) (hx : 0 ≤ x) (hx' : x < m 0) (hd : 0 ≤ d) (hd' : d < n) (ha : a = f x y d) : ct_to (mi_set μ c (8 * (16 * y + x) + d) a) c m n f y x (d + 1) := by
  intro x' y' d' h1 h2 h3 h4 h5 h6
  rw [ms_same]
  by_cases e : y' = y ∧ x' = x ∧ d' = d
  · obtain ⟨rfl, rfl, rfl⟩ := e
    rw [if_pos rfl, ha]
  · rw [if_neg (by omega)]
    exact h x' y' d' h1 h2 h3 h4 h5 (by omega)
def mp34_66 (μ : mi_M) : Prop := sc_ok (sc_m μ) ∧ mp_is μ 67 (sc_m μ) (sp_code (sc_m μ))
def mq34_66 (μ ν : mi_M) : Prop := fr_1 68 μ ν ∧ ct_is ν 68 (sc_m μ) 8 (sp_cost (sc_m μ))
section
variable {X : mi_X} {Q : mi_R → mi_G → mi_M → Prop} {u : mi_U} {μ : mi_M}
theorem mc34_66 (hp : mp34_66 μ) (hq : ∀ ν, mq34_66 μ ν → Q (.inl none) mi_G0 ν) : mi_cok X 34 [(.inr (.inl (some 66)))] mi_G0 μ u Q := by
  obtain ⟨hm, hc⟩ := hp
  obtain ⟨⟨w1, w2⟩, ⟨g1, g2⟩, -⟩ := id hm
  apply me34_66
  refine qp_2 (A := fun y ν => mk34_66_2 X Q u y ν) (B := fun y x ν => mk34_66_15 X Q u y x ν) (I := fun y x ν => fr_1 68 μ ν ∧ ct_to ν 68 (sc_m μ) 8 (sp_cost (sc_m μ)) y x 0) (w := sc_m μ 0) (h := sc_m μ 1) (by omega) (by omega) ?_ ?_ ?_ ?_ ⟨fr_r _ _, ct_to0⟩
  · rintro ν ⟨hf, ht⟩
    apply mh34_66_2
    rw [hf 1 (by decide), ← sc_m1 μ, if_neg (by omega)]
    exact hq ν ⟨hf, ct_toE ht⟩
  · rintro y ν hy hy' ⟨hf, ht⟩ k
    apply mh34_66_2
    rw [hf 1 (by decide), ← sc_m1 μ, mi_wr_id (by omega) (by omega), mi_wr_id (by omega) (by omega), if_pos (by omega)]
    exact k ν ⟨hf, ht⟩
  · rintro y x ν hy hy' hx hx' ⟨hf, ht⟩ k
    apply mh34_66_15
    rw [hf 1 (by decide), ← sc_m0 μ, mi_wr_id (by omega) (by omega), mi_wr_id (by omega) (by omega), if_pos (by omega)]
    refine qp_u (A := fun d ν => mk34_66_28 X Q u y x d ν) (fun d ν => fr_1 68 μ ν ∧ ct_to ν 68 (sc_m μ) 8 (sp_cost (sc_m μ)) y x d) (a := 0) (n := 8) (by omega) ?_ ?_ ⟨hf, ht⟩
    · rintro ν ⟨hf, ht⟩
      apply mh34_66_28
      rw [if_neg (by omega)]
      exact k ν ⟨hf, ct_toX ht⟩
    · rintro d ν hd hd' ⟨hf, ht⟩ k
      have es : sc_m ν = sc_m μ := sc_m_fr (hf 1 (by decide)) (hf 2 (by decide)) (hf 3 (by decide))
      have hc' : mp_is ν 67 (sc_m ν) (sp_code (sc_m ν)) := by
        rw [es]; intro v x y h1 h2 h3 h4 h5 h6; rw [hf 67 (by decide)]; exact hc v x y h1 h2 h3 h4 h5 h6
      obtain ⟨p1, p2⟩ := mx_cost (x := x) (y := y) (d := d) (by rw [es]; exact hm) hc' hx (by rw [es]; exact hx') hy (by rw [es]; exact hy') hd hd'
      apply mh34_66_28
      rw [mi_wr_id (z := d) (by omega) (by omega), mi_wr_id (z := 8) (by decide) (by decide), if_pos (by omega), mx_cell hx (by omega) hy (by omega), p2, es]
      exact ⟨p1, by omega, k _ ⟨fr_s hf _ _, ct_toD w2 (by decide) ht hx hx' hd hd' rfl⟩⟩
  · rintro y ν hy hy' ⟨hf, ht⟩ k
    apply mh34_66_15
    rw [hf 1 (by decide), ← sc_m0 μ, if_neg (by omega)]
    exact k ν ⟨hf, ct_toY ht⟩
end
