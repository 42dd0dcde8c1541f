/-! the least of the first ones -/
def ls_t (f : Int → Int) : Nat → Int
  | 0 => f 0
  | n + 1 => if f ((n : Int) + 1) < ls_t f n then f ((n : Int) + 1) else ls_t f n
theorem ls_s {f : Int → Int} {i : Int} (h : 0 ≤ i) : ls_t f (i + 1).toNat = if f (i + 1) < ls_t f i.toNat then f (i + 1) else ls_t f i.toNat := by
  obtain ⟨n, rfl⟩ := Int.eq_ofNat_of_zero_le h
  rw [show ((n : Int) + 1).toNat = n + 1 by omega, show ((n : Int)).toNat = n by omega]
  rfl
theorem ls_le {f : Int → Int} : ∀ (n : Nat) (d : Int), 0 ≤ d → d ≤ n → ls_t f n ≤ f d
  | 0, d, h, h' => by
    have : d = 0 := by omega
    subst this; exact Int.le_refl _
  | n + 1, d, h, h' => by
    unfold ls_t
    by_cases e : d = (n : Int) + 1
    · subst e; split <;> omega
    · have := ls_le (f := f) n d h (by omega)
      split <;> omega
theorem ls_in {f : Int → Int} : ∀ (n : Nat), ∃ d : Int, 0 ≤ d ∧ d ≤ n ∧ ls_t f n = f d
  | 0 => ⟨0, by omega, by omega, rfl⟩
  | n + 1 => by
    unfold ls_t
    obtain ⟨d, h1, h2, h3⟩ := ls_in (f := f) n
    split
    · exact ⟨(n : Int) + 1, by omega, by omega, rfl⟩
    · exact ⟨d, h1, by omega, h3⟩
theorem ls_eq {f g : Int → Int} : ∀ (n : Nat), (∀ d : Int, 0 ≤ d → d ≤ n → f d = g d) → ls_t f n = ls_t g n
  | 0, h => h 0 (by omega) (by omega)
  | n + 1, h => by
    unfold ls_t
    rw [ls_eq n (fun d a b => h d a (by omega)), h ((n : Int) + 1) (by omega) (by omega)]
def mp198_86_93 (a0 a1 : Int) (μ : mi_M) : Prop := sc_ok (μ 87) ∧ (0 ≤ a0 ∧ a0 < μ 87 0 ∧ 0 ≤ a1 ∧ a1 < μ 87 1) ∧ ∀ d, 0 ≤ d → d ≤ μ 87 2 → 0 ≤ μ 93 (8 * (16 * a1 + a0) + d) ∧ μ 93 (8 * (16 * a1 + a0) + d) < 100000000
def mv198_86_93 (a0 a1 : Int) (μ : mi_M) : Int := ls_t (fun d => μ 93 (8 * (16 * a1 + a0) + d)) (μ 87 2).toNat
section
variable {X : mi_X} {Q : mi_R → mi_G → mi_M → Prop} {u : mi_U} {μ : mi_M}
theorem mx_cellR {x y d : Int} : mv197 x y d μ = 8 * (16 * y + x) + d := by unfold mv197; omega
theorem mc198_86_93 {a0 a1 : Int} (hp : mp198_86_93 a0 a1 μ) (hq : Q (.inl (some (.inl (mv198_86_93 a0 a1 μ)))) mi_G0 μ) : mi_cok X 198 [(.inr (.inl (some 86))), (.inr (.inl (some 93))), (.inl a0), (.inl a1)] mi_G0 μ u Q := by
  obtain ⟨hm, ⟨hx, hx', hy, hy'⟩, hR⟩ := hp
  obtain ⟨⟨w1, w2⟩, ⟨g1, g2⟩, ⟨f1, f2⟩, -⟩ := id hm
  apply me198_86_93
  refine qp_u (A := fun d acc => mk198_86_93_7 X Q u a0 a1 acc d μ) (fun d acc => (d = 0 ∧ acc = 100000000) ∨ (0 < d ∧ acc = ls_t (fun d => μ 93 (8 * (16 * a1 + a0) + d)) (d - 1).toNat)) (a := 0) (n := μ 87 2 + 1) (by omega) ?_ ?_ (Or.inl ⟨rfl, rfl⟩)
  · rintro acc (⟨h, -⟩ | ⟨-, rfl⟩)
    · omega
    · apply mh198_86_93_7
      rw [mi_wr_id (by omega) (by omega), mi_wr_id (by omega) (by omega), if_pos (by omega), show μ 87 2 + 1 - 1 = μ 87 2 by omega]
      exact hq
  · rintro d acc hd hd' hI k
    have hr := hR d hd (by omega)
    have ha : 0 ≤ acc ∧ acc ≤ 100000000 := by
      rcases hI with ⟨-, rfl⟩ | ⟨h, rfl⟩
      · omega
      · obtain ⟨e, e1, e2, e3⟩ := ls_in (f := fun d => μ 93 (8 * (16 * a1 + a0) + d)) (d - 1).toNat
        have := hR e e1 (by omega)
        rw [e3]; omega
    apply mh198_86_93_7
    simp only [mx_cellR]
    rw [mi_wr_id (z := μ 87 2) (by omega) (by omega), mi_wr_id (z := d) (by omega) (by omega), if_neg (by omega), mi_wr_id (z := μ 93 (8 * (16 * a1 + a0) + d)) (by omega) (by omega), mi_wr_id (z := acc) (by omega) (by omega)]
    refine ⟨by omega, k _ (Or.inr ⟨by omega, ?_⟩)⟩
    rw [show d + 1 - 1 = d by omega]
    rcases hI with ⟨rfl, rfl⟩ | ⟨h, rfl⟩
    · rw [if_pos (by omega)]; rfl
    · have := ls_s (f := fun d => μ 93 (8 * (16 * a1 + a0) + d)) (i := d - 1) (by omega)
      rw [show d - 1 + 1 = d by omega] at this
      exact this.symm
end
