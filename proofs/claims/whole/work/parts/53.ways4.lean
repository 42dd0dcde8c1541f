/-! small words: is a place there; frames -/
theorem mp_is_fr {μ ν : mi_M} {c : Nat} {m : Int → Int} {f : Int → Int → Int → Int} (e : ν c = μ c) (h : mp_is μ c m f) : mp_is ν c m f := fun v x y h1 h2 h3 h4 h5 h6 => by rw [e]; exact h v x y h1 h2 h3 h4 h5 h6
theorem ct_is_fr {μ ν : mi_M} {c : Nat} {m : Int → Int} {n : Int} {f : Int → Int → Int → Int} (e : ν c = μ c) (h : ct_is μ c m n f) : ct_is ν c m n f := fun x y d h1 h2 h3 h4 h5 h6 => by rw [e]; exact h x y d h1 h2 h3 h4 h5 h6
/-- all cells but those of a list are as they were -/
def fr_l (L : List Nat) (μ ν : mi_M) : Prop := ∀ r, r ∉ L → ν r = μ r
theorem fr_l1 {c : Nat} {μ ν : mi_M} (h : fr_1 c μ ν) : fr_l [c] μ ν := fun r hr => h r (fun e => hr (by rw [e]; exact List.mem_cons_self))
theorem fr_lr (L : List Nat) (μ : mi_M) : fr_l L μ μ := fun _ _ => rfl
theorem fr_lt {L : List Nat} {μ ν ρ : mi_M} (h : fr_l L μ ν) (h' : fr_l L ν ρ) : fr_l L μ ρ := fun r hr => (h' r hr).trans (h r hr)
theorem fr_lm {L L' : List Nat} {μ ν : mi_M} (h : fr_l L μ ν) (hs : L.all (fun q => L'.contains q) = true) : fr_l L' μ ν := fun r hr => h r (fun hm => hr (by
  have := List.all_eq_true.mp hs r hm
  exact List.contains_iff_mem.mp this))
theorem fr_ls {L : List Nat} {c : Nat} {μ ν : mi_M} (h : fr_l L μ ν) (hc : c ∈ L) (j v : Int) : fr_l L μ (mi_set ν c j v) := fun r hr => by
  rw [ms_other ν (fun e => hr (by rw [e]; exact hc))]; exact h r hr
section
variable {μ : mi_M} {a b : Int}
theorem mx_placeT (hm : sc_ok (μ 87)) (h : sc_in (μ 87) a b) : mv150_86 a b μ = 1 := by
  obtain ⟨⟨w1, w2⟩, ⟨g1, g2⟩, -⟩ := id hm
  unfold sc_in at h
  unfold mv150_86
  rw [mx_withinM ⟨by omega, by omega⟩ ⟨by omega, by omega⟩ ⟨by omega, by omega⟩, mx_withinM ⟨by omega, by omega⟩ ⟨by omega, by omega⟩ ⟨by omega, by omega⟩, if_pos (show 0 ≤ a ∧ a ≤ μ 87 0 - 1 by omega), if_pos (show 0 ≤ b ∧ b ≤ μ 87 1 - 1 by omega)]
  rfl
theorem mx_placeF (hm : sc_ok (μ 87)) (ha : mx_R a) (hb : mx_R b) (h : ¬ sc_in (μ 87) a b) : mv150_86 a b μ = 0 := by
  obtain ⟨⟨w1, w2⟩, ⟨g1, g2⟩, -⟩ := id hm
  unfold sc_in at h
  unfold mv150_86
  rw [mx_withinM ha ⟨by omega, by omega⟩ ⟨by omega, by omega⟩, mx_withinM hb ⟨by omega, by omega⟩ ⟨by omega, by omega⟩]
  by_cases e : 0 ≤ a ∧ a ≤ μ 87 0 - 1
  · rw [if_pos e, if_neg (show ¬ (0 ≤ b ∧ b ≤ μ 87 1 - 1) by omega)]; rfl
  · rw [if_neg e]; rfl
theorem mx_hasT (hm : sc_ok (sc_m μ)) (h : sc_in (sc_m μ) a b) : mv86_1 a b μ = 1 := by
  obtain ⟨⟨w1, w2⟩, ⟨g1, g2⟩, -⟩ := id hm
  unfold sc_in at h
  rw [sc_m0] at w1 w2 h
  rw [sc_m1] at g1 g2 h
  unfold mv86_1
  rw [mi_wr_id (z := a) (by omega) (by omega), mi_wr_id (z := b) (by omega) (by omega), mi_wr_id (z := μ 1 0) (by omega) (by omega), mi_wr_id (z := μ 1 1) (by omega) (by omega), if_neg (by omega), if_pos (by omega), if_neg (by omega), if_pos (by omega)]
theorem mx_hasF (hm : sc_ok (sc_m μ)) (ha : mx_R a) (hb : mx_R b) (h : ¬ sc_in (sc_m μ) a b) : mv86_1 a b μ = 0 := by
  obtain ⟨⟨w1, w2⟩, ⟨g1, g2⟩, -⟩ := id hm
  unfold sc_in at h
  rw [sc_m0] at w1 w2 h
  rw [sc_m1] at g1 g2 h
  unfold mv86_1
  rw [mx_wr ha, mx_wr hb, mi_wr_id (z := μ 1 0) (by omega) (by omega), mi_wr_id (z := μ 1 1) (by omega) (by omega)]
  split
  · rfl
  · split
    · split
      · rfl
      · rw [if_neg (by omega)]
    · rfl
end
theorem wy_xR {r : Int} (h : 0 ≤ r) (h' : r < 8) (μ : mi_M) : mv195 r μ = wy_x r := by
  rcases (show r = 0 ∨ r = 1 ∨ r = 2 ∨ r = 3 ∨ r = 4 ∨ r = 5 ∨ r = 6 ∨ r = 7 by omega) with rfl | rfl | rfl | rfl | rfl | rfl | rfl | rfl <;> rfl
theorem wy_yR {r : Int} (h : 0 ≤ r) (h' : r < 8) (μ : mi_M) : mv196 r μ = wy_y r := by
  rcases (show r = 0 ∨ r = 1 ∨ r = 2 ∨ r = 3 ∨ r = 4 ∨ r = 5 ∨ r = 6 ∨ r = 7 by omega) with rfl | rfl | rfl | rfl | rfl | rfl | rfl | rfl <;> rfl
theorem wy_xC {r : Int} (h : 0 ≤ r) (h' : r < 8) (X : mi_X) : mi_ro X 1003 r = wy_x r := by
  rcases (show r = 0 ∨ r = 1 ∨ r = 2 ∨ r = 3 ∨ r = 4 ∨ r = 5 ∨ r = 6 ∨ r = 7 by omega) with rfl | rfl | rfl | rfl | rfl | rfl | rfl | rfl <;> rfl
theorem wy_yC {r : Int} (h : 0 ≤ r) (h' : r < 8) (X : mi_X) : mi_ro X 1004 r = wy_y r := by
  rcases (show r = 0 ∨ r = 1 ∨ r = 2 ∨ r = 3 ∨ r = 4 ∨ r = 5 ∨ r = 6 ∨ r = 7 by omega) with rfl | rfl | rfl | rfl | rfl | rfl | rfl | rfl <;> rfl
/-! laysWay -/
def mp200_86 (r : Int) (μ : mi_M) : Prop := sc_ok (μ 87) ∧ (0 ≤ r ∧ r < 8) ∧ mp_is μ 92 (μ 87) (sp_code (μ 87))
def mq200_86 (r : Int) (μ ν : mi_M) : Prop := fr_1 93 μ ν ∧ wy_is ν 93 (μ 87) r
section
variable {X : mi_X} {Q : mi_R → mi_G → mi_M → Prop} {u : mi_U} {μ : mi_M}
theorem mc200_86 {r : Int} (hp : mp200_86 r μ) (hq : ∀ ν, mq200_86 r μ ν → Q (.inl none) mi_G0 ν) : mi_cok X 200 [(.inr (.inl (some 86))), (.inl r)] mi_G0 μ u Q := by
  obtain ⟨hm, ⟨hr, hr'⟩, hc⟩ := hp
  obtain ⟨⟨w1, w2⟩, ⟨g1, g2⟩, ⟨f1, f2⟩, -⟩ := id hm
  obtain ⟨c1, c2, -⟩ := wy_cases hr hr'
  apply me200_86
  rw [wy_xR hr hr', wy_yR hr hr']
  refine qp_2 (A := fun j ν => mk200_86_13 X Q u (wy_x r) (wy_y r) j ν) (B := fun j i ν => mk200_86_27 X Q u (wy_x r) (wy_y r) j i ν) (I := fun j i ν => fr_1 93 μ ν ∧ wy_to ν 93 (μ 87) r j i 0) (w := μ 87 0) (h := μ 87 1) (by omega) (by omega) ?_ ?_ ?_ ?_ ⟨fr_r _ _, wy_to0⟩
  · rintro ν ⟨hf, ht⟩
    apply mh200_86_13
    rw [hf 87 (by decide), if_neg (by omega)]
    exact hq ν ⟨hf, wy_toE ht⟩
  · rintro j ν hj hj' ⟨hf, ht⟩ k
    apply mh200_86_13
    rw [hf 87 (by decide), mi_wr_id (by omega) (by omega), mi_wr_id (by omega) (by omega), if_pos (by omega)]
    exact k ν ⟨hf, ht⟩
  · rintro j i ν hj hj' hi hi' ⟨hf, ht⟩ k
    have hx := wy_ij (m := μ 87) (r := r) hi hi'
    have hy := wy_jj (m := μ 87) (r := r) hj hj'
    have key : mk200_86_85 X Q u (wy_x r) (wy_y r) j i (wy_j (μ 87) r j) (wy_i (μ 87) r i) 0 ν := by
      refine qp_u (A := fun d ν => mk200_86_85 X Q u (wy_x r) (wy_y r) j i (wy_j (μ 87) r j) (wy_i (μ 87) r i) d ν) (fun d ν => fr_1 93 μ ν ∧ wy_to ν 93 (μ 87) r j i d) (a := 0) (n := μ 87 2 + 1) (by omega) ?_ ?_ ⟨hf, ht⟩
      · rintro ν ⟨hf, ht⟩
        apply mh200_86_85
        rw [hf 87 (by decide), mi_wr_id (by omega) (by omega), mi_wr_id (by omega) (by omega), if_pos (by omega)]
        exact k ν ⟨hf, wy_toX ht⟩
      · rintro d ν hd hd' ⟨hf, ht⟩ k
        have e87 : ν 87 = μ 87 := hf 87 (by decide)
        obtain ⟨q1, q2⟩ := mx_costR (μ := ν) (x := wy_i (μ 87) r i) (y := wy_j (μ 87) r j) (d := d) (by rw [e87]; exact hm) (by rw [e87]; exact mp_is_fr (hf 92 (by decide)) hc) hx.1 (by rw [e87]; exact hx.2) hy.1 (by rw [e87]; exact hy.2) hd (by omega)
        rw [e87] at q2
        apply mh200_86_85
        rw [mx_cellR, e87, mi_wr_id (z := μ 87 2) (by omega) (by omega), mi_wr_id (z := d) (by omega) (by omega), if_neg (by omega), q2]
        have hin : sc_in (μ 87) (wy_i (μ 87) r i) (wy_j (μ 87) r j) := ⟨hx.1, hx.2, hy.1, hy.2⟩
        by_cases hc' : sc_in (μ 87) (wy_i (μ 87) r i - wy_x r) (wy_j (μ 87) r j - wy_y r)
        · rw [mx_placeT (by rw [e87]; exact hm) (by rw [e87]; exact hc'), if_neg (by decide)]
          have ha : ∀ e, 0 ≤ e → e ≤ μ 87 2 → ν 93 (8 * (16 * (wy_j (μ 87) r j - wy_y r) + (wy_i (μ 87) r i - wy_x r)) + e) = sp_way (μ 87) r (wy_i (μ 87) r i - wy_x r) (wy_j (μ 87) r j - wy_y r) e := by
            intro e h1 h2
            refine ht _ _ e hc'.1 hc'.2.1 hc'.2.2.1 hc'.2.2.2 h1 h2 ?_
            have := wy_pre (m := μ 87) (x := wy_i (μ 87) r i) (y := wy_j (μ 87) r j) hr hr'
            rw [wy_ii, wy_jjj] at this
            omega
          refine ⟨⟨⟨by rw [e87]; exact hm, by rw [e87]; exact hc', ?_⟩, hd, by rw [e87]; omega⟩, q1, by omega, k _ ⟨fr_s hf _ _, wy_toD w2 f2 ht hx.1 hx.2 hd (by omega) ?_⟩⟩
          · intro e h1 h2
            rw [e87] at h2
            rw [ha e h1 h2]
            have := sp_way_b hm (r := r) (x := wy_i (μ 87) r i - wy_x r) (y := wy_j (μ 87) r j - wy_y r) h1 h2
            omega
          · rw [sp_way_in hm hr hr' hin hd (by omega) hc']
            unfold mv199_86
            rw [e87, tb_eq hd (by omega) ha]
        · rw [mx_placeF (by rw [e87]; exact hm) ⟨by omega, by omega⟩ ⟨by omega, by omega⟩ (by rw [e87]; exact hc'), if_pos (by decide)]
          refine ⟨q1, by omega, k _ ⟨fr_s hf _ _, wy_toD w2 f2 ht hx.1 hx.2 hd (by omega) ?_⟩⟩
          rw [sp_way_out hc', Int.add_zero]
    apply mh200_86_27
    rw [hf 87 (by decide), mi_wr_id (z := i) (by omega) (by omega), mi_wr_id (z := μ 87 0) (by omega) (by omega), if_pos (by omega), mi_wr_id (z := wy_x r) (by omega) (by omega), mi_wr_id (z := wy_y r) (by omega) (by omega)]
    unfold wy_i wy_j at key
    by_cases e1 : wy_y r < 0
    · by_cases e2 : wy_x r < 0
      · rw [if_pos e1, if_pos e2] at key ⊢; exact key
      · rw [if_pos e1, if_neg e2] at key ⊢; exact key
    · by_cases e2 : wy_x r < 0
      · rw [if_neg e1, if_pos e2] at key ⊢; exact key
      · rw [if_neg e1, if_neg e2] at key ⊢; exact key
  · rintro j ν hj hj' ⟨hf, ht⟩ k
    apply mh200_86_27
    rw [hf 87 (by decide), if_neg (by omega)]
    exact k ν ⟨hf, wy_toY ht⟩
end
