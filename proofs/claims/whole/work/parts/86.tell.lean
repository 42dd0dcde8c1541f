/-! what is told of a piece -/
def fo_x (g : Int → Int → Int → Int) (y a : Int) : Nat → Int
  | 0 => a
  | n + 1 => g (fo_x g y a n) n y
def fo_y (g : Int → Int → Int → Int) (a w : Int) : Nat → Int
  | 0 => a
  | n + 1 => fo_x g n (fo_y g a w n) w.toNat
def fo2 (g : Int → Int → Int → Int) (a w y x : Int) : Int := fo_x g y (fo_y g a w y.toNat) x.toNat
theorem fo_0 {g : Int → Int → Int → Int} {a w : Int} : fo2 g a w 0 0 = a := rfl
theorem fo_s {g : Int → Int → Int → Int} {a w y x : Int} (h : 0 ≤ x) : fo2 g a w y (x + 1) = g (fo2 g a w y x) x y := by
  unfold fo2
  obtain ⟨n, rfl⟩ := Int.eq_ofNat_of_zero_le h
  rw [show ((n : Int) + 1).toNat = n + 1 by omega, show ((n : Int)).toNat = n by omega]
  rfl
theorem fo_r {g : Int → Int → Int → Int} {a w y : Int} (h : 0 ≤ y) : fo2 g a w (y + 1) 0 = fo2 g a w y w := by
  unfold fo2
  obtain ⟨n, rfl⟩ := Int.eq_ofNat_of_zero_le h
  rw [show ((n : Int) + 1).toNat = n + 1 by omega, show ((n : Int)).toNat = n by omega]
  rfl
noncomputable def tp_lx (m : Int → Int) (v r : Int) : Int → Int → Int := fo2 (fun a x y => if sp_rt m v x y = r then (if x < a then x else a) else a) 16 (m 0)
noncomputable def tp_hx (m : Int → Int) (v r : Int) : Int → Int → Int := fo2 (fun a x y => if sp_rt m v x y = r then (if a < x then x else a) else a) 0 (m 0)
noncomputable def tp_hy (m : Int → Int) (v r : Int) : Int → Int → Int := fo2 (fun a x y => if sp_rt m v x y = r then (if a < y then y else a) else a) 0 (m 0)
noncomputable def tp_su (m : Int → Int) (v r : Int) : Int → Int → Int := fo2 (fun a x y => if sp_rt m v x y = r then a + sp_sh m v x y else a) 0 (m 0)
noncomputable def sp_tp (m : Int → Int) (v r what : Int) : Int := if what = 0 then sz m v r else if what = 1 then r % 16 else if what = 2 then r / 16 else if what = 3 then tp_lx m v r (m 1) 0 else if what = 4 then r / 16 else if what = 5 then tp_hx m v r (m 1) 0 else if what = 6 then tp_hy m v r (m 1) 0 else tp_su m v r (m 1) 0
/-- the folds, together, at a place -/
def tp_i (m : Int → Int) (v r py px lx hx hy su : Int) : Prop := lx = tp_lx m v r py px ∧ hx = tp_hx m v r py px ∧ hy = tp_hy m v r py px ∧ su = tp_su m v r py px ∧ (0 ≤ lx ∧ lx ≤ 16) ∧ (0 ≤ hx ∧ hx ≤ 15) ∧ (0 ≤ hy ∧ hy ≤ py)
section
variable {m : Int → Int} {v r y x lx hx hy su : Int}
theorem tp_y (h : 0 ≤ y) (hi : tp_i m v r y (m 0) lx hx hy su) : tp_i m v r (y + 1) 0 lx hx hy su := by
  obtain ⟨h1, h2, h3, h4, h5, h6, h7⟩ := hi
  exact ⟨h1.trans (fo_r h).symm, h2.trans (fo_r h).symm, h3.trans (fo_r h).symm, h4.trans (fo_r h).symm, h5, h6, by omega, by omega⟩
theorem tp_n (h : 0 ≤ x) (hi : tp_i m v r y x lx hx hy su) (hn : sp_rt m v x y ≠ r) : tp_i m v r y (x + 1) lx hx hy su := by
  obtain ⟨h1, h2, h3, h4, h5⟩ := hi
  refine ⟨?_, ?_, ?_, ?_, h5⟩
  · unfold tp_lx at h1 ⊢; rw [fo_s h, if_neg hn]; exact h1
  · unfold tp_hx at h2 ⊢; rw [fo_s h, if_neg hn]; exact h2
  · unfold tp_hy at h3 ⊢; rw [fo_s h, if_neg hn]; exact h3
  · unfold tp_su at h4 ⊢; rw [fo_s h, if_neg hn]; exact h4
theorem tp_s (h : 0 ≤ x) (h' : x < 16) (hy0 : 0 ≤ y) (hi : tp_i m v r y x lx hx hy su) (hn : sp_rt m v x y = r) : tp_i m v r y (x + 1) (if x < lx then x else lx) (if hx < x then x else hx) y (su + sp_sh m v x y) ∧ (if hy < y then y else hy) = y := by
  obtain ⟨h1, h2, h3, h4, h5, h6, h7⟩ := hi
  have ey : (if hy < y then y else hy) = y := by split <;> omega
  refine ⟨⟨?_, ?_, ?_, ?_, by split <;> omega, by split <;> omega, by omega, by omega⟩, ey⟩
  · unfold tp_lx at h1 ⊢; rw [fo_s h, if_pos hn, ← h1]
  · unfold tp_hx at h2 ⊢; rw [fo_s h, if_pos hn, ← h2]
  · unfold tp_hy at h3 ⊢; rw [fo_s h, if_pos hn, ← h3, ey]
  · unfold tp_su at h4 ⊢; rw [fo_s h, if_pos hn, ← h4]
theorem tp_0 : tp_i m v r 0 0 16 0 0 0 := ⟨rfl, rfl, rfl, rfl, by decide, by decide, by decide⟩
/-- a place of the piece lies at its first one or behind it -/
theorem rt_ge (hw : m 0 ≤ 16) (hh : m 1 ≤ 12) (hi : sc_in m x y) (hr : 0 ≤ r) (h : sp_rt m v x y = r) : r ≤ 16 * y + x ∧ r < 192 := by
  unfold sp_rt at h
  by_cases e : sp_k0 m v x y = 0
  · rw [if_pos e] at h
    have := rt_b (v := v) hw hh hi
    omega
  · rw [if_neg e] at h; omega
end
section
variable {X : mi_X} {Q : mi_R → mi_G → mi_M → Prop} {u : mi_U} {μ : mi_M} {v : Int}
theorem mx_kept {r : Int} (hm : sc_ok (μ 87)) (hv : 0 ≤ v) (hv' : v ≤ 1) (hrc : rc4 μ (μ 87)) (hr : 0 ≤ r) (hr' : r < 192) : mp220_86 (192 * v + r) μ ∧ (sp_keep (μ 87) v r → mv220_86 (192 * v + r) μ = 1) ∧ (¬ sp_keep (μ 87) v r → mv220_86 (192 * v + r) μ = 0) := by
  obtain ⟨-, -, -, -, -, -, -, ⟨b1, b2⟩, -⟩ := id hm
  have e := (rp_v hrc hv hv').2 r hr hr'
  have zb := sz_le hm v r
  have z0 := sz_0 (m := μ 87) (v := v) (r := r)
  unfold mp220_86 mv220_86
  rw [e, mi_wr_id (z := sz (μ 87) v r) (by omega) (by omega), mi_wr_id (z := μ 87 8) (by omega) (by omega)]
  refine ⟨⟨by omega, by split; omega; trivial⟩, fun h => ?_, fun h => ?_⟩
  · rw [if_pos h.1, if_neg (by have := h.2; omega)]
  · by_cases c : 0 < sz (μ 87) v r
    · rw [if_pos c, if_pos (Int.not_le.mp (fun h' => h ⟨c, h'⟩))]
    · rw [if_neg c]
theorem mc222_86 {r0 : Int} (hm : sc_ok (μ 87)) (hv : 0 ≤ v) (hv' : v ≤ 1) (hrc : rc4 μ (μ 87)) (h0 : 0 ≤ r0) (h0' : r0 < 192) (hq : Q (.inl (some (.inl (sp_ah (μ 87) v r0 192)))) mi_G0 μ) : mi_cok X 222 [(.inr (.inl (some 86))), (.inl v), (.inl (192 * v + r0))] mi_G0 μ u Q := by
  have zb0 := sz_le hm v r0
  have z00 := sz_0 (m := μ 87) (v := v) (r := r0)
  have e0 := (rp_v hrc hv hv').2 r0 h0 h0'
  apply me222_86
  have key := qp_u (A := fun r acc => mk222_86_9 X Q u v (192 * v + r0) acc (192 * v + r) μ) (fun r acc => acc = sp_ah (μ 87) v r0 r.toNat) (a := 0) (n := 192) (by omega) ?_ ?_ rfl
  · rw [Int.add_zero] at key; exact key
  · intro acc h
    rw [e192] at h
    apply mh222_86_9
    rw [mi_wr_id (by omega) (by omega), mi_wr_id (by omega) (by omega), if_neg (by omega), h]
    exact hq
  · rintro r acc hr hr' rfl k
    obtain ⟨p1, p2, p3⟩ := mx_kept hm hv hv' hrc hr hr'
    have zb := sz_le hm v r
    have z0 := sz_0 (m := μ 87) (v := v) (r := r)
    have e1 := (rp_v hrc hv hv').2 r hr hr'
    have k' : ∀ z, z = sp_ah (μ 87) v r0 (r + 1).toNat → mk222_86_9 X Q u v (192 * v + r0) z (192 * v + r + 1) μ := fun z hz => by
      have := k z hz
      rw [← Int.add_assoc] at this; exact this
    apply mh222_86_9
    rw [e1, e0, mi_wr_id (z := 192 * v + r) (by omega) (by omega), mi_wr_id (z := 192 * (v + 1)) (by omega) (by omega), if_pos (by omega), mi_wr_id (z := sz (μ 87) v r0) (by omega) (by omega), mi_wr_id (z := sz (μ 87) v r) (by omega) (by omega), mi_wr_id (z := 192 * v + r0) (by omega) (by omega)]
    refine ⟨p1, ?_⟩
    by_cases hk : sp_keep (μ 87) v r
    · rw [p2 hk, if_neg w_10]
      refine ⟨by omega, by omega, ?_⟩
      by_cases c : sz (μ 87) v r0 < sz (μ 87) v r
      · rw [if_pos c]
        exact k' _ (by rw [ah_s hr, if_pos (show ahd (μ 87) v r0 r from ⟨hk, Or.inl c⟩)])
      · rw [if_neg c]
        refine ⟨by omega, by omega, ?_⟩
        by_cases c2 : sz (μ 87) v r = sz (μ 87) v r0
        · rw [if_pos c2]
          by_cases c3 : r < r0
          · rw [if_pos (by omega)]
            exact k' _ (by rw [ah_s hr, if_pos (show ahd (μ 87) v r0 r from ⟨hk, Or.inr ⟨c2, c3⟩⟩)])
          · rw [if_neg (by omega)]
            exact k' _ (by rw [ah_s hr, if_neg (show ¬ ahd (μ 87) v r0 r from fun h => h.2.elim (fun h => c h) (fun h => c3 h.2))])
        · rw [if_neg c2]
          exact k' _ (by rw [ah_s hr, if_neg (show ¬ ahd (μ 87) v r0 r from fun h => h.2.elim (fun h => c h) (fun h => c2 h.1))])
    · rw [p3 hk, if_pos w_00]
      exact k' _ (by rw [ah_s hr, if_neg (show ¬ ahd (μ 87) v r0 r from fun h => hk h.1)])
theorem mc61_76 {r0 w0 : Int} (hp : mp57_76 v μ) (hs : mp_is μ 72 (sc_m μ) (sp_sh (sc_m μ))) (h0 : 0 ≤ r0) (h0' : r0 < 192) (hz : 0 < sz (sc_m μ) v r0) (hw : 0 ≤ w0) (hw' : w0 ≤ 7) (hq : Q (.inl (some (.inl (sp_tp (sc_m μ) v r0 w0)))) mi_G0 μ) : mi_cok X 61 [(.inr (.inl (some 76))), (.inl v), (.inl (rk (sc_m μ) v r0)), (.inl w0)] mi_G0 μ u Q := by
  obtain ⟨hm, ⟨hv, hv'⟩, hc⟩ := hp
  obtain ⟨⟨w1, w2⟩, ⟨g1, g2⟩, ⟨f1, f2⟩, -⟩ := id hm
  obtain ⟨ax, ay, hax, hak, har, hae⟩ := sz_rt w2 h0 hz
  obtain ⟨b1, b2, b3, b4⟩ := id hax
  have rb0 := rk_b (m := sc_m μ) (v := v) h0
  have hm1 : mi_wr (-1) = -1 := by decide
  apply me61_76
  -- first x, first y: none ahead of the first place
  refine qp_2 (σ := Int × Int × Int × Int × Int × Int) (A := fun y s => mk61_76_22 X Q u v (rk (sc_m μ) v r0) w0 s.1 s.2.1 s.2.2.1 s.2.2.2.1 s.2.2.2.2.1 s.2.2.2.2.2 y μ) (B := fun y x s => mk61_76_37 X Q u v (rk (sc_m μ) v r0) w0 s.1 s.2.1 s.2.2.1 s.2.2.2.1 s.2.2.2.2.1 s.2.2.2.2.2 y x μ) (I := fun y x s => tp_i (sc_m μ) v r0 y x s.2.2.1 s.2.2.2.1 s.2.2.2.2.1 s.2.2.2.2.2 ∧ ((16 * y + x ≤ r0 ∧ s.1 = -1 ∧ s.2.1 = -1) ∨ (r0 < 16 * y + x ∧ s.1 = r0 % 16 ∧ s.2.1 = r0 / 16))) (w := sc_m μ 0) (h := sc_m μ 1) (by omega) (by omega) ?_ ?_ ?_ ?_ (s := (-1, -1, 16, 0, 0, 0)) ⟨tp_0, Or.inl ⟨by omega, rfl, rfl⟩⟩
  · rintro ⟨fx, fy, lx, hx, hy, su⟩ ⟨⟨i1, i2, i3, i4, -⟩, hf⟩
    dsimp only at i1 i2 i3 i4 hf
    show mk61_76_22 X Q u v (rk (sc_m μ) v r0) w0 fx fy lx hx hy su (sc_m μ 1) μ
    obtain ⟨hf1, hf2⟩ : fx = r0 % 16 ∧ fy = r0 / 16 := by omega
    have e78 : μ 78 (v * 192 + rk (sc_m μ) v r0) = sz (sc_m μ) v r0 := by
      rw [show v * 192 + rk (sc_m μ) v r0 = 192 * v + rk (sc_m μ) v r0 by omega]; exact hc.2.1 r0 h0 h0' hz
    apply mh61_76_22
    rw [← sc_m1 μ, if_neg (Int.lt_irrefl _), mi_wr_id (z := w0) (by omega) (by omega), e78, hf1, hf2, i1, i2, i3, i4]
    unfold sp_tp at hq
    rcases (show w0 = 0 ∨ w0 = 1 ∨ w0 = 2 ∨ w0 = 3 ∨ w0 = 4 ∨ w0 = 5 ∨ w0 = 6 ∨ w0 = 7 by omega) with rfl | rfl | rfl | rfl | rfl | rfl | rfl | rfl
    · exact ⟨by omega, hq⟩
    all_goals exact hq
  · rintro y ⟨fx, fy, lx, hx, hy, su⟩ hy0 hy' hI k
    show mk61_76_22 X Q u v (rk (sc_m μ) v r0) w0 fx fy lx hx hy su y μ
    apply mh61_76_22
    rw [← sc_m1 μ, mi_wr_id (by omega) (by omega), mi_wr_id (by omega) (by omega), if_pos (by omega)]
    exact k (fx, fy, lx, hx, hy, su) hI
  · rintro y x ⟨fx, fy, lx, hx, hy, su⟩ hy0 hy' hx0 hx' ⟨hI, hf⟩ k
    dsimp only at hI hf
    show mk61_76_37 X Q u v (rk (sc_m μ) v r0) w0 fx fy lx hx hy su y x μ
    have hi : sc_in (sc_m μ) x y := ⟨hx0, hx', hy0, hy'⟩
    have rtb := rt_b (v := v) w2 g2 hi
    have rkb := rk_b (m := sc_m μ) (v := v) rtb.1
    have elb := hc.1 x y hi
    have hlab : μ 77 (192 * v + 16 * y + x) = rk (sc_m μ) v r0 ↔ sp_rt (sc_m μ) v x y = r0 := by
      rw [elb]
      unfold sp_rt
      by_cases e : sp_k0 (sc_m μ) v x y = 0
      · rw [if_pos e, if_pos e]
        refine ⟨fun h => ?_, fun h => by rw [h]⟩
        have hz2 := sz_p hi e
        rcases Int.lt_trichotomy (rt (sc_m μ) v x y) r0 with h1 | h1 | h1
        · have := rk_lt (m := sc_m μ) (v := v) rtb.1 h1 hz2; omega
        · exact h1
        · have := rk_lt (m := sc_m μ) (v := v) h0 h1 hz; omega
      · rw [if_neg e, if_neg e]; omega
    have lb : -1 ≤ μ 77 (192 * v + 16 * y + x) ∧ μ 77 (192 * v + 16 * y + x) ≤ 192 := by rw [elb]; split <;> omega
    obtain ⟨i1, i2, i3, i4, i5, i6, i7⟩ := id hI
    apply mh61_76_37
    rw [mx_spot hy0 (by omega), ← sc_m0 μ, mi_wr_id (z := x) (by omega) (by omega), mi_wr_id (z := sc_m μ 0) (by omega) (by omega), if_pos (by omega), mi_wr_id (z := μ 77 (192 * v + 16 * y + x)) (by omega) (by omega), mi_wr_id (z := rk (sc_m μ) v r0) (by omega) (by omega), hm1, mi_wr_id (z := fx) (by omega) (by omega), mi_wr_id (z := fy) (by omega) (by omega)]
    refine ⟨by omega, ?_⟩
    by_cases c : sp_rt (sc_m μ) v x y = r0
    · rw [if_pos (hlab.mpr c)]
      have hge := rt_ge w2 g2 hi h0 c
      obtain ⟨t1, t2⟩ := tp_s hx0 (by omega) hy0 hI c
      apply mh61_76_100
      rw [mx_min ⟨by omega, by omega⟩ ⟨by omega, by omega⟩, mx_max ⟨by omega, by omega⟩ ⟨by omega, by omega⟩, hs v x y hv hv' hx0 hx' hy0 hy']
      refine ⟨by omega, k (_, _, _, _, _, _) ⟨t1, Or.inr ⟨by omega, ?_, ?_⟩⟩⟩
      · show (if fx = -1 then x else fx) = r0 % 16
        rcases hf with ⟨h1, h2, h3⟩ | ⟨h1, h2, h3⟩
        · rw [if_pos h2]; omega
        · rw [if_neg (by omega)]; exact h2
      · show (if fy = -1 then y else fy) = r0 / 16
        rcases hf with ⟨h1, h2, h3⟩ | ⟨h1, h2, h3⟩
        · rw [if_pos h3]; omega
        · rw [if_neg (by omega)]; exact h3
    · rw [if_neg (fun h => c (hlab.mp h))]
      refine k (fx, fy, lx, hx, hy, su) ⟨tp_n hx0 hI c, ?_⟩
      rcases hf with ⟨h1, h2, h3⟩ | ⟨h1, h2, h3⟩
      · refine Or.inl ⟨?_, h2, h3⟩
        refine Int.not_lt.mp (fun hlt => c ?_)
        have e1 : x = ax := by omega
        have e2 : y = ay := by omega
        subst e1; subst e2
        unfold sp_rt; rw [if_pos hak]; exact har
      · exact Or.inr ⟨by omega, h2, h3⟩
  · rintro y ⟨fx, fy, lx, hx, hy, su⟩ hy0 hy' ⟨hI, hf⟩ k
    dsimp only at hI hf
    show mk61_76_37 X Q u v (rk (sc_m μ) v r0) w0 fx fy lx hx hy su y (sc_m μ 0) μ
    apply mh61_76_37
    rw [← sc_m0 μ, if_neg (Int.lt_irrefl _)]
    exact k (fx, fy, lx, hx, hy, su) ⟨tp_y hy0 hI, by show (16 * (y + 1) + 0 ≤ r0 ∧ fx = -1 ∧ fy = -1) ∨ (r0 < 16 * (y + 1) + 0 ∧ fx = r0 % 16 ∧ fy = r0 / 16); omega⟩
theorem mx_rem {a b : Int} (ha : 0 ≤ a) (ha' : a < 2147483648) (hb : 0 < b) (hb' : b < 2147483648) : mi_rem a b = a % b := by
  obtain ⟨n, rfl⟩ := Int.eq_ofNat_of_zero_le ha
  obtain ⟨k, rfl⟩ := Int.eq_ofNat_of_zero_le (Int.le_of_lt hb)
  unfold mi_rem
  have h1 := Nat.div_mul_le_self n k
  rw [mx_of, mx_of, pk_div (by omega) (by omega) (by omega), pk_mul, pk_sub h1, nI_toInt (by omega), ← Int.natCast_emod]
  congr 1
  have := Nat.mod_add_div n k
  rw [Nat.mul_comm k] at this
  omega
theorem mc223_86 {r0 w0 : Int} (hm : sc_ok (μ 87)) (hv : 0 ≤ v) (hv' : v ≤ 1) (hrc : rc4 μ (μ 87)) (h0 : 0 ≤ r0) (h0' : r0 < 192) (hz : 0 < sz (μ 87) v r0) (hw : 0 ≤ w0) (hw' : w0 ≤ 7) (hq : Q (.inl (some (.inl (sp_tp (μ 87) v r0 w0)))) mi_G0 μ) : mi_cok X 223 [(.inr (.inl (some 86))), (.inl v), (.inl (192 * v + r0)), (.inl w0)] mi_G0 μ u Q := by
  obtain ⟨⟨w1, w2⟩, ⟨g1, g2⟩, ⟨f1, f2⟩, -⟩ := id hm
  obtain ⟨ax, ay, hax, hak, har, hae⟩ := sz_rt w2 h0 hz
  obtain ⟨b1, b2, b3, b4⟩ := id hax
  have hrp := rp_v hrc hv hv'
  apply me223_86
  rw [show 192 * v + r0 - 192 * v = r0 by omega]
  refine qp_2 (σ := Int × Int × Int × Int × Int) (A := fun y s => mk223_86_29 X Q u v (192 * v + r0) w0 r0 s.1 s.2.1 s.2.2.1 s.2.2.2.1 s.2.2.2.2 y μ) (B := fun y x s => mk223_86_43 X Q u v (192 * v + r0) w0 r0 s.1 s.2.1 s.2.2.1 s.2.2.2.1 s.2.2.2.2 y x μ) (I := fun y x s => tp_i (μ 87) v r0 y x s.1 s.2.2.1 s.2.2.2.1 s.2.2.2.2 ∧ ((16 * y + x ≤ r0 ∧ s.2.1 = 12) ∨ (r0 < 16 * y + x ∧ s.2.1 = r0 / 16))) (w := μ 87 0) (h := μ 87 1) (by omega) (by omega) ?_ ?_ ?_ ?_ (s := (16, 12, 0, 0, 0)) ⟨tp_0, Or.inl ⟨by omega, rfl⟩⟩
  · rintro ⟨lx, ly, hx, hy, su⟩ ⟨⟨i1, i2, i3, i4, -⟩, hf⟩
    dsimp only at i1 i2 i3 i4 hf
    show mk223_86_29 X Q u v (192 * v + r0) w0 r0 lx ly hx hy su (μ 87 1) μ
    have hf1 : ly = r0 / 16 := by omega
    apply mh223_86_29
    rw [if_neg (Int.lt_irrefl _), mi_wr_id (z := w0) (by omega) (by omega), hrp.2 r0 h0 h0', mx_rem h0 (by omega) (by decide) (by decide), mx_div h0 (by omega) (by decide) (by decide), hf1, i1, i2, i3, i4]
    unfold sp_tp at hq
    rcases (show w0 = 0 ∨ w0 = 1 ∨ w0 = 2 ∨ w0 = 3 ∨ w0 = 4 ∨ w0 = 5 ∨ w0 = 6 ∨ w0 = 7 by omega) with rfl | rfl | rfl | rfl | rfl | rfl | rfl | rfl
    · exact ⟨by omega, hq⟩
    all_goals exact hq
  · rintro y ⟨lx, ly, hx, hy, su⟩ hy0 hy' hI k
    show mk223_86_29 X Q u v (192 * v + r0) w0 r0 lx ly hx hy su y μ
    apply mh223_86_29
    rw [mi_wr_id (by omega) (by omega), mi_wr_id (by omega) (by omega), if_pos (by omega)]
    exact k (lx, ly, hx, hy, su) hI
  · rintro y x ⟨lx, ly, hx, hy, su⟩ hy0 hy' hx0 hx' ⟨hI, hf⟩ k
    dsimp only at hI hf
    show mk223_86_43 X Q u v (192 * v + r0) w0 r0 lx ly hx hy su y x μ
    have hi : sc_in (μ 87) x y := ⟨hx0, hx', hy0, hy'⟩
    have rtb := rt_b (v := v) w2 g2 hi
    have elb := hrp.1 x y hi
    have hlab : μ 97 (192 * v + 16 * y + x) = 192 * v + r0 ↔ sp_rt (μ 87) v x y = r0 := by
      rw [elb]
      unfold sp_rt
      by_cases e : sp_k0 (μ 87) v x y = 0
      · rw [if_pos e, if_pos e]; omega
      · rw [if_neg e, if_neg e]; omega
    have lb : -1 ≤ μ 97 (192 * v + 16 * y + x) ∧ μ 97 (192 * v + 16 * y + x) ≤ 384 := by rw [elb]; split <;> omega
    obtain ⟨i1, i2, i3, i4, i5, i6, i7⟩ := id hI
    apply mh223_86_43
    rw [mx_spotR, mi_wr_id (z := x) (by omega) (by omega), mi_wr_id (z := μ 87 0) (by omega) (by omega), if_pos (by omega), mi_wr_id (z := μ 97 (192 * v + 16 * y + x)) (by omega) (by omega), mi_wr_id (z := 192 * v + r0) (by omega) (by omega), mi_wr_id (z := lx) (by omega) (by omega), mi_wr_id (z := y) (by omega) (by omega), mi_wr_id (z := ly) (by omega) (by omega), mi_wr_id (z := hx) (by omega) (by omega), mi_wr_id (z := hy) (by omega) (by omega)]
    refine ⟨by omega, ?_⟩
    by_cases c : sp_rt (μ 87) v x y = r0
    · rw [if_pos (hlab.mpr c)]
      have hge := rt_ge w2 g2 hi h0 c
      obtain ⟨t1, t2⟩ := tp_s hx0 (by omega) hy0 hI c
      apply mh223_86_135
      rw [mx_spotR, hrc.1.2.2 v x y hv hv' hx0 hx' hy0 hy', t2]
      refine ⟨by omega, k (_, _, _, _, _) ⟨t1, Or.inr ⟨by omega, ?_⟩⟩⟩
      show (if y < ly then y else ly) = r0 / 16
      rcases hf with ⟨h1, h2⟩ | ⟨h1, h2⟩
      · rw [if_pos (by omega)]; omega
      · rw [if_neg (by omega)]; exact h2
    · rw [if_neg (fun h => c (hlab.mp h))]
      refine k (lx, ly, hx, hy, su) ⟨tp_n hx0 hI c, ?_⟩
      rcases hf with ⟨h1, h2⟩ | ⟨h1, h2⟩
      · refine Or.inl ⟨?_, h2⟩
        refine Int.not_lt.mp (fun hlt => c ?_)
        have e1 : x = ax := by omega
        have e2 : y = ay := by omega
        subst e1; subst e2
        unfold sp_rt; rw [if_pos hak]; exact har
      · exact Or.inr ⟨by omega, h2⟩
  · rintro y ⟨lx, ly, hx, hy, su⟩ hy0 hy' ⟨hI, hf⟩ k
    dsimp only at hI hf
    show mk223_86_43 X Q u v (192 * v + r0) w0 r0 lx ly hx hy su y (μ 87 0) μ
    apply mh223_86_43
    rw [if_neg (Int.lt_irrefl _)]
    exact k (lx, ly, hx, hy, su) ⟨tp_y hy0 hI, by show (16 * (y + 1) + 0 ≤ r0 ∧ ly = 12) ∨ (r0 < 16 * (y + 1) + 0 ∧ ly = r0 / 16); omega⟩
end
