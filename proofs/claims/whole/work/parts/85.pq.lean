/-! pieces that stay, ranks -/
noncomputable def sp_keep (m : Int → Int) (v r : Int) : Prop := 0 < sz m v r ∧ m 8 ≤ sz m v r
/-- how many stay, ahead of r -/
noncomputable def sp_hs (m : Int → Int) (v : Int) : Nat → Int := sm (fun r => @ite Int (sp_keep m v r) (Classical.propDecidable _) 1 0)
def ahd (m : Int → Int) (v r o : Int) : Prop := sp_keep m v o ∧ (sz m v r < sz m v o ∨ sz m v o = sz m v r ∧ o < r)
noncomputable def sp_ah (m : Int → Int) (v r : Int) : Nat → Int := sm (fun o => @ite Int (ahd m v r o) (Classical.propDecidable _) 1 0)
/-- the first one such -/
noncomputable def fst_v (P : Int → Prop) : Nat → Int → Int
  | 0, _ => -1
  | n + 1, r => @ite Int (P r) (Classical.propDecidable _) r (fst_v P n (r + 1))
theorem fst_in {P : Int → Prop} {n : Nat} {r : Int} (h : P r) : fst_v P (n + 1) r = r := if_pos h
theorem fst_out {P : Int → Prop} {n : Nat} {r : Int} (h : ¬ P r) : fst_v P (n + 1) r = fst_v P n (r + 1) := if_neg h
theorem fst_s {P : Int → Prop} : ∀ (n : Nat) (r : Int), 0 ≤ r → (fst_v P n r = -1 ∧ ∀ o, r ≤ o → o < r + n → ¬ P o) ∨ (r ≤ fst_v P n r ∧ fst_v P n r < r + n ∧ P (fst_v P n r))
  | 0, r, hr => Or.inl ⟨rfl, fun o h1 h2 => by omega⟩
  | n + 1, r, hr => by
    by_cases h : P r
    · rw [fst_in h]; exact Or.inr ⟨by omega, by omega, h⟩
    · rw [fst_out h]
      rcases fst_s (P := P) n (r + 1) (by omega) with ⟨h1, h2⟩ | ⟨h1, h2, h3⟩
      · refine Or.inl ⟨h1, fun o h3 h4 => ?_⟩
        by_cases e : o = r
        · subst e; exact h
        · exact h2 o (by omega) (by omega)
      · exact Or.inr ⟨by omega, by omega, h3⟩
def rkP (m : Int → Int) (v i r : Int) : Prop := sp_keep m v r ∧ sp_ah m v r 192 = i
noncomputable def sp_rd (m : Int → Int) (v i : Int) : Int := fst_v (rkP m v i) 192 0
theorem hs_s {m : Int → Int} {v r : Int} (h : 0 ≤ r) : sp_hs m v (r + 1).toNat = sp_hs m v r.toNat + @ite Int (sp_keep m v r) (Classical.propDecidable _) 1 0 := by unfold sp_hs; rw [sm_s h]
theorem ah_s {m : Int → Int} {v r o : Int} (h : 0 ≤ o) : sp_ah m v r (o + 1).toNat = sp_ah m v r o.toNat + @ite Int (ahd m v r o) (Classical.propDecidable _) 1 0 := by unfold sp_ah; rw [sm_s h]
theorem ah_b {m : Int → Int} {v r : Int} (n : Nat) : 0 ≤ sp_ah m v r n ∧ sp_ah m v r n ≤ n := by
  have := sm_b (f := fun o => @ite Int (ahd m v r o) (Classical.propDecidable _) 1 0) (a := 1) (by decide) n (fun i _ _ => by split <;> omega)
  unfold sp_ah; omega
def mp57_76 (v : Int) (μ : mi_M) : Prop := sc_ok (sc_m μ) ∧ (0 ≤ v ∧ v ≤ 1) ∧ cpl μ (sc_m μ) v
noncomputable def mv57_76 (v : Int) (μ : mi_M) : Int := sp_hs (sc_m μ) v 192
def mp59_76 (v i : Int) (μ : mi_M) : Prop := mp57_76 v μ ∧ mx_R i
noncomputable def mv59_76 (v i : Int) (μ : mi_M) : Int := if sp_rd (sc_m μ) v i = -1 then -1 else rk (sc_m μ) v (sp_rd (sc_m μ) v i)
theorem e192 : (192 : Int).toNat = 192 := rfl
section
variable {X : mi_X} {Q : mi_R → mi_G → mi_M → Prop} {u : mi_U} {μ : mi_M} {v : Int}
theorem rk192 {m : Int → Int} {r : Int} (hr : 0 ≤ r) (hr' : r < 192) (hz : 0 < sz m v r) : rk m v r < rk m v 192 := rk_lt hr hr' hz
theorem mc57_76 (hp : mp57_76 v μ) (hq : Q (.inl (some (.inl (mv57_76 v μ)))) mi_G0 μ) : mi_cok X 57 [(.inr (.inl (some 76))), (.inl v)] mi_G0 μ u Q := by
  obtain ⟨hm, ⟨hv, hv'⟩, hc⟩ := hp
  have s8 : μ 2 6 = sc_m μ 8 := (sc_m_c μ).2.2.1 6 (by decide) (by decide)
  have rb := rk_b (m := sc_m μ) (v := v) (r := 192) (by decide)
  apply me57_76
  refine qp_u (A := fun r acc => mk57_76_4 X Q u v acc (rk (sc_m μ) v r) μ) (fun r acc => acc = sp_hs (sc_m μ) v r.toNat) (a := 0) (n := 192) (by omega) ?_ ?_ rfl
  · intro acc h
    rw [e192] at h
    apply mh57_76_4
    rw [hc.2.2, if_neg (Int.lt_irrefl _), h]
    exact ⟨by omega, hq⟩
  · rintro r acc hr hr' rfl k
    by_cases hz : 0 < sz (sc_m μ) v r
    · have h1 := rk192 hr hr' hz
      have h2 := rk_b (m := sc_m μ) (v := v) hr
      have k' : ∀ z, z = sp_hs (sc_m μ) v (r + 1).toNat → mk57_76_4 X Q u v z (rk (sc_m μ) v r + 1) μ := fun z hzz => by
        have := k z hzz
        rw [rk_s hr, if_pos hz] at this; exact this
      obtain ⟨p1, p2⟩ := mx_stays hm hv hv' hc s8 hr hr' hz
      apply mh57_76_4
      rw [hc.2.2, mi_wr_id (by omega) (by omega), mi_wr_id (by omega) (by omega), if_pos h1, p2]
      refine ⟨by omega, p1, k' _ ?_⟩
      rw [hs_s hr]
      by_cases c : sz (sc_m μ) v r < sc_m μ 8
      · rw [if_pos c, if_pos w_00, if_neg (fun h => by have := h.2; omega)]
      · rw [if_neg c, if_neg w_10, if_pos ⟨hz, by omega⟩]
    · have := k (sp_hs (sc_m μ) v r.toNat) (by rw [hs_s hr, if_neg (fun h => hz h.1), Int.add_zero])
      rw [rk_s hr, if_neg hz, Int.add_zero] at this
      exact this
theorem mc60_76 {r0 : Int} (hp : mp57_76 v μ) (h0 : 0 ≤ r0) (h0' : r0 < 192) (hk : sp_keep (sc_m μ) v r0) (hq : Q (.inl (some (.inl (sp_ah (sc_m μ) v r0 192)))) mi_G0 μ) : mi_cok X 60 [(.inr (.inl (some 76))), (.inl v), (.inl (rk (sc_m μ) v r0))] mi_G0 μ u Q := by
  obtain ⟨hm, ⟨hv, hv'⟩, hc⟩ := hp
  have rb := rk_b (m := sc_m μ) (v := v) (r := 192) (by decide)
  have rb0 := rk_b (m := sc_m μ) (v := v) h0
  have zb0 := sz_le hm v r0
  have hz0 := hk.1
  have e78 : ∀ r, 0 ≤ r → r < 192 → 0 < sz (sc_m μ) v r → μ 78 (v * 192 + rk (sc_m μ) v r) = sz (sc_m μ) v r := fun r h1 h2 h3 => by
    rw [show v * 192 + rk (sc_m μ) v r = 192 * v + rk (sc_m μ) v r by omega]; exact hc.2.1 r h1 h2 h3
  apply me60_76
  rw [e78 r0 h0 h0' hk.1]
  refine ⟨by omega, ?_⟩
  refine qp_u (A := fun r acc => mk60_76_19 X Q u v (rk (sc_m μ) v r0) (sz (sc_m μ) v r0) acc (rk (sc_m μ) v r) μ) (fun r acc => acc = sp_ah (sc_m μ) v r0 r.toNat) (a := 0) (n := 192) (by omega) ?_ ?_ rfl
  · intro acc h
    rw [e192] at h
    apply mh60_76_19
    rw [hc.2.2, if_neg (Int.lt_irrefl _), h]
    exact ⟨by omega, hq⟩
  · rintro r acc hr hr' rfl k
    by_cases hz : 0 < sz (sc_m μ) v r
    · have h1 := rk192 hr hr' hz
      have h2 := rk_b (m := sc_m μ) (v := v) hr
      have zb := sz_le hm v r
      have k' : ∀ z, z = sp_ah (sc_m μ) v r0 (r + 1).toNat → mk60_76_19 X Q u v (rk (sc_m μ) v r0) (sz (sc_m μ) v r0) z (rk (sc_m μ) v r + 1) μ := fun z hzz => by
        have := k z hzz
        rw [rk_s hr, if_pos hz] at this; exact this
      have hlt : rk (sc_m μ) v r < rk (sc_m μ) v r0 ↔ r < r0 := ⟨fun h => Int.not_le.mp (fun h' => by
          have := rk_le (m := sc_m μ) (v := v) h0 h'; omega), fun h => rk_lt hr h hz⟩
      apply mh60_76_19
      rw [hc.2.2, e78 r hr hr' hz, mi_wr_id (z := rk (sc_m μ) v r) (by omega) (by omega), mi_wr_id (z := rk (sc_m μ) v 192) (by omega) (by omega), if_pos h1, mi_wr_id (z := sz (sc_m μ) v r0) (by omega) (by omega), mi_wr_id (z := sz (sc_m μ) v r) (by omega) (by omega), mi_wr_id (z := rk (sc_m μ) v r0) (by omega) (by omega)]
      refine ⟨by omega, by omega, k' _ ?_⟩
      rw [ah_s hr]
      have hk2 := hk.2
      by_cases c : sz (sc_m μ) v r0 < sz (sc_m μ) v r
      · rw [if_pos c, if_pos (show ahd (sc_m μ) v r0 r from ⟨⟨hz, by omega⟩, Or.inl c⟩)]
      · rw [if_neg c]
        by_cases c2 : sz (sc_m μ) v r = sz (sc_m μ) v r0
        · rw [if_pos c2]
          by_cases c3 : r < r0
          · rw [if_pos (hlt.mpr c3), if_pos (show ahd (sc_m μ) v r0 r from ⟨⟨hz, by omega⟩, Or.inr ⟨c2, c3⟩⟩)]
          · rw [if_neg (fun h => c3 (hlt.mp h)), if_neg (show ¬ ahd (sc_m μ) v r0 r from fun h => h.2.elim (fun h => c h) (fun h => c3 h.2))]
        · rw [if_neg c2, if_neg (show ¬ ahd (sc_m μ) v r0 r from fun h => h.2.elim (fun h => c h) (fun h => c2 h.1))]
    · have := k (sp_ah (sc_m μ) v r0 r.toNat) (by rw [ah_s hr, if_neg (show ¬ ahd (sc_m μ) v r0 r from fun h => hz h.1.1), Int.add_zero])
      rw [rk_s hr, if_neg hz, Int.add_zero] at this
      exact this
theorem mc59_76 {i : Int} (hp : mp59_76 v i μ) (hq : Q (.inl (some (.inl (mv59_76 v i μ)))) mi_G0 μ) : mi_cok X 59 [(.inr (.inl (some 76))), (.inl v), (.inl i)] mi_G0 μ u Q := by
  obtain ⟨hp, hi⟩ := hp
  obtain ⟨hm, ⟨hv, hv'⟩, hc⟩ := id hp
  have s8 : μ 2 6 = sc_m μ 8 := (sc_m_c μ).2.2.1 6 (by decide) (by decide)
  have rb := rk_b (m := sc_m μ) (v := v) (r := 192) (by decide)
  apply me59_76
  refine qp_u (σ := Unit) (A := fun r _ => mk59_76_2 X Q u v i (rk (sc_m μ) v r) μ) (fun r _ => sp_rd (sc_m μ) v i = fst_v (rkP (sc_m μ) v i) (192 - r).toNat r) (a := 0) (n := 192) (by omega) ?_ ?_ (s := ()) rfl
  · rintro - he
    rw [show ((192 : Int) - 192).toNat = 0 from rfl] at he
    have he' : sp_rd (sc_m μ) v i = -1 := he
    have : mv59_76 v i μ = -1 := by unfold mv59_76; rw [if_pos he']
    rw [this] at hq
    apply mh59_76_2
    rw [hc.2.2, if_neg (Int.lt_irrefl _)]
    exact ⟨by omega, hq⟩
  · rintro r - hr hr' he k
    rw [show (192 - r).toNat = (191 - r).toNat + 1 by omega] at he
    have next : ¬ rkP (sc_m μ) v i r → sp_rd (sc_m μ) v i = fst_v (rkP (sc_m μ) v i) (192 - (r + 1)).toNat (r + 1) := fun h => by
      rw [he, fst_out h, show (192 - (r + 1)).toNat = (191 - r).toNat by omega]
    by_cases hz : 0 < sz (sc_m μ) v r
    · have h1 := rk192 hr hr' hz
      have h2 := rk_b (m := sc_m μ) (v := v) hr
      have k' : ¬ rkP (sc_m μ) v i r → mk59_76_2 X Q u v i (rk (sc_m μ) v r + 1) μ := fun h => by
        have := k () (next h)
        rw [rk_s hr, if_pos hz] at this; exact this
      obtain ⟨p1, p2⟩ := mx_stays hm hv hv' hc s8 hr hr' hz
      apply mh59_76_2
      rw [hc.2.2, mi_wr_id (by omega) (by omega), mi_wr_id (by omega) (by omega), if_pos h1, p2]
      refine ⟨by omega, p1, ?_⟩
      by_cases c : sz (sc_m μ) v r < sc_m μ 8
      · rw [if_pos c, if_pos w_00]
        exact k' (fun h => by have := h.1.2; omega)
      · rw [if_neg c, if_neg w_10]
        have hk : sp_keep (sc_m μ) v r := ⟨hz, by omega⟩
        have ab := ah_b (m := sc_m μ) (v := v) (r := r) 192
        refine fun Q_ hQ => mc60_76 hp hr hr' hk (hQ _ _ ?_)
        generalize hA : sp_ah (sc_m μ) v r 192 = A at ab ⊢
        rw [mi_wr_id (by omega) (by omega), mx_wr hi]
        by_cases c2 : A = i
        · rw [if_pos c2]
          have e : sp_rd (sc_m μ) v i = r := by rw [he, fst_in ⟨hk, hA.trans c2⟩]
          have : mv59_76 v i μ = rk (sc_m μ) v r := by unfold mv59_76; rw [e, if_neg (by omega)]
          rw [this] at hq; exact hq
        · rw [if_neg c2]
          exact k' (fun h => c2 (hA.symm.trans h.2))
    · have := k () (next (fun h => hz h.1.1))
      rw [rk_s hr, if_neg hz, Int.add_zero] at this
      exact this
end
/-! the greatest of those that stay -/
noncomputable def gm_v (m : Int → Int) (v : Int) : Nat → Int
  | 0 => 0
  | n + 1 => @ite Int (sp_keep m v n ∧ gm_v m v n < sz m v n) (Classical.propDecidable _) (sz m v n) (gm_v m v n)
theorem gm_s {m : Int → Int} {v r : Int} (h : 0 ≤ r) : gm_v m v (r + 1).toNat = @ite Int (sp_keep m v r ∧ gm_v m v r.toNat < sz m v r) (Classical.propDecidable _) (sz m v r) (gm_v m v r.toNat) := by
  obtain ⟨n, rfl⟩ := Int.eq_ofNat_of_zero_le h
  rw [show ((n : Int) + 1).toNat = n + 1 by omega, show ((n : Int)).toNat = n by omega]
  rfl
theorem gm_p {m : Int → Int} {v : Int} : ∀ n : Nat, (gm_v m v n = 0 ∨ ∃ r : Int, 0 ≤ r ∧ r < n ∧ sp_keep m v r ∧ sz m v r = gm_v m v n) ∧ ∀ r : Int, 0 ≤ r → r < n → sp_keep m v r → sz m v r ≤ gm_v m v n
  | 0 => ⟨Or.inl rfl, fun r h1 h2 => by omega⟩
  | n + 1 => by
    obtain ⟨h1, h2⟩ := gm_p (m := m) (v := v) n
    by_cases c : sp_keep m v n ∧ gm_v m v n < sz m v n
    · have e : gm_v m v (n + 1) = sz m v n := if_pos c
      rw [e]
      refine ⟨Or.inr ⟨n, by omega, by omega, c.1, rfl⟩, fun r g1 g2 g3 => ?_⟩
      by_cases ee : r = n
      · subst ee; exact Int.le_refl _
      · have := h2 r g1 (by omega) g3
        have := c.2
        omega
    · have e : gm_v m v (n + 1) = gm_v m v n := if_neg c
      rw [e]
      refine ⟨h1.elim Or.inl (fun ⟨r, g1, g2, g3⟩ => Or.inr ⟨r, g1, by omega, g3⟩), fun r g1 g2 g3 => ?_⟩
      by_cases ee : r = n
      · subst ee; exact Int.not_lt.mp (fun h => c ⟨g3, h⟩)
      · exact h2 r g1 (by omega) g3
theorem gm_b {m : Int → Int} (hm : sc_ok m) {v : Int} (n : Nat) : 0 ≤ gm_v m v n ∧ gm_v m v n ≤ 192 := by
  rcases (gm_p (m := m) (v := v) n).1 with h | ⟨r, h1, h2, h3, h4⟩
  · omega
  · have := sz_le hm v r
    have := h3.1
    omega
/-- the first in rank is as great as any -/
theorem gm_rd {m : Int → Int} {v : Int} : (sp_rd m v 0 = -1 → gm_v m v 192 = 0) ∧ (sp_rd m v 0 ≠ -1 → (0 ≤ sp_rd m v 0 ∧ sp_rd m v 0 < 192) ∧ sp_keep m v (sp_rd m v 0) ∧ sz m v (sp_rd m v 0) = gm_v m v 192) := by
  obtain ⟨h1, h2⟩ := gm_p (m := m) (v := v) 192
  have hf := fst_s (P := rkP m v 0) 192 0 (by decide)
  have hnone : ∀ r, 0 ≤ r → r < 192 → sp_keep m v r → sp_ah m v r 192 = 0 → sz m v r = gm_v m v 192 := by
    intro r g1 g2 g3 g4
    have g5 := h2 r g1 (by omega) g3
    refine Int.le_antisymm g5 (Int.not_lt.mp (fun hlt => ?_))
    rcases h1 with h1 | ⟨o, o1, o2, o3, o4⟩
    · have := g3.1; omega
    · have := sm_ge (f := fun o => @ite Int (ahd m v r o) (Classical.propDecidable _) 1 0) (k := o) 192 (fun i _ _ => by split <;> omega) o1 (by omega)
      rw [if_pos (show ahd m v r o from ⟨o3, Or.inl (by omega)⟩)] at this
      have e : sm (fun o => @ite Int (ahd m v r o) (Classical.propDecidable _) 1 0) 192 = sp_ah m v r 192 := rfl
      omega
  refine ⟨fun he => ?_, fun he => ?_⟩
  · rcases h1 with h1 | ⟨o, o1, o2, o3, o4⟩
    · exact h1
    · exfalso
      obtain ⟨k, ⟨k1, k2, k3⟩, k4⟩ := least_nat (P := fun n : Nat => (n : Int) < 192 ∧ sp_keep m v n ∧ sz m v n = gm_v m v 192) o.toNat (by rw [show (o.toNat : Int) = o by omega]; exact ⟨by omega, o3, o4⟩)
      have ha : sp_ah m v k 192 = 0 := by
        refine sm_z 192 (fun p p1 p2 => if_neg (fun hh => ?_))
        have := h2 p p1 p2 hh.1
        rcases hh.2 with h | ⟨h, h'⟩
        · omega
        · have := k4 p.toNat (by rw [show (p.toNat : Int) = p by omega]; exact ⟨by omega, hh.1, by omega⟩)
          omega
      rcases hf with ⟨f1, f2⟩ | ⟨f1, f2, f3⟩
      · exact f2 k (by omega) (by omega) ⟨k2, ha⟩
      · have : sp_rd m v 0 = fst_v (rkP m v 0) 192 0 := rfl
        omega
  · rcases hf with ⟨f1, f2⟩ | ⟨f1, f2, f3⟩
    · exact absurd f1 he
    · exact ⟨⟨f1, by show fst_v (rkP m v 0) 192 0 < 192; omega⟩, f3.1, hnone _ f1 (by show fst_v (rkP m v 0) 192 0 < 192; omega) f3.1 f3.2⟩
