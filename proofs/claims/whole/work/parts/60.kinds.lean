/-! kinds by sight -/
def ac (v x d : Int) : Int := if v = 0 then x - d else x + d
/-- where it is seen, the other view's shift is near -/
def sp_sure (m : Int → Int) (v x y : Int) : Prop := sc_in m (ac v x (sp_sh m v x y)) y ∧ -(m 7) ≤ sp_sh m (1 - v) (ac v x (sp_sh m v x y)) y - sp_sh m v x y ∧ sp_sh m (1 - v) (ac v x (sp_sh m v x y)) y - sp_sh m v x y ≤ m 7
/-- by the shift d it is seen with that shift -/
def sp_seen (m : Int → Int) (v x y d : Int) : Prop := sc_in m (ac v x d) y ∧ sp_sh m (1 - v) (ac v x d) y = d
noncomputable def sp_k0 (m : Int → Int) (v x y : Int) : Int := @ite Int (sp_sure m v x y) (Classical.propDecidable _) 0 (@ite Int (∃ d, 0 ≤ d ∧ d ≤ m 2 ∧ sp_seen m v x y d) (Classical.propDecidable _) 1 2)
theorem sp_k0_0 {m : Int → Int} {v x y : Int} (h : sp_sure m v x y) : sp_k0 m v x y = 0 := by unfold sp_k0; exact if_pos h
theorem sp_k0_1 {m : Int → Int} {v x y d : Int} (h : ¬ sp_sure m v x y) (h1 : 0 ≤ d) (h2 : d ≤ m 2) (h3 : sp_seen m v x y d) : sp_k0 m v x y = 1 := by unfold sp_k0; rw [if_neg h, if_pos ⟨d, h1, h2, h3⟩]
theorem sp_k0_2 {m : Int → Int} {v x y : Int} (h : ¬ sp_sure m v x y) (h3 : ∀ d, 0 ≤ d → d ≤ m 2 → ¬ sp_seen m v x y d) : sp_k0 m v x y = 2 := by
  unfold sp_k0; rw [if_neg h, if_neg (fun ⟨d, h1, h2, h4⟩ => h3 d h1 h2 h4)]
theorem sp_k0_b {m : Int → Int} {v x y : Int} : 0 ≤ sp_k0 m v x y ∧ sp_k0 m v x y ≤ 2 := by
  unfold sp_k0; split
  · omega
  · split <;> omega
def mp18_71 (a0 a1 a2 : Int) (μ : mi_M) : Prop := sc_ok (sc_m μ) ∧ (0 ≤ a0 ∧ a0 ≤ 1) ∧ sc_in (sc_m μ) a1 a2 ∧ mp_is μ 72 (sc_m μ) (sp_sh (sc_m μ))
noncomputable def mv18_71 (a0 a1 a2 : Int) (μ : mi_M) : Int := sp_k0 (sc_m μ) a0 a1 a2
def mp208_86 (a0 a1 a2 : Int) (μ : mi_M) : Prop := sc_ok (μ 87) ∧ (0 ≤ a0 ∧ a0 ≤ 1) ∧ sc_in (μ 87) a1 a2 ∧ mp_is μ 95 (μ 87) (sp_sh (μ 87))
noncomputable def mv208_86 (a0 a1 a2 : Int) (μ : mi_M) : Int := sp_k0 (μ 87) a0 a1 a2
section
variable {X : mi_X} {Q : mi_R → mi_G → mi_M → Prop} {u : mi_U} {μ : mi_M}
theorem mx_seenT {v x y d : Int} (hm : sc_ok (sc_m μ)) (hv : 0 ≤ v) (hv' : v ≤ 1) (hs : mp_is μ 72 (sc_m μ) (sp_sh (sc_m μ))) (h : sc_in (sc_m μ) (ac v x d) y) : mp19_71 v x y d μ ∧ mv19_71 v x y d μ = sp_sh (sc_m μ) (1 - v) (ac v x d) y := by
  obtain ⟨⟨w1, w2⟩, ⟨g1, g2⟩, -⟩ := id hm
  unfold mp19_71 mv19_71
  rw [mi_wr_id (z := v) (by omega) (by omega)]
  obtain ⟨i1, i2, i3, i4⟩ := id h
  have e := hs (1 - v) (ac v x d) y (by omega) (by omega) i1 i2 i3 i4
  have hh := mx_hasT hm h
  unfold ac at e hh i1 i2
  by_cases c : v = 0
  · rw [if_pos c] at e hh i1 i2
    rw [if_pos c, if_pos c, hh, if_neg (by decide), if_neg (by decide), mx_spot i3 (by omega)]
    exact ⟨by omega, by unfold ac; rw [if_pos c]; exact e⟩
  · rw [if_neg c] at e hh i1 i2
    rw [if_neg c, if_neg c, hh, if_neg (by decide), if_neg (by decide), mx_spot i3 (by omega)]
    exact ⟨by omega, by unfold ac; rw [if_neg c]; exact e⟩
theorem mx_seenF {v x y d : Int} (hm : sc_ok (sc_m μ)) (hv : 0 ≤ v) (hv' : v ≤ 1) (hx : mx_R (ac v x d)) (hy : mx_R y) (h : ¬ sc_in (sc_m μ) (ac v x d) y) : mp19_71 v x y d μ ∧ mv19_71 v x y d μ = -1 := by
  unfold mp19_71 mv19_71
  rw [mi_wr_id (z := v) (by omega) (by omega)]
  have hh := mx_hasF hm hx hy h
  unfold ac at hh
  by_cases c : v = 0
  · rw [if_pos c] at hh
    rw [if_pos c, if_pos c, hh, if_pos (by decide), if_pos (by decide)]
    exact ⟨trivial, rfl⟩
  · rw [if_neg c] at hh
    rw [if_neg c, if_neg c, hh, if_pos (by decide), if_pos (by decide)]
    exact ⟨trivial, rfl⟩
theorem mc18_71 {a0 a1 a2 : Int} (hp : mp18_71 a0 a1 a2 μ) (hq : Q (.inl (some (.inl (mv18_71 a0 a1 a2 μ)))) mi_G0 μ) : mi_cok X 18 [(.inr (.inl (some 71))), (.inl a0), (.inl a1), (.inl a2)] mi_G0 μ u Q := by
  obtain ⟨hm, ⟨hv, hv'⟩, ⟨hx, hx', hy, hy'⟩, hs⟩ := hp
  obtain ⟨⟨w1, w2⟩, ⟨g1, g2⟩, ⟨f1, f2⟩, -, -, -, ⟨k1, k2⟩, -⟩ := id hm
  have s2 : μ 2 0 = sc_m μ 2 := (sc_m_c μ).2.2.1 0 (by decide) (by decide)
  have s7 : μ 2 5 = sc_m μ 7 := (sc_m_c μ).2.2.1 5 (by decide) (by decide)
  have hb := sp_sh_b hm a0 hx' a2
  have hac : ∀ d, 0 ≤ d → d ≤ 7 → mx_R (ac a0 a1 d) := fun d h1 h2 => by unfold ac mx_R; split <;> omega
  have hm1 : mi_wr (-1) = -1 := by decide
  have loop : ¬ sp_sure (sc_m μ) a0 a1 a2 → mk18_71_55 X Q u a0 a1 a2 0 μ := by
    intro hns
    refine qp_u (σ := Unit) (A := fun d _ => mk18_71_55 X Q u a0 a1 a2 d μ) (fun d _ => ∀ e, 0 ≤ e → e < d → ¬ sp_seen (sc_m μ) a0 a1 a2 e) (a := 0) (n := sc_m μ 2 + 1) (by omega) ?_ ?_ (s := ()) (fun e h1 h2 => by omega)
    · rintro - hI
      apply mh18_71_55
      rw [s2, mi_wr_id (by omega) (by omega), mi_wr_id (by omega) (by omega), if_pos (by omega)]
      have : mv18_71 a0 a1 a2 μ = 2 := sp_k0_2 hns (fun d h1 h2 => hI d h1 (by omega))
      rw [this] at hq; exact hq
    · rintro d - hd hd' hI k
      apply mh18_71_55
      rw [s2, mi_wr_id (z := sc_m μ 2) (by omega) (by omega), mi_wr_id (z := d) (by omega) (by omega), if_neg (by omega)]
      by_cases hc : sc_in (sc_m μ) (ac a0 a1 d) a2
      · obtain ⟨p1, p2⟩ := mx_seenT (μ := μ) hm hv hv' hs hc
        have hb2 := sp_sh_b hm (1 - a0) hc.2.1 a2
        rw [p2, mi_wr_id (z := sp_sh (sc_m μ) (1 - a0) (ac a0 a1 d) a2) (by omega) (by omega)]
        refine ⟨p1, ?_⟩
        by_cases e : sp_sh (sc_m μ) (1 - a0) (ac a0 a1 d) a2 = d
        · rw [if_pos e]
          have : mv18_71 a0 a1 a2 μ = 1 := sp_k0_1 hns hd (by omega) ⟨hc, e⟩
          rw [this] at hq; exact hq
        · rw [if_neg e]
          exact k () (fun e' h1 h2 => by
            by_cases ee : e' = d
            · subst ee; exact fun h => e h.2
            · exact hI e' h1 (by omega))
      · obtain ⟨p1, p2⟩ := mx_seenF (μ := μ) hm hv hv' (hac d hd (by omega)) ⟨by omega, by omega⟩ hc
        rw [p2, hm1, if_neg (by omega)]
        exact ⟨p1, k () (fun e' h1 h2 => by
            by_cases ee : e' = d
            · subst ee; exact fun h => hc h.1
            · exact hI e' h1 (by omega))⟩
  apply me18_71
  rw [mx_spot hy (by omega), hs a0 a1 a2 hv hv' hx hx' hy hy', s7, hm1]
  refine ⟨by omega, ?_⟩
  by_cases hc : sc_in (sc_m μ) (ac a0 a1 (sp_sh (sc_m μ) a0 a1 a2)) a2
  · obtain ⟨p1, p2⟩ := mx_seenT (μ := μ) hm hv hv' hs hc
    have hb2 := sp_sh_b hm (1 - a0) hc.2.1 a2
    rw [p2, mi_wr_id (z := sp_sh (sc_m μ) (1 - a0) (ac a0 a1 (sp_sh (sc_m μ) a0 a1 a2)) a2) (by omega) (by omega), if_neg (by omega), mx_abs ⟨by omega, by omega⟩]
    refine ⟨p1, ?_⟩
    rw [mi_wr_id (z := sc_m μ 7) (by omega) (by omega), mi_wr_id (by split <;> omega) (by split <;> omega)]
    by_cases e : sp_sure (sc_m μ) a0 a1 a2
    · obtain ⟨-, e1, e2⟩ := id e
      rw [if_neg (by split <;> omega)]
      have : mv18_71 a0 a1 a2 μ = 0 := sp_k0_0 e
      rw [this] at hq; exact hq
    · rw [if_pos]
      · exact loop e
      · have : ¬ (-(sc_m μ 7) ≤ sp_sh (sc_m μ) (1 - a0) (ac a0 a1 (sp_sh (sc_m μ) a0 a1 a2)) a2 - sp_sh (sc_m μ) a0 a1 a2 ∧ sp_sh (sc_m μ) (1 - a0) (ac a0 a1 (sp_sh (sc_m μ) a0 a1 a2)) a2 - sp_sh (sc_m μ) a0 a1 a2 ≤ sc_m μ 7) := fun h => e ⟨hc, h⟩
        split <;> omega
  · obtain ⟨p1, p2⟩ := mx_seenF (μ := μ) hm hv hv' (hac _ hb.1 (by omega)) ⟨by omega, by omega⟩ hc
    rw [p2, hm1, if_pos rfl]
    exact ⟨p1, loop (fun h => hc h.1)⟩
theorem mx_ac {v x d : Int} (hv : 0 ≤ v) (hv' : v ≤ 1) : mv207 v x d μ = ac v x d := by
  unfold mv207 ac; rw [mi_wr_id (z := v) (by omega) (by omega)]
theorem mc208_86 {a0 a1 a2 : Int} (hp : mp208_86 a0 a1 a2 μ) (hq : Q (.inl (some (.inl (mv208_86 a0 a1 a2 μ)))) mi_G0 μ) : mi_cok X 208 [(.inr (.inl (some 86))), (.inl a0), (.inl a1), (.inl a2)] mi_G0 μ u Q := by
  obtain ⟨hm, ⟨hv, hv'⟩, ⟨hx, hx', hy, hy'⟩, hs⟩ := hp
  obtain ⟨⟨w1, w2⟩, ⟨g1, g2⟩, ⟨f1, f2⟩, -, -, -, ⟨k1, k2⟩, -⟩ := id hm
  have hb := sp_sh_b hm a0 hx' a2
  have hac : ∀ d, 0 ≤ d → d ≤ 7 → mx_R (ac a0 a1 d) := fun d h1 h2 => by unfold ac mx_R; split <;> omega
  have loop : ¬ sp_sure (μ 87) a0 a1 a2 → mk208_86_79 X Q u a0 a1 a2 0 μ := by
    intro hns
    refine qp_u (σ := Unit) (A := fun d _ => mk208_86_79 X Q u a0 a1 a2 d μ) (fun d _ => ∀ e, 0 ≤ e → e < d → ¬ sp_seen (μ 87) a0 a1 a2 e) (a := 0) (n := μ 87 2 + 1) (by omega) ?_ ?_ (s := ()) (fun e h1 h2 => by omega)
    · rintro - hI
      apply mh208_86_79
      rw [mi_wr_id (by omega) (by omega), mi_wr_id (by omega) (by omega), if_pos (by omega)]
      have : mv208_86 a0 a1 a2 μ = 2 := sp_k0_2 hns (fun d h1 h2 => hI d h1 (by omega))
      rw [this] at hq; exact hq
    · rintro d - hd hd' hI k
      apply mh208_86_79
      rw [mi_wr_id (z := μ 87 2) (by omega) (by omega), mi_wr_id (z := d) (by omega) (by omega), if_neg (by omega), mx_ac hv hv', mx_spotR]
      by_cases hc : sc_in (μ 87) (ac a0 a1 d) a2
      · obtain ⟨i1, i2, i3, i4⟩ := id hc
        have hb2 := sp_sh_b hm (1 - a0) hc.2.1 a2
        rw [mx_placeT hm hc, if_neg (by decide), hs (1 - a0) _ a2 (by omega) (by omega) i1 i2 i3 i4, mi_wr_id (z := sp_sh (μ 87) (1 - a0) (ac a0 a1 d) a2) (by omega) (by omega)]
        refine ⟨by omega, ?_⟩
        by_cases e : sp_sh (μ 87) (1 - a0) (ac a0 a1 d) a2 = d
        · rw [if_pos e]
          have : mv208_86 a0 a1 a2 μ = 1 := sp_k0_1 hns hd (by omega) ⟨hc, e⟩
          rw [this] at hq; exact hq
        · rw [if_neg e]
          exact k () (fun e' h1 h2 => by
            by_cases ee : e' = d
            · subst ee; exact fun h => e h.2
            · exact hI e' h1 (by omega))
      · rw [mx_placeF hm (hac d hd (by omega)) ⟨by omega, by omega⟩ hc, if_pos (by decide)]
        exact k () (fun e' h1 h2 => by
            by_cases ee : e' = d
            · subst ee; exact fun h => hc h.1
            · exact hI e' h1 (by omega))
  apply me208_86
  simp only [mx_spotR]
  rw [hs a0 a1 a2 hv hv' hx hx' hy hy', mx_ac hv hv']
  refine ⟨by omega, ?_⟩
  by_cases hc : sc_in (μ 87) (ac a0 a1 (sp_sh (μ 87) a0 a1 a2)) a2
  · obtain ⟨i1, i2, i3, i4⟩ := id hc
    have hb2 := sp_sh_b hm (1 - a0) hc.2.1 a2
    rw [mx_placeT hm hc, if_neg (by decide), hs (1 - a0) _ a2 (by omega) (by omega) i1 i2 i3 i4, mx_withinM ⟨by omega, by omega⟩ ⟨by omega, by omega⟩ ⟨by omega, by omega⟩]
    refine ⟨by omega, ?_⟩
    by_cases e : sp_sure (μ 87) a0 a1 a2
    · rw [if_pos e.2, if_neg (by decide)]
      have : mv208_86 a0 a1 a2 μ = 0 := sp_k0_0 e
      rw [this] at hq; exact hq
    · rw [if_neg (fun h => e ⟨hc, h⟩), if_pos (by decide)]
      exact loop e
  · rw [mx_placeF hm (hac _ hb.1 (by omega)) ⟨by omega, by omega⟩ hc, if_pos (by decide)]
    exact loop (fun h => hc h.1)
end
