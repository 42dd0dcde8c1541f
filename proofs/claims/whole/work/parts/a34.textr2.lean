/-! TEXTS, by the reference: whole -/
section
variable {X : mi_X} {Q : mi_R → mi_G → mi_M → Prop} {μ : mi_M}
theorem kpr_pre {ρ ν : mi_M} (e3 : ρ 86 3 = μ 86 3) (e87 : ρ 87 = μ 87) (e88 : ρ 88 = μ 88) (h : kpr ρ ν) : kpr μ ν := by
  obtain ⟨k1, k2⟩ := h
  refine ⟨by rw [← e3]; exact k1, fun a j h1 h2 h3 h4 => ?_⟩
  have := k2 a j h1 h2 h3 h4
  unfold pr_ at this ⊢
  rw [e87, e88, e3] at this
  exact this
def s9 (ν : mi_M) : mi_M := mi_set (mi_set (mi_set (mi_set (mi_set (mi_set (mi_set (mi_set (mi_set ν 91 1 (ν 86 14)) 91 2 3) 91 3 1) 91 4 2) 91 5 6) 91 6 255) 91 7 1) 91 8 (ν 87 8)) 91 9 (ν 87 9)
theorem s9_f (ν : mi_M) : fr_l [91] ν (s9 ν) := fr_ls (fr_ls (fr_ls (fr_ls (fr_ls (fr_ls (fr_ls (fr_ls (fr_ls (fr_lr _ _) (by decide) _ _) (by decide) _ _) (by decide) _ _) (by decide) _ _) (by decide) _ _) (by decide) _ _) (by decide) _ _) (by decide) _ _) (by decide) _ _
theorem s9_v (ν : mi_M) (j : Int) : s9 ν 91 j = if j = 9 then ν 87 9 else if j = 8 then ν 87 8 else if j = 7 then 1 else if j = 6 then 255 else if j = 5 then 6 else if j = 4 then 2 else if j = 3 then 1 else if j = 2 then 3 else if j = 1 then ν 86 14 else ν 91 j := by
  unfold s9
  rw [ms_same, ms_same, ms_same, ms_same, ms_same, ms_same, ms_same, ms_same, ms_same]
theorem RT_no {j : Int} (h : j ∉ RT) : j ∉ RF ∧ j ≠ 0 ∧ j ≠ 3 ∧ j ≠ 7 ∧ j ≠ 8 := by
  simp only [List.mem_cons, List.not_mem_nil, or_false, not_or] at h
  refine ⟨?_, by omega, by omega, by omega, by omega⟩
  simp only [List.mem_cons, List.not_mem_nil, or_false, not_or]
  omega
theorem mc168_86 {a0 : Int} (hp : mp168_86 a0 μ) (hq : ∀ r ν, mq168_86 a0 μ r ν → Q (.inl (some (.inl r))) mi_G0 ν) : mi_cok X 168 [(.inr (.inl (some 86))), (.inl a0)] mi_G0 μ (988, 6916) Q := by
  obtain ⟨hm, hk, ⟨b1, b2⟩, hr⟩ := hp
  obtain ⟨-, -, -, -, -, -, -, hl8, hf9, -⟩ := id hm
  apply me168_86
  rw [mx_withinM hr (by unfold mx_R; omega) (by unfold mx_R; omega)]
  by_cases c : 0 ≤ a0 ∧ a0 ≤ μ 86 7
  · rw [if_pos c, if_neg w_10]
    have F : fr_l [86] μ (mi_set (mi_set (mi_set (mi_set (mi_set μ 86 0 0) 86 8 a0) 86 7 0) 86 10 0) 86 12 0) := fr_ls (fr_ls (fr_ls (fr_ls (fr_ls (fr_lr _ _) (by decide) _ _) (by decide) _ _) (by decide) _ _) (by decide) _ _) (by decide) _ _
    have V : ∀ j, mi_set (mi_set (mi_set (mi_set (mi_set μ 86 0 0) 86 8 a0) 86 7 0) 86 10 0) 86 12 0 86 j = if j = 12 then 0 else if j = 10 then 0 else if j = 7 then 0 else if j = 8 then a0 else if j = 0 then 0 else μ 86 j := fun j => by rw [ms_same, ms_same, ms_same, ms_same, ms_same]
    revert F V
    generalize mi_set (mi_set (mi_set (mi_set (mi_set μ 86 0 0) 86 8 a0) 86 7 0) 86 10 0) 86 12 0 = σ
    intro F V
    have v12 : σ 86 12 = 0 := V 12
    have v10 : σ 86 10 = 0 := V 10
    have v7 : σ 86 7 = 0 := V 7
    have v8 : σ 86 8 = a0 := V 8
    have v0 : σ 86 0 = 0 := V 0
    have v3 : σ 86 3 = μ 86 3 := V 3
    have vo : ∀ j, j ∉ RT → σ 86 j = μ 86 j := fun j hj => by
      simp only [List.mem_cons, List.not_mem_nil, or_false, not_or] at hj
      rw [V j, if_neg (by omega), if_neg (by omega), if_neg (by omega), if_neg (by omega), if_neg (by omega)]
    have e90 : σ 90 = μ 90 := F 90 (by decide)
    -- ends
    have fin0 : ∀ (u' : mi_U) (l : Int) (ν : mi_M), fr_l [86, 91, 104] σ ν → (∀ j, j ∉ RF → ν 86 j = σ 86 j) → (txs (byt (μ 90)) a0 (μ 87 8) (μ 87 9)).1 ≠ 0 → ν 86 12 = (txs (byt (μ 90)) a0 (μ 87 8) (μ 87 9)).1 → mk168_86_257 X Q u' 0 l ν := fun u' l ν hf ho hz he => by
      refine rx_end (Or.inl rfl) (by unfold mp148_86; rw [ho 3 (by decide), v3]; exact hk) (fun _ => ?_) (fun h => by omega)
      rw [he]
      refine hq _ _ ⟨fun h => absurd c h, fun _ => ⟨fun j hj => by rw [ho j (RT_no hj).1, vo j hj], by rw [ho 0 (by decide), v0], by rw [ho 7 (by decide), v7], fun _ => ⟨rfl, fr_lt (fr_lm F rfl) hf, by rw [ho 3 (by decide), v3]⟩, fun h => absurd h hz⟩⟩
    have fin1 : ∀ (u' : mi_U) (l : Int) (ν : mi_M), fr_l [86, 91, 104] σ ν → (∀ j, j ∉ RF → ν 86 j = σ 86 j) → (txs (byt (μ 90)) a0 (μ 87 8) (μ 87 9)).1 = 0 → l = (txs (byt (μ 90)) a0 (μ 87 8) (μ 87 9)).2.1 → rel (ν 91) (txs (byt (μ 90)) a0 (μ 87 8) (μ 87 9)).2.2 → mk168_86_257 X Q u' 1 l ν := fun u' l ν hf ho hz hl hrel => by
      have e3 : ν 86 3 = μ 86 3 := by rw [ho 3 (by decide), v3]
      have e87 : ν 87 = μ 87 := (hf 87 (by decide)).trans (F 87 (by decide))
      have e88 : ν 88 = μ 88 := (hf 88 (by decide)).trans (F 88 (by decide))
      refine rx_end (Or.inr rfl) (by unfold mp148_86; rw [e3]; exact hk) (fun h => by omega) (fun _ ω g1 g2 g3 g4 => ?_)
      refine hq _ _ ⟨fun h => absurd c h, fun _ => ⟨fun j hj => by rw [g2 j (RT_no hj).2.2.1, ho j (RT_no hj).1, vo j hj], by rw [g2 0 (by decide), ho 0 (by decide), v0], by rw [g2 7 (by decide), ho 7 (by decide), v7], fun h => absurd hz h, fun _ => ⟨hl, fr_lt (fr_lt (fr_lm F rfl) (fr_lm hf rfl)) (fr_lm g1 rfl), kpr_pre e3 e87 e88 g3, fun j => ?_⟩⟩⟩
      rw [g4 j, e87]
      by_cases d : 0 ≤ j ∧ j < 394
      · rw [if_pos d, if_pos d]; exact hrel j d.1 d.2
      · rw [if_neg d, if_neg d]
    have bad : ∀ (u' : mi_U) (ν : mi_M), fr_l [86, 91, 104] σ ν → (∀ j, j ∉ RF → ν 86 j = σ 86 j) → (txs (byt (μ 90)) a0 (μ 87 8) (μ 87 9)).1 ≠ 0 → ν 86 12 = (txs (byt (μ 90)) a0 (μ 87 8) (μ 87 9)).1 → mk168_86_209 X Q u' 0 0 (s9 ν) := fun u' ν hf ho hz he => by
      have e86 : s9 ν 86 = ν 86 := s9_f ν 86 (by decide)
      apply mh168_86_209
      rw [if_pos w_00, if_pos w_00]
      exact fin0 u' 0 (s9 ν) (fr_lt hf (fr_lm (s9_f ν) rfl)) (fun j hj => by rw [e86]; exact ho j hj) hz (by rw [e86]; exact he)
    have hP : RP σ := ⟨⟨by omega, by omega, by omega⟩, v12⟩
    refine ⟨RP_158 hP, fun μ0 h0 => ?_⟩
    obtain ⟨f1, f2, f3, f4, f5, f6⟩ := rp_on hP h0
    rw [e90, v8, v10] at f4
    rw [v8] at f5
    rw [e90] at f6
    -- the row emptied
    refine qp_u (A := fun k ρ => mk168_86_45 X Q (988, 6916) k ρ) (fun k ρ => ρ = mi_row μ0 91 (fl (fun _ => 0) (μ0 91) 0 k)) (a := 0) (n := 394) (by decide) ?_ ?_ (fl_0 _ _ _ _).symm
    · rintro ρ rfl
      have g0 : fr_l [91] μ0 (mi_row μ0 91 (fl (fun _ => 0) (μ0 91) 0 394)) := fun q hq => by
        simp only [List.mem_cons, List.not_mem_nil, or_false] at hq
        exact mr_other _ hq _
      have g91 : ∀ j, 0 ≤ j → j < 394 → mi_row μ0 91 (fl (fun _ => 0) (μ0 91) 0 394) 91 j = 0 := fun j h1 h2 => by rw [mr_same, fl_in h1 h2]
      apply mh168_86_45
      rw [if_neg (by decide)]
      revert g0 g91
      generalize mi_row μ0 91 (fl (fun _ => 0) (μ0 91) 0 394) = ρ
      intro g0 g91
      have r86 : ρ 86 = μ0 86 := g0 86 (by decide)
      have r90 : ρ 90 = μ 90 := (g0 90 (by decide)).trans f6
      have hR : RR ρ := RR_fr r86 (r90.trans f6.symm) f3
      have fρ : fr_l [86, 91, 104] σ ρ := fr_lt (fr_lm f1 rfl) (fr_lm g0 rfl)
      have oρ : ∀ j, j ∉ RF → ρ 86 j = σ 86 j := fun j hj => by rw [r86]; exact f2 j hj
      refine ⟨⟨by decide, by decide⟩, ⟨RR_t hR, by rw [hR.2.2.1]; exact kd_b, by unfold c8; omega, by unfold c8; omega, by unfold c8; omega, by unfold c8; omega, by unfold c8; omega, by unfold c8; omega, by unfold c8; omega⟩, fun v0' ρ0 ⟨k0, j0⟩ => ?_⟩
      have q86 : ρ0 86 = ρ 86 := k0 86 (by decide)
      have q90 : ρ0 90 = μ 90 := (k0 90 (by decide)).trans r90
      have hR0 : RR ρ0 := RR_fr q86 (q90.trans r90.symm) hR
      have fρ0 : fr_l [86, 91, 104] σ ρ0 := fr_lt fρ (fr_lm k0 rfl)
      have oρ0 : ∀ j, j ∉ RF → ρ0 86 j = σ 86 j := fun j hj => by rw [q86]; exact oρ j hj
      have q9 : ρ0 86 9 = tS (byt (μ 90)) a0 0 := by rw [q86, r86]; exact f4
      have q8 : ρ0 86 8 = a0 := by rw [q86, r86]; exact f5
      have hw := wd_iff (μ := ρ) (w := wd1020) (m := 3) rfl (by decide) (by decide) hR
      rw [r90, show ρ 86 9 = tS (byt (μ 90)) a0 0 by rw [r86]; exact f4, show ρ 86 8 = a0 by rw [r86]; exact f5] at hw
      unfold txs lsz at fin0 fin1 bad
      rcases j0 with ⟨w7t, rfl⟩ | ⟨w7f, rfl⟩
      · -- the word is there
        have hsz : isw (byt (μ 90)) (tS (byt (μ 90)) a0 0) (tE (byt (μ 90)) a0 (tS (byt (μ 90)) a0 0)) wd1020 = true := by
          refine hw.mp ?_
          have := w7t
          unfold w7 at this
          rw [r90, show ρ 86 9 = tS (byt (μ 90)) a0 0 by rw [r86]; exact f4] at this
          exact this
        rw [if_pos hsz] at fin0 fin1 bad
        rw [if_neg w_10]
        have ru := isw_run (by decide) hsz
        have q10 : ρ0 86 10 = tE (byt (μ 90)) a0 (tS (byt (μ 90)) a0 0) := by rw [hR0.2.1, q90, q8, q9, rE_run ru.1 ru.2]
        refine ⟨⟨RR_P hR0, by decide, by unfold mx_R; omega, by unfold mx_R; omega⟩, fun v1 ρ1 ⟨h1, h1n⟩ => ?_⟩
        rw [q90, q8, q10] at h1 h1n
        obtain ⟨l1, l2, l3⟩ := h1
        rw [q90, q8] at l3
        have fρ1 : fr_l [86, 91, 104] σ ρ1 := fr_lt fρ0 l1
        have oρ1 : ∀ j, j ∉ RF → ρ1 86 j = σ 86 j := fun j hj => by rw [l2 j hj]; exact oρ0 j hj
        rcases l3 with ⟨d, rfl, d1, d2, d3⟩ | ⟨d, rfl, d1⟩
        · rw [if_neg w_10]
          have d' : nF (byt (μ 90)) a0 (tS (byt (μ 90)) a0 (tE (byt (μ 90)) a0 (tS (byt (μ 90)) a0 0))) 3 16 = 0 := d
          rw [if_pos d'] at fin0 fin1 bad
          have n1 := h1n rfl
          have d2' : ρ1 86 9 = tS (byt (μ 90)) a0 (tE (byt (μ 90)) a0 (tS (byt (μ 90)) a0 (tE (byt (μ 90)) a0 (tS (byt (μ 90)) a0 0)))) := d2
          refine ⟨⟨d3, by unfold mx_R; omega, by unfold mx_R; omega⟩, fun v2 ρ2 ⟨t1, t2, t3⟩ => ?_⟩
          have p90 : ρ1 90 = μ 90 := (l1 90 (by decide)).trans q90
          have p8 : ρ1 86 8 = a0 := by rw [l2 8 (by decide)]; exact q8
          rw [p90, p8, d2'] at t3
          have fρ2 : fr_l [86, 91, 104] σ ρ2 := fr_lt fρ1 (fr_lm t1 rfl)
          have oρ2 : ∀ j, j ∉ RF → ρ2 86 j = σ 86 j := fun j hj => by rw [t2 j hj]; exact oρ1 j hj
          rcases t3 with ⟨e, rfl, e1, e2, e3⟩ | ⟨e, rfl, e1⟩
          · rw [if_neg w_10]
            dsimp only at fin0 fin1
            rw [if_pos e] at fin0 fin1
            -- lines
            have x86 : s9 ρ2 86 = ρ2 86 := s9_f ρ2 86 (by decide)
            have x90 : s9 ρ2 90 = μ 90 := (s9_f ρ2 90 (by decide)).trans ((t1 90 (by decide)).trans p90)
            have y87 : ρ2 87 = μ 87 := (fρ2 87 (by decide)).trans (F 87 (by decide))
            have w_is := nF_0 (B := byt (μ 90)) (n := a0) (by have := tS_b (B := byt (μ 90)) (n := a0) (p := 0) c.1; have := tE_b (B := byt (μ 90)) (n := a0) (p := tS (byt (μ 90)) a0 0) this.2.1; have := tS_b (B := byt (μ 90)) (n := a0) (p := tE (byt (μ 90)) a0 (tS (byt (μ 90)) a0 0)) this.2.1; omega) d'
            have T0 := tSE (B := byt (μ 90)) (n := a0) (p := 0) c.1
            have T1 := tSE (B := byt (μ 90)) (n := a0) T0.2.2.2
            have T2 := tSE (B := byt (μ 90)) (n := a0) T1.2.2.2
            have h_is := nF_0 (B := byt (μ 90)) (n := a0) (by omega) e
            have hrel : rel (s9 ρ2 91) (szf (nN (byt (μ 90)) a0 (tS (byt (μ 90)) a0 (tE (byt (μ 90)) a0 (tS (byt (μ 90)) a0 0)))) (nN (byt (μ 90)) a0 (tS (byt (μ 90)) a0 (tE (byt (μ 90)) a0 (tS (byt (μ 90)) a0 (tE (byt (μ 90)) a0 (tS (byt (μ 90)) a0 0)))))) (tm 0 0 (μ 87 8) (μ 87 9))) := fun j j1 j2 => by
              have z91 : ρ2 91 = vlf 0 (nN (byt (μ 90)) a0 (tS (byt (μ 90)) a0 (tE (byt (μ 90)) a0 (tS (byt (μ 90)) a0 0)))) (ρ0 91) := by
                rw [t1 91 (by decide), d1]; rfl
              rw [s9_v, szf_tm, e1, y87]
              unfold tm
              by_cases i9 : j = 9
              · subst i9; rfl
              by_cases i8 : j = 8
              · subst i8; rfl
              by_cases i7 : j = 7
              · subst i7; rfl
              by_cases i6 : j = 6
              · subst i6; rfl
              by_cases i5 : j = 5
              · subst i5; rfl
              by_cases i4 : j = 4
              · subst i4; rfl
              by_cases i3 : j = 3
              · subst i3; rfl
              by_cases i2 : j = 2
              · subst i2; rfl
              by_cases i1 : j = 1
              · subst i1; rfl
              rw [if_neg i9, if_neg i8, if_neg i7, if_neg i6, if_neg i5, if_neg i4, if_neg i3, if_neg i2, if_neg i1, z91]
              by_cases i0 : j = 0
              · subst i0; rfl
              · rw [vlf_n i0, if_neg i0, if_neg i1, if_neg i2, if_neg i3, if_neg i4, if_neg i5, if_neg i6, if_neg i7, if_neg i8, if_neg i9, k0 91 (by decide), g91 j j1 j2]
            have hok : sc_ok (s9 ρ2 91) := sc_cg hrel (by rw [szf_tm]; exact ok_tm w_is.2 h_is.2 hl8 hf9)
            obtain ⟨c1, c2, c3⟩ := tl_cg (B := byt (μ 90)) (n := a0) 141 (tE (byt (μ 90)) a0 (tS (byt (μ 90)) a0 (tE (byt (μ 90)) a0 (tS (byt (μ 90)) a0 (tE (byt (μ 90)) a0 (tS (byt (μ 90)) a0 0)))))) _ _ 0 hrel
            refine rr_go (μ := σ) (B := byt (μ 90)) (n := a0) (by rw [e90]) (by omega) 141 (tE (byt (μ 90)) a0 (tS (byt (μ 90)) a0 (tE (byt (μ 90)) a0 (tS (byt (μ 90)) a0 (tE (byt (μ 90)) a0 (tS (byt (μ 90)) a0 0)))))) 0 (s9 ρ2) _ (fr_lt fρ2 (fr_lm (s9_f ρ2) rfl)) (fun j hj => by rw [x86]; exact oρ2 j hj) (RR_fr x86 (x90.trans ((t1 90 (by decide)).trans p90).symm) e3) (by rw [x86, t2 8 (by decide)]; exact p8) (by omega) T2.2.2.2 (by rw [x86]; exact e2) (by omega) (by decide) (by decide) hok (fun u' g l' ν y1 y2 y3 => ?_)
            rw [c1, c2] at y3
            rcases y3 with ⟨z1, rfl, z2, z3⟩ | ⟨z1, rfl, z2⟩
            · exact fin1 u' l' ν y1 y2 z1 z2 (by rw [z3]; exact c3)
            · exact fin0 u' l' ν y1 y2 z1 z2
          · rw [if_pos w_00]
            dsimp only at bad
            rw [if_neg e] at bad
            exact bad _ ρ2 fρ2 oρ2 e e1
        · rw [if_pos w_00]
          have d' : ¬ nF (byt (μ 90)) a0 (tS (byt (μ 90)) a0 (tE (byt (μ 90)) a0 (tS (byt (μ 90)) a0 0))) 3 16 = 0 := d
          rw [if_neg d'] at bad
          dsimp only at bad
          rw [if_neg d'] at bad
          exact bad _ ρ1 fρ1 oρ1 d' d1
      · have hsz : ¬ isw (byt (μ 90)) (tS (byt (μ 90)) a0 0) (tE (byt (μ 90)) a0 (tS (byt (μ 90)) a0 0)) wd1020 = true := fun h => w7f (by
          have := hw.mpr h
          unfold w7
          rw [r90, show ρ 86 9 = tS (byt (μ 90)) a0 0 by rw [r86]; exact f4]
          exact this)
        rw [if_neg hsz] at bad
        rw [if_pos w_00]
        have hs0 := tS_b (B := byt (μ 90)) (n := a0) (p := 0) c.1
        have hne : ¬ (8 * tS (byt (μ 90)) a0 0 + 1 = 0) := by omega
        dsimp only at bad
        rw [if_neg hne] at bad
        obtain ⟨y1, y2, y3⟩ := fb_is (μ := ρ0) (k := 1) (p := ρ0 86 9) hR0.2.2.2
        exact bad _ (mm159_86 1 (ρ0 86 9) ρ0) (fr_lt fρ0 (fr_lm y1 rfl)) (fun j hj => by rw [y2 j (RF_no hj).2.2.2.1]; exact oρ0 j hj) hne (by rw [y3, q9])
    · rintro k ρ g1 g2 rfl t
      apply mh168_86_45
      rw [mi_wr_id (by omega) (by omega), mi_wr_id (by omega) (by omega), if_pos (by omega)]
      exact ⟨⟨g1, g2⟩, t _ (fl_s g1 rfl)⟩
  · rw [if_neg c, if_pos w_00]
    exact hq _ _ ⟨fun _ => ⟨rfl, rfl⟩, fun h => absurd h c⟩
end
