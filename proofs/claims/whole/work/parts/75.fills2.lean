/-! fillings: the middle one -/
def mp24_71 (a0 a1 a2 : Int) (μ : mi_M) : Prop := sc_ok (sc_m μ) ∧ (0 ≤ a0 ∧ a0 ≤ 1) ∧ sc_in (sc_m μ) a1 a2 ∧ mp_is μ 72 (sc_m μ) (sp_sh (sc_m μ)) ∧ mp_is μ 73 (sc_m μ) (sp_kn (sc_m μ))
def mq24_71 (a0 a1 a2 : Int) (μ : mi_M) (r : Int) (ν : mi_M) : Prop := fr_1 75 μ ν ∧ r = sp_uf (sc_m μ) a0 a1 a2
def mp227_86 (a0 a1 a2 : Int) (μ : mi_M) : Prop := sc_ok (μ 87) ∧ (0 ≤ a0 ∧ a0 ≤ 1) ∧ sc_in (μ 87) a1 a2 ∧ rc4 μ (μ 87)
noncomputable def mv227_86 (a0 a1 a2 : Int) (μ : mi_M) : Int := sp_uf (μ 87) a0 a1 a2
section
variable {X : mi_X} {Q : mi_R → mi_G → mi_M → Prop} {u : mi_U} {μ : mi_M}
theorem mc24_71 {a0 a1 a2 : Int} (hp : mp24_71 a0 a1 a2 μ) (hq : ∀ r ν, mq24_71 a0 a1 a2 μ r ν → Q (.inl (some (.inl r))) mi_G0 ν) : mi_cok X 24 [(.inr (.inl (some 71))), (.inl a0), (.inl a1), (.inl a2)] mi_G0 μ u Q := by
  obtain ⟨hm, ⟨hv, hv'⟩, hi, hs, hk⟩ := hp
  have h8 : mi_wr 8 = 8 := by decide
  have hm1 : mi_wr (-1) = -1 := by decide
  apply me24_71
  refine qp_u (A := fun i ν => mk24_71_3 X Q u a0 a1 a2 i ν) (fun i ν => fr_1 75 μ ν ∧ ∀ j, 0 ≤ j → j < i → ν 75 j = 0) (a := 0) (n := 8) (by omega) ?_ ?_ ⟨fr_r _ _, fun j h1 h2 => by omega⟩
  · rintro ν0 ⟨hf0, hz⟩
    apply mh24_71_3
    rw [h8, if_neg (by decide)]
    refine qp_u (σ := Int × mi_M) (A := fun r s => mk24_71_30 X Q u a0 a1 a2 s.1 r s.2) (fun r s => fr_1 75 μ s.2 ∧ s.1 = sp_mn (sc_m μ) a0 a1 a2 r.toNat ∧ ∀ t, 0 ≤ t → t < 8 → s.2 75 t = sp_cs (sc_m μ) a0 a1 a2 r.toNat t) (a := 0) (n := 8) (by omega) ?_ ?_ (s := (0, ν0)) ⟨hf0, rfl, fun t h1 h2 => by show ν0 75 t = _; rw [hz t h1 h2]; rfl⟩
    · rintro ⟨k, ν⟩ ⟨hf, rfl, ht⟩
      dsimp only at hf ht
      show mk24_71_30 X Q u a0 a1 a2 (sp_mn (sc_m μ) a0 a1 a2 (8 : Int).toNat) 8 ν
      have mb := mn_b (m := sc_m μ) (v := a0) (x := a1) (y := a2) 8
      apply mh24_71_30
      rw [h8, if_neg (by decide), show (8 : Int).toNat = 8 from rfl]
      refine qp_u (A := fun d c => mk24_71_80 X Q u (sp_mn (sc_m μ) a0 a1 a2 8) c d ν) (fun d c => (0 ≤ c ∧ c ≤ 8 * d) ∧ sp_uf (sc_m μ) a0 a1 a2 = ff_v (fun s => sp_cs (sc_m μ) a0 a1 a2 8 s) (sp_mn (sc_m μ) a0 a1 a2 8) (8 - d).toNat d c) (a := 0) (n := 8) (by omega) ?_ ?_ ⟨by omega, rfl⟩
      · rintro c ⟨hc, he⟩
        apply mh24_71_80
        rw [h8, if_neg (by decide)]
        exact hq _ _ ⟨hf, he.symm⟩
      · rintro d c hd hd' ⟨hc, he⟩ k
        have cb := cs_b (m := sc_m μ) (v := a0) (x := a1) (y := a2) 8 d
        rw [show (8 - d).toNat = (7 - d).toNat + 1 by omega] at he
        apply mh24_71_80
        rw [h8, mi_wr_id (z := d) (by omega) (by omega), if_pos hd', ht d hd hd', show (8 : Int).toNat = 8 from rfl, mi_wr_id (z := sp_mn (sc_m μ) a0 a1 a2 8) (by omega) (by omega), mi_wr_id (z := 2 * (c + sp_cs (sc_m μ) a0 a1 a2 8 d)) (by omega) (by omega)]
        refine ⟨by omega, ?_⟩
        have he' : sp_uf (sc_m μ) a0 a1 a2 = if 0 < sp_mn (sc_m μ) a0 a1 a2 8 ∧ sp_mn (sc_m μ) a0 a1 a2 8 ≤ 2 * (c + sp_cs (sc_m μ) a0 a1 a2 8 d) then d else ff_v (fun s => sp_cs (sc_m μ) a0 a1 a2 8 s) (sp_mn (sc_m μ) a0 a1 a2 8) (7 - d).toNat (d + 1) (c + sp_cs (sc_m μ) a0 a1 a2 8 d) := he
        have next : ¬ (0 < sp_mn (sc_m μ) a0 a1 a2 8 ∧ sp_mn (sc_m μ) a0 a1 a2 8 ≤ 2 * (c + sp_cs (sc_m μ) a0 a1 a2 8 d)) → mk24_71_80 X Q u (sp_mn (sc_m μ) a0 a1 a2 8) (c + sp_cs (sc_m μ) a0 a1 a2 8 d) (d + 1) ν := fun hn => by
          rw [if_neg hn] at he'
          exact k _ ⟨by omega, by rw [he', show (8 - (d + 1)).toNat = (7 - d).toNat by omega]⟩
        by_cases e1 : 0 < sp_mn (sc_m μ) a0 a1 a2 8
        · rw [if_pos e1]
          by_cases e2 : 2 * (c + sp_cs (sc_m μ) a0 a1 a2 8 d) < sp_mn (sc_m μ) a0 a1 a2 8
          · rw [if_pos e2]; exact next (by omega)
          · rw [if_neg e2]
            rw [if_pos (by omega)] at he'
            exact hq _ _ ⟨hf, he'.symm⟩
        · rw [if_neg e1]; exact next (by omega)
    · rintro r ⟨k0, ν⟩ hr hr' ⟨hf, rfl, ht⟩ k
      dsimp only at hf ht k
      show mk24_71_30 X Q u a0 a1 a2 (sp_mn (sc_m μ) a0 a1 a2 r.toNat) r ν
      have es : sc_m ν = sc_m μ := sc_m_fr (hf 1 (by decide)) (hf 2 (by decide)) (hf 3 (by decide))
      have nb := sp_ns_b hm (v := a0) (x := a1) (y := a2) (dx := wy_x r) (dy := wy_y r)
      have ev : mv25_71 a0 a1 a2 r ν = sp_ns (sc_m μ) a0 a1 a2 (wy_x r) (wy_y r) := by unfold mv25_71; rw [es]
      apply mh24_71_30
      rw [h8, mi_wr_id (z := r) (by omega) (by omega), if_pos hr', ev, hm1, mi_wr_id (z := sp_ns (sc_m μ) a0 a1 a2 (wy_x r) (wy_y r)) (by omega) (by omega)]
      refine ⟨⟨by rw [es]; exact hm, ⟨hv, hv'⟩, by rw [es]; exact hi, ⟨hr, hr'⟩, by rw [es]; exact mp_is_fr (hf 72 (by decide)) hs, by rw [es]; exact mp_is_fr (hf 73 (by decide)) hk⟩, ?_⟩
      by_cases e : sp_ns (sc_m μ) a0 a1 a2 (wy_x r) (wy_y r) = -1
      · rw [if_pos e]
        refine k (sp_mn (sc_m μ) a0 a1 a2 r.toNat, ν) ⟨hf, ?_, fun t h1 h2 => ?_⟩
        · show sp_mn (sc_m μ) a0 a1 a2 r.toNat = _
          rw [mn_s hr, if_pos (by omega), Int.add_zero]
        · show ν 75 t = _
          rw [ht t h1 h2, cs_s hr, if_neg (by omega), Int.add_zero]
      · rw [if_neg e]
        refine ⟨by omega, by omega, k (sp_mn (sc_m μ) a0 a1 a2 r.toNat + 1, mi_set ν 75 (sp_ns (sc_m μ) a0 a1 a2 (wy_x r) (wy_y r)) (ν 75 (sp_ns (sc_m μ) a0 a1 a2 (wy_x r) (wy_y r)) + 1)) ⟨fr_s hf _ _, ?_, fun t h1 h2 => ?_⟩⟩
        · show sp_mn (sc_m μ) a0 a1 a2 r.toNat + 1 = _
          rw [mn_s hr, if_neg (by omega)]
        · show mi_set ν 75 (sp_ns (sc_m μ) a0 a1 a2 (wy_x r) (wy_y r)) (ν 75 (sp_ns (sc_m μ) a0 a1 a2 (wy_x r) (wy_y r)) + 1) 75 t = _
          rw [ms_same, cs_s hr]
          by_cases ee : t = sp_ns (sc_m μ) a0 a1 a2 (wy_x r) (wy_y r)
          · rw [if_pos ee, if_pos ee.symm, ← ee, ht t h1 h2]
          · rw [if_neg ee, if_neg (fun h => ee h.symm), ht t h1 h2, Int.add_zero]
  · rintro i ν hi hi' ⟨hf, hz⟩ k
    apply mh24_71_3
    rw [h8, mi_wr_id (by omega) (by omega), if_pos hi']
    refine ⟨by omega, k _ ⟨fr_s hf _ _, fun j h1 h2 => ?_⟩⟩
    rw [ms_same]
    by_cases e : j = i
    · rw [if_pos e]
    · rw [if_neg e, hz j h1 (by omega)]
theorem mc227_86 {a0 a1 a2 : Int} (hp : mp227_86 a0 a1 a2 μ) (hq : Q (.inl (some (.inl (mv227_86 a0 a1 a2 μ)))) mi_G0 μ) : mi_cok X 227 [(.inr (.inl (some 86))), (.inl a0), (.inl a1), (.inl a2)] mi_G0 μ u Q := by
  obtain ⟨hm, ⟨hv, hv'⟩, hi, hrc⟩ := hp
  have h8 : mi_wr 8 = 8 := by decide
  apply me227_86
  refine qp_u (σ := Int × Int) (A := fun r s => mk227_86_9 X Q u a0 a1 a2 s.1 s.2 r μ) (fun r s => s.1 = sp_mn (μ 87) a0 a1 a2 r.toNat ∧ s.2 = pk8 (fun t => sp_cs (μ 87) a0 a1 a2 r.toNat t) ∧ sum8 (fun t => sp_cs (μ 87) a0 a1 a2 r.toNat t) = sp_mn (μ 87) a0 a1 a2 r.toNat) (a := 0) (n := 8) (by omega) ?_ ?_ (s := (0, 0)) ⟨rfl, rfl, rfl⟩
  · rintro ⟨k0, f0⟩ ⟨rfl, rfl, hsum⟩
    show mk227_86_9 X Q u a0 a1 a2 (sp_mn (μ 87) a0 a1 a2 (8 : Int).toNat) (pk8 (fun t => sp_cs (μ 87) a0 a1 a2 (8 : Int).toNat t)) 8 μ
    rw [show (8 : Int).toNat = 8 from rfl] at hsum ⊢
    have mb := mn_b (m := μ 87) (v := a0) (x := a1) (y := a2) 8
    apply mh227_86_9
    rw [h8, if_neg (by decide)]
    by_cases e1 : 0 < sp_mn (μ 87) a0 a1 a2 8
    · rw [mx_div (by omega) (by omega) (by decide) (by decide)]
      refine qp_u (A := fun s l => mk227_86_71 X Q u (sp_mn (μ 87) a0 a1 a2 8) (pk8 (fun t => sp_cs (μ 87) a0 a1 a2 8 t)) l s μ) (fun s l => ∃ c, l = (sp_mn (μ 87) a0 a1 a2 8 - 1) / 2 - c ∧ (0 ≤ c ∧ c ≤ 8 * s) ∧ mv227_86 a0 a1 a2 μ = ff_v (fun s => sp_cs (μ 87) a0 a1 a2 8 s) (sp_mn (μ 87) a0 a1 a2 8) (8 - s).toNat s c) (a := 0) (n := 8) (by omega) ?_ ?_ ⟨0, by omega, by omega, rfl⟩
      · rintro l ⟨c, rfl, hc, he⟩
        apply mh227_86_71
        rw [h8, if_neg (by decide)]
        have : mv227_86 a0 a1 a2 μ = 0 := he
        rw [this] at hq; exact hq
      · rintro s l hs hs' ⟨c, rfl, hc, he⟩ k
        have cb := cs_b (m := μ 87) (v := a0) (x := a1) (y := a2) 8 s
        rw [show (8 - s).toNat = (7 - s).toNat + 1 by omega] at he
        have he' : mv227_86 a0 a1 a2 μ = if 0 < sp_mn (μ 87) a0 a1 a2 8 ∧ sp_mn (μ 87) a0 a1 a2 8 ≤ 2 * (c + sp_cs (μ 87) a0 a1 a2 8 s) then s else ff_v (fun s => sp_cs (μ 87) a0 a1 a2 8 s) (sp_mn (μ 87) a0 a1 a2 8) (7 - s).toNat (s + 1) (c + sp_cs (μ 87) a0 a1 a2 8 s) := he
        apply mh227_86_71
        rw [mx_dig (g := fun t => sp_cs (μ 87) a0 a1 a2 8 t) (fun t _ _ => (cs_b 8 t).1) (by omega) hs hs', h8, mi_wr_id (z := s) (by omega) (by omega), if_pos hs', mi_wr_id (z := sp_mn (μ 87) a0 a1 a2 8) (by omega) (by omega), if_pos e1, mi_wr_id (by omega) (by omega)]
        by_cases e2 : (sp_mn (μ 87) a0 a1 a2 8 - 1) / 2 - c - sp_cs (μ 87) a0 a1 a2 8 s < 0
        · rw [if_pos e2]
          rw [if_pos (by omega)] at he'
          rw [he'] at hq; exact hq
        · rw [if_neg e2]
          rw [if_neg (by omega)] at he'
          exact k _ ⟨c + sp_cs (μ 87) a0 a1 a2 8 s, by omega, by omega, by rw [he', show (8 - (s + 1)).toNat = (7 - s).toNat by omega]⟩
    · apply mh227_86_71
      rw [h8, if_pos (by decide), mi_wr_id (z := sp_mn (μ 87) a0 a1 a2 8) (by omega) (by omega), if_neg e1]
      have : mv227_86 a0 a1 a2 μ = 0 := ff_0 e1 8 0 0
      rw [this] at hq; exact hq
  · rintro r ⟨k0, f0⟩ hr hr' ⟨rfl, rfl, hsum⟩ k
    show mk227_86_9 X Q u a0 a1 a2 (sp_mn (μ 87) a0 a1 a2 r.toNat) (pk8 (fun t => sp_cs (μ 87) a0 a1 a2 r.toNat t)) r μ
    have nb := sp_ns_b hm (v := a0) (x := a1) (y := a2) (dx := wy_x r) (dy := wy_y r)
    apply mh227_86_9
    rw [wy_xR hr hr', wy_yR hr hr', h8, mi_wr_id (z := r) (by omega) (by omega), if_pos hr', show mv225_86 a0 a1 a2 (wy_x r) (wy_y r) μ = sp_ns (μ 87) a0 a1 a2 (wy_x r) (wy_y r) from rfl, mi_wr_id (z := sp_ns (μ 87) a0 a1 a2 (wy_x r) (wy_y r)) (by omega) (by omega)]
    refine ⟨⟨hm, ⟨hv, hv'⟩, hi, wy_cases hr hr', hrc⟩, ?_⟩
    by_cases e : sp_ns (μ 87) a0 a1 a2 (wy_x r) (wy_y r) < 0
    · rw [if_pos e]
      have ec : ∀ t, 0 ≤ t → sp_cs (μ 87) a0 a1 a2 (r + 1).toNat t = sp_cs (μ 87) a0 a1 a2 r.toNat t := fun t ht => by rw [cs_s hr, if_neg (by omega), Int.add_zero]
      have em : sp_mn (μ 87) a0 a1 a2 (r + 1).toNat = sp_mn (μ 87) a0 a1 a2 r.toNat := by rw [mn_s hr, if_pos e, Int.add_zero]
      have ep : pk8 (fun t => sp_cs (μ 87) a0 a1 a2 (r + 1).toNat t) = pk8 (fun t => sp_cs (μ 87) a0 a1 a2 r.toNat t) := by
        unfold pk8; dsimp only; rw [ec 0 (by decide), ec 1 (by decide), ec 2 (by decide), ec 3 (by decide), ec 4 (by decide), ec 5 (by decide), ec 6 (by decide), ec 7 (by decide)]
      have eq : sum8 (fun t => sp_cs (μ 87) a0 a1 a2 (r + 1).toNat t) = sum8 (fun t => sp_cs (μ 87) a0 a1 a2 r.toNat t) := by
        unfold sum8; dsimp only; rw [ec 0 (by decide), ec 1 (by decide), ec 2 (by decide), ec 3 (by decide), ec 4 (by decide), ec 5 (by decide), ec 6 (by decide), ec 7 (by decide)]
      exact k (_, _) ⟨em.symm, ep.symm, by rw [eq, em]; exact hsum⟩
    · rw [if_neg e]
      have em : sp_mn (μ 87) a0 a1 a2 (r + 1).toNat = sp_mn (μ 87) a0 a1 a2 r.toNat + 1 := by rw [mn_s hr, if_neg e]
      obtain ⟨p1, p2⟩ := pk8_step (s := sp_ns (μ 87) a0 a1 a2 (wy_x r) (wy_y r)) (by omega) (by omega) (g := fun t => sp_cs (μ 87) a0 a1 a2 r.toNat t) (g' := fun t => sp_cs (μ 87) a0 a1 a2 (r + 1).toNat t) (fun t => cs_s hr t)
      exact k (_, _) ⟨em.symm, p1.symm, by rw [p2, em, hsum]⟩
end
