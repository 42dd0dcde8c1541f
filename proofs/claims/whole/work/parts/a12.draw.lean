/-! ACTS: draw -/
def dwn (t : Int → Int → Int → Int) (w : Int) (m : Int → Int) (y x : Int) : Int → Int := fun j => if (10 ≤ j ∧ j < 394) ∧ ((((j - 10) % 192 / 16 < y) ∧ (j - 10) % 16 < w) ∨ ((j - 10) % 192 / 16 = y ∧ (j - 10) % 16 < x)) then t ((j - 10) / 192) ((j - 10) % 16) ((j - 10) % 192 / 16) else m j
section
variable {X : mi_X} {Q : mi_R → mi_G → mi_M → Prop} {u : mi_U} {μ : mi_M}
theorem dw_0 {t : Int → Int → Int → Int} {w : Int} {m : Int → Int} : dwn t w m 0 0 = m := by
  funext j; unfold dwn; rw [if_neg (by omega)]
theorem dw_y {t : Int → Int → Int → Int} {w y : Int} {m : Int → Int} : dwn t w m (y + 1) 0 = dwn t w m y w := by
  funext j; unfold dwn
  by_cases c : (10 ≤ j ∧ j < 394) ∧ ((((j - 10) % 192 / 16 < y) ∧ (j - 10) % 16 < w) ∨ ((j - 10) % 192 / 16 = y ∧ (j - 10) % 16 < w))
  · rw [if_pos c, if_pos (by omega)]
  · rw [if_neg c, if_neg (by omega)]
theorem dw_s {t : Int → Int → Int → Int} {w y x : Int} {m : Int → Int} (hx : 0 ≤ x) (hx' : x < w) (hw : w ≤ 16) (hy : 0 ≤ y) (hy' : y < 12) : vlf (10 + (192 * 1 + 16 * y + x)) (t 1 x y) (vlf (10 + (192 * 0 + 16 * y + x)) (t 0 x y) (dwn t w m y x)) = dwn t w m y (x + 1) := by
  funext j
  unfold vlf dwn
  by_cases c1 : j = 10 + (192 * 1 + 16 * y + x)
  · rw [if_pos c1, if_pos (by omega), show (j - 10) / 192 = 1 by omega, show (j - 10) % 16 = x by omega, show (j - 10) % 192 / 16 = y by omega]
  · rw [if_neg c1]
    by_cases c2 : j = 10 + (192 * 0 + 16 * y + x)
    · rw [if_pos c2, if_pos (by omega), show (j - 10) / 192 = 0 by omega, show (j - 10) % 16 = x by omega, show (j - 10) % 192 / 16 = y by omega]
    · rw [if_neg c2]
      by_cases c : (10 ≤ j ∧ j < 394) ∧ ((((j - 10) % 192 / 16 < y) ∧ (j - 10) % 16 < w) ∨ ((j - 10) % 192 / 16 = y ∧ (j - 10) % 16 < x))
      · rw [if_pos c, if_pos (by omega)]
      · rw [if_neg c, if_neg (by omega)]
noncomputable def dwf (μ : mi_M) (m : Int → Int) : Int → Int := dwn (fun v x y => mv177_86 v x y μ) (m 0) m (m 1) 0
noncomputable def dwr (μ : mi_M) (m : Int → Int) : Int := sm2 (fun x y => if sp_la (μ 89) (μ 86 5) 0 x y < 0 then 0 else 1) (m 0) (m 1)
theorem txr_b {v x y : Int} : 0 ≤ mv177_86 v x y μ ∧ mv177_86 v x y μ ≤ 15 := by
  unfold mv177_86
  split
  · omega
  · exact mx_tex _
theorem dwf_ok {m : Int → Int} (hm : sc_ok m) : sc_ok (dwf μ m) := by
  have h : ∀ j, j < 10 → dwf μ m j = m j := fun j hj => by unfold dwf dwn; rw [if_neg (by omega)]
  unfold sc_ok at hm ⊢
  rw [h 0 (by decide), h 1 (by decide), h 2 (by decide), h 3 (by decide), h 4 (by decide), h 5 (by decide), h 6 (by decide), h 7 (by decide), h 8 (by decide), h 9 (by decide)]
  obtain ⟨a, b, c, d, e, f1, g1, i, k, l⟩ := hm
  refine ⟨a, b, c, d, e, f1, g1, i, k, fun j h1 h2 => ?_⟩
  unfold dwf dwn
  split
  · exact txr_b
  · exact l j h1 h2
theorem tx_fr {ν : mi_M} (e5 : ν 86 5 = μ 86 5) (e89 : ν 89 = μ 89) {v x y : Int} : mv177_86 v x y ν = mv177_86 v x y μ := by
  unfold mv177_86 mv176_86 mv175_86; rw [e5, e89]
theorem tx_r {v x y : Int} (hl : lyr μ) (hv : 0 ≤ v) (hv' : v ≤ 1) (hx : 0 ≤ x) (hx' : x < 16) (hy : 0 ≤ y) (hy' : y < 12) : mp177_86 v x y μ := by
  have hb := sp_la_b (L := μ 89) (n := μ 86 5) (v := v) (x := x) (y := y) hl.1.1
  have hb2 := hl.1.2
  refine ⟨⟨hl, by omega, by omega, by omega⟩, ?_⟩
  unfold mv176_86
  rw [mi_wr_id (by omega) (by omega)]
  by_cases c : sp_la (μ 89) (μ 86 5) v x y < 0
  · rw [if_pos c]; trivial
  · rw [if_neg c]
    exact ⟨by omega, (mx_edgeR hv hv' (by omega) (by omega)).1, by omega⟩
theorem tx_c {v x y : Int} (hl : lyr μ) (hc : lyc μ) (hv : 0 ≤ v) (hv' : v ≤ 1) (hx : 0 ≤ x) (hx' : x < 16) (hy : 0 ≤ y) (hy' : y < 12) : mp4_4 v x y μ ∧ mp5_4 v (mv4_4 v x y μ) x y μ ∧ mv5_4 v (mv4_4 v x y μ) x y μ = mv177_86 v x y μ := by
  have hb := sp_la_b (L := μ 89) (n := μ 86 5) (v := v) (x := x) (y := y) hl.1.1
  have hb2 := hl.1.2
  have w1 : mi_wr (-1) = -1 := by decide
  refine ⟨⟨hl, hc, by omega, by omega, by omega⟩, ?_⟩
  unfold mp5_4 mv5_4 mv177_86 mv4_4 mv176_86
  rw [mi_wr_id (z := sp_la (μ 89) (μ 86 5) v x y) (by omega) (by omega), w1]
  by_cases c : sp_la (μ 89) (μ 86 5) v x y < 0
  · rw [if_pos (by omega), if_pos (by omega), if_pos c]; exact ⟨trivial, rfl⟩
  · obtain ⟨e1, e2⟩ := mx_edge (μ := μ) (v := v) (l := sp_la (μ 89) (μ 86 5) v x y) hc hv hv' (by omega) (by omega)
    obtain ⟨e3, e4⟩ := mx_edgeR (μ := μ) (v := v) (l := sp_la (μ 89) (μ 86 5) v x y) hv hv' (by omega) (by omega)
    obtain ⟨c1, c2, c3, c4, c5, c6⟩ := hc.2 (sp_la (μ 89) (μ 86 5) v x y) (by omega) (by omega)
    rw [if_neg (by omega), if_neg (by omega), if_neg c, e2, e4, c2, c6]
    exact ⟨⟨e1, by omega, by omega⟩, rfl⟩
def mp104_0 (μ : mi_M) : Prop := cvL μ ∧ mp46_17_1 μ
def mq104_0 (μ : mi_M) (r : Int) (ν : mi_M) : Prop := acc μ ν (dwf μ (sc_m μ)) ∧ r = dwr μ (sc_m μ)
theorem mc104_0 (hp : mp104_0 μ) (hq : ∀ r ν, mq104_0 μ r ν → Q (.inl (some (.inl r))) mi_G0 ν) : mi_cok X 104 [(.inr (.inl (some 0)))] mi_G0 μ u Q := by
  obtain ⟨⟨⟨hm, hci⟩, hl, hc⟩, hr⟩ := hp
  obtain ⟨⟨w1, w2⟩, ⟨g1, g2⟩, -⟩ := id hm
  have wm1 : mi_wr (-1) = -1 := by decide
  apply me104_0
  refine ⟨⟨hr, by decide, hci.1⟩, fun μ0 h0 => ?_⟩
  have em := beg_m h0
  have eq0 : ∀ q, (4 ≤ q ∧ q ≤ 10) ∨ q = 86 ∨ q = 89 → μ0 q = μ q := fun q hq => h0.1 q (BS_no (by omega) (by omega) (by omega))
  -- what holds on the way
  refine qp_2 (A := fun y s => mk104_0_9 X Q u s.1 y s.2) (B := fun y x s => mk104_0_22 X Q u s.1 y x s.2) (I := fun y x s => fr_l [3] μ0 s.2 ∧ sc_m s.2 = dwn (fun v x y => mv177_86 v x y μ) (sc_m μ 0) (sc_m μ) y x ∧ s.1 = sm2a (fun x y => if sp_la (μ 89) (μ 86 5) 0 x y < 0 then 0 else 1) (sc_m μ 0) y x) (w := sc_m μ 0) (h := sc_m μ 1) (by omega) (by omega) ?_ ?_ ?_ ?_ (s := ((0 : Int), μ0)) ⟨fr_lr _ _, by rw [dw_0]; exact em, sm2_0.symm⟩
  · rintro ⟨a, ρ⟩ ⟨hf, hs, ha⟩
    dsimp only at hf hs ha
    have e1 : ρ 1 = μ 1 := (hf 1 (by decide)).trans (h0.1 1 (by decide))
    show mk104_0_9 X Q u a (sc_m μ 1) ρ
    apply mh104_0_9
    rw [e1, show μ 1 1 = sc_m μ 1 from rfl, if_neg (Int.lt_irrefl _)]
    refine hq _ _ ⟨?_, ?_⟩
    · have := beg0 hci.1.1 h0 (fr_lm hf rfl)
      rw [hs] at this; exact this
    · rw [ha, sm2_e]; rfl
  · rintro y ⟨a, ρ⟩ hy hy' hi k
    have e1 : ρ 1 = μ 1 := (hi.1 1 (by decide)).trans (h0.1 1 (by decide))
    show mk104_0_9 X Q u a y ρ
    apply mh104_0_9
    rw [e1, show μ 1 1 = sc_m μ 1 from rfl, mi_wr_id (by omega) (by omega), mi_wr_id (by omega) (by omega), if_pos (by omega)]
    exact k (a, ρ) hi
  · rintro y x ⟨a, ρ⟩ hy hy' hx hx' ⟨hf, hs, ha⟩ k
    dsimp only at hf hs ha
    have e1 : ρ 1 = μ 1 := (hf 1 (by decide)).trans (h0.1 1 (by decide))
    have er : ∀ q, (4 ≤ q ∧ q ≤ 10) ∨ q = 86 ∨ q = 89 → ρ q = μ q := fun q hq => (hf q (by simp only [List.mem_cons, List.not_mem_nil, or_false]; omega)).trans (eq0 q hq)
    have l1 : ∀ σ : mi_M, (∀ q, (4 ≤ q ∧ q ≤ 10) ∨ q = 86 ∨ q = 89 → σ q = μ q) → ∀ v, 0 ≤ v → v ≤ 1 → mp4_4 v x y σ ∧ mp5_4 v (mv4_4 v x y σ) x y σ ∧ mv5_4 v (mv4_4 v x y σ) x y σ = mv177_86 v x y μ := fun σ hσ v hv hv' => by
      have := tx_c (μ := σ) (lyr_fr (by rw [hσ 86 (by omega)]) (hσ 89 (by omega)) hl) (lyc_fr (by rw [hσ 86 (by omega)]) (hσ 89 (by omega)) (by rw [hσ 4 (by omega)]) (fun q a b => hσ q (by omega)) hc) hv hv' hx (by omega) hy (by omega)
      rw [tx_fr (by rw [hσ 86 (by omega)]) (hσ 89 (by omega))] at this
      exact this
    have hb := sp_la_b (L := μ 89) (n := μ 86 5) (v := 0) (x := x) (y := y) hl.1.1
    have hb2 := hl.1.2
    obtain ⟨p1, p2, p3⟩ := l1 ρ er 0 (by decide) (by decide)
    have er' : ∀ q, (4 ≤ q ∧ q ≤ 10) ∨ q = 86 ∨ q = 89 → mi_set ρ 3 (192 * 0 + 16 * y + x) (mv177_86 0 x y μ) q = μ q := fun q hq => by rw [ms_other _ (by omega)]; exact er q hq
    obtain ⟨q1, q2, q3⟩ := l1 _ er' 1 (by decide) (by decide)
    have ela : mv4_4 0 x y ρ = sp_la (μ 89) (μ 86 5) 0 x y := by unfold mv4_4; rw [er 89 (by omega), er 86 (by omega)]
    have hnew : sc_m (mi_set (mi_set ρ 3 (192 * 0 + 16 * y + x) (mv177_86 0 x y μ)) 3 (192 * 1 + 16 * y + x) (mv177_86 1 x y μ)) = dwn (fun v x y => mv177_86 v x y μ) (sc_m μ 0) (sc_m μ) y (x + 1) := by
      rw [vlf_3 (by omega), vlf_3 (by omega), hs]
      exact dw_s (t := fun v x y => mv177_86 v x y μ) hx hx' (by omega) hy (by omega)
    have hfn : fr_l [3] μ0 (mi_set (mi_set ρ 3 (192 * 0 + 16 * y + x) (mv177_86 0 x y μ)) 3 (192 * 1 + 16 * y + x) (mv177_86 1 x y μ)) := fr_ls (fr_ls hf (by decide) _ _) (by decide) _ _
    show mk104_0_22 X Q u a y x ρ
    apply mh104_0_22
    rw [e1, show μ 1 0 = sc_m μ 0 from rfl, mi_wr_id (z := x) (by omega) (by omega), mi_wr_id (z := sc_m μ 0) (by omega) (by omega), if_pos hx', p3, mx_spot hy (by omega), mx_spot hy (by omega), q3]
    refine ⟨p1, ?_⟩
    rw [mi_wr_id (z := mv4_4 0 x y ρ) (by rw [ela]; omega) (by rw [ela]; omega), wm1]
    by_cases c : sp_la (μ 89) (μ 86 5) 0 x y < 0
    · rw [if_pos (show mv4_4 0 x y ρ = -1 by rw [ela]; omega)]
      refine ⟨p2, by omega, q1, q2, by omega, k (a + 0, _) ⟨hfn, hnew, ?_⟩⟩
      show a + 0 = _
      rw [sm2_x hx, if_pos c, ha]
    · rw [if_neg (show ¬ mv4_4 0 x y ρ = -1 by rw [ela]; omega)]
      refine ⟨p2, by omega, q1, q2, by omega, k (a + 1, _) ⟨hfn, hnew, ?_⟩⟩
      show a + 1 = _
      rw [sm2_x hx, if_neg c, ha]
  · rintro y ⟨a, ρ⟩ hy hy' ⟨hf, hs, ha⟩ k
    dsimp only at hf hs ha
    have e1 : ρ 1 = μ 1 := (hf 1 (by decide)).trans (h0.1 1 (by decide))
    show mk104_0_22 X Q u a y (sc_m μ 0) ρ
    apply mh104_0_22
    rw [e1, show μ 1 0 = sc_m μ 0 from rfl, if_neg (Int.lt_irrefl _)]
    refine k (a, ρ) ⟨hf, ?_, ?_⟩
    · show sc_m ρ = _
      rw [dw_y]; exact hs
    · show a = _
      rw [sm2_y hy]; exact ha
def mp178_86 (μ : mi_M) : Prop := sc_ok (μ 87) ∧ lyr μ ∧ mp148_86 μ
def mq178_86 (μ : mi_M) (r : Int) (ν : mi_M) : Prop := acr μ ν (dwf μ (μ 87)) ∧ r = dwr μ (μ 87)
theorem mc178_86 (hp : mp178_86 μ) (hq : ∀ r ν, mq178_86 μ r ν → Q (.inl (some (.inl r))) mi_G0 ν) : mi_cok X 178 [(.inr (.inl (some 86)))] mi_G0 μ u Q := by
  obtain ⟨hm, hl, hr⟩ := hp
  obtain ⟨⟨w1, w2⟩, ⟨g1, g2⟩, -⟩ := id hm
  apply me178_86
  refine ⟨begR_p hr, fun μ0 h0 => ?_⟩
  have em := begR_m h0
  have e5 : μ0 86 5 = μ 86 5 := by rw [h0.2.1 5 (by decide), ms_same, if_neg (by decide)]
  have e89 : μ0 89 = μ 89 := by rw [h0.1 89 (by decide), ms_other _ (by decide)]
  refine qp_2 (A := fun y s => mk178_86_13 X Q u s.1 y s.2) (B := fun y x s => mk178_86_25 X Q u s.1 y x s.2) (I := fun y x s => fr_l [87] μ0 s.2 ∧ s.2 87 = dwn (fun v x y => mv177_86 v x y μ) (μ 87 0) (μ 87) y x ∧ s.1 = sm2a (fun x y => if sp_la (μ 89) (μ 86 5) 0 x y < 0 then 0 else 1) (μ 87 0) y x) (w := μ 87 0) (h := μ 87 1) (by omega) (by omega) ?_ ?_ ?_ ?_ (s := ((0 : Int), μ0)) ⟨fr_lr _ _, by rw [dw_0]; exact em, sm2_0.symm⟩
  · rintro ⟨a, ρ⟩ ⟨hf, hs, ha⟩
    dsimp only at hf hs ha
    show mk178_86_13 X Q u a (μ 87 1) ρ
    apply mh178_86_13
    have e1 : ρ 87 1 = μ 87 1 := by rw [hs]; exact if_neg (by omega)
    rw [e1, if_neg (Int.lt_irrefl _)]
    refine hq _ _ ⟨?_, ?_⟩
    · have := begR h0 hf
      rw [hs] at this; exact this
    · rw [ha, sm2_e]; rfl
  · rintro y ⟨a, ρ⟩ hy hy' hi k
    have e1 : ρ 87 1 = μ 87 1 := by rw [show ρ 87 = _ from hi.2.1]; exact if_neg (by omega)
    show mk178_86_13 X Q u a y ρ
    apply mh178_86_13
    rw [e1, mi_wr_id (by omega) (by omega), mi_wr_id (by omega) (by omega), if_pos (by omega)]
    exact k (a, ρ) hi
  · rintro y x ⟨a, ρ⟩ hy hy' hx hx' ⟨hf, hs, ha⟩ k
    dsimp only at hf hs ha
    have e1 : ρ 87 0 = μ 87 0 := by rw [hs]; exact if_neg (by omega)
    have l1 : ∀ σ : mi_M, fr_l [87] μ0 σ → lyr σ ∧ (∀ v, 0 ≤ v → v ≤ 1 → mp177_86 v x y σ ∧ mv177_86 v x y σ = mv177_86 v x y μ) ∧ mv176_86 0 x y σ = sp_la (μ 89) (μ 86 5) 0 x y := fun σ hσ => by
      have t5 : σ 86 5 = μ 86 5 := by rw [hσ 86 (by decide)]; exact e5
      have t89 : σ 89 = μ 89 := (hσ 89 (by decide)).trans e89
      have hl' := lyr_fr t5 t89 hl
      exact ⟨hl', fun v hv hv' => ⟨tx_r hl' hv hv' hx (by omega) hy (by omega), tx_fr t5 t89⟩, by unfold mv176_86; rw [t5, t89]⟩
    have hb := sp_la_b (L := μ 89) (n := μ 86 5) (v := 0) (x := x) (y := y) hl.1.1
    have hb2 := hl.1.2
    have f1 : fr_l [87] μ0 (mi_set ρ 87 (10 + (192 * 0 + 16 * y + x)) (mv177_86 0 x y μ)) := fr_ls hf (by decide) _ _
    have f2 : fr_l [87] μ0 (mi_set (mi_set ρ 87 (10 + (192 * 0 + 16 * y + x)) (mv177_86 0 x y μ)) 87 (10 + (192 * 1 + 16 * y + x)) (mv177_86 1 x y μ)) := fr_ls f1 (by decide) _ _
    obtain ⟨-, p1, -⟩ := l1 ρ hf
    obtain ⟨-, p2, -⟩ := l1 _ f1
    obtain ⟨hl3, -, p3⟩ := l1 _ f2
    have hnew : mi_set (mi_set ρ 87 (10 + (192 * 0 + 16 * y + x)) (mv177_86 0 x y μ)) 87 (10 + (192 * 1 + 16 * y + x)) (mv177_86 1 x y μ) 87 = dwn (fun v x y => mv177_86 v x y μ) (μ 87 0) (μ 87) y (x + 1) := by
      rw [vlf_R, vlf_R, hs]
      exact dw_s (t := fun v x y => mv177_86 v x y μ) hx hx' (by omega) hy (by omega)
    show mk178_86_25 X Q u a y x ρ
    apply mh178_86_25
    rw [e1, mi_wr_id (z := x) (by omega) (by omega), mi_wr_id (z := μ 87 0) (by omega) (by omega), if_pos hx', mx_cel, mx_cel, (p1 0 (by decide) (by decide)).2, (p2 1 (by decide) (by decide)).2, p3, mi_wr_id (z := sp_la (μ 89) (μ 86 5) 0 x y) (by omega) (by omega)]
    refine ⟨(p1 0 (by decide) (by decide)).1, by omega, (p2 1 (by decide) (by decide)).1, by omega, ⟨hl3, by omega, by omega, by omega⟩, k (_, _) ⟨f2, hnew, ?_⟩⟩
    show (if sp_la (μ 89) (μ 86 5) 0 x y < 0 then a + 0 else a + 1) = _
    rw [sm2_x hx, ha]
    split <;> rfl
  · rintro y ⟨a, ρ⟩ hy hy' ⟨hf, hs, ha⟩ k
    dsimp only at hf hs ha
    have e1 : ρ 87 0 = μ 87 0 := by rw [hs]; exact if_neg (by omega)
    show mk178_86_25 X Q u a y (μ 87 0) ρ
    apply mh178_86_25
    rw [e1, if_neg (Int.lt_irrefl _)]
    refine k (a, ρ) ⟨hf, ?_, ?_⟩
    · show ρ 87 = _
      rw [dw_y]; exact hs
    · show a = _
      rw [sm2_y hy]; exact ha
end
