/-! a row by itself -/
theorem st_y (m : Int → Int) (d e : Int) : sp_st m d e = sp_st m e d := by
  unfold sp_st
  by_cases c : d = e
  · rw [if_pos c, if_pos c.symm]
  · rw [if_neg c, if_neg (show ¬ e = d from fun h => c h.symm)]
    by_cases c2 : d - e = 1 ∨ e - d = 1
    · rw [if_pos c2, if_pos (show e - d = 1 ∨ d - e = 1 by omega)]
    · rw [if_neg c2, if_neg (show ¬ (e - d = 1 ∨ d - e = 1) by omega)]
theorem st_b {m : Int → Int} (hm : sc_ok m) (d e : Int) : 0 ≤ sp_st m d e ∧ sp_st m d e ≤ 60 := by
  obtain ⟨-, -, -, -, ⟨p1, p2, p3⟩, -⟩ := id hm
  unfold sp_st; split
  · omega
  · split <;> omega
noncomputable def tt_v (m : Int → Int) (y : Int) : Nat → Int → Int
  | 0, d => sp_cost m 0 y d
  | n + 1, d => sp_cost m ((n : Int) + 1) y d + ls_t (fun e => tt_v m y n e + sp_st m e d) (m 2).toNat
noncomputable def tx (m : Int → Int) (y x d : Int) : Int := tt_v m y x.toNat d
theorem tx_0 {m : Int → Int} {y d : Int} : tx m y 0 d = sp_cost m 0 y d := rfl
theorem tx_s {m : Int → Int} {y x d : Int} (h : 0 ≤ x) : tx m y (x + 1) d = sp_cost m (x + 1) y d + ls_t (fun e => tx m y x e + sp_st m e d) (m 2).toNat := by
  unfold tx
  obtain ⟨n, rfl⟩ := Int.eq_ofNat_of_zero_le h
  rw [show ((n : Int) + 1).toNat = n + 1 by omega, show ((n : Int)).toNat = n by omega]
  rfl
theorem tt_b {m : Int → Int} (hm : sc_ok m) {y : Int} : ∀ (n : Nat) (d : Int), 0 ≤ tt_v m y n d ∧ tt_v m y n d ≤ 92 * (n + 1)
  | 0, d => by
    have := sp_cost_b (m := m) 0 y d
    unfold tt_v; omega
  | n + 1, d => by
    have h1 := sp_cost_b (m := m) ((n : Int) + 1) y d
    obtain ⟨e, e1, e2, e3⟩ := ls_in (f := fun e => tt_v m y n e + sp_st m e d) (m 2).toNat
    have h2 := tt_b hm (y := y) n e
    have h3 := st_b hm e d
    unfold tt_v
    rw [e3]
    omega
theorem tx_b {m : Int → Int} (hm : sc_ok m) {y x d : Int} (hx : x < 16) : 0 ≤ tx m y x d ∧ tx m y x d ≤ 1472 := by
  have := tt_b hm (y := y) x.toNat d
  unfold tx; omega
noncomputable def ch_v (m : Int → Int) (y : Int) : Nat → Int
  | 0 => am (fun e => tx m y (m 0 - 1) e) (m 2).toNat
  | k + 1 => am (fun e => tx m y (m 0 - 2 - k) e + sp_st m e (ch_v m y k)) (m 2).toNat
noncomputable def cx (m : Int → Int) (y x : Int) : Int := ch_v m y (m 0 - 1 - x).toNat
noncomputable def sp_rp (m : Int → Int) (y : Int) : Int := ls_t (fun e => tx m y (m 0 - 1) e) (m 2).toNat
theorem cx_l {m : Int → Int} {y : Int} : cx m y (m 0 - 1) = am (fun e => tx m y (m 0 - 1) e) (m 2).toNat := by
  unfold cx; rw [show (m 0 - 1 - (m 0 - 1)).toNat = 0 by omega]; rfl
theorem cx_s {m : Int → Int} {y x : Int} (h' : x < m 0 - 1) : cx m y x = am (fun e => tx m y x e + sp_st m e (cx m y (x + 1))) (m 2).toNat := by
  unfold cx
  rw [show (m 0 - 1 - x).toNat = (m 0 - 1 - (x + 1)).toNat + 1 by omega]
  show am (fun e => tx m y (m 0 - 2 - ((m 0 - 1 - (x + 1)).toNat : Int)) e + sp_st m e (ch_v m y (m 0 - 1 - (x + 1)).toNat)) (m 2).toNat = _
  rw [show m 0 - 2 - ((m 0 - 1 - (x + 1)).toNat : Int) = x by omega]
theorem cx_b {m : Int → Int} (hm : sc_ok m) {y x : Int} (hx : x < m 0) : 0 ≤ cx m y x ∧ cx m y x ≤ m 2 := by
  obtain ⟨-, -, ⟨f1, f2⟩, -⟩ := id hm
  by_cases c : x = m 0 - 1
  · rw [c, cx_l]
    have := am_b (f := fun e => tx m y (m 0 - 1) e) (m 2).toNat
    omega
  · rw [cx_s (by omega)]
    have := am_b (f := fun e => tx m y x e + sp_st m e (cx m y (x + 1))) (m 2).toNat
    omega
def mp81_81 (a0 a1 : Int) (μ : mi_M) : Prop := sc_ok (sc_m μ) ∧ (1 ≤ a0 ∧ a0 < 16) ∧ (0 ≤ a1 ∧ a1 ≤ 7) ∧ ∀ e, 0 ≤ e → e ≤ sc_m μ 2 → 0 ≤ μ 83 (8 * (a0 - 1) + e) ∧ μ 83 (8 * (a0 - 1) + e) ≤ 100000
noncomputable def mv81_81 (a0 a1 : Int) (μ : mi_M) : Int := am (fun e => μ 83 (8 * (a0 - 1) + e) + sp_st (sc_m μ) e a1) (sc_m μ 2).toNat
section
variable {X : mi_X} {Q : mi_R → mi_G → mi_M → Prop} {u : mi_U} {μ : mi_M}
theorem mx_pb {a0 a1 e : Int} (hm : sc_ok (sc_m μ)) (h0 : 1 ≤ a0) (h0' : a0 < 16) (h1 : 0 ≤ a1) (h1' : a1 ≤ 7) (he : 0 ≤ e) (he' : e ≤ 7) : mp82_81 a0 e a1 μ ∧ mv82_81 a0 e a1 μ = μ 83 (8 * (a0 - 1) + e) + sp_st (sc_m μ) e a1 := by
  unfold mp82_81 mv82_81
  rw [mx_shl3 (by omega) (by omega), mx_step ⟨he, he'⟩ ⟨h1, h1'⟩, show (a0 - 1) * 8 + e = 8 * (a0 - 1) + e by omega]
  exact ⟨by omega, rfl⟩
theorem mc81_81 {a0 a1 : Int} (hp : mp81_81 a0 a1 μ) (hq : Q (.inl (some (.inl (mv81_81 a0 a1 μ)))) mi_G0 μ) : mi_cok X 81 [(.inr (.inl (some 81))), (.inl a0), (.inl a1)] mi_G0 μ u Q := by
  obtain ⟨hm, ⟨x1, x2⟩, ⟨d1, d2⟩, hR⟩ := hp
  obtain ⟨-, -, ⟨f1, f2⟩, -⟩ := id hm
  have s2 : μ 2 0 = sc_m μ 2 := (sc_m_c μ).2.2.1 0 (by decide) (by decide)
  apply me81_81
  refine qp_u (A := fun i b => mk81_81_5 X Q u a0 a1 b i μ) (fun i b => b = am (fun e => μ 83 (8 * (a0 - 1) + e) + sp_st (sc_m μ) e a1) (i - 1).toNat) (a := 1) (n := sc_m μ 2 + 1) (by omega) ?_ ?_ rfl
  · rintro b rfl
    apply mh81_81_5
    rw [s2, mi_wr_id (by omega) (by omega), mi_wr_id (by omega) (by omega), if_pos (by omega), show sc_m μ 2 + 1 - 1 = sc_m μ 2 by omega]
    exact hq
  · rintro i b hi hi' rfl k
    have hb := am_b (f := fun e => μ 83 (8 * (a0 - 1) + e) + sp_st (sc_m μ) e a1) (i - 1).toNat
    have r1 := hR i (by omega) (by omega)
    have r2 := hR (am (fun e => μ 83 (8 * (a0 - 1) + e) + sp_st (sc_m μ) e a1) (i - 1).toNat) hb.1 (by omega)
    have s1 := st_b hm i a1
    have s3 := st_b hm (am (fun e => μ 83 (8 * (a0 - 1) + e) + sp_st (sc_m μ) e a1) (i - 1).toNat) a1
    obtain ⟨p1, p2⟩ := mx_pb (μ := μ) (a0 := a0) (a1 := a1) (e := i) hm x1 x2 d1 d2 (by omega) (by omega)
    obtain ⟨p3, p4⟩ := mx_pb (μ := μ) (a0 := a0) (a1 := a1) (e := am (fun e => μ 83 (8 * (a0 - 1) + e) + sp_st (sc_m μ) e a1) (i - 1).toNat) hm x1 x2 d1 d2 hb.1 (by omega)
    apply mh81_81_5
    rw [s2, p2, p4, mi_wr_id (z := sc_m μ 2) (by omega) (by omega), mi_wr_id (z := i) (by omega) (by omega), if_neg (by omega), mi_wr_id (z := μ 83 (8 * (a0 - 1) + i) + sp_st (sc_m μ) i a1) (by omega) (by omega), mi_wr_id (by omega) (by omega)]
    refine ⟨p1, p3, k _ ?_⟩
    have := am_s (f := fun e => μ 83 (8 * (a0 - 1) + e) + sp_st (sc_m μ) e a1) (i := i - 1) (by omega)
    rw [show i - 1 + 1 = i by omega] at this
    rw [show i + 1 - 1 = i by omega, this]
end
