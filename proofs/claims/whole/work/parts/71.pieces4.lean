/-! makePieces (the class) -/
def mp49_76 (v : Int) (μ : mi_M) : Prop := sc_ok (sc_m μ) ∧ (0 ≤ v ∧ v ≤ 1) ∧ in1 μ 72 (sc_m μ) v (sp_sh (sc_m μ) v) ∧ in1 μ 73 (sc_m μ) v (sp_k0 (sc_m μ) v)
def mq49_76 (v : Int) (μ ν : mi_M) : Prop := fr_l [73, 76, 77, 78, 79, 80] μ ν ∧ (∀ k, (k < 192 * v ∨ 192 * v + 192 ≤ k) → ν 73 k = μ 73 k ∧ ν 77 k = μ 77 k ∧ ν 78 k = μ 78 k) ∧ (∀ k, k ≠ v → ν 79 k = μ 79 k) ∧ cpl ν (sc_m μ) v ∧ in1 ν 73 (sc_m μ) v (sp_kn (sc_m μ) v)
/-- all pieces that begin ahead of t -/
def mpi (μ : mi_M) (v t : Int) (ν : mi_M) : Prop := fr_l [76, 77, 78, 79, 80] μ ν ∧ (∀ k, (k < 192 * v ∨ 192 * v + 192 ≤ k) → ν 77 k = μ 77 k ∧ ν 78 k = μ 78 k) ∧ (∀ k, k ≠ v → ν 79 k = μ 79 k) ∧ (∀ x y, sc_in (sc_m μ) x y → ν 77 (192 * v + 16 * y + x) = if sp_k0 (sc_m μ) v x y = 0 ∧ rt (sc_m μ) v x y < t then rk (sc_m μ) v (rt (sc_m μ) v x y) else -1) ∧ (∀ r, 0 ≤ r → r < t → 0 < sz (sc_m μ) v r → ν 78 (192 * v + rk (sc_m μ) v r) = sz (sc_m μ) v r) ∧ ν 79 v = rk (sc_m μ) v t
section
variable {X : mi_X} {Q : mi_R → mi_G → mi_M → Prop} {u : mi_U} {μ ν : mi_M} {v t s : Int}
/-- no piece begins from t to s -/
theorem mpi_skip (hw : sc_m μ 0 ≤ 16) (hh : sc_m μ 1 ≤ 12) (ht : 0 ≤ t) (hs : t ≤ s) (hz : ∀ r, t ≤ r → r < s → ¬ 0 < sz (sc_m μ) v r) (h : mpi μ v t ν) : mpi μ v s ν := by
  obtain ⟨f1, f2, f3, f4, f5, f6⟩ := h
  refine ⟨f1, f2, f3, fun x y hi => ?_, fun r h1 h2 h3 => f5 r h1 (Int.not_le.mp (fun h4 => hz r h4 h2 h3)) h3, by rw [f6, rk_skip ht hs hz]⟩
  rw [f4 x y hi]
  by_cases e : sp_k0 (sc_m μ) v x y = 0 ∧ rt (sc_m μ) v x y < t
  · rw [if_pos e, if_pos ⟨e.1, by omega⟩]
  · rw [if_neg e, if_neg (fun h => ?_)]
    have := hz (rt (sc_m μ) v x y) (Int.not_lt.mp (fun h' => e ⟨h.1, h'⟩)) h.2
    exact this (sz_p hi h.1)
theorem mc49_76 (hp : mp49_76 v μ) (hq : ∀ ν, mq49_76 v μ ν → Q (.inl none) mi_G0 ν) : mi_cok X 49 [(.inr (.inl (some 76))), (.inl v)] mi_G0 μ u Q := by
  obtain ⟨hm, ⟨hv, hv'⟩, hs, hk⟩ := hp
  obtain ⟨⟨w1, w2⟩, ⟨g1, g2⟩, -⟩ := id hm
  have h192 : mi_wr 192 = 192 := by decide
  have hm1 : mi_wr (-1) = -1 := by decide
  apply me49_76
  refine ⟨by omega, ?_⟩
  refine qp_u (A := fun i ν => mk49_76_9 X Q u v i ν) (fun i ν => fr_l [77, 79] μ ν ∧ (∀ k, (k < 192 * v ∨ 192 * v + 192 ≤ k) → ν 77 k = μ 77 k) ∧ (∀ k, ν 79 k = if k = v then 0 else μ 79 k) ∧ ∀ k, 0 ≤ k → k < i → ν 77 (192 * v + k) = -1) (a := 0) (n := 192) (by omega) ?_ ?_ ⟨fr_ls (fr_lr _ _) (by decide) _ _, fun k _ => by rw [ms_other _ (by decide)], fun k => by rw [ms_same], fun k h1 h2 => by omega⟩
  · rintro ν0 ⟨f1, f2, f3, f4⟩
    apply mh49_76_9
    rw [h192, if_neg (by decide)]
    have h0 : mpi μ v (16 * 0 + 0) ν0 := by
      refine ⟨fr_lm f1 rfl, fun k hk => ⟨f2 k hk, by rw [f1 78 (by decide)]⟩, fun k hk => by rw [f3, if_neg hk], fun x y hi => ?_, fun r h1 h2 => by omega, by rw [f3, if_pos rfl]; rfl⟩
      obtain ⟨a1, a2, a3, a4⟩ := id hi
      have rb := rt_b (v := v) w2 g2 hi
      rw [show 192 * v + 16 * y + x = 192 * v + (16 * y + x) by omega, f4 (16 * y + x) (by omega) (by omega), if_neg (by omega)]
    refine qp_2 (A := fun y ν => mk49_76_37 X Q u v y ν) (B := fun y x ν => mk49_76_50 X Q u v y x ν) (I := fun y x ν => mpi μ v (16 * y + x) ν) (w := sc_m μ 0) (h := sc_m μ 1) (by omega) (by omega) ?_ ?_ ?_ ?_ h0
    · rintro ν h
      have e1 : ν 1 1 = sc_m μ 1 := by rw [h.1 1 (by decide)]; rfl
      have es : sc_m ν = sc_m μ := sc_m_frl h.1 (by decide) (by decide) (by decide)
      obtain ⟨b1, b2, b3, b4, b5, b6⟩ := mpi_skip (s := 192) w2 g2 (by omega) (by omega) (fun r h1 h2 h3 => by
        obtain ⟨x, y, ⟨a1, a2, a3, a4⟩, -, -, h4⟩ := sz_rt w2 (by omega) h3
        omega) h
      have hc : cpl ν (sc_m μ) v := ⟨fun x y hi => by
        have rb := rt_b (v := v) w2 g2 hi
        rw [b4 x y hi]
        by_cases e : sp_k0 (sc_m μ) v x y = 0
        · rw [if_pos ⟨e, rb.2.2⟩, if_pos e]
        · rw [if_neg (fun h => e h.1), if_neg e], b5, b6⟩
      apply mh49_76_37
      rw [e1, if_neg (by omega)]
      refine ⟨⟨by rw [es]; exact hm, ⟨hv, hv'⟩, by rw [es]; exact in1_fr (h.1 73 (by decide)) hk, by rw [es]; exact hc⟩, fun ν1 ⟨c1, c2, c3⟩ => hq ν1 ⟨fr_lt (fr_lm h.1 rfl) (fr_lm (fr_l1 c1) rfl), fun k hk => ⟨by rw [c3 k hk, h.1 73 (by decide)], by rw [c1 77 (by decide)]; exact (b2 k hk).1, by rw [c1 78 (by decide)]; exact (b2 k hk).2⟩, fun k hk => by rw [c1 79 (by decide)]; exact b3 k hk, ⟨fun x y hi => by rw [c1 77 (by decide)]; exact hc.1 x y hi, fun r h1 h2 h3 => by rw [c1 78 (by decide)]; exact hc.2.1 r h1 h2 h3, by rw [c1 79 (by decide)]; exact hc.2.2⟩, by rw [es] at c2; exact c2⟩⟩
    · rintro y ν hy hy' h k
      have e1 : ν 1 1 = sc_m μ 1 := by rw [h.1 1 (by decide)]; rfl
      apply mh49_76_37
      rw [e1, mi_wr_id (by omega) (by omega), mi_wr_id (by omega) (by omega), if_pos (by omega)]
      exact k ν h
    · rintro y x ν hy hy' hx hx' h k
      have hi : sc_in (sc_m μ) x y := ⟨hx, hx', hy, hy'⟩
      have es : sc_m ν = sc_m μ := sc_m_frl h.1 (by decide) (by decide) (by decide)
      have rb := rt_b (v := v) w2 g2 hi
      have rkb := rk_b (m := sc_m μ) (v := v) rb.1
      have kb := sp_k0_b (m := sc_m μ) (v := v) (x := x) (y := y)
      have e0 : ν 1 0 = sc_m μ 0 := by rw [h.1 1 (by decide)]; rfl
      obtain ⟨b1, b2, b3, b4, b5, b6⟩ := id h
      -- no piece begins here
      have skip : ¬ (sp_k0 (sc_m μ) v x y = 0 ∧ ¬ rt (sc_m μ) v x y < 16 * y + x) → mk49_76_50 X Q u v y (x + 1) ν := by
        intro hno
        refine k ν (mpi_skip (t := 16 * y + x) (s := 16 * y + (x + 1)) w2 g2 (by omega) (by omega) (fun r h1 h2 h3 => ?_) h)
        obtain ⟨a, b, hab, hk0, hr, h4⟩ := sz_rt w2 (by omega) h3
        obtain ⟨a1, a2, a3, a4⟩ := id hab
        have ea : a = x := by omega
        have eb : b = y := by omega
        subst ea; subst eb
        exact hno ⟨hk0, by omega⟩
      apply mh49_76_50
      rw [mx_spot hy (by omega), e0, mi_wr_id (z := x) (by omega) (by omega), mi_wr_id (z := sc_m μ 0) (by omega) (by omega), if_pos (by omega), h.1 73 (by decide), hk x y hi, mi_wr_id (z := sp_k0 (sc_m μ) v x y) (by omega) (by omega)]
      refine ⟨by omega, ?_⟩
      by_cases ek : sp_k0 (sc_m μ) v x y = 0
      · rw [if_pos ek, b4 x y hi, hm1]
        refine ⟨by omega, ?_⟩
        by_cases er : rt (sc_m μ) v x y < 16 * y + x
        · have cc : sp_k0 (sc_m μ) v x y = 0 ∧ rt (sc_m μ) v x y < 16 * y + x := ⟨ek, er⟩
          rw [if_pos cc, mi_wr_id (by omega) (by omega), if_neg (by omega)]
          exact skip (fun hh => hh.2 er)
        · have cc : ¬ (sp_k0 (sc_m μ) v x y = 0 ∧ rt (sc_m μ) v x y < 16 * y + x) := fun hh => er hh.2
          rw [if_neg cc, hm1, if_pos rfl]
          have ert : rt (sc_m μ) v x y = 16 * y + x := by omega
          have hzp := sz_p hi ek
          rw [ert] at hzp
          have rk1 := rk_b (m := sc_m μ) (v := v) (r := 16 * y + x) (by omega)
          have hb : gb ν v x y (rk (sc_m μ) v (16 * y + x)) := by
            refine ⟨by rw [es]; exact hm, ⟨hv, hv'⟩, by rw [es]; exact in1_fr (h.1 72 (by decide)) hs, by rw [es]; exact in1_fr (h.1 73 (by decide)) hk, by rw [es]; exact hi, by rw [es]; exact ek, by omega, fun a b hab => ?_, fun a b hab => ?_⟩
            · rw [es] at hab
              have rb2 := rt_b (v := v) w2 g2 hab
              rw [b4 a b hab]
              by_cases e3 : sp_k0 (sc_m μ) v a b = 0 ∧ rt (sc_m μ) v a b < 16 * y + x
              · rw [if_pos e3]
                have := rk_lt (m := sc_m μ) (v := v) rb2.1 e3.2 (sz_p hab e3.1)
                have := rk_b (m := sc_m μ) (v := v) rb2.1
                omega
              · rw [if_neg e3]; omega
            · rw [es] at hab
              rw [b4 a b (cn_in hab hi), rt_c hi hab, if_neg (fun hh => er hh.2)]
          intro Q_ hQ
          refine mc50_76 hb (by rw [b6]) (fun ρ hg => hQ ρ (k ρ ?_))
          obtain ⟨c1, c2, c3, c4, c5⟩ := hg
          rw [es] at c2 c3 c4
          have hrs : rk (sc_m μ) v (16 * y + (x + 1)) = rk (sc_m μ) v (16 * y + x) + 1 := by
            rw [show 16 * y + (x + 1) = 16 * y + x + 1 by omega, rk_s (by omega), if_pos hzp]
          refine ⟨fr_lt h.1 c1, fun j hj => ⟨?_, ?_⟩, fun j hj => ?_, fun a b hab => ?_, fun r h1 h2 h3 => ?_, ?_⟩
          · by_cases ee : ρ 77 j = ν 77 j
            · rw [ee]; exact (b2 j hj).1
            · obtain ⟨a, b, d1, d2⟩ := c2 j ee
              obtain ⟨a1, a2, a3, a4⟩ := cn_in d1 hi
              omega
          · rw [c4, if_neg (by omega)]; exact (b2 j hj).2
          · rw [c5, if_neg hj]; exact b3 j hj
          · by_cases ec : cn (sc_m μ) v x y a b
            · rw [c3 a b ec, rt_c hi ec, ert, if_pos ⟨cn_k ec ek, by omega⟩]
            · have e1 : ρ 77 (192 * v + 16 * b + a) = ν 77 (192 * v + 16 * b + a) := by
                refine Classical.byContradiction (fun hne => ?_)
                obtain ⟨a', b', d1, d2⟩ := c2 _ hne
                obtain ⟨p1, p2, p3, p4⟩ := cn_in d1 hi
                obtain ⟨a1, a2, a3, a4⟩ := id hab
                have e5 : a' = a := by omega
                have e6 : b' = b := by omega
                subst e5; subst e6; exact ec d1
              rw [e1, b4 a b hab]
              by_cases e3 : sp_k0 (sc_m μ) v a b = 0 ∧ rt (sc_m μ) v a b < 16 * y + x
              · rw [if_pos e3, if_pos ⟨e3.1, by omega⟩]
              · rw [if_neg e3, if_neg (fun hh => ?_)]
                have e7 : rt (sc_m μ) v a b = rt (sc_m μ) v x y := by
                  have : ¬ rt (sc_m μ) v a b < 16 * y + x := fun h' => e3 ⟨hh.1, h'⟩
                  omega
                exact ec (rt_e w2 hi hab e7)
          · rw [c4]
            by_cases er2 : r = 16 * y + x
            · subst er2; rw [if_pos rfl, ert]
            · have := rk_lt (m := sc_m μ) (v := v) (r := r) (s := 16 * y + x) h1 (by omega) h3
              rw [if_neg (by omega)]
              exact b5 r h1 (by omega) h3
          · rw [c5, if_pos rfl, hrs]
      · rw [if_neg ek]
        exact skip (fun hh => ek hh.1)
    · rintro y ν hy hy' h k
      have e0 : ν 1 0 = sc_m μ 0 := by rw [h.1 1 (by decide)]; rfl
      apply mh49_76_50
      rw [e0, if_neg (by omega)]
      refine k ν ?_
      rw [show 16 * (y + 1) + 0 = 16 * y + 16 by omega]
      refine mpi_skip (t := 16 * y + sc_m μ 0) w2 g2 (by omega) (by omega) (fun r h1 h2 h3 => ?_) h
      obtain ⟨a, b, ⟨a1, a2, a3, a4⟩, -, -, h4⟩ := sz_rt w2 (by omega) h3
      omega
  · rintro i ν hi hi' ⟨f1, f2, f3, f4⟩ k
    apply mh49_76_9
    rw [h192, mi_wr_id (by omega) (by omega), if_pos hi']
    refine ⟨by omega, k _ ⟨fr_ls f1 (by decide) _ _, fun j hj => ?_, fun j => ?_, fun j h1 h2 => ?_⟩⟩
    · rw [ms_same, if_neg (by omega)]; exact f2 j hj
    · rw [ms_other _ (by decide)]; exact f3 j
    · rw [ms_same]
      by_cases e : j = i
      · rw [if_pos (by omega)]
      · rw [if_neg (by omega)]; exact f4 j h1 (by omega)
end
