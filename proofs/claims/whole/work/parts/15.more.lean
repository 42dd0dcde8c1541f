/-! statics, the script, texts by name; new cells; Object's constructor; arraycopy -/
theorem mi_getD_l {α : Type} (l : List α) (i : Nat) (d : α) (h : i < l.length) : ∃ x, l[i]? = some x ∧ l.getD i d = x := ⟨l[i], by simp [h], by simp [h]⟩
section
variable {X : mi_X} {k : Nat} {Ge : mi_G} {Q : mi_R → mi_G → mi_M → Prop} {pc nx aux : Nat} {ls : mi_L} {st st' : mi_S} {G : mi_G} {μ : mi_M} {u : mi_U}
theorem mi_s_getS (h262 : k < 262) {i : Nat} (hat : mi_at (mi_tb k) pc = some (.getstatic i, nx, aux)) (hk : mi_ok X k Ge Q nx ls (.inr (.inl (some aux)) :: st) G μ u) : mi_ok X k Ge Q pc ls st G μ u := by
  obtain ⟨hd, hn, hc⟩ := mi_dec h262 hat 3 rfl (by decide)
  subst hn
  simp only [mi_ck2, Bool.and_eq_true, Bool.or_eq_true, decide_eq_true_eq] at hc
  obtain ⟨⟨c1, c2⟩, c3⟩ := hc
  have c1 := mi_ble c1
  have c2 := mi_blt c2
  intro base D ca sa adE p l e R s m args below meth c hA ad la H locs cells slots hS
  have hA' := hA
  obtain ⟨hx, hb, hml, hre, hown, hlk, hin, hex, hst, hfr, hlo, hE⟩ := hA'
  obtain ⟨s1, s2, s3, s4, s5, s6, s7⟩ := hS
  have hz := (hE.2.2.1 (aux - 1000) (by omega)).1
  have e9 : 1000 + (aux - 1000) = aux := by omega
  rw [e9, ← s6.2.2.1 aux c1] at hz
  have hgo : W p l e R s m args below meth c H locs cells slots (vx_MQ below (mi_Qc base D ca sa adE k Ge Q) (mi_XC base D ca sa adE k Ge Q) args s R.cells R.slots (mi_A base)) (F0 m (pc + 3) la (.ref (ad aux) :: st.map (mi_c ad))) :=
    hk base D ca sa adE p l e R s m args below meth c hA ad la H locs cells slots ⟨s1, s2, s3, s4, mi_vo_c (mi_vo_r (Or.inr c1)) s5, s6, s7⟩
  rcases c3 with c3 | c3
  · exact va_getsN (ref := "TwoViews") (host := "TwoViews") hx hb hz s7.1 hown (hE.w (mi_SL_ok _ c3) rfl) (fun x h => h) hd hgo
  · exact va_gets (ref := "TwoViews") hx hb hz s7.1 hown (hE.w (mi_SL_ok _ c3) rfl) (fun x h => h) hd hgo
theorem mi_sv8 : ∀ j, j < 6 → (mi_sv.getD j []).length = 8 := by decide
theorem mi_ro_st {r : Nat} (h1 : r < 1010) (j : Int) : mi_ro X r j = (mi_sv.getD (r - 1000) []).getD j.toNat 0 := by
  have : Nat.blt r 1010 = true := Nat.ble_eq_true_of_le h1
  simp only [mi_ro, this, cond_true]
theorem mi_s_ialdS (h262 : k < 262) (hat : mi_at (mi_tb k) pc = some (.iaload, nx, aux)) {r : Nat} {j : Int} (h1 : 1000 ≤ r) (h2 : r < 1006) (hj : 0 ≤ j ∧ j < 8) (hk : mi_ok X k Ge Q nx ls (.inl (mi_ro X r j) :: st) G μ u) : mi_ok X k Ge Q pc ls (.inl j :: .inr (.inl (some r)) :: st) G μ u := by
  obtain ⟨hd, hn, -⟩ := mi_dec h262 hat 1 rfl (by decide)
  subst hn
  intro base D ca sa adE p l e R s m args below meth c hA ad la H locs cells slots hS
  have hA' := hA
  obtain ⟨hx, hb, hml, hre, hown, hlk, hin, hex, hst, hfr, hlo, hE⟩ := hA'
  obtain ⟨s1, s2, s3, s4, s5, s6, s7⟩ := hS
  have hT := (hE.2.2.1 (r - 1000) (by omega)).2
  have e9 : 1000 + (r - 1000) = r := by omega
  rw [e9, ← s6.2.2.1 r h1] at hT
  obtain ⟨i1, i2⟩ := mi_ix (n := 8) hj (by omega)
  refine va_ti (v := .int (Int32.ofInt (mi_ro X r j))) hx hb hT s7.1 i1 ?_ hd ?_
  · rw [i2, mi_ro_st (by omega)]
  · exact hk base D ca sa adE p l e R s m args below meth c hA ad la H locs cells slots ⟨s1, s2, s3, s4, mi_vo_c mi_vo_i (fun v hv => s5 v (List.mem_cons_of_mem _ (List.mem_cons_of_mem _ hv))), s6, s7⟩
theorem mi_s_ialdX (h262 : k < 262) (hat : mi_at (mi_tb k) pc = some (.iaload, nx, aux)) {j : Int} (hj : 0 ≤ j ∧ j < (X.2 : Int)) (hk : mi_ok X k Ge Q nx ls (.inl (mi_ro X 1010 j) :: st) G μ u) : mi_ok X k Ge Q pc ls (.inl j :: .inr (.inl (some 1010)) :: st) G μ u := by
  obtain ⟨hd, hn, -⟩ := mi_dec h262 hat 1 rfl (by decide)
  subst hn
  intro base D ca sa adE p l e R s m args below meth c hA ad la H locs cells slots hS
  have hA' := hA
  obtain ⟨hx, hb, hml, hre, hown, hlk, hin, hex, hst, hfr, hlo, hE⟩ := hA'
  obtain ⟨s1, s2, s3, s4, s5, s6, s7⟩ := hS
  obtain ⟨x1, x2, x3, x4⟩ := hE.2.2.2.1
  obtain ⟨i1, i2⟩ := mi_ix hj x3
  have e9 : mi_c ad (.inr (.inl (some 1010))) = .ref (sa 1010) := by
    show Value.ref (ad 1010) = _
    rw [s6.2.2.1 1010 (by omega)]
  show W p l e R s m args below meth c H locs cells slots _ (F0 m pc la (.int (Int32.ofInt j) :: mi_c ad (.inr (.inl (some 1010))) :: st.map (mi_c ad)))
  rw [e9]
  refine va_sld hx hb x1 (Nat.lt_of_lt_of_le x2 x4) (show ¬ mi_A base (sa 1010) by unfold mi_A; omega) s7.1 i1 hd ?_
  rw [i2]
  have e8 : X.1 j.toNat = Int32.ofInt (mi_ro X 1010 j) := (mi_of_toInt _).symm
  rw [e8]
  exact hk base D ca sa adE p l e R s m args below meth c hA ad la H locs cells slots ⟨s1, s2, s3, s4, mi_vo_c mi_vo_i (fun v hv => s5 v (List.mem_cons_of_mem _ (List.mem_cons_of_mem _ hv))), s6, s7⟩
theorem mi_s_alenX (h262 : k < 262) (hat : mi_at (mi_tb k) pc = some (.arraylength, nx, aux)) (hk : mi_ok X k Ge Q nx ls (.inl (X.2 : Int) :: st) G μ u) : mi_ok X k Ge Q pc ls (.inr (.inl (some 1010)) :: st) G μ u := by
  obtain ⟨hd, hn, -⟩ := mi_dec h262 hat 1 rfl (by decide)
  subst hn
  intro base D ca sa adE p l e R s m args below meth c hA ad la H locs cells slots hS
  have hA' := hA
  obtain ⟨hx, hb, hml, hre, hown, hlk, hin, hex, hst, hfr, hlo, hE⟩ := hA'
  obtain ⟨s1, s2, s3, s4, s5, s6, s7⟩ := hS
  obtain ⟨x1, x2, x3, x4⟩ := hE.2.2.2.1
  have e9 : mi_c ad (.inr (.inl (some 1010))) = .ref (sa 1010) := by
    show Value.ref (ad 1010) = _
    rw [s6.2.2.1 1010 (by omega)]
  show W p l e R s m args below meth c H locs cells slots _ (F0 m pc la (mi_c ad (.inr (.inl (some 1010))) :: st.map (mi_c ad)))
  rw [e9]
  refine va_slen hx hb x1 (Nat.lt_of_lt_of_le x2 x4) (show ¬ mi_A base (sa 1010) by unfold mi_A; omega) s7.1 hd ?_
  rw [← Int32.ofInt_eq_ofNat]
  exact hk base D ca sa adE p l e R s m args below meth c hA ad la H locs cells slots ⟨s1, s2, s3, s4, mi_vo_c mi_vo_i (fun v hv => s5 v (List.mem_cons_of_mem _ hv)), s6, s7⟩
theorem mi_TL_lo : ∀ e ∈ mi_TL, 1020 ≤ e.2.2 ∧ e.2.2 < 1029 := by decide
theorem mi_s_ldcS (h262 : k < 262) {i : Nat} (hat : mi_at (mi_tb k) pc = some (.ldc i, nx, aux)) (ha : Nat.blt aux 2147483648 = false) (hk : mi_ok X k Ge Q nx ls (.inr (.inl (some (aux - 2147483648))) :: st) G μ u) : mi_ok X k Ge Q pc ls st G μ u := by
  obtain ⟨hd, hn, hc⟩ := mi_dec h262 hat 2 rfl (by decide)
  subst hn
  simp only [mi_ck2, ha, cond_false, decide_eq_true_eq] at hc
  intro base D ca sa adE p l e R s m args below meth c hA ad la H locs cells slots hS
  have hA' := hA
  obtain ⟨hx, hb, hml, hre, hown, hlk, hin, hex, hst, hfr, hlo, hE⟩ := hA'
  obtain ⟨s1, s2, s3, s4, s5, s6, s7⟩ := hS
  have hR := hE.2.2.2.2.1.1 _ hc
  have hlo := mi_TL_lo _ hc
  refine va_ldcS hx hb hown hR hd ?_
  show W p l e R s m args below meth c H locs cells slots _ (F0 m (pc + 2) la (.ref (sa (aux - 2147483648)) :: st.map (mi_c ad)))
  rw [← s6.2.2.1 _ (show 1000 ≤ aux - 2147483648 by have := hlo.1; simp only at this; omega)]
  exact hk base D ca sa adE p l e R s m args below meth c hA ad la H locs cells slots ⟨s1, s2, s3, s4, mi_vo_c (mi_vo_r (Or.inr (by have := hlo.1; simp only at this; omega))) s5, s6, s7⟩
/-- one cell more -/
theorem mi_push {base : Nat} {D : va_G} {ca : Nat → ClassId} {sa adE : Nat → Nat} {R : Room} {s : State} {ad : Nat → Nat} {la : Array Slot} {H H1 : Heap} {locs : List Loc} {cells slots q w : Nat} {kd : Nat × Nat}
    (hS : mi_SF base D ca sa adE k Ge ls st' G μ u R s ad la H locs cells slots) (hv : ∀ v ∈ st, v ∈ st') (hn : G.2.2 < 999) (hkd : kd.2 ≤ 4096 ∧ (kd.1 ≤ 4 ∨ 10 ≤ kd.1 ∧ kd.1 < 23 ∧ kd.2 = mi_cn (kd.1 - 10)))
    (hP : va_P D vwCl (mi_W ca ad G μ ++ [(q, mi_cl ca ad kd (fun _ => none) (fun _ => 0))]) H1) (hD : va_D (mi_A base) (mi_W ca ad G μ ++ [(q, mi_cl ca ad kd (fun _ => none) (fun _ => 0))])) (h7 : va_S (mi_A base) s.heap H1 locs) (hu : 1 ≤ u.1 ∧ w ≤ u.2) :
    mi_SF base D ca sa adE k Ge ls (.inr (.inl (some G.2.2)) :: st) (mi_up G.1 G.2.2 kd, mi_up G.2.1 G.2.2 (fun _ => none), G.2.2 + 1) (mi_row μ G.2.2 (fun _ => 0)) (u.1 - 1, u.2 - w) R s (mi_up ad G.2.2 q) la H1 locs (cells + 1) (slots + w) ∧ ((.inr (.inl (some G.2.2)) :: st : mi_S).map (mi_c (mi_up ad G.2.2 q)) = .ref q :: st.map (mi_c ad)) := by
  obtain ⟨s1, s2, s3, s4, s5, ⟨w1, w2, w3, w4, w5, w6⟩, s7, s8, s9, s10⟩ := hS
  have hlt : ∀ i, i < G.2.2 → mi_up ad G.2.2 q i = ad i := fun i hi => mi_up_ne (Nat.ne_of_lt hi)
  have hge : ∀ i, 1000 ≤ i → mi_up ad G.2.2 q i = ad i := fun i hi => mi_up_ne (by omega)
  have hvo : ∀ v, mi_vo G.2.2 v → mi_vo (G.2.2 + 1) v := fun v h r e => (h r e).imp (fun h => by omega) id
  rw [mi_W_push w6.2.1 (fun _ => rfl)] at hP hD
  refine ⟨⟨s1, s2, s3, fun i v hi => ?_, mi_vo_c (mi_vo_r (Or.inl (Nat.lt_succ_self _))) (fun v h => hvo v (s5 v (hv v h))), ⟨hP, hD, fun i hi => (hge i hi).trans (w3 i hi), fun i hi => (hlt i (Nat.lt_of_lt_of_le hi w5)).trans (w4 i hi), Nat.le_succ_of_le w5, ⟨by show G.2.2 + 1 ≤ 999; omega, ?_, ?_⟩⟩, h7, fun h => ?_, by show cells + 1 + (u.1 - 1) ≤ R.cells; omega, by show slots + w + (u.2 - w) ≤ R.slots; omega⟩, ?_⟩
  · obtain ⟨a1, a2, a3⟩ := s4 i v hi
    exact ⟨by rw [mi_c_ad a2 hlt hge]; exact a1, hvo v a2, a3⟩
  · intro i k' j hi hj
    by_cases e : i = G.2.2
    · subst e
      simp only [mi_up_self] at hj
      cases hj
    · simp only [mi_up_ne e] at hj
      have := w6.2.1 i k' j (by have : i < G.2.2 + 1 := hi; omega) hj
      exact Nat.lt_succ_of_lt this
  · intro i hi
    by_cases e : i = G.2.2
    · subst e
      simp only [mi_up_self]
      exact hkd
    · simp only [mi_up_ne e]
      exact w6.2.2 i (by have : i < G.2.2 + 1 := hi; omega)
  · obtain ⟨a1, a2⟩ := s8 h
    refine ⟨⟨Nat.le_succ_of_le a1.1, fun i hi => ?_⟩, a2⟩
    have e : i ≠ G.2.2 := by have := a1.1; omega
    simp only [mi_up_ne e]
    exact a1.2 i hi
  · have e1 : st.map (mi_c (mi_up ad G.2.2 q)) = st.map (mi_c ad) := List.map_congr_left (fun v h => mi_c_ad (s5 v (hv v h)) hlt hge)
    show Value.ref (mi_up ad G.2.2 q G.2.2) :: st.map (mi_c (mi_up ad G.2.2 q)) = _
    rw [e1, mi_up_self]
end
