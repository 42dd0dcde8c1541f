section
variable {X : mi_X} {k : Nat} {Ge : mi_G} {Q Q' : mi_R → mi_G → mi_M → Prop} {pc nx aux : Nat} {ls : mi_L} {st st' : mi_S} {G : mi_G} {μ : mi_M} {u b : mi_U} {as : List mi_V}
theorem mi_par {k : Nat} (hk : k < 262) (n : Nat) (hn : n = (bif mi_sta k then (mi_hd k).1 else (mi_hd k).1 - 1)) : ∀ sig, parseMethodDescriptor (mi_nm k).desc = some sig → n = sig.parameters.length := fun sig h => by
  have := (mi_nmf k hk).2.2.2.1
  rw [h, ← hn] at this
  exact (Option.some.inj this).symm
theorem mi_gwc (y : MethodName) (c : ByteArray) (n : Nat) (r : Option FieldType) : mi_gw (Cond.code y c n r) = true := rfl
theorem mi_gww (y : MethodName) (c : ByteArray) (n : Nat) (r : Option FieldType) (h : List (Nat × Nat × Nat × Nat)) : mi_gw (Cond.codeWith y c n r h) = true := rfl
/-- the words and the room of a call -/
theorem mi_callB {base : Nat} {D : va_G} {ca : Nat → ClassId} {sa : Nat → Nat} {p : Program} {l : Launch} {R : Room} {s : State} {m : MethodId} {args : Array Value} {meth : Method} {c : Code} {kind i n : Nat} (hc : mi_ckc k aux kind i = true) (h4 : kind ≠ 4) (h1 : kind ≠ 1) (hA : mi_AF X base D ca sa k p l R s m meth c) (hn : n = (bif mi_sta aux then (mi_hd aux).1 else (mi_hd aux).1 - 1)) :
    CallB R s args (mi_rs (mi_on k)) i (mi_nm aux) (mi_cd aux) (mi_hd aux).2.1 (mi_rt aux) [mi_w aux] (mi_room aux b) b.1 b.2 n := by
  obtain ⟨c1, c2, c3, c4, c5, c6⟩ := mi_ckc_spec hc
  obtain ⟨hx, hbb, hml, hre, hown, hlk, hin, hex, hsT, hfr, hlo, hE⟩ := hA
  obtain ⟨f1, f2, f3, f4, f5, f6, f7, f8, f9, f10, f11, f12⟩ := mi_nmf aux c1
  have hh := (mi_ML_k _ c3).1 h4
  have hw := mi_w_code hh
  have hin : mi_w aux ∈ lw_tbl := f8 c2
  refine ⟨rfl, rfl, Nat.le_trans c4 hfr, Nat.le_trans c5 hlo, fun w hw' a' U hW => ?_, by rw [hw]; exact List.mem_cons_self, by rw [← hw]; exact hE.w hin (by rw [hw]; rfl), ?_, f2, mi_par c1 n hn, ?_⟩
  · have : w = mi_w aux := by simpa using hw'
    subst this
    rw [hw] at hin ⊢
    exact mi_gw_at hW rfl (hE.w (a := #[]) hin rfl)
  · rw [f1]
    exact hE.w (mi_WC_ok _ (mi_WC_all _ f6)) rfl
  · have := mi_ML_ok _ c3
    simp only [mi_wML, mi_beq_f h1, cond_false] at this
    exact hE.w this rfl
theorem mi_pre {base : Nat} {D : va_G} {ca : Nat → ClassId} {sa adE ad : Nat → Nat} {R : Room} {s : State} {la : Array Slot} {H : Heap} {locs : List Loc} {cells slots : Nat} (hE : mi_env X base D ca sa s s.heap) (hS : mi_SF base D ca sa adE k Ge ls st G μ u R s ad la H locs cells slots) (hv : ∀ v ∈ as, v ∈ st) : ∀ U : State, U.heap = H → s.WarmedH U.vm → mi_Pc X base D ca sa ad G μ as (as.map (mi_c ad)).toArray U := by
  obtain ⟨s1, s2, s3, s4, s5, ⟨w1, w2, w3, w4, w5, w6⟩, s7, s8⟩ := hS
  intro U hU hW
  subst hU
  exact ⟨rfl, hE.go hW s7.1 s7.2.1, ⟨w1, w2, w3, fun _ _ => rfl, Nat.le_refl _, w6⟩, fun v h => s5 v (hv v h)⟩
/-- invokevirtual -/
theorem mi_s_invV (h262 : k < 262) {i : Nat} (hat : mi_at (mi_tb k) pc = some (.invokevirtual i, nx, aux)) (ha : aux < 9990) (hp : mi_pop (mi_hd aux).1 st [] = some (as, st')) (hrc : mi_rc (mi_hd aux).2.2.2.2.1 G as = true) (hwd : mi_wd st' ≤ 8) (hb : b.1 ≤ u.1 ∧ b.2 ≤ u.2) (hcok : mi_cok X aux as G μ b Q')
    (hret : ∀ v G' μ', Q' (.inl v) G' μ' → mi_ok X k Ge Q nx ls (v.toList ++ st') G' μ' (u.1 - b.1, u.2 - b.2))
    (hthr : ∀ G' μ', Q' (.inr ()) G' μ' → match mi_ex k pc with
      | none => Q (.inr ()) (bif (mi_hd k).2.2.2.1 then G' else Ge) μ'
      | some h => mi_ok X k Ge Q h.1 (mi_lset ls h.2 none) [] G' μ' (u.1 - b.1, u.2 - b.2)) : mi_ok X k Ge Q pc ls st G μ u := by
  obtain ⟨hd, hnx, hc⟩ := mi_dec h262 hat 3 rfl (by decide)
  simp only [mi_ck2, mi_beq_f (show aux ≠ 9997 by omega), mi_beq_f (show aux ≠ 9996 by omega), cond_false, Bool.and_eq_true, decide_eq_true_eq] at hc
  obtain ⟨hc, hrt⟩ := hc
  obtain ⟨c1, c2, c3, c4, c5, c6⟩ := mi_ckc_spec hc
  obtain ⟨f1, f2, f3, f4, f5, f6, f7, f8, f9, f10, f11, f12⟩ := mi_nmf aux c1
  have hsta : mi_sta aux = false := (mi_ML_k _ c3).2.2.2.1 (Or.inl rfl)
  obtain ⟨p1, p2⟩ := mi_pop_spec _ _ _ _ _ hp
  simp only [List.reverse_nil, List.nil_append, List.length_nil, Nat.zero_add] at p1 p2
  intro base D ca sa adE p l e R s m args below meth c hA ad la H locs cells slots hS
  have hA' := hA
  have hS' := hS
  obtain ⟨hx, hbb, hml, hre, hown, hlk, hin, hex, hsT, hfr, hlo, hE⟩ := hA'
  obtain ⟨s1, s2, s3, s4, s5, s6, s7, s8, s9, s10⟩ := hS'
  match as, hrc, p1, p2, hcok, hp with
  | [], _, _, p2, _, _ => have := f7 hsta; simp only [List.length_nil] at p2; omega
  | .inl _ :: _, hrc, _, _, _, _ => rw [hrt] at hrc; simp only [mi_rc] at hrc; have := mi_beq hrc; omega
  | .inr (.inr _) :: _, hrc, _, _, _, _ => rw [hrt] at hrc; simp only [mi_rc] at hrc; have := mi_beq hrc; omega
  | .inr (.inl none) :: _, hrc, _, _, _, _ => rw [hrt] at hrc; simp only [mi_rc] at hrc; have := mi_beq hrc; omega
  | .inr (.inl (some r)) :: As, hrc, p1, p2, hcok, hp =>
    rw [hrt] at hrc
    simp only [mi_rc, mi_beq_f (show 10 + mi_on aux ≠ 0 by omega), Bool.false_or, Bool.and_eq_true] at hrc
    have r1 := mi_blt hrc.1
    have r2 := mi_beq hrc.2
    have hon : mi_on aux < 13 := by
      rcases (s6.2.2.2.2.2.2.2 r r1).2 with h | ⟨h1, h2, h3⟩ <;> omega
    obtain ⟨k1, k2, k3, k4⟩ := mi_cls _ hon
    have he := mi_W_get (ca := ca) (ad := ad) (μ := μ) r1
    rw [mi_cl_obj r2] at he
    have hrecv := va_recv hE.2.1 s6.1 k1 he
    have hst : st.map (mi_c ad) = (As.map (mi_c ad)).reverse ++ .ref (ad r) :: st'.map (mi_c ad) := by
      rw [p1, List.reverse_cons, List.append_assoc, List.map_append, List.map_append, List.map_reverse]
      rfl
    have hmem : ∀ v ∈ (.inr (.inl (some r)) :: As : List mi_V), v ∈ st := fun v hv => by rw [p1]; exact List.mem_append_left _ (List.mem_reverse.mpr hv)
    have hmem' : ∀ v ∈ st', v ∈ st := fun v hv => by rw [p1]; exact List.mem_append_right _ hv
    refine mi_after (a := (Value.ref (ad r) :: As.map (mi_c ad)).toArray) h262 hnx hA hS hb c6 hmem' ?_ hret hthr
    refine vx_runV (Ts := mi_gl) (C := mi_rs (mi_on aux)) (n := (mi_hd aux).1 - 1) ⟨hx, hbb, hml, hown, hE.gl⟩ (hcok base D ca sa ad l hsT) ⟨mi_callB hc (by decide) (by decide) hA (by rw [hsta]; rfl), hE.w (f10 hsta) rfl, hE.w (f11 (by rw [hrt]; omega)) rfl⟩ ⟨mi_blind, hrecv, mi_pre hE hS hmem⟩ rfl (by simp only [List.length_map, List.length_cons] at p2 ⊢; omega) s2 hst (lv_room (by rw [mi_wd_cat]; exact hwd)) hd ⟨by omega, by omega⟩
/-- invokestatic -/
theorem mi_s_invS (h262 : k < 262) {i : Nat} (hat : mi_at (mi_tb k) pc = some (.invokestatic i, nx, aux)) (ha : aux < 9990) (hp : mi_pop (mi_hd aux).1 st [] = some (as, st')) (hwd : mi_wd st' ≤ 8) (hb : b.1 ≤ u.1 ∧ b.2 ≤ u.2) (hcok : mi_cok X aux as G μ b Q')
    (hret : ∀ v G' μ', Q' (.inl v) G' μ' → mi_ok X k Ge Q nx ls (v.toList ++ st') G' μ' (u.1 - b.1, u.2 - b.2))
    (hthr : (mi_hd aux).2.2.2.2.2 = false → ∀ G' μ', ¬ Q' (.inr ()) G' μ') : mi_ok X k Ge Q pc ls st G μ u := by
  obtain ⟨hd, hnx, hc⟩ := mi_dec h262 hat 3 rfl (by decide)
  simp only [mi_ck2, mi_beq_f (show aux ≠ 9998 by omega), cond_false, Bool.or_eq_true] at hc
  obtain ⟨p1, p2⟩ := mi_pop_spec _ _ _ _ _ hp
  simp only [List.reverse_nil, List.nil_append, List.length_nil, Nat.zero_add] at p1 p2
  have hmem : ∀ v ∈ as, v ∈ st := fun v hv => by rw [p1]; exact List.mem_append_left _ (List.mem_reverse.mpr hv)
  have hmem' : ∀ v ∈ st', v ∈ st := fun v hv => by rw [p1]; exact List.mem_append_right _ hv
  intro base D ca sa adE p l e R s m args below meth c hA ad la H locs cells slots hS
  have hA' := hA
  have hS' := hS
  obtain ⟨hx, hbb, hml, hre, hown, hlk, hin, hex, hsT, hfr, hlo, hE⟩ := hA'
  obtain ⟨s1, s2, s3, s4, s5, s6, s7, s8, s9, s10⟩ := hS'
  have hst : st.map (mi_c ad) = (as.map (mi_c ad)).reverse ++ st'.map (mi_c ad) := by
    rw [p1, List.map_append, List.map_reverse]
  rcases hc with (hc | hc) | hc
  · obtain ⟨c1, c2, c3, c4, c5, c6⟩ := mi_ckc_spec hc
    obtain ⟨f1, f2, f3, f4, f5, f6, f7, f8, f9, f10, f11, f12⟩ := mi_nmf aux c1
    obtain ⟨hsta, hth⟩ := (mi_ML_k _ c3).2.2.1 (Or.inl rfl)
    refine mi_after (a := (as.map (mi_c ad)).toArray) h262 hnx hA hS hb c6 hmem' ?_ hret (fun G' μ' h => absurd h (hthr hth G' μ'))
    exact vx_runS (Ts := mi_gl) (n := (mi_hd aux).1) ⟨hx, hbb, hml, hown, hE.gl⟩ (hcok base D ca sa ad l hsT) ⟨mi_callB hc (by decide) (by decide) hA (by rw [hsta]; rfl), hE.w (f9 c2 hsta) rfl⟩ ⟨mi_blind, mi_pre hE hS hmem⟩ rfl (by simp only [List.length_map]; omega) s2 hst (lv_room (by rw [mi_wd_cat]; exact hwd)) hd ⟨by omega, by omega⟩
  · obtain ⟨c1, c2, c3, c4, c5, c6⟩ := mi_ckc_spec hc
    obtain ⟨f1, f2, f3, f4, f5, f6, f7, f8, f9, f10, f11, f12⟩ := mi_nmf aux c1
    obtain ⟨hsta, hth⟩ := (mi_ML_k _ c3).2.2.1 (Or.inr (Or.inl rfl))
    have hh := (mi_ML_k _ c3).1 (show (1 : Nat) ≠ 4 by decide)
    have hw := mi_w_code hh
    have hin' : mi_w aux ∈ lw_tbl := f8 c2
    refine mi_after (a := (as.map (mi_c ad)).toArray) h262 hnx hA hS hb c6 hmem' ?_ hret (fun G' μ' h => absurd h (hthr hth G' μ'))
    refine vx_runSN (Ts := mi_gl) (host := "TwoViews") (n := (mi_hd aux).1) (bytes := mi_cd aux) (maxL := (mi_hd aux).2.1) (ret := mi_rt aux) ⟨hx, hbb, hml, hown, hE.gl⟩ (hcok base D ca sa ad l hsT) ⟨⟨⟨rfl, rfl, Nat.le_trans c4 hfr, Nat.le_trans c5 hlo, fun w hw' a' U hW => ?_, by rw [hw]; exact List.mem_cons_self⟩, by rw [← hw]; exact hE.w hin' (by rw [hw]; rfl), ?_, f2, mi_par c1 _ (by rw [hsta]; rfl), ?_⟩, hE.w (f9 c2 hsta) rfl, trivial⟩ ⟨mi_blind, mi_pre hE hS hmem⟩ rfl (by simp only [List.length_map]; omega) s2 hst (lv_room (by rw [mi_wd_cat]; exact hwd)) hd ⟨by omega, by omega⟩
    · have : w = mi_w aux := by simpa using hw'
      subst this
      rw [hw] at hin' ⊢
      exact mi_gw_at hW rfl (hE.w (a := #[]) hin' rfl)
    · rw [f1]
      exact hE.w (mi_WC_ok _ (mi_WC_all _ f6)) rfl
    · have := mi_ML_ok _ c3
      simp only [mi_wML, mi_beq_t, cond_true] at this
      exact hE.w this rfl
  · obtain ⟨c1, c2, c3, c4, c5, c6⟩ := mi_ckc_spec hc
    obtain ⟨f1, f2, f3, f4, f5, f6, f7, f8, f9, f10, f11, f12⟩ := mi_nmf aux c1
    obtain ⟨hsta, hth⟩ := (mi_ML_k _ c3).2.2.1 (Or.inr (Or.inr rfl))
    have hh' := ((mi_ML_k _ c3).2.1 rfl).1
    rcases mi_hxA aux c1 with ⟨hh, -⟩ | ⟨b', t', o', x', hh, -⟩
    · exact absurd hh hh'
    have hw := mi_w_with hh
    have hin' : mi_w aux ∈ lw_tbl := f8 c2
    refine mi_after (a := (as.map (mi_c ad)).toArray) h262 hnx hA hS hb c6 hmem' ?_ hret (fun G' μ' h => absurd h (hthr hth G' μ'))
    have hM := mi_met_of (hcok base D ca sa ad l hsT) (fun E st2 t2 hx2 => by
      obtain ⟨-, ⟨G', μ', ad', hq, -⟩, -⟩ := hx2
      exact hthr hth G' μ' hq)
    refine mi_vx_of (vx_runSW (Ts := mi_gl) (n := (mi_hd aux).1) (bytes := mi_cd aux) (maxL := (mi_hd aux).2.1) (ret := mi_rt aux) (hh := [(0, b', t', 13)]) ⟨hx, hbb, hml, hown, hE.gl⟩ hM ⟨⟨rfl, rfl, Nat.le_trans c4 hfr, Nat.le_trans c5 hlo, fun w hw' a' U hW => ?_, by rw [hw]; exact List.mem_cons_self⟩, by rw [← hw]; exact hE.w hin' (by rw [hw]; rfl), ?_, f2, mi_par c1 _ (by rw [hsta]; rfl), ?_, hE.w (f9 c2 hsta) rfl⟩ ⟨mi_blind, mi_pre hE hS hmem⟩ rfl (by simp only [List.length_map]; omega) s2 hst (lv_room (by rw [mi_wd_cat]; exact hwd)) hd ⟨by omega, by omega⟩)
    · have : w = mi_w aux := by simpa using hw'
      subst this
      rw [hw] at hin' ⊢
      exact mi_gw_at hW rfl (hE.w (a := #[]) hin' rfl)
    · rw [f1]
      exact hE.w (mi_WC_ok _ (mi_WC_all _ f6)) rfl
    · have := mi_ML_ok _ c3
      simp only [mi_wML, mi_beq_f (show (4 : Nat) ≠ 1 by decide), cond_false] at this
      exact hE.w this rfl
/-- a constructor's call -/
theorem mi_s_invI (h262 : k < 262) {i : Nat} (hat : mi_at (mi_tb k) pc = some (.invokespecial i, nx, aux)) (ha : aux < 9990) (hp : mi_pop (mi_hd aux).1 st [] = some (as, st')) (hr0 : ∃ r As, as = .inr (.inl (some r)) :: As) (hwd : mi_wd st' ≤ 8) (hb : b.1 ≤ u.1 ∧ b.2 ≤ u.2) (hcok : mi_cok X aux as G μ b Q')
    (hret : ∀ v G' μ', Q' (.inl v) G' μ' → mi_ok X k Ge Q nx ls (v.toList ++ st') G' μ' (u.1 - b.1, u.2 - b.2))
    (hthr : (mi_hd aux).2.2.2.2.2 = false → ∀ G' μ', ¬ Q' (.inr ()) G' μ') : mi_ok X k Ge Q pc ls st G μ u := by
  obtain ⟨hd, hnx, hc⟩ := mi_dec h262 hat 3 rfl (by decide)
  simp only [mi_ck2, mi_beq_f (show aux ≠ 9999 by omega), cond_false] at hc
  obtain ⟨p1, p2⟩ := mi_pop_spec _ _ _ _ _ hp
  simp only [List.reverse_nil, List.nil_append, List.length_nil, Nat.zero_add] at p1 p2
  have hmem : ∀ v ∈ as, v ∈ st := fun v hv => by rw [p1]; exact List.mem_append_left _ (List.mem_reverse.mpr hv)
  have hmem' : ∀ v ∈ st', v ∈ st := fun v hv => by rw [p1]; exact List.mem_append_right _ hv
  obtain ⟨r, As, rfl⟩ := hr0
  intro base D ca sa adE p l e R s m args below meth c hA ad la H locs cells slots hS
  have hA' := hA
  have hS' := hS
  obtain ⟨hx, hbb, hml, hre, hown, hlk, hin, hex, hsT, hfr, hlo, hE⟩ := hA'
  obtain ⟨s1, s2, s3, s4, s5, s6, s7, s8, s9, s10⟩ := hS'
  have hst : st.map (mi_c ad) = (As.map (mi_c ad)).reverse ++ .ref (ad r) :: st'.map (mi_c ad) := by
    rw [p1, List.reverse_cons, List.append_assoc, List.map_append, List.map_append, List.map_reverse]
    rfl
  obtain ⟨c1, c2, c3, c4, c5, c6⟩ := mi_ckc_spec hc
  obtain ⟨f1, f2, f3, f4, f5, f6, f7, f8, f9, f10, f11, f12⟩ := mi_nmf aux c1
  have hsta : mi_sta aux = false := (mi_ML_k _ c3).2.2.2.1 (Or.inr rfl)
  obtain ⟨hnm, hrt, hth⟩ := (mi_ML_k _ c3).2.2.2.2 rfl
  refine mi_after (a := (Value.ref (ad r) :: As.map (mi_c ad)).toArray) h262 hnx hA hS hb c6 hmem' ?_ hret (fun G' μ' h => absurd h (hthr hth G' μ'))
  have hB := mi_callB (b := b) (args := args) hc (by decide) (by decide) hA (n := (mi_hd aux).1 - 1) (by rw [hsta]; rfl)
  rw [hrt] at hB
  exact vx_runI (Ts := mi_gl) (n := (mi_hd aux).1 - 1) ⟨hx, hbb, hml, hown, hE.gl⟩ (hcok base D ca sa ad l hsT) ⟨hB, hnm, hE.w (f10 hsta) rfl⟩ ⟨mi_blind, mi_pre hE hS hmem⟩ rfl (by simp only [List.length_map, List.length_cons] at p2 ⊢; omega) s2 hst (lv_room (by rw [mi_wd_cat]; exact hwd)) hd ⟨by omega, by omega⟩
end
