section
variable {X : mi_X} {k : Nat} {Ge : mi_G} {Q : mi_R → mi_G → mi_M → Prop} {pc nx aux : Nat} {ls : mi_L} {st st' : mi_S} {G : mi_G} {μ : mi_M} {u : mi_U}
theorem mi_wfn (hw : mi_wf G) : G.2.2 ≤ 999 := hw.1
theorem mi_s_iald (h262 : k < 262) (hat : mi_at (mi_tb k) pc = some (.iaload, nx, aux)) {r : Nat} {j : Int} (hr : r < G.2.2) (ht : (G.1 r).1 = 0) (hj : 0 ≤ j ∧ j < ((G.1 r).2 : Int)) (hk : mi_ok X k Ge Q nx ls (.inl (μ r j) :: st) G μ u) : mi_ok X k Ge Q pc ls (.inl j :: .inr (.inl (some r)) :: st) G μ u := by
  obtain ⟨hd, hn, -⟩ := mi_dec h262 hat 1 rfl (by decide)
  subst hn
  intro base D ca sa adE p l e R s m args below meth c hA ad la H locs cells slots hS
  have hA' := hA
  obtain ⟨hx, hb, hml, hre, hown, hlk, hin, hex, hst, hfr, hlo, hE⟩ := hA'
  obtain ⟨s1, s2, s3, s4, s5, s6, s7⟩ := hS
  have he := mi_W_get (ca := ca) (ad := ad) (μ := μ) hr
  rw [mi_cl_0 ht] at he
  have hl : (G.1 r).2 < 2147483648 := by have := (s6.2.2.2.2.2.2.2 r hr).1; omega
  obtain ⟨i1, i2⟩ := mi_ix hj hl
  refine va_iald hx hb hE.2.1 s6.1 r 0 he rfl i1 hd ?_
  rw [i2]
  have e : ((j.toNat : Nat) : Int) = j := by omega
  rw [e]
  exact hk base D ca sa adE p l _ R s m args below meth c hA ad la H locs cells slots ⟨s1, s2, s3, s4, mi_vo_c mi_vo_i (fun v hv => s5 v (List.mem_cons_of_mem _ (List.mem_cons_of_mem _ hv))), s6, s7⟩
theorem mi_s_bald (h262 : k < 262) (hat : mi_at (mi_tb k) pc = some (.baload, nx, aux)) {r : Nat} {j : Int} (hr : r < G.2.2) (ht : (G.1 r).1 = 1) (hj : 0 ≤ j ∧ j < ((G.1 r).2 : Int)) (hk : mi_ok X k Ge Q nx ls (.inl (μ r j) :: st) G μ u) : mi_ok X k Ge Q pc ls (.inl j :: .inr (.inl (some r)) :: st) G μ u := by
  obtain ⟨hd, hn, -⟩ := mi_dec h262 hat 1 rfl (by decide)
  subst hn
  intro base D ca sa adE p l e R s m args below meth c hA ad la H locs cells slots hS
  have hA' := hA
  obtain ⟨hx, hb, hml, hre, hown, hlk, hin, hex, hst, hfr, hlo, hE⟩ := hA'
  obtain ⟨s1, s2, s3, s4, s5, s6, s7⟩ := hS
  have he := mi_W_get (ca := ca) (ad := ad) (μ := μ) hr
  rw [mi_cl_1 ht] at he
  have hl : (G.1 r).2 < 2147483648 := by have := (s6.2.2.2.2.2.2.2 r hr).1; omega
  obtain ⟨i1, i2⟩ := mi_ix hj hl
  refine va_bald hx hb hE.2.1 s6.1 r 1 he rfl i1 hd ?_
  rw [i2]
  have e : ((j.toNat : Nat) : Int) = j := by omega
  rw [e]
  exact hk base D ca sa adE p l _ R s m args below meth c hA ad la H locs cells slots ⟨s1, s2, s3, s4, mi_vo_c mi_vo_i (fun v hv => s5 v (List.mem_cons_of_mem _ (List.mem_cons_of_mem _ hv))), s6, s7⟩
theorem mi_s_lald (h262 : k < 262) (hat : mi_at (mi_tb k) pc = some (.laload, nx, aux)) {r : Nat} {j : Int} (hr : r < G.2.2) (ht : (G.1 r).1 = 2) (hj : 0 ≤ j ∧ j < ((G.1 r).2 : Int)) (hk : mi_ok X k Ge Q nx ls (.inr (.inr (μ r j)) :: st) G μ u) : mi_ok X k Ge Q pc ls (.inl j :: .inr (.inl (some r)) :: st) G μ u := by
  obtain ⟨hd, hn, -⟩ := mi_dec h262 hat 1 rfl (by decide)
  subst hn
  intro base D ca sa adE p l e R s m args below meth c hA ad la H locs cells slots hS
  have hA' := hA
  obtain ⟨hx, hb, hml, hre, hown, hlk, hin, hex, hst, hfr, hlo, hE⟩ := hA'
  obtain ⟨s1, s2, s3, s4, s5, s6, s7⟩ := hS
  have he := mi_W_get (ca := ca) (ad := ad) (μ := μ) hr
  rw [mi_cl_2 ht] at he
  have hl : (G.1 r).2 < 2147483648 := by have := (s6.2.2.2.2.2.2.2 r hr).1; omega
  obtain ⟨i1, i2⟩ := mi_ix hj hl
  refine va_lald hx hb hE.2.1 s6.1 r 2 he rfl i1 hd ?_
  rw [i2]
  have e : ((j.toNat : Nat) : Int) = j := by omega
  rw [e]
  exact hk base D ca sa adE p l _ R s m args below meth c hA ad la H locs cells slots ⟨s1, s2, s3, s4, mi_vo_c mi_vo_l (fun v hv => s5 v (List.mem_cons_of_mem _ (List.mem_cons_of_mem _ hv))), s6, s7⟩
theorem mi_s_aald (h262 : k < 262) (hat : mi_at (mi_tb k) pc = some (.aaload, nx, aux)) {r : Nat} {j : Int} (hr : r < G.2.2) (ht : (G.1 r).1 = 3 ∨ (G.1 r).1 = 4) (hj : 0 ≤ j ∧ j < ((G.1 r).2 : Int)) (hk : mi_ok X k Ge Q nx ls (.inr (.inl (G.2.1 r j.toNat)) :: st) G μ u) : mi_ok X k Ge Q pc ls (.inl j :: .inr (.inl (some r)) :: st) G μ u := by
  obtain ⟨hd, hn, -⟩ := mi_dec h262 hat 1 rfl (by decide)
  subst hn
  intro base D ca sa adE p l e R s m args below meth c hA ad la H locs cells slots hS
  have hA' := hA
  obtain ⟨hx, hb, hml, hre, hown, hlk, hin, hex, hst, hfr, hlo, hE⟩ := hA'
  obtain ⟨s1, s2, s3, s4, s5, s6, s7⟩ := hS
  have he := mi_W_get (ca := ca) (ad := ad) (μ := μ) hr
  have hl : (G.1 r).2 < 2147483648 := by have := (s6.2.2.2.2.2.2.2 r hr).1; omega
  obtain ⟨i1, i2⟩ := mi_ix hj hl
  have hgo : W p l e R s m args below meth c H locs cells slots (vx_MQ below (mi_Qc base D ca sa adE k Ge Q) (mi_XC base D ca sa adE k Ge Q) args s R.cells R.slots (mi_A base)) (F0 m (pc + 1) la (va_rf ((G.2.1 r j.toNat).map ad) :: st.map (mi_c ad))) := by
    refine hk base D ca sa adE p l e R s m args below meth c hA ad la H locs cells slots ⟨s1, s2, s3, s4, mi_vo_c (fun q hq => ?_) (fun v hv => s5 v (List.mem_cons_of_mem _ (List.mem_cons_of_mem _ hv))), s6, s7⟩
    have hq' : G.2.1 r j.toNat = some q := by injection hq with h1; injection h1
    exact Or.inl (s6.2.2.2.2.2.2.1 r _ q hr hq')
  rcases ht with ht | ht
  · rw [mi_cl_3 ht] at he
    refine va_aldq hx hb hE.2.1 s6.1 r 3 he rfl i1 hd ?_
    rw [i2]
    exact hgo
  · rw [mi_cl_4 ht] at he
    refine va_aldq hx hb hE.2.1 s6.1 r 4 he rfl i1 hd ?_
    rw [i2]
    exact hgo
theorem mi_s_iast (h262 : k < 262) (hat : mi_at (mi_tb k) pc = some (.iastore, nx, aux)) {r : Nat} {j z : Int} (hr : r < G.2.2) (ht : (G.1 r).1 = 0) (hj : 0 ≤ j ∧ j < ((G.1 r).2 : Int)) (hk : mi_ok X k Ge Q nx ls st G (mi_set μ r j z) u) : mi_ok X k Ge Q pc ls (.inl z :: .inl j :: .inr (.inl (some r)) :: st) G μ u := by
  obtain ⟨hd, hn, -⟩ := mi_dec h262 hat 1 rfl (by decide)
  subst hn
  intro base D ca sa adE p l e R s m args below meth c hA ad la H locs cells slots hS
  have hA' := hA
  have hS' := hS
  obtain ⟨hx, hb, hml, hre, hown, hlk, hin, hex, hst, hfr, hlo, hE⟩ := hA'
  obtain ⟨s1, s2, s3, s4, s5, s6, s7, s8⟩ := hS'
  have he := mi_W_get (ca := ca) (ad := ad) (μ := μ) hr
  rw [mi_cl_0 ht] at he
  have hl : (G.1 r).2 < 2147483648 := by have := (s6.2.2.2.2.2.2.2 r hr).1; omega
  obtain ⟨i1, i2⟩ := mi_ix hj hl
  refine va_iast hx hb hE.2.1 s6.1 s6.2.1 s7 r 0 he rfl i1 hd ?_
  intro H1 locs1 hP1 hD1 hS1
  have e : j = ((j.toNat : Nat) : Int) := by omega
  rw [i2, mi_upd e, ← mi_cl_0 (ca := ca) (ad := ad) (rf := G.2.1 r) (row := fun k => if k = j then z else μ r k) ht, mi_W_row _ hr] at hP1 hD1
  rw [mi_set_row] at hk
  exact hk base D ca sa adE p l _ R s m args below meth c hA ad la H1 locs1 cells slots (mi_SF_row hS (fun v hv => s5 v (List.mem_cons_of_mem _ (List.mem_cons_of_mem _ (List.mem_cons_of_mem _ hv)))) hP1 hD1 hS1)
theorem mi_s_bast (h262 : k < 262) (hat : mi_at (mi_tb k) pc = some (.bastore, nx, aux)) {r : Nat} {j z : Int} (hr : r < G.2.2) (ht : (G.1 r).1 = 1) (hj : 0 ≤ j ∧ j < ((G.1 r).2 : Int)) (hk : mi_ok X k Ge Q nx ls st G (mi_set μ r j (mi_i2b z)) u) : mi_ok X k Ge Q pc ls (.inl z :: .inl j :: .inr (.inl (some r)) :: st) G μ u := by
  obtain ⟨hd, hn, -⟩ := mi_dec h262 hat 1 rfl (by decide)
  subst hn
  intro base D ca sa adE p l e R s m args below meth c hA ad la H locs cells slots hS
  have hA' := hA
  have hS' := hS
  obtain ⟨hx, hb, hml, hre, hown, hlk, hin, hex, hst, hfr, hlo, hE⟩ := hA'
  obtain ⟨s1, s2, s3, s4, s5, s6, s7, s8⟩ := hS'
  have he := mi_W_get (ca := ca) (ad := ad) (μ := μ) hr
  rw [mi_cl_1 ht] at he
  have hl : (G.1 r).2 < 2147483648 := by have := (s6.2.2.2.2.2.2.2 r hr).1; omega
  obtain ⟨i1, i2⟩ := mi_ix hj hl
  refine va_bast hx hb hE.2.1 s6.1 s6.2.1 s7 r 1 he rfl i1 hd ?_
  intro H1 locs1 hP1 hD1 hS1
  have e : j = ((j.toNat : Nat) : Int) := by omega
  have e2 : vp_nar .byte (Int32.ofInt z) = Int32.ofInt (mi_i2b z) := by rw [vp_nar_byte]; exact (mi_of_toInt _).symm
  rw [i2, e2, mi_upd e, ← mi_cl_1 (ca := ca) (ad := ad) (rf := G.2.1 r) (row := fun k => if k = j then mi_i2b z else μ r k) ht, mi_W_row _ hr] at hP1 hD1
  rw [mi_set_row] at hk
  exact hk base D ca sa adE p l _ R s m args below meth c hA ad la H1 locs1 cells slots (mi_SF_row hS (fun v hv => s5 v (List.mem_cons_of_mem _ (List.mem_cons_of_mem _ (List.mem_cons_of_mem _ hv)))) hP1 hD1 hS1)
theorem mi_s_last (h262 : k < 262) (hat : mi_at (mi_tb k) pc = some (.lastore, nx, aux)) {r : Nat} {j z : Int} (hr : r < G.2.2) (ht : (G.1 r).1 = 2) (hj : 0 ≤ j ∧ j < ((G.1 r).2 : Int)) (hk : mi_ok X k Ge Q nx ls st G (mi_set μ r j z) u) : mi_ok X k Ge Q pc ls (.inr (.inr z) :: .inl j :: .inr (.inl (some r)) :: st) G μ u := by
  obtain ⟨hd, hn, -⟩ := mi_dec h262 hat 1 rfl (by decide)
  subst hn
  intro base D ca sa adE p l e R s m args below meth c hA ad la H locs cells slots hS
  have hA' := hA
  have hS' := hS
  obtain ⟨hx, hb, hml, hre, hown, hlk, hin, hex, hst, hfr, hlo, hE⟩ := hA'
  obtain ⟨s1, s2, s3, s4, s5, s6, s7, s8⟩ := hS'
  have he := mi_W_get (ca := ca) (ad := ad) (μ := μ) hr
  rw [mi_cl_2 ht] at he
  have hl : (G.1 r).2 < 2147483648 := by have := (s6.2.2.2.2.2.2.2 r hr).1; omega
  obtain ⟨i1, i2⟩ := mi_ix hj hl
  refine va_last hx hb hE.2.1 s6.1 s6.2.1 s7 r 2 he rfl i1 hd ?_
  intro H1 locs1 hP1 hD1 hS1
  have e : j = ((j.toNat : Nat) : Int) := by omega
  rw [i2, mi_updL e, ← mi_cl_2 (ca := ca) (ad := ad) (rf := G.2.1 r) (row := fun k => if k = j then z else μ r k) ht, mi_W_row _ hr] at hP1 hD1
  rw [mi_set_row] at hk
  exact hk base D ca sa adE p l _ R s m args below meth c hA ad la H1 locs1 cells slots (mi_SF_row hS (fun v hv => s5 v (List.mem_cons_of_mem _ (List.mem_cons_of_mem _ (List.mem_cons_of_mem _ hv)))) hP1 hD1 hS1)
theorem mi_s_aast (h262 : k < 262) (hat : mi_at (mi_tb k) pc = some (.aastore, nx, aux)) {r q : Nat} {j : Int} (hct : (mi_hd k).2.2.2.1 = true) (hr : r < G.2.2) (hq : q < G.2.2) (ht : ((G.1 r).1 = 3 ∧ (G.1 q).1 = 19) ∨ ((G.1 r).1 = 4 ∧ (G.1 q).1 = 10)) (hj : 0 ≤ j ∧ j < ((G.1 r).2 : Int)) (hk : mi_ok X k Ge Q nx ls st (G.1, mi_up G.2.1 r (mi_up (G.2.1 r) j.toNat (some q)), G.2.2) μ u) : mi_ok X k Ge Q pc ls (.inr (.inl (some q)) :: .inl j :: .inr (.inl (some r)) :: st) G μ u := by
  obtain ⟨hd, hn, -⟩ := mi_dec h262 hat 1 rfl (by decide)
  subst hn
  intro base D ca sa adE p l e R s m args below meth c hA ad la H locs cells slots hS
  have hA' := hA
  obtain ⟨hx, hb, hml, hre, hown, hlk, hin, hex, hst, hfr, hlo, hE⟩ := hA'
  obtain ⟨s1, s2, s3, s4, s5, ⟨w1, w2, w3, w4, w5, w6⟩, s7, s8, s9, s10⟩ := hS
  have he := mi_W_get (ca := ca) (ad := ad) (μ := μ) hr
  have hv := mi_W_get (ca := ca) (ad := ad) (μ := μ) hq
  have hl : (G.1 r).2 < 2147483648 := by have := (w6.2.2 r hr).1; omega
  obtain ⟨i1, i2⟩ := mi_ix hj hl
  have hw : mi_wf (G.1, mi_up G.2.1 r (mi_up (G.2.1 r) j.toNat (some q)), G.2.2) := by
    refine ⟨w6.1, ?_, w6.2.2⟩
    intro i' k' j' hi' hj'
    by_cases e1 : i' = r
    · subst e1
      simp only [mi_up_self] at hj'
      by_cases e2 : k' = j.toNat
      · subst e2
        rw [mi_up_self] at hj'
        cases hj'; exact hq
      · rw [mi_up_ne e2] at hj'
        exact w6.2.1 _ _ _ hi' hj'
    · simp only [mi_up_ne e1] at hj'
      exact w6.2.1 _ _ _ hi' hj'
  have hgo : ∀ H1 locs1, va_P D vwCl (mi_W ca ad (G.1, mi_up G.2.1 r (mi_up (G.2.1 r) j.toNat (some q)), G.2.2) μ) H1 → va_D (mi_A base) (mi_W ca ad (G.1, mi_up G.2.1 r (mi_up (G.2.1 r) j.toNat (some q)), G.2.2) μ) → va_S (mi_A base) s.heap H1 locs1 → W p l e R s m args below meth c H1 locs1 cells slots (vx_MQ below (mi_Qc base D ca sa adE k Ge Q) (mi_XC base D ca sa adE k Ge Q) args s R.cells R.slots (mi_A base)) (F0 m (pc + 1) la (st.map (mi_c ad))) := fun H1 locs1 hP1 hD1 hS1 =>
    hk base D ca sa adE p l e R s m args below meth c hA ad la H1 locs1 cells slots ⟨s1, s2, s3, s4, fun v hv => s5 v (List.mem_cons_of_mem _ (List.mem_cons_of_mem _ (List.mem_cons_of_mem _ hv))), ⟨hP1, hD1, w3, w4, w5, hw⟩, hS1, (fun h => by rw [hct] at h; cases h), s9, s10⟩
  rcases ht with ⟨ht, hc⟩ | ⟨ht, hc⟩
  · rw [mi_cl_3 ht] at he
    rw [mi_cl_obj (c := 9) hc] at hv
    refine va_astq (r := (RX9, TX9, 4)) hx hb hE.2.1 w1 w2 s7 r 3 q 9 he rfl hv rfl i1 hd ?_
    intro H1 locs1 hP1 hD1 hS1
    rw [i2, mi_upq, ← mi_cl_3 (ca := ca) (ad := ad) (row := μ r) ht, mi_W_ref _ hr] at hP1 hD1
    exact hgo H1 locs1 hP1 hD1 hS1
  · rw [mi_cl_4 ht] at he
    rw [mi_cl_obj (c := 0) hc] at hv
    refine va_astq (r := (RX0, TX0, 3)) hx hb hE.2.1 w1 w2 s7 r 4 q 0 he rfl hv rfl i1 hd ?_
    intro H1 locs1 hP1 hD1 hS1
    rw [i2, mi_upq, ← mi_cl_4 (ca := ca) (ad := ad) (row := μ r) ht, mi_W_ref _ hr] at hP1 hD1
    exact hgo H1 locs1 hP1 hD1 hS1
end
