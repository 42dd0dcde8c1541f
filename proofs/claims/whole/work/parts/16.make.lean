/-! making cells; Object's constructor; arraycopy -/
theorem mi_wAI : Cond.arrayClass .int ∈ lw_tbl := List.mem_of_getElem? (i := 178) (by decide +kernel)
theorem mi_wAB : Cond.arrayClass .byte ∈ lw_tbl := List.mem_of_getElem? (i := 228) (by decide +kernel)
theorem mi_wAJ : Cond.arrayClass .long ∈ lw_tbl := List.mem_of_getElem? (i := 1693) (by decide +kernel)
theorem mi_wOI : Cond.instanceMethod objectInit ∈ lw_tbl := List.mem_of_getElem? (i := 128) (by decide +kernel)
theorem mi_wOC : Cond.code objectInit ⟨#[0xb1]⟩ 1 none ∈ lw_tbl := List.mem_of_getElem? (i := 129) (by decide +kernel)
theorem mi_wCN : Cond.native arraycopyName ∈ lw_tbl := List.mem_of_getElem? (i := 140) (by decide +kernel)
theorem mi_wCS : Cond.static arraycopyName ∈ lw_tbl := List.mem_of_getElem? (i := 139) (by decide +kernel)
theorem mi_wCI : Cond.initialized "java/lang/System" ∈ lw_tbl := List.mem_of_getElem? (i := 100) (by decide +kernel)
section
variable {X : mi_X} {k : Nat} {Ge : mi_G} {Q : mi_R → mi_G → mi_M → Prop} {pc nx aux : Nat} {ls : mi_L} {st st' : mi_S} {G : mi_G} {μ : mi_M} {u : mi_U}
theorem mi_ofi {z : Int} (h1 : 0 ≤ z) (h2 : z ≤ 4096) : ¬ Int32.ofInt z < 0 ∧ (Int32.ofInt z).toNatClampNeg = z.toNat := by
  have e : Int32.ofInt z = nI z.toNat := by
    unfold nI
    rw [← Int32.ofInt_eq_ofNat]
    congr 1
    omega
  rw [e]
  exact ⟨nI_pos (by omega), nI_clamp (by omega)⟩
theorem mi_s_newaI (h262 : k < 262) (hat : mi_at (mi_tb k) pc = some (.newarray .int, nx, aux)) {z : Int} (hn : G.2.2 < 999) (h1 : 0 ≤ z) (h2 : z ≤ 4096) (hu : 1 ≤ u.1 ∧ z.toNat ≤ u.2) (hk : mi_ok X k Ge Q nx ls (.inr (.inl (some G.2.2)) :: st) (mi_up G.1 G.2.2 (0, z.toNat), mi_up G.2.1 G.2.2 (fun _ => none), G.2.2 + 1) (mi_row μ G.2.2 (fun _ => 0)) (u.1 - 1, u.2 - z.toNat)) : mi_ok X k Ge Q pc ls (.inl z :: st) G μ u := by
  obtain ⟨hd, hnx, -⟩ := mi_dec h262 hat 2 rfl (by decide)
  subst hnx
  intro base D ca sa adE p l e R s m args below meth c hA ad la H locs cells slots hS
  have hA' := hA
  have hS' := hS
  obtain ⟨hx, hb, hml, hre, hown, hlk, hin, hex, hst, hfr, hlo, hE⟩ := hA'
  obtain ⟨s1, s2, s3, s4, s5, s6, s7, s8, s9, s10⟩ := hS'
  obtain ⟨z1, z2⟩ := mi_ofi h1 h2
  refine va_newa (atype := .int) (ty := .int) (a0 := (z.toNat, .inl (fun _ => 0))) hx hb (hE.w mi_wAI rfl) rfl hE.2.1 s6.1 s6.2.1 s7 (fun q hq => Nat.le_trans hE.2.2.2.1.2.2.2 hq) (fun cA => rfl) z1 z2 (by show z.toNat * 4 ≤ _; omega) (by omega) (by omega) hd ?_
  intro q cA H1 hK1 hP1 hD1 hS1
  have hc : cA = ca 0 := by
    have a1 : s.vm.findClass _ = some cA := (hK1.2 5 (cA, .int) rfl).2
    have a2 : s.vm.findClass _ = some (ca 0) := (hE.2.1.2 0 (ca 0, .int) rfl).2
    exact Option.some.inj (a1.symm.trans a2)
  subst hc
  obtain ⟨b1, b2⟩ := mi_push (st := st) (kd := (0, z.toNat)) hS (fun v h => List.mem_cons_of_mem _ h) hn ⟨by show z.toNat ≤ 4096; omega, Or.inl (show 0 ≤ 4 by decide)⟩ hP1 hD1 hS1 hu
  have := hk base D ca sa adE p l e R s m args below meth c hA _ la H1 locs (cells + 1) (slots + z.toNat) b1
  rw [b2] at this
  exact this
theorem mi_s_newaB (h262 : k < 262) (hat : mi_at (mi_tb k) pc = some (.newarray .byte, nx, aux)) {z : Int} (hn : G.2.2 < 999) (h1 : 0 ≤ z) (h2 : z ≤ 4096) (hu : 1 ≤ u.1 ∧ z.toNat ≤ u.2) (hk : mi_ok X k Ge Q nx ls (.inr (.inl (some G.2.2)) :: st) (mi_up G.1 G.2.2 (1, z.toNat), mi_up G.2.1 G.2.2 (fun _ => none), G.2.2 + 1) (mi_row μ G.2.2 (fun _ => 0)) (u.1 - 1, u.2 - z.toNat)) : mi_ok X k Ge Q pc ls (.inl z :: st) G μ u := by
  obtain ⟨hd, hnx, -⟩ := mi_dec h262 hat 2 rfl (by decide)
  subst hnx
  intro base D ca sa adE p l e R s m args below meth c hA ad la H locs cells slots hS
  have hA' := hA
  have hS' := hS
  obtain ⟨hx, hb, hml, hre, hown, hlk, hin, hex, hst, hfr, hlo, hE⟩ := hA'
  obtain ⟨s1, s2, s3, s4, s5, s6, s7, s8, s9, s10⟩ := hS'
  obtain ⟨z1, z2⟩ := mi_ofi h1 h2
  refine va_newa (atype := .byte) (ty := .byte) (a0 := (z.toNat, .inl (fun _ => 0))) hx hb (hE.w mi_wAB rfl) rfl hE.2.1 s6.1 s6.2.1 s7 (fun q hq => Nat.le_trans hE.2.2.2.1.2.2.2 hq) (fun cA => rfl) z1 z2 (by show z.toNat * 1 ≤ _; omega) (by omega) (by omega) hd ?_
  intro q cA H1 hK1 hP1 hD1 hS1
  have hc : cA = ca 1 := by
    have a1 : s.vm.findClass _ = some cA := (hK1.2 5 (cA, .byte) rfl).2
    have a2 : s.vm.findClass _ = some (ca 1) := (hE.2.1.2 1 (ca 1, .byte) rfl).2
    exact Option.some.inj (a1.symm.trans a2)
  subst hc
  obtain ⟨b1, b2⟩ := mi_push (st := st) (kd := (1, z.toNat)) hS (fun v h => List.mem_cons_of_mem _ h) hn ⟨by show z.toNat ≤ 4096; omega, Or.inl (show 1 ≤ 4 by decide)⟩ hP1 hD1 hS1 hu
  have := hk base D ca sa adE p l e R s m args below meth c hA _ la H1 locs (cells + 1) (slots + z.toNat) b1
  rw [b2] at this
  exact this
theorem mi_s_newaJ (h262 : k < 262) (hat : mi_at (mi_tb k) pc = some (.newarray .long, nx, aux)) {z : Int} (hn : G.2.2 < 999) (h1 : 0 ≤ z) (h2 : z ≤ 4096) (hu : 1 ≤ u.1 ∧ z.toNat ≤ u.2) (hk : mi_ok X k Ge Q nx ls (.inr (.inl (some G.2.2)) :: st) (mi_up G.1 G.2.2 (2, z.toNat), mi_up G.2.1 G.2.2 (fun _ => none), G.2.2 + 1) (mi_row μ G.2.2 (fun _ => 0)) (u.1 - 1, u.2 - z.toNat)) : mi_ok X k Ge Q pc ls (.inl z :: st) G μ u := by
  obtain ⟨hd, hnx, -⟩ := mi_dec h262 hat 2 rfl (by decide)
  subst hnx
  intro base D ca sa adE p l e R s m args below meth c hA ad la H locs cells slots hS
  have hA' := hA
  have hS' := hS
  obtain ⟨hx, hb, hml, hre, hown, hlk, hin, hex, hst, hfr, hlo, hE⟩ := hA'
  obtain ⟨s1, s2, s3, s4, s5, s6, s7, s8, s9, s10⟩ := hS'
  obtain ⟨z1, z2⟩ := mi_ofi h1 h2
  refine va_newa (atype := .long) (ty := .long) (a0 := (z.toNat, .inr (.inl (fun _ => 0)))) hx hb (hE.w mi_wAJ rfl) rfl hE.2.1 s6.1 s6.2.1 s7 (fun q hq => Nat.le_trans hE.2.2.2.1.2.2.2 hq) (fun cA => rfl) z1 z2 (by show z.toNat * 8 ≤ _; omega) (by omega) (by omega) hd ?_
  intro q cA H1 hK1 hP1 hD1 hS1
  have hc : cA = ca 2 := by
    have a1 : s.vm.findClass _ = some cA := (hK1.2 5 (cA, .long) rfl).2
    have a2 : s.vm.findClass _ = some (ca 2) := (hE.2.1.2 2 (ca 2, .long) rfl).2
    exact Option.some.inj (a1.symm.trans a2)
  subst hc
  obtain ⟨b1, b2⟩ := mi_push (st := st) (kd := (2, z.toNat)) hS (fun v h => List.mem_cons_of_mem _ h) hn ⟨by show z.toNat ≤ 4096; omega, Or.inl (show 2 ≤ 4 by decide)⟩ hP1 hD1 hS1 hu
  have := hk base D ca sa adE p l e R s m args below meth c hA _ la H1 locs (cells + 1) (slots + z.toNat) b1
  rw [b2] at this
  exact this
theorem mi_s_anew3 (h262 : k < 262) {i : Nat} (hat : mi_at (mi_tb k) pc = some (.anewarray i, nx, 3)) {z : Int} (hn : G.2.2 < 999) (h1 : 0 ≤ z) (h2 : z ≤ 4096) (hu : 1 ≤ u.1 ∧ z.toNat ≤ u.2) (hk : mi_ok X k Ge Q nx ls (.inr (.inl (some G.2.2)) :: st) (mi_up G.1 G.2.2 (3, z.toNat), mi_up G.2.1 G.2.2 (fun _ => none), G.2.2 + 1) (mi_row μ G.2.2 (fun _ => 0)) (u.1 - 1, u.2 - z.toNat)) : mi_ok X k Ge Q pc ls (.inl z :: st) G μ u := by
  obtain ⟨hd, hnx, hc⟩ := mi_dec h262 hat 3 rfl (by decide)
  subst hnx
  simp only [mi_ck2, decide_eq_true_eq] at hc
  intro base D ca sa adE p l e R s m args below meth c hA ad la H locs cells slots hS
  have hA' := hA
  have hS' := hS
  obtain ⟨hx, hb, hml, hre, hown, hlk, hin, hex, hst, hfr, hlo, hE⟩ := hA'
  obtain ⟨s1, s2, s3, s4, s5, s6, s7, s8, s9, s10⟩ := hS'
  obtain ⟨z1, z2⟩ := mi_ofi h1 h2
  refine va_newq (C := RX9) hx hb hown (hE.w (mi_AL_ok _ hc) rfl) hE.2.2.2.2.2.2.1 hE.2.1 s6.1 s6.2.1 s7 (fun q hq => Nat.le_trans hE.2.2.2.1.2.2.2 hq) z1 z2 (by show z.toNat * 4 ≤ _; omega) (by omega) (by omega) hd ?_
  intro q cA H1 hK1 hP1 hD1 hS1
  have hc : cA = ca 3 := by
    obtain ⟨kA, comp, a1, a2, a3, a4⟩ := (hK1.2 5 (cA, .object RX9) rfl).2
    obtain ⟨kB, comp', b1, b2, b3, b4⟩ := (hE.2.1.2 3 (ca 3, .object RX9) rfl).2
    exact Option.some.inj (a4.symm.trans b4)
  subst hc
  obtain ⟨b1, b2⟩ := mi_push (st := st) (kd := (3, z.toNat)) hS (fun v h => List.mem_cons_of_mem _ h) hn ⟨by show z.toNat ≤ 4096; omega, Or.inl (show 3 ≤ 4 by decide)⟩ hP1 hD1 hS1 hu
  have := hk base D ca sa adE p l e R s m args below meth c hA _ la H1 locs (cells + 1) (slots + z.toNat) b1
  rw [b2] at this
  exact this
theorem mi_s_anew4 (h262 : k < 262) {i : Nat} (hat : mi_at (mi_tb k) pc = some (.anewarray i, nx, 4)) {z : Int} (hn : G.2.2 < 999) (h1 : 0 ≤ z) (h2 : z ≤ 4096) (hu : 1 ≤ u.1 ∧ z.toNat ≤ u.2) (hk : mi_ok X k Ge Q nx ls (.inr (.inl (some G.2.2)) :: st) (mi_up G.1 G.2.2 (4, z.toNat), mi_up G.2.1 G.2.2 (fun _ => none), G.2.2 + 1) (mi_row μ G.2.2 (fun _ => 0)) (u.1 - 1, u.2 - z.toNat)) : mi_ok X k Ge Q pc ls (.inl z :: st) G μ u := by
  obtain ⟨hd, hnx, hc⟩ := mi_dec h262 hat 3 rfl (by decide)
  subst hnx
  simp only [mi_ck2, decide_eq_true_eq] at hc
  intro base D ca sa adE p l e R s m args below meth c hA ad la H locs cells slots hS
  have hA' := hA
  have hS' := hS
  obtain ⟨hx, hb, hml, hre, hown, hlk, hin, hex, hst, hfr, hlo, hE⟩ := hA'
  obtain ⟨s1, s2, s3, s4, s5, s6, s7, s8, s9, s10⟩ := hS'
  obtain ⟨z1, z2⟩ := mi_ofi h1 h2
  refine va_newq (C := RX0) hx hb hown (hE.w (mi_AL_ok _ hc) rfl) hE.2.2.2.2.2.2.2 hE.2.1 s6.1 s6.2.1 s7 (fun q hq => Nat.le_trans hE.2.2.2.1.2.2.2 hq) z1 z2 (by show z.toNat * 4 ≤ _; omega) (by omega) (by omega) hd ?_
  intro q cA H1 hK1 hP1 hD1 hS1
  have hc : cA = ca 4 := by
    obtain ⟨kA, comp, a1, a2, a3, a4⟩ := (hK1.2 5 (cA, .object RX0) rfl).2
    obtain ⟨kB, comp', b1, b2, b3, b4⟩ := (hE.2.1.2 4 (ca 4, .object RX0) rfl).2
    exact Option.some.inj (a4.symm.trans b4)
  subst hc
  obtain ⟨b1, b2⟩ := mi_push (st := st) (kd := (4, z.toNat)) hS (fun v h => List.mem_cons_of_mem _ h) hn ⟨by show z.toNat ≤ 4096; omega, Or.inl (show 4 ≤ 4 by decide)⟩ hP1 hD1 hS1 hu
  have := hk base D ca sa adE p l e R s m args below meth c hA _ la H1 locs (cells + 1) (slots + z.toNat) b1
  rw [b2] at this
  exact this
theorem mi_WN_all : ∀ c, c < 13 → (c, ()) ∈ mi_WN := by decide
theorem mi_WC_all : ∀ c, c < 16 → (c, ()) ∈ mi_WC := by decide
theorem mi_dflt {ad : Nat → Nat} {c : Nat} (hc : c < 13) (j : Nat) (hj : j < mi_cn c) : defaultValue (mi_cy c j) = vp_V ((List.range (mi_cn c)).map (mi_fv ad c (fun _ => none) (fun _ => 0))) j := by
  unfold vp_V
  rw [List.getD_eq_getElem?_getD, List.getElem?_map, List.getElem?_range hj]
  show _ = mi_fv ad c (fun _ => none) (fun _ => 0) j
  cases hf : mi_fr c j with
  | true =>
    rw [(mi_fR c hc j hj hf).2.2.1]
    simp [mi_fv, hf, va_rf]
  | false =>
    rw [(mi_fI1 c hc j hj hf).2.2]
    simp only [mi_fv, hf, cond_false]
    rfl
theorem mi_s_new (h262 : k < 262) {i : Nat} (hat : mi_at (mi_tb k) pc = some (.new i, nx, aux)) (ha : Nat.beq aux 9995 = false) (hn : G.2.2 < 999) (hu : 1 ≤ u.1 ∧ aux % 64 ≤ u.2) (hk : mi_ok X k Ge Q nx ls (.inr (.inl (some G.2.2)) :: st) (mi_up G.1 G.2.2 (10 + aux / 64, aux % 64), mi_up G.2.1 G.2.2 (fun _ => none), G.2.2 + 1) (mi_row μ G.2.2 (fun _ => 0)) (u.1 - 1, u.2 - aux % 64)) : mi_ok X k Ge Q pc ls st G μ u := by
  obtain ⟨hd, hnx, hc⟩ := mi_dec h262 hat 3 rfl (by decide)
  subst hnx
  simp only [mi_ck2, ha, cond_false, Bool.and_eq_true, decide_eq_true_eq] at hc
  obtain ⟨⟨c1, c2⟩, c3⟩ := hc
  have c2 := mi_blt c2
  have c3 := mi_beq c3
  intro base D ca sa adE p l e R s m args below meth c hA ad la H locs cells slots hS
  have hA' := hA
  have hS' := hS
  obtain ⟨hx, hb, hml, hre, hown, hlk, hin, hex, hst, hfr, hlo, hE⟩ := hA'
  obtain ⟨s1, s2, s3, s4, s5, s6, s7, s8, s9, s10⟩ := hS'
  obtain ⟨k1, k2, k3, k4⟩ := mi_cls _ c2
  have hWN : (aux / 64, ()) ∈ mi_WN := mi_WN_all _ c2
  have hWC : (aux / 64, ()) ∈ mi_WC := mi_WC_all _ (by omega)
  refine va_new (ci := aux / 64) (fs := (List.range (mi_cn (aux / 64))).map (mi_fv ad (aux / 64) (fun _ => none) (fun _ => 0))) (C := mi_rs (aux / 64)) (T := mi_ct (aux / 64)) (N := mi_cn (aux / 64)) hx hb (hE.gl) k2 (mi_cy (aux / 64)) k3 hown (hE.w (mi_NL_ok _ c1) rfl) (hE.w (mi_WN_ok _ hWN) rfl) (hE.w (mi_WC_ok _ hWC) rfl) hE.2.1 s6.1 s6.2.1 s7 (fun q hq => Nat.le_trans hE.2.2.2.1.2.2.2 hq) k1 (fun j hj => mi_dflt c2 j hj) (by omega) (by omega) hd ?_
  intro q H1 hP1 hD1 hS1
  have e1 := mi_cl_obj (ca := ca) (ad := ad) (kd := (10 + aux / 64, mi_cn (aux / 64))) (rf := fun _ => none) (row := fun _ => 0) (c := aux / 64) rfl
  rw [← e1, ← c3] at hP1 hD1
  have hlt : aux % 64 < 64 := Nat.mod_lt _ (by decide)
  obtain ⟨b1, b2⟩ := mi_push (st := st) (kd := (10 + aux / 64, aux % 64)) hS (fun v h => h) hn ⟨by show aux % 64 ≤ 4096; omega, Or.inr ⟨by show 10 ≤ 10 + aux / 64; omega, by show 10 + aux / 64 < 23; omega, by show aux % 64 = mi_cn (10 + aux / 64 - 10); rw [Nat.add_sub_cancel_left]; exact c3⟩⟩ hP1 hD1 hS1 hu
  have := hk base D ca sa adE p l e R s m args below meth c hA _ la H1 locs (cells + 1) (slots + aux % 64) b1
  rw [b2, c3] at this
  exact this
theorem mi_wd_cat {ad : Nat → Nat} : ∀ (st : mi_S), ((st.map (mi_c ad)).map fun v => v.category).sum = mi_wd st
  | [] => rfl
  | .inl z :: r => by
    have := mi_wd_cat (ad := ad) r
    simp only [List.map_cons, List.sum_cons, this, mi_wd]
    show 1 + mi_wd r = mi_wd r + 1
    omega
  | .inr (.inl q) :: r => by
    have := mi_wd_cat (ad := ad) r
    have e : (mi_c ad (.inr (.inl q))).category = 1 := by cases q <;> rfl
    simp only [List.map_cons, List.sum_cons, this, mi_wd, e]
    omega
  | .inr (.inr z) :: r => by
    have := mi_wd_cat (ad := ad) r
    simp only [List.map_cons, List.sum_cons, this, mi_wd]
    show 2 + mi_wd r = mi_wd r + 2
    omega
theorem mi_s_obj (h262 : k < 262) {i : Nat} (hat : mi_at (mi_tb k) pc = some (.invokespecial i, nx, 9999)) {r : Nat} (hw : mi_wd st ≤ 8) (hk : mi_ok X k Ge Q nx ls st G μ u) : mi_ok X k Ge Q pc ls (.inr (.inl (some r)) :: st) G μ u := by
  obtain ⟨hd, hnx, hc⟩ := mi_dec h262 hat 3 rfl (by decide)
  subst hnx
  simp only [mi_ck2, mi_beq_t, cond_true, Bool.and_eq_true, decide_eq_true_eq] at hc
  obtain ⟨⟨c1, c2⟩, c3⟩ := hc
  have c2 := mi_ble c2
  have c3 := mi_ble c3
  intro base D ca sa adE p l e R s m args below meth c hA ad la H locs cells slots hS
  have hA' := hA
  obtain ⟨hx, hb, hml, hre, hown, hlk, hin, hex, hst, hfr, hlo, hE⟩ := hA'
  obtain ⟨s1, s2, s3, s4, s5, s6⟩ := hS
  have hsum := mi_wd_cat (ad := ad) st
  refine W.objInit hx hb hown (hE.w (mi_OL_ok _ c1) rfl) (hE.w mi_wOI rfl) (hE.w mi_wOC rfl) rfl (by rw [hml]; exact s2) rfl hd (Nat.le_trans c2 hfr) (show 2 * 0 + _ + 12 ≤ R.locals by rw [hsum]; omega) ?_
  exact hk base D ca sa adE p l e R s m args below meth c hA ad la H locs cells slots ⟨s1, s2, s3, s4, fun v hv => s5 v (List.mem_cons_of_mem _ hv), s6⟩
end
