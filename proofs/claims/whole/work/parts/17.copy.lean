/-! System.arraycopy of ints, out of a row of the world or a static one -/
theorem mi_cpyI {f g : Int → Int} {sp dp n : Int} (h1 : 0 ≤ sp) (h2 : 0 ≤ dp) (h3 : 0 ≤ n) : va_cpy (fun j : Nat => Int32.ofInt (f (j : Int))) (fun j : Nat => Int32.ofInt (g (j : Int))) sp.toNat dp.toNat n.toNat = fun i : Nat => Int32.ofInt (mi_cpy f g sp dp n (i : Int)) := by
  funext i
  unfold va_cpy mi_cpy
  by_cases h : dp ≤ (i : Int) ∧ (i : Int) < dp + n
  · have h' : dp.toNat ≤ i ∧ i < dp.toNat + n.toNat := by omega
    have e : ((sp.toNat + (i - dp.toNat) : Nat) : Int) = sp + ((i : Int) - dp) := by omega
    simp only [if_pos h, if_pos h', e]
  · have h' : ¬ (dp.toNat ≤ i ∧ i < dp.toNat + n.toNat) := by omega
    simp only [if_neg h, if_neg h']
theorem mi_nn (z : Int32) (hz : ¬ z < 0) : z.toInt = (z.toNatClampNeg : Int) := by
  have h1 : (0 : Int) ≤ z.toInt := by
    have := Int32.le_iff_toInt_le.mp (Int32.not_lt.mp hz)
    simpa using this
  show z.toInt = ((z.toInt.toNat : Nat) : Int)
  omega
section
variable {p : Program} {l : Launch} {e : Env} {R : Room} {s : State} {m : MethodId} {args : Array Value} {below : List Frame} {meth : Method} {c : Code} {H : Heap} {locs : List Loc} {cells slots : Nat} {Qw : State → Prop} {D : va_G} {cl : List vw_C} {tys : List (ClassId × FieldType)} {ws : va_W} {A : Nat → Prop}
/-- a stretch of a static row of ints goes into a row of the world -/
theorem mi_copyt {cc : ByteArray} {pc : Nat} {la : Array Slot} {rest : List Value} {a b0 n0 : Nat} (hexec : p.tables.exec = Jvm.exec) (hb : c.code = cc) (hml : c.maxLocals = la.size) {own : String} {index : Nat} (hown : s.vm.findClass own = some m.cls) (hlink : (Cond.methodLink own index arraycopyName).before args s = true) (hnat : (Cond.native arraycopyName).before args s = true) (hstat : (Cond.static arraycopyName).before args s = true) (hini : (Cond.initialized "java/lang/System").before args s = true)
    (hK : va_K D cl tys s) (hP : va_P D cl ws H) (hD : va_D A ws) (hS : va_S A s.heap H locs) {f : Nat → Int32} (hX : va_T .int b0 n0 (fun j => .int (f j)) A s s.heap) (q1 t1 : Nat) {c1 : ClassId} {n1 : Nat} {g : Nat → Int32} (ha1 : ws[q1]? = some (a, .inl (c1, n1, .inl g))) (ht1 : tys[t1]? = some (c1, .int))
    {sp dp n : Int32} (h1 : ¬ sp < 0) (h2 : ¬ dp < 0) (h3 : ¬ n < 0) (h4 : sp.toNatClampNeg + n.toNatClampNeg ≤ n0) (h5 : dp.toNatClampNeg + n.toNatClampNeg ≤ n1) (hframes : 1 ≤ R.frames) (hlocals : (rest.map fun v => v.category).sum + (nativeFrameWords "java/lang/System" "arraycopy" 5 + 11) ≤ R.locals) (hdg : decode cc pc = .ok (.invokestatic index, 3))
    (kk : ∀ (H1 : Heap) (locs1 : List Loc), va_P D cl (ws.set q1 (a, .inl (c1, n1, .inl (va_cpy f g sp.toNatClampNeg dp.toNatClampNeg n.toNatClampNeg)))) H1 → va_D A (ws.set q1 (a, .inl (c1, n1, .inl (va_cpy f g sp.toNatClampNeg dp.toNatClampNeg n.toNatClampNeg)))) → va_S A s.heap H1 locs1 → W p l e R s m args below meth c H1 locs1 cells slots Qw (F0 m (pc + 3) la rest)) : W p l e R s m args below meth c H locs cells slots Qw (F0 m pc la (.int n :: .int dp :: .ref a :: .int sp :: .ref b0 :: rest)) := by
  intro T hT Y
  obtain ⟨src, r1, r2, r3, r4, -, r5, r6⟩ := hX
  have hdst : H[a]? = some (vp_cell c1 (n1, .inl g)) := hP q1 _ ha1
  have hsrc : H[b0]? = some src := (hS.2.1 b0 (Array.getElem?_eq_some_iff.mp r1).1 r6).trans r1
  have hAa : A a := hD.2 q1 _ ha1
  obtain ⟨r7, ks, hks, cs, hkk⟩ := r2
  obtain ⟨-, kt, hkt, ct, hkk2⟩ := (hK.2 t1 _ ht1).1 n1 (fun j => .int (g j))
  obtain ⟨vm', Y', step⟩ := Y.arraycopy hexec hown hlink hnat hstat hini (src := b0) (dst := a) (cs := src) (cd := vp_cell c1 (n1, .inl g)) (srcPos := sp) (destPos := dp) (n := n) (by rw [hT]; exact hsrc) (by rw [hT]; exact hdst)
    r7 (fun _ h => by cases h) r3 (fun h => by cases h) hks hkt hkk hkk2 (by simp [refKind]) h1 h2 h3
    (by rw [mi_nn sp h1, mi_nn n h3]; omega)
    (by rw [mi_nn dp h2, mi_nn n h3]; show ¬ _ > ((arrV c1 n1 (fun j => .int (g j))).slots.size : Int); rw [arrV_size]; omega)
    (fun _ _ i hi => by
      have e : src.slots.getD (sp.toNatClampNeg + i) .null = .int (f (sp.toNatClampNeg + i)) := by
        rw [Array.getD_eq_getD_getElem?, r5 _ (by omega)]
        rfl
      rw [e]
      exact ⟨rfl, trivial⟩)
    (g := F0 m pc la (.int n :: .int dp :: .ref a :: .int sp :: .ref b0 :: rest)) rfl (by rw [hml]) (rest := rest) rfl (by rw [hb]; exact hdg) hframes (by show 2 * 0 + _ + _ ≤ _; omega)
  have hcell : copied src (vp_cell c1 (n1, .inl g)) sp dp n = vp_cell c1 (n1, .inl (va_cpy f g sp.toNatClampNeg dp.toNatClampNeg n.toNatClampNeg)) := va_copiedX (fun z => .int z) src c1 f g r5 h4
  rw [hcell] at Y' step
  generalize hZ : vp_cell c1 (n1, .inl (va_cpy f g sp.toNatClampNeg dp.toNatClampNeg n.toNatClampNeg)) = Z at Y' step
  have hlt : a < H.size := (Array.getElem?_eq_some_iff.mp hdst).1
  have hh : ((T.setVm vm').setCell a Z).heap = H.setIfInBounds a Z := by rw [← hT]; rfl
  have off : ∀ q : Nat, q ≠ a → (H.setIfInBounds a Z)[q]? = H[q]? := fun q hq => by simp [Array.getElem?_setIfInBounds, Ne.symm hq]
  have on : (H.setIfInBounds a Z)[a]? = some (vp_cell c1 (n1, .inl (va_cpy f g sp.toNatClampNeg dp.toNatClampNeg n.toNatClampNeg))) := by rw [hZ]; simp [Array.getElem?_setIfInBounds, hlt]
  obtain ⟨t, a1, b1⟩ := kk _ _ (hP.set hD ha1 on off) (hD.set ha1) ⟨by simpa using hS.1, fun q g1 g2 => by rw [off q (fun h => g2 (h ▸ hAa))]; exact hS.2.1 q g1 g2, fun q hq => by
      rcases List.mem_append.mp hq with h | h
      · exact hS.2.2 q h
      · obtain ⟨z, -, hz⟩ := List.mem_map.mp h
        rw [← hz]
        exact hAa⟩ _ hh Y'
  exact ⟨t, step t a1, b1⟩
end
section
variable {X : mi_X} {k : Nat} {Ge : mi_G} {Q : mi_R → mi_G → mi_M → Prop} {pc nx aux : Nat} {ls : mi_L} {st st' : mi_S} {G : mi_G} {μ : mi_M} {u : mi_U}
theorem mi_s_copyW (h262 : k < 262) {i : Nat} (hat : mi_at (mi_tb k) pc = some (.invokestatic i, nx, 9998)) {r q : Nat} {sp dp n : Int} (hw : mi_wd st ≤ 8) (hr : r < G.2.2) (ht : (G.1 r).1 = 0) (hq : q < G.2.2) (hs : (G.1 q).1 = 0) (hb : 0 ≤ sp ∧ 0 ≤ dp ∧ 0 ≤ n ∧ dp + n ≤ ((G.1 r).2 : Int) ∧ sp + n ≤ ((G.1 q).2 : Int)) (hk : mi_ok X k Ge Q nx ls st G (mi_row μ r (mi_cpy (μ q) (μ r) sp dp n)) u) : mi_ok X k Ge Q pc ls (.inl n :: .inl dp :: .inr (.inl (some r)) :: .inl sp :: .inr (.inl (some q)) :: st) G μ u := by
  obtain ⟨hd, hnx, hc⟩ := mi_dec h262 hat 3 rfl (by decide)
  subst hnx
  simp only [mi_ck2, mi_beq_t, cond_true, Bool.and_eq_true, decide_eq_true_eq] at hc
  obtain ⟨⟨c1, c2⟩, c3⟩ := hc
  have c2 := mi_ble c2
  have c3 := mi_ble c3
  intro base D ca sa adE p l e R s m args below meth c hA ad la H locs cells slots hS
  have hA' := hA
  have hS' := hS
  obtain ⟨hx, hbb, hml, hre, hown, hlk, hin, hex, hst, hfr, hlo, hE⟩ := hA'
  obtain ⟨s1, s2, s3, s4, s5, s6, s7, s8⟩ := hS'
  have hl1 := (s6.2.2.2.2.2.2.2 r hr).1
  have hl2 := (s6.2.2.2.2.2.2.2 q hq).1
  have he := mi_W_get (ca := ca) (ad := ad) (μ := μ) hr
  have hf := mi_W_get (ca := ca) (ad := ad) (μ := μ) hq
  rw [mi_cl_0 ht] at he
  rw [mi_cl_0 hs] at hf
  obtain ⟨b1, b2, b3, b4, b5⟩ := hb
  obtain ⟨a1, a2⟩ := mi_ofi (z := sp) b1 (by omega)
  obtain ⟨a3, a4⟩ := mi_ofi (z := dp) b2 (by omega)
  obtain ⟨a5, a6⟩ := mi_ofi (z := n) b3 (by omega)
  have hsum := mi_wd_cat (ad := ad) st
  have hn7 : nativeFrameWords "java/lang/System" "arraycopy" 5 = 7 := by decide
  refine va_copyi (ty := .int) hx hbb (by rw [hml, s2]) hown (hE.w (mi_CP_ok _ c1) rfl) (hE.w mi_wCN rfl) (hE.w mi_wCS rfl) (hE.w mi_wCI rfl) hE.2.1 s6.1 s6.2.1 s7 q r 0 0 hf he rfl rfl rfl a1 a3 a5 (by rw [a2, a6]; omega) (by rw [a4, a6]; omega) (fun _ _ => rfl) (Nat.le_trans c2 hfr) (by rw [hsum, hn7]; omega) hd ?_
  intro H1 locs1 hP1 hD1 hS1
  rw [a2, a4, a6, mi_cpyI b1 b2 b3, ← mi_cl_0 (ca := ca) (ad := ad) (rf := G.2.1 r) (row := mi_cpy (μ q) (μ r) sp dp n) ht, mi_W_row _ hr] at hP1 hD1
  exact hk base D ca sa adE p l e R s m args below meth c hA ad la H1 locs1 cells slots (mi_SF_row hS (fun v hv => s5 v (List.mem_cons_of_mem _ (List.mem_cons_of_mem _ (List.mem_cons_of_mem _ (List.mem_cons_of_mem _ (List.mem_cons_of_mem _ hv)))))) hP1 hD1 hS1)
theorem mi_ro_stI {r : Nat} (h1 : r < 1010) : (fun i : Nat => Value.int (Int32.ofInt ((mi_sv.getD (r - 1000) []).getD i 0))) = fun i : Nat => Value.int ((fun j : Nat => Int32.ofInt (mi_ro X r (j : Int))) i) := by
  funext i
  simp only [mi_ro_st (X := X) h1, Int.toNat_natCast]
theorem mi_s_copyS (h262 : k < 262) {i : Nat} (hat : mi_at (mi_tb k) pc = some (.invokestatic i, nx, 9998)) {r q : Nat} {sp dp n : Int} (hw : mi_wd st ≤ 8) (hr : r < G.2.2) (ht : (G.1 r).1 = 0) (hq1 : 1000 ≤ q) (hq2 : q < 1006) (hb : 0 ≤ sp ∧ 0 ≤ dp ∧ 0 ≤ n ∧ dp + n ≤ ((G.1 r).2 : Int) ∧ sp + n ≤ 8) (hk : mi_ok X k Ge Q nx ls st G (mi_row μ r (mi_cpy (mi_ro X q) (μ r) sp dp n)) u) : mi_ok X k Ge Q pc ls (.inl n :: .inl dp :: .inr (.inl (some r)) :: .inl sp :: .inr (.inl (some q)) :: st) G μ u := by
  obtain ⟨hd, hnx, hc⟩ := mi_dec h262 hat 3 rfl (by decide)
  subst hnx
  simp only [mi_ck2, mi_beq_t, cond_true, Bool.and_eq_true, decide_eq_true_eq] at hc
  obtain ⟨⟨c1, c2⟩, c3⟩ := hc
  have c2 := mi_ble c2
  have c3 := mi_ble c3
  intro base D ca sa adE p l e R s m args below meth c hA ad la H locs cells slots hS
  have hA' := hA
  have hS' := hS
  obtain ⟨hx, hbb, hml, hre, hown, hlk, hin, hex, hst, hfr, hlo, hE⟩ := hA'
  obtain ⟨s1, s2, s3, s4, s5, s6, s7, s8⟩ := hS'
  have hl1 := (s6.2.2.2.2.2.2.2 r hr).1
  have he := mi_W_get (ca := ca) (ad := ad) (μ := μ) hr
  rw [mi_cl_0 ht] at he
  obtain ⟨b1, b2, b3, b4, b5⟩ := hb
  obtain ⟨a1, a2⟩ := mi_ofi (z := sp) b1 (by omega)
  obtain ⟨a3, a4⟩ := mi_ofi (z := dp) b2 (by omega)
  obtain ⟨a5, a6⟩ := mi_ofi (z := n) b3 (by omega)
  have hsum := mi_wd_cat (ad := ad) st
  have hT := (hE.2.2.1 (q - 1000) (by omega)).2
  have e9 : 1000 + (q - 1000) = q := by omega
  rw [e9, ← s6.2.2.1 q hq1, mi_ro_stI (X := X) (by omega)] at hT
  have hn7 : nativeFrameWords "java/lang/System" "arraycopy" 5 = 7 := by decide
  refine mi_copyt hx hbb (by rw [hml, s2]) hown (hE.w (mi_CP_ok _ c1) rfl) (hE.w mi_wCN rfl) (hE.w mi_wCS rfl) (hE.w mi_wCI rfl) hE.2.1 s6.1 s6.2.1 s7 hT r 0 he rfl a1 a3 a5 (by rw [a2, a6]; omega) (by rw [a4, a6]; omega) (Nat.le_trans c2 hfr) (by rw [hsum, hn7]; omega) hd ?_
  intro H1 locs1 hP1 hD1 hS1
  rw [a2, a4, a6, mi_cpyI b1 b2 b3, ← mi_cl_0 (ca := ca) (ad := ad) (rf := G.2.1 r) (row := mi_cpy (mi_ro X q) (μ r) sp dp n) ht, mi_W_row _ hr] at hP1 hD1
  exact hk base D ca sa adE p l e R s m args below meth c hA ad la H1 locs1 cells slots (mi_SF_row hS (fun v hv => s5 v (List.mem_cons_of_mem _ (List.mem_cons_of_mem _ (List.mem_cons_of_mem _ (List.mem_cons_of_mem _ (List.mem_cons_of_mem _ hv)))))) hP1 hD1 hS1)
end
