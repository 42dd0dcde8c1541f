/-! a body, entered; a call, and back -/
theorem mi_wEC : Cond.castable "java/util/NoSuchElementException" "java/util/NoSuchElementException" ∈ lw_tbl := List.mem_of_getElem? (i := 1068) (by decide +kernel)
theorem mi_wEL : Cond.classLink RL 13 "java/util/NoSuchElementException" ∈ lw_tbl := List.mem_of_getElem? (i := 1057) (by decide +kernel)
theorem mi_nl_no : ∀ {as : List mi_V}, mi_nl as = true → ∀ v ∈ as, ∀ z, v ≠ .inr (.inr z)
  | [], _, v, h, _ => absurd h List.not_mem_nil
  | .inl y :: r, hn, v, h, z => by
    rcases List.mem_cons.mp h with e | h'
    · subst e; intro e; cases e
    · exact mi_nl_no (as := r) hn v h' z
  | .inr (.inl q) :: r, hn, v, h, z => by
    rcases List.mem_cons.mp h with e | h'
    · subst e; intro e; cases e
    · exact mi_nl_no (as := r) hn v h' z
  | .inr (.inr y) :: r, hn, v, h, z => by simp [mi_nl] at hn
section
variable {l : Launch}
theorem mi_ofW {y : MethodName} {ws ws' : List Cond} {rm : Room} {Pc : Array Value → State → Prop} {Qc : Array Value → State → Outcome → State → Prop} {XC : String → State → State → Prop} {mc ms : Nat} {free : Addr → Prop} {cc : ByteArray} {maxL : Nat} {ret : Option FieldType}
    (hy : plainFor y = true) (hw : ws = Cond.code y cc maxL ret :: ws')
    (body : ∀ p e s m args below meth c s₁, BodyLoose p l y (headSpec ws rm) cc maxL ret e s m args below meth c s₁ → c.maxLocals = maxL → c.exceptionTable.toList = [] → Pc args s →
      W p l e (headSpec ws rm).room s m args below meth c s.heap [] 0 0 (vx_MQ below Qc XC args s mc ms free) (entryFrame m args maxL)) : vx_Met l y ws rm Pc Qc XC mc ms free := by
  refine MetFree.of_bodySF (code := cc) (maxLocals := maxL) (ret := ret) hy ?_ ?_
  · intro args s m h hn
    obtain ⟨meth, c, h1, h2, h3, h4, h5, h6, -, -⟩ := Cond.code_spec hn (atoms_spec (ws := ws) h _ (by rw [hw]; exact List.mem_cons_self))
    exact ⟨meth, c, h1, h2, h3, h4, h5, h6⟩
  · intro p e s m args below meth c s₁ B hml hP _
    have hh0 : s₁.heap = s.heap := by rw [B.state]; rfl
    have ht : c.exceptionTable.toList = [] := by
      obtain ⟨meth9, c9, h1, h2, -, -, -, -, h7, -⟩ := Cond.code_spec B.named (atoms_spec (ws := ws) B.pre _ (by rw [hw]; exact List.mem_cons_self))
      cases Option.some.inj (h1.symm.trans B.method)
      cases Option.some.inj (h2.symm.trans (Stand.of_body B).code)
      rw [Array.isEmpty_iff.mp h7]
    obtain ⟨t, a1, o, b1, b2, b3⟩ := body p e s m args below meth c s₁ B hml ht hP s₁ hh0 (Stand.of_body B)
    exact ⟨t, o, a1, b1, b2, b3⟩
theorem mi_ofWH {y : MethodName} {ws ws' : List Cond} {rm : Room} {Pc : Array Value → State → Prop} {Qc : Array Value → State → Outcome → State → Prop} {XC : String → State → State → Prop} {mc ms : Nat} {free : Addr → Prop} {cc : ByteArray} {maxL : Nat} {ret : Option FieldType} {hh : List (Nat × Nat × Nat × Nat)}
    (hy : plainFor y = true) (hw : ws = Cond.codeWith y cc maxL ret hh :: ws')
    (body : ∀ p e s m args below meth c s₁, BodyLoose p l y (headSpec ws rm) cc maxL ret e s m args below meth c s₁ → c.maxLocals = maxL → c.exceptionTable.toList = tableOf hh → Pc args s →
      W p l e (headSpec ws rm).room s m args below meth c s.heap [] 0 0 (vx_MQ below Qc XC args s mc ms free) (entryFrame m args maxL)) : vx_Met l y ws rm Pc Qc XC mc ms free := by
  refine MetFree.of_bodySF (code := cc) (maxLocals := maxL) (ret := ret) hy ?_ ?_
  · intro args s m h hn
    obtain ⟨m9, meth, c, hn9, h1, h2, h3, h4, -, h5, h6, -⟩ := Cond.codeWith_spec (atoms_spec (ws := ws) h _ (by rw [hw]; exact List.mem_cons_self))
    cases hn.symm.trans hn9
    exact ⟨meth, c, h1, h2, h3, h4, h5, h6⟩
  · intro p e s m args below meth c s₁ B hml hP _
    have hh0 : s₁.heap = s.heap := by rw [B.state]; rfl
    have ht := vx_table (x := y) B (atoms_spec (ws := ws) B.pre _ (by rw [hw]; exact List.mem_cons_self))
    obtain ⟨t, a1, o, b1, b2, b3⟩ := body p e s m args below meth c s₁ B hml ht hP s₁ hh0 (Stand.of_body B)
    exact ⟨t, o, a1, b1, b2, b3⟩
end
theorem mi_loc_len {n : Nat} {as : List mi_V} (h : as.length ≤ n) : (mi_loc n as).length = n := by
  simp only [mi_loc, List.length_append, List.length_map, List.length_replicate]; omega
theorem mi_loc_get {n i : Nat} {as : List mi_V} {v : mi_V} (h : mi_lget (mi_loc n as) i = some v) : as[i]? = some v := by
  rw [mi_lget_get] at h
  unfold mi_loc at h
  by_cases hi : i < as.length
  · rw [List.getElem?_append_left (by simpa using hi), List.getElem?_map] at h
    cases hv : as[i]? with
    | none => rw [hv] at h; cases h
    | some x => rw [hv] at h; simpa using h
  · rw [List.getElem?_append_right (by simpa using Nat.le_of_not_lt hi), List.getElem?_replicate] at h
    split at h <;> cases h
/-- the locals at the entry -/
theorem mi_entry {ad : Nat → Nat} {n : Nat} {as : List mi_V} (hlen : as.length ≤ n) (hnl : mi_nl as = true) : ((((as.map (mi_c ad)).map Slot.val ++ List.replicate (n - (as.map (mi_c ad)).length) Slot.unset).toArray)).size = n ∧ lv_wf (((as.map (mi_c ad)).map Slot.val ++ List.replicate (n - (as.map (mi_c ad)).length) Slot.unset).toArray) ∧ ∀ (i : Nat) (v : mi_V), as[i]? = some v → (((as.map (mi_c ad)).map Slot.val ++ List.replicate (n - (as.map (mi_c ad)).length) Slot.unset).toArray)[i]? = some (Slot.val (mi_c ad v)) := by
  have hget : ∀ (i : Nat) (x : Slot), (((as.map (mi_c ad)).map Slot.val ++ List.replicate (n - (as.map (mi_c ad)).length) Slot.unset).toArray)[i]? = some x → (∃ v, as[i]? = some v ∧ x = Slot.val (mi_c ad v)) ∨ x = Slot.unset := by
    intro i x h
    rw [List.getElem?_toArray] at h
    by_cases hi : i < as.length
    · rw [List.getElem?_append_left (by simpa using hi), List.getElem?_map, List.getElem?_map] at h
      cases hv : as[i]? with
      | none => rw [hv] at h; cases h
      | some v => rw [hv] at h; exact Or.inl ⟨v, rfl, (Option.some.inj h).symm⟩
    · rw [List.getElem?_append_right (by simpa using Nat.le_of_not_lt hi), List.getElem?_replicate] at h
      split at h
      · exact Or.inr (Option.some.inj h).symm
      · cases h
  refine ⟨by simp; omega, ⟨fun i v h hc => ?_, fun i h => ?_⟩, fun i v h => ?_⟩
  · rcases hget i _ h with ⟨w, h1, h2⟩ | h2
    · cases h2
      have := mi_nl_cat (ad := ad) hnl (mi_c ad w) (List.mem_map.mpr ⟨w, List.mem_of_getElem? h1, rfl⟩)
      omega
    · cases h2
  · rcases hget i _ h with ⟨w, h1, h2⟩ | h2
    · cases h2
    · cases h2
  · have hi : i < as.length := (List.getElem?_eq_some_iff.mp h).1
    rw [List.getElem?_toArray, List.getElem?_append_left (by simpa using hi), List.getElem?_map, List.getElem?_map, h]
    rfl
theorem mi_enter {X : mi_X} {k : Nat} {as : List mi_V} {G : mi_G} {μ : mi_M} {b : mi_U} {Q : mi_R → mi_G → mi_M → Prop} (hk : k < 262) (h256 : k ≠ 256) (hlen : as.length = (mi_hd k).1) (hnl : mi_nl as = true) (h : mi_ok X k G Q 0 (mi_loc (mi_hd k).2.1 as) [] G μ b) : mi_cok X k as G μ b Q := by
  intro base D ca sa ad l hst
  obtain ⟨f1, f2, f3, f4, f5, f6, f7, f8, f9, f10, f11, f12⟩ := mi_nmf k hk
  have hle : as.length ≤ (mi_hd k).2.1 := by omega
  have main : ∀ p e s m args below meth c s₁, BodyLoose p l (mi_nm k) (headSpec [mi_w k] (mi_room k b)) (mi_cd k) (mi_hd k).2.1 (mi_rt k) e s m args below meth c s₁ → c.maxLocals = (mi_hd k).2.1 → c.exceptionTable.toList = tableOf (mi_hh k) → mi_Pc X base D ca sa ad G μ as args s →
      W p l e (headSpec [mi_w k] (mi_room k b)).room s m args below meth c s.heap [] 0 0 (vx_MQ below (mi_Qc base D ca sa ad k G Q) (mi_XC base D ca sa ad k G Q) args s b.1 b.2 (mi_A base)) (entryFrame m args (mi_hd k).2.1) := by
    intro p e s m args below meth c s₁ B hml htab hP
    obtain ⟨hargs, hE, hwl, hvo⟩ := hP
    subst hargs
    rw [entry_eq m _ (mi_nl_cat (ad := ad) hnl)]
    obtain ⟨e1, e2, e3⟩ := mi_entry (ad := ad) hle hnl
    have hown : s.vm.findClass (mi_rs (mi_on k)) = some m.cls := by rw [← f1]; exact findClass_of_methodNamed B.named
    refine h base D ca sa ad p l e (mi_room k b) s m _ below meth c ⟨B.exec, B.bytes, hml, B.returns, hown, B.notSynchronized, fun hi => ?_, htab, hst, Nat.le_refl _, Nat.le_refl _, hE⟩ ad _ s.heap [] 0 0 ⟨mi_loc_len hle, e1, e2, fun i v hv => ?_, fun v hv => absurd hv List.not_mem_nil, hwl, va_S.rf, fun _ => ⟨⟨Nat.le_refl _, fun _ _ => ⟨rfl, rfl⟩⟩, hwl.2.2.2.2.2⟩, by show 0 + b.1 ≤ b.1; omega, by show 0 + b.2 ≤ b.2; omega⟩
    · have := (name_of_methodNamed B.named B.method).1
      rw [this]
      unfold mi_ini at hi
      exact of_decide_eq_true hi
    · have hv' := mi_loc_get hv
      exact ⟨e3 i v hv', hvo v (List.mem_of_getElem? hv'), mi_nl_no hnl v (List.mem_of_getElem? hv')⟩
  rcases mi_hxA k hk with ⟨hh, -⟩ | ⟨b', t, o, x, hh, -⟩
  · refine mi_ofW (cc := mi_cd k) (maxL := (mi_hd k).2.1) (ret := mi_rt k) (ws' := []) f3 (by rw [mi_w_code hh]) ?_
    intro p e s m args below meth c s₁ B hml htab hP
    exact main p e s m args below meth c s₁ B hml (by rw [htab, hh]; rfl) hP
  · refine mi_ofWH (cc := mi_cd k) (maxL := (mi_hd k).2.1) (ret := mi_rt k) (ws' := []) f3 (by rw [mi_w_with hh]) ?_
    intro p e s m args below meth c s₁ B hml htab hP
    exact main p e s m args below meth c s₁ B hml (by rw [htab, hh]) hP
section
variable {p : Program} {l : Launch} {e : Env} {R : Room} {s : State} {m : MethodId} {args : Array Value} {below : List Frame} {meth : Method} {c : Code} {H : Heap} {locs : List Loc} {cells slots mc ms : Nat} {Qw : State → Prop}
theorem mi_run {pc : Nat} {la : Array Slot} {st0 rest : List Value} {Qa : State → Outcome → State → Prop} {XC : String → State → State → Prop} {A : Addr → Prop} (hr : vx_Run p l e R s m args below meth c H locs cells slots mc ms (F0 m pc la st0) rest Qa XC A)
    (kk : ∀ (v : Option Value) (t st₀ : State) (L : List Loc), st₀.heap = H → Qa st₀ (.returned v) t → (∀ q ∈ L, A q.base) → W p l e R s m args below meth c t.heap (locs ++ L) (cells + mc) (slots + ms) Qw (F0 m (pc + 3) la (v.toList ++ rest)))
    (kx : ∀ (q : Addr) (E : String) (ce : Cell) (t st₀ : State) (L : List Loc), st₀.heap = H → XC E st₀ t → (∀ q ∈ L, A q.base) → t.heap[q]? = some ce → ce.vm = .none → s.vm.findClass E = some ce.cls → vx_W p l e R s m args below meth c t.heap (locs ++ L) (cells + mc) (slots + ms) Qw (F0 m pc la rest) q) : W p l e R s m args below meth c H locs cells slots Qw (F0 m pc la st0) := by
  intro T hT Y
  rcases hr T hT Y with ⟨v, st₀, t, T', L, h0, Y', hL, e1, e2, hq, go⟩ | ⟨q, st₀, t, T', L, E, ce, h0, Y', hL, e1, e2, hq, hce, hv, hcl, go⟩
  · obtain ⟨t2, a1, b1⟩ := kk v t st₀ L h0 hq hL T' e1 Y'
    exact ⟨t2, go t2 a1, b1⟩
  · obtain ⟨t2, a1, b1⟩ := kx q E ce t st₀ L h0 hq hL hce hv hcl T' e1 Y'
    exact ⟨t2, go.trans a1, b1⟩
end
section
variable {X : mi_X} {k : Nat} {Ge : mi_G} {Q : mi_R → mi_G → mi_M → Prop} {pc nx aux : Nat} {ls : mi_L} {st st' : mi_S} {G : mi_G} {μ : mi_M} {u : mi_U}
/-- behind a call the frame stands as it was, over the new world -/
theorem mi_SF_ret {base : Nat} {D : va_G} {ca : Nat → ClassId} {sa adE ad ad' : Nat → Nat} {R : Room} {s t st₀ : State} {la : Array Slot} {H : Heap} {locs L : List Loc} {cells slots : Nat} {G' : mi_G} {μ' : mi_M} {b : mi_U} {st2 : mi_S}
    (hS : mi_SF base D ca sa adE k Ge ls st G μ u R s ad la H locs cells slots) (hw : mi_wl base D ca sa ad G.2.2 ad' G' μ' t.heap) (hF : va_F (mi_A base) st₀ t) (h0 : st₀.heap = H) (hL : ∀ q ∈ L, mi_A base q.base) (hb : b.1 ≤ u.1 ∧ b.2 ≤ u.2) (hct : (mi_hd k).2.2.2.1 = false → G' = G) (hv : ∀ v ∈ st2, mi_vo G'.2.2 v) :
    mi_SF base D ca sa adE k Ge ls st2 G' μ' (u.1 - b.1, u.2 - b.2) R s ad' la t.heap (locs ++ L) (cells + b.1) (slots + b.2) ∧ (∀ v, mi_vo G.2.2 v → mi_c ad' v = mi_c ad v ∧ mi_vo G'.2.2 v) := by
  obtain ⟨s1, s2, s3, s4, s5, ⟨w1, w2, w3, w4, w5, w6⟩, s7, s8, s9, s10⟩ := hS
  obtain ⟨v1, v2, v3, v4, v5, v6⟩ := hw
  subst h0
  have hc : ∀ v, mi_vo G.2.2 v → mi_c ad' v = mi_c ad v ∧ mi_vo G'.2.2 v := fun v h => ⟨mi_c_ad h v4 (fun i hi => (v3 i hi).trans (w3 i hi).symm), fun r e => (h r e).imp (fun q => Nat.lt_of_lt_of_le q v5) id⟩
  refine ⟨⟨s1, s2, s3, fun i v h => ?_, hv, ⟨v1, v2, v3, fun i hi => (v4 i (Nat.lt_of_lt_of_le hi w5)).trans (w4 i hi), Nat.le_trans w5 v5, v6⟩, ⟨Nat.le_trans s7.1 hF.1, fun q h1 h2 => (hF.2 q (Nat.lt_of_lt_of_le h1 s7.1) h2).trans (s7.2.1 q h1 h2), fun q hq => (List.mem_append.mp hq).elim (s7.2.2 q) (hL q)⟩, fun h => by rw [hct h]; exact s8 h, by show cells + b.1 + (u.1 - b.1) ≤ R.cells; omega, by show slots + b.2 + (u.2 - b.2) ≤ R.slots; omega⟩, hc⟩
  obtain ⟨a1, a2, a3⟩ := s4 i v h
  exact ⟨by rw [(hc v a2).1]; exact a1, (hc v a2).2, a3⟩
end
