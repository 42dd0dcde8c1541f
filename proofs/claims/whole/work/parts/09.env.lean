/-! WHAT STANDS AROUND: the tables' words, the statics, the script, the texts; all of it lies below 'base' and never changes -/
def mi_gw : Cond → Bool
  | .fieldLinkNest _ _ _ _ _ _ => true
  | .methodLinkNest _ _ _ _ => true
  | .castable _ _ => true
  | .declares _ => true
  | w => goodWord w
theorem mi_gw_at {s U : State} {a a' : Array Value} (hW : s.WarmedH U.vm) {w : Cond} (hg : mi_gw w = true) (h : w.before a s = true) : w.before a' U = true := by
  cases w <;> first
    | exact word_at hW (good_of_word hg) h
    | exact va_Nw.use rfl (va_Nw.warmF hW (va_Nw.of rfl h))
    | exact va_Nw.use rfl (va_Nw.warmM hW (va_Nw.of rfl h))
    | exact va_Nw.use rfl (va_Nw.warmC hW (va_Nw.of rfl h))
    | exact va_Nw.use rfl (va_Nw.warmD hW (va_Nw.of rfl h))
def mi_len : List Nat := mi_sc.map List.length
def mi_byt : List (List Int32) := mi_sc.map (fun l => l.map Int32.ofInt)
/-- the texts -/
noncomputable def mi_eS (base : Nat) (sa : Nat → Nat) (U : State) (H : Heap) : Prop :=
  (∀ e ∈ mi_TL, vk_R (mi_rs e.1) e.2.1 (mi_ss.getD (e.2.2 - 1020) "") (sa e.2.2) U) ∧ (∃ adV : Nat → Nat, vk_S 9 mi_len mi_byt (fun i => sa (1020 + i)) adV (mi_A base) U H) ∧ va_Z "java/lang/String" "COMPACT_STRINGS" "Z" (.int 1) (mi_A base) U H ∧ va_Zq "jdk/internal/util/Preconditions" "SIOOBE_FORMATTER" "Ljava/util/function/BiFunction;" (mi_A base) U H
/-- what a throw wants -/
def mi_eT (base : Nat) (U : State) (H : Heap) : Prop :=
  (∃ q : Nat, vk_R RX11 302 "no such place" q U) ∧ vx_Zq Bundle.tN "UNASSIGNED_STACK" Bundle.steD (mi_A base) U H ∧ vx_Zq Bundle.tN "SUPPRESSED_SENTINEL" Bundle.listD (mi_A base) U H
abbrev mi_ty (ca : Nat → ClassId) : List (ClassId × FieldType) := [(ca 0, .int), (ca 1, .byte), (ca 2, .long), (ca 3, .object RX9), (ca 4, .object RX0)]
noncomputable def mi_env (X : mi_X) (base : Nat) (D : va_G) (ca : Nat → ClassId) (sa : Nat → Nat) (U : State) (H : Heap) : Prop :=
  (∀ w ∈ lw_tbl, mi_gw w = true → w.before #[] U = true) ∧ va_K D vwCl (mi_ty ca) U ∧
  (∀ j, j < 6 → va_Z "TwoViews" (mi_sn.getD j "") "[I" (.ref (sa (1000 + j))) (mi_A base) U H ∧ va_T .int (sa (1000 + j)) 8 (fun i => .int (Int32.ofInt ((mi_sv.getD j []).getD i 0))) (mi_A base) U H) ∧
  (va_X (sa 1010) X.2 X.1 U H ∧ sa 1010 < base ∧ X.2 < 2147483648 ∧ base ≤ H.size) ∧ mi_eS base sa U H ∧ mi_eT base U H ∧ va_AO RX9 U ∧ va_AO RX0 U
theorem mi_env.go {X : mi_X} {base : Nat} {D : va_G} {ca : Nat → ClassId} {sa : Nat → Nat} {s U : State} {H0 H : Heap} (h : mi_env X base D ca sa s H0) (hW : s.WarmedH U.vm) (hz : H0.size ≤ H.size) (hk : ∀ q : Nat, q < H0.size → ¬ mi_A base q → H[q]? = H0[q]?) : mi_env X base D ca sa U H := by
  obtain ⟨h1, h2, h3, ⟨⟨scr, x1, x2, x3, x4, x5⟩, x6, x7, x8⟩, ⟨s1, ⟨adV, s2⟩, s3, s9⟩, ⟨⟨q, t1⟩, t2, t3⟩, h8, h9⟩ := h
  have hv := hW.alike
  refine ⟨fun w hw hg => mi_gw_at hW hg (h1 w hw hg), va_K.moved hv h2, fun j hj => ⟨(((h3 j hj).1).kept hk).moved hv, (((h3 j hj).2).kept hk).moved hv⟩, ⟨⟨scr, ?_, State.isArrayOf_alike hv x2, x3, x4, x5⟩, x6, x7, Nat.le_trans x8 hz⟩, ⟨fun e he => (s1 e he).warm hW, ⟨adV, (s2.kept hk).moved hv⟩, (s3.kept hk).moved hv, (s9.kept hk).moved hv⟩, ⟨⟨q, t1.warm hW⟩, (t2.kept hk).moved hv, (t3.kept hk).moved hv⟩, h8.moved hv, h9.moved hv⟩
  rw [hk _ (Nat.lt_of_lt_of_le x6 x8) (by unfold mi_A; omega)]
  exact x1
theorem mi_env.w {X : mi_X} {base : Nat} {D : va_G} {ca : Nat → ClassId} {sa : Nat → Nat} {U : State} {H : Heap} (h : mi_env X base D ca sa U H) {w : Cond} (hw : w ∈ lw_tbl) (hg : mi_gw w = true) {a : Array Value} : w.before a U = true := mi_gw_at (State.WarmedH.refl U) hg (h.1 w hw hg)
/-- a world of the small machine behind a method -/
noncomputable def mi_wl (base : Nat) (D : va_G) (ca : Nat → ClassId) (sa adE : Nat → Nat) (nE : Nat) (ad : Nat → Nat) (G : mi_G) (μ : mi_M) (H : Heap) : Prop :=
  va_P D vwCl (mi_W ca ad G μ) H ∧ va_D (mi_A base) (mi_W ca ad G μ) ∧ (∀ i, 1000 ≤ i → ad i = sa i) ∧ (∀ i, i < nE → ad i = adE i) ∧ nE ≤ G.2.2 ∧ mi_wf G
noncomputable def mi_Pc (X : mi_X) (base : Nat) (D : va_G) (ca : Nat → ClassId) (sa ad : Nat → Nat) (G : mi_G) (μ : mi_M) (as : List mi_V) : Array Value → State → Prop := fun a U =>
  a = (as.map (mi_c ad)).toArray ∧ mi_env X base D ca sa U U.heap ∧ mi_wl base D ca sa ad G.2.2 ad G μ U.heap ∧ ∀ v ∈ as, mi_vo G.2.2 v
noncomputable def mi_Qc (base : Nat) (D : va_G) (ca : Nat → ClassId) (sa adE : Nat → Nat) (k : Nat) (Ge : mi_G) (Q : mi_R → mi_G → mi_M → Prop) : Array Value → State → Outcome → State → Prop := fun _ st o t =>
  (∃ (v : Option mi_V) (G' : mi_G) (μ' : mi_M) (ad' : Nat → Nat), o = .returned (v.map (mi_c ad')) ∧ Q (.inl v) G' μ' ∧ mi_wl base D ca sa adE Ge.2.2 ad' G' μ' t.heap ∧ (∀ x, v = some x → mi_vo G'.2.2 x) ∧ ((mi_hd k).2.2.2.1 = false → G' = Ge)) ∧ va_F (mi_A base) st t
noncomputable def mi_XC (base : Nat) (D : va_G) (ca : Nat → ClassId) (sa adE : Nat → Nat) (k : Nat) (Ge : mi_G) (Q : mi_R → mi_G → mi_M → Prop) : String → State → State → Prop := fun E st t =>
  E = "java/util/NoSuchElementException" ∧ (∃ (G' : mi_G) (μ' : mi_M) (ad' : Nat → Nat), Q (.inr ()) G' μ' ∧ mi_wl base D ca sa adE Ge.2.2 ad' G' μ' t.heap ∧ ((mi_hd k).2.2.2.1 = false → G' = Ge)) ∧ va_F (mi_A base) st t
noncomputable def mi_room (k : Nat) (b : mi_U) : Room := { frames := (mi_rm k).1, cells := b.1, slots := b.2, locals := (mi_rm k).2 }
/-- a call's contract -/
noncomputable def mi_cok (X : mi_X) (k : Nat) (as : List mi_V) (G : mi_G) (μ : mi_M) (b : mi_U) (Q : mi_R → mi_G → mi_M → Prop) : Prop :=
  ∀ (base : Nat) (D : va_G) (ca : Nat → ClassId) (sa ad : Nat → Nat) (l : Launch), l.stackTraces = false →
    vx_Met l (mi_nm k) [mi_w k] (mi_room k b) (mi_Pc X base D ca sa ad G μ as) (mi_Qc base D ca sa ad k G Q) (mi_XC base D ca sa ad k G Q) b.1 b.2 (mi_A base)
/-- a method's body stands -/
noncomputable def mi_AF (X : mi_X) (base : Nat) (D : va_G) (ca : Nat → ClassId) (sa : Nat → Nat) (k : Nat) (p : Program) (l : Launch) (R : Room) (s : State) (m : MethodId) (meth : Method) (c : Code) : Prop :=
  p.tables.exec = Jvm.exec ∧ c.code = mi_cd k ∧ c.maxLocals = (mi_hd k).2.1 ∧ meth.sig.returnType = mi_rt k ∧ s.vm.findClass (mi_rs (mi_on k)) = some m.cls ∧ meth.locks = false ∧ (mi_ini k = true → meth.name = "<init>") ∧ c.exceptionTable.toList = tableOf (mi_hh k) ∧ l.stackTraces = false ∧ (mi_rm k).1 ≤ R.frames ∧ (mi_rm k).2 ≤ R.locals ∧ mi_env X base D ca sa s s.heap
noncomputable def mi_SF (base : Nat) (D : va_G) (ca : Nat → ClassId) (sa adE : Nat → Nat) (k : Nat) (Ge : mi_G) (ls : mi_L) (st : mi_S) (G : mi_G) (μ : mi_M) (u : mi_U) (R : Room) (s : State) (ad : Nat → Nat) (la : Array Slot) (H : Heap) (locs : List Loc) (cells slots : Nat) : Prop :=
  ls.length = (mi_hd k).2.1 ∧ la.size = (mi_hd k).2.1 ∧ lv_wf la ∧ (∀ i v, mi_lget ls i = some v → la[i]? = some (.val (mi_c ad v)) ∧ mi_vo G.2.2 v ∧ ∀ z, v ≠ .inr (.inr z)) ∧ (∀ v ∈ st, mi_vo G.2.2 v) ∧
  mi_wl base D ca sa adE Ge.2.2 ad G μ H ∧ va_S (mi_A base) s.heap H locs ∧ ((mi_hd k).2.2.2.1 = false → mi_ag Ge G ∧ mi_wf Ge) ∧ cells + u.1 ≤ R.cells ∧ slots + u.2 ≤ R.slots
/-- from here on the method ends as Q says -/
noncomputable def mi_ok (X : mi_X) (k : Nat) (Ge : mi_G) (Q : mi_R → mi_G → mi_M → Prop) (pc : Nat) (ls : mi_L) (st : mi_S) (G : mi_G) (μ : mi_M) (u : mi_U) : Prop :=
  ∀ (base : Nat) (D : va_G) (ca : Nat → ClassId) (sa adE : Nat → Nat) (p : Program) (l : Launch) (e : Env) (R : Room) (s : State) (m : MethodId) (args : Array Value) (below : List Frame) (meth : Method) (c : Code), mi_AF X base D ca sa k p l R s m meth c →
    ∀ (ad : Nat → Nat) (la : Array Slot) (H : Heap) (locs : List Loc) (cells slots : Nat), mi_SF base D ca sa adE k Ge ls st G μ u R s ad la H locs cells slots →
      W p l e R s m args below meth c H locs cells slots (vx_MQ below (mi_Qc base D ca sa adE k Ge Q) (mi_XC base D ca sa adE k Ge Q) args s R.cells R.slots (mi_A base)) (F0 m pc la (st.map (mi_c ad)))
theorem mi_lget_len : ∀ (ls : mi_L) (i : Nat) (v : mi_V), mi_lget ls i = some v → i < ls.length
  | [], _, _, h => by simp [mi_lget] at h
  | _ :: _, 0, _, _ => by simp
  | _ :: l, n + 1, v, h => by
    have := mi_lget_len l n v h
    simp only [List.length_cons]; omega
theorem mi_lget_get : ∀ (ls : mi_L) (i : Nat) (v : mi_V), mi_lget ls i = some v ↔ ls[i]? = some (some v)
  | [], i, v => by simp [mi_lget]
  | x :: l, 0, v => by simp [mi_lget]
  | _ :: l, n + 1, v => by
    have := mi_lget_get l n v
    simp only [mi_lget, List.getElem?_cons_succ]; exact this
theorem mi_lset_get : ∀ (ls : mi_L) (i j : Nat) (x : Option mi_V) (v : mi_V), mi_lget (mi_lset ls i x) j = some v → (j = i ∧ x = some v) ∨ (j ≠ i ∧ mi_lget ls j = some v)
  | [], i, j, x, v, h => by cases i <;> simp [mi_lset, mi_lget] at h
  | y :: l, 0, 0, x, v, h => by simp [mi_lset, mi_lget] at h; exact Or.inl ⟨rfl, h⟩
  | y :: l, 0, j + 1, x, v, h => by simp [mi_lset, mi_lget] at h; exact Or.inr ⟨by omega, h⟩
  | y :: l, i + 1, 0, x, v, h => by simp [mi_lset, mi_lget] at h; exact Or.inr ⟨by omega, h⟩
  | y :: l, i + 1, j + 1, x, v, h => by
    simp only [mi_lset, mi_lget] at h ⊢
    rcases mi_lset_get l i j x v h with ⟨h1, h2⟩ | ⟨h1, h2⟩
    · exact Or.inl ⟨by omega, h2⟩
    · exact Or.inr ⟨by omega, h2⟩
theorem mi_lset_len : ∀ (ls : mi_L) (i : Nat) (x : Option mi_V), (mi_lset ls i x).length = ls.length
  | [], i, x => by cases i <;> rfl
  | _ :: _, 0, _ => rfl
  | _ :: l, n + 1, x => by simp only [mi_lset, List.length_cons, mi_lset_len l n x]
def mi_nl : List mi_V → Bool
  | [] => true
  | .inr (.inr _) :: _ => false
  | _ :: r => mi_nl r
theorem mi_nl_cat {ad : Nat → Nat} : ∀ {as : List mi_V}, mi_nl as = true → ∀ v ∈ as.map (mi_c ad), v.category = 1
  | [], _, v, h => absurd h (by simp)
  | .inl z :: r, hn, v, h => by
    rcases List.mem_cons.mp h with e | h'
    · subst e; rfl
    · exact mi_nl_cat (as := r) hn v h'
  | .inr (.inl q) :: r, hn, v, h => by
    rcases List.mem_cons.mp h with e | h'
    · subst e; cases q <;> rfl
    · exact mi_nl_cat (as := r) hn v h'
  | .inr (.inr z) :: r, hn, v, h => by simp [mi_nl] at hn
