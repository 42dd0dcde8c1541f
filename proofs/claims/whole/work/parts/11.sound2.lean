/-! branches, locals, returns -/
theorem mi_wr0 : mi_wr 0 = 0 := mi_wr_id (by omega) (by omega)
theorem mi_0 : (0 : Int32) = Int32.ofInt 0 := rfl
theorem mi_wr_lt0 {a : Int} : Int32.ofInt a < 0 ↔ mi_wr a < 0 := by rw [mi_0, mi_wr_lt, mi_wr0]
theorem mi_wr_0lt {a : Int} : 0 < Int32.ofInt a ↔ 0 < mi_wr a := by rw [mi_0, mi_wr_lt, mi_wr0]
theorem mi_wr_eq0 {a : Int} : Int32.ofInt a = 0 ↔ mi_wr a = 0 := by rw [mi_0, mi_wr_eq, mi_wr0]
section
variable {X : mi_X} {k : Nat} {Ge : mi_G} {Q : mi_R → mi_G → mi_M → Prop} {pc nx aux : Nat} {ls : mi_L} {st st' : mi_S} {G : mi_G} {μ : mi_M} {u : mi_U}
theorem mi_s_dup2 (h262 : k < 262) (hat : mi_at (mi_tb k) pc = some (.dup2, nx, aux)) {b : Int} {r : Option Nat} (hk : mi_ok X k Ge Q nx ls (.inl b :: .inr (.inl r) :: .inl b :: .inr (.inl r) :: st) G μ u) : mi_ok X k Ge Q pc ls (.inl b :: .inr (.inl r) :: st) G μ u := by
  obtain ⟨hd, hn, -⟩ := mi_dec h262 hat 1 rfl (by decide)
  subst hn
  refine mi_stk (fun n h => mi_vo_c mi_vo_i (mi_vo_c (h _ (List.mem_cons_of_mem _ List.mem_cons_self)) h)) hk ?_
  intro p l e R s m args below meth c H locs cells slots Qf la ad hx hb ho hw hW
  exact lv_dup2_11 hx hb hd rfl (by cases r <;> rfl) hW
theorem mi_br {P : Prop} {p1 p2 : Nat} (hv : ∀ n, (∀ v ∈ st, mi_vo n v) → ∀ v ∈ st', mi_vo n v) (h1 : P → mi_ok X k Ge Q p1 ls st' G μ u) (h2 : ¬ P → mi_ok X k Ge Q p2 ls st' G μ u)
    (hrow : ∀ (p : Program) (l : Launch) (e : Env) (R : Room) (s : State) (m : MethodId) (args : Array Value) (below : List Frame) (meth : Method) (c : Code) (H : Heap) (locs : List Loc) (cells slots : Nat) (Qf : State → Prop) (la : Array Slot) (ad : Nat → Nat), p.tables.exec = Jvm.exec → c.code = mi_cd k →
      (P → W p l e R s m args below meth c H locs cells slots Qf (F0 m p1 la (st'.map (mi_c ad)))) → (¬ P → W p l e R s m args below meth c H locs cells slots Qf (F0 m p2 la (st'.map (mi_c ad)))) → W p l e R s m args below meth c H locs cells slots Qf (F0 m pc la (st.map (mi_c ad)))) : mi_ok X k Ge Q pc ls st G μ u := by
  intro base D ca sa adE p l e R s m args below meth c hA ad la H locs cells slots hS
  have hA' := hA
  obtain ⟨hx, hb, hml, hr, hown, hlk, hin, hex, hst, hf, hlo, hE⟩ := hA'
  obtain ⟨s1, s2, s3, s4, s5, s6⟩ := hS
  exact hrow p l e R s m args below meth c H locs cells slots _ la ad hx hb
    (fun h => h1 h base D ca sa adE p l e R s m args below meth c hA ad la H locs cells slots ⟨s1, s2, s3, s4, hv _ s5, s6⟩)
    (fun h => h2 h base D ca sa adE p l e R s m args below meth c hA ad la H locs cells slots ⟨s1, s2, s3, s4, hv _ s5, s6⟩)
theorem mi_s_icmp_eq (h262 : k < 262) {o : Int} (hat : mi_at (mi_tb k) pc = some (.if_icmp .eq o, nx, aux)) {a b : Int} (h1 : mi_wr a = mi_wr b → mi_ok X k Ge Q aux ls st G μ u) (h2 : ¬ mi_wr a = mi_wr b → mi_ok X k Ge Q nx ls st G μ u) : mi_ok X k Ge Q pc ls (.inl b :: .inl a :: st) G μ u := by
  obtain ⟨hd, hn, hc⟩ := mi_dec h262 hat 3 rfl (by decide)
  subst hn
  simp only [mi_ck2, decide_eq_true_eq] at hc
  refine mi_br (fun n h v hv => h v (List.mem_cons_of_mem _ (List.mem_cons_of_mem _ hv))) h1 h2 ?_
  intro p l e R s m args below meth c H locs cells slots Qf la ad hx hb w1 w2
  exact lv_icmp_eq hx hb hd hc (fun h => w1 (mi_wr_eq.mp h)) (fun h => w2 (fun q => h (mi_wr_eq.mpr q)))
theorem mi_s_icmp_ne (h262 : k < 262) {o : Int} (hat : mi_at (mi_tb k) pc = some (.if_icmp .ne o, nx, aux)) {a b : Int} (h1 : mi_wr a = mi_wr b → mi_ok X k Ge Q nx ls st G μ u) (h2 : ¬ mi_wr a = mi_wr b → mi_ok X k Ge Q aux ls st G μ u) : mi_ok X k Ge Q pc ls (.inl b :: .inl a :: st) G μ u := by
  obtain ⟨hd, hn, hc⟩ := mi_dec h262 hat 3 rfl (by decide)
  subst hn
  simp only [mi_ck2, decide_eq_true_eq] at hc
  refine mi_br (fun n h v hv => h v (List.mem_cons_of_mem _ (List.mem_cons_of_mem _ hv))) h1 h2 ?_
  intro p l e R s m args below meth c H locs cells slots Qf la ad hx hb w1 w2
  exact lv_icmp_ne hx hb hd hc (fun h => w2 (fun q => h (mi_wr_eq.mpr q))) (fun h => w1 (mi_wr_eq.mp h))
theorem mi_s_icmp_lt (h262 : k < 262) {o : Int} (hat : mi_at (mi_tb k) pc = some (.if_icmp .lt o, nx, aux)) {a b : Int} (h1 : mi_wr a < mi_wr b → mi_ok X k Ge Q aux ls st G μ u) (h2 : ¬ mi_wr a < mi_wr b → mi_ok X k Ge Q nx ls st G μ u) : mi_ok X k Ge Q pc ls (.inl b :: .inl a :: st) G μ u := by
  obtain ⟨hd, hn, hc⟩ := mi_dec h262 hat 3 rfl (by decide)
  subst hn
  simp only [mi_ck2, decide_eq_true_eq] at hc
  refine mi_br (fun n h v hv => h v (List.mem_cons_of_mem _ (List.mem_cons_of_mem _ hv))) h1 h2 ?_
  intro p l e R s m args below meth c H locs cells slots Qf la ad hx hb w1 w2
  exact lv_icmp_lt hx hb hd hc (fun h => w1 (mi_wr_lt.mp h)) (fun h => w2 (fun q => h (mi_wr_lt.mpr q)))
theorem mi_s_icmp_ge (h262 : k < 262) {o : Int} (hat : mi_at (mi_tb k) pc = some (.if_icmp .ge o, nx, aux)) {a b : Int} (h1 : mi_wr a < mi_wr b → mi_ok X k Ge Q nx ls st G μ u) (h2 : ¬ mi_wr a < mi_wr b → mi_ok X k Ge Q aux ls st G μ u) : mi_ok X k Ge Q pc ls (.inl b :: .inl a :: st) G μ u := by
  obtain ⟨hd, hn, hc⟩ := mi_dec h262 hat 3 rfl (by decide)
  subst hn
  simp only [mi_ck2, decide_eq_true_eq] at hc
  refine mi_br (fun n h v hv => h v (List.mem_cons_of_mem _ (List.mem_cons_of_mem _ hv))) h1 h2 ?_
  intro p l e R s m args below meth c H locs cells slots Qf la ad hx hb w1 w2
  exact lv_icmp_ge hx hb hd hc (fun h => w2 (fun q => Int32.not_le.mpr (mi_wr_lt.mpr q) h)) (fun h => w1 (mi_wr_lt.mp (Int32.not_le.mp h)))
theorem mi_s_icmp_gt (h262 : k < 262) {o : Int} (hat : mi_at (mi_tb k) pc = some (.if_icmp .gt o, nx, aux)) {a b : Int} (h1 : mi_wr b < mi_wr a → mi_ok X k Ge Q aux ls st G μ u) (h2 : ¬ mi_wr b < mi_wr a → mi_ok X k Ge Q nx ls st G μ u) : mi_ok X k Ge Q pc ls (.inl b :: .inl a :: st) G μ u := by
  obtain ⟨hd, hn, hc⟩ := mi_dec h262 hat 3 rfl (by decide)
  subst hn
  simp only [mi_ck2, decide_eq_true_eq] at hc
  refine mi_br (fun n h v hv => h v (List.mem_cons_of_mem _ (List.mem_cons_of_mem _ hv))) h1 h2 ?_
  intro p l e R s m args below meth c H locs cells slots Qf la ad hx hb w1 w2
  exact lv_icmp_gt hx hb hd hc (fun h => w1 (mi_wr_lt.mp h)) (fun h => w2 (fun q => h (mi_wr_lt.mpr q)))
theorem mi_s_icmp_le (h262 : k < 262) {o : Int} (hat : mi_at (mi_tb k) pc = some (.if_icmp .le o, nx, aux)) {a b : Int} (h1 : mi_wr b < mi_wr a → mi_ok X k Ge Q nx ls st G μ u) (h2 : ¬ mi_wr b < mi_wr a → mi_ok X k Ge Q aux ls st G μ u) : mi_ok X k Ge Q pc ls (.inl b :: .inl a :: st) G μ u := by
  obtain ⟨hd, hn, hc⟩ := mi_dec h262 hat 3 rfl (by decide)
  subst hn
  simp only [mi_ck2, decide_eq_true_eq] at hc
  refine mi_br (fun n h v hv => h v (List.mem_cons_of_mem _ (List.mem_cons_of_mem _ hv))) h1 h2 ?_
  intro p l e R s m args below meth c H locs cells slots Qf la ad hx hb w1 w2
  exact lv_icmp_le hx hb hd hc (fun h => w2 (fun q => Int32.not_le.mpr (mi_wr_lt.mpr q) h)) (fun h => w1 (mi_wr_lt.mp (Int32.not_le.mp h)))
theorem mi_s_if_eq (h262 : k < 262) {o : Int} (hat : mi_at (mi_tb k) pc = some (.ifCond .eq o, nx, aux)) {a : Int} (h1 : mi_wr a = 0 → mi_ok X k Ge Q aux ls st G μ u) (h2 : ¬ mi_wr a = 0 → mi_ok X k Ge Q nx ls st G μ u) : mi_ok X k Ge Q pc ls (.inl a :: st) G μ u := by
  obtain ⟨hd, hn, hc⟩ := mi_dec h262 hat 3 rfl (by decide)
  subst hn
  simp only [mi_ck2, decide_eq_true_eq] at hc
  refine mi_br (fun n h v hv => h v (List.mem_cons_of_mem _ hv)) h1 h2 ?_
  intro p l e R s m args below meth c H locs cells slots Qf la ad hx hb w1 w2
  exact lv_if_eq hx hb hd hc (fun h => w1 (mi_wr_eq0.mp h)) (fun h => w2 (fun q => h (mi_wr_eq0.mpr q)))
theorem mi_s_if_ne (h262 : k < 262) {o : Int} (hat : mi_at (mi_tb k) pc = some (.ifCond .ne o, nx, aux)) {a : Int} (h1 : mi_wr a = 0 → mi_ok X k Ge Q nx ls st G μ u) (h2 : ¬ mi_wr a = 0 → mi_ok X k Ge Q aux ls st G μ u) : mi_ok X k Ge Q pc ls (.inl a :: st) G μ u := by
  obtain ⟨hd, hn, hc⟩ := mi_dec h262 hat 3 rfl (by decide)
  subst hn
  simp only [mi_ck2, decide_eq_true_eq] at hc
  refine mi_br (fun n h v hv => h v (List.mem_cons_of_mem _ hv)) h1 h2 ?_
  intro p l e R s m args below meth c H locs cells slots Qf la ad hx hb w1 w2
  exact lv_if_ne hx hb hd hc (fun h => w2 (fun q => h (mi_wr_eq0.mpr q))) (fun h => w1 (mi_wr_eq0.mp h))
theorem mi_s_if_lt (h262 : k < 262) {o : Int} (hat : mi_at (mi_tb k) pc = some (.ifCond .lt o, nx, aux)) {a : Int} (h1 : mi_wr a < 0 → mi_ok X k Ge Q aux ls st G μ u) (h2 : ¬ mi_wr a < 0 → mi_ok X k Ge Q nx ls st G μ u) : mi_ok X k Ge Q pc ls (.inl a :: st) G μ u := by
  obtain ⟨hd, hn, hc⟩ := mi_dec h262 hat 3 rfl (by decide)
  subst hn
  simp only [mi_ck2, decide_eq_true_eq] at hc
  refine mi_br (fun n h v hv => h v (List.mem_cons_of_mem _ hv)) h1 h2 ?_
  intro p l e R s m args below meth c H locs cells slots Qf la ad hx hb w1 w2
  exact lv_if_lt hx hb hd hc (fun h => w1 (mi_wr_lt0.mp h)) (fun h => w2 (fun q => h (mi_wr_lt0.mpr q)))
theorem mi_s_if_ge (h262 : k < 262) {o : Int} (hat : mi_at (mi_tb k) pc = some (.ifCond .ge o, nx, aux)) {a : Int} (h1 : mi_wr a < 0 → mi_ok X k Ge Q nx ls st G μ u) (h2 : ¬ mi_wr a < 0 → mi_ok X k Ge Q aux ls st G μ u) : mi_ok X k Ge Q pc ls (.inl a :: st) G μ u := by
  obtain ⟨hd, hn, hc⟩ := mi_dec h262 hat 3 rfl (by decide)
  subst hn
  simp only [mi_ck2, decide_eq_true_eq] at hc
  refine mi_br (fun n h v hv => h v (List.mem_cons_of_mem _ hv)) h1 h2 ?_
  intro p l e R s m args below meth c H locs cells slots Qf la ad hx hb w1 w2
  exact lv_if_ge hx hb hd hc (fun h => w2 (fun q => Int32.not_le.mpr (mi_wr_lt0.mpr q) h)) (fun h => w1 (mi_wr_lt0.mp (Int32.not_le.mp h)))
theorem mi_s_if_gt (h262 : k < 262) {o : Int} (hat : mi_at (mi_tb k) pc = some (.ifCond .gt o, nx, aux)) {a : Int} (h1 : 0 < mi_wr a → mi_ok X k Ge Q aux ls st G μ u) (h2 : ¬ 0 < mi_wr a → mi_ok X k Ge Q nx ls st G μ u) : mi_ok X k Ge Q pc ls (.inl a :: st) G μ u := by
  obtain ⟨hd, hn, hc⟩ := mi_dec h262 hat 3 rfl (by decide)
  subst hn
  simp only [mi_ck2, decide_eq_true_eq] at hc
  refine mi_br (fun n h v hv => h v (List.mem_cons_of_mem _ hv)) h1 h2 ?_
  intro p l e R s m args below meth c H locs cells slots Qf la ad hx hb w1 w2
  exact lv_if_gt hx hb hd hc (fun h => w1 (mi_wr_0lt.mp h)) (fun h => w2 (fun q => h (mi_wr_0lt.mpr q)))
theorem mi_s_if_le (h262 : k < 262) {o : Int} (hat : mi_at (mi_tb k) pc = some (.ifCond .le o, nx, aux)) {a : Int} (h1 : 0 < mi_wr a → mi_ok X k Ge Q nx ls st G μ u) (h2 : ¬ 0 < mi_wr a → mi_ok X k Ge Q aux ls st G μ u) : mi_ok X k Ge Q pc ls (.inl a :: st) G μ u := by
  obtain ⟨hd, hn, hc⟩ := mi_dec h262 hat 3 rfl (by decide)
  subst hn
  simp only [mi_ck2, decide_eq_true_eq] at hc
  refine mi_br (fun n h v hv => h v (List.mem_cons_of_mem _ hv)) h1 h2 ?_
  intro p l e R s m args below meth c H locs cells slots Qf la ad hx hb w1 w2
  exact lv_if_le hx hb hd hc (fun h => w2 (fun q => Int32.not_le.mpr (mi_wr_0lt.mpr q) h)) (fun h => w1 (mi_wr_0lt.mp (Int32.not_le.mp h)))
theorem mi_sw_of {x : Int} {K : Int → Prop} : ∀ {offs : List Int} {lo d : Int}, mi_sw x K lo offs d → (x < lo ∨ lo + offs.length ≤ x → K d) ∧ (∀ o, lo ≤ x → offs[(x - lo).toNat]? = some o → K o)
  | [], lo, d, h => ⟨fun _ => h, fun o _ ho => by simp at ho⟩
  | o :: r, lo, d, h => by
    simp only [mi_sw] at h
    by_cases e : x = lo
    · rw [if_pos e] at h
      refine ⟨fun q => by simp only [List.length_cons] at q; omega, fun o' _ ho => ?_⟩
      rw [e, Int.sub_self] at ho
      have : o = o' := by simpa using ho
      rw [← this]; exact h
    · rw [if_neg e] at h
      obtain ⟨h1, h2⟩ := mi_sw_of h
      refine ⟨fun q => h1 (by simp only [List.length_cons] at q; omega), fun o' q ho => h2 o' (by omega) ?_⟩
      have e2 : (x - lo).toNat = (x - (lo + 1)).toNat + 1 := by omega
      rw [e2] at ho
      simpa using ho
theorem mi_s_sw (h262 : k < 262) {d lo hi : Int} {offs : Array Int} (hat : mi_at (mi_tb k) pc = some (.tableswitch d lo hi offs, nx, aux)) {a : Int} (h : mi_sw (mi_wr a) (fun o => mi_ok X k Ge Q ((pc : Int) + o).toNat ls st G μ u) lo offs.toList d) : mi_ok X k Ge Q pc ls (.inl a :: st) G μ u := by
  obtain ⟨hd, hc⟩ := mi_decS h262 hat
  simp only [mi_ck2, Bool.and_eq_true, decide_eq_true_eq, List.all_eq_true] at hc
  obtain ⟨⟨c1, c2⟩, c3⟩ := hc
  obtain ⟨h1, h2⟩ := mi_sw_of h
  intro base D ca sa adE p l e R s m args below meth c hA ad la H locs cells slots hS
  have hA' := hA
  obtain ⟨hx, hb, hml, hr, hown, hlk, hin, hex, hst, hf, hlo, hE⟩ := hA'
  obtain ⟨s1, s2, s3, s4, s5, s6⟩ := hS
  have s5' : ∀ v ∈ st, mi_vo G.2.2 v := fun v hv => s5 v (List.mem_cons_of_mem _ hv)
  have hlen : (offs.toList.length : Int) = (offs.size : Int) := by rw [Array.length_toList]
  by_cases q : mi_wr a < lo ∨ hi < mi_wr a
  · refine lv_tableOut (tgt := ((pc : Int) + d).toNat) hx hb hd (by rw [mi_wr_toInt]; exact q) (by omega) ?_
    exact h1 (by omega) base D ca sa adE p l e R s m args below meth c hA ad la H locs cells slots ⟨s1, s2, s3, s4, s5', s6⟩
  · have hlt : (mi_wr a - lo).toNat < offs.size := by omega
    have ho : offs[(mi_wr a - lo).toNat]? = some offs[(mi_wr a - lo).toNat] := by simp [hlt]
    have ho' : offs.toList[(mi_wr a - lo).toNat]? = some offs[(mi_wr a - lo).toNat] := by rw [Array.getElem?_toList]; exact ho
    have hnn := c2 _ (List.mem_of_getElem? ho')
    refine lv_tableIn (tgt := ((pc : Int) + offs[(mi_wr a - lo).toNat]).toNat) (off := offs[(mi_wr a - lo).toNat]) hx hb hd (by rw [mi_wr_toInt]; omega) (by rw [mi_wr_toInt]; omega) (by rw [mi_wr_toInt]; exact ho) (by omega) ?_
    exact h2 _ (by omega) ho' base D ca sa adE p l e R s m args below meth c hA ad la H locs cells slots ⟨s1, s2, s3, s4, s5', s6⟩
theorem mi_s_iload (h262 : k < 262) {n : Nat} (hat : mi_at (mi_tb k) pc = some (.iload n, nx, aux)) {x : Int} (hl : mi_lget ls n = some (.inl x)) (hk : mi_ok X k Ge Q nx ls (.inl x :: st) G μ u) : mi_ok X k Ge Q pc ls st G μ u := by
  obtain ⟨hd, hn, -⟩ := mi_dec h262 hat 2 rfl (by decide)
  subst hn
  intro base D ca sa adE p l e R s m args below meth c hA ad la H locs cells slots hS
  have hA' := hA
  obtain ⟨hx, hb, hml, hr, hown, hlk, hin, hex, hst, hf, hlo, hE⟩ := hA'
  obtain ⟨s1, s2, s3, s4, s5, s6⟩ := hS
  refine lv_iload hx hb hd (s4 _ _ hl).1 ?_
  exact hk base D ca sa adE p l e R s m args below meth c hA ad la H locs cells slots ⟨s1, s2, s3, s4, mi_vo_c (s4 _ _ hl).2.1 s5, s6⟩
theorem mi_s_iload_n (h262 : k < 262) {n : Fin 4} (hat : mi_at (mi_tb k) pc = some (.iload_n n, nx, aux)) {x : Int} (hl : mi_lget ls n.val = some (.inl x)) (hk : mi_ok X k Ge Q nx ls (.inl x :: st) G μ u) : mi_ok X k Ge Q pc ls st G μ u := by
  obtain ⟨hd, hn, -⟩ := mi_dec h262 hat 1 rfl (by decide)
  subst hn
  intro base D ca sa adE p l e R s m args below meth c hA ad la H locs cells slots hS
  have hA' := hA
  obtain ⟨hx, hb, hml, hr, hown, hlk, hin, hex, hst, hf, hlo, hE⟩ := hA'
  obtain ⟨s1, s2, s3, s4, s5, s6⟩ := hS
  refine lv_iload_n hx hb hd rfl (s4 _ _ hl).1 ?_
  exact hk base D ca sa adE p l e R s m args below meth c hA ad la H locs cells slots ⟨s1, s2, s3, s4, mi_vo_c (s4 _ _ hl).2.1 s5, s6⟩
theorem mi_s_aload (h262 : k < 262) {n : Nat} (hat : mi_at (mi_tb k) pc = some (.aload n, nx, aux)) {x : Nat} (hl : mi_lget ls n = some (.inr (.inl (some x)))) (hk : mi_ok X k Ge Q nx ls (.inr (.inl (some x)) :: st) G μ u) : mi_ok X k Ge Q pc ls st G μ u := by
  obtain ⟨hd, hn, -⟩ := mi_dec h262 hat 2 rfl (by decide)
  subst hn
  intro base D ca sa adE p l e R s m args below meth c hA ad la H locs cells slots hS
  have hA' := hA
  obtain ⟨hx, hb, hml, hr, hown, hlk, hin, hex, hst, hf, hlo, hE⟩ := hA'
  obtain ⟨s1, s2, s3, s4, s5, s6⟩ := hS
  refine lv_aload hx hb hd (s4 _ _ hl).1 ?_
  exact hk base D ca sa adE p l e R s m args below meth c hA ad la H locs cells slots ⟨s1, s2, s3, s4, mi_vo_c (s4 _ _ hl).2.1 s5, s6⟩
theorem mi_s_aload_n (h262 : k < 262) {n : Fin 4} (hat : mi_at (mi_tb k) pc = some (.aload_n n, nx, aux)) {x : Nat} (hl : mi_lget ls n.val = some (.inr (.inl (some x)))) (hk : mi_ok X k Ge Q nx ls (.inr (.inl (some x)) :: st) G μ u) : mi_ok X k Ge Q pc ls st G μ u := by
  obtain ⟨hd, hn, -⟩ := mi_dec h262 hat 1 rfl (by decide)
  subst hn
  intro base D ca sa adE p l e R s m args below meth c hA ad la H locs cells slots hS
  have hA' := hA
  obtain ⟨hx, hb, hml, hr, hown, hlk, hin, hex, hst, hf, hlo, hE⟩ := hA'
  obtain ⟨s1, s2, s3, s4, s5, s6⟩ := hS
  refine lv_aload_n hx hb hd rfl (s4 _ _ hl).1 ?_
  exact hk base D ca sa adE p l e R s m args below meth c hA ad la H locs cells slots ⟨s1, s2, s3, s4, mi_vo_c (s4 _ _ hl).2.1 s5, s6⟩
def mi_ent (ad : Nat → Nat) (ls : mi_L) : List (Nat × Value) := (List.range ls.length).filterMap (fun i => (mi_lget ls i).map (fun v => (i, mi_c ad v)))
theorem mi_ent_mem {ad : Nat → Nat} {ls : mi_L} {q : Nat × Value} : q ∈ mi_ent ad ls ↔ ∃ v, mi_lget ls q.1 = some v ∧ q.2 = mi_c ad v := by
  unfold mi_ent
  rw [List.mem_filterMap]
  constructor
  · rintro ⟨i, -, hi⟩
    cases hv : mi_lget ls i with
    | none => rw [hv] at hi; simp at hi
    | some v =>
      rw [hv] at hi
      have := Option.some.inj hi
      subst this
      exact ⟨v, hv, rfl⟩
  · rintro ⟨v, h1, h2⟩
    refine ⟨q.1, List.mem_range.mpr (mi_lget_len _ _ _ h1), ?_⟩
    rw [h1]
    show some (q.1, mi_c ad v) = some q
    rw [← h2]
theorem mi_cat_ne {ad : Nat → Nat} {v : mi_V} (h : ∀ z, v ≠ .inr (.inr z)) : ((mi_c ad v).category == 2) = false := by
  match v, h with
  | .inl _, _ => rfl
  | .inr (.inl none), _ => rfl
  | .inr (.inl (some _)), _ => rfl
  | .inr (.inr z), h => exact absurd rfl (h z)
/-- behind a store into a local -/
theorem mi_loc_set {ad : Nat → Nat} {ls : mi_L} {n nL g : Nat} {y : Value} {x : Option mi_V} {la' : Array Slot} {P : Nat → mi_V → Prop}
    (hs : ∀ i v, mi_lget ls i = some v → P i v ∧ mi_vo g v ∧ ∀ z, v ≠ .inr (.inr z)) (hx : ∀ v, x = some v → y = mi_c ad v ∧ mi_vo g v ∧ ∀ z, v ≠ .inr (.inr z))
    (h : lv_has la' nL ((n, y) :: (mi_ent ad ls).filter (fun q => !(q.1 == n) && !(q.1 + 1 == n && q.2.category == 2)))) :
    ∀ i v, mi_lget (mi_lset ls n x) i = some v → la'[i]? = some (.val (mi_c ad v)) ∧ mi_vo g v ∧ ∀ z, v ≠ .inr (.inr z) := by
  intro i v hv
  rcases mi_lset_get ls n i x v hv with ⟨h1, h2⟩ | ⟨h1, h2⟩
  · obtain ⟨e, hr⟩ := hx v h2
    subst h1; subst e
    exact ⟨h.2.2 _ List.mem_cons_self, hr⟩
  · refine ⟨?_, (hs i v h2).2⟩
    have hm : (i, mi_c ad v) ∈ (mi_ent ad ls).filter (fun q => !(q.1 == n) && !(q.1 + 1 == n && q.2.category == 2)) := by
      rw [List.mem_filter]
      refine ⟨mi_ent_mem.mpr ⟨v, h2, rfl⟩, ?_⟩
      have e1 : (i == n) = false := by simp [h1]
      simp only [e1, mi_cat_ne (hs i v h2).2.2, Bool.and_false, Bool.not_false, Bool.and_self]
    exact h.2.2 _ (List.mem_cons_of_mem _ hm)
theorem mi_s_istore (h262 : k < 262) {n : Nat} (hat : mi_at (mi_tb k) pc = some (.istore n, nx, aux)) {x : Int} (hl : n < ls.length) (hk : mi_ok X k Ge Q nx (mi_lset ls n (some (.inl x))) st G μ u) : mi_ok X k Ge Q pc ls (.inl x :: st) G μ u := by
  obtain ⟨hd, hn, -⟩ := mi_dec h262 hat 2 rfl (by decide)
  subst hn
  intro base D ca sa adE p l e R s m args below meth c hA ad la H locs cells slots hS
  have hA' := hA
  obtain ⟨hx, hb, hml, hr, hown, hlk, hin, hex, hst, hf, hlo, hE⟩ := hA'
  obtain ⟨s1, s2, s3, s4, s5, s6⟩ := hS
  refine lv_istore hx hb hd (lv := mi_ent ad ls) ⟨s2, s3, fun q hq => by obtain ⟨v, h1, h2⟩ := mi_ent_mem.mp hq; rw [h2]; exact (s4 _ _ h1).1⟩ (by rw [← s1]; exact hl) rfl ?_
  intro la' hla
  exact hk base D ca sa adE p l e R s m args below meth c hA ad la' H locs cells slots ⟨by rw [mi_lset_len]; exact s1, hla.1, hla.2.1, mi_loc_set (P := fun i v => la[i]? = some (.val (mi_c ad v))) s4 (fun v hv => by cases hv; exact ⟨rfl, s5 _ List.mem_cons_self, fun z hz => by cases hz⟩) hla, fun v hv => s5 v (List.mem_cons_of_mem _ hv), s6⟩
theorem mi_s_istore_n (h262 : k < 262) {n : Fin 4} (hat : mi_at (mi_tb k) pc = some (.istore_n n, nx, aux)) {x : Int} (hl : n.val < ls.length) (hk : mi_ok X k Ge Q nx (mi_lset ls n.val (some (.inl x))) st G μ u) : mi_ok X k Ge Q pc ls (.inl x :: st) G μ u := by
  obtain ⟨hd, hn, -⟩ := mi_dec h262 hat 1 rfl (by decide)
  subst hn
  intro base D ca sa adE p l e R s m args below meth c hA ad la H locs cells slots hS
  have hA' := hA
  obtain ⟨hx, hb, hml, hr, hown, hlk, hin, hex, hst, hf, hlo, hE⟩ := hA'
  obtain ⟨s1, s2, s3, s4, s5, s6⟩ := hS
  refine lv_istore_n hx hb hd rfl (lv := mi_ent ad ls) ⟨s2, s3, fun q hq => by obtain ⟨v, h1, h2⟩ := mi_ent_mem.mp hq; rw [h2]; exact (s4 _ _ h1).1⟩ (by rw [← s1]; exact hl) rfl ?_
  intro la' hla
  exact hk base D ca sa adE p l e R s m args below meth c hA ad la' H locs cells slots ⟨by rw [mi_lset_len]; exact s1, hla.1, hla.2.1, mi_loc_set (P := fun i v => la[i]? = some (.val (mi_c ad v))) s4 (fun v hv => by cases hv; exact ⟨rfl, s5 _ List.mem_cons_self, fun z hz => by cases hz⟩) hla, fun v hv => s5 v (List.mem_cons_of_mem _ hv), s6⟩
theorem mi_s_astore (h262 : k < 262) {n : Nat} (hat : mi_at (mi_tb k) pc = some (.astore n, nx, aux)) {x : Nat} (hl : n < ls.length) (hk : mi_ok X k Ge Q nx (mi_lset ls n (some (.inr (.inl (some x))))) st G μ u) : mi_ok X k Ge Q pc ls (.inr (.inl (some x)) :: st) G μ u := by
  obtain ⟨hd, hn, -⟩ := mi_dec h262 hat 2 rfl (by decide)
  subst hn
  intro base D ca sa adE p l e R s m args below meth c hA ad la H locs cells slots hS
  have hA' := hA
  obtain ⟨hx, hb, hml, hr, hown, hlk, hin, hex, hst, hf, hlo, hE⟩ := hA'
  obtain ⟨s1, s2, s3, s4, s5, s6⟩ := hS
  refine lv_astore hx hb hd (lv := mi_ent ad ls) ⟨s2, s3, fun q hq => by obtain ⟨v, h1, h2⟩ := mi_ent_mem.mp hq; rw [h2]; exact (s4 _ _ h1).1⟩ (by rw [← s1]; exact hl) rfl ?_
  intro la' hla
  exact hk base D ca sa adE p l e R s m args below meth c hA ad la' H locs cells slots ⟨by rw [mi_lset_len]; exact s1, hla.1, hla.2.1, mi_loc_set (P := fun i v => la[i]? = some (.val (mi_c ad v))) s4 (fun v hv => by cases hv; exact ⟨rfl, s5 _ List.mem_cons_self, fun z hz => by cases hz⟩) hla, fun v hv => s5 v (List.mem_cons_of_mem _ hv), s6⟩
theorem mi_s_astore_n (h262 : k < 262) {n : Fin 4} (hat : mi_at (mi_tb k) pc = some (.astore_n n, nx, aux)) {x : Nat} (hl : n.val < ls.length) (hk : mi_ok X k Ge Q nx (mi_lset ls n.val (some (.inr (.inl (some x))))) st G μ u) : mi_ok X k Ge Q pc ls (.inr (.inl (some x)) :: st) G μ u := by
  obtain ⟨hd, hn, -⟩ := mi_dec h262 hat 1 rfl (by decide)
  subst hn
  intro base D ca sa adE p l e R s m args below meth c hA ad la H locs cells slots hS
  have hA' := hA
  obtain ⟨hx, hb, hml, hr, hown, hlk, hin, hex, hst, hf, hlo, hE⟩ := hA'
  obtain ⟨s1, s2, s3, s4, s5, s6⟩ := hS
  refine lv_astore_n hx hb hd rfl (lv := mi_ent ad ls) ⟨s2, s3, fun q hq => by obtain ⟨v, h1, h2⟩ := mi_ent_mem.mp hq; rw [h2]; exact (s4 _ _ h1).1⟩ (by rw [← s1]; exact hl) rfl ?_
  intro la' hla
  exact hk base D ca sa adE p l e R s m args below meth c hA ad la' H locs cells slots ⟨by rw [mi_lset_len]; exact s1, hla.1, hla.2.1, mi_loc_set (P := fun i v => la[i]? = some (.val (mi_c ad v))) s4 (fun v hv => by cases hv; exact ⟨rfl, s5 _ List.mem_cons_self, fun z hz => by cases hz⟩) hla, fun v hv => s5 v (List.mem_cons_of_mem _ hv), s6⟩
theorem mi_s_iinc (h262 : k < 262) {n : Nat} {z : Int} (hat : mi_at (mi_tb k) pc = some (.iinc n z, nx, aux)) {x : Int} (hl : mi_lget ls n = some (.inl x)) (hk : mi_ok X k Ge Q nx (mi_lset ls n (some (.inl (x + z)))) st G μ u) : mi_ok X k Ge Q pc ls st G μ u := by
  obtain ⟨hd, hn, -⟩ := mi_dec h262 hat 3 rfl (by decide)
  subst hn
  intro base D ca sa adE p l e R s m args below meth c hA ad la H locs cells slots hS
  have hA' := hA
  obtain ⟨hx, hb, hml, hr, hown, hlk, hin, hex, hst, hf, hlo, hE⟩ := hA'
  obtain ⟨s1, s2, s3, s4, s5, s6⟩ := hS
  have hm : (n, Value.int (Int32.ofInt x)) ∈ mi_ent ad ls := mi_ent_mem.mpr ⟨_, hl, rfl⟩
  obtain ⟨j, hj⟩ := List.mem_iff_getElem?.mp hm
  refine lv_iinc (k := j) hx hb hd (lv := mi_ent ad ls) ⟨s2, s3, fun q hq => by obtain ⟨v, h1, h2⟩ := mi_ent_mem.mp hq; rw [h2]; exact (s4 _ _ h1).1⟩ hj (Int32.ofInt_add x z).symm (by rw [← s1]; exact mi_lget_len _ _ _ hl) rfl ?_
  intro la' hla
  exact hk base D ca sa adE p l e R s m args below meth c hA ad la' H locs cells slots ⟨by rw [mi_lset_len]; exact s1, hla.1, hla.2.1, mi_loc_set (P := fun i v => la[i]? = some (.val (mi_c ad v))) s4 (fun v hv => by cases hv; exact ⟨rfl, mi_vo_i, fun z hz => by cases hz⟩) hla, s5, s6⟩
theorem mi_wl_cut {base : Nat} {D : va_G} {ca : Nat → ClassId} {sa adE : Nat → Nat} {Ge G : mi_G} {ad : Nat → Nat} {μ : mi_M} {H : Heap} (h : mi_wl base D ca sa adE Ge.2.2 ad G μ H) (ha : mi_ag Ge G) (hw : mi_wf Ge) : mi_wl base D ca sa adE Ge.2.2 ad Ge μ H := by
  obtain ⟨h1, h2, h3, h4, h5, h6⟩ := h
  exact ⟨fun k q hq => h1 k q (mi_W_take ha k q hq), ⟨fun i j p q hp hq e => h2.1 i j p q (mi_W_take ha _ _ hp) (mi_W_take ha _ _ hq) e, fun k q hq => h2.2 k q (mi_W_take ha _ _ hq)⟩, h3, h4, Nat.le_refl _, hw⟩
theorem mi_wl_ret {base : Nat} {D : va_G} {ca : Nat → ClassId} {sa adE : Nat → Nat} {ad : Nat → Nat} {H : Heap} (h : mi_wl base D ca sa adE Ge.2.2 ad G μ H) (ha : (mi_hd k).2.2.2.1 = false → mi_ag Ge G ∧ mi_wf Ge) : mi_wl base D ca sa adE Ge.2.2 ad (bif (mi_hd k).2.2.2.1 then G else Ge) μ H := by
  cases hc : (mi_hd k).2.2.2.1 with
  | true => exact h
  | false => exact mi_wl_cut h (ha hc).1 (ha hc).2
theorem mi_s_ireturn (h262 : k < 262) (hat : mi_at (mi_tb k) pc = some (.ireturn, nx, aux)) {z : Int} (hz : Nat.beq aux 1 = true → z = 0 ∨ z = 1) (hQ : Q (.inl (some (.inl z))) (bif (mi_hd k).2.2.2.1 then G else Ge) μ) : mi_ok X k Ge Q pc ls [.inl z] G μ u := by
  obtain ⟨hd, hn, hc⟩ := mi_dec h262 hat 1 rfl (by decide)
  intro base D ca sa adE p l e R s m args below meth c hA ad la H locs cells slots hS
  obtain ⟨hx, hb, hml, hr, hown, hlk, hin, hex, hst, hf, hlo, hE⟩ := hA
  obtain ⟨s1, s2, s3, s4, s5, s6, s7, s8, s9, s10⟩ := hS
  refine vx_ret (W.widen (Nat.le_trans (Nat.le_add_right _ _) s9) (Nat.le_trans (Nat.le_add_right _ _) s10) ?_)
  have hq : ∀ t : State, t.heap = H → s.WarmedH t.vm → mi_Qc base D ca sa adE k Ge Q args s (.returned (some (.int (Int32.ofInt z)))) t := fun t ht _ => ⟨⟨some (.inl z), _, μ, ad, rfl, hQ, by rw [ht]; exact mi_wl_ret s6 s8, (fun x hx => by cases hx; exact mi_vo_i), (fun h => by rw [h]; rfl)⟩, s7.F ht⟩
  cases ha : Nat.beq aux 1 with
  | true =>
    simp only [mi_ck2, ha, cond_true, decide_eq_true_eq] at hc
    rw [hc] at hr
    refine W.zret hx hb hr ?_ hq s7.2.2 hd hlk
    rcases hz ha with e | e
    · subst e; rfl
    · subst e; rfl
  | false =>
    simp only [mi_ck2, ha, cond_false, decide_eq_true_eq] at hc
    rw [hc] at hr
    exact W.iret hx hb hr hq s7.2.2 hd hlk
theorem mi_s_return (h262 : k < 262) (hat : mi_at (mi_tb k) pc = some (.return_, nx, aux)) (hQ : Q (.inl none) (bif (mi_hd k).2.2.2.1 then G else Ge) μ) : mi_ok X k Ge Q pc ls [] G μ u := by
  obtain ⟨hd, hn, hc⟩ := mi_dec h262 hat 1 rfl (by decide)
  intro base D ca sa adE p l e R s m args below meth c hA ad la H locs cells slots hS
  obtain ⟨hx, hb, hml, hr, hown, hlk, hin, hex, hst, hf, hlo, hE⟩ := hA
  obtain ⟨s1, s2, s3, s4, s5, s6, s7, s8, s9, s10⟩ := hS
  refine vx_ret (W.widen (Nat.le_trans (Nat.le_add_right _ _) s9) (Nat.le_trans (Nat.le_add_right _ _) s10) ?_)
  simp only [mi_ck2, decide_eq_true_eq] at hc
  rw [hc] at hr
  exact W.vret hx hb hr (fun t ht _ => ⟨⟨none, _, μ, ad, rfl, hQ, by rw [ht]; exact mi_wl_ret s6 s8, (fun x hx => by cases hx), (fun h => by rw [h]; rfl)⟩, s7.F ht⟩) s7.2.2 hd hlk
end
