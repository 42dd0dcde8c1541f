/-! fields, rows, new cells -/
theorem mi_blt {a b : Nat} (h : Nat.blt a b = true) : a < b := Nat.le_of_ble_eq_true h
theorem mi_ble {a b : Nat} (h : Nat.ble a b = true) : a ≤ b := Nat.le_of_ble_eq_true h
theorem mi_beq {a b : Nat} (h : Nat.beq a b = true) : a = b := Nat.eq_of_beq_eq_true h
theorem mi_env.gl {X : mi_X} {base : Nat} {D : va_G} {ca : Nat → ClassId} {sa : Nat → Nat} {U : State} {H : Heap} (h : mi_env X base D ca sa U H) {a : Array Value} : ∀ w ∈ mi_gl, w.before a U = true := fun _ hw => h.w (List.mem_filter.mp hw).1 (List.mem_filter.mp hw).2
section
variable {ca : Nat → ClassId} {ad : Nat → Nat} {kd : Nat × Nat} {rf : Nat → Option Nat} {row : Int → Int}
theorem mi_cl_obj {c : Nat} (h : kd.1 = 10 + c) : mi_cl ca ad kd rf row = .inr (c, (List.range kd.2).map (mi_fv ad c rf row)) := by
  obtain ⟨t, n⟩ := kd
  have h' : t = (c + 5) + 5 := by simp only at h; omega
  subst h'
  show (Sum.inr (c + 5 - 5, (List.range n).map (mi_fv ad (c + 5 - 5) rf row)) : va_E) = _
  rw [Nat.add_sub_cancel]
theorem mi_cl_0 (h : kd.1 = 0) : mi_cl ca ad kd rf row = .inl (ca 0, kd.2, .inl (fun j => Int32.ofInt (row (j : Int)))) := by obtain ⟨t, n⟩ := kd; simp only at h; subst h; rfl
theorem mi_cl_1 (h : kd.1 = 1) : mi_cl ca ad kd rf row = .inl (ca 1, kd.2, .inl (fun j => Int32.ofInt (row (j : Int)))) := by obtain ⟨t, n⟩ := kd; simp only at h; subst h; rfl
theorem mi_cl_2 (h : kd.1 = 2) : mi_cl ca ad kd rf row = .inl (ca 2, kd.2, .inr (.inl (fun j => Int64.ofInt (row (j : Int))))) := by obtain ⟨t, n⟩ := kd; simp only at h; subst h; rfl
theorem mi_cl_3 (h : kd.1 = 3) : mi_cl ca ad kd rf row = .inl (ca 3, kd.2, .inr (.inr (.inr (.inr (fun j => (rf j).map ad))))) := by obtain ⟨t, n⟩ := kd; simp only at h; subst h; rfl
theorem mi_cl_4 (h : kd.1 = 4) : mi_cl ca ad kd rf row = .inl (ca 4, kd.2, .inr (.inr (.inr (.inr (fun j => (rf j).map ad))))) := by obtain ⟨t, n⟩ := kd; simp only at h; subst h; rfl
theorem mi_fv_set {c N j : Nat} {z : Int} (hf : mi_fr c j = false) : ((List.range N).map (mi_fv ad c rf row)).set j (.int (Int32.ofInt z)) = (List.range N).map (mi_fv ad c rf (fun k => if k = (j : Int) then z else row k)) := by
  apply List.ext_getElem?
  intro i
  by_cases hi : i < N
  · rw [List.getElem?_map, List.getElem?_range hi]
    by_cases e : j = i
    · subst e
      rw [List.getElem?_set_self (by simp [hi])]
      simp [mi_fv, hf]
    · rw [List.getElem?_set_ne e, List.getElem?_map, List.getElem?_range hi]
      have : (i : Int) ≠ (j : Int) := by omega
      simp [mi_fv, this]
  · rw [List.getElem?_eq_none (by simp; omega), List.getElem?_eq_none (by simp; omega)]
theorem mi_fv_ref {c N j q : Nat} (hf : mi_fr c j = true) : ((List.range N).map (mi_fv ad c rf row)).set j (.ref (ad q)) = (List.range N).map (mi_fv ad c (mi_up rf j (some q)) row) := by
  apply List.ext_getElem?
  intro i
  by_cases hi : i < N
  · rw [List.getElem?_map, List.getElem?_range hi]
    by_cases e : j = i
    · subst e
      rw [List.getElem?_set_self (by simp [hi])]
      simp [mi_fv, hf, mi_up_self, va_rf]
    · rw [List.getElem?_set_ne e, List.getElem?_map, List.getElem?_range hi]
      simp [mi_fv, mi_up_ne (fun h => e h.symm)]
  · rw [List.getElem?_eq_none (by simp; omega), List.getElem?_eq_none (by simp; omega)]
theorem mi_upd {j : Int} {z : Int} {n : Nat} (hj : j = (n : Int)) : upd (fun j : Nat => Int32.ofInt (row (j : Int))) n (Int32.ofInt z) = fun i : Nat => Int32.ofInt ((fun k => if k = j then z else row k) (i : Int)) := by
  funext i
  subst hj
  by_cases e : i = n
  · subst e; simp [upd]
  · have : (i : Int) ≠ (n : Int) := by omega
    simp [upd, e, this]
theorem mi_updL {j : Int} {z : Int} {n : Nat} (hj : j = (n : Int)) : vp_updL (fun j : Nat => Int64.ofInt (row (j : Int))) n (Int64.ofInt z) = fun i : Nat => Int64.ofInt ((fun k => if k = j then z else row k) (i : Int)) := by
  funext i
  subst hj
  by_cases e : i = n
  · subst e; simp [vp_updL]
  · have : (i : Int) ≠ (n : Int) := by omega
    simp [vp_updL, e, this]
theorem mi_upq {n q : Nat} : va_up (fun j => (rf j).map ad) n (some (ad q)) = fun i => ((mi_up rf n (some q)) i).map ad := by
  funext i
  by_cases e : i = n
  · subst e; simp [va_up, mi_up_self]
  · simp [va_up, e, mi_up_ne e]
end
theorem mi_fit_ref (ty : FieldType) (a b : Nat) : fits ty (.ref a) = fits ty (.ref b) := by cases ty <;> rfl
theorem mi_nar_ref (ty : FieldType) (a : Nat) : narrow ty (.ref a) = .ref a := by cases ty <;> rfl
section
variable {X : mi_X} {k : Nat} {Ge : mi_G} {Q : mi_R → mi_G → mi_M → Prop} {pc nx aux : Nat} {ls : mi_L} {st st' : mi_S} {G : mi_G} {μ : mi_M} {u : mi_U}
theorem mi_wf_len (hw : mi_wf G) {r c : Nat} (hr : r < G.2.2) (ht : (G.1 r).1 = 10 + c) : (G.1 r).2 = mi_cn c := by
  rcases (hw.2.2 r hr).2 with h | ⟨h1, h2, h3⟩
  · omega
  · rw [h3, ht, Nat.add_sub_cancel_left]
theorem mi_s_getI (h262 : k < 262) {i : Nat} (hat : mi_at (mi_tb k) pc = some (.getfield i, nx, aux)) {r : Nat} (hr : r < G.2.2) (ht : (G.1 r).1 = 10 + aux / 64) (hf : mi_fr (aux / 64) (aux % 64) = false) (hk : mi_ok X k Ge Q nx ls (.inl (μ r ((aux % 64 : Nat) : Int)) :: st) G μ u) : mi_ok X k Ge Q pc ls (.inr (.inl (some r)) :: st) G μ u := by
  obtain ⟨hd, hn, hc⟩ := mi_dec h262 hat 3 rfl (by decide)
  subst hn
  simp only [mi_ck2, Bool.and_eq_true, decide_eq_true_eq] at hc
  obtain ⟨⟨c1, c2⟩, c3⟩ := hc
  have c2 := mi_blt c2
  have c3 := mi_blt c3
  intro base D ca sa adE p l e R s m args below meth c hA ad la H locs cells slots hS
  have hA' := hA
  obtain ⟨hx, hb, hml, hre, hown, hlk, hin, hex, hst, hfr, hlo, hE⟩ := hA'
  obtain ⟨s1, s2, s3, s4, s5, s6, s7⟩ := hS
  obtain ⟨k1, k2, k3, k4⟩ := mi_cls _ c2
  have hlen := mi_wf_len s6.2.2.2.2.2 hr ht
  have he := mi_W_get (ca := ca) (ad := ad) (μ := μ) hr
  rw [mi_cl_obj ht] at he
  refine va_get (D := D) (ci := aux / 64) (v := .int (Int32.ofInt (μ r ((aux % 64 : Nat) : Int)))) (C := mi_rs (aux / 64)) (T := mi_ct (aux / 64)) (N := mi_cn (aux / 64)) hx hb (hE.gl) k2 hown hE.2.1 s6.1 r he k1 (aux % 64) c3 (hE.w (mi_FL_ok _ c1) rfl) (fun x h => by rw [(mi_fI1 _ c2 _ c3 hf).2.1] at h; exact h) ?_ hd ?_
  · rw [List.getElem?_map, List.getElem?_range (by rw [hlen]; exact c3)]
    simp only [Option.map_some, mi_fv, hf, cond_false]
  · exact hk base D ca sa adE p l e R s m args below meth c hA ad la H locs cells slots ⟨s1, s2, s3, s4, mi_vo_c mi_vo_i (fun v hv => s5 v (List.mem_cons_of_mem _ hv)), s6, s7⟩
theorem mi_s_getR (h262 : k < 262) {i : Nat} (hat : mi_at (mi_tb k) pc = some (.getfield i, nx, aux)) {r : Nat} (hr : r < G.2.2) (ht : (G.1 r).1 = 10 + aux / 64) (hf : mi_fr (aux / 64) (aux % 64) = true) (hk : mi_ok X k Ge Q nx ls (.inr (.inl (G.2.1 r (aux % 64))) :: st) G μ u) : mi_ok X k Ge Q pc ls (.inr (.inl (some r)) :: st) G μ u := by
  obtain ⟨hd, hn, hc⟩ := mi_dec h262 hat 3 rfl (by decide)
  subst hn
  simp only [mi_ck2, Bool.and_eq_true, decide_eq_true_eq] at hc
  obtain ⟨⟨c1, c2⟩, c3⟩ := hc
  have c2 := mi_blt c2
  have c3 := mi_blt c3
  intro base D ca sa adE p l e R s m args below meth c hA ad la H locs cells slots hS
  have hA' := hA
  obtain ⟨hx, hb, hml, hre, hown, hlk, hin, hex, hst, hfr, hlo, hE⟩ := hA'
  obtain ⟨s1, s2, s3, s4, s5, s6, s7⟩ := hS
  obtain ⟨k1, k2, k3, k4⟩ := mi_cls _ c2
  have hw := s6.2.2.2.2.2
  have hlen := mi_wf_len hw hr ht
  have he := mi_W_get (ca := ca) (ad := ad) (μ := μ) hr
  rw [mi_cl_obj ht] at he
  refine va_get (D := D) (ci := aux / 64) (v := va_rf ((G.2.1 r (aux % 64)).map ad)) (C := mi_rs (aux / 64)) (T := mi_ct (aux / 64)) (N := mi_cn (aux / 64)) hx hb (hE.gl) k2 hown hE.2.1 s6.1 r he k1 (aux % 64) c3 (hE.w (mi_FL_ok _ c1) rfl) (fun x h => by rw [(mi_fR _ c2 _ c3 hf).2.1] at h; exact h) ?_ hd ?_
  · rw [List.getElem?_map, List.getElem?_range (by rw [hlen]; exact c3)]
    simp only [Option.map_some, mi_fv, hf, cond_true]
  · refine hk base D ca sa adE p l e R s m args below meth c hA ad la H locs cells slots ⟨s1, s2, s3, s4, mi_vo_c (fun q hq => ?_) (fun v hv => s5 v (List.mem_cons_of_mem _ hv)), s6, s7⟩
    have hq' : G.2.1 r (aux % 64) = some q := by injection hq with h1; injection h1
    exact Or.inl (hw.2.1 r _ q hr hq')
/-- numbers of a cell that is there are others -/
theorem mi_SF_row {base : Nat} {D : va_G} {ca : Nat → ClassId} {sa adE : Nat → Nat} {R : Room} {s : State} {ad : Nat → Nat} {la : Array Slot} {H H1 : Heap} {locs locs1 : List Loc} {cells slots : Nat} {r : Nat} {f : Int → Int}
    (hS : mi_SF base D ca sa adE k Ge ls st G μ u R s ad la H locs cells slots) (hv : ∀ v ∈ st', mi_vo G.2.2 v) (hP : va_P D vwCl (mi_W ca ad G (mi_row μ r f)) H1) (hD : va_D (mi_A base) (mi_W ca ad G (mi_row μ r f))) (h7 : va_S (mi_A base) s.heap H1 locs1) : mi_SF base D ca sa adE k Ge ls st' G (mi_row μ r f) u R s ad la H1 locs1 cells slots := by
  obtain ⟨s1, s2, s3, s4, s5, ⟨w1, w2, w3, w4, w5, w6⟩, s7, s8, s9, s10⟩ := hS
  exact ⟨s1, s2, s3, s4, hv, ⟨hP, hD, w3, w4, w5, w6⟩, h7, s8, s9, s10⟩
theorem mi_s_putI (h262 : k < 262) {i : Nat} (hat : mi_at (mi_tb k) pc = some (.putfield i, nx, aux)) {r : Nat} {z : Int} (hr : r < G.2.2) (ht : (G.1 r).1 = 10 + aux / 64) (hf : mi_fr (aux / 64) (aux % 64) = false) (hz : Nat.beq aux 0 = true → z = 0 ∨ z = 1) (hk : mi_ok X k Ge Q nx ls st G (mi_set μ r ((aux % 64 : Nat) : Int) z) u) : mi_ok X k Ge Q pc ls (.inl z :: .inr (.inl (some r)) :: st) G μ u := by
  obtain ⟨hd, hn, hc⟩ := mi_dec h262 hat 3 rfl (by decide)
  subst hn
  simp only [mi_ck2, Bool.and_eq_true, decide_eq_true_eq] at hc
  obtain ⟨⟨⟨c1, c2⟩, c3⟩, c4⟩ := hc
  have c2 := mi_blt c2
  have c3 := mi_blt c3
  intro base D ca sa adE p l e R s m args below meth c hA ad la H locs cells slots hS
  have hA' := hA
  have hS' := hS
  obtain ⟨hx, hb, hml, hre, hown, hlk, hin, hex, hst, hfr, hlo, hE⟩ := hA'
  obtain ⟨s1, s2, s3, s4, s5, s6, s7, s8⟩ := hS'
  obtain ⟨k1, k2, k3, k4⟩ := mi_cls _ c2
  have hlen := mi_wf_len s6.2.2.2.2.2 hr ht
  have he := mi_W_get (ca := ca) (ad := ad) (μ := μ) hr
  rw [mi_cl_obj ht] at he
  have hty := mi_fI2 _ c2 _ c3 hf
  have hax : aux / 64 * 64 + aux % 64 = aux := Nat.div_add_mod' aux 64
  rw [hax] at hty
  have hn : narrow (mi_cy (aux / 64) (aux % 64)) (.int (Int32.ofInt z)) = .int (Int32.ofInt z) ∧ fits (mi_cy (aux / 64) (aux % 64)) (.int (Int32.ofInt z)) = true := by
    rw [hty]
    cases hb0 : Nat.beq aux 0 with
    | false => exact ⟨rfl, rfl⟩
    | true =>
      rcases hz hb0 with e | e
      · subst e; exact ⟨rfl, rfl⟩
      · subst e; exact ⟨rfl, rfl⟩
  refine va_put (D := D) (ci := aux / 64) (v := .int (Int32.ofInt z)) (ty := mi_cy (aux / 64) (aux % 64)) (C := mi_rs (aux / 64)) (T := mi_ct (aux / 64)) (N := mi_cn (aux / 64)) hx hb (hE.gl) k2 (mi_cy (aux / 64)) k3 k4 hown hE.2.1 s6.1 s6.2.1 s7 r he k1 (aux % 64) c3 (hE.w (mi_FL_ok _ c1) rfl) (fun x h => by rw [(mi_fI1 _ c2 _ c3 hf).2.1] at h; exact h) (mi_fI1 _ c2 _ c3 hf).1 (k3 _ c3) hn.1 hn.2 (by simp only [List.length_map, List.length_range, hlen]; exact c3) hd ?_
  intro H1 locs1 hP1 hD1 hS1
  rw [mi_fv_set hf, ← mi_cl_obj (ca := ca) ht, mi_W_row _ hr] at hP1 hD1
  rw [mi_set_row] at hk
  exact hk base D ca sa adE p l e R s m args below meth c hA ad la H1 locs1 cells slots (mi_SF_row hS (fun v hv => s5 v (List.mem_cons_of_mem _ (List.mem_cons_of_mem _ hv))) hP1 hD1 hS1)
theorem mi_s_putR (h262 : k < 262) {i : Nat} (hat : mi_at (mi_tb k) pc = some (.putfield i, nx, aux)) {r q : Nat} (hct : (mi_hd k).2.2.2.1 = true) (hr : r < G.2.2) (hq : q < G.2.2) (ht : (G.1 r).1 = 10 + aux / 64) (hf : mi_fr (aux / 64) (aux % 64) = true) (hk : mi_ok X k Ge Q nx ls st (G.1, mi_up G.2.1 r (mi_up (G.2.1 r) (aux % 64) (some q)), G.2.2) μ u) : mi_ok X k Ge Q pc ls (.inr (.inl (some q)) :: .inr (.inl (some r)) :: st) G μ u := by
  obtain ⟨hd, hn, hc⟩ := mi_dec h262 hat 3 rfl (by decide)
  subst hn
  simp only [mi_ck2, Bool.and_eq_true, decide_eq_true_eq] at hc
  obtain ⟨⟨⟨c1, c2⟩, c3⟩, c4⟩ := hc
  have c2 := mi_blt c2
  have c3 := mi_blt c3
  obtain ⟨f1, f2, f3, f4⟩ := mi_fR _ c2 _ c3 hf
  rw [f1, cond_true, Bool.and_eq_true] at c4
  intro base D ca sa adE p l e R s m args below meth c hA ad la H locs cells slots hS
  have hA' := hA
  obtain ⟨hx, hb, hml, hre, hown, hlk, hin, hex, hst, hfr, hlo, hE⟩ := hA'
  obtain ⟨s1, s2, s3, s4, s5, ⟨w1, w2, w3, w4, w5, w6⟩, s7, s8, s9, s10⟩ := hS
  obtain ⟨k1, k2, k3, k4⟩ := mi_cls _ c2
  have hlen := mi_wf_len w6 hr ht
  have he := mi_W_get (ca := ca) (ad := ad) (μ := μ) hr
  rw [mi_cl_obj ht] at he
  refine va_putF (D := D) (ci := aux / 64) (v := .ref (ad q)) (ty := mi_cy (aux / 64) (aux % 64)) (C := mi_rs (aux / 64)) (T := mi_ct (aux / 64)) (N := mi_cn (aux / 64)) hx hb (hE.gl) k2 (mi_cy (aux / 64)) k3 k4 hown hE.2.1 w1 w2 s7 r he k1 (aux % 64) c3 (hE.w (mi_FL_ok _ c1) rfl) (fun x h => by rw [f2] at h; exact h) f1 (hin c4.1) (by rw [f2, mi_beq c4.2]) (k3 _ c3) (mi_nar_ref _ _) ((mi_fit_ref _ _ 0).trans f4) (by simp only [List.length_map, List.length_range, hlen]; exact c3) hd ?_
  intro H1 locs1 hP1 hD1 hS1
  rw [mi_fv_ref hf, ← mi_cl_obj (ca := ca) ht, mi_W_ref _ hr] at hP1 hD1
  refine hk base D ca sa adE p l e R s m args below meth c hA ad la H1 locs1 cells slots ⟨s1, s2, s3, s4, fun v hv => s5 v (List.mem_cons_of_mem _ (List.mem_cons_of_mem _ hv)), ⟨hP1, hD1, w3, w4, w5, ⟨w6.1, ?_, w6.2.2⟩⟩, hS1, (fun h => by rw [hct] at h; cases h), s9, s10⟩
  intro i' k' j' hi' hj'
  by_cases e1 : i' = r
  · subst e1
    simp only [mi_up_self] at hj'
    by_cases e2 : k' = aux % 64
    · subst e2
      rw [mi_up_self] at hj'
      cases hj'; exact hq
    · rw [mi_up_ne e2] at hj'
      exact w6.2.1 _ _ _ hi' hj'
  · simp only [mi_up_ne e1] at hj'
    exact w6.2.1 _ _ _ hi' hj'
end
