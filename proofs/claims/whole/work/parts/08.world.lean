/-! THE SMALL MACHINE'S CELLS IN THE HEAP -/
abbrev mi_X : Type := (Nat → Int32) × Nat
def mi_A (base : Nat) : Nat → Prop := fun q => base ≤ q
def mi_ro (X : mi_X) (r : Nat) (j : Int) : Int := bif Nat.blt r 1010 then (mi_sv.getD (r - 1000) []).getD j.toNat 0 else bif Nat.beq r 1010 then (X.1 j.toNat).toInt else (mi_sc.getD (r - 1020) []).getD j.toNat 0
def mi_rl (X : mi_X) (r : Nat) : Nat := bif Nat.blt r 1010 then 8 else bif Nat.beq r 1010 then X.2 else (mi_sc.getD (r - 1020) []).length
def mi_c (ad : Nat → Nat) : mi_V → Value
  | .inl z => .int (Int32.ofInt z)
  | .inr (.inl r) => va_rf (r.map ad)
  | .inr (.inr z) => .long (Int64.ofInt z)
noncomputable def mi_fv (ad : Nat → Nat) (c : Nat) (rf : Nat → Option Nat) (row : Int → Int) (k : Nat) : Value := bif mi_fr c k then va_rf ((rf k).map ad) else .int (Int32.ofInt (row (k : Int)))
noncomputable def mi_cl (ca : Nat → ClassId) (ad : Nat → Nat) (kd : Nat × Nat) (rf : Nat → Option Nat) (row : Int → Int) : va_E := match kd.1 with
  | 0 => .inl (ca 0, kd.2, .inl (fun j => Int32.ofInt (row (j : Int))))
  | 1 => .inl (ca 1, kd.2, .inl (fun j => Int32.ofInt (row (j : Int))))
  | 2 => .inl (ca 2, kd.2, .inr (.inl (fun j => Int64.ofInt (row (j : Int)))))
  | 3 => .inl (ca 3, kd.2, .inr (.inr (.inr (.inr (fun j => (rf j).map ad)))))
  | 4 => .inl (ca 4, kd.2, .inr (.inr (.inr (.inr (fun j => (rf j).map ad)))))
  | t + 5 => .inr (t - 5, (List.range kd.2).map (mi_fv ad (t - 5) rf row))
noncomputable def mi_W (ca : Nat → ClassId) (ad : Nat → Nat) (G : mi_G) (μ : mi_M) : va_W := (List.range G.2.2).map (fun i => (ad i, mi_cl ca ad (G.1 i) (G.2.1 i) (μ i)))
theorem mi_W_len (ca : Nat → ClassId) (ad : Nat → Nat) (G : mi_G) (μ : mi_M) : (mi_W ca ad G μ).length = G.2.2 := by simp [mi_W]
theorem mi_W_get {ca : Nat → ClassId} {ad : Nat → Nat} {G : mi_G} {μ : mi_M} {i : Nat} (h : i < G.2.2) : (mi_W ca ad G μ)[i]? = some (ad i, mi_cl ca ad (G.1 i) (G.2.1 i) (μ i)) := by
  simp [mi_W, h]
theorem mi_beq_t {a b : Nat} (h : a = b) : Nat.beq a b = true := by subst h; exact Nat.beq_refl a
theorem mi_beq_f {a b : Nat} (h : a ≠ b) : Nat.beq a b = false := by
  cases hb : Nat.beq a b with
  | false => rfl
  | true => exact absurd (Nat.eq_of_beq_eq_true hb) h
theorem mi_row_self (μ : mi_M) (r : Nat) (f : Int → Int) : mi_row μ r f r = f := by
  funext k; simp [mi_row]
theorem mi_row_ne {μ : mi_M} {r q : Nat} {f : Int → Int} (h : q ≠ r) : mi_row μ r f q = μ q := by
  funext k; simp [mi_row, mi_beq_f h]
theorem mi_set_row (μ : mi_M) (r : Nat) (j v : Int) : mi_set μ r j v = mi_row μ r (fun k => if k = j then v else μ r k) := by
  funext q k
  by_cases h : q = r
  · subst h; simp [mi_set, mi_row]
  · simp [mi_set, mi_row, mi_beq_f h]
theorem mi_up_self {α : Type} (f : Nat → α) (r : Nat) (v : α) : mi_up f r v r = v := by simp [mi_up]
theorem mi_up_ne {α : Type} {f : Nat → α} {r q : Nat} {v : α} (h : q ≠ r) : mi_up f r v q = f q := by simp [mi_up, mi_beq_f h]
/-- a cell's numbers are others -/
theorem mi_W_row {ca : Nat → ClassId} {ad : Nat → Nat} {G : mi_G} {μ : mi_M} {r : Nat} (f : Int → Int) (h : r < G.2.2) : (mi_W ca ad G μ).set r (ad r, mi_cl ca ad (G.1 r) (G.2.1 r) f) = mi_W ca ad G (mi_row μ r f) := by
  apply List.ext_getElem?
  intro i
  by_cases hi : i < G.2.2
  · rw [mi_W_get hi]
    by_cases e : r = i
    · subst e
      rw [List.getElem?_set_self (by rw [mi_W_len]; exact h), mi_row_self]
    · rw [List.getElem?_set_ne e, mi_W_get hi, mi_row_ne (fun h => e h.symm)]
  · rw [List.getElem?_eq_none (by rw [List.length_set, mi_W_len]; omega), List.getElem?_eq_none (by rw [mi_W_len]; omega)]
/-- a cell's references are others -/
theorem mi_W_ref {ca : Nat → ClassId} {ad : Nat → Nat} {G : mi_G} {μ : mi_M} {r : Nat} (f : Nat → Option Nat) (h : r < G.2.2) : (mi_W ca ad G μ).set r (ad r, mi_cl ca ad (G.1 r) f (μ r)) = mi_W ca ad (G.1, mi_up G.2.1 r f, G.2.2) μ := by
  apply List.ext_getElem?
  intro i
  by_cases hi : i < G.2.2
  · rw [mi_W_get (G := (G.1, mi_up G.2.1 r f, G.2.2)) hi]
    by_cases e : r = i
    · subst e
      rw [List.getElem?_set_self (by rw [mi_W_len]; exact h)]
      simp only [mi_up_self]
    · rw [List.getElem?_set_ne e, mi_W_get hi]
      simp only [mi_up_ne (fun h => e h.symm)]
  · rw [List.getElem?_eq_none (by rw [List.length_set, mi_W_len]; omega), List.getElem?_eq_none (by rw [mi_W_len]; exact Nat.le_of_not_lt hi)]
/-- values and references name cells that are there -/
def mi_vo (n : Nat) (v : mi_V) : Prop := ∀ r, v = .inr (.inl (some r)) → r < n ∨ 1000 ≤ r
def mi_wf (G : mi_G) : Prop := G.2.2 ≤ 999 ∧ (∀ i k j, i < G.2.2 → G.2.1 i k = some j → j < G.2.2) ∧ ∀ i, i < G.2.2 → (G.1 i).2 ≤ 4096 ∧ ((G.1 i).1 ≤ 4 ∨ 10 ≤ (G.1 i).1 ∧ (G.1 i).1 < 23 ∧ (G.1 i).2 = mi_cn ((G.1 i).1 - 10))
def mi_ag (Ge G : mi_G) : Prop := Ge.2.2 ≤ G.2.2 ∧ ∀ i, i < Ge.2.2 → G.1 i = Ge.1 i ∧ G.2.1 i = Ge.2.1 i
theorem mi_c_ad {ad ad' : Nat → Nat} {n : Nat} {v : mi_V} (h : mi_vo n v) (he : ∀ i, i < n → ad' i = ad i) (hs : ∀ i, 1000 ≤ i → ad' i = ad i) : mi_c ad' v = mi_c ad v := by
  match v with
  | .inl z => rfl
  | .inr (.inr z) => rfl
  | .inr (.inl none) => rfl
  | .inr (.inl (some r)) =>
    have e : ad' r = ad r := (h r rfl).elim (he r) (hs r)
    show va_rf (some (ad' r)) = va_rf (some (ad r))
    rw [e]
theorem mi_cl_ad {ca : Nat → ClassId} {ad ad' : Nat → Nat} {kd : Nat × Nat} {rf : Nat → Option Nat} {row : Int → Int} (he : ∀ k j, rf k = some j → ad' j = ad j) : mi_cl ca ad' kd rf row = mi_cl ca ad kd rf row := by
  have e1 : ∀ k, (rf k).map ad' = (rf k).map ad := by
    intro k
    cases hk : rf k with
    | none => rfl
    | some j => simp [he k j hk]
  have e2 : ∀ c, mi_fv ad' c rf row = mi_fv ad c rf row := by
    intro c; funext k; simp only [mi_fv, e1]
  simp only [mi_cl, e1, e2]
/-- the cells that there are, by addresses that agree there -/
theorem mi_W_ad {ca : Nat → ClassId} {ad ad' : Nat → Nat} {G : mi_G} {μ : mi_M} (hw : ∀ i k j, i < G.2.2 → G.2.1 i k = some j → j < G.2.2) (he : ∀ i, i < G.2.2 → ad' i = ad i) : mi_W ca ad' G μ = mi_W ca ad G μ := by
  apply List.ext_getElem?
  intro i
  by_cases hi : i < G.2.2
  · rw [mi_W_get hi, mi_W_get hi, he i hi, mi_cl_ad (fun k j h => he j (hw i k j hi h))]
  · rw [List.getElem?_eq_none (by rw [mi_W_len]; omega), List.getElem?_eq_none (by rw [mi_W_len]; omega)]
/-- fewer cells, which are the same -/
theorem mi_W_take {ca : Nat → ClassId} {ad : Nat → Nat} {Ge G : mi_G} {μ : mi_M} (h : mi_ag Ge G) : ∀ (i : Nat) (q : Nat × va_E), (mi_W ca ad Ge μ)[i]? = some q → (mi_W ca ad G μ)[i]? = some q := by
  intro i q hq
  have hi : i < Ge.2.2 := by
    have := (List.getElem?_eq_some_iff.mp hq).1
    rwa [mi_W_len] at this
  rw [mi_W_get hi] at hq
  rw [mi_W_get (Nat.lt_of_lt_of_le hi h.1), (h.2 i hi).1, (h.2 i hi).2]
  exact hq
/-- one cell more -/
theorem mi_W_push {ca : Nat → ClassId} {ad : Nat → Nat} {G : mi_G} {μ : mi_M} {q : Nat} {kd : Nat × Nat} {rf : Nat → Option Nat} {row : Int → Int} (hw : ∀ i k j, i < G.2.2 → G.2.1 i k = some j → j < G.2.2) (hr : ∀ k, rf k = none) :
    mi_W ca ad G μ ++ [(q, mi_cl ca ad kd rf row)] = mi_W ca (mi_up ad G.2.2 q) (mi_up G.1 G.2.2 kd, mi_up G.2.1 G.2.2 rf, G.2.2 + 1) (mi_row μ G.2.2 row) := by
  apply List.ext_getElem?
  intro i
  by_cases hi : i < G.2.2
  · rw [List.getElem?_append_left (by rw [mi_W_len]; exact hi), mi_W_get hi, mi_W_get (G := (mi_up G.1 G.2.2 kd, mi_up G.2.1 G.2.2 rf, G.2.2 + 1)) (show i < G.2.2 + 1 by omega)]
    have e : i ≠ G.2.2 := by omega
    simp only [mi_up_ne e, mi_row_ne e]
    rw [mi_cl_ad (ad' := mi_up ad G.2.2 q) (ad := ad)]
    intro k j hk
    exact mi_up_ne (Nat.ne_of_lt (hw i k j hi hk))
  · by_cases e : i = G.2.2
    · subst e
      rw [List.getElem?_append_right (by rw [mi_W_len]; omega), mi_W_len, Nat.sub_self, mi_W_get (G := (mi_up G.1 G.2.2 kd, mi_up G.2.1 G.2.2 rf, G.2.2 + 1)) (show G.2.2 < G.2.2 + 1 by omega)]
      simp only [mi_up_self, mi_row_self]
      rw [mi_cl_ad (ad' := mi_up ad G.2.2 q) (ad := ad)]
      · rfl
      · intro k j hk; rw [hr k] at hk; cases hk
    · rw [List.getElem?_eq_none (by rw [List.length_append, mi_W_len]; simp only [List.length_cons, List.length_nil]; omega), List.getElem?_eq_none (by rw [mi_W_len]; show G.2.2 + 1 ≤ i; omega)]
/-! integers and ints -/
theorem mi_wr_toInt (z : Int) : (Int32.ofInt z).toInt = mi_wr z := Int32.toInt_ofInt
theorem mi_of_toInt (x : Int32) : Int32.ofInt x.toInt = x := Int32.ofInt_toInt x
theorem mi_wr_lt {a b : Int} : Int32.ofInt a < Int32.ofInt b ↔ mi_wr a < mi_wr b := by
  rw [Int32.lt_iff_toInt_lt, mi_wr_toInt, mi_wr_toInt]
theorem mi_wr_eq {a b : Int} : Int32.ofInt a = Int32.ofInt b ↔ mi_wr a = mi_wr b := by
  rw [← mi_wr_toInt, ← mi_wr_toInt]
  exact ⟨fun h => by rw [h], fun h => Int32.toInt_inj.mp h⟩
theorem mi_wr_id {z : Int} (h1 : -2147483648 ≤ z) (h2 : z < 2147483648) : mi_wr z = z := Int.bmod_eq_of_le (by omega) (by omega)
theorem mi_ix {j : Int} {n : Nat} (h : 0 ≤ j ∧ j < (n : Int)) (hn : n < 2147483648) : vp_in (Int32.ofInt j) n ∧ (Int32.ofInt j).toNatClampNeg = j.toNat := by
  have e : Int32.ofInt j = nI j.toNat := by
    unfold nI
    rw [← Int32.ofInt_eq_ofNat]
    congr 1
    omega
  have hk : j.toNat < n := by omega
  rw [e]
  exact ⟨vp_in_nI hk (by omega), nI_clamp (by omega)⟩
