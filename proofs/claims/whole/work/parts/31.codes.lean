/-! codes: the class's method and the reference's -/
/-- the scene that the class holds -/
def sc_m (μ : mi_M) : Int → Int := fun j => if j < 2 then μ 1 j else if j < 10 then μ 2 (j - 2) else μ 3 (j - 10)
theorem sc_m0 (μ : mi_M) : sc_m μ 0 = μ 1 0 := rfl
theorem sc_m1 (μ : mi_M) : sc_m μ 1 = μ 1 1 := rfl
theorem sc_m_c (μ : mi_M) : sc_c (sc_m μ) μ := by
  refine ⟨rfl, rfl, fun j h1 h2 => ?_, fun j h1 h2 => ?_⟩
  · unfold sc_m; rw [if_neg (by omega), if_pos (by omega)]; congr 1; omega
  · unfold sc_m; rw [if_neg (by omega), if_neg (by omega)]; congr 1; omega
def mp32_66 (a0 a1 a2 : Int) (μ : mi_M) : Prop := sc_ok (sc_m μ) ∧ 0 ≤ a0 ∧ a0 ≤ 1 ∧ 0 ≤ a1 ∧ a1 < μ 1 0 ∧ 0 ≤ a2 ∧ a2 < μ 1 1
def mv32_66 (a0 a1 a2 : Int) (μ : mi_M) : Int := sp_code (sc_m μ) a0 a1 a2
def mp184_86 (a0 a1 a2 : Int) (μ : mi_M) : Prop := sc_ok (μ 87) ∧ 0 ≤ a0 ∧ a0 ≤ 1 ∧ 0 ≤ a1 ∧ a1 < μ 87 0 ∧ 0 ≤ a2 ∧ a2 < μ 87 1
def mv184_86 (a0 a1 a2 : Int) (μ : mi_M) : Int := sp_code (μ 87) a0 a1 a2
section
variable {X : mi_X} {Q : mi_R → mi_G → mi_M → Prop} {u : mi_U} {μ : mi_M} {m : Int → Int}
theorem ml32_36 (hm : sc_ok m) (hs : sc_c m μ) {v x y : Int} (hv : 0 ≤ v) (hv' : v ≤ 1) (hx : 0 ≤ x) (hx' : x < m 0) (hy : 0 ≤ y) (hy' : y < m 1) :
    ∀ (n : Nat) (j acc : Int) (k : Nat), j + n = m 3 + 1 → -(m 3) ≤ j → 0 ≤ acc → acc < 2 ^ k → k + n * (2 * m 3 + 1).toNat ≤ 25 →
    Q (.inl (some (.inl (sp_call m v x y n j acc)))) mi_G0 μ →
    mk32_66_36 X Q u v x y (m 3) (sp_val m v x y) acc (y + j) μ := by
  obtain ⟨⟨w1, w2⟩, ⟨g1, g2⟩, -, ⟨f1, f2⟩, -⟩ := id hm
  have hs1 : μ 1 1 = m 1 := hs.2.1
  intro n
  induction n with
  | zero =>
    intro j acc k e1 e2 a0 a1 hk h
    apply mh32_66_36
    rw [mi_wr_id (by omega) (by omega), mi_wr_id (by omega) (by omega), if_pos (by omega)]
    exact h
  | succ n ih =>
    intro j acc k e1 e2 a0 a1 hk h
    have hn := sp_near_in (n := y + j) (hi := m 1 - 1) (by omega)
    rw [Nat.succ_mul] at hk
    have hb := sp_crow_b (m := m) (v := v) (x := x) (y := y) (j := j) (2 * m 3 + 1).toNat (-(m 3)) acc k a0 a1
    have ih' := ih (j + 1) _ (k + (2 * m 3 + 1).toNat) (by omega) (by omega) hb.1 hb.2 (by omega) h
    rw [show y + (j + 1) = y + j + 1 by omega] at ih'
    apply mh32_66_36
    rw [mi_wr_id (by omega) (by omega), mi_wr_id (by omega) (by omega), if_neg (by omega), hs1, sc_near _ _ ⟨by omega, by omega⟩ ⟨by omega, by omega⟩, mx_spot hn.1 (by omega), show 192 * v + 16 * sp_near (y + j) (m 1 - 1) + 0 = 192 * v + 16 * sp_near (y + j) (m 1 - 1) by omega]
    exact ml32_72 hm hs hv hv' hx hx' hy hy' (by omega) (by omega) (2 * m 3 + 1).toNat (-(m 3)) acc k (by omega) (by omega) a0 a1 (by omega) ih'
theorem mc32_66 {a0 a1 a2 : Int} (hp : mp32_66 a0 a1 a2 μ) (hq : Q (.inl (some (.inl (mv32_66 a0 a1 a2 μ)))) mi_G0 μ) : mi_cok X 32 [(.inr (.inl (some 66))), (.inl a0), (.inl a1), (.inl a2)] mi_G0 μ u Q := by
  obtain ⟨hm, hv, hv', hx, hx', hy, hy'⟩ := hp
  have hs := sc_m_c μ
  obtain ⟨⟨w1, w2⟩, ⟨g1, g2⟩, -, ⟨f1, f2⟩, -⟩ := id hm
  rw [sc_m0] at w1 w2
  rw [sc_m1] at g1 g2
  apply me32_66
  have e1 : μ 2 1 = sc_m μ 3 := hs.2.2.1 1 (by decide) (by decide)
  have e2 : μ 3 (192 * a0 + 16 * a2 + a1) = sp_val (sc_m μ) a0 a1 a2 := by rw [hs.2.2.2 _ (by omega) (by omega)]; rfl
  rw [mx_spot hy (by omega), e2, e1]
  refine ⟨by omega, ?_⟩
  have hk : 0 + (2 * sc_m μ 3 + 1).toNat * (2 * sc_m μ 3 + 1).toNat ≤ 25 := by
    have : (2 * sc_m μ 3 + 1).toNat ≤ 5 := by omega
    have := Nat.mul_le_mul this this
    omega
  exact ml32_36 hm hs hv hv' hx (by rw [sc_m0]; exact hx') hy (by rw [sc_m1]; exact hy') (2 * sc_m μ 3 + 1).toNat (-(sc_m μ 3)) 0 0 (by omega) (by omega) (by decide) (by decide) hk hq
/-! the reference's -/
theorem sc_nearR (a b : Int) (ha : mx_R a) (hb : mx_R b) : mv183_86 a b μ = sp_near a b := by
  unfold mv183_86 sp_near; rw [mx_wr ha, mx_wr hb]
theorem sc_valR {v x y : Int} (hv : 0 ≤ v) (hv' : v ≤ 1) (hx : 0 ≤ x) (hx' : x < 16) (hy : 0 ≤ y) (hy' : y < 12) : mp153_86 v x y μ ∧ mv153_86 v x y μ = sp_val (μ 87) v x y := by
  have e : mv152 v x y μ = 10 + (192 * v + 16 * y + x) := by unfold mv152; omega
  unfold mp153_86 mv153_86 sp_val
  rw [e]
  exact ⟨by omega, rfl⟩
theorem ml184_41 (hm : sc_ok (μ 87)) {v x y j : Int} (hv : 0 ≤ v) (hv' : v ≤ 1) (hx : 0 ≤ x) (hx' : x < μ 87 0) (hy : 0 ≤ y) (hy' : y < μ 87 1) (hj : -(μ 87 3) ≤ j) (hj' : j ≤ μ 87 3) :
    ∀ (n : Nat) (i acc : Int), i + n = μ 87 3 + 1 → -(μ 87 3) ≤ i →
    mk184_86_21 X Q u v x y (sp_val (μ 87) v x y) (sp_crow (μ 87) v x y j n i acc) (j + 1) μ →
    mk184_86_41 X Q u v x y (sp_val (μ 87) v x y) acc j i μ := by
  obtain ⟨⟨w1, w2⟩, ⟨g1, g2⟩, -, ⟨f1, f2⟩, -⟩ := id hm
  intro n
  induction n with
  | zero =>
    intro i acc e1 e2 h
    apply mh184_86_41
    rw [mi_wr_id (by omega) (by omega), mi_wr_id (by omega) (by omega), if_pos (by omega)]
    exact h
  | succ n ih =>
    intro i acc e1 e2 h
    have hn := sp_near_in (n := y + j) (hi := μ 87 1 - 1) (by omega)
    have hn2 := sp_near_in (n := x + i) (hi := μ 87 0 - 1) (by omega)
    have ih' := ih (i + 1) (sp_bit (μ 87) v x y i j acc) (by omega) (by omega) h
    have hvs := mx_val hm hv hv' hx (show x < 16 by omega) hy (show y < 12 by omega)
    have hcv : 0 ≤ sp_cv (μ 87) v x y i j ∧ sp_cv (μ 87) v x y i j ≤ 15 := mx_val hm hv hv' hn2.1 (show sp_near (x + i) (μ 87 0 - 1) < 16 by omega) hn.1 (show sp_near (y + j) (μ 87 1 - 1) < 12 by omega)
    obtain ⟨p1, p2⟩ := sc_valR (μ := μ) hv hv' hn2.1 (show sp_near (x + i) (μ 87 0 - 1) < 16 by omega) hn.1 (show sp_near (y + j) (μ 87 1 - 1) < 12 by omega)
    have p3 : sp_val (μ 87) v (sp_near (x + i) (μ 87 0 - 1)) (sp_near (y + j) (μ 87 1 - 1)) = sp_cv (μ 87) v x y i j := rfl
    apply mh184_86_41
    rw [mi_wr_id (z := μ 87 3) (by omega) (by omega), mi_wr_id (z := i) (by omega) (by omega), if_neg (by omega), mi_wr_id (z := j) (by omega) (by omega), sc_nearR _ _ ⟨by omega, by omega⟩ ⟨by omega, by omega⟩, sc_nearR _ _ ⟨by omega, by omega⟩ ⟨by omega, by omega⟩, p2, p3, mi_wr_id (z := sp_cv (μ 87) v x y i j) (by omega) (by omega), mi_wr_id (z := sp_val (μ 87) v x y) (by omega) (by omega)]
    have hst : ¬ (i = 0 ∧ j = 0) → (if sp_cv (μ 87) v x y i j < sp_val (μ 87) v x y then 2 * acc + 1 else 2 * acc + 0) = sp_bit (μ 87) v x y i j acc := by
      intro hne
      unfold sp_bit
      rw [if_neg hne]
      split <;> omega
    by_cases ei : i = 0
    · by_cases ej : j = 0
      · rw [if_pos ei, if_pos ej]
        have : sp_bit (μ 87) v x y i j acc = acc := by unfold sp_bit; rw [if_pos ⟨ei, ej⟩]
        rw [this] at ih'
        exact ih'
      · rw [if_pos ei, if_neg ej, hst (by omega)]
        exact ⟨p1, ih'⟩
    · rw [if_neg ei, hst (by omega)]
      exact ⟨p1, ih'⟩
theorem ml184_21 (hm : sc_ok (μ 87)) {v x y : Int} (hv : 0 ≤ v) (hv' : v ≤ 1) (hx : 0 ≤ x) (hx' : x < μ 87 0) (hy : 0 ≤ y) (hy' : y < μ 87 1) :
    ∀ (n : Nat) (j acc : Int), j + n = μ 87 3 + 1 → -(μ 87 3) ≤ j →
    Q (.inl (some (.inl (sp_call (μ 87) v x y n j acc)))) mi_G0 μ →
    mk184_86_21 X Q u v x y (sp_val (μ 87) v x y) acc j μ := by
  obtain ⟨⟨w1, w2⟩, ⟨g1, g2⟩, -, ⟨f1, f2⟩, -⟩ := id hm
  intro n
  induction n with
  | zero =>
    intro j acc e1 e2 h
    apply mh184_86_21
    rw [mi_wr_id (by omega) (by omega), mi_wr_id (by omega) (by omega), if_pos (by omega)]
    exact h
  | succ n ih =>
    intro j acc e1 e2 h
    have ih' := ih (j + 1) _ (by omega) (by omega) h
    apply mh184_86_21
    rw [mi_wr_id (by omega) (by omega), mi_wr_id (by omega) (by omega), if_neg (by omega)]
    exact ml184_41 hm hv hv' hx hx' hy hy' (by omega) (by omega) (2 * μ 87 3 + 1).toNat (-(μ 87 3)) acc (by omega) (by omega) ih'
theorem mc184_86 {a0 a1 a2 : Int} (hp : mp184_86 a0 a1 a2 μ) (hq : Q (.inl (some (.inl (mv184_86 a0 a1 a2 μ)))) mi_G0 μ) : mi_cok X 184 [(.inr (.inl (some 86))), (.inl a0), (.inl a1), (.inl a2)] mi_G0 μ u Q := by
  obtain ⟨hm, hv, hv', hx, hx', hy, hy'⟩ := hp
  obtain ⟨⟨w1, w2⟩, ⟨g1, g2⟩, -, ⟨f1, f2⟩, -⟩ := id hm
  obtain ⟨p1, p2⟩ := sc_valR (μ := μ) hv hv' hx (show a1 < 16 by omega) hy (show a2 < 12 by omega)
  apply me184_86
  rw [p2]
  exact ⟨p1, ml184_21 hm hv hv' hx hx' hy hy' (2 * μ 87 3 + 1).toNat (-(μ 87 3)) 0 (by omega) (by omega) hq⟩
/-- a code has at most 25 bits -/
theorem sp_call_b {v x y : Int} : ∀ (n : Nat) (j acc : Int) (k : Nat), 0 ≤ acc → acc < 2 ^ k → 0 ≤ sp_call m v x y n j acc ∧ sp_call m v x y n j acc < 2 ^ (k + n * (2 * m 3 + 1).toNat)
  | 0, j, acc, k, h0, h => ⟨h0, by rw [Nat.zero_mul]; exact h⟩
  | n + 1, j, acc, k, h0, h => by
    have b := sp_crow_b (m := m) (v := v) (x := x) (y := y) (j := j) (2 * m 3 + 1).toNat (-(m 3)) acc k h0 h
    have := sp_call_b (v := v) (x := x) (y := y) n (j + 1) _ (k + (2 * m 3 + 1).toNat) b.1 b.2
    rw [Nat.succ_mul, show k + (n * (2 * m 3 + 1).toNat + (2 * m 3 + 1).toNat) = k + (2 * m 3 + 1).toNat + n * (2 * m 3 + 1).toNat by omega]
    exact this
end
