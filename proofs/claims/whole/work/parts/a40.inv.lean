/-! WHAT HOLDS BETWEEN TWO CALLS -/
def lyR (n : Int) (L : Int → Int) : Prop := (0 ≤ n ∧ n ≤ 6) ∧ ∀ l, 0 ≤ l → l < n → (-20 ≤ L (6 * l) ∧ L (6 * l) ≤ 20) ∧ (-20 ≤ L (6 * l + 1) ∧ L (6 * l + 1) ≤ 20) ∧ (1 ≤ L (6 * l + 2) ∧ L (6 * l + 2) ≤ 40) ∧ (1 ≤ L (6 * l + 3) ∧ L (6 * l + 3) ≤ 40) ∧ (0 ≤ L (6 * l + 4) ∧ L (6 * l + 4) ≤ 7)
def lyC (c : Nat) (n : Int) (L : Int → Int) (μ : mi_M) : Prop := μ c 0 = n ∧ ∀ l, 0 ≤ l → l < 6 → μ (c + 1) l = L (6 * l) ∧ μ (c + 2) l = L (6 * l + 1) ∧ μ (c + 3) l = L (6 * l + 2) ∧ μ (c + 4) l = L (6 * l + 3) ∧ μ (c + 5) l = L (6 * l + 4) ∧ μ (c + 6) l = L (6 * l + 5)
theorem lyr_R {μ : mi_M} : lyr μ ↔ lyR (μ 86 5) (μ 89) := Iff.rfl
theorem lyc_C {μ : mi_M} : lyc μ ↔ lyC 4 (μ 86 5) (μ 89) μ := Iff.rfl
/-- an image by both -/
def im1 (c : Nat) (o b : Int) (μ : mi_M) : Prop := μ c 0 = b ∧ (b = 1 → sc_ok (fun j => μ 102 (o + j)) ∧ (∀ j, 0 ≤ j → j < 394 → sk μ (c + 1) j = μ 102 (o + j)) ∧ lyR (μ 102 (o + 430)) (fun j => μ 102 (o + 394 + j)) ∧ lyC (c + 4) (μ 102 (o + 430)) (fun j => μ 102 (o + 394 + j)) μ)
def im (μ : mi_M) : Prop := (0 ≤ μ 86 26 ∧ μ 86 26 ≤ 3) ∧ im1 44 0 (bit (μ 86 26) 0) μ ∧ im1 55 431 (bit (μ 86 26) 1) μ
def tp (μ : mi_M) : Prop := μ 11 0 = μ 86 7 ∧ (0 ≤ μ 86 7 ∧ μ 86 7 ≤ 700) ∧ μ 12 = μ 90
def inv (μ : mi_M) : Prop := (sc_ok (μ 87) ∧ sc_m μ = μ 87) ∧ ci μ ∧ (lyr μ ∧ lyc μ) ∧ tp μ ∧ pa μ ∧ im μ
section
variable {μ μ0 ν : mi_M}
theorem pa_fr (h : ∀ q, q = 17 ∨ (19 ≤ q ∧ q ≤ 42) → ν q = μ q) (h88 : ν 88 = μ 88) (h3 : ν 86 3 = μ 86 3) (hp : pa μ) : pa ν := by
  have e : ∀ a, pr_ ν a = pr_ μ a := fun a => by unfold pr_; rw [h88, h3]
  unfold pa
  rw [h 17 (by omega), h3]
  exact ⟨hp.1, hp.2.1, fun a h1 h2 => by rw [e a, pc_fr h]; exact hp.2.2 a h1 h2⟩
theorem im1_fr {c : Nat} {o b : Int} (h : ∀ q, c ≤ q → q ≤ c + 10 → ν q = μ q) (h102 : ν 102 = μ 102) (hi : im1 c o b μ) : im1 c o b ν := by
  unfold im1 lyC
  rw [h c (by omega) (by omega), h102, sk_eq (ν := ν) (μ := μ) (c := c + 1) (h _ (by omega) (by omega)) (h _ (by omega) (by omega)) (h _ (by omega) (by omega)), h (c + 4) (by omega) (by omega), h (c + 4 + 1) (by omega) (by omega), h (c + 4 + 2) (by omega) (by omega), h (c + 4 + 3) (by omega) (by omega), h (c + 4 + 4) (by omega) (by omega), h (c + 4 + 5) (by omega) (by omega), h (c + 4 + 6) (by omega) (by omega)]
  exact hi
theorem im_fr (h : ∀ q, 44 ≤ q → q ≤ 65 → ν q = μ q) (h102 : ν 102 = μ 102) (h26 : ν 86 26 = μ 86 26) (hi : im μ) : im ν := by
  unfold im; rw [h26]
  exact ⟨hi.1, im1_fr (fun q a b => h q (by omega) (by omega)) h102 hi.2.1, im1_fr (fun q a b => h q (by omega) (by omega)) h102 hi.2.2⟩
theorem ly_fr (h : ∀ q, 4 ≤ q → q ≤ 10 → ν q = μ q) (h89 : ν 89 = μ 89) (h5 : ν 86 5 = μ 86 5) (hl : lyr μ ∧ lyc μ) : lyr ν ∧ lyc ν :=
  ⟨lyr_fr h5 h89 hl.1, lyc_fr h5 h89 (by rw [h 4 (by omega) (by omega)]) (fun q a b => h q (by omega) b) hl.2⟩
theorem tp_fr (h11 : ν 11 0 = μ 11 0) (h12 : ν 12 = μ 12) (h90 : ν 90 = μ 90) (h7 : ν 86 7 = μ 86 7) (h : tp μ) : tp ν := by
  unfold tp; rw [h11, h12, h90, h7]; exact h
theorem sm_fr (h1 : ν 1 = μ 1) (h2 : ν 2 = μ 2) (h3 : ν 3 = μ 3) (h87 : ν 87 = μ 87) (h : sc_ok (μ 87) ∧ sc_m μ = μ 87) : sc_ok (ν 87) ∧ sc_m ν = ν 87 := by
  rw [sc_m_fr h1 h2 h3, h87]; exact h
/-- cells that answers change -/
abbrev QS : List Nat := [0, 66, 67, 68, 69, 70, 72, 73, 74, 75, 76, 77, 78, 79, 80, 82, 83, 85, 103, 86, 92, 93, 94, 95, 96, 97, 98, 99, 100, 101, 91, 104]
theorem QS_no {q : Nat} (h : (1 ≤ q ∧ q ≤ 65) ∨ q = 87 ∨ q = 88 ∨ q = 89 ∨ q = 90 ∨ q = 102) : q ∉ QS := by
  simp only [List.mem_cons, List.not_mem_nil, or_false, not_or]; omega
theorem inv_q (h : inv μ) (hf : fr_l QS μ ν) (h3 : ν 86 3 = μ 86 3) (h5 : ν 86 5 = μ 86 5) (h7 : ν 86 7 = μ 86 7) (h26 : ν 86 26 = μ 86 26) (hc : ci ν) : inv ν := by
  obtain ⟨a, b, c, d, e, f⟩ := h
  have k : ∀ q, (1 ≤ q ∧ q ≤ 65) ∨ q = 87 ∨ q = 88 ∨ q = 89 ∨ q = 90 ∨ q = 102 → ν q = μ q := fun q hq => hf q (QS_no hq)
  exact ⟨sm_fr (k 1 (by omega)) (k 2 (by omega)) (k 3 (by omega)) (k 87 (by omega)) a, hc, ly_fr (fun q _ _ => k q (by omega)) (k 89 (by omega)) h5 c, tp_fr (by rw [k 11 (by omega)]) (k 12 (by omega)) (k 90 (by omega)) h7 d, pa_fr (fun q _ => k q (by omega)) (k 88 (by omega)) h3 e, im_fr (fun q _ _ => k q (by omega)) (k 102 (by omega)) h26 f⟩
theorem inv_0 (h : inv μ) : inv (mi_set μ 86 0 0) := by
  have e : ∀ j, j ≠ 0 → mi_set μ 86 0 0 86 j = μ 86 j := fun j hj => by rw [ms_same, if_neg hj]
  exact inv_q h (fr_ls (fr_lr _ _) (by decide) _ _) (e 3 (by decide)) (e 5 (by decide)) (e 7 (by decide)) (e 26 (by decide)) (ci_fr (L := [86]) (fr_ls (fr_lr _ _) (by decide) _ _) rfl h.2.1)
/-- both asked -/
theorem inv_ask (h : inv μ) (hc : fr_l CT μ μ0) (hci : ci μ0) (hr : rq μ0 ν) : inv ν := by
  have e : μ0 86 = μ 86 := hc 86 (by decide)
  have e' : ∀ j, j ≠ 0 → ν 86 j = μ 86 j := fun j hj => by rw [hr.2 j hj, e]
  exact inv_q h (fr_lt (fr_lm hc rfl) (fr_lm hr.1 rfl)) (e' 3 (by decide)) (e' 5 (by decide)) (e' 7 (by decide)) (e' 26 (by decide)) (ci_fr (L := RS) hr.1 rfl hci)
theorem inv_A (h : inv μ) : cvA μ := ⟨by rw [h.1.2]; exact h.1.1, h.2.1⟩
theorem inv_L (h : inv μ) : cvL μ := ⟨inv_A h, h.2.2.1.1, h.2.2.1.2⟩
theorem inv_p (h : inv μ) : mp46_17_1 μ := h.2.2.2.2.1.1
theorem inv_P (h : inv μ) : cvP μ := ⟨inv_p h, h.2.1.1⟩
theorem inv_3 (h : inv μ) : 0 ≤ μ 86 3 ∧ μ 86 3 ≤ 8 := by
  rw [← h.2.2.2.2.1.2.1]; exact (inv_p h).1
/-- an act by both -/
theorem act_pa (hp : pa μ) (hm : sc_ok (μ 87)) (hs : sc_m μ = μ 87) (hk : kpc μ μ0) (hr : kpr μ0 ν) (e3 : μ0 86 3 = μ 86 3) (e87 : μ0 87 = μ 87) (e88 : μ0 88 = μ 88) (h : ∀ q, q = 17 ∨ (19 ≤ q ∧ q ≤ 42) → ν q = μ0 q) : pa ν := by
  obtain ⟨⟨p1, p2⟩, p3, p4⟩ := hp
  obtain ⟨k1, k2, k3⟩ := hk
  obtain ⟨r1, r2⟩ := hr
  rw [e3] at r1
  have e17 : ν 17 = μ0 17 := h 17 (by omega)
  have eh : ν 17 0 = ν 86 3 := by rw [e17, k1, r1, p3]
  have epr : ∀ a, pr_ μ0 a = pr_ μ a := fun a => by unfold pr_; rw [e88, e3]
  have hb : up1 (μ 17 0) ≤ 8 ∧ up1 (μ 17 0) ≤ μ 17 0 + 1 ∧ 0 ≤ up1 (μ 17 0) := by unfold up1; split <;> omega
  refine ⟨⟨by rw [e17, k1]; omega, by rw [e17]; exact k2⟩, eh, fun a h1 h2 => ?_⟩
  rw [e17, k1] at h2
  have q1 : ∀ j, 0 ≤ j → j < 394 → pr_ ν a j = if a = 0 then μ 87 j else pr_ μ (a - 1) j := fun j j1 j2 => by
    rw [r2 a j h1 (by rw [r1, ← p3]; exact h2) j1 j2, e87, epr]
  have q2 : ∀ j, 0 ≤ j → j < 394 → pc_ ν a j = if a = 0 then sc_m μ j else pc_ μ (a - 1) j := fun j j1 j2 => by
    rw [pc_fr h]; exact k3 a j h1 (by rw [k1]; exact h2) j1 j2
  by_cases c : a = 0
  · refine ⟨sc_cg (f := μ 87) (fun j j1 j2 => by rw [q1 j j1 j2, if_pos c]) hm, fun j j1 j2 => ?_⟩
    rw [q1 j j1 j2, q2 j j1 j2, if_pos c, if_pos c, hs]
  · obtain ⟨t1, t2⟩ := p4 (a - 1) (by omega) (by omega)
    refine ⟨sc_cg (f := pr_ μ (a - 1)) (fun j j1 j2 => by rw [q1 j j1 j2, if_neg c]) t1, fun j j1 j2 => ?_⟩
    rw [q1 j j1 j2, q2 j j1 j2, if_neg c, if_neg c]; exact t2 j j1 j2
theorem AS_no {q : Nat} (h : (4 ≤ q ∧ q ≤ 12) ∨ (43 ≤ q ∧ q ≤ 65) ∨ 86 ≤ q) : q ∉ AS := by
  simp only [List.mem_cons, List.not_mem_nil, or_false, not_or]; omega
theorem inv_act {f g : Int → Int} (h : inv μ) (ha : acc μ μ0 f) (hr : acr μ0 ν g) (e : f = g) (hg : sc_ok g) : inv ν := by
  obtain ⟨⟨m1, m2⟩, b, c, d, p, i⟩ := h
  obtain ⟨a1, a2, a3, a4⟩ := ha
  obtain ⟨r1, r2, r3, r4, r5⟩ := hr
  have k : ∀ q, (4 ≤ q ∧ q ≤ 12) ∨ (43 ≤ q ∧ q ≤ 65) ∨ 86 ≤ q → μ0 q = μ q := fun q hq => a1 q (AS_no hq)
  have l : ∀ q, q ≠ 86 → q ≠ 87 → q ≠ 88 → ν q = μ0 q := fun q q1 q2 q3 => r1 q (by simp only [List.mem_cons, List.not_mem_nil, or_false, not_or]; exact ⟨q1, q2, q3⟩)
  have e86 : μ0 86 = μ 86 := k 86 (by omega)
  have fe : ∀ j, j ≠ 0 → j ≠ 3 → ν 86 j = μ 86 j := fun j h1 h2 => by rw [r2 j h1 h2, e86]
  refine ⟨⟨by rw [r5]; exact hg, ?_⟩, ci_fr (L := [86, 87, 88]) r1 rfl a4, ly_fr (fun q q1 q2 => (l q (by omega) (by omega) (by omega)).trans (k q (by omega))) ((l 89 (by decide) (by decide) (by decide)).trans (k 89 (by omega))) (fe 5 (by decide) (by decide)) c, tp_fr (by rw [l 11 (by decide) (by decide) (by decide), k 11 (by omega)]) ((l 12 (by decide) (by decide) (by decide)).trans (k 12 (by omega))) ((l 90 (by decide) (by decide) (by decide)).trans (k 90 (by omega))) (fe 7 (by decide) (by decide)) d, act_pa p m1 m2 a2 r4 (by rw [e86]) (k 87 (by omega)) (k 88 (by omega)) (fun q hq => l q (by omega) (by omega) (by omega)), im_fr (fun q q1 q2 => (l q (by omega) (by omega) (by omega)).trans (k q (by omega))) ((l 102 (by decide) (by decide) (by decide)).trans (k 102 (by omega))) (fe 26 (by decide) (by decide)) i⟩
  rw [sc_m_fr (l 1 (by decide) (by decide) (by decide)) (l 2 (by decide) (by decide) (by decide)) (l 3 (by decide) (by decide) (by decide)), a3, r5, e]
end
