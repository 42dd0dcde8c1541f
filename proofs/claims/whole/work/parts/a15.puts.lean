/-! THE TAPE -/
/-- four bytes laid -/
def pf (p a : Int) (g : Int → Int) : Int → Int := fun j => if j = p + 3 then mi_i2b (mi_i2b a) else if j = p + 2 then mi_i2b (mi_i2b (mi_shr a 8)) else if j = p + 1 then mi_i2b (mi_i2b (mi_shr a 16)) else if j = p then mi_i2b (mi_i2b (mi_shr a 24)) else g j
def ptq (c : Nat) (f : Int) (b : Nat) (a : Int) (μ ν : mi_M) : Prop := fr_l [c, b] μ ν ∧ ν c f = μ c f + 4 ∧ (∀ j, j ≠ f → ν c j = μ c j) ∧ ν b = pf (μ c f) a (μ b)
section
variable {X : mi_X} {Q : mi_R → mi_G → mi_M → Prop} {u : mi_U} {μ : mi_M}
theorem shr_0 {a : Int} (h : mx_R a) : mi_shr a 0 = a := by
  unfold mi_shr
  rw [show (Int32.ofInt 0 &&& 31 : Int32) = 0 by decide, Int32.shiftRight_zero, Int32.toInt_ofInt]
  exact mx_wr h
def mp155_86 (a0 : Int) (μ : mi_M) : Prop := mx_R a0 ∧ 0 ≤ μ 86 7 ∧ μ 86 7 + 4 ≤ 700
def mq155_86 (a0 : Int) (μ ν : mi_M) : Prop := ptq 86 7 90 a0 μ ν
theorem mc155_86 {a0 : Int} (hp : mp155_86 a0 μ) (hq : ∀ ν, mq155_86 a0 μ ν → Q (.inl none) mi_G0 ν) : mi_cok X 155 [(.inr (.inl (some 86))), (.inl a0)] mi_G0 μ u Q := by
  obtain ⟨hr, h1, h2⟩ := hp
  have st : ∀ (k : Int) (ρ : mi_M), 0 ≤ k → k ≤ 24 → 0 ≤ ρ 86 7 → ρ 86 7 < 700 → mk155_86_3 X Q u a0 (k + (-8)) (mi_set (mi_set ρ 90 (ρ 86 7) (mi_i2b (mi_i2b (mi_shr a0 k)))) 86 7 (ρ 86 7 + 1)) → mk155_86_3 X Q u a0 k ρ := fun k ρ g1 g2 g3 g4 hk => by
    apply mh155_86_3
    rw [mi_wr_id (by omega) (by omega), if_neg (by omega)]
    exact ⟨⟨g3, g4⟩, hk⟩
  have l7 : ∀ (ρ : mi_M) (k v t : Int), mi_set (mi_set ρ 90 k v) 86 7 t 86 7 = t := fun ρ k v t => by rw [ms_same, if_pos rfl]
  apply me155_86
  refine st 24 μ (by decide) (by decide) h1 (by omega) ?_
  refine st 16 _ (by decide) (by decide) (by rw [l7]; omega) (by rw [l7]; omega) ?_
  rw [l7]
  refine st 8 _ (by decide) (by decide) (by rw [l7]; omega) (by rw [l7]; omega) ?_
  rw [l7]
  refine st 0 _ (by decide) (by decide) (by rw [l7]; omega) (by rw [l7]; omega) ?_
  rw [l7, shr_0 hr]
  apply mh155_86_3
  rw [if_pos (by decide)]
  refine hq _ ⟨fun q hq => ?_, ?_, fun j hj => ?_, ?_⟩
  · simp only [List.mem_cons, List.not_mem_nil, or_false, not_or] at hq
    rw [ms_other _ hq.1, ms_other _ hq.2, ms_other _ hq.1, ms_other _ hq.2, ms_other _ hq.1, ms_other _ hq.2, ms_other _ hq.1, ms_other _ hq.2]
  · rw [l7]; omega
  · rw [ms_same, if_neg hj, ms_other _ (by decide), ms_same, if_neg hj, ms_other _ (by decide), ms_same, if_neg hj, ms_other _ (by decide), ms_same, if_neg hj, ms_other _ (by decide)]
  · funext j
    rw [ms_other _ (by decide), ms_same, ms_other _ (by decide), ms_same, ms_other _ (by decide), ms_same, ms_other _ (by decide), ms_same, show μ 86 7 + 1 + 1 = μ 86 7 + 2 by omega, show μ 86 7 + 2 + 1 = μ 86 7 + 3 by omega]
    rfl
theorem ap_is {a0 : Int} (h1 : 0 ≤ μ 11 0) (h2 : μ 11 0 + 4 ≤ 700) : mp94_11 a0 μ ∧ ptq 11 0 12 a0 μ (mm94_11 a0 μ) := by
  have w : mv93_11 4 μ = 1 := by
    unfold mv93_11
    rw [mi_wr_id (by omega) (by omega), mi_wr_id (by omega) (by omega)]
    first | rw [if_pos (by omega)] | rw [if_neg (by omega)]
  unfold mp94_11 mm94_11
  rw [w, if_neg w_10, if_neg w_10]
  refine ⟨by omega, fun q hq => ?_, ?_, fun j hj => ?_, ?_⟩
  · simp only [List.mem_cons, List.not_mem_nil, or_false, not_or] at hq
    rw [ms_other _ hq.1, ms_other _ hq.2, ms_other _ hq.2, ms_other _ hq.2, ms_other _ hq.2]
  · rw [ms_same, if_pos rfl]
  · rw [ms_same, if_neg hj, ms_other _ (by decide), ms_other _ (by decide), ms_other _ (by decide), ms_other _ (by decide)]
  · funext j
    rw [ms_other _ (by decide), ms_same, ms_same, ms_same, ms_same]
    rfl
def pf5 (p a0 a1 a2 a3 a4 : Int) (g : Int → Int) : Int → Int := pf (p + 16) a4 (pf (p + 12) a3 (pf (p + 8) a2 (pf (p + 4) a1 (pf p a0 g))))
def fdq (c : Nat) (f : Int) (b : Nat) (a0 a1 a2 a3 a4 : Int) (μ ν : mi_M) : Prop := fr_l [c, b] μ ν ∧ ν c f = μ c f + 20 ∧ (∀ j, j ≠ f → ν c j = μ c j) ∧ ν b = pf5 (μ c f) a0 a1 a2 a3 a4 (μ b)
theorem fdq_of {c b : Nat} {f a0 a1 a2 a3 a4 : Int} {μ1 μ2 μ3 μ4 ν : mi_M} (h0 : ptq c f b a0 μ μ1) (h1 : ptq c f b a1 μ1 μ2) (h2 : ptq c f b a2 μ2 μ3) (h3 : ptq c f b a3 μ3 μ4) (h4 : ptq c f b a4 μ4 ν) : fdq c f b a0 a1 a2 a3 a4 μ ν := by
  obtain ⟨p1, p2, p3, p4⟩ := h0
  obtain ⟨q1, q2, q3, q4⟩ := h1
  obtain ⟨r1, r2, r3, r4⟩ := h2
  obtain ⟨s1, s2, s3, s4⟩ := h3
  obtain ⟨t1, t2, t3, t4⟩ := h4
  refine ⟨fr_lt (fr_lt (fr_lt (fr_lt p1 q1) r1) s1) t1, by omega, fun j hj => by rw [t3 j hj, s3 j hj, r3 j hj, q3 j hj, p3 j hj], ?_⟩
  rw [t4, s4, r4, q4, p4, show μ4 c f = μ c f + 16 by omega, show μ3 c f = μ c f + 12 by omega, show μ2 c f = μ c f + 8 by omega, show μ1 c f = μ c f + 4 by omega]
  rfl
end
