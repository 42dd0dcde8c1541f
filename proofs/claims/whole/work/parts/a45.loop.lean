/-! PRINTED by wip/whole/gen/mka44.py: the law's loop -/
section
variable {X : mi_X} {Q : mi_R → mi_G → mi_M → Prop} {u : mi_U} {μ : mi_M} {l4 : Int}
theorem rx_s (j : Int) : mx_R (mi_ro X 1010 j) := by
  show mx_R (X.1 j.toNat).toInt
  exact ⟨Int32.le_toInt _, Int32.toInt_lt _⟩
/-- the road goes on -/
def rd_k (X : mi_X) (Q : mi_R → mi_G → mi_M → Prop) (u : mi_U) (l4 : Int) : Prop := ∀ (ν : mi_M) (w : mi_U), inv ν → u.1 - 988 ≤ w.1 → u.2 - 6916 ≤ w.2 → mk256_1010_23 X Q w (l4 + 7) ν
theorem rd_b (hl : 0 ≤ l4) (hb : l4 + 7 ≤ (mi_rl X 1010 : Int)) (k : Int) (h1 : 0 ≤ k := by decide) (h2 : k < 7 := by decide) : 0 ≤ l4 + k ∧ l4 + k < (mi_rl X 1010 : Int) := ⟨by omega, by omega⟩
theorem rd_204 (h : inv μ) (hl : 0 ≤ l4) (hb : l4 + 7 ≤ (mi_rl X 1010 : Int)) (hu : 988 ≤ u.1 ∧ 6916 ≤ u.2) (hk : rd_k X Q u l4) : mk256_1010_204 X Q u l4 μ := by
  apply mh256_1010_204
  obtain ⟨p, q⟩ := st_feed h (rx_s (X := X) (l4 + 1)) (rx_s (X := X) (l4 + 2)) (rx_s (X := X) (l4 + 3)) (rx_s (X := X) (l4 + 4)) (rx_s (X := X) (l4 + 5))
  refine ⟨rd_b hl hb 1, rd_b hl hb 2, rd_b hl hb 3, rd_b hl hb 4, rd_b hl hb 5, p, fun v0 μ0 h0 => ?_⟩
  obtain ⟨p1, q1⟩ := q v0 μ0 h0
  refine ⟨rd_b hl hb 1, rd_b hl hb 2, rd_b hl hb 3, rd_b hl hb 4, rd_b hl hb 5, p1, fun v1 μ1 h1 => ?_⟩
  obtain ⟨e, hi⟩ := q1 v1 μ1 h1
  rw [if_pos (congrArg mi_wr e)]
  exact mh256_1010_1931 (hk μ1 _ hi (by omega) (by omega))
theorem rd_277 (h : inv μ) (hl : 0 ≤ l4) (hb : l4 + 7 ≤ (mi_rl X 1010 : Int)) (hu : 988 ≤ u.1 ∧ 6916 ≤ u.2) (hk : rd_k X Q u l4) : mk256_1010_277 X Q u l4 μ := by
  apply mh256_1010_277
  obtain ⟨p, q⟩ := st_text h (rx_s (X := X) (l4 + 1))
  refine ⟨rd_b hl hb 1, p, fun v0 μ0 h0 => ?_⟩
  obtain ⟨p1, q1⟩ := q v0 μ0 h0
  refine ⟨rd_b hl hb 1, hu, p1, fun v1 μ1 h1 => ?_⟩
  obtain ⟨e, hi⟩ := q1 v1 μ1 h1
  rw [if_pos (congrArg mi_wr e)]
  exact mh256_1010_1931 (hk μ1 _ hi (Nat.le_refl _) (Nat.le_refl _))
theorem rd_302 (h : inv μ) (hl : 0 ≤ l4) (hb : l4 + 7 ≤ (mi_rl X 1010 : Int)) (hu : 988 ≤ u.1 ∧ 6916 ≤ u.2) (hk : rd_k X Q u l4) : mk256_1010_302 X Q u l4 μ := by
  apply mh256_1010_302
  obtain ⟨p, q⟩ := st_size h (rx_s (X := X) (l4 + 1)) (rx_s (X := X) (l4 + 2))
  refine ⟨rd_b hl hb 1, rd_b hl hb 2, p, fun v0 μ0 h0 => ?_⟩
  obtain ⟨p1, q1⟩ := q v0 μ0 h0
  refine ⟨rd_b hl hb 1, rd_b hl hb 2, p1, fun v1 μ1 h1 => ?_⟩
  obtain ⟨e, hi⟩ := q1 v1 μ1 h1
  rw [if_pos (congrArg mi_wr e)]
  exact mh256_1010_1931 (hk μ1 _ hi (by omega) (by omega))
theorem rd_339 (h : inv μ) (hl : 0 ≤ l4) (hb : l4 + 7 ≤ (mi_rl X 1010 : Int)) (hu : 988 ≤ u.1 ∧ 6916 ≤ u.2) (hk : rd_k X Q u l4) : mk256_1010_339 X Q u l4 μ := by
  apply mh256_1010_339
  obtain ⟨p, q⟩ := st_value h (rx_s (X := X) (l4 + 1)) (rx_s (X := X) (l4 + 2)) (rx_s (X := X) (l4 + 3)) (rx_s (X := X) (l4 + 4))
  refine ⟨rd_b hl hb 1, rd_b hl hb 2, rd_b hl hb 3, rd_b hl hb 4, p, fun v0 μ0 h0 => ?_⟩
  obtain ⟨p1, q1⟩ := q v0 μ0 h0
  refine ⟨rd_b hl hb 1, rd_b hl hb 2, rd_b hl hb 3, rd_b hl hb 4, p1, fun v1 μ1 h1 => ?_⟩
  obtain ⟨e, hi⟩ := q1 v1 μ1 h1
  rw [if_pos (congrArg mi_wr e)]
  exact mh256_1010_1931 (hk μ1 _ hi (by omega) (by omega))
theorem rd_400 (h : inv μ) (hl : 0 ≤ l4) (hb : l4 + 7 ≤ (mi_rl X 1010 : Int)) (hu : 988 ≤ u.1 ∧ 6916 ≤ u.2) (hk : rd_k X Q u l4) : mk256_1010_400 X Q u l4 μ := by
  apply mh256_1010_400
  obtain ⟨p, q⟩ := st_tune h (rx_s (X := X) (l4 + 1)) (rx_s (X := X) (l4 + 2))
  refine ⟨rd_b hl hb 1, rd_b hl hb 2, p, fun v0 μ0 h0 => ?_⟩
  obtain ⟨p1, q1⟩ := q v0 μ0 h0
  refine ⟨rd_b hl hb 1, rd_b hl hb 2, p1, fun v1 μ1 h1 => ?_⟩
  obtain ⟨e, hi⟩ := q1 v1 μ1 h1
  rw [if_pos (congrArg mi_wr e)]
  exact mh256_1010_1931 (hk μ1 _ hi (by omega) (by omega))
theorem rd_437 (h : inv μ) (hl : 0 ≤ l4) (hb : l4 + 7 ≤ (mi_rl X 1010 : Int)) (hu : 988 ≤ u.1 ∧ 6916 ≤ u.2) (hk : rd_k X Q u l4) : mk256_1010_437 X Q u l4 μ := by
  apply mh256_1010_437
  obtain ⟨p1, p2, e, hi⟩ := st_layer (a5 := mi_ro X 1010 (l4 + 6)) h (rx_s (X := X) (l4 + 1)) (rx_s (X := X) (l4 + 2)) (rx_s (X := X) (l4 + 3)) (rx_s (X := X) (l4 + 4)) (rx_s (X := X) (l4 + 5))
  refine ⟨rd_b hl hb 1, rd_b hl hb 2, rd_b hl hb 3, rd_b hl hb 4, rd_b hl hb 5, rd_b hl hb 6, p1, rd_b hl hb 1, rd_b hl hb 2, rd_b hl hb 3, rd_b hl hb 4, rd_b hl hb 5, rd_b hl hb 6, p2, ?_⟩
  rw [if_pos (congrArg mi_wr e)]
  exact mh256_1010_1931 (hk _ _ hi (by omega) (by omega))
theorem rd_524 (h : inv μ) (hl : 0 ≤ l4) (hb : l4 + 7 ≤ (mi_rl X 1010 : Int)) (hu : 988 ≤ u.1 ∧ 6916 ≤ u.2) (hk : rd_k X Q u l4) : mk256_1010_524 X Q u l4 μ := by
  apply mh256_1010_524
  obtain ⟨e, hi⟩ := st_clear h
  rw [if_pos (congrArg mi_wr e)]
  exact mh256_1010_1931 (hk _ _ hi (by omega) (by omega))
theorem rd_537 (h : inv μ) (hl : 0 ≤ l4) (hb : l4 + 7 ≤ (mi_rl X 1010 : Int)) (hu : 988 ≤ u.1 ∧ 6916 ≤ u.2) (hk : rd_k X Q u l4) : mk256_1010_537 X Q u l4 μ := by
  apply mh256_1010_537
  obtain ⟨p, q⟩ := st_draw h
  refine ⟨p, fun v0 μ0 h0 => ?_⟩
  obtain ⟨p1, q1⟩ := q v0 μ0 h0
  refine ⟨p1, fun v1 μ1 h1 => ?_⟩
  obtain ⟨e, hi⟩ := q1 v1 μ1 h1
  rw [if_pos (congrArg mi_wr e)]
  exact mh256_1010_1931 (hk μ1 _ hi (by omega) (by omega))
theorem rd_550 (h : inv μ) (hl : 0 ≤ l4) (hb : l4 + 7 ≤ (mi_rl X 1010 : Int)) (hu : 988 ≤ u.1 ∧ 6916 ≤ u.2) (hk : rd_k X Q u l4) : mk256_1010_550 X Q u l4 μ := by
  apply mh256_1010_550
  obtain ⟨p, q⟩ := st_truth h (rx_s (X := X) (l4 + 1)) (rx_s (X := X) (l4 + 2)) (rx_s (X := X) (l4 + 3))
  refine ⟨rd_b hl hb 1, rd_b hl hb 2, rd_b hl hb 3, p, fun v0 μ0 h0 => ?_⟩
  obtain ⟨p1, q1⟩ := q v0 μ0 h0
  refine ⟨rd_b hl hb 1, rd_b hl hb 2, rd_b hl hb 3, p1, fun v1 μ1 h1 => ?_⟩
  obtain ⟨e, hi⟩ := q1 v1 μ1 h1
  rw [if_pos (congrArg mi_wr e)]
  exact mh256_1010_1931 (hk μ1 _ hi (by omega) (by omega))
theorem rd_599 (h : inv μ) (hl : 0 ≤ l4) (hb : l4 + 7 ≤ (mi_rl X 1010 : Int)) (hu : 988 ≤ u.1 ∧ 6916 ≤ u.2) (hk : rd_k X Q u l4) : mk256_1010_599 X Q u l4 μ := by
  apply mh256_1010_599
  refine ⟨rd_b hl hb 1, rd_b hl hb 2, rd_b hl hb 3, ⟨by omega, by omega⟩, ⟨inv_A h, rx_s _, rx_s _, rx_s _⟩, fun v0 μ0 h0 => ?_⟩
  have e87 : μ0 87 = μ 87 := by
    rcases h0 with ⟨_, _, hf, _⟩ | ⟨_, _, e⟩
    · exact hf 87 (by decide)
    · rw [e]
  refine ⟨rd_b hl hb 1, rd_b hl hb 2, rd_b hl hb 3, ⟨by rw [e87]; exact h.1.1, rx_s _, rx_s _, rx_s _⟩, fun v1 μ1 h1 => ?_⟩
  obtain ⟨hr, h2, h3⟩ := h1
  rw [e87, ← h.1.2] at h2 h3
  exact st_wr h h0 hr h2 h3 (fun hi => mh256_1010_1931 (hk μ1 _ hi (by show _ ≤ u.1 - 1; omega) (by show _ ≤ u.2 - 6; omega)))
theorem rd_679 (h : inv μ) (hl : 0 ≤ l4) (hb : l4 + 7 ≤ (mi_rl X 1010 : Int)) (hu : 988 ≤ u.1 ∧ 6916 ≤ u.2) (hk : rd_k X Q u l4) : mk256_1010_679 X Q u l4 μ := by
  apply mh256_1010_679
  refine ⟨rd_b hl hb 1, rd_b hl hb 2, rd_b hl hb 3, ⟨by omega, by omega⟩, ⟨inv_A h, rx_s _, rx_s _, rx_s _⟩, fun v0 μ0 h0 => ?_⟩
  have e87 : μ0 87 = μ 87 := by
    rcases h0 with ⟨_, _, hf, _⟩ | ⟨_, _, e⟩
    · exact hf 87 (by decide)
    · rw [e]
  refine ⟨rd_b hl hb 1, rd_b hl hb 2, rd_b hl hb 3, ⟨by rw [e87]; exact h.1.1, rx_s _, rx_s _, rx_s _⟩, fun v1 μ1 h1 => ?_⟩
  obtain ⟨hr, h2, h3⟩ := h1
  rw [e87, ← h.1.2] at h2 h3
  exact st_wr h h0 hr h2 h3 (fun hi => mh256_1010_1931 (hk μ1 _ hi (by show _ ≤ u.1 - 1; omega) (by show _ ≤ u.2 - 6; omega)))
theorem rd_759 (h : inv μ) (hl : 0 ≤ l4) (hb : l4 + 7 ≤ (mi_rl X 1010 : Int)) (hu : 988 ≤ u.1 ∧ 6916 ≤ u.2) (hk : rd_k X Q u l4) : mk256_1010_759 X Q u l4 μ := by
  apply mh256_1010_759
  refine ⟨rd_b hl hb 1, rd_b hl hb 2, rd_b hl hb 3, ⟨by omega, by omega⟩, ⟨inv_A h, rx_s _, rx_s _, rx_s _⟩, fun v0 μ0 h0 => ?_⟩
  have e87 : μ0 87 = μ 87 := by
    rcases h0 with ⟨_, _, hf, _⟩ | ⟨_, _, e⟩
    · exact hf 87 (by decide)
    · rw [e]
  refine ⟨rd_b hl hb 1, rd_b hl hb 2, rd_b hl hb 3, ⟨by rw [e87]; exact h.1.1, rx_s _, rx_s _, rx_s _⟩, fun v1 μ1 h1 => ?_⟩
  obtain ⟨hr, h2, h3⟩ := h1
  rw [e87, ← h.1.2] at h2 h3
  exact st_wr h h0 hr h2 h3 (fun hi => mh256_1010_1931 (hk μ1 _ hi (by show _ ≤ u.1 - 1; omega) (by show _ ≤ u.2 - 6; omega)))
theorem rd_839 (h : inv μ) (hl : 0 ≤ l4) (hb : l4 + 7 ≤ (mi_rl X 1010 : Int)) (hu : 988 ≤ u.1 ∧ 6916 ≤ u.2) (hk : rd_k X Q u l4) : mk256_1010_839 X Q u l4 μ := by
  apply mh256_1010_839
  obtain ⟨p, q⟩ := st_codes h (rx_s (X := X) (l4 + 1))
  refine ⟨rd_b hl hb 1, p, fun v0 μ0 h0 => ?_⟩
  obtain ⟨p1, q1⟩ := q v0 μ0 h0
  refine ⟨rd_b hl hb 1, p1, fun v1 μ1 h1 => ?_⟩
  obtain ⟨e, hi⟩ := q1 v1 μ1 h1
  rw [if_pos (congrArg mi_wr e)]
  exact mh256_1010_1931 (hk μ1 _ hi (by omega) (by omega))
theorem rd_864 (h : inv μ) (hl : 0 ≤ l4) (hb : l4 + 7 ≤ (mi_rl X 1010 : Int)) (hu : 988 ≤ u.1 ∧ 6916 ≤ u.2) (hk : rd_k X Q u l4) : mk256_1010_864 X Q u l4 μ := by
  apply mh256_1010_864
  obtain ⟨p, q⟩ := st_cost h (rx_s (X := X) (l4 + 1)) (rx_s (X := X) (l4 + 2)) (rx_s (X := X) (l4 + 3))
  refine ⟨rd_b hl hb 1, rd_b hl hb 2, rd_b hl hb 3, p, fun v0 μ0 h0 => ?_⟩
  obtain ⟨p1, q1⟩ := q v0 μ0 h0
  refine ⟨rd_b hl hb 1, rd_b hl hb 2, rd_b hl hb 3, p1, fun v1 μ1 h1 => ?_⟩
  obtain ⟨e, hi⟩ := q1 v1 μ1 h1
  rw [if_pos (congrArg mi_wr e)]
  exact mh256_1010_1931 (hk μ1 _ hi (by omega) (by omega))
theorem rd_913 (h : inv μ) (hl : 0 ≤ l4) (hb : l4 + 7 ≤ (mi_rl X 1010 : Int)) (hu : 988 ≤ u.1 ∧ 6916 ≤ u.2) (hk : rd_k X Q u l4) : mk256_1010_913 X Q u l4 μ := by
  apply mh256_1010_913
  obtain ⟨p, q⟩ := st_path h (rx_s (X := X) (l4 + 1)) (rx_s (X := X) (l4 + 2)) (rx_s (X := X) (l4 + 3)) (rx_s (X := X) (l4 + 4))
  refine ⟨rd_b hl hb 1, rd_b hl hb 2, rd_b hl hb 3, rd_b hl hb 4, p, fun v0 μ0 h0 => ?_⟩
  obtain ⟨p1, q1⟩ := q v0 μ0 h0
  refine ⟨rd_b hl hb 1, rd_b hl hb 2, rd_b hl hb 3, rd_b hl hb 4, p1, fun v1 μ1 h1 => ?_⟩
  obtain ⟨e, hi⟩ := q1 v1 μ1 h1
  rw [if_pos (congrArg mi_wr e)]
  exact mh256_1010_1931 (hk μ1 _ hi (by omega) (by omega))
theorem rd_974 (h : inv μ) (hl : 0 ≤ l4) (hb : l4 + 7 ≤ (mi_rl X 1010 : Int)) (hu : 988 ≤ u.1 ∧ 6916 ≤ u.2) (hk : rd_k X Q u l4) : mk256_1010_974 X Q u l4 μ := by
  apply mh256_1010_974
  obtain ⟨p, q⟩ := st_sum h (rx_s (X := X) (l4 + 1)) (rx_s (X := X) (l4 + 2)) (rx_s (X := X) (l4 + 3))
  refine ⟨rd_b hl hb 1, rd_b hl hb 2, rd_b hl hb 3, p, fun v0 μ0 h0 => ?_⟩
  obtain ⟨p1, q1⟩ := q v0 μ0 h0
  refine ⟨rd_b hl hb 1, rd_b hl hb 2, rd_b hl hb 3, p1, fun v1 μ1 h1 => ?_⟩
  obtain ⟨e, hi⟩ := q1 v1 μ1 h1
  rw [if_pos (congrArg mi_wr e)]
  exact mh256_1010_1931 (hk μ1 _ hi (by omega) (by omega))
theorem rd_1023 (h : inv μ) (hl : 0 ≤ l4) (hb : l4 + 7 ≤ (mi_rl X 1010 : Int)) (hu : 988 ≤ u.1 ∧ 6916 ≤ u.2) (hk : rd_k X Q u l4) : mk256_1010_1023 X Q u l4 μ := by
  apply mh256_1010_1023
  refine ⟨rd_b hl hb 1, rd_b hl hb 2, rd_b hl hb 3, ⟨by omega, by omega⟩, ⟨inv_A h, rx_s _, rx_s _, rx_s _⟩, fun v0 μ0 h0 => ?_⟩
  have e87 : μ0 87 = μ 87 := by
    rcases h0 with ⟨_, _, hf, _⟩ | ⟨_, _, e⟩
    · exact hf 87 (by decide)
    · rw [e]
  refine ⟨rd_b hl hb 1, rd_b hl hb 2, rd_b hl hb 3, ⟨by rw [e87]; exact h.1.1, rx_s _, rx_s _, rx_s _⟩, fun v1 μ1 h1 => ?_⟩
  obtain ⟨hr, h2, h3⟩ := h1
  rw [e87, ← h.1.2] at h2 h3
  exact st_wr h h0 hr h2 h3 (fun hi => mh256_1010_1931 (hk μ1 _ hi (by show _ ≤ u.1 - 1; omega) (by show _ ≤ u.2 - 6; omega)))
theorem rd_1103 (h : inv μ) (hl : 0 ≤ l4) (hb : l4 + 7 ≤ (mi_rl X 1010 : Int)) (hu : 988 ≤ u.1 ∧ 6916 ≤ u.2) (hk : rd_k X Q u l4) : mk256_1010_1103 X Q u l4 μ := by
  apply mh256_1010_1103
  refine ⟨rd_b hl hb 1, rd_b hl hb 2, ⟨by omega, by omega⟩, ⟨inv_A h, rx_s _, rx_s _⟩, fun v0 μ0 h0 => ?_⟩
  have e87 : μ0 87 = μ 87 := by
    rcases h0 with ⟨_, _, hf, _⟩ | ⟨_, _, e⟩
    · exact hf 87 (by decide)
    · rw [e]
  refine ⟨rd_b hl hb 1, rd_b hl hb 2, ⟨by rw [e87]; exact h.1.1, rx_s _, rx_s _⟩, fun v1 μ1 h1 => ?_⟩
  obtain ⟨hr, h2, h3⟩ := h1
  rw [e87, ← h.1.2] at h2 h3
  exact st_wr h h0 hr h2 h3 (fun hi => mh256_1010_1931 (hk μ1 _ hi (by show _ ≤ u.1 - 1; omega) (by show _ ≤ u.2 - 6; omega)))
theorem rd_1171 (h : inv μ) (hl : 0 ≤ l4) (hb : l4 + 7 ≤ (mi_rl X 1010 : Int)) (hu : 988 ≤ u.1 ∧ 6916 ≤ u.2) (hk : rd_k X Q u l4) : mk256_1010_1171 X Q u l4 μ := by
  apply mh256_1010_1171
  obtain ⟨p, q⟩ := st_kind h (rx_s (X := X) (l4 + 1)) (rx_s (X := X) (l4 + 2)) (rx_s (X := X) (l4 + 3))
  refine ⟨rd_b hl hb 1, rd_b hl hb 2, rd_b hl hb 3, p, fun v0 μ0 h0 => ?_⟩
  obtain ⟨p1, q1⟩ := q v0 μ0 h0
  refine ⟨rd_b hl hb 1, rd_b hl hb 2, rd_b hl hb 3, p1, fun v1 μ1 h1 => ?_⟩
  obtain ⟨e, hi⟩ := q1 v1 μ1 h1
  rw [if_pos (congrArg mi_wr e)]
  exact mh256_1010_1931 (hk μ1 _ hi (by omega) (by omega))
theorem rd_1220 (h : inv μ) (hl : 0 ≤ l4) (hb : l4 + 7 ≤ (mi_rl X 1010 : Int)) (hu : 988 ≤ u.1 ∧ 6916 ≤ u.2) (hk : rd_k X Q u l4) : mk256_1010_1220 X Q u l4 μ := by
  apply mh256_1010_1220
  obtain ⟨p, q⟩ := st_kinds h (rx_s (X := X) (l4 + 1)) (rx_s (X := X) (l4 + 2))
  refine ⟨rd_b hl hb 1, rd_b hl hb 2, p, fun v0 μ0 h0 => ?_⟩
  obtain ⟨p1, q1⟩ := q v0 μ0 h0
  refine ⟨rd_b hl hb 1, rd_b hl hb 2, p1, fun v1 μ1 h1 => ?_⟩
  obtain ⟨e, hi⟩ := q1 v1 μ1 h1
  rw [if_pos (congrArg mi_wr e)]
  exact mh256_1010_1931 (hk μ1 _ hi (by omega) (by omega))
theorem rd_1257 (h : inv μ) (hl : 0 ≤ l4) (hb : l4 + 7 ≤ (mi_rl X 1010 : Int)) (hu : 988 ≤ u.1 ∧ 6916 ≤ u.2) (hk : rd_k X Q u l4) : mk256_1010_1257 X Q u l4 μ := by
  apply mh256_1010_1257
  obtain ⟨p, q⟩ := st_piece h (rx_s (X := X) (l4 + 1)) (rx_s (X := X) (l4 + 2)) (rx_s (X := X) (l4 + 3))
  refine ⟨rd_b hl hb 1, rd_b hl hb 2, rd_b hl hb 3, p, fun v0 μ0 h0 => ?_⟩
  obtain ⟨p1, q1⟩ := q v0 μ0 h0
  refine ⟨rd_b hl hb 1, rd_b hl hb 2, rd_b hl hb 3, p1, fun v1 μ1 h1 => ?_⟩
  obtain ⟨e, hi⟩ := q1 v1 μ1 h1
  rw [if_pos (congrArg mi_wr e)]
  exact mh256_1010_1931 (hk μ1 _ hi (by omega) (by omega))
theorem rd_1306 (h : inv μ) (hl : 0 ≤ l4) (hb : l4 + 7 ≤ (mi_rl X 1010 : Int)) (hu : 988 ≤ u.1 ∧ 6916 ≤ u.2) (hk : rd_k X Q u l4) : mk256_1010_1306 X Q u l4 μ := by
  apply mh256_1010_1306
  obtain ⟨p, q⟩ := st_pieces h (rx_s (X := X) (l4 + 1)) (rx_s (X := X) (l4 + 2))
  refine ⟨rd_b hl hb 1, rd_b hl hb 2, p, fun v0 μ0 h0 => ?_⟩
  obtain ⟨p1, q1⟩ := q v0 μ0 h0
  refine ⟨rd_b hl hb 1, rd_b hl hb 2, p1, fun v1 μ1 h1 => ?_⟩
  obtain ⟨e, hi⟩ := q1 v1 μ1 h1
  rw [if_pos (congrArg mi_wr e)]
  exact mh256_1010_1931 (hk μ1 _ hi (by omega) (by omega))
theorem rd_1343 (h : inv μ) (hl : 0 ≤ l4) (hb : l4 + 7 ≤ (mi_rl X 1010 : Int)) (hu : 988 ≤ u.1 ∧ 6916 ≤ u.2) (hk : rd_k X Q u l4) : mk256_1010_1343 X Q u l4 μ := by
  apply mh256_1010_1343
  obtain ⟨p, q⟩ := st_pieceAt h (rx_s (X := X) (l4 + 1)) (rx_s (X := X) (l4 + 2)) (rx_s (X := X) (l4 + 3))
  refine ⟨rd_b hl hb 1, rd_b hl hb 2, rd_b hl hb 3, p, fun v0 μ0 h0 => ?_⟩
  obtain ⟨p1, q1⟩ := q v0 μ0 h0
  refine ⟨rd_b hl hb 1, rd_b hl hb 2, rd_b hl hb 3, p1, fun v1 μ1 h1 => ?_⟩
  obtain ⟨e, hi⟩ := q1 v1 μ1 h1
  rw [if_pos (congrArg mi_wr e)]
  exact mh256_1010_1931 (hk μ1 _ hi (by omega) (by omega))
theorem rd_1392 (h : inv μ) (hl : 0 ≤ l4) (hb : l4 + 7 ≤ (mi_rl X 1010 : Int)) (hu : 988 ≤ u.1 ∧ 6916 ≤ u.2) (hk : rd_k X Q u l4) : mk256_1010_1392 X Q u l4 μ := by
  apply mh256_1010_1392
  refine ⟨rd_b hl hb 1, rd_b hl hb 2, ⟨by omega, by omega⟩, ⟨inv_A h, rx_s _, rx_s _⟩, fun v0 μ0 h0 => ?_⟩
  have e87 : μ0 87 = μ 87 := by
    rcases h0 with ⟨_, _, hf, _⟩ | ⟨_, _, e⟩
    · exact hf 87 (by decide)
    · rw [e]
  refine ⟨rd_b hl hb 1, rd_b hl hb 2, ⟨by rw [e87]; exact h.1.1, rx_s _, rx_s _⟩, fun v1 μ1 h1 => ?_⟩
  obtain ⟨hr, h2, h3⟩ := h1
  rw [e87, ← h.1.2] at h2 h3
  exact st_wr h h0 hr h2 h3 (fun hi => mh256_1010_1931 (hk μ1 _ hi (by show _ ≤ u.1 - 1; omega) (by show _ ≤ u.2 - 6; omega)))
theorem rd_1460 (h : inv μ) (hl : 0 ≤ l4) (hb : l4 + 7 ≤ (mi_rl X 1010 : Int)) (hu : 988 ≤ u.1 ∧ 6916 ≤ u.2) (hk : rd_k X Q u l4) : mk256_1010_1460 X Q u l4 μ := by
  apply mh256_1010_1460
  obtain ⟨p, q⟩ := st_ground h (rx_s (X := X) (l4 + 1))
  refine ⟨rd_b hl hb 1, p, fun v0 μ0 h0 => ?_⟩
  obtain ⟨p1, q1⟩ := q v0 μ0 h0
  refine ⟨rd_b hl hb 1, p1, fun v1 μ1 h1 => ?_⟩
  obtain ⟨e, hi⟩ := q1 v1 μ1 h1
  rw [if_pos (congrArg mi_wr e)]
  exact mh256_1010_1931 (hk μ1 _ hi (by omega) (by omega))
theorem rd_1485 (h : inv μ) (hl : 0 ≤ l4) (hb : l4 + 7 ≤ (mi_rl X 1010 : Int)) (hu : 988 ≤ u.1 ∧ 6916 ≤ u.2) (hk : rd_k X Q u l4) : mk256_1010_1485 X Q u l4 μ := by
  apply mh256_1010_1485
  obtain ⟨p, q⟩ := st_votes h (rx_s (X := X) (l4 + 1)) (rx_s (X := X) (l4 + 2))
  refine ⟨rd_b hl hb 1, rd_b hl hb 2, p, fun v0 μ0 h0 => ?_⟩
  obtain ⟨p1, q1⟩ := q v0 μ0 h0
  refine ⟨rd_b hl hb 1, rd_b hl hb 2, p1, fun v1 μ1 h1 => ?_⟩
  obtain ⟨e, hi⟩ := q1 v1 μ1 h1
  rw [if_pos (congrArg mi_wr e)]
  exact mh256_1010_1931 (hk μ1 _ hi (by omega) (by omega))
theorem rd_1522 (h : inv μ) (hl : 0 ≤ l4) (hb : l4 + 7 ≤ (mi_rl X 1010 : Int)) (hu : 988 ≤ u.1 ∧ 6916 ≤ u.2) (hk : rd_k X Q u l4) : mk256_1010_1522 X Q u l4 μ := by
  apply mh256_1010_1522
  obtain ⟨p, q⟩ := st_between h (rx_s (X := X) (l4 + 1)) (rx_s (X := X) (l4 + 2)) (rx_s (X := X) (l4 + 3))
  refine ⟨rd_b hl hb 1, rd_b hl hb 2, rd_b hl hb 3, p, fun v0 μ0 h0 => ?_⟩
  obtain ⟨p1, q1⟩ := q v0 μ0 h0
  refine ⟨rd_b hl hb 1, rd_b hl hb 2, rd_b hl hb 3, p1, fun v1 μ1 h1 => ?_⟩
  obtain ⟨e, hi⟩ := q1 v1 μ1 h1
  rw [if_pos (congrArg mi_wr e)]
  exact mh256_1010_1931 (hk μ1 _ hi (by omega) (by omega))
theorem rd_1571 (h : inv μ) (hl : 0 ≤ l4) (hb : l4 + 7 ≤ (mi_rl X 1010 : Int)) (hu : 988 ≤ u.1 ∧ 6916 ≤ u.2) (hk : rd_k X Q u l4) : mk256_1010_1571 X Q u l4 μ := by
  apply mh256_1010_1571
  obtain ⟨p, q⟩ := st_holes h (rx_s (X := X) (l4 + 1))
  refine ⟨rd_b hl hb 1, p, fun v0 μ0 h0 => ?_⟩
  obtain ⟨p1, q1⟩ := q v0 μ0 h0
  refine ⟨rd_b hl hb 1, p1, fun v1 μ1 h1 => ?_⟩
  obtain ⟨e, hi⟩ := q1 v1 μ1 h1
  rw [if_pos (congrArg mi_wr e)]
  exact mh256_1010_1931 (hk μ1 _ hi (by omega) (by omega))
theorem rd_1596 (h : inv μ) (hl : 0 ≤ l4) (hb : l4 + 7 ≤ (mi_rl X 1010 : Int)) (hu : 988 ≤ u.1 ∧ 6916 ≤ u.2) (hk : rd_k X Q u l4) : mk256_1010_1596 X Q u l4 μ := by
  apply mh256_1010_1596
  refine ⟨rd_b hl hb 1, rd_b hl hb 2, rd_b hl hb 3, ⟨by omega, by omega⟩, ⟨inv_A h, rx_s _, rx_s _, rx_s _⟩, fun v0 μ0 h0 => ?_⟩
  have e87 : μ0 87 = μ 87 := by
    rcases h0 with ⟨_, _, hf, _⟩ | ⟨_, _, e⟩
    · exact hf 87 (by decide)
    · rw [e]
  refine ⟨rd_b hl hb 1, rd_b hl hb 2, rd_b hl hb 3, ⟨by rw [e87]; exact h.1.1, rx_s _, rx_s _, rx_s _⟩, fun v1 μ1 h1 => ?_⟩
  obtain ⟨hr, h2, h3⟩ := h1
  rw [e87, ← h.1.2] at h2 h3
  exact st_wr h h0 hr h2 h3 (fun hi => mh256_1010_1931 (hk μ1 _ hi (by show _ ≤ u.1 - 1; omega) (by show _ ≤ u.2 - 6; omega)))
theorem rd_1676 (h : inv μ) (hl : 0 ≤ l4) (hb : l4 + 7 ≤ (mi_rl X 1010 : Int)) (hu : 988 ≤ u.1 ∧ 6916 ≤ u.2) (hk : rd_k X Q u l4) : mk256_1010_1676 X Q u l4 μ := by
  apply mh256_1010_1676
  refine ⟨rd_b hl hb 1, rd_b hl hb 2, ⟨by omega, by omega⟩, ⟨inv_A h, rx_s _, rx_s _⟩, fun v0 μ0 h0 => ?_⟩
  have e87 : μ0 87 = μ 87 := by
    rcases h0 with ⟨_, _, hf, _⟩ | ⟨_, _, e⟩
    · exact hf 87 (by decide)
    · rw [e]
  refine ⟨rd_b hl hb 1, rd_b hl hb 2, ⟨by rw [e87]; exact h.1.1, rx_s _, rx_s _⟩, fun v1 μ1 h1 => ?_⟩
  obtain ⟨hr, h2, h3⟩ := h1
  rw [e87, ← h.1.2] at h2 h3
  exact st_wr h h0 hr h2 h3 (fun hi => mh256_1010_1931 (hk μ1 _ hi (by show _ ≤ u.1 - 1; omega) (by show _ ≤ u.2 - 6; omega)))
theorem rd_1744 (h : inv μ) (hl : 0 ≤ l4) (hb : l4 + 7 ≤ (mi_rl X 1010 : Int)) (hu : 988 ≤ u.1 ∧ 6916 ≤ u.2) (hk : rd_k X Q u l4) : mk256_1010_1744 X Q u l4 μ := by
  apply mh256_1010_1744
  obtain ⟨p, q⟩ := st_row h (rx_s (X := X) (l4 + 1)) (rx_s (X := X) (l4 + 2))
  refine ⟨rd_b hl hb 1, rd_b hl hb 2, p, fun v0 μ0 h0 => ?_⟩
  obtain ⟨p1, q1⟩ := q v0 μ0 h0
  refine ⟨rd_b hl hb 1, rd_b hl hb 2, p1, fun v1 μ1 h1 => ?_⟩
  obtain ⟨e, hi⟩ := q1 v1 μ1 h1
  rw [if_pos (congrArg mi_wr e)]
  exact mh256_1010_1931 (hk μ1 _ hi (by omega) (by omega))
theorem rd_1781 (h : inv μ) (hl : 0 ≤ l4) (hb : l4 + 7 ≤ (mi_rl X 1010 : Int)) (hu : 988 ≤ u.1 ∧ 6916 ≤ u.2) (hk : rd_k X Q u l4) : mk256_1010_1781 X Q u l4 μ := by
  apply mh256_1010_1781
  obtain ⟨p, q⟩ := st_energy h (rx_s (X := X) (l4 + 1))
  refine ⟨rd_b hl hb 1, p, fun v0 μ0 h0 => ?_⟩
  obtain ⟨p1, q1⟩ := q v0 μ0 h0
  refine ⟨rd_b hl hb 1, p1, fun v1 μ1 h1 => ?_⟩
  obtain ⟨e, hi⟩ := q1 v1 μ1 h1
  rw [if_pos (congrArg mi_wr e)]
  exact mh256_1010_1931 (hk μ1 _ hi (by omega) (by omega))
theorem rd_1806 (h : inv μ) (hl : 0 ≤ l4) (hb : l4 + 7 ≤ (mi_rl X 1010 : Int)) (hu : 988 ≤ u.1 ∧ 6916 ≤ u.2) (hk : rd_k X Q u l4) : mk256_1010_1806 X Q u l4 μ := by
  apply mh256_1010_1806
  obtain ⟨p, q⟩ := st_wrong h (rx_s (X := X) (l4 + 1)) (rx_s (X := X) (l4 + 2))
  refine ⟨rd_b hl hb 1, rd_b hl hb 2, p, fun v0 μ0 h0 => ?_⟩
  obtain ⟨p1, q1⟩ := q v0 μ0 h0
  refine ⟨rd_b hl hb 1, rd_b hl hb 2, p1, fun v1 μ1 h1 => ?_⟩
  obtain ⟨e, hi⟩ := q1 v1 μ1 h1
  rw [if_pos (congrArg mi_wr e)]
  exact mh256_1010_1931 (hk μ1 _ hi (by omega) (by omega))
theorem rd_1843 (h : inv μ) (hl : 0 ≤ l4) (hb : l4 + 7 ≤ (mi_rl X 1010 : Int)) (hu : 988 ≤ u.1 ∧ 6916 ≤ u.2) (hk : rd_k X Q u l4) : mk256_1010_1843 X Q u l4 μ := by
  apply mh256_1010_1843
  obtain ⟨p, q⟩ := st_undo h
  refine ⟨p, fun v0 μ0 h0 => ?_⟩
  obtain ⟨p1, q1⟩ := q v0 μ0 h0
  refine ⟨p1, fun v1 μ1 h1 => ?_⟩
  obtain ⟨e, hi⟩ := q1 v1 μ1 h1
  rw [if_pos (congrArg mi_wr e)]
  exact mh256_1010_1931 (hk μ1 _ hi (by omega) (by omega))
theorem rd_1856 (h : inv μ) (hl : 0 ≤ l4) (hb : l4 + 7 ≤ (mi_rl X 1010 : Int)) (hu : 988 ≤ u.1 ∧ 6916 ≤ u.2) (hk : rd_k X Q u l4) : mk256_1010_1856 X Q u l4 μ := by
  apply mh256_1010_1856
  obtain ⟨p, q⟩ := st_image h (rx_s (X := X) (l4 + 1))
  refine ⟨rd_b hl hb 1, p, fun v0 μ0 h0 => ?_⟩
  obtain ⟨p1, q1⟩ := q v0 μ0 h0
  refine ⟨rd_b hl hb 1, p1, fun v1 μ1 h1 => ?_⟩
  obtain ⟨e, hi⟩ := q1 v1 μ1 h1
  rw [if_pos (congrArg mi_wr e)]
  exact mh256_1010_1931 (hk μ1 _ hi (by omega) (by omega))
theorem rd_1881 (h : inv μ) (hl : 0 ≤ l4) (hb : l4 + 7 ≤ (mi_rl X 1010 : Int)) (hu : 988 ≤ u.1 ∧ 6916 ≤ u.2) (hk : rd_k X Q u l4) : mk256_1010_1881 X Q u l4 μ := by
  apply mh256_1010_1881
  obtain ⟨p, q⟩ := st_back h (rx_s (X := X) (l4 + 1))
  refine ⟨rd_b hl hb 1, p, fun v0 μ0 h0 => ?_⟩
  obtain ⟨p1, q1⟩ := q v0 μ0 h0
  refine ⟨rd_b hl hb 1, p1, fun v1 μ1 h1 => ?_⟩
  obtain ⟨e, hi⟩ := q1 v1 μ1 h1
  rw [if_pos (congrArg mi_wr e)]
  exact mh256_1010_1931 (hk μ1 _ hi (by omega) (by omega))
theorem rd_1906 (h : inv μ) (hl : 0 ≤ l4) (hb : l4 + 7 ≤ (mi_rl X 1010 : Int)) (hu : 988 ≤ u.1 ∧ 6916 ≤ u.2) (hk : rd_k X Q u l4) : mk256_1010_1906 X Q u l4 μ := by
  apply mh256_1010_1906
  obtain ⟨p1, p2, e, hi⟩ := st_count h (rx_s (X := X) (l4 + 1))
  refine ⟨rd_b hl hb 1, p1, rd_b hl hb 1, p2, ?_⟩
  rw [if_pos (congrArg mi_wr e)]
  exact mh256_1010_1931 (hk _ _ hi (by omega) (by omega))
theorem rd_all (h : inv μ) (hl : 0 ≤ l4) (hb : l4 + 7 ≤ (mi_rl X 1010 : Int)) (hn : (mi_rl X 1010 : Int) ≤ 3584) (hu : 988 ≤ u.1 ∧ 6916 ≤ u.2) (hk : rd_k X Q u l4) : mk256_1010_23 X Q u l4 μ := by
  apply mh256_1010_23
  rw [if_neg (by rw [mi_wr_id (by omega) (by omega), mi_wr_id (by omega) (by omega)]; omega)]
  exact ⟨⟨hl, by omega⟩, (mi_dt (fun _ => rd_204 h hl hb hu hk) (fun _ => (mi_dt (fun _ => rd_277 h hl hb hu hk) (fun _ => (mi_dt (fun _ => rd_302 h hl hb hu hk) (fun _ => (mi_dt (fun _ => rd_339 h hl hb hu hk) (fun _ => (mi_dt (fun _ => rd_400 h hl hb hu hk) (fun _ => (mi_dt (fun _ => rd_437 h hl hb hu hk) (fun _ => (mi_dt (fun _ => rd_524 h hl hb hu hk) (fun _ => (mi_dt (fun _ => rd_537 h hl hb hu hk) (fun _ => (mi_dt (fun _ => rd_550 h hl hb hu hk) (fun _ => (mi_dt (fun _ => rd_599 h hl hb hu hk) (fun _ => (mi_dt (fun _ => rd_679 h hl hb hu hk) (fun _ => (mi_dt (fun _ => rd_759 h hl hb hu hk) (fun _ => (mi_dt (fun _ => rd_839 h hl hb hu hk) (fun _ => (mi_dt (fun _ => rd_864 h hl hb hu hk) (fun _ => (mi_dt (fun _ => rd_913 h hl hb hu hk) (fun _ => (mi_dt (fun _ => rd_974 h hl hb hu hk) (fun _ => (mi_dt (fun _ => rd_1023 h hl hb hu hk) (fun _ => (mi_dt (fun _ => rd_1103 h hl hb hu hk) (fun _ => (mi_dt (fun _ => rd_1171 h hl hb hu hk) (fun _ => (mi_dt (fun _ => rd_1220 h hl hb hu hk) (fun _ => (mi_dt (fun _ => rd_1257 h hl hb hu hk) (fun _ => (mi_dt (fun _ => rd_1306 h hl hb hu hk) (fun _ => (mi_dt (fun _ => rd_1343 h hl hb hu hk) (fun _ => (mi_dt (fun _ => rd_1392 h hl hb hu hk) (fun _ => (mi_dt (fun _ => rd_1460 h hl hb hu hk) (fun _ => (mi_dt (fun _ => rd_1485 h hl hb hu hk) (fun _ => (mi_dt (fun _ => rd_1522 h hl hb hu hk) (fun _ => (mi_dt (fun _ => rd_1571 h hl hb hu hk) (fun _ => (mi_dt (fun _ => rd_1596 h hl hb hu hk) (fun _ => (mi_dt (fun _ => rd_1676 h hl hb hu hk) (fun _ => (mi_dt (fun _ => rd_1744 h hl hb hu hk) (fun _ => (mi_dt (fun _ => rd_1781 h hl hb hu hk) (fun _ => (mi_dt (fun _ => rd_1806 h hl hb hu hk) (fun _ => (mi_dt (fun _ => rd_1843 h hl hb hu hk) (fun _ => (mi_dt (fun _ => rd_1856 h hl hb hu hk) (fun _ => (mi_dt (fun _ => rd_1881 h hl hb hu hk) (fun _ => (mi_dt (fun _ => rd_1906 h hl hb hu hk) (fun _ => (mh256_1010_1931 (hk μ _ h (by omega) (by omega)))))))))))))))))))))))))))))))))))))))))))))))))))))))))))))))))))))))))))))⟩
theorem law_loop (hQ : ∀ ν, Q (.inl (some (.inl 1))) mi_G0 ν) (hn : (mi_rl X 1010 : Int) ≤ 3584) : ∀ (n : Nat) (l4 : Int) (μ : mi_M) (u : mi_U), inv μ → 0 ≤ l4 → l4 ≤ (mi_rl X 1010 : Int) → (mi_rl X 1010 : Int) - l4 < 7 * (n + 1) → 988 * n ≤ u.1 → 6916 * n ≤ u.2 → mk256_1010_23 X Q u l4 μ
  | n, l4, μ, u, h, hl, hm, hd, h1, h2 => by
    by_cases c : (mi_rl X 1010 : Int) - 7 < l4
    · apply mh256_1010_23
      rw [if_pos (by rw [mi_wr_id (by omega) (by omega), mi_wr_id (by omega) (by omega)]; exact c)]
      exact hQ _
    · match n, hd, h1, h2 with
      | 0, hd, _, _ => omega
      | n + 1, hd, h1, h2 =>
        exact rd_all h hl (by omega) hn ⟨by omega, by omega⟩ (fun ν w hi w1 w2 => law_loop hQ hn n (l4 + 7) ν w hi (by omega) (by omega) (by omega) (by omega) (by omega))
end
