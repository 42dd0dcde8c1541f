/-! PRINTED by wip/whole/gen/mka44.py: each question keeps what holds -/
section
variable {μ : mi_M}
theorem st_truth {a0 a1 a2 : Int} (h : inv μ) (r0 : mx_R a0) (r1 : mx_R a1) (r2 : mx_R a2) : mp105r a0 a1 a2 μ ∧ ∀ v0 μ0, mq105r a0 a1 a2 μ v0 μ0 → mp181r a0 a1 a2 μ0 ∧ ∀ v1 μ1, mq181r a0 a1 a2 μ0 v1 μ1 → v0 = v1 ∧ inv μ1 := by
  refine ⟨⟨inv_L h, r0, r1, r2⟩, fun v0 μ0 ⟨hc, e⟩ => ?_⟩
  have e87 : μ0 87 = μ 87 := hc.1 87 (by decide)
  have e86 : μ0 86 = μ 86 := hc.1 86 (by decide)
  have e89 : μ0 89 = μ 89 := hc.1 89 (by decide)
  refine ⟨⟨by rw [e87]; exact h.1.1, lyr_fr (by rw [e86]) e89 h.2.2.1.1, r0, r1, r2⟩, fun v1 μ1 ⟨hr, e1⟩ => ⟨?_, inv_ask h (fr_lm hc.1 rfl) hc.2 hr⟩⟩
  rw [e, e1, e87, h.1.2, e86, e89]
theorem st_codes {a0 : Int} (h : inv μ) (r0 : mx_R a0) : mp109_0 a0 μ ∧ ∀ v0 μ0, mq109_0 a0 μ v0 μ0 → mp190_86 a0 μ0 ∧ ∀ v1 μ1, mq190_86 a0 μ0 v1 μ1 → v0 = v1 ∧ inv μ1 := by
  refine ⟨⟨inv_A h, r0⟩, fun v0 μ0 ⟨hc, e⟩ => ?_⟩
  have e87 : μ0 87 = μ 87 := hc.1 87 (by decide)
  refine ⟨⟨by rw [e87]; exact h.1.1, r0⟩, fun v1 μ1 ⟨hr, e1⟩ => ⟨?_, inv_ask h (fr_lm hc.1 rfl) hc.2 hr⟩⟩
  rw [e, e1, e87, h.1.2]
theorem st_cost {a0 a1 a2 : Int} (h : inv μ) (r0 : mx_R a0) (r1 : mx_R a1) (r2 : mx_R a2) : mp110_0 a0 a1 a2 μ ∧ ∀ v0 μ0, mq110_0 a0 a1 a2 μ v0 μ0 → mp194_86 a0 a1 a2 μ0 ∧ ∀ v1 μ1, mq194_86 a0 a1 a2 μ0 v1 μ1 → v0 = v1 ∧ inv μ1 := by
  refine ⟨⟨inv_A h, r0, r1, r2⟩, fun v0 μ0 ⟨hc, e⟩ => ?_⟩
  have e87 : μ0 87 = μ 87 := hc.1 87 (by decide)
  refine ⟨⟨by rw [e87]; exact h.1.1, r0, r1, r2⟩, fun v1 μ1 ⟨hr, e1⟩ => ⟨?_, inv_ask h (fr_lm hc.1 rfl) hc.2 hr⟩⟩
  rw [e, e1, e87, h.1.2]
theorem st_path {a0 a1 a2 a3 : Int} (h : inv μ) (r0 : mx_R a0) (r1 : mx_R a1) (r2 : mx_R a2) (r3 : mx_R a3) : mp111_0 a0 a1 a2 a3 μ ∧ ∀ v0 μ0, mq111_0 a0 a1 a2 a3 μ v0 μ0 → mp202_86 a0 a1 a2 a3 μ0 ∧ ∀ v1 μ1, mq202_86 a0 a1 a2 a3 μ0 v1 μ1 → v0 = v1 ∧ inv μ1 := by
  refine ⟨⟨inv_A h, r0, r1, r2, r3⟩, fun v0 μ0 ⟨hc, e⟩ => ?_⟩
  have e87 : μ0 87 = μ 87 := hc.1 87 (by decide)
  refine ⟨⟨by rw [e87]; exact h.1.1, r0, r1, r2, r3⟩, fun v1 μ1 ⟨hr, e1⟩ => ⟨?_, inv_ask h (fr_lm hc.1 rfl) hc.2 hr⟩⟩
  rw [e, e1, e87, h.1.2]
theorem st_sum {a0 a1 a2 : Int} (h : inv μ) (r0 : mx_R a0) (r1 : mx_R a1) (r2 : mx_R a2) : mp112_0 a0 a1 a2 μ ∧ ∀ v0 μ0, mq112_0 a0 a1 a2 μ v0 μ0 → mp203_86 a0 a1 a2 μ0 ∧ ∀ v1 μ1, mq203_86 a0 a1 a2 μ0 v1 μ1 → v0 = v1 ∧ inv μ1 := by
  refine ⟨⟨inv_A h, r0, r1, r2⟩, fun v0 μ0 ⟨hc, e⟩ => ?_⟩
  have e87 : μ0 87 = μ 87 := hc.1 87 (by decide)
  refine ⟨⟨by rw [e87]; exact h.1.1, r0, r1, r2⟩, fun v1 μ1 ⟨hr, e1⟩ => ⟨?_, inv_ask h (fr_lm hc.1 rfl) hc.2 hr⟩⟩
  rw [e, e1, e87, h.1.2]
theorem st_kind {a0 a1 a2 : Int} (h : inv μ) (r0 : mx_R a0) (r1 : mx_R a1) (r2 : mx_R a2) : mp115_0 a0 a1 a2 μ ∧ ∀ v0 μ0, mq115_0 a0 a1 a2 μ v0 μ0 → mp217_86 a0 a1 a2 μ0 ∧ ∀ v1 μ1, mq217_86 a0 a1 a2 μ0 v1 μ1 → v0 = v1 ∧ inv μ1 := by
  refine ⟨⟨inv_A h, r0, r1, r2⟩, fun v0 μ0 ⟨hc, e⟩ => ?_⟩
  have e87 : μ0 87 = μ 87 := hc.1 87 (by decide)
  refine ⟨⟨by rw [e87]; exact h.1.1, r0, r1, r2⟩, fun v1 μ1 ⟨hr, e1⟩ => ⟨?_, inv_ask h (fr_lm hc.1 rfl) hc.2 hr⟩⟩
  rw [e, e1, e87, h.1.2]
theorem st_kinds {a0 a1 : Int} (h : inv μ) (r0 : mx_R a0) (r1 : mx_R a1) : mp116_0 a0 a1 μ ∧ ∀ v0 μ0, mq116_0 a0 a1 μ v0 μ0 → mp218_86 a0 a1 μ0 ∧ ∀ v1 μ1, mq218_86 a0 a1 μ0 v1 μ1 → v0 = v1 ∧ inv μ1 := by
  refine ⟨⟨inv_A h, r0, r1⟩, fun v0 μ0 ⟨hc, e⟩ => ?_⟩
  have e87 : μ0 87 = μ 87 := hc.1 87 (by decide)
  refine ⟨⟨by rw [e87]; exact h.1.1, r0, r1⟩, fun v1 μ1 ⟨hr, e1⟩ => ⟨?_, inv_ask h (fr_lm hc.1 rfl) hc.2 hr⟩⟩
  rw [e, e1, e87, h.1.2]
theorem st_piece {a0 a1 a2 : Int} (h : inv μ) (r0 : mx_R a0) (r1 : mx_R a1) (r2 : mx_R a2) : mp117_0 a0 a1 a2 μ ∧ ∀ v0 μ0, mq117_0 a0 a1 a2 μ v0 μ0 → mp219_86 a0 a1 a2 μ0 ∧ ∀ v1 μ1, mq219_86 a0 a1 a2 μ0 v1 μ1 → v0 = v1 ∧ inv μ1 := by
  refine ⟨⟨inv_A h, r0, r1, r2⟩, fun v0 μ0 ⟨hc, e⟩ => ?_⟩
  have e87 : μ0 87 = μ 87 := hc.1 87 (by decide)
  refine ⟨⟨by rw [e87]; exact h.1.1, r0, r1, r2⟩, fun v1 μ1 ⟨hr, e1⟩ => ⟨?_, inv_ask h (fr_lm hc.1 rfl) hc.2 hr⟩⟩
  rw [e, e1, e87, h.1.2]
theorem st_pieces {a0 a1 : Int} (h : inv μ) (r0 : mx_R a0) (r1 : mx_R a1) : mp118_0 a0 a1 μ ∧ ∀ v0 μ0, mq118_0 a0 a1 μ v0 μ0 → mp221_86 a0 a1 μ0 ∧ ∀ v1 μ1, mq221_86 a0 a1 μ0 v1 μ1 → v0 = v1 ∧ inv μ1 := by
  refine ⟨⟨inv_A h, r0, r1⟩, fun v0 μ0 ⟨hc, e⟩ => ?_⟩
  have e87 : μ0 87 = μ 87 := hc.1 87 (by decide)
  refine ⟨⟨by rw [e87]; exact h.1.1, r0, r1⟩, fun v1 μ1 ⟨hr, e1⟩ => ⟨?_, inv_ask h (fr_lm hc.1 rfl) hc.2 hr⟩⟩
  rw [e, e1, e87, h.1.2]
theorem st_pieceAt {a0 a1 a2 : Int} (h : inv μ) (r0 : mx_R a0) (r1 : mx_R a1) (r2 : mx_R a2) : mp119_0 a0 a1 a2 μ ∧ ∀ v0 μ0, mq119_0 a0 a1 a2 μ v0 μ0 → mp224_86 a0 a1 a2 μ0 ∧ ∀ v1 μ1, mq224_86 a0 a1 a2 μ0 v1 μ1 → v0 = v1 ∧ inv μ1 := by
  refine ⟨⟨inv_A h, r0, r1, r2⟩, fun v0 μ0 ⟨hc, e⟩ => ?_⟩
  have e87 : μ0 87 = μ 87 := hc.1 87 (by decide)
  refine ⟨⟨by rw [e87]; exact h.1.1, r0, r1, r2⟩, fun v1 μ1 ⟨hr, e1⟩ => ⟨?_, inv_ask h (fr_lm hc.1 rfl) hc.2 hr⟩⟩
  rw [e, e1, e87, h.1.2]
theorem st_ground {a0 : Int} (h : inv μ) (r0 : mx_R a0) : mp121_0 a0 μ ∧ ∀ v0 μ0, mq121_0 a0 μ v0 μ0 → mp234_86 a0 μ0 ∧ ∀ v1 μ1, mq234_86 a0 μ0 v1 μ1 → v0 = v1 ∧ inv μ1 := by
  refine ⟨⟨inv_A h, r0⟩, fun v0 μ0 ⟨hc, e⟩ => ?_⟩
  have e87 : μ0 87 = μ 87 := hc.1 87 (by decide)
  refine ⟨⟨by rw [e87]; exact h.1.1, r0⟩, fun v1 μ1 ⟨hr, e1⟩ => ⟨?_, inv_ask h (fr_lm hc.1 rfl) hc.2 hr⟩⟩
  rw [e, e1, e87, h.1.2]
theorem st_votes {a0 a1 : Int} (h : inv μ) (r0 : mx_R a0) (r1 : mx_R a1) : mp122_0 a0 a1 μ ∧ ∀ v0 μ0, mq122_0 a0 a1 μ v0 μ0 → mp233_86 a0 a1 μ0 ∧ ∀ v1 μ1, mq233_86 a0 a1 μ0 v1 μ1 → v0 = v1 ∧ inv μ1 := by
  refine ⟨⟨inv_A h, r0, r1⟩, fun v0 μ0 ⟨hc, e⟩ => ?_⟩
  have e87 : μ0 87 = μ 87 := hc.1 87 (by decide)
  refine ⟨⟨by rw [e87]; exact h.1.1, r0, r1⟩, fun v1 μ1 ⟨hr, e1⟩ => ⟨?_, inv_ask h (fr_lm hc.1 rfl) hc.2 hr⟩⟩
  rw [e, e1, e87, h.1.2]
theorem st_between {a0 a1 a2 : Int} (h : inv μ) (r0 : mx_R a0) (r1 : mx_R a1) (r2 : mx_R a2) : mp123_0 a0 a1 a2 μ ∧ ∀ v0 μ0, mq123_0 a0 a1 a2 μ v0 μ0 → mp237_86 a0 a1 a2 μ0 ∧ ∀ v1 μ1, mq237_86 a0 a1 a2 μ0 v1 μ1 → v0 = v1 ∧ inv μ1 := by
  refine ⟨⟨inv_A h, r0, r1, r2⟩, fun v0 μ0 ⟨hc, e⟩ => ?_⟩
  have e87 : μ0 87 = μ 87 := hc.1 87 (by decide)
  refine ⟨⟨by rw [e87]; exact h.1.1, r0, r1, r2⟩, fun v1 μ1 ⟨hr, e1⟩ => ⟨?_, inv_ask h (fr_lm hc.1 rfl) hc.2 hr⟩⟩
  rw [e, e1, e87, h.1.2]
theorem st_holes {a0 : Int} (h : inv μ) (r0 : mx_R a0) : mp124_0 a0 μ ∧ ∀ v0 μ0, mq124_0 a0 μ v0 μ0 → mp238_86 a0 μ0 ∧ ∀ v1 μ1, mq238_86 a0 μ0 v1 μ1 → v0 = v1 ∧ inv μ1 := by
  refine ⟨⟨inv_A h, r0⟩, fun v0 μ0 ⟨hc, e⟩ => ?_⟩
  have e87 : μ0 87 = μ 87 := hc.1 87 (by decide)
  refine ⟨⟨by rw [e87]; exact h.1.1, r0⟩, fun v1 μ1 ⟨hr, e1⟩ => ⟨?_, inv_ask h (fr_lm hc.1 rfl) hc.2 hr⟩⟩
  rw [e, e1, e87, h.1.2]
theorem st_row {a0 a1 : Int} (h : inv μ) (r0 : mx_R a0) (r1 : mx_R a1) : mp127_0 a0 a1 μ ∧ ∀ v0 μ0, mq127_0 a0 a1 μ v0 μ0 → mp241_86 a0 a1 μ0 ∧ ∀ v1 μ1, mq241_86 a0 a1 μ0 v1 μ1 → v0 = v1 ∧ inv μ1 := by
  refine ⟨⟨inv_A h, r0, r1⟩, fun v0 μ0 ⟨hc, e⟩ => ?_⟩
  have e87 : μ0 87 = μ 87 := hc.1 87 (by decide)
  refine ⟨⟨by rw [e87]; exact h.1.1, r0, r1⟩, fun v1 μ1 ⟨hr, e1⟩ => ⟨?_, inv_ask h (fr_lm hc.1 rfl) hc.2 hr⟩⟩
  rw [e, e1, e87, h.1.2]
theorem st_energy {a0 : Int} (h : inv μ) (r0 : mx_R a0) : mp128_0 a0 μ ∧ ∀ v0 μ0, mq128_0 a0 μ v0 μ0 → mp243_86 a0 μ0 ∧ ∀ v1 μ1, mq243_86 a0 μ0 v1 μ1 → v0 = v1 ∧ inv μ1 := by
  refine ⟨⟨inv_A h, r0⟩, fun v0 μ0 ⟨hc, e⟩ => ?_⟩
  have e87 : μ0 87 = μ 87 := hc.1 87 (by decide)
  refine ⟨⟨by rw [e87]; exact h.1.1, r0⟩, fun v1 μ1 ⟨hr, e1⟩ => ⟨?_, inv_ask h (fr_lm hc.1 rfl) hc.2 hr⟩⟩
  rw [e, e1, e87, h.1.2]
theorem st_wrong {a0 a1 : Int} (h : inv μ) (r0 : mx_R a0) (r1 : mx_R a1) : mp129_0 a0 a1 μ ∧ ∀ v0 μ0, mq129_0 a0 a1 μ v0 μ0 → mp244_86 a0 a1 μ0 ∧ ∀ v1 μ1, mq244_86 a0 a1 μ0 v1 μ1 → v0 = v1 ∧ inv μ1 := by
  refine ⟨⟨inv_L h, r0, r1⟩, fun v0 μ0 ⟨hc, e⟩ => ?_⟩
  have e87 : μ0 87 = μ 87 := hc.1 87 (by decide)
  have e86 : μ0 86 = μ 86 := hc.1 86 (by decide)
  have e89 : μ0 89 = μ 89 := hc.1 89 (by decide)
  refine ⟨⟨by rw [e87]; exact h.1.1, lyr_fr (by rw [e86]) e89 h.2.2.1.1, r0, r1⟩, fun v1 μ1 ⟨hr, e1⟩ => ⟨?_, inv_ask h (fr_lm hc.1 rfl) hc.2 hr⟩⟩
  rw [e, e1, e87, h.1.2, e86, e89]
theorem cm_0 (z : Int) : mi_wr (mi_cmpl z z) = 0 := by
  have e : mi_cmpl z z = 0 := by
    unfold mi_cmpl
    rw [(lg_cmp_eq _ _).mpr rfl]; rfl
  rw [e]; rfl
/-- asked under a catch, by both -/
theorem st_wr {P A B : Prop} {z v0 v1 : Int} {μ0 μ1 : mi_M} (h : inv μ) (hw : wq P z μ v0 μ0) (hr : rq μ0 μ1) (ht : P → μ1 86 0 = 0 ∧ v1 = z) (hn : ¬ P → μ1 86 0 = 1) (ha : inv μ1 → A) : if mi_wr (mv143_86 μ1) = mi_wr v0 then (if mi_wr v0 = 0 then (if mi_wr (mi_cmpl (μ1 103 0) (mi_wr v1)) = 0 then A else B) else A) else B := by
  rcases hw with ⟨p, rfl, hf, hci, h103⟩ | ⟨p, rfl, rfl⟩
  · obtain ⟨t1, rfl⟩ := ht p
    have e103 : μ1 103 0 = mi_wr v1 := by rw [hr.1 103 (by decide)]; exact h103
    rw [if_pos (show mi_wr (mv143_86 μ1) = mi_wr 0 by unfold mv143_86; rw [t1]), if_pos w_00, e103, if_pos (cm_0 _)]
    exact ha (inv_ask h hf hci hr)
  · have t1 := hn p
    rw [if_pos (show mi_wr (mv143_86 μ1) = mi_wr 1 by unfold mv143_86; rw [t1]), if_neg w_10]
    exact ha (inv_ask h (fr_lr _ _) h.2.1 hr)
end
