/-! PRINTED by wip/whole/gen/mka38.py: asked under a catch -/
abbrev CT : List Nat := [0, 66, 67, 68, 69, 70, 72, 73, 74, 75, 76, 77, 78, 79, 80, 82, 83, 85, 103]
section
variable {X : mi_X} {Q : mi_R → mi_G → mi_M → Prop} {u : mi_U} {μ : mi_M}
theorem ci_fr {L : List Nat} {ν : mi_M} (hf : fr_l L μ ν) (hs : L.all (fun q => !([0, 1, 2, 3, 66, 67, 68, 69, 70, 72, 73, 74, 77, 78, 79].contains q)) = true) (h : ci μ) : ci ν := by
  have kk : ∀ q, [0, 1, 2, 3, 66, 67, 68, 69, 70, 72, 73, 74, 77, 78, 79].contains q = true → q ∉ L := fun q hq hm => by
    have := List.all_eq_true.mp hs q hm
    rw [hq] at this; exact absurd this (by decide)
  have k2 : ∀ A : List Nat, A.all (fun q => [0, 1, 2, 3, 66, 67, 68, 69, 70, 72, 73, 74, 77, 78, 79].contains q) = true → L.all (fun q => !(A.contains q)) = true := fun A hA => by
    refine List.all_eq_true.mpr (fun q hq => ?_)
    cases hc : A.contains q with
    | false => rfl
    | true => exact absurd hq (kk q (List.all_eq_true.mp hA q (List.contains_iff_mem.mp hc)))
  obtain ⟨a, b, c, d⟩ := h
  unfold ci
  rw [hf 0 (kk 0 rfl), hf 66 (kk 66 rfl)]
  exact ⟨a, tw_fr hf (k2 _ rfl) b, c, cvu_fr hf (k2 _ rfl) (fun _ => ⟨kk 67 rfl, kk 68 rfl⟩) (fun _ => kk 69 rfl) (fun _ => kk 72 rfl) (fun _ => ⟨kk 73 rfl, kk 77 rfl, kk 78 rfl, kk 79 rfl⟩) (fun _ => kk 74 rfl) d⟩
/-- an answer under a catch -/
def wq (P : Prop) (z : Int) (μ : mi_M) (r : Int) (ν : mi_M) : Prop := (P ∧ r = 0 ∧ fr_l CT μ ν ∧ ci ν ∧ ν 103 0 = mi_wr z) ∨ (¬ P ∧ r = 1 ∧ ν = μ)
theorem wq_t {P : Prop} {z : Int} {ν : mi_M} (h : P) (hc : cq μ ν) : wq P z μ 0 (mi_set ν 103 0 (mi_wr z)) :=
  Or.inl ⟨h, rfl, fr_ls (fr_lm hc.1 rfl) (by decide) _ _, ci_fr (L := [103]) (fr_ls (fr_lr _ _) (by decide) _ _) rfl hc.2, by rw [ms_same, if_pos rfl]⟩
def mp248_0_103 (a0 a1 a2 : Int) (μ : mi_M) : Prop := mp106_0 a0 a1 a2 μ
def mq248_0_103 (a0 a1 a2 : Int) (μ : mi_M) (r : Int) (ν : mi_M) : Prop := wq (sc_at (sc_m μ) a0 a1 a2) (sp_val (sc_m μ) a0 a1 a2) μ r ν
theorem mc248_0_103 {a0 a1 a2 : Int} (hp : mp248_0_103 a0 a1 a2 μ) (hq : ∀ r ν, mq248_0_103 a0 a1 a2 μ r ν → Q (.inl (some (.inl r))) mi_G0 ν) : mi_cok X 248 [(.inr (.inl (some 0))), (.inl a0), (.inl a1), (.inl a2), (.inr (.inl (some 103)))] mi_G0 μ (1, 6) Q := by
  obtain ⟨⟨hm, hci⟩, r0, r1, r2⟩ := id hp
  apply me248_0_103
  refine ⟨⟨Nat.le_refl _, Nat.le_refl _⟩, hp, ?_⟩
  by_cases c : sc_at (sc_m μ) a0 a1 a2
  · rw [mx_atT hm c, if_neg w_10]
    rintro r ν ⟨hc, rfl⟩
    exact hq _ _ (wq_t c hc)
  · rw [mx_atF hm r0 r1 r2 c, if_pos w_00]
    exact hq _ _ (Or.inr ⟨c, rfl, rfl⟩)
def mp249_0_103 (a0 a1 a2 : Int) (μ : mi_M) : Prop := mp107_0 a0 a1 a2 μ
def mq249_0_103 (a0 a1 a2 : Int) (μ : mi_M) (r : Int) (ν : mi_M) : Prop := wq (sc_at (sc_m μ) a0 a1 a2) (sp_code (sc_m μ) a0 a1 a2) μ r ν
theorem mc249_0_103 {a0 a1 a2 : Int} (hp : mp249_0_103 a0 a1 a2 μ) (hq : ∀ r ν, mq249_0_103 a0 a1 a2 μ r ν → Q (.inl (some (.inl r))) mi_G0 ν) : mi_cok X 249 [(.inr (.inl (some 0))), (.inl a0), (.inl a1), (.inl a2), (.inr (.inl (some 103)))] mi_G0 μ (1, 6) Q := by
  obtain ⟨⟨hm, hci⟩, r0, r1, r2⟩ := id hp
  apply me249_0_103
  refine ⟨⟨Nat.le_refl _, Nat.le_refl _⟩, hp, ?_⟩
  by_cases c : sc_at (sc_m μ) a0 a1 a2
  · rw [mx_atT hm c, if_neg w_10]
    rintro r ν ⟨hc, rfl⟩
    exact hq _ _ (wq_t c hc)
  · rw [mx_atF hm r0 r1 r2 c, if_pos w_00]
    exact hq _ _ (Or.inr ⟨c, rfl, rfl⟩)
def mp250_0_103 (a0 a1 a2 : Int) (μ : mi_M) : Prop := mp108_0 a0 a1 a2 μ
def mq250_0_103 (a0 a1 a2 : Int) (μ : mi_M) (r : Int) (ν : mi_M) : Prop := wq (sc_at (sc_m μ) a0 a1 a2) (sq_same (sc_m μ) a0 a1 a2) μ r ν
theorem mc250_0_103 {a0 a1 a2 : Int} (hp : mp250_0_103 a0 a1 a2 μ) (hq : ∀ r ν, mq250_0_103 a0 a1 a2 μ r ν → Q (.inl (some (.inl r))) mi_G0 ν) : mi_cok X 250 [(.inr (.inl (some 0))), (.inl a0), (.inl a1), (.inl a2), (.inr (.inl (some 103)))] mi_G0 μ (1, 6) Q := by
  obtain ⟨⟨hm, hci⟩, r0, r1, r2⟩ := id hp
  apply me250_0_103
  refine ⟨⟨Nat.le_refl _, Nat.le_refl _⟩, hp, ?_⟩
  by_cases c : sc_at (sc_m μ) a0 a1 a2
  · rw [mx_atT hm c, if_neg w_10]
    rintro r ν ⟨hc, rfl⟩
    exact hq _ _ (wq_t c hc)
  · rw [mx_atF hm r0 r1 r2 c, if_pos w_00]
    exact hq _ _ (Or.inr ⟨c, rfl, rfl⟩)
def mp251_0_103 (a0 a1 a2 : Int) (μ : mi_M) : Prop := mp113_0 a0 a1 a2 μ
def mq251_0_103 (a0 a1 a2 : Int) (μ : mi_M) (r : Int) (ν : mi_M) : Prop := wq (sc_at (sc_m μ) a0 a1 a2) (sp_sh (sc_m μ) a0 a1 a2) μ r ν
theorem mc251_0_103 {a0 a1 a2 : Int} (hp : mp251_0_103 a0 a1 a2 μ) (hq : ∀ r ν, mq251_0_103 a0 a1 a2 μ r ν → Q (.inl (some (.inl r))) mi_G0 ν) : mi_cok X 251 [(.inr (.inl (some 0))), (.inl a0), (.inl a1), (.inl a2), (.inr (.inl (some 103)))] mi_G0 μ (1, 6) Q := by
  obtain ⟨⟨hm, hci⟩, r0, r1, r2⟩ := id hp
  apply me251_0_103
  refine ⟨⟨Nat.le_refl _, Nat.le_refl _⟩, hp, ?_⟩
  by_cases c : sc_at (sc_m μ) a0 a1 a2
  · rw [mx_atT hm c, if_neg w_10]
    rintro r ν ⟨hc, rfl⟩
    exact hq _ _ (wq_t c hc)
  · rw [mx_atF hm r0 r1 r2 c, if_pos w_00]
    exact hq _ _ (Or.inr ⟨c, rfl, rfl⟩)
def mp252_0_103 (a0 a1 : Int) (μ : mi_M) : Prop := mp114_0 a0 a1 μ
def mq252_0_103 (a0 a1 : Int) (μ : mi_M) (r : Int) (ν : mi_M) : Prop := wq (sc_at (sc_m μ) 0 a0 a1) (sp_mg (sc_m μ) a0 a1) μ r ν
theorem mc252_0_103 {a0 a1 : Int} (hp : mp252_0_103 a0 a1 μ) (hq : ∀ r ν, mq252_0_103 a0 a1 μ r ν → Q (.inl (some (.inl r))) mi_G0 ν) : mi_cok X 252 [(.inr (.inl (some 0))), (.inl a0), (.inl a1), (.inr (.inl (some 103)))] mi_G0 μ (1, 6) Q := by
  obtain ⟨⟨hm, hci⟩, r0, r1⟩ := id hp
  apply me252_0_103
  refine ⟨⟨Nat.le_refl _, Nat.le_refl _⟩, hp, ?_⟩
  by_cases c : sc_at (sc_m μ) 0 a0 a1
  · rw [mx_atT hm c, if_neg w_10]
    rintro r ν ⟨hc, rfl⟩
    exact hq _ _ (wq_t c hc)
  · rw [mx_atF hm (show mx_R 0 by unfold mx_R; omega) r0 r1 c, if_pos w_00]
    exact hq _ _ (Or.inr ⟨c, rfl, rfl⟩)
def mp253_0_103 (a0 a1 : Int) (μ : mi_M) : Prop := mp120_0 a0 a1 μ
def mq253_0_103 (a0 a1 : Int) (μ : mi_M) (r : Int) (ν : mi_M) : Prop := wq (sc_at (sc_m μ) 0 a0 a1) (sp_fine (sc_m μ) a0 a1) μ r ν
theorem mc253_0_103 {a0 a1 : Int} (hp : mp253_0_103 a0 a1 μ) (hq : ∀ r ν, mq253_0_103 a0 a1 μ r ν → Q (.inl (some (.inl r))) mi_G0 ν) : mi_cok X 253 [(.inr (.inl (some 0))), (.inl a0), (.inl a1), (.inr (.inl (some 103)))] mi_G0 μ (1, 6) Q := by
  obtain ⟨⟨hm, hci⟩, r0, r1⟩ := id hp
  apply me253_0_103
  refine ⟨⟨Nat.le_refl _, Nat.le_refl _⟩, hp, ?_⟩
  by_cases c : sc_at (sc_m μ) 0 a0 a1
  · rw [mx_atT hm c, if_neg w_10]
    rintro r ν ⟨hc, rfl⟩
    exact hq _ _ (wq_t c hc)
  · rw [mx_atF hm (show mx_R 0 by unfold mx_R; omega) r0 r1 c, if_pos w_00]
    exact hq _ _ (Or.inr ⟨c, rfl, rfl⟩)
def mp254_0_103 (a0 a1 a2 : Int) (μ : mi_M) : Prop := mp125_0 a0 a1 a2 μ
def mq254_0_103 (a0 a1 a2 : Int) (μ : mi_M) (r : Int) (ν : mi_M) : Prop := wq (sc_at (sc_m μ) a0 a1 a2) (sp_fill (sc_m μ) a0 a1 a2) μ r ν
theorem mc254_0_103 {a0 a1 a2 : Int} (hp : mp254_0_103 a0 a1 a2 μ) (hq : ∀ r ν, mq254_0_103 a0 a1 a2 μ r ν → Q (.inl (some (.inl r))) mi_G0 ν) : mi_cok X 254 [(.inr (.inl (some 0))), (.inl a0), (.inl a1), (.inl a2), (.inr (.inl (some 103)))] mi_G0 μ (1, 6) Q := by
  obtain ⟨⟨hm, hci⟩, r0, r1, r2⟩ := id hp
  apply me254_0_103
  refine ⟨⟨Nat.le_refl _, Nat.le_refl _⟩, hp, ?_⟩
  by_cases c : sc_at (sc_m μ) a0 a1 a2
  · rw [mx_atT hm c, if_neg w_10]
    rintro r ν ⟨hc, rfl⟩
    exact hq _ _ (wq_t c hc)
  · rw [mx_atF hm r0 r1 r2 c, if_pos w_00]
    exact hq _ _ (Or.inr ⟨c, rfl, rfl⟩)
def mp255_0_103 (a0 a1 : Int) (μ : mi_M) : Prop := mp126_0 a0 a1 μ
def mq255_0_103 (a0 a1 : Int) (μ : mi_M) (r : Int) (ν : mi_M) : Prop := wq (sc_at (sc_m μ) 0 a0 a1) (sq_depth (sc_m μ) a0 a1) μ r ν
theorem mc255_0_103 {a0 a1 : Int} (hp : mp255_0_103 a0 a1 μ) (hq : ∀ r ν, mq255_0_103 a0 a1 μ r ν → Q (.inl (some (.inl r))) mi_G0 ν) : mi_cok X 255 [(.inr (.inl (some 0))), (.inl a0), (.inl a1), (.inr (.inl (some 103)))] mi_G0 μ (1, 6) Q := by
  obtain ⟨⟨hm, hci⟩, r0, r1⟩ := id hp
  apply me255_0_103
  refine ⟨⟨Nat.le_refl _, Nat.le_refl _⟩, hp, ?_⟩
  by_cases c : sc_at (sc_m μ) 0 a0 a1
  · rw [mx_atT hm c, if_neg w_10]
    rintro r ν ⟨hc, rfl⟩
    exact hq _ _ (wq_t c hc)
  · rw [mx_atF hm (show mx_R 0 by unfold mx_R; omega) r0 r1 c, if_pos w_00]
    exact hq _ _ (Or.inr ⟨c, rfl, rfl⟩)
end
