/-! PRINTED by wip/whole/gen/mka01.py: what the reference answers when it is asked -/
abbrev RS : List Nat := [86, 92, 93, 94, 95, 96, 97, 98, 99, 100, 101]
def rq (μ ν : mi_M) : Prop := fr_l RS μ ν ∧ ∀ j, j ≠ 0 → ν 86 j = μ 86 j
theorem rq_0 (μ : mi_M) (t : Int) : rq μ (mi_set μ 86 0 t) := ⟨fr_ls (fr_lr _ _) (by decide) _ _, fun j hj => by rw [ms_same, if_neg hj]⟩
theorem th_0 (μ : mi_M) (t : Int) : mi_set μ 86 0 t 86 0 = t := by rw [ms_same, if_pos rfl]
theorem th_87 (μ : mi_M) (t : Int) : mi_set μ 86 0 t 87 = μ 87 := ms_other μ (by decide) _ _
theorem rq_of {L : List Nat} {μ ν : mi_M} {t : Int} (h : fr_l L (mi_set μ 86 0 t) ν) (h1 : L.all (fun q => RS.contains q) = true) (h2 : L.all (fun q => !([86, 87, 89].contains q)) = true) : rq μ ν ∧ ν 86 0 = t ∧ ν 87 = μ 87 ∧ ν 89 = μ 89 := by
  have k : ∀ q, [86, 87, 89].contains q = true → ν q = mi_set μ 86 0 t q := fun q hq => h q (fun hm => by
    have := List.all_eq_true.mp h2 q hm
    rw [hq] at this; exact absurd this (by decide))
  refine ⟨⟨fr_lt (rq_0 μ t).1 (fr_lm h h1), fun j hj => ?_⟩, ?_, ?_, ?_⟩
  · rw [k 86 rfl, ms_same, if_neg hj]
  · rw [k 86 rfl]; exact th_0 μ t
  · rw [k 87 rfl]; exact th_87 μ t
  · rw [k 89 rfl]; exact ms_other μ (by decide) _ _
section
variable {X : mi_X} {Q : mi_R → mi_G → mi_M → Prop} {u : mi_U} {μ : mi_M}
theorem th_at {v x y : Int} {t : Int} : mv151_86 v x y (mi_set μ 86 0 t) = mv151_86 v x y μ := by unfold mv151_86 mv150_86 mv144; rw [th_87]
theorem th_pl {x y : Int} {t : Int} : mv150_86 x y (mi_set μ 86 0 t) = mv150_86 x y μ := by unfold mv150_86 mv144; rw [th_87]
theorem th_sh {x y d : Int} {t : Int} : mv193_86 x y d (mi_set μ 86 0 t) = mv193_86 x y d μ := by unfold mv193_86 mv150_86 mv144; rw [th_87]
theorem th_in {a b c : Int} {σ : mi_M} : mv144 a b c σ = mv144 a b c μ := rfl

def mp182r (a0 a1 a2 : Int) (μ : mi_M) : Prop := sc_ok (μ 87) ∧ mx_R a0 ∧ mx_R a1 ∧ mx_R a2
def mq182r (a0 a1 a2 : Int) (μ : mi_M) (r : Int) (ν : mi_M) : Prop := rq μ ν ∧ (sc_at (μ 87) a0 a1 a2 → ν 86 0 = 0 ∧ r = sp_val (μ 87) a0 a1 a2) ∧ (¬ sc_at (μ 87) a0 a1 a2 → ν 86 0 = 1)
theorem mc182r {a0 a1 a2 : Int} (hp : mp182r a0 a1 a2 μ) (hq : ∀ r ν, mq182r a0 a1 a2 μ r ν → Q (.inl (some (.inl r))) mi_G0 ν) : mi_cok X 182 [(.inr (.inl (some 86))), (.inl a0), (.inl a1), (.inl a2)] mi_G0 μ u Q := by
  obtain ⟨hm, r0, r1, r2⟩ := hp
  obtain ⟨⟨w1, w2⟩, ⟨g1, g2⟩, ⟨f1, f2⟩, -⟩ := id hm
  by_cases c : sc_at (μ 87) a0 a1 a2
  · obtain ⟨⟨v1, v2⟩, x1, x2, y1, y2⟩ := id c
    obtain ⟨q1, q2⟩ := sc_valR (μ := mi_set μ 86 0 0) (v := a0) (x := a1) (y := a2) v1 v2 x1 (by omega) y1 (by omega)
    rw [th_87] at q2
    refine mc182_86 ?_ ?_
    · unfold mp182_86; rw [mx_atTR hm c, if_neg w_10]; exact q1
    · unfold mv182_86 mm182_86; rw [mx_atTR hm c, if_neg w_10, if_neg w_10, q2]
      exact hq _ _ ⟨rq_0 μ 0, fun _ => ⟨th_0 μ 0, rfl⟩, fun h => absurd c h⟩
  · refine mc182_86 ?_ ?_
    · unfold mp182_86; rw [mx_atFR hm r0 r1 r2 c, if_pos w_00]; trivial
    · unfold mv182_86 mm182_86; rw [mx_atFR hm r0 r1 r2 c, if_pos w_00, if_pos w_00]
      exact hq _ _ ⟨rq_0 μ 1, fun h => absurd h c, fun _ => th_0 μ 1⟩
def mp187_86 (a0 a1 a2 : Int) (μ : mi_M) : Prop := sc_ok (μ 87) ∧ mx_R a0 ∧ mx_R a1 ∧ mx_R a2
def mq187_86 (a0 a1 a2 : Int) (μ : mi_M) (r : Int) (ν : mi_M) : Prop := rq μ ν ∧ (sc_at (μ 87) a0 a1 a2 → ν 86 0 = 0 ∧ r = sp_code (μ 87) a0 a1 a2) ∧ (¬ sc_at (μ 87) a0 a1 a2 → ν 86 0 = 1)
theorem mc187_86 {a0 a1 a2 : Int} (hp : mp187_86 a0 a1 a2 μ) (hq : ∀ r ν, mq187_86 a0 a1 a2 μ r ν → Q (.inl (some (.inl r))) mi_G0 ν) : mi_cok X 187 [(.inr (.inl (some 86))), (.inl a0), (.inl a1), (.inl a2)] mi_G0 μ u Q := by
  obtain ⟨hm, r0, r1, r2⟩ := hp
  obtain ⟨⟨w1, w2⟩, ⟨g1, g2⟩, ⟨f1, f2⟩, -⟩ := id hm
  apply me187_86
  by_cases c : sc_at (μ 87) a0 a1 a2
  · rw [mx_atTR hm c, if_neg w_10]
    obtain ⟨⟨v1, v2⟩, x1, x2, y1, y2⟩ := id c
    refine ⟨⟨by rw [th_87]; exact hm, v1, v2, x1, by rw [th_87]; exact x2, y1, by rw [th_87]; exact y2⟩, hq _ _ ⟨rq_0 μ 0, fun _ => ⟨th_0 μ 0, ?_⟩, fun h => absurd c h⟩⟩
    unfold mv184_86; rw [th_87]
  · rw [mx_atFR hm r0 r1 r2 c, if_pos w_00]
    exact hq _ _ ⟨rq_0 μ 1, fun h => absurd h c, fun _ => th_0 μ 1⟩
def mp188_86 (a0 a1 a2 : Int) (μ : mi_M) : Prop := sc_ok (μ 87) ∧ mx_R a0 ∧ mx_R a1 ∧ mx_R a2
def mq188_86 (a0 a1 a2 : Int) (μ : mi_M) (r : Int) (ν : mi_M) : Prop := rq μ ν ∧ (sc_at (μ 87) a0 a1 a2 → ν 86 0 = 0 ∧ r = sq_same (μ 87) a0 a1 a2) ∧ (¬ sc_at (μ 87) a0 a1 a2 → ν 86 0 = 1)
theorem mc188_86 {a0 a1 a2 : Int} (hp : mp188_86 a0 a1 a2 μ) (hq : ∀ r ν, mq188_86 a0 a1 a2 μ r ν → Q (.inl (some (.inl r))) mi_G0 ν) : mi_cok X 188 [(.inr (.inl (some 86))), (.inl a0), (.inl a1), (.inl a2)] mi_G0 μ u Q := by
  obtain ⟨hm, r0, r1, r2⟩ := hp
  obtain ⟨⟨w1, w2⟩, ⟨g1, g2⟩, ⟨f1, f2⟩, -⟩ := id hm
  apply me188_86
  by_cases c : sc_at (μ 87) a0 a1 a2
  · rw [mx_atTR hm c, if_neg w_10]
    obtain ⟨⟨v1, v2⟩, x1, x2, y1, y2⟩ := id c
    refine ⟨show sc_ok (mi_set μ 86 0 0 87) by rw [th_87]; exact hm, fun ν ⟨hf, hc⟩ => ?_⟩
    rw [th_87] at hc
    obtain ⟨hrq, ht, e87, e89⟩ := rq_of (fr_l1 hf) rfl rfl
    have b := sp_code_b hm a0 a1 a2
    rw [mx_spotR, hc a0 a1 a2 v1 v2 x1 x2 y1 y2]
    refine ⟨by omega, ?_⟩
    refine qp_2 (A := fun y acc => mk188_86_51 X Q u (sp_code (μ 87) a0 a1 a2) acc y ν) (B := fun y x acc => mk188_86_65 X Q u (sp_code (μ 87) a0 a1 a2) acc y x ν) (I := fun y x acc => acc = sm2a (fun i j => (if sp_code (μ 87) 0 i j = sp_code (μ 87) a0 a1 a2 then 1 else 0) + (if sp_code (μ 87) 1 i j = sp_code (μ 87) a0 a1 a2 then 1 else 0)) (μ 87 0) y x) (w := μ 87 0) (h := μ 87 1) (by omega) (by omega) ?_ ?_ ?_ ?_ sm2_0.symm
    · rintro acc rfl
      apply mh188_86_51
      rw [e87, if_neg (Int.lt_irrefl _), sm2_e]
      exact hq _ _ ⟨hrq, fun _ => ⟨ht, rfl⟩, fun h => absurd c h⟩
    · rintro y acc hy hy' hi k
      apply mh188_86_51
      rw [e87, mi_wr_id (by omega) (by omega), mi_wr_id (by omega) (by omega), if_pos (by omega)]
      exact k acc hi
    · rintro y x acc hy hy' hx hx' rfl k
      have b0 := sp_code_b hm 0 x y
      have b1 := sp_code_b hm 1 x y
      apply mh188_86_65
      simp only [mx_spotR]
      rw [e87, mi_wr_id (z := x) (by omega) (by omega), mi_wr_id (z := μ 87 0) (by omega) (by omega), if_pos hx', hc 0 x y (by decide) (by decide) hx hx' hy hy', hc 1 x y (by decide) (by decide) hx hx' hy hy', mi_wr_id (z := sp_code (μ 87) 0 x y) (by omega) (by omega), mi_wr_id (z := sp_code (μ 87) 1 x y) (by omega) (by omega), mi_wr_id (z := sp_code (μ 87) a0 a1 a2) (by omega) (by omega)]
      refine ⟨by omega, ?_⟩
      by_cases d1 : sp_code (μ 87) 0 x y = sp_code (μ 87) a0 a1 a2
      · rw [if_pos d1]
        refine ⟨by omega, k _ ?_⟩
        rw [sm2_x hx, if_pos d1]
        split <;> omega
      · rw [if_neg d1]
        refine ⟨by omega, k _ ?_⟩
        rw [sm2_x hx, if_neg d1]
        split <;> omega
    · rintro y acc hy hy' rfl k
      apply mh188_86_65
      rw [e87, if_neg (Int.lt_irrefl _)]
      exact k _ (sm2_y hy).symm
  · rw [mx_atFR hm r0 r1 r2 c, if_pos w_00]
    exact hq _ _ ⟨rq_0 μ 1, fun h => absurd h c, fun _ => th_0 μ 1⟩
def mp215_86 (a0 a1 a2 : Int) (μ : mi_M) : Prop := sc_ok (μ 87) ∧ mx_R a0 ∧ mx_R a1 ∧ mx_R a2
def mq215_86 (a0 a1 a2 : Int) (μ : mi_M) (r : Int) (ν : mi_M) : Prop := rq μ ν ∧ (sc_at (μ 87) a0 a1 a2 → ν 86 0 = 0 ∧ r = sp_sh (μ 87) a0 a1 a2) ∧ (¬ sc_at (μ 87) a0 a1 a2 → ν 86 0 = 1)
theorem mc215_86 {a0 a1 a2 : Int} (hp : mp215_86 a0 a1 a2 μ) (hq : ∀ r ν, mq215_86 a0 a1 a2 μ r ν → Q (.inl (some (.inl r))) mi_G0 ν) : mi_cok X 215 [(.inr (.inl (some 86))), (.inl a0), (.inl a1), (.inl a2)] mi_G0 μ u Q := by
  obtain ⟨hm, r0, r1, r2⟩ := hp
  obtain ⟨⟨w1, w2⟩, ⟨g1, g2⟩, ⟨f1, f2⟩, -⟩ := id hm
  apply me215_86
  by_cases c : sc_at (μ 87) a0 a1 a2
  · rw [mx_atTR hm c, if_neg w_10]
    obtain ⟨⟨v1, v2⟩, x1, x2, y1, y2⟩ := id c
    refine ⟨show sc_ok (mi_set μ 86 0 0 87) by rw [th_87]; exact hm, fun ν ⟨hf, hc, hs, hh⟩ => ?_⟩
    rw [th_87] at hc hs hh
    obtain ⟨hrq, ht, e87, e89⟩ := rq_of hf rfl rfl
    rw [mx_spotR, hh a0 a1 a2 v1 v2 x1 x2 y1 y2]
    exact ⟨by omega, hq _ _ ⟨hrq, fun _ => ⟨ht, rfl⟩, fun h => absurd c h⟩⟩
  · rw [mx_atFR hm r0 r1 r2 c, if_pos w_00]
    exact hq _ _ ⟨rq_0 μ 1, fun h => absurd h c, fun _ => th_0 μ 1⟩
def mp229_86 (a0 a1 a2 : Int) (μ : mi_M) : Prop := sc_ok (μ 87) ∧ mx_R a0 ∧ mx_R a1 ∧ mx_R a2
def mq229_86 (a0 a1 a2 : Int) (μ : mi_M) (r : Int) (ν : mi_M) : Prop := rq μ ν ∧ (sc_at (μ 87) a0 a1 a2 → ν 86 0 = 0 ∧ r = sp_fill (μ 87) a0 a1 a2) ∧ (¬ sc_at (μ 87) a0 a1 a2 → ν 86 0 = 1)
theorem mc229_86 {a0 a1 a2 : Int} (hp : mp229_86 a0 a1 a2 μ) (hq : ∀ r ν, mq229_86 a0 a1 a2 μ r ν → Q (.inl (some (.inl r))) mi_G0 ν) : mi_cok X 229 [(.inr (.inl (some 86))), (.inl a0), (.inl a1), (.inl a2)] mi_G0 μ u Q := by
  obtain ⟨hm, r0, r1, r2⟩ := hp
  obtain ⟨⟨w1, w2⟩, ⟨g1, g2⟩, ⟨f1, f2⟩, -⟩ := id hm
  apply me229_86
  by_cases c : sc_at (μ 87) a0 a1 a2
  · rw [mx_atTR hm c, if_neg w_10]
    obtain ⟨⟨v1, v2⟩, x1, x2, y1, y2⟩ := id c
    refine ⟨show sc_ok (mi_set μ 86 0 0 87) by rw [th_87]; exact hm, fun ν ⟨hf, hc⟩ => ?_⟩
    rw [th_87] at hc
    obtain ⟨hrq, ht, e87, e89⟩ := rq_of hf rfl rfl
    rw [mx_spotR, hc.2 a0 a1 a2 v1 v2 x1 x2 y1 y2]
    exact ⟨by omega, hq _ _ ⟨hrq, fun _ => ⟨ht, rfl⟩, fun h => absurd c h⟩⟩
  · rw [mx_atFR hm r0 r1 r2 c, if_pos w_00]
    exact hq _ _ ⟨rq_0 μ 1, fun h => absurd h c, fun _ => th_0 μ 1⟩
def mp230_86 (a0 a1 : Int) (μ : mi_M) : Prop := sc_ok (μ 87) ∧ mx_R a0 ∧ mx_R a1
def mq230_86 (a0 a1 : Int) (μ : mi_M) (r : Int) (ν : mi_M) : Prop := rq μ ν ∧ (sc_at (μ 87) 0 a0 a1 → ν 86 0 = 0 ∧ r = sq_depth (μ 87) a0 a1) ∧ (¬ sc_at (μ 87) 0 a0 a1 → ν 86 0 = 1)
theorem mc230_86 {a0 a1 : Int} (hp : mp230_86 a0 a1 μ) (hq : ∀ r ν, mq230_86 a0 a1 μ r ν → Q (.inl (some (.inl r))) mi_G0 ν) : mi_cok X 230 [(.inr (.inl (some 86))), (.inl a0), (.inl a1)] mi_G0 μ u Q := by
  obtain ⟨hm, r0, r1⟩ := hp
  obtain ⟨⟨w1, w2⟩, ⟨g1, g2⟩, ⟨f1, f2⟩, -⟩ := id hm
  apply me230_86
  by_cases c : sc_at (μ 87) 0 a0 a1
  · rw [mx_placeT hm c.2, if_neg w_10]
    obtain ⟨⟨v1, v2⟩, x1, x2, y1, y2⟩ := id c
    refine ⟨show sc_ok (mi_set μ 86 0 0 87) by rw [th_87]; exact hm, fun ν ⟨hf, hc⟩ => ?_⟩
    rw [th_87] at hc
    obtain ⟨hrq, ht, e87, e89⟩ := rq_of hf rfl rfl
    have fb := sp_fill_b hm (v := 0) (x := a0) (y := a1) x2
    rw [mx_spotR, hc.2 0 a0 a1 v1 v2 x1 x2 y1 y2, e87, mi_wr_id (by omega) (by omega)]
    refine ⟨by omega, ?_⟩
    by_cases c0 : sp_fill (μ 87) 0 a0 a1 = 0
    · rw [if_pos c0]
      exact hq _ _ ⟨hrq, fun _ => ⟨ht, by unfold sq_depth; rw [if_pos c0]⟩, fun h => absurd c h⟩
    · rw [if_neg c0]
      exact ⟨c0, hq _ _ ⟨hrq, fun _ => ⟨ht, by unfold sq_depth; rw [if_neg c0]⟩, fun h => absurd c h⟩⟩
  · rw [mx_placeF hm r0 r1 (fun h => c (at_0.mpr h)), if_pos w_00]
    exact hq _ _ ⟨rq_0 μ 1, fun h => absurd h c, fun _ => th_0 μ 1⟩
def mp231_86 (a0 a1 : Int) (μ : mi_M) : Prop := sc_ok (μ 87) ∧ mx_R a0 ∧ mx_R a1
def mq231_86 (a0 a1 : Int) (μ : mi_M) (r : Int) (ν : mi_M) : Prop := rq μ ν ∧ (sc_at (μ 87) 0 a0 a1 → ν 86 0 = 0 ∧ r = sp_fine (μ 87) a0 a1) ∧ (¬ sc_at (μ 87) 0 a0 a1 → ν 86 0 = 1)
theorem mc231_86 {a0 a1 : Int} (hp : mp231_86 a0 a1 μ) (hq : ∀ r ν, mq231_86 a0 a1 μ r ν → Q (.inl (some (.inl r))) mi_G0 ν) : mi_cok X 231 [(.inr (.inl (some 86))), (.inl a0), (.inl a1)] mi_G0 μ u Q := by
  obtain ⟨hm, r0, r1⟩ := hp
  obtain ⟨⟨w1, w2⟩, ⟨g1, g2⟩, ⟨f1, f2⟩, -⟩ := id hm
  apply me231_86
  by_cases c : sc_at (μ 87) 0 a0 a1
  · rw [mx_placeT hm c.2, if_neg w_10]
    obtain ⟨⟨v1, v2⟩, x1, x2, y1, y2⟩ := id c
    refine ⟨show sc_ok (mi_set μ 86 0 0 87) by rw [th_87]; exact hm, fun ν ⟨hf, hc, hs⟩ => ?_⟩
    rw [th_87] at hc hs
    obtain ⟨hrq, ht, e87, e89⟩ := rq_of hf rfl rfl
    have sb := sp_sl_b hm a0 a1
    have ev : mv204_86 a0 a1 ν = sp_sl (μ 87) a0 a1 := by unfold mv204_86; rw [e87]
    simp only [mx_cellR]
    rw [ev, e87, mi_wr_id (z := sp_sl (μ 87) a0 a1) (by omega) (by omega), mi_wr_id (z := μ 87 2) (by omega) (by omega)]
    refine ⟨⟨by rw [e87]; exact hm, by rw [e87]; exact c.2, by rw [e87]; exact hs⟩, ?_⟩
    by_cases c1 : sp_sl (μ 87) a0 a1 = 0
    · rw [if_pos c1]
      exact hq _ _ ⟨hrq, fun _ => ⟨ht, by unfold sp_fine; rw [if_pos (show sp_sl (μ 87) a0 a1 < 1 ∨ ¬ sp_sl (μ 87) a0 a1 < μ 87 2 by omega)]⟩, fun h => absurd c h⟩
    · rw [if_neg c1]
      by_cases c2 : sp_sl (μ 87) a0 a1 = μ 87 2
      · rw [if_pos c2]
        exact hq _ _ ⟨hrq, fun _ => ⟨ht, by unfold sp_fine; rw [if_pos (show sp_sl (μ 87) a0 a1 < 1 ∨ ¬ sp_sl (μ 87) a0 a1 < μ 87 2 by omega)]⟩, fun h => absurd c h⟩
      · have b1 := sp_sum_b hm (x := a0) (y := a1) (d := sp_sl (μ 87) a0 a1 - 1) (by omega) (by omega)
        have b2 := sp_sum_b hm (x := a0) (y := a1) (d := sp_sl (μ 87) a0 a1) (by omega) (by omega)
        have b3 := sp_sum_b hm (x := a0) (y := a1) (d := sp_sl (μ 87) a0 a1 + 1) (by omega) (by omega)
        rw [if_neg c2, hs a0 a1 (sp_sl (μ 87) a0 a1 - 1) x1 x2 y1 y2 (by omega) (by omega), hs a0 a1 (sp_sl (μ 87) a0 a1) x1 x2 y1 y2 (by omega) (by omega), hs a0 a1 (sp_sl (μ 87) a0 a1 + 1) x1 x2 y1 y2 (by omega) (by omega), mi_wr_id (by omega) (by omega), mx_fd]
        have ef : sp_fine (μ 87) a0 a1 = 16 * sp_sl (μ 87) a0 a1 + (if 0 < sp_sum (μ 87) a0 a1 (sp_sl (μ 87) a0 a1 - 1) + sp_sum (μ 87) a0 a1 (sp_sl (μ 87) a0 a1 + 1) - 2 * sp_sum (μ 87) a0 a1 (sp_sl (μ 87) a0 a1) then fd_v (8 * (sp_sum (μ 87) a0 a1 (sp_sl (μ 87) a0 a1 - 1) - sp_sum (μ 87) a0 a1 (sp_sl (μ 87) a0 a1 + 1))) (sp_sum (μ 87) a0 a1 (sp_sl (μ 87) a0 a1 - 1) + sp_sum (μ 87) a0 a1 (sp_sl (μ 87) a0 a1 + 1) - 2 * sp_sum (μ 87) a0 a1 (sp_sl (μ 87) a0 a1)) else 0) := by
          unfold sp_fine; rw [if_neg (show ¬ (sp_sl (μ 87) a0 a1 < 1 ∨ ¬ sp_sl (μ 87) a0 a1 < μ 87 2) by omega)]
        refine ⟨by omega, by omega, by omega, ?_⟩
        by_cases c3 : 0 < sp_sum (μ 87) a0 a1 (sp_sl (μ 87) a0 a1 - 1) + sp_sum (μ 87) a0 a1 (sp_sl (μ 87) a0 a1 + 1) - 2 * sp_sum (μ 87) a0 a1 (sp_sl (μ 87) a0 a1)
        · rw [if_pos c3] at ef ⊢
          exact ⟨by unfold mp259; rw [mi_wr_id (by omega) (by omega)]; omega, hq _ _ ⟨hrq, fun _ => ⟨ht, ef.symm⟩, fun h => absurd c h⟩⟩
        · rw [if_neg c3] at ef ⊢
          exact hq _ _ ⟨hrq, fun _ => ⟨ht, ef.symm⟩, fun h => absurd c h⟩
  · rw [mx_placeF hm r0 r1 (fun h => c (at_0.mpr h)), if_pos w_00]
    exact hq _ _ ⟨rq_0 μ 1, fun h => absurd h c, fun _ => th_0 μ 1⟩
def mp216_86 (a0 a1 : Int) (μ : mi_M) : Prop := sc_ok (μ 87) ∧ mx_R a0 ∧ mx_R a1
def mq216_86 (a0 a1 : Int) (μ : mi_M) (r : Int) (ν : mi_M) : Prop := rq μ ν ∧ (sc_at (μ 87) 0 a0 a1 → ν 86 0 = 0 ∧ r = sp_mg (μ 87) a0 a1) ∧ (¬ sc_at (μ 87) 0 a0 a1 → ν 86 0 = 1)
theorem mc216_86 {a0 a1 : Int} (hp : mp216_86 a0 a1 μ) (hq : ∀ r ν, mq216_86 a0 a1 μ r ν → Q (.inl (some (.inl r))) mi_G0 ν) : mi_cok X 216 [(.inr (.inl (some 86))), (.inl a0), (.inl a1)] mi_G0 μ u Q := by
  obtain ⟨hm, r0, r1⟩ := hp
  obtain ⟨⟨w1, w2⟩, ⟨g1, g2⟩, ⟨f1, f2⟩, -⟩ := id hm
  apply me216_86
  by_cases c : sc_at (μ 87) 0 a0 a1
  · rw [mx_placeT hm c.2, if_neg w_10]
    obtain ⟨⟨v1, v2⟩, x1, x2, y1, y2⟩ := id c
    refine ⟨show sc_ok (mi_set μ 86 0 0 87) by rw [th_87]; exact hm, fun ν ⟨hf, hc, hs⟩ => ?_⟩
    rw [th_87] at hc hs
    obtain ⟨hrq, ht, e87, e89⟩ := rq_of hf rfl rfl
    have sb := sp_sl_b hm a0 a1
    have ev : mv204_86 a0 a1 ν = sp_sl (μ 87) a0 a1 := by unfold mv204_86; rw [e87]
    have w8 : mi_wr 100000000 = 100000000 := by decide
    rw [ev]
    refine ⟨⟨by rw [e87]; exact hm, by rw [e87]; exact c.2, by rw [e87]; exact hs⟩, ?_⟩
    refine qp_u (A := fun d l => mk216_86_45 X Q u a0 a1 (sp_sl (μ 87) a0 a1) l d ν) (fun d l => l = lg_v (fun d => sp_sum (μ 87) a0 a1 d) (sp_sl (μ 87) a0 a1) d.toNat) (a := 0) (n := μ 87 2 + 1) (by omega) ?_ ?_ rfl
    · rintro l hl
      have lb := lg_b (f := fun d => sp_sum (μ 87) a0 a1 d) (s := sp_sl (μ 87) a0 a1) (a := 0) (b := 736) (by decide) (μ 87 2 + 1).toNat (fun e h1 h2 => sp_sum_b hm h1 (by omega))
      rw [← hl] at lb
      apply mh216_86_45
      simp only [mx_cellR]
      rw [e87, mi_wr_id (z := μ 87 2) (by omega) (by omega), mi_wr_id (z := μ 87 2 + 1) (by omega) (by omega), if_pos (by omega), w8, mi_wr_id (z := l) (by omega) (by omega), hs a0 a1 _ x1 x2 y1 y2 sb.1 (by omega)]
      have em : sp_mg (μ 87) a0 a1 = if l = 100000000 then -1 else l - sp_sum (μ 87) a0 a1 (sp_sl (μ 87) a0 a1) := by unfold sp_mg; rw [← hl]
      by_cases c0 : l = 100000000
      · rw [if_pos c0] at em ⊢
        exact hq _ _ ⟨hrq, fun _ => ⟨ht, em.symm⟩, fun h => absurd c h⟩
      · rw [if_neg c0] at em ⊢
        exact ⟨by omega, hq _ _ ⟨hrq, fun _ => ⟨ht, em.symm⟩, fun h => absurd c h⟩⟩
    · rintro d l hd hd' hl k
      have lb := lg_b (f := fun d => sp_sum (μ 87) a0 a1 d) (s := sp_sl (μ 87) a0 a1) (a := 0) (b := 736) (by decide) d.toNat (fun e h1 h2 => sp_sum_b hm h1 (by omega))
      rw [← hl] at lb
      have b1 := sp_sum_b hm (x := a0) (y := a1) (d := d) hd (by omega)
      have hg := lg_s (f := fun d => sp_sum (μ 87) a0 a1 d) (s := sp_sl (μ 87) a0 a1) hd
      rw [← hl] at hg
      apply mh216_86_45
      simp only [mx_cellR]
      rw [e87, mi_wr_id (z := μ 87 2) (by omega) (by omega), mi_wr_id (z := d) (by omega) (by omega), if_neg (by omega), hs a0 a1 d x1 x2 y1 y2 hd hd', mx_withinM ⟨by omega, by omega⟩ ⟨by decide, by decide⟩ ⟨by decide, by decide⟩, mi_wr_id (z := sp_sum (μ 87) a0 a1 d) (by omega) (by omega), mi_wr_id (z := l) (by omega) (by omega)]
      refine ⟨by omega, k _ ?_⟩
      rw [hg]
      by_cases c1 : -1 ≤ d - sp_sl (μ 87) a0 a1 ∧ d - sp_sl (μ 87) a0 a1 ≤ 1
      · rw [if_pos c1, if_neg w_10, if_neg (fun h => h.1 c1)]
      · rw [if_neg c1, if_pos w_00]
        by_cases c2 : sp_sum (μ 87) a0 a1 d < l
        · rw [if_pos c2, if_pos ⟨c1, c2⟩]
        · rw [if_neg c2, if_neg (fun h => c2 h.2)]
  · rw [mx_placeF hm r0 r1 (fun h => c (at_0.mpr h)), if_pos w_00]
    exact hq _ _ ⟨rq_0 μ 1, fun h => absurd h c, fun _ => th_0 μ 1⟩
def mp190_86 (a0 : Int) (μ : mi_M) : Prop := sc_ok (μ 87) ∧ mx_R a0
def mq190_86 (a0 : Int) (μ : mi_M) (r : Int) (ν : mi_M) : Prop := rq μ ν ∧ r = sq_codes (μ 87) a0
theorem mc190_86 {a0 : Int} (hp : mp190_86 a0 μ) (hq : ∀ r ν, mq190_86 a0 μ r ν → Q (.inl (some (.inl r))) mi_G0 ν) : mi_cok X 190 [(.inr (.inl (some 86))), (.inl a0)] mi_G0 μ u Q := by
  obtain ⟨hm, r0⟩ := hp
  obtain ⟨⟨w1, w2⟩, ⟨g1, g2⟩, ⟨f1, f2⟩, -⟩ := id hm
  apply me190_86
  rw [mx_withinM r0 ⟨by decide, by decide⟩ ⟨by decide, by decide⟩]
  by_cases c : 0 ≤ a0 ∧ a0 ≤ 1
  · rw [if_pos c, if_neg w_10]
    refine ⟨show sc_ok (mi_set μ 86 0 0 87) by rw [th_87]; exact hm, fun ν ⟨hf, hc⟩ => ?_⟩
    rw [th_87] at hc
    obtain ⟨hrq, ht, e87, e89⟩ := rq_of (fr_l1 hf) rfl rfl
    have hR : mp_R ν 92 (μ 87) := fun v x y h1 h2 h3 h4 h5 h6 => by
      rw [hc v x y h1 h2 h3 h4 h5 h6]
      have := sp_code_b hm v x y
      exact ⟨by omega, by omega⟩
    refine qp_2 (A := fun y acc => mk190_86_24 X Q u a0 acc y ν) (B := fun y x acc => mk190_86_37 X Q u a0 acc y x ν) (I := fun y x acc => acc = sm2a (fun px py => sp_new (fun x y => sp_code (μ 87) a0 x y) (μ 87 0) px py) (μ 87 0) y x) (w := μ 87 0) (h := μ 87 1) (by omega) (by omega) ?_ ?_ ?_ ?_ sm2_0.symm
    · rintro acc rfl
      apply mh190_86_24
      rw [e87, if_neg (Int.lt_irrefl _), sm2_e]
      exact hq _ _ ⟨hrq, (iif_t c).symm⟩
    · rintro y acc hy hy' hi k
      apply mh190_86_24
      rw [e87, mi_wr_id (by omega) (by omega), mi_wr_id (by omega) (by omega), if_pos (by omega)]
      exact k acc hi
    · rintro y x acc hy hy' hx hx' rfl k
      have ev : mv189_86 a0 x y ν = sp_new (fun x y => sp_code (μ 87) a0 x y) (μ 87 0) x y := by
        unfold mv189_86; rw [e87]
        exact sp_new_eq hx hx' hy (fun i j i1 i2 i3 i4 => hc a0 i j c.1 c.2 i1 i2 i3 (by omega))
      have hb : sp_new (fun x y => sp_code (μ 87) a0 x y) (μ 87 0) x y = 0 ∨ sp_new (fun x y => sp_code (μ 87) a0 x y) (μ 87 0) x y = 1 := by
        unfold sp_new
        split
        · exact Or.inl rfl
        · exact Or.inr rfl
      apply mh190_86_37
      rw [ev, e87, mi_wr_id (z := x) (by omega) (by omega), mi_wr_id (z := μ 87 0) (by omega) (by omega), if_pos hx']
      refine ⟨⟨by rw [e87]; exact hm, by rw [e87]; exact ⟨c.1, c.2, hx, hx', hy, hy'⟩, by rw [e87]; exact hR⟩, k _ ?_⟩
      rw [sm2_x hx]
      rcases hb with h | h
      · rw [h, if_pos w_00]
      · rw [h, if_neg w_10]
    · rintro y acc hy hy' rfl k
      apply mh190_86_37
      rw [e87, if_neg (Int.lt_irrefl _)]
      exact k _ (sm2_y hy).symm
  · rw [if_neg c, if_pos w_00]
    exact hq _ _ ⟨rq_0 μ 0, (iif_f (c)).symm⟩
def mp194_86 (a0 a1 a2 : Int) (μ : mi_M) : Prop := sc_ok (μ 87) ∧ mx_R a0 ∧ mx_R a1 ∧ mx_R a2
def mq194_86 (a0 a1 a2 : Int) (μ : mi_M) (r : Int) (ν : mi_M) : Prop := rq μ ν ∧ r = sq_cost (μ 87) a0 a1 a2
theorem mc194_86 {a0 a1 a2 : Int} (hp : mp194_86 a0 a1 a2 μ) (hq : ∀ r ν, mq194_86 a0 a1 a2 μ r ν → Q (.inl (some (.inl r))) mi_G0 ν) : mi_cok X 194 [(.inr (.inl (some 86))), (.inl a0), (.inl a1), (.inl a2)] mi_G0 μ u Q := by
  obtain ⟨hm, r0, r1, r2⟩ := hp
  obtain ⟨⟨w1, w2⟩, ⟨g1, g2⟩, ⟨f1, f2⟩, -⟩ := id hm
  apply me194_86
  rw [th_sh]
  by_cases c : sc_in (μ 87) a0 a1 ∧ 0 ≤ a2 ∧ a2 ≤ μ 87 2
  · rw [mx_shTR hm c, if_neg w_10]
    obtain ⟨⟨x1, x2, y1, y2⟩, d1, d2⟩ := id c
    refine ⟨show sc_ok (mi_set μ 86 0 0 87) by rw [th_87]; exact hm, fun ν ⟨hf, hc⟩ => ?_⟩
    rw [th_87] at hc
    obtain ⟨hrq, ht, e87, e89⟩ := rq_of (fr_l1 hf) rfl rfl
    obtain ⟨p1, p2⟩ := mx_costR (μ := ν) (x := a0) (y := a1) (d := a2) (by rw [e87]; exact hm) (by rw [e87]; exact hc) x1 (by rw [e87]; exact x2) y1 (by rw [e87]; exact y2) d1 (by omega)
    rw [e87] at p2
    rw [p2]
    exact ⟨p1, hq _ _ ⟨hrq, (iif_t c).symm⟩⟩
  · rw [mx_shFR hm r0 r1 r2 c, if_pos w_00]
    exact hq _ _ ⟨rq_0 μ 0, (iif_f c).symm⟩
def mp203_86 (a0 a1 a2 : Int) (μ : mi_M) : Prop := sc_ok (μ 87) ∧ mx_R a0 ∧ mx_R a1 ∧ mx_R a2
def mq203_86 (a0 a1 a2 : Int) (μ : mi_M) (r : Int) (ν : mi_M) : Prop := rq μ ν ∧ r = sq_sum (μ 87) a0 a1 a2
theorem mc203_86 {a0 a1 a2 : Int} (hp : mp203_86 a0 a1 a2 μ) (hq : ∀ r ν, mq203_86 a0 a1 a2 μ r ν → Q (.inl (some (.inl r))) mi_G0 ν) : mi_cok X 203 [(.inr (.inl (some 86))), (.inl a0), (.inl a1), (.inl a2)] mi_G0 μ u Q := by
  obtain ⟨hm, r0, r1, r2⟩ := hp
  obtain ⟨⟨w1, w2⟩, ⟨g1, g2⟩, ⟨f1, f2⟩, -⟩ := id hm
  apply me203_86
  rw [th_sh]
  by_cases c : sc_in (μ 87) a0 a1 ∧ 0 ≤ a2 ∧ a2 ≤ μ 87 2
  · rw [mx_shTR hm c, if_neg w_10]
    obtain ⟨⟨x1, x2, y1, y2⟩, d1, d2⟩ := id c
    refine ⟨show sc_ok (mi_set μ 86 0 0 87) by rw [th_87]; exact hm, fun ν ⟨hf, hc, hs⟩ => ?_⟩
    rw [th_87] at hc hs
    obtain ⟨hrq, ht, e87, e89⟩ := rq_of hf rfl rfl
    rw [mx_cellR, hs a0 a1 a2 x1 x2 y1 y2 d1 (by omega)]
    exact ⟨by omega, hq _ _ ⟨hrq, (iif_t c).symm⟩⟩
  · rw [mx_shFR hm r0 r1 r2 c, if_pos w_00]
    exact hq _ _ ⟨rq_0 μ 0, (iif_f c).symm⟩
def mp202_86 (a0 a1 a2 a3 : Int) (μ : mi_M) : Prop := sc_ok (μ 87) ∧ mx_R a0 ∧ mx_R a1 ∧ mx_R a2 ∧ mx_R a3
def mq202_86 (a0 a1 a2 a3 : Int) (μ : mi_M) (r : Int) (ν : mi_M) : Prop := rq μ ν ∧ r = sq_path (μ 87) a0 a1 a2 a3
theorem mc202_86 {a0 a1 a2 a3 : Int} (hp : mp202_86 a0 a1 a2 a3 μ) (hq : ∀ r ν, mq202_86 a0 a1 a2 a3 μ r ν → Q (.inl (some (.inl r))) mi_G0 ν) : mi_cok X 202 [(.inr (.inl (some 86))), (.inl a0), (.inl a1), (.inl a2), (.inl a3)] mi_G0 μ u Q := by
  obtain ⟨hm, r0, r1, r2, r3⟩ := hp
  obtain ⟨⟨w1, w2⟩, ⟨g1, g2⟩, ⟨f1, f2⟩, -⟩ := id hm
  apply me202_86
  rw [th_sh, mx_withinM r0 ⟨by decide, by decide⟩ ⟨by decide, by decide⟩]
  by_cases c0 : 0 ≤ a0 ∧ a0 ≤ 7
  · rw [if_pos c0, if_neg w_10]
    by_cases c : sc_in (μ 87) a1 a2 ∧ 0 ≤ a3 ∧ a3 ≤ μ 87 2
    · rw [mx_shTR hm c, if_neg w_10]
      obtain ⟨⟨x1, x2, y1, y2⟩, d1, d2⟩ := id c
      refine ⟨show sc_ok (mi_set μ 86 0 0 87) by rw [th_87]; exact hm, fun ν ⟨hf, hc⟩ => ?_⟩
      rw [th_87] at hc
      obtain ⟨hrq, ht, e87, e89⟩ := rq_of (fr_l1 hf) rfl rfl
      refine ⟨⟨by rw [e87]; exact hm, by omega, by rw [e87]; exact hc⟩, fun ρ ⟨hf2, hw⟩ => ?_⟩
      rw [e87] at hw
      obtain ⟨hrq2, -, -, -⟩ := rq_of (fr_lt (fr_lm (fr_l1 hf) rfl) (fr_lm (fr_l1 hf2) rfl) : fr_l [92, 93] (mi_set μ 86 0 0) ρ) rfl rfl
      rw [mx_cellR, hw a1 a2 a3 x1 x2 y1 y2 d1 d2]
      exact ⟨by omega, hq _ _ ⟨hrq2, (iif_t ⟨c0, c⟩).symm⟩⟩
    · rw [mx_shFR hm r1 r2 r3 c, if_pos w_00]
      exact hq _ _ ⟨rq_0 μ 0, (iif_f (fun h => c h.2)).symm⟩
  · rw [if_neg c0, if_pos w_00]
    exact hq _ _ ⟨rq_0 μ 0, (iif_f (fun h => c0 h.1)).symm⟩
def mp217_86 (a0 a1 a2 : Int) (μ : mi_M) : Prop := sc_ok (μ 87) ∧ mx_R a0 ∧ mx_R a1 ∧ mx_R a2
def mq217_86 (a0 a1 a2 : Int) (μ : mi_M) (r : Int) (ν : mi_M) : Prop := rq μ ν ∧ r = sq_kind (μ 87) a0 a1 a2
theorem mc217_86 {a0 a1 a2 : Int} (hp : mp217_86 a0 a1 a2 μ) (hq : ∀ r ν, mq217_86 a0 a1 a2 μ r ν → Q (.inl (some (.inl r))) mi_G0 ν) : mi_cok X 217 [(.inr (.inl (some 86))), (.inl a0), (.inl a1), (.inl a2)] mi_G0 μ u Q := by
  obtain ⟨hm, r0, r1, r2⟩ := hp
  obtain ⟨⟨w1, w2⟩, ⟨g1, g2⟩, ⟨f1, f2⟩, -⟩ := id hm
  apply me217_86
  rw [th_at]
  by_cases c : sc_at (μ 87) a0 a1 a2
  · rw [mx_atTR hm c, if_neg w_10]
    obtain ⟨⟨v1, v2⟩, x1, x2, y1, y2⟩ := id c
    refine ⟨show sc_ok (mi_set μ 86 0 0 87) by rw [th_87]; exact hm, fun ν ⟨hf, hc⟩ => ?_⟩
    rw [th_87] at hc
    obtain ⟨hrq, ht, e87, e89⟩ := rq_of hf rfl rfl
    obtain ⟨p1, p2⟩ := mx_now (μ := ν) (v := a0) (x := a1) (y := a2) (by rw [e87]; exact hm) (by rw [e87]; exact hc) v1 v2 (by rw [e87]; exact c.2)
    rw [e87] at p2
    rw [p2]
    exact ⟨p1, hq _ _ ⟨hrq, (iif_t c).symm⟩⟩
  · rw [mx_atFR hm r0 r1 r2 c, if_pos w_00]
    exact hq _ _ ⟨rq_0 μ 0, (iif_f c).symm⟩
def mp219_86 (a0 a1 a2 : Int) (μ : mi_M) : Prop := sc_ok (μ 87) ∧ mx_R a0 ∧ mx_R a1 ∧ mx_R a2
def mq219_86 (a0 a1 a2 : Int) (μ : mi_M) (r : Int) (ν : mi_M) : Prop := rq μ ν ∧ r = sq_piece (μ 87) a0 a1 a2
theorem mc219_86 {a0 a1 a2 : Int} (hp : mp219_86 a0 a1 a2 μ) (hq : ∀ r ν, mq219_86 a0 a1 a2 μ r ν → Q (.inl (some (.inl r))) mi_G0 ν) : mi_cok X 219 [(.inr (.inl (some 86))), (.inl a0), (.inl a1), (.inl a2)] mi_G0 μ u Q := by
  obtain ⟨hm, r0, r1, r2⟩ := hp
  obtain ⟨⟨w1, w2⟩, ⟨g1, g2⟩, ⟨f1, f2⟩, -⟩ := id hm
  apply me219_86
  rw [th_at]
  by_cases c : sc_at (μ 87) a0 a1 a2
  · rw [mx_atTR hm c, if_neg w_10]
    obtain ⟨⟨v1, v2⟩, x1, x2, y1, y2⟩ := id c
    refine ⟨show sc_ok (mi_set μ 86 0 0 87) by rw [th_87]; exact hm, fun ν ⟨hf, hc⟩ => ?_⟩
    rw [th_87] at hc
    obtain ⟨hrq, ht, e87, e89⟩ := rq_of hf rfl rfl
    obtain ⟨p1, p2⟩ := mx_many (μ := ν) (v := a0) (x := a1) (y := a2) (by rw [e87]; exact hm) (by rw [e87]; exact hc) v1 v2 (by rw [e87]; exact c.2)
    rw [e87] at p2
    rw [p2]
    exact ⟨p1, hq _ _ ⟨hrq, (iif_t c).symm⟩⟩
  · rw [mx_atFR hm r0 r1 r2 c, if_pos w_00]
    exact hq _ _ ⟨rq_0 μ 0, (iif_f c).symm⟩
def mp218_86 (a0 a1 : Int) (μ : mi_M) : Prop := sc_ok (μ 87) ∧ mx_R a0 ∧ mx_R a1
def mq218_86 (a0 a1 : Int) (μ : mi_M) (r : Int) (ν : mi_M) : Prop := rq μ ν ∧ r = sq_kinds (μ 87) a0 a1
theorem mc218_86 {a0 a1 : Int} (hp : mp218_86 a0 a1 μ) (hq : ∀ r ν, mq218_86 a0 a1 μ r ν → Q (.inl (some (.inl r))) mi_G0 ν) : mi_cok X 218 [(.inr (.inl (some 86))), (.inl a0), (.inl a1)] mi_G0 μ u Q := by
  obtain ⟨hm, r0, r1⟩ := hp
  obtain ⟨⟨w1, w2⟩, ⟨g1, g2⟩, ⟨f1, f2⟩, -⟩ := id hm
  apply me218_86
  rw [mx_withinM r0 ⟨by decide, by decide⟩ ⟨by decide, by decide⟩, mx_withinM r1 ⟨by decide, by decide⟩ ⟨by decide, by decide⟩]
  by_cases c : 0 ≤ a0 ∧ a0 ≤ 1
  · rw [if_pos c, if_neg w_10]
    by_cases c1 : 0 ≤ a1 ∧ a1 ≤ 2
    · rw [if_pos c1, if_neg w_10]
      refine ⟨show sc_ok (mi_set μ 86 0 0 87) by rw [th_87]; exact hm, fun ν ⟨hf, hc⟩ => ?_⟩
      rw [th_87] at hc
      obtain ⟨hrq, ht, e87, e89⟩ := rq_of hf rfl rfl
      refine qp_2 (A := fun y acc => mk218_86_34 X Q u a0 a1 acc y ν) (B := fun y x acc => mk218_86_48 X Q u a0 a1 acc y x ν) (I := fun y x acc => acc = sm2a (fun x y => if sp_kn (μ 87) a0 x y = a1 then 1 else 0) (μ 87 0) y x) (w := μ 87 0) (h := μ 87 1) (by omega) (by omega) ?_ ?_ ?_ ?_ sm2_0.symm
      · rintro acc rfl
        apply mh218_86_34
        rw [e87, if_neg (Int.lt_irrefl _), sm2_e]
        exact hq _ _ ⟨hrq, (iif_t ⟨c, c1⟩).symm⟩
      · rintro y acc hy hy' hi k
        apply mh218_86_34
        rw [e87, mi_wr_id (by omega) (by omega), mi_wr_id (by omega) (by omega), if_pos (by omega)]
        exact k acc hi
      · rintro y x acc hy hy' hx hx' rfl k
        have hi : sc_in (μ 87) x y := ⟨hx, hx', hy, hy'⟩
        have kb := sp_kn_b (m := μ 87) (v := a0) (x := x) (y := y)
        obtain ⟨p1, p2⟩ := mx_now (μ := ν) (v := a0) (x := x) (y := y) (by rw [e87]; exact hm) (by rw [e87]; exact hc) c.1 c.2 (by rw [e87]; exact hi)
        rw [e87] at p2
        apply mh218_86_48
        rw [p2, e87, mi_wr_id (z := x) (by omega) (by omega), mi_wr_id (z := μ 87 0) (by omega) (by omega), if_pos hx', mi_wr_id (z := sp_kn (μ 87) a0 x y) (by omega) (by omega), mi_wr_id (z := a1) (by omega) (by omega)]
        refine ⟨p1, k _ ?_⟩
        rw [sm2_x hx]
        split <;> omega
      · rintro y acc hy hy' rfl k
        apply mh218_86_48
        rw [e87, if_neg (Int.lt_irrefl _)]
        exact k _ (sm2_y hy).symm
    · rw [if_neg c1, if_pos w_00]
      exact hq _ _ ⟨rq_0 μ 0, (iif_f (fun h => c1 h.2)).symm⟩
  · rw [if_neg c, if_pos w_00]
    exact hq _ _ ⟨rq_0 μ 0, (iif_f (fun h => c h.1)).symm⟩
def mp221_86 (a0 a1 : Int) (μ : mi_M) : Prop := sc_ok (μ 87) ∧ mx_R a0 ∧ mx_R a1
def mq221_86 (a0 a1 : Int) (μ : mi_M) (r : Int) (ν : mi_M) : Prop := rq μ ν ∧ r = sq_pieces (μ 87) a0 a1
theorem mc221_86 {a0 a1 : Int} (hp : mp221_86 a0 a1 μ) (hq : ∀ r ν, mq221_86 a0 a1 μ r ν → Q (.inl (some (.inl r))) mi_G0 ν) : mi_cok X 221 [(.inr (.inl (some 86))), (.inl a0), (.inl a1)] mi_G0 μ u Q := by
  obtain ⟨hm, r0, r1⟩ := hp
  obtain ⟨⟨w1, w2⟩, ⟨g1, g2⟩, ⟨f1, f2⟩, -⟩ := id hm
  apply me221_86
  rw [mx_withinM r0 ⟨by decide, by decide⟩ ⟨by decide, by decide⟩, mx_withinM r1 ⟨by decide, by decide⟩ ⟨by decide, by decide⟩]
  by_cases c : 0 ≤ a0 ∧ a0 ≤ 1
  · rw [if_pos c, if_neg w_10]
    by_cases c1 : 0 ≤ a1 ∧ a1 ≤ 1
    · rw [if_pos c1, if_neg w_10]
      refine ⟨show sc_ok (mi_set μ 86 0 0 87) by rw [th_87]; exact hm, fun ν ⟨hf, hc⟩ => ?_⟩
      rw [th_87] at hc
      obtain ⟨hrq, ht, e87, e89⟩ := rq_of hf rfl rfl
      have hc' : rc4 ν (ν 87) := by rw [e87]; exact hc
      have key := qp_u (σ := Int × Int) (A := fun r s => mk221_86_41 X Q u a0 a1 s.1 s.2 (192 * a0 + r) ν) (fun r s => s.1 = sp_hs (μ 87) a0 r.toNat ∧ s.2 = gm_v (μ 87) a0 r.toNat) (a := 0) (n := 192) (by omega) ?_ ?_ (s := (0, 0)) ⟨rfl, rfl⟩
      · rw [Int.add_zero] at key; exact key
      · rintro ⟨n, g⟩ ⟨h1, h2⟩
        rw [e192] at h1 h2
        dsimp only at h1 h2
        show mk221_86_41 X Q u a0 a1 n g (192 * a0 + 192) ν
        apply mh221_86_41
        rw [mi_wr_id (by omega) (by omega), mi_wr_id (by omega) (by omega), if_neg (by omega), mi_wr_id (z := a1) (by omega) (by omega), h1, h2]
        exact hq _ _ ⟨hrq, (iif_t ⟨c, c1⟩).symm⟩
      · rintro r ⟨n, g⟩ hr hr' ⟨h1, h2⟩ k
        dsimp only at h1 h2
        show mk221_86_41 X Q u a0 a1 n g (192 * a0 + r) ν
        obtain ⟨p1, p2, p3⟩ := mx_kept (μ := ν) (v := a0) (r := r) (by rw [e87]; exact hm) c.1 c.2 hc' hr hr'
        rw [e87] at p2 p3
        have zb := sz_le hm a0 r
        have z0 := sz_0 (m := μ 87) (v := a0) (r := r)
        have e1 := (rp_v hc c.1 c.2).2 r hr hr'
        have gb := gm_b hm (v := a0) r.toNat
        rw [← h2] at gb
        have hgs := gm_s (m := μ 87) (v := a0) hr
        rw [← h2] at hgs
        have hhs := hs_s (m := μ 87) (v := a0) hr
        rw [← h1] at hhs
        have k' : ∀ z t, z = sp_hs (μ 87) a0 (r + 1).toNat → t = gm_v (μ 87) a0 (r + 1).toNat → mk221_86_41 X Q u a0 a1 z t (192 * a0 + r + 1) ν := fun z t hz ht => by
          have := k (z, t) ⟨hz, ht⟩
          rw [← Int.add_assoc] at this; exact this
        apply mh221_86_41
        rw [e1, mi_wr_id (z := 192 * a0 + r) (by omega) (by omega), mi_wr_id (z := 192 * (a0 + 1)) (by omega) (by omega), if_pos (by omega), mi_wr_id (z := g) (by omega) (by omega), mi_wr_id (z := sz (μ 87) a0 r) (by omega) (by omega)]
        refine ⟨p1, ?_⟩
        by_cases hk : sp_keep (μ 87) a0 r
        · rw [p2 hk, if_neg w_10]
          refine ⟨by omega, ?_⟩
          rw [if_pos hk] at hhs
          by_cases c2 : g < sz (μ 87) a0 r
          · rw [if_pos c2]
            rw [if_pos ⟨hk, c2⟩] at hgs
            exact ⟨by omega, k' _ _ hhs.symm hgs.symm⟩
          · rw [if_neg c2]
            rw [if_neg (fun h => c2 h.2)] at hgs
            exact k' _ _ hhs.symm hgs.symm
        · rw [p3 hk, if_pos w_00]
          rw [if_neg hk, Int.add_zero] at hhs
          rw [if_neg (fun h => hk h.1)] at hgs
          exact k' _ _ hhs.symm hgs.symm
    · rw [if_neg c1, if_pos w_00]
      exact hq _ _ ⟨rq_0 μ 0, (iif_f (fun h => c1 h.2)).symm⟩
  · rw [if_neg c, if_pos w_00]
    exact hq _ _ ⟨rq_0 μ 0, (iif_f (fun h => c h.1)).symm⟩
def mp224_86 (a0 a1 a2 : Int) (μ : mi_M) : Prop := sc_ok (μ 87) ∧ mx_R a0 ∧ mx_R a1 ∧ mx_R a2
def mq224_86 (a0 a1 a2 : Int) (μ : mi_M) (r : Int) (ν : mi_M) : Prop := rq μ ν ∧ r = sq_pat (μ 87) a0 a1 a2
theorem mc224_86 {a0 a1 a2 : Int} (hp : mp224_86 a0 a1 a2 μ) (hq : ∀ r ν, mq224_86 a0 a1 a2 μ r ν → Q (.inl (some (.inl r))) mi_G0 ν) : mi_cok X 224 [(.inr (.inl (some 86))), (.inl a0), (.inl a1), (.inl a2)] mi_G0 μ u Q := by
  obtain ⟨hm, r0, r1, r2⟩ := hp
  obtain ⟨⟨w1, w2⟩, ⟨g1, g2⟩, ⟨f1, f2⟩, -⟩ := id hm
  apply me224_86
  rw [mx_withinM r0 ⟨by decide, by decide⟩ ⟨by decide, by decide⟩, mx_withinM r2 ⟨by decide, by decide⟩ ⟨by decide, by decide⟩, mx_wr r1]
  by_cases c : 0 ≤ a0 ∧ a0 ≤ 1
  · rw [if_pos c, if_neg w_10]
    by_cases c1 : a1 < 0
    · rw [if_pos c1]
      exact hq _ _ ⟨rq_0 μ 0, (iif_f (fun h => by have := h.2.1; omega)).symm⟩
    · rw [if_neg c1]
      by_cases c2 : 0 ≤ a2 ∧ a2 ≤ 7
      · rw [if_pos c2, if_neg w_10]
        refine ⟨show sc_ok (mi_set μ 86 0 0 87) by rw [th_87]; exact hm, fun ν ⟨hf, hc⟩ => ?_⟩
        rw [th_87] at hc
        obtain ⟨hrq, ht, e87, e89⟩ := rq_of hf rfl rfl
        have hc' : rc4 ν (ν 87) := by rw [e87]; exact hc
        have ev : sq_pat (μ 87) a0 a1 a2 = if sp_rd (μ 87) a0 a1 = -1 then -1 else sp_tp (μ 87) a0 (sp_rd (μ 87) a0 a1) a2 := iif_t ⟨c, by omega, c2⟩
        have key := qp_u (σ := Unit) (A := fun r _ => mk224_86_41 X Q u a0 a1 a2 (192 * a0 + r) ν) (fun r _ => sp_rd (μ 87) a0 a1 = fst_v (rkP (μ 87) a0 a1) (192 - r).toNat r) (a := 0) (n := 192) (by omega) ?_ ?_ (s := ()) rfl
        · rw [Int.add_zero] at key; exact key
        · rintro - he
          rw [show ((192 : Int) - 192).toNat = 0 from rfl] at he
          have he' : sp_rd (μ 87) a0 a1 = -1 := he
          apply mh224_86_41
          rw [mi_wr_id (by omega) (by omega), mi_wr_id (by omega) (by omega), if_neg (by omega)]
          rw [if_pos he'] at ev
          exact hq _ _ ⟨hrq, ev.symm⟩
        · rintro r - hr hr' he k
          rw [show (192 - r).toNat = (191 - r).toNat + 1 by omega] at he
          have next : ¬ rkP (μ 87) a0 a1 r → mk224_86_41 X Q u a0 a1 a2 (192 * a0 + r + 1) ν := fun h => by
            have := k () (by rw [he, fst_out h, show (192 - (r + 1)).toNat = (191 - r).toNat by omega])
            rw [← Int.add_assoc] at this; exact this
          obtain ⟨p1, p2, p3⟩ := mx_kept (μ := ν) (v := a0) (r := r) (by rw [e87]; exact hm) c.1 c.2 hc' hr hr'
          rw [e87] at p2 p3
          apply mh224_86_41
          rw [mi_wr_id (z := 192 * a0 + r) (by omega) (by omega), mi_wr_id (z := 192 * (a0 + 1)) (by omega) (by omega), if_pos (by omega)]
          refine ⟨p1, ?_⟩
          by_cases hk : sp_keep (μ 87) a0 r
          · rw [p2 hk, if_neg w_10]
            intro Q_ hQ
            have ab := ah_b (m := μ 87) (v := a0) (r := r) 192
            have hgo : mi_cok X 222 [(.inr (.inl (some 86))), (.inl a0), (.inl (192 * a0 + r))] mi_G0 ν (0, 0) Q_ := by
              refine mc222_86 (by rw [e87]; exact hm) c.1 c.2 hc' hr hr' (hQ _ _ ?_)
              rw [e87]
              generalize hAe : sp_ah (μ 87) a0 r 192 = Ae at ab ⊢
              rw [mi_wr_id (by omega) (by omega), mx_wr r1]
              by_cases c3 : Ae = a1
              · rw [if_pos c3]
                have e : sp_rd (μ 87) a0 a1 = r := by rw [he, fst_in ⟨hk, hAe.trans c3⟩]
                rw [e, if_neg (by omega)] at ev
                intro Q2 hQ2
                refine mc223_86 (by rw [e87]; exact hm) c.1 c.2 hc' hr hr' (by rw [e87]; exact hk.1) c2.1 c2.2 (hQ2 _ _ (hq _ _ ⟨hrq, ?_⟩))
                rw [e87]; exact ev.symm
              · rw [if_neg c3]
                exact next (fun h => c3 (hAe.symm.trans h.2))
            exact hgo
          · rw [p3 hk, if_pos w_00]
            exact next (fun h => hk h.1)
      · rw [if_neg c2, if_pos w_00]
        exact hq _ _ ⟨rq_0 μ 0, (iif_f (fun h => c2 h.2.2)).symm⟩
  · rw [if_neg c, if_pos w_00]
    exact hq _ _ ⟨rq_0 μ 0, (iif_f (fun h => c h.1)).symm⟩
def mp233_86 (a0 a1 : Int) (μ : mi_M) : Prop := sc_ok (μ 87) ∧ mx_R a0 ∧ mx_R a1
def mq233_86 (a0 a1 : Int) (μ : mi_M) (r : Int) (ν : mi_M) : Prop := rq μ ν ∧ r = sq_votes (μ 87) a0 a1
theorem mc233_86 {a0 a1 : Int} (hp : mp233_86 a0 a1 μ) (hq : ∀ r ν, mq233_86 a0 a1 μ r ν → Q (.inl (some (.inl r))) mi_G0 ν) : mi_cok X 233 [(.inr (.inl (some 86))), (.inl a0), (.inl a1)] mi_G0 μ u Q := by
  obtain ⟨hm, r0, r1⟩ := hp
  obtain ⟨⟨w1, w2⟩, ⟨g1, g2⟩, ⟨f1, f2⟩, -⟩ := id hm
  apply me233_86
  rw [mx_withinM r0 ⟨by decide, by decide⟩ ⟨by omega, by omega⟩, mx_withinM r1 ⟨by decide, by decide⟩ ⟨by decide, by decide⟩]
  by_cases c : 0 ≤ a0 ∧ a0 ≤ 8 * μ 87 2
  · rw [if_pos c, if_neg w_10]
    by_cases c1 : 0 ≤ a1 ∧ a1 ≤ 8
    · rw [if_pos c1, if_neg w_10]
      refine ⟨show sc_ok (mi_set μ 86 0 0 87) by rw [th_87]; exact hm, fun ν ⟨hf, hc⟩ => ?_⟩
      rw [th_87] at hc
      obtain ⟨hrq, ht, e87, e89⟩ := rq_of hf rfl rfl
      exact ⟨⟨by rw [e87]; exact hm, by omega, c1, by rw [e87]; exact hc⟩, hq _ _ ⟨hrq, by unfold sq_votes mv232_86; rw [iif_t ⟨c, c1⟩, e87]⟩⟩
    · rw [if_neg c1, if_pos w_00]
      exact hq _ _ ⟨rq_0 μ 0, (iif_f (fun h => c1 h.2)).symm⟩
  · rw [if_neg c, if_pos w_00]
    exact hq _ _ ⟨rq_0 μ 0, (iif_f (fun h => c h.1)).symm⟩
def mp237_86 (a0 a1 a2 : Int) (μ : mi_M) : Prop := sc_ok (μ 87) ∧ mx_R a0 ∧ mx_R a1 ∧ mx_R a2
def mq237_86 (a0 a1 a2 : Int) (μ : mi_M) (r : Int) (ν : mi_M) : Prop := rq μ ν ∧ r = sq_bt (μ 87) a0 a1 a2
theorem mc237_86 {a0 a1 a2 : Int} (hp : mp237_86 a0 a1 a2 μ) (hq : ∀ r ν, mq237_86 a0 a1 a2 μ r ν → Q (.inl (some (.inl r))) mi_G0 ν) : mi_cok X 237 [(.inr (.inl (some 86))), (.inl a0), (.inl a1), (.inl a2)] mi_G0 μ u Q := by
  obtain ⟨hm, r0, r1, r2⟩ := hp
  obtain ⟨⟨w1, w2⟩, ⟨g1, g2⟩, ⟨f1, f2⟩, -⟩ := id hm
  apply me237_86
  rw [th_pl, mx_withinM r0 ⟨by decide, by decide⟩ ⟨by decide, by decide⟩]
  by_cases c0 : 0 ≤ a0 ∧ a0 ≤ 4
  · rw [if_pos c0, if_neg w_10]
    by_cases c : sc_in (μ 87) a1 a2
    · rw [mx_placeT hm c, if_neg w_10]
      refine ⟨show sc_ok (mi_set μ 86 0 0 87) by rw [th_87]; exact hm, fun ν ⟨hf, hc⟩ => ?_⟩
      rw [th_87] at hc
      obtain ⟨hrq, ht, e87, e89⟩ := rq_of hf rfl rfl
      obtain ⟨p1, p2⟩ := mx_btR (μ := ν) (t := a0) (x := a1) (y := a2) (by rw [e87]; exact hm) c0.1 c0.2 (by rw [e87]; exact c) (by rw [e87]; exact hc.2)
      rw [e87] at p2
      rw [p2]
      exact ⟨p1, hq _ _ ⟨hrq, (iif_t ⟨c0, c⟩).symm⟩⟩
    · rw [mx_placeF hm r1 r2 c, if_pos w_00]
      exact hq _ _ ⟨rq_0 μ 0, (iif_f (fun h => c h.2)).symm⟩
  · rw [if_neg c0, if_pos w_00]
    exact hq _ _ ⟨rq_0 μ 0, (iif_f (fun h => c0 h.1)).symm⟩
def mp238_86 (a0 : Int) (μ : mi_M) : Prop := sc_ok (μ 87) ∧ mx_R a0
def mq238_86 (a0 : Int) (μ : mi_M) (r : Int) (ν : mi_M) : Prop := rq μ ν ∧ r = sq_holes (μ 87) a0
theorem mc238_86 {a0 : Int} (hp : mp238_86 a0 μ) (hq : ∀ r ν, mq238_86 a0 μ r ν → Q (.inl (some (.inl r))) mi_G0 ν) : mi_cok X 238 [(.inr (.inl (some 86))), (.inl a0)] mi_G0 μ u Q := by
  obtain ⟨hm, r0⟩ := hp
  obtain ⟨⟨w1, w2⟩, ⟨g1, g2⟩, ⟨f1, f2⟩, -⟩ := id hm
  apply me238_86
  rw [mx_withinM r0 ⟨by decide, by decide⟩ ⟨by decide, by decide⟩]
  by_cases c : 0 ≤ a0 ∧ a0 ≤ 4
  · rw [if_pos c, if_neg w_10]
    refine ⟨show sc_ok (mi_set μ 86 0 0 87) by rw [th_87]; exact hm, fun ν ⟨hf, hc⟩ => ?_⟩
    rw [th_87] at hc
    obtain ⟨hrq, ht, e87, e89⟩ := rq_of hf rfl rfl
    have hm2 : mi_wr (-2) = -2 := by decide
    refine qp_2 (A := fun y acc => mk238_86_24 X Q u a0 acc y ν) (B := fun y x acc => mk238_86_37 X Q u a0 acc y x ν) (I := fun y x acc => acc = sm2a (fun x y => if sp_bt (μ 87) a0 x y = -2 then 1 else 0) (μ 87 0) y x) (w := μ 87 0) (h := μ 87 1) (by omega) (by omega) ?_ ?_ ?_ ?_ sm2_0.symm
    · rintro acc rfl
      apply mh238_86_24
      rw [e87, if_neg (Int.lt_irrefl _), sm2_e]
      exact hq _ _ ⟨hrq, (iif_t c).symm⟩
    · rintro y acc hy hy' hi k
      apply mh238_86_24
      rw [e87, mi_wr_id (by omega) (by omega), mi_wr_id (by omega) (by omega), if_pos (by omega)]
      exact k acc hi
    · rintro y x acc hy hy' hx hx' rfl k
      have hi : sc_in (μ 87) x y := ⟨hx, hx', hy, hy'⟩
      have bb := bt_b hm (t := a0) hi
      obtain ⟨p1, p2⟩ := mx_btR (μ := ν) (t := a0) (x := x) (y := y) (by rw [e87]; exact hm) c.1 c.2 (by rw [e87]; exact hi) (by rw [e87]; exact hc.2)
      rw [e87] at p2
      apply mh238_86_37
      rw [p2, e87, hm2, mi_wr_id (z := x) (by omega) (by omega), mi_wr_id (z := μ 87 0) (by omega) (by omega), if_pos hx', mi_wr_id (z := sp_bt (μ 87) a0 x y) (by omega) (by omega)]
      refine ⟨p1, k _ ?_⟩
      rw [sm2_x hx]
      split <;> omega
    · rintro y acc hy hy' rfl k
      apply mh238_86_37
      rw [e87, if_neg (Int.lt_irrefl _)]
      exact k _ (sm2_y hy).symm
  · rw [if_neg c, if_pos w_00]
    exact hq _ _ ⟨rq_0 μ 0, (iif_f c).symm⟩
def mp241_86 (a0 a1 : Int) (μ : mi_M) : Prop := sc_ok (μ 87) ∧ mx_R a0 ∧ mx_R a1
def mq241_86 (a0 a1 : Int) (μ : mi_M) (r : Int) (ν : mi_M) : Prop := rq μ ν ∧ r = sq_row (μ 87) a0 a1
theorem mc241_86 {a0 a1 : Int} (hp : mp241_86 a0 a1 μ) (hq : ∀ r ν, mq241_86 a0 a1 μ r ν → Q (.inl (some (.inl r))) mi_G0 ν) : mi_cok X 241 [(.inr (.inl (some 86))), (.inl a0), (.inl a1)] mi_G0 μ u Q := by
  obtain ⟨hm, r0, r1⟩ := hp
  obtain ⟨⟨w1, w2⟩, ⟨g1, g2⟩, ⟨f1, f2⟩, -⟩ := id hm
  apply me241_86
  have hm1 : mi_wr (-1) = -1 := by decide
  rw [mx_withinM r0 ⟨by decide, by decide⟩ ⟨by omega, by omega⟩, mx_withinM r1 ⟨by decide, by decide⟩ ⟨by omega, by omega⟩, hm1, mx_wr r1]
  by_cases c : 0 ≤ a0 ∧ a0 ≤ μ 87 1 - 1
  · rw [if_pos c, if_neg w_10]
    by_cases c1 : -1 ≤ a1 ∧ a1 ≤ μ 87 0 - 1
    · rw [if_pos c1, if_neg w_10]
      refine ⟨show sc_ok (mi_set μ 86 0 0 87) by rw [th_87]; exact hm, fun ν ⟨hf, hc⟩ => ?_⟩
      rw [th_87] at hc
      obtain ⟨hrq, ht, e87, e89⟩ := rq_of (fr_l1 hf) rfl rfl
      refine ⟨⟨by rw [e87]; exact hm, by rw [e87]; omega, by rw [e87]; exact hc⟩, fun r ρ ⟨hf2, q2, q3⟩ => ?_⟩
      rw [e87] at q2 q3
      obtain ⟨hrq2, -, -, -⟩ := rq_of (fr_lt (fr_lm (fr_l1 hf) rfl) (fr_lm hf2 rfl) : fr_l [92, 100, 101] (mi_set μ 86 0 0) ρ) rfl rfl
      have ev : sq_row (μ 87) a0 a1 = if a1 = -1 then sp_rp (μ 87) a0 else cx (μ 87) a0 a1 := iif_t (by omega)
      by_cases c2 : a1 = -1
      · rw [if_pos c2] at ev ⊢
        exact hq _ _ ⟨hrq2, by rw [ev]; exact q2⟩
      · rw [if_neg c2] at ev ⊢
        rw [q3 a1 (by omega) (by omega)]
        exact ⟨by omega, hq _ _ ⟨hrq2, ev.symm⟩⟩
    · rw [if_neg c1, if_pos w_00]
      exact hq _ _ ⟨rq_0 μ 0, (iif_f (by omega)).symm⟩
  · rw [if_neg c, if_pos w_00]
    exact hq _ _ ⟨rq_0 μ 0, (iif_f (by omega)).symm⟩
def mp243_86 (a0 : Int) (μ : mi_M) : Prop := sc_ok (μ 87) ∧ mx_R a0
def mq243_86 (a0 : Int) (μ : mi_M) (r : Int) (ν : mi_M) : Prop := rq μ ν ∧ r = sq_en (μ 87) a0
theorem mc243_86 {a0 : Int} (hp : mp243_86 a0 μ) (hq : ∀ r ν, mq243_86 a0 μ r ν → Q (.inl (some (.inl r))) mi_G0 ν) : mi_cok X 243 [(.inr (.inl (some 86))), (.inl a0)] mi_G0 μ u Q := by
  obtain ⟨hm, r0⟩ := hp
  obtain ⟨⟨w1, w2⟩, ⟨g1, g2⟩, ⟨f1, f2⟩, -⟩ := id hm
  apply me243_86
  rw [mx_withinM r0 ⟨by decide, by decide⟩ ⟨by decide, by decide⟩]
  by_cases c : 0 ≤ a0 ∧ a0 ≤ 2
  · rw [if_pos c, if_neg w_10]
    refine ⟨show sc_ok (mi_set μ 86 0 0 87) by rw [th_87]; exact hm, fun ν ⟨hf, hc⟩ => ?_⟩
    rw [th_87] at hc
    obtain ⟨hrq, ht, e87, e89⟩ := rq_of hf rfl rfl
    have w2' : mi_wr 2 = 2 := by decide
    have ev : sq_en (μ 87) a0 = if a0 = 0 then sp_en (μ 87) (sp_fill (μ 87) 0) else if a0 = 1 then sp_en (μ 87) (sp_sh (μ 87) 0) else sm (fun y => sp_rp (μ 87) y) (μ 87 1).toNat := iif_t c
    rw [w2', mi_wr_id (z := a0) (by omega) (by omega)]
    by_cases c2 : a0 < 2
    · rw [if_pos c2]
      by_cases c0 : a0 = 0
      · rw [if_pos c0] at ev ⊢
        exact ⟨⟨by rw [e87]; exact hm, by rw [e87]; exact hc.1.1.1, by rw [e87]; exact is_in1 hc.2 (by decide) (by decide)⟩, hq _ _ ⟨hrq, by rw [ev]; unfold mv242_86_99; rw [e87]⟩⟩
      · rw [if_neg c0] at ev ⊢
        rw [if_pos (by omega)] at ev
        exact ⟨⟨by rw [e87]; exact hm, by rw [e87]; exact hc.1.1.1, by rw [e87]; exact is_in1 hc.1.1.2.2 (by decide) (by decide)⟩, hq _ _ ⟨hrq, by rw [ev]; unfold mv242_86_95; rw [e87]⟩⟩
    · rw [if_neg c2]
      rw [if_neg (by omega), if_neg (by omega)] at ev
      refine qp_u (σ := Int × mi_M) (A := fun y s => mk243_86_49 X Q u s.1 y s.2) (fun y s => s.1 = sm (fun y => sp_rp (μ 87) y) y.toNat ∧ fr_l [92, 93, 94, 95, 96, 97, 98, 99, 100, 101] (mi_set μ 86 0 0) s.2 ∧ s.2 92 = ν 92) (a := 0) (n := μ 87 1) (by omega) ?_ ?_ (s := (0, ν)) ⟨rfl, fr_lm hf rfl, rfl⟩
      · rintro ⟨acc, ρ⟩ ⟨h1, h2, h3⟩
        dsimp only at h1 h2 h3
        obtain ⟨hrq2, -, e87', -⟩ := rq_of h2 rfl rfl
        show mk243_86_49 X Q u acc (μ 87 1) ρ
        apply mh243_86_49
        rw [e87', if_neg (Int.lt_irrefl _)]
        exact hq _ _ ⟨hrq2, by rw [ev]; exact h1⟩
      · rintro y ⟨acc, ρ⟩ hy hy' ⟨h1, h2, h3⟩ k
        dsimp only at h1 h2 h3
        obtain ⟨hrq2, -, e87', -⟩ := rq_of h2 rfl rfl
        show mk243_86_49 X Q u acc y ρ
        apply mh243_86_49
        rw [e87', mi_wr_id (by omega) (by omega), mi_wr_id (by omega) (by omega), if_pos hy']
        refine ⟨⟨by rw [e87']; exact hm, by rw [e87']; exact ⟨hy, hy'⟩, by rw [e87']; exact mp_is_fr h3 hc.1.1.1⟩, fun r σ ⟨q1, q2, q3⟩ => ?_⟩
        rw [e87'] at q2
        refine k (acc + r, σ) ⟨?_, fr_lt h2 (fr_lm q1 rfl), (q1 92 (by decide)).trans h3⟩
        show acc + r = _
        rw [sm_s hy, h1, q2]
  · rw [if_neg c, if_pos w_00]
    exact hq _ _ ⟨rq_0 μ 0, (iif_f c).symm⟩
end
