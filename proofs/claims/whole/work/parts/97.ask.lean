/-! PRINTED by wip/whole/gen/mk97.py: what the class answers when it is asked -/
abbrev CS : List Nat := [0, 66, 67, 68, 69, 70, 72, 73, 74, 75, 76, 77, 78, 79, 80, 82, 83, 85]
def cvA (μ : mi_M) : Prop := sc_ok (sc_m μ) ∧ ci μ
def cq (μ ν : mi_M) : Prop := fr_l CS μ ν ∧ ci ν
theorem cq_r {μ : mi_M} (h : cvA μ) : cq μ μ := ⟨fr_lr _ _, h.2⟩
theorem sm_add {f g : Int → Int} : ∀ n : Nat, sm f n + sm g n = sm (fun i => f i + g i) n
  | 0 => rfl
  | n + 1 => by
    have := sm_add (f := f) (g := g) n
    show sm f n + f n + (sm g n + g n) = sm (fun i => f i + g i) n + (f n + g n)
    omega
theorem sm2_add {f g : Int → Int → Int} {w h : Int} : sm2 f w h + sm2 g w h = sm2 (fun x y => f x y + g x y) w h := by
  unfold sm2
  rw [sm_add]
  exact sm_eq _ (fun y _ _ => sm_add _)
theorem sp_new_eq {f g : Int → Int → Int} {w px py : Int} (hx : 0 ≤ px) (hx' : px < w) (hy : 0 ≤ py) (h : ∀ x y, 0 ≤ x → x < w → 0 ≤ y → y ≤ py → f x y = g x y) : sp_new f w px py = sp_new g w px py := by
  by_cases c : ∃ x y, 0 ≤ x ∧ x < w ∧ 0 ≤ y ∧ (y < py ∨ y = py ∧ x < px) ∧ g x y = g px py
  · obtain ⟨x, y, h1, h2, h3, h4, h5⟩ := c
    rw [sp_new_0 h1 h2 h3 h4 h5, sp_new_0 h1 h2 h3 h4 (by rw [h x y h1 h2 h3 (by omega), h px py hx hx' hy (by omega)]; exact h5)]
  · rw [sp_new_1 (fun x y h1 h2 h3 h4 h5 => c ⟨x, y, h1, h2, h3, h4, h5⟩), sp_new_1 (fun x y h1 h2 h3 h4 h5 => c ⟨x, y, h1, h2, h3, h4, by rw [← h x y h1 h2 h3 (by omega), ← h px py hx hx' hy (by omega)]; exact h5⟩)]
noncomputable def sq_same (m : Int → Int) (v x y : Int) : Int := sm2 (fun i j => (if sp_code m 0 i j = sp_code m v x y then 1 else 0) + (if sp_code m 1 i j = sp_code m v x y then 1 else 0)) (m 0) (m 1)
noncomputable def sq_codes (m : Int → Int) (v : Int) : Int := iif (0 ≤ v ∧ v ≤ 1) (sm2 (fun px py => sp_new (fun x y => sp_code m v x y) (m 0) px py) (m 0) (m 1)) (-1)
noncomputable def sq_cost (m : Int → Int) (x y d : Int) : Int := iif (sc_in m x y ∧ 0 ≤ d ∧ d ≤ m 2) (sp_cost m x y d) (-1)
noncomputable def sq_path (m : Int → Int) (r x y d : Int) : Int := iif ((0 ≤ r ∧ r ≤ 7) ∧ sc_in m x y ∧ 0 ≤ d ∧ d ≤ m 2) (sp_way m r x y d) (-1)
noncomputable def sq_sum (m : Int → Int) (x y d : Int) : Int := iif (sc_in m x y ∧ 0 ≤ d ∧ d ≤ m 2) (sp_sum m x y d) (-1)
noncomputable def sq_kind (m : Int → Int) (v x y : Int) : Int := iif (sc_at m v x y) (sp_kn m v x y) (-1)
noncomputable def sq_kinds (m : Int → Int) (v k : Int) : Int := iif ((0 ≤ v ∧ v ≤ 1) ∧ 0 ≤ k ∧ k ≤ 2) (sp_hm m v k) (-1)
noncomputable def sq_piece (m : Int → Int) (v x y : Int) : Int := iif (sc_at m v x y) (if sp_k0 m v x y = 0 then sz m v (rt m v x y) else 0) (-1)
noncomputable def sq_pieces (m : Int → Int) (v w : Int) : Int := iif ((0 ≤ v ∧ v ≤ 1) ∧ 0 ≤ w ∧ w ≤ 1) (if w = 0 then sp_hs m v 192 else gm_v m v 192) (-1)
noncomputable def sq_pat (m : Int → Int) (v i w : Int) : Int := iif ((0 ≤ v ∧ v ≤ 1) ∧ 0 ≤ i ∧ 0 ≤ w ∧ w ≤ 7) (if sp_rd m v i = -1 then -1 else sp_tp m v (sp_rd m v i) w) (-1)
noncomputable def sq_ground (m : Int → Int) (w : Int) : Int := iif (0 ≤ w ∧ w ≤ 2) (sp_gd m w) (-1)
noncomputable def sq_votes (m : Int → Int) (p q : Int) : Int := iif ((0 ≤ p ∧ p ≤ 8 * m 2) ∧ 0 ≤ q ∧ q ≤ 8) (sp_vt m p q) (-1)
noncomputable def sq_bt (m : Int → Int) (t x y : Int) : Int := iif ((0 ≤ t ∧ t ≤ 4) ∧ sc_in m x y) (sp_bt m t x y) (-1)
noncomputable def sq_depth (m : Int → Int) (x y : Int) : Int := if sp_fill m 0 x y = 0 then -2 else mi_div (m 9) (sp_fill m 0 x y)
noncomputable def sq_row (m : Int → Int) (y x : Int) : Int := iif ((0 ≤ y ∧ y < m 1) ∧ -1 ≤ x ∧ x < m 0) (if x = -1 then sp_rp m y else cx m y x) (-1)
section
variable {X : mi_X} {Q : mi_R → mi_G → mi_M → Prop} {u : mi_U} {μ : mi_M}
theorem rch {g : Int} (h : cvA μ) (hg : 1 ≤ g) (hg' : g ≤ 5) : mp141_0 g μ := ⟨h.1, h.2, hg, hg'⟩
theorem rch_q {g : Int} {ν : mi_M} (h : mq141_0 g μ ν) : cq μ ν ∧ sc_m ν = sc_m μ ∧ cvu g ν := ⟨⟨fr_lm h.1 rfl, h.2.1⟩, sc_m_frl h.1 (by decide) (by decide) (by decide), cvu_le h.2.1.2.2.2 h.2.2⟩
theorem sc_at_R {m : Int → Int} (hm : sc_ok m) {v x y : Int} (h : sc_at m v x y) : mx_R v ∧ mx_R x ∧ mx_R y := by
  obtain ⟨⟨w1, w2⟩, ⟨g1, g2⟩, -⟩ := id hm
  obtain ⟨⟨h1, h2⟩, h3, h4, h5, h6⟩ := h
  exact ⟨⟨by omega, by omega⟩, ⟨by omega, by omega⟩, ⟨by omega, by omega⟩⟩
theorem at_0 {m : Int → Int} {x y : Int} : sc_at m 0 x y ↔ sc_in m x y := ⟨fun h => h.2, fun h => ⟨by decide, h⟩⟩

def mp106_0 (a0 a1 a2 : Int) (μ : mi_M) : Prop := cvA μ ∧ mx_R a0 ∧ mx_R a1 ∧ mx_R a2
def mq106_0 (a0 a1 a2 : Int) (μ : mi_M) (r : Int) (ν : mi_M) : Prop := cq μ ν ∧ r = sp_val (sc_m μ) a0 a1 a2
theorem mc106_0 {a0 a1 a2 : Int} (hp : mp106_0 a0 a1 a2 μ) (h : if mi_wr (mv87_1 a0 a1 a2 μ) = 0 then Q (.inr ()) mi_G0 μ else ∀ r ν, mq106_0 a0 a1 a2 μ r ν → Q (.inl (some (.inl r))) mi_G0 ν) : mi_cok X 106 [(.inr (.inl (some 0))), (.inl a0), (.inl a1), (.inl a2)] mi_G0 μ (1, 6) Q := by
  obtain ⟨hA, r0, r1, r2⟩ := hp
  have hm := hA.1
  obtain ⟨⟨w1, w2⟩, ⟨g1, g2⟩, ⟨f1, f2⟩, -⟩ := id hm
  apply me106_0
  refine ⟨⟨Nat.le_refl _, Nat.le_refl _⟩, ?_⟩
  by_cases c : sc_at (sc_m μ) a0 a1 a2
  · rw [mx_atT hm c, if_neg w_10] at h ⊢
    obtain ⟨⟨v1, v2⟩, x1, x2, y1, y2⟩ := id c
    rw [mx_spot y1 (by omega), (sc_m_c μ).2.2.2 _ (show 0 ≤ 192 * a0 + 16 * a2 + a1 by omega) (by omega)]
    exact ⟨by omega, h _ _ ⟨cq_r hA, rfl⟩⟩
  · rw [mx_atF hm r0 r1 r2 c, if_pos w_00] at h ⊢
    exact h
def mp107_0 (a0 a1 a2 : Int) (μ : mi_M) : Prop := cvA μ ∧ mx_R a0 ∧ mx_R a1 ∧ mx_R a2
def mq107_0 (a0 a1 a2 : Int) (μ : mi_M) (r : Int) (ν : mi_M) : Prop := cq μ ν ∧ r = sp_code (sc_m μ) a0 a1 a2
theorem mc107_0 {a0 a1 a2 : Int} (hp : mp107_0 a0 a1 a2 μ) (h : if mi_wr (mv87_1 a0 a1 a2 μ) = 0 then Q (.inr ()) mi_G0 μ else ∀ r ν, mq107_0 a0 a1 a2 μ r ν → Q (.inl (some (.inl r))) mi_G0 ν) : mi_cok X 107 [(.inr (.inl (some 0))), (.inl a0), (.inl a1), (.inl a2)] mi_G0 μ (1, 6) Q := by
  obtain ⟨hA, r0, r1, r2⟩ := hp
  have hm := hA.1
  obtain ⟨⟨w1, w2⟩, ⟨g1, g2⟩, ⟨f1, f2⟩, -⟩ := id hm
  apply me107_0
  refine ⟨⟨Nat.le_refl _, Nat.le_refl _⟩, ?_⟩
  by_cases c : sc_at (sc_m μ) a0 a1 a2
  · rw [mx_atT hm c, if_neg w_10] at h ⊢
    obtain ⟨⟨v1, v2⟩, x1, x2, y1, y2⟩ := id c
    refine ⟨rch hA (by decide) (by decide), fun ν hν => ?_⟩
    obtain ⟨hcq, es, hcv⟩ := rch_q hν
    have e := (hcv.1 (by decide)).1
    rw [es] at e
    rw [mx_spot y1 (by omega), e a0 a1 a2 v1 v2 x1 x2 y1 y2]
    exact ⟨by omega, h _ _ ⟨hcq, rfl⟩⟩
  · rw [mx_atF hm r0 r1 r2 c, if_pos w_00] at h ⊢
    exact h
def mp108_0 (a0 a1 a2 : Int) (μ : mi_M) : Prop := cvA μ ∧ mx_R a0 ∧ mx_R a1 ∧ mx_R a2
def mq108_0 (a0 a1 a2 : Int) (μ : mi_M) (r : Int) (ν : mi_M) : Prop := cq μ ν ∧ r = sq_same (sc_m μ) a0 a1 a2
theorem mc108_0 {a0 a1 a2 : Int} (hp : mp108_0 a0 a1 a2 μ) (h : if mi_wr (mv87_1 a0 a1 a2 μ) = 0 then Q (.inr ()) mi_G0 μ else ∀ r ν, mq108_0 a0 a1 a2 μ r ν → Q (.inl (some (.inl r))) mi_G0 ν) : mi_cok X 108 [(.inr (.inl (some 0))), (.inl a0), (.inl a1), (.inl a2)] mi_G0 μ (1, 6) Q := by
  obtain ⟨hA, r0, r1, r2⟩ := hp
  have hm := hA.1
  obtain ⟨⟨w1, w2⟩, ⟨g1, g2⟩, ⟨f1, f2⟩, -⟩ := id hm
  apply me108_0
  refine ⟨⟨Nat.le_refl _, Nat.le_refl _⟩, ?_⟩
  by_cases c : sc_at (sc_m μ) a0 a1 a2
  · rw [mx_atT hm c, if_neg w_10] at h ⊢
    obtain ⟨⟨v1, v2⟩, x1, x2, y1, y2⟩ := id c
    refine ⟨rch hA (by decide) (by decide), fun ν hν => ?_⟩
    obtain ⟨hcq, es, hcv⟩ := rch_q hν
    have e := (hcv.1 (by decide)).1
    rw [es] at e
    have b := sp_code_b hm a0 a1 a2
    have hR : mp_R ν 67 (sc_m ν) := fun v x y h1 h2 h3 h4 h5 h6 => by
      rw [es] at h4 h6
      rw [e v x y h1 h2 h3 h4 h5 h6]
      have := sp_code_b hm v x y
      exact ⟨by omega, by omega⟩
    have e0 : ν 1 0 = sc_m μ 0 := congrFun es 0
    have e1 : ν 1 1 = sc_m μ 1 := congrFun es 1
    have ev : ∀ v, 0 ≤ v → v ≤ 1 → mv36_66 v (sp_code (sc_m μ) a0 a1 a2) ν = sm2 (fun i j => if sp_code (sc_m μ) v i j = sp_code (sc_m μ) a0 a1 a2 then 1 else 0) (sc_m μ 0) (sc_m μ 1) := fun v h1 h2 => by
      unfold mv36_66
      rw [e0, e1]
      exact sm2_eq (fun x y h3 h4 h5 h6 => by rw [e v x y h1 h2 h3 h4 h5 h6])
    rw [mx_spot y1 (by omega), e a0 a1 a2 v1 v2 x1 x2 y1 y2, ev 0 (by decide) (by decide), ev 1 (by decide) (by decide), sm2_add]
    exact ⟨by omega, ⟨by rw [es]; exact hm, by decide, by decide, ⟨by omega, by omega⟩, hR⟩, ⟨by rw [es]; exact hm, by decide, by decide, ⟨by omega, by omega⟩, hR⟩, h _ _ ⟨hcq, rfl⟩⟩
  · rw [mx_atF hm r0 r1 r2 c, if_pos w_00] at h ⊢
    exact h
def mp113_0 (a0 a1 a2 : Int) (μ : mi_M) : Prop := cvA μ ∧ mx_R a0 ∧ mx_R a1 ∧ mx_R a2
def mq113_0 (a0 a1 a2 : Int) (μ : mi_M) (r : Int) (ν : mi_M) : Prop := cq μ ν ∧ r = sp_sh (sc_m μ) a0 a1 a2
theorem mc113_0 {a0 a1 a2 : Int} (hp : mp113_0 a0 a1 a2 μ) (h : if mi_wr (mv87_1 a0 a1 a2 μ) = 0 then Q (.inr ()) mi_G0 μ else ∀ r ν, mq113_0 a0 a1 a2 μ r ν → Q (.inl (some (.inl r))) mi_G0 ν) : mi_cok X 113 [(.inr (.inl (some 0))), (.inl a0), (.inl a1), (.inl a2)] mi_G0 μ (1, 6) Q := by
  obtain ⟨hA, r0, r1, r2⟩ := hp
  have hm := hA.1
  obtain ⟨⟨w1, w2⟩, ⟨g1, g2⟩, ⟨f1, f2⟩, -⟩ := id hm
  apply me113_0
  refine ⟨⟨Nat.le_refl _, Nat.le_refl _⟩, ?_⟩
  by_cases c : sc_at (sc_m μ) a0 a1 a2
  · rw [mx_atT hm c, if_neg w_10] at h ⊢
    obtain ⟨⟨v1, v2⟩, x1, x2, y1, y2⟩ := id c
    refine ⟨rch hA (by decide) (by decide), fun ν hν => ?_⟩
    obtain ⟨hcq, es, hcv⟩ := rch_q hν
    have e := hcv.2.2.1 (by decide)
    rw [es] at e
    rw [mx_spot y1 (by omega), e a0 a1 a2 v1 v2 x1 x2 y1 y2]
    exact ⟨by omega, h _ _ ⟨hcq, rfl⟩⟩
  · rw [mx_atF hm r0 r1 r2 c, if_pos w_00] at h ⊢
    exact h
def mp114_0 (a0 a1 : Int) (μ : mi_M) : Prop := cvA μ ∧ mx_R a0 ∧ mx_R a1
def mq114_0 (a0 a1 : Int) (μ : mi_M) (r : Int) (ν : mi_M) : Prop := cq μ ν ∧ r = sp_mg (sc_m μ) a0 a1
theorem mc114_0 {a0 a1 : Int} (hp : mp114_0 a0 a1 μ) (h : if mi_wr (mv87_1 0 a0 a1 μ) = 0 then Q (.inr ()) mi_G0 μ else ∀ r ν, mq114_0 a0 a1 μ r ν → Q (.inl (some (.inl r))) mi_G0 ν) : mi_cok X 114 [(.inr (.inl (some 0))), (.inl a0), (.inl a1)] mi_G0 μ (1, 6) Q := by
  obtain ⟨hA, r0, r1⟩ := hp
  have hm := hA.1
  obtain ⟨⟨w1, w2⟩, ⟨g1, g2⟩, ⟨f1, f2⟩, -⟩ := id hm
  apply me114_0
  refine ⟨⟨Nat.le_refl _, Nat.le_refl _⟩, ?_⟩
  by_cases c : sc_at (sc_m μ) 0 a0 a1
  · rw [mx_atT hm c, if_neg w_10] at h ⊢
    obtain ⟨⟨v1, v2⟩, x1, x2, y1, y2⟩ := id c
    refine ⟨rch hA (by decide) (by decide), fun ν hν => ?_⟩
    obtain ⟨hcq, es, hcv⟩ := rch_q hν
    have ev : mv15_71 a0 a1 ν = sp_mg (sc_m μ) a0 a1 := by unfold mv15_71; rw [es]
    rw [ev]
    exact ⟨⟨by rw [es]; exact hm, by rw [es]; exact c.2, hcv.2.1 (by decide), hcv.2.2.1 (by decide)⟩, h _ _ ⟨hcq, rfl⟩⟩
  · rw [mx_atF hm ⟨by decide, by decide⟩ r0 r1 c, if_pos w_00] at h ⊢
    exact h
def mp120_0 (a0 a1 : Int) (μ : mi_M) : Prop := cvA μ ∧ mx_R a0 ∧ mx_R a1
def mq120_0 (a0 a1 : Int) (μ : mi_M) (r : Int) (ν : mi_M) : Prop := cq μ ν ∧ r = sp_fine (sc_m μ) a0 a1
theorem mc120_0 {a0 a1 : Int} (hp : mp120_0 a0 a1 μ) (h : if mi_wr (mv87_1 0 a0 a1 μ) = 0 then Q (.inr ()) mi_G0 μ else ∀ r ν, mq120_0 a0 a1 μ r ν → Q (.inl (some (.inl r))) mi_G0 ν) : mi_cok X 120 [(.inr (.inl (some 0))), (.inl a0), (.inl a1)] mi_G0 μ (1, 6) Q := by
  obtain ⟨hA, r0, r1⟩ := hp
  have hm := hA.1
  obtain ⟨⟨w1, w2⟩, ⟨g1, g2⟩, ⟨f1, f2⟩, -⟩ := id hm
  apply me120_0
  refine ⟨⟨Nat.le_refl _, Nat.le_refl _⟩, ?_⟩
  by_cases c : sc_at (sc_m μ) 0 a0 a1
  · rw [mx_atT hm c, if_neg w_10] at h ⊢
    obtain ⟨⟨v1, v2⟩, x1, x2, y1, y2⟩ := id c
    refine ⟨rch hA (by decide) (by decide), fun ν hν => ?_⟩
    obtain ⟨hcq, es, hcv⟩ := rch_q hν
    obtain ⟨p1, p2⟩ := mx_fine (μ := ν) (a0 := a0) (a1 := a1) (by rw [es]; exact hm) (by rw [es]; exact c.2) (hcv.2.1 (by decide)) (hcv.2.2.1 (by decide))
    rw [es] at p2
    rw [p2]
    exact ⟨p1, h _ _ ⟨hcq, rfl⟩⟩
  · rw [mx_atF hm ⟨by decide, by decide⟩ r0 r1 c, if_pos w_00] at h ⊢
    exact h
def mp125_0 (a0 a1 a2 : Int) (μ : mi_M) : Prop := cvA μ ∧ mx_R a0 ∧ mx_R a1 ∧ mx_R a2
def mq125_0 (a0 a1 a2 : Int) (μ : mi_M) (r : Int) (ν : mi_M) : Prop := cq μ ν ∧ r = sp_fill (sc_m μ) a0 a1 a2
theorem mc125_0 {a0 a1 a2 : Int} (hp : mp125_0 a0 a1 a2 μ) (h : if mi_wr (mv87_1 a0 a1 a2 μ) = 0 then Q (.inr ()) mi_G0 μ else ∀ r ν, mq125_0 a0 a1 a2 μ r ν → Q (.inl (some (.inl r))) mi_G0 ν) : mi_cok X 125 [(.inr (.inl (some 0))), (.inl a0), (.inl a1), (.inl a2)] mi_G0 μ (1, 6) Q := by
  obtain ⟨hA, r0, r1, r2⟩ := hp
  have hm := hA.1
  obtain ⟨⟨w1, w2⟩, ⟨g1, g2⟩, ⟨f1, f2⟩, -⟩ := id hm
  apply me125_0
  refine ⟨⟨Nat.le_refl _, Nat.le_refl _⟩, ?_⟩
  by_cases c : sc_at (sc_m μ) a0 a1 a2
  · rw [mx_atT hm c, if_neg w_10] at h ⊢
    obtain ⟨⟨v1, v2⟩, x1, x2, y1, y2⟩ := id c
    refine ⟨rch hA (by decide) (by decide), fun ν hν => ?_⟩
    obtain ⟨hcq, es, hcv⟩ := rch_q hν
    have e := hcv.2.2.2.2 (by decide)
    rw [es] at e
    rw [mx_spot y1 (by omega), e a0 a1 a2 v1 v2 x1 x2 y1 y2]
    exact ⟨by omega, h _ _ ⟨hcq, rfl⟩⟩
  · rw [mx_atF hm r0 r1 r2 c, if_pos w_00] at h ⊢
    exact h
def mp126_0 (a0 a1 : Int) (μ : mi_M) : Prop := cvA μ ∧ mx_R a0 ∧ mx_R a1
def mq126_0 (a0 a1 : Int) (μ : mi_M) (r : Int) (ν : mi_M) : Prop := cq μ ν ∧ r = sq_depth (sc_m μ) a0 a1
theorem mc126_0 {a0 a1 : Int} (hp : mp126_0 a0 a1 μ) (h : if mi_wr (mv87_1 0 a0 a1 μ) = 0 then Q (.inr ()) mi_G0 μ else ∀ r ν, mq126_0 a0 a1 μ r ν → Q (.inl (some (.inl r))) mi_G0 ν) : mi_cok X 126 [(.inr (.inl (some 0))), (.inl a0), (.inl a1)] mi_G0 μ (1, 6) Q := by
  obtain ⟨hA, r0, r1⟩ := hp
  have hm := hA.1
  obtain ⟨⟨w1, w2⟩, ⟨g1, g2⟩, ⟨f1, f2⟩, -⟩ := id hm
  apply me126_0
  refine ⟨⟨Nat.le_refl _, Nat.le_refl _⟩, ?_⟩
  by_cases c : sc_at (sc_m μ) 0 a0 a1
  · rw [mx_atT hm c, if_neg w_10] at h ⊢
    obtain ⟨⟨v1, v2⟩, x1, x2, y1, y2⟩ := id c
    refine ⟨rch hA (by decide) (by decide), fun ν hν => ?_⟩
    obtain ⟨hcq, es, hcv⟩ := rch_q hν
    have e := hcv.2.2.2.2 (by decide)
    rw [es] at e
    have fb := sp_fill_b hm (v := 0) (x := a0) (y := a1) x2
    have e9 : ν 2 7 = sc_m μ 9 := by
      have := (sc_m_c ν).2.2.1 7 (by decide) (by decide)
      rw [es] at this; exact this
    rw [mx_spot y1 (by omega), e 0 a0 a1 v1 v2 x1 x2 y1 y2, e9, mi_wr_id (by omega) (by omega)]
    refine ⟨by omega, ?_⟩
    by_cases c0 : sp_fill (sc_m μ) 0 a0 a1 = 0
    · rw [if_neg (by omega)]
      exact h _ _ ⟨hcq, by unfold sq_depth; rw [if_pos c0]⟩
    · rw [if_pos (by omega)]
      exact ⟨c0, h _ _ ⟨hcq, by unfold sq_depth; rw [if_neg c0]⟩⟩
  · rw [mx_atF hm ⟨by decide, by decide⟩ r0 r1 c, if_pos w_00] at h ⊢
    exact h
def mp109_0 (a0 : Int) (μ : mi_M) : Prop := cvA μ ∧ mx_R a0
def mq109_0 (a0 : Int) (μ : mi_M) (r : Int) (ν : mi_M) : Prop := cq μ ν ∧ r = sq_codes (sc_m μ) a0
theorem mc109_0 {a0 : Int} (hp : mp109_0 a0 μ) (hq : ∀ r ν, mq109_0 a0 μ r ν → Q (.inl (some (.inl r))) mi_G0 ν) : mi_cok X 109 [(.inr (.inl (some 0))), (.inl a0)] mi_G0 μ u Q := by
  obtain ⟨hA, r0⟩ := hp
  have hm := hA.1
  obtain ⟨⟨w1, w2⟩, ⟨g1, g2⟩, ⟨f1, f2⟩, -⟩ := id hm
  apply me109_0
  rw [mx_view r0]
  by_cases c : 0 ≤ a0 ∧ a0 ≤ 1
  · rw [if_pos c, if_neg w_10]
    refine ⟨rch hA (by decide) (by decide), fun ν hν => ?_⟩
    obtain ⟨hcq, es, hcv⟩ := rch_q hν
    have e := (hcv.1 (by decide)).1
    rw [es] at e
    have hR : mp_R ν 67 (sc_m ν) := fun v x y h1 h2 h3 h4 h5 h6 => by
      rw [es] at h4 h6
      rw [e v x y h1 h2 h3 h4 h5 h6]
      have := sp_code_b hm v x y
      exact ⟨by omega, by omega⟩
    have e0 : ν 1 0 = sc_m μ 0 := congrFun es 0
    have e1 : ν 1 1 = sc_m μ 1 := congrFun es 1
    refine ⟨⟨by rw [es]; exact hm, c.1, c.2, hR⟩, hq _ _ ⟨hcq, ?_⟩⟩
    unfold sq_codes mv37_66
    rw [iif_t c, e0, e1]
    exact sm2_eq (fun x y h3 h4 h5 h6 => sp_new_eq h3 h4 h5 (fun i j i1 i2 i3 i4 => e a0 i j c.1 c.2 i1 i2 i3 (by omega)))
  · rw [if_neg c, if_pos w_00]
    exact hq _ _ ⟨cq_r hA, (iif_f (c)).symm⟩
def mp110_0 (a0 a1 a2 : Int) (μ : mi_M) : Prop := cvA μ ∧ mx_R a0 ∧ mx_R a1 ∧ mx_R a2
def mq110_0 (a0 a1 a2 : Int) (μ : mi_M) (r : Int) (ν : mi_M) : Prop := cq μ ν ∧ r = sq_cost (sc_m μ) a0 a1 a2
theorem mc110_0 {a0 a1 a2 : Int} (hp : mp110_0 a0 a1 a2 μ) (hq : ∀ r ν, mq110_0 a0 a1 a2 μ r ν → Q (.inl (some (.inl r))) mi_G0 ν) : mi_cok X 110 [(.inr (.inl (some 0))), (.inl a0), (.inl a1), (.inl a2)] mi_G0 μ u Q := by
  obtain ⟨hA, r0, r1, r2⟩ := hp
  have hm := hA.1
  obtain ⟨⟨w1, w2⟩, ⟨g1, g2⟩, ⟨f1, f2⟩, -⟩ := id hm
  apply me110_0
  by_cases c : sc_at (sc_m μ) 0 a0 a1
  · rw [mx_atT hm c, if_neg w_10]
    obtain ⟨⟨v1, v2⟩, x1, x2, y1, y2⟩ := id c
    by_cases c2 : 0 ≤ a2 ∧ a2 ≤ sc_m μ 2
    · rw [mx_shT hm c2, if_neg w_10]
      refine ⟨rch hA (by decide) (by decide), fun ν hν => ?_⟩
      obtain ⟨hcq, es, hcv⟩ := rch_q hν
      have e := (hcv.1 (by decide)).2
      rw [es] at e
      rw [mx_cell x1 (by omega) y1 (by omega), e a0 a1 a2 x1 x2 y1 y2 c2.1 (by omega)]
      exact ⟨by omega, hq _ _ ⟨hcq, (iif_t ⟨c.2, c2⟩).symm⟩⟩
    · rw [mx_shF hm r2 c2, if_pos w_00]
      exact hq _ _ ⟨cq_r hA, (iif_f (fun h => c2 h.2)).symm⟩
  · rw [mx_atF hm ⟨by decide, by decide⟩ r0 r1 c, if_pos w_00]
    exact hq _ _ ⟨cq_r hA, (iif_f (fun h => c (at_0.mpr h.1))).symm⟩
def mp112_0 (a0 a1 a2 : Int) (μ : mi_M) : Prop := cvA μ ∧ mx_R a0 ∧ mx_R a1 ∧ mx_R a2
def mq112_0 (a0 a1 a2 : Int) (μ : mi_M) (r : Int) (ν : mi_M) : Prop := cq μ ν ∧ r = sq_sum (sc_m μ) a0 a1 a2
theorem mc112_0 {a0 a1 a2 : Int} (hp : mp112_0 a0 a1 a2 μ) (hq : ∀ r ν, mq112_0 a0 a1 a2 μ r ν → Q (.inl (some (.inl r))) mi_G0 ν) : mi_cok X 112 [(.inr (.inl (some 0))), (.inl a0), (.inl a1), (.inl a2)] mi_G0 μ u Q := by
  obtain ⟨hA, r0, r1, r2⟩ := hp
  have hm := hA.1
  obtain ⟨⟨w1, w2⟩, ⟨g1, g2⟩, ⟨f1, f2⟩, -⟩ := id hm
  apply me112_0
  by_cases c : sc_at (sc_m μ) 0 a0 a1
  · rw [mx_atT hm c, if_neg w_10]
    obtain ⟨⟨v1, v2⟩, x1, x2, y1, y2⟩ := id c
    by_cases c2 : 0 ≤ a2 ∧ a2 ≤ sc_m μ 2
    · rw [mx_shT hm c2, if_neg w_10]
      refine ⟨rch hA (by decide) (by decide), fun ν hν => ?_⟩
      obtain ⟨hcq, es, hcv⟩ := rch_q hν
      have e := hcv.2.1 (by decide)
      rw [es] at e
      rw [mx_cell x1 (by omega) y1 (by omega), e a0 a1 a2 x1 x2 y1 y2 c2.1 (by omega)]
      exact ⟨by omega, hq _ _ ⟨hcq, (iif_t ⟨c.2, c2⟩).symm⟩⟩
    · rw [mx_shF hm r2 c2, if_pos w_00]
      exact hq _ _ ⟨cq_r hA, (iif_f (fun h => c2 h.2)).symm⟩
  · rw [mx_atF hm ⟨by decide, by decide⟩ r0 r1 c, if_pos w_00]
    exact hq _ _ ⟨cq_r hA, (iif_f (fun h => c (at_0.mpr h.1))).symm⟩
def mp111_0 (a0 a1 a2 a3 : Int) (μ : mi_M) : Prop := cvA μ ∧ mx_R a0 ∧ mx_R a1 ∧ mx_R a2 ∧ mx_R a3
def mq111_0 (a0 a1 a2 a3 : Int) (μ : mi_M) (r : Int) (ν : mi_M) : Prop := cq μ ν ∧ r = sq_path (sc_m μ) a0 a1 a2 a3
theorem mc111_0 {a0 a1 a2 a3 : Int} (hp : mp111_0 a0 a1 a2 a3 μ) (hq : ∀ r ν, mq111_0 a0 a1 a2 a3 μ r ν → Q (.inl (some (.inl r))) mi_G0 ν) : mi_cok X 111 [(.inr (.inl (some 0))), (.inl a0), (.inl a1), (.inl a2), (.inl a3)] mi_G0 μ u Q := by
  obtain ⟨hA, r0, r1, r2, r3⟩ := hp
  have hm := hA.1
  obtain ⟨⟨w1, w2⟩, ⟨g1, g2⟩, ⟨f1, f2⟩, -⟩ := id hm
  apply me111_0
  rw [mx_within r0 ⟨by decide, by decide⟩ ⟨by decide, by decide⟩]
  by_cases c0 : 0 ≤ a0 ∧ a0 ≤ 7
  · rw [if_pos c0, if_neg w_10]
    by_cases c : sc_at (sc_m μ) 0 a1 a2
    · rw [mx_atT hm c, if_neg w_10]
      obtain ⟨⟨v1, v2⟩, x1, x2, y1, y2⟩ := id c
      by_cases c2 : 0 ≤ a3 ∧ a3 ≤ sc_m μ 2
      · rw [mx_shT hm c2, if_neg w_10]
        refine ⟨rch hA (by decide) (by decide), fun ν hν => ?_⟩
        obtain ⟨hcq, es, hcv⟩ := rch_q hν
        obtain ⟨b1, tw, b3, b4⟩ := id hcq.2
        refine ⟨⟨by rw [es]; exact hm, by omega, (hcv.1 (by decide)).2, tw.1, fun e => tw.2 a0 c0.1 e⟩, fun ρ ⟨q1, q2, q3⟩ => ?_⟩
        have es2 : sc_m ρ = sc_m ν := sc_m_frl q1 (by decide) (by decide) (by decide)
        rw [mx_cell x1 (by omega) y1 (by omega)]
        rw [es] at q3
        rw [q3 a1 a2 a3 x1 x2 y1 y2 c2.1 c2.2]
        refine ⟨by omega, hq _ _ ⟨⟨fr_lt hcq.1 (fr_lm q1 rfl), ⟨by rw [q1 0 (by decide)]; exact b1, ⟨by rw [q2]; omega, fun r h1 h2 => ?_⟩, fun h => ?_, by rw [q1 0 (by decide)]; exact cvu_fr q1 rfl (fun _ => by decide) (fun _ => by decide) (fun _ => by decide) (fun _ => by decide) (fun _ => by decide) b4⟩⟩, (iif_t ⟨c0, c.2, c2⟩).symm⟩⟩
        · rw [q2] at h2
          subst h2
          rw [es2, es]; exact q3
        · rw [q1 0 (by decide)] at h
          have := hν.2.2
          omega
      · rw [mx_shF hm r3 c2, if_pos w_00]
        exact hq _ _ ⟨cq_r hA, (iif_f (fun h => c2 h.2.2)).symm⟩
    · rw [mx_atF hm ⟨by decide, by decide⟩ r1 r2 c, if_pos w_00]
      exact hq _ _ ⟨cq_r hA, (iif_f (fun h => c (at_0.mpr h.2.1))).symm⟩
  · rw [if_neg c0, if_pos w_00]
    exact hq _ _ ⟨cq_r hA, (iif_f (fun h => c0 h.1)).symm⟩
def mp115_0 (a0 a1 a2 : Int) (μ : mi_M) : Prop := cvA μ ∧ mx_R a0 ∧ mx_R a1 ∧ mx_R a2
def mq115_0 (a0 a1 a2 : Int) (μ : mi_M) (r : Int) (ν : mi_M) : Prop := cq μ ν ∧ r = sq_kind (sc_m μ) a0 a1 a2
theorem mc115_0 {a0 a1 a2 : Int} (hp : mp115_0 a0 a1 a2 μ) (hq : ∀ r ν, mq115_0 a0 a1 a2 μ r ν → Q (.inl (some (.inl r))) mi_G0 ν) : mi_cok X 115 [(.inr (.inl (some 0))), (.inl a0), (.inl a1), (.inl a2)] mi_G0 μ u Q := by
  obtain ⟨hA, r0, r1, r2⟩ := hp
  have hm := hA.1
  obtain ⟨⟨w1, w2⟩, ⟨g1, g2⟩, ⟨f1, f2⟩, -⟩ := id hm
  apply me115_0
  by_cases c : sc_at (sc_m μ) a0 a1 a2
  · rw [mx_atT hm c, if_neg w_10]
    obtain ⟨⟨v1, v2⟩, x1, x2, y1, y2⟩ := id c
    refine ⟨rch hA (by decide) (by decide), fun ν hν => ?_⟩
    obtain ⟨hcq, es, hcv⟩ := rch_q hν
    have e := (hcv.2.2.2.1 (by decide)).1
    rw [es] at e
    rw [mx_spot y1 (by omega), e a0 a1 a2 v1 v2 x1 x2 y1 y2]
    exact ⟨by omega, hq _ _ ⟨hcq, (iif_t c).symm⟩⟩
  · rw [mx_atF hm r0 r1 r2 c, if_pos w_00]
    exact hq _ _ ⟨cq_r hA, (iif_f (c)).symm⟩
def mp116_0 (a0 a1 : Int) (μ : mi_M) : Prop := cvA μ ∧ mx_R a0 ∧ mx_R a1
def mq116_0 (a0 a1 : Int) (μ : mi_M) (r : Int) (ν : mi_M) : Prop := cq μ ν ∧ r = sq_kinds (sc_m μ) a0 a1
theorem mc116_0 {a0 a1 : Int} (hp : mp116_0 a0 a1 μ) (hq : ∀ r ν, mq116_0 a0 a1 μ r ν → Q (.inl (some (.inl r))) mi_G0 ν) : mi_cok X 116 [(.inr (.inl (some 0))), (.inl a0), (.inl a1)] mi_G0 μ u Q := by
  obtain ⟨hA, r0, r1⟩ := hp
  have hm := hA.1
  obtain ⟨⟨w1, w2⟩, ⟨g1, g2⟩, ⟨f1, f2⟩, -⟩ := id hm
  apply me116_0
  rw [mx_view r0]
  by_cases c : 0 ≤ a0 ∧ a0 ≤ 1
  · rw [if_pos c, if_neg w_10, mx_within r1 ⟨by decide, by decide⟩ ⟨by decide, by decide⟩]
    by_cases c1 : 0 ≤ a1 ∧ a1 ≤ 2
    · rw [if_pos c1, if_neg w_10]
      refine ⟨rch hA (by decide) (by decide), fun ν hν => ?_⟩
      obtain ⟨hcq, es, hcv⟩ := rch_q hν
      exact ⟨⟨by rw [es]; exact hm, c, r1, (hcv.2.2.2.1 (by decide)).1⟩, hq _ _ ⟨hcq, by unfold sq_kinds mv20_71; rw [iif_t ⟨c, c1⟩, es]⟩⟩
    · rw [if_neg c1, if_pos w_00]
      exact hq _ _ ⟨cq_r hA, (iif_f (fun h => c1 h.2)).symm⟩
  · rw [if_neg c, if_pos w_00]
    exact hq _ _ ⟨cq_r hA, (iif_f (fun h => c h.1)).symm⟩
def mp117_0 (a0 a1 a2 : Int) (μ : mi_M) : Prop := cvA μ ∧ mx_R a0 ∧ mx_R a1 ∧ mx_R a2
def mq117_0 (a0 a1 a2 : Int) (μ : mi_M) (r : Int) (ν : mi_M) : Prop := cq μ ν ∧ r = sq_piece (sc_m μ) a0 a1 a2
theorem mc117_0 {a0 a1 a2 : Int} (hp : mp117_0 a0 a1 a2 μ) (hq : ∀ r ν, mq117_0 a0 a1 a2 μ r ν → Q (.inl (some (.inl r))) mi_G0 ν) : mi_cok X 117 [(.inr (.inl (some 0))), (.inl a0), (.inl a1), (.inl a2)] mi_G0 μ u Q := by
  obtain ⟨hA, r0, r1, r2⟩ := hp
  have hm := hA.1
  obtain ⟨⟨w1, w2⟩, ⟨g1, g2⟩, ⟨f1, f2⟩, -⟩ := id hm
  apply me117_0
  by_cases c : sc_at (sc_m μ) a0 a1 a2
  · rw [mx_atT hm c, if_neg w_10]
    obtain ⟨⟨v1, v2⟩, x1, x2, y1, y2⟩ := id c
    refine ⟨rch hA (by decide) (by decide), fun ν hν => ?_⟩
    obtain ⟨hcq, es, hcv⟩ := rch_q hν
    have hcp : cpl ν (sc_m μ) a0 := by
      have := (hcv.2.2.2.1 (by decide)).2
      rw [es] at this
      rcases (show a0 = 0 ∨ a0 = 1 by omega) with rfl | rfl
      · exact this.1
      · exact this.2
    have hm1 : mi_wr (-1) = -1 := by decide
    have rb := rt_b (v := a0) w2 g2 c.2
    have rkb := rk_b (m := sc_m μ) (v := a0) rb.1
    have el := hcp.1 a1 a2 c.2
    unfold mp56_76 mv56_76
    rw [mx_spot y1 (by omega), el, hm1]
    by_cases ck : sp_k0 (sc_m μ) a0 a1 a2 = 0
    · have e78 := hcp.2.1 _ rb.1 rb.2.2 (sz_p c.2 ck)
      rw [if_pos ck, mi_wr_id (by omega) (by omega), if_neg (by omega), if_neg (by omega), show a0 * 192 + rk (sc_m μ) a0 (rt (sc_m μ) a0 a1 a2) = 192 * a0 + rk (sc_m μ) a0 (rt (sc_m μ) a0 a1 a2) by omega, e78]
      exact ⟨⟨by omega, by omega, by omega⟩, hq _ _ ⟨hcq, by unfold sq_piece; rw [iif_t c, if_pos ck]⟩⟩
    · rw [if_neg ck, hm1, if_pos rfl, if_pos rfl]
      exact ⟨⟨by omega, trivial⟩, hq _ _ ⟨hcq, by unfold sq_piece; rw [iif_t c, if_neg ck]⟩⟩
  · rw [mx_atF hm r0 r1 r2 c, if_pos w_00]
    exact hq _ _ ⟨cq_r hA, (iif_f (c)).symm⟩
def mp118_0 (a0 a1 : Int) (μ : mi_M) : Prop := cvA μ ∧ mx_R a0 ∧ mx_R a1
def mq118_0 (a0 a1 : Int) (μ : mi_M) (r : Int) (ν : mi_M) : Prop := cq μ ν ∧ r = sq_pieces (sc_m μ) a0 a1
theorem mc118_0 {a0 a1 : Int} (hp : mp118_0 a0 a1 μ) (hq : ∀ r ν, mq118_0 a0 a1 μ r ν → Q (.inl (some (.inl r))) mi_G0 ν) : mi_cok X 118 [(.inr (.inl (some 0))), (.inl a0), (.inl a1)] mi_G0 μ u Q := by
  obtain ⟨hA, r0, r1⟩ := hp
  have hm := hA.1
  obtain ⟨⟨w1, w2⟩, ⟨g1, g2⟩, ⟨f1, f2⟩, -⟩ := id hm
  apply me118_0
  have h11 : mi_wr 1 = 1 := by decide
  rw [mx_view r0, h11, mx_wr r1]
  by_cases c : 0 ≤ a0 ∧ a0 ≤ 1
  · rw [if_pos c, if_neg w_10]
    by_cases c1 : 0 ≤ a1 ∧ a1 ≤ 1
    · rw [if_neg (by omega), if_neg (by omega)]
      refine ⟨rch hA (by decide) (by decide), fun ν hν => ?_⟩
      obtain ⟨hcq, es, hcv⟩ := rch_q hν
      have hcp : cpl ν (sc_m μ) a0 := by
        have := (hcv.2.2.2.1 (by decide)).2
        rw [es] at this
        rcases (show a0 = 0 ∨ a0 = 1 by omega) with rfl | rfl
        · exact this.1
        · exact this.2
      have hp57 : mp57_76 a0 ν := ⟨by rw [es]; exact hm, c, by rw [es]; exact hcp⟩
      by_cases c2 : a1 = 0
      · rw [if_pos c2]
        exact ⟨hp57, hq _ _ ⟨hcq, by unfold sq_pieces mv57_76; rw [iif_t ⟨c, c1⟩, if_pos c2, es]⟩⟩
      · rw [if_neg c2]
        obtain ⟨p1, p2⟩ := mx_great hp57
        rw [es] at p2
        exact ⟨p1, hq _ _ ⟨hcq, by rw [p2]; unfold sq_pieces; rw [iif_t ⟨c, c1⟩, if_neg c2]⟩⟩
    · have hno : sq_pieces (sc_m μ) a0 a1 = -1 := iif_f (fun h => c1 h.2)
      by_cases c2 : a1 < 0
      · rw [if_pos c2]; exact hq _ _ ⟨cq_r hA, hno.symm⟩
      · rw [if_neg c2, if_pos (by omega)]; exact hq _ _ ⟨cq_r hA, hno.symm⟩
  · rw [if_neg c, if_pos w_00]
    exact hq _ _ ⟨cq_r hA, (iif_f (fun h => c h.1)).symm⟩
def mp119_0 (a0 a1 a2 : Int) (μ : mi_M) : Prop := cvA μ ∧ mx_R a0 ∧ mx_R a1 ∧ mx_R a2
def mq119_0 (a0 a1 a2 : Int) (μ : mi_M) (r : Int) (ν : mi_M) : Prop := cq μ ν ∧ r = sq_pat (sc_m μ) a0 a1 a2
theorem mc119_0 {a0 a1 a2 : Int} (hp : mp119_0 a0 a1 a2 μ) (hq : ∀ r ν, mq119_0 a0 a1 a2 μ r ν → Q (.inl (some (.inl r))) mi_G0 ν) : mi_cok X 119 [(.inr (.inl (some 0))), (.inl a0), (.inl a1), (.inl a2)] mi_G0 μ u Q := by
  obtain ⟨hA, r0, r1, r2⟩ := hp
  have hm := hA.1
  obtain ⟨⟨w1, w2⟩, ⟨g1, g2⟩, ⟨f1, f2⟩, -⟩ := id hm
  apply me119_0
  have hm1 : mi_wr (-1) = -1 := by decide
  rw [mx_view r0, mx_wr r1, mx_within r2 ⟨by decide, by decide⟩ ⟨by decide, by decide⟩, hm1]
  by_cases c : 0 ≤ a0 ∧ a0 ≤ 1
  · rw [if_pos c, if_neg w_10]
    by_cases c1 : a1 < 0
    · rw [if_pos c1]
      exact hq _ _ ⟨cq_r hA, (iif_f (fun h => by have := h.2.1; omega)).symm⟩
    · rw [if_neg c1]
      by_cases c2 : 0 ≤ a2 ∧ a2 ≤ 7
      · rw [if_pos c2, if_neg w_10]
        refine ⟨rch hA (by decide) (by decide), fun ν hν => ?_⟩
        obtain ⟨hcq, es, hcv⟩ := rch_q hν
        have hcp : cpl ν (sc_m μ) a0 := by
          have := (hcv.2.2.2.1 (by decide)).2
          rw [es] at this
          rcases (show a0 = 0 ∨ a0 = 1 by omega) with rfl | rfl
          · exact this.1
          · exact this.2
        have hp57 : mp57_76 a0 ν := ⟨by rw [es]; exact hm, c, by rw [es]; exact hcp⟩
        refine ⟨⟨hp57, r1⟩, ?_⟩
        unfold mv59_76
        rw [es]
        have hf := fst_s (P := rkP (sc_m μ) a0 a1) 192 0 (by decide)
        by_cases c3 : sp_rd (sc_m μ) a0 a1 = -1
        · rw [if_pos c3, hm1, if_pos rfl]
          exact hq _ _ ⟨hcq, by unfold sq_pat; rw [iif_t ⟨c, by omega, c2⟩, if_pos c3]⟩
        · rcases hf with ⟨h1, -⟩ | ⟨h1, h2, h3⟩
          · exact absurd h1 c3
          · have q1 : 0 ≤ sp_rd (sc_m μ) a0 a1 := h1
            have q2 : sp_rd (sc_m μ) a0 a1 < 192 := by show fst_v (rkP (sc_m μ) a0 a1) 192 0 < 192; omega
            have q3 : sp_keep (sc_m μ) a0 (sp_rd (sc_m μ) a0 a1) := h3.1
            have rkb := rk_b (m := sc_m μ) (v := a0) q1
            rw [if_neg c3, mi_wr_id (by omega) (by omega), if_neg (by omega)]
            intro Q_ hQ
            have hs := hcv.2.2.1 (by decide)
            have hcall := mc61_76 (X := X) (Q := Q_) (u := (0, 0)) (w0 := a2) hp57 hs q1 q2 (by rw [es]; exact q3.1) c2.1 c2.2 (hQ _ _ (hq _ _ ⟨hcq, by unfold sq_pat; rw [iif_t ⟨c, by omega, c2⟩, if_neg c3, es]⟩))
            rw [es] at hcall
            exact hcall
      · rw [if_neg c2, if_pos w_00]
        exact hq _ _ ⟨cq_r hA, (iif_f (fun h => c2 h.2.2)).symm⟩
  · rw [if_neg c, if_pos w_00]
    exact hq _ _ ⟨cq_r hA, (iif_f (fun h => c h.1)).symm⟩
def mp121_0 (a0 : Int) (μ : mi_M) : Prop := cvA μ ∧ mx_R a0
def mq121_0 (a0 : Int) (μ : mi_M) (r : Int) (ν : mi_M) : Prop := cq μ ν ∧ r = sq_ground (sc_m μ) a0
theorem mc121_0 {a0 : Int} (hp : mp121_0 a0 μ) (hq : ∀ r ν, mq121_0 a0 μ r ν → Q (.inl (some (.inl r))) mi_G0 ν) : mi_cok X 121 [(.inr (.inl (some 0))), (.inl a0)] mi_G0 μ u Q := by
  obtain ⟨hA, r0⟩ := hp
  have hm := hA.1
  obtain ⟨⟨w1, w2⟩, ⟨g1, g2⟩, ⟨f1, f2⟩, -⟩ := id hm
  apply me121_0
  rw [mx_within r0 ⟨by decide, by decide⟩ ⟨by decide, by decide⟩]
  by_cases c : 0 ≤ a0 ∧ a0 ≤ 2
  · rw [if_pos c, if_neg w_10]
    refine ⟨rch hA (by decide) (by decide), fun ν hν => ?_⟩
    obtain ⟨hcq, es, hcv⟩ := rch_q hν
    refine ⟨⟨⟨by rw [es]; exact hm, hcv.2.2.1 (by decide), (hcv.2.2.2.1 (by decide)).1⟩, c⟩, fun r ρ ⟨q1, q2⟩ => ?_⟩
    rw [es] at q2
    obtain ⟨b1, tw, b3, b4⟩ := id hcq.2
    exact hq _ _ ⟨⟨fr_lt hcq.1 (fr_lm (fr_l1 q1) rfl), ⟨by rw [q1 0 (by decide)]; exact b1, tw_fr (fr_l1 q1) rfl tw, fun h => by rw [q1 0 (by decide)] at h; rw [q1 66 (by decide)]; exact b3 h, by rw [q1 0 (by decide)]; exact cvu_fr (fr_l1 q1) rfl (fun _ => by decide) (fun _ => by decide) (fun _ => by decide) (fun _ => by decide) (fun _ => by decide) b4⟩⟩, by unfold sq_ground; rw [iif_t c]; exact q2⟩
  · rw [if_neg c, if_pos w_00]
    exact hq _ _ ⟨cq_r hA, (iif_f (c)).symm⟩
def mp122_0 (a0 a1 : Int) (μ : mi_M) : Prop := cvA μ ∧ mx_R a0 ∧ mx_R a1
def mq122_0 (a0 a1 : Int) (μ : mi_M) (r : Int) (ν : mi_M) : Prop := cq μ ν ∧ r = sq_votes (sc_m μ) a0 a1
theorem mc122_0 {a0 a1 : Int} (hp : mp122_0 a0 a1 μ) (hq : ∀ r ν, mq122_0 a0 a1 μ r ν → Q (.inl (some (.inl r))) mi_G0 ν) : mi_cok X 122 [(.inr (.inl (some 0))), (.inl a0), (.inl a1)] mi_G0 μ u Q := by
  obtain ⟨hA, r0, r1⟩ := hp
  have hm := hA.1
  obtain ⟨⟨w1, w2⟩, ⟨g1, g2⟩, ⟨f1, f2⟩, -⟩ := id hm
  apply me122_0
  have s2 : μ 2 0 = sc_m μ 2 := (sc_m_c μ).2.2.1 0 (by decide) (by decide)
  rw [s2, mx_within r0 ⟨by decide, by decide⟩ ⟨by omega, by omega⟩, mx_within r1 ⟨by decide, by decide⟩ ⟨by decide, by decide⟩]
  by_cases c : 0 ≤ a0 ∧ a0 ≤ 8 * sc_m μ 2
  · rw [if_pos c, if_neg w_10]
    by_cases c1 : 0 ≤ a1 ∧ a1 ≤ 8
    · rw [if_pos c1, if_neg w_10]
      refine ⟨rch hA (by decide) (by decide), fun ν hν => ?_⟩
      obtain ⟨hcq, es, hcv⟩ := rch_q hν
      refine ⟨⟨by rw [es]; exact hm, hcv.2.2.1 (by decide), (hcv.2.2.2.1 (by decide)).1⟩, fun r ρ ⟨q1, q2, q3⟩ => ?_⟩
      rw [es] at q2 q3
      have es2 : sc_m ρ = sc_m μ := (sc_m_frl (fr_l1 q1) (by decide) (by decide) (by decide)).trans es
      obtain ⟨b1, tw, b3, b4⟩ := id hcq.2
      refine ⟨⟨by rw [es2]; exact hm, by omega, c1, by rw [es2]; exact q3⟩, hq _ _ ⟨⟨fr_lt hcq.1 (fr_lm (fr_l1 q1) rfl), ⟨by rw [q1 0 (by decide)]; exact b1, tw_fr (fr_l1 q1) rfl tw, fun h => by rw [q1 0 (by decide)] at h; rw [q1 66 (by decide)]; exact b3 h, by rw [q1 0 (by decide)]; exact cvu_fr (fr_l1 q1) rfl (fun _ => by decide) (fun _ => by decide) (fun _ => by decide) (fun _ => by decide) (fun _ => by decide) b4⟩⟩, by unfold sq_votes mv9_84; rw [iif_t ⟨c, c1⟩, es2]⟩⟩
    · rw [if_neg c1, if_pos w_00]
      exact hq _ _ ⟨cq_r hA, (iif_f (fun h => c1 h.2)).symm⟩
  · rw [if_neg c, if_pos w_00]
    exact hq _ _ ⟨cq_r hA, (iif_f (fun h => c h.1)).symm⟩
def mp123_0 (a0 a1 a2 : Int) (μ : mi_M) : Prop := cvA μ ∧ mx_R a0 ∧ mx_R a1 ∧ mx_R a2
def mq123_0 (a0 a1 a2 : Int) (μ : mi_M) (r : Int) (ν : mi_M) : Prop := cq μ ν ∧ r = sq_bt (sc_m μ) a0 a1 a2
theorem mc123_0 {a0 a1 a2 : Int} (hp : mp123_0 a0 a1 a2 μ) (hq : ∀ r ν, mq123_0 a0 a1 a2 μ r ν → Q (.inl (some (.inl r))) mi_G0 ν) : mi_cok X 123 [(.inr (.inl (some 0))), (.inl a0), (.inl a1), (.inl a2)] mi_G0 μ u Q := by
  obtain ⟨hA, r0, r1, r2⟩ := hp
  have hm := hA.1
  obtain ⟨⟨w1, w2⟩, ⟨g1, g2⟩, ⟨f1, f2⟩, -⟩ := id hm
  apply me123_0
  rw [mx_within r0 ⟨by decide, by decide⟩ ⟨by decide, by decide⟩]
  by_cases c0 : 0 ≤ a0 ∧ a0 ≤ 4
  · rw [if_pos c0, if_neg w_10]
    by_cases c : sc_at (sc_m μ) 0 a1 a2
    · rw [mx_atT hm c, if_neg w_10]
      refine ⟨rch hA (by decide) (by decide), fun ν hν => ?_⟩
      obtain ⟨hcq, es, hcv⟩ := rch_q hν
      obtain ⟨p1, p2⟩ := mx_bt (μ := ν) (by rw [es]; exact hm) c0.1 c0.2 (by rw [es]; exact c.2) (hcv.2.2.2.2 (by decide))
      rw [es] at p2
      rw [p2]
      exact ⟨p1, hq _ _ ⟨hcq, (iif_t ⟨c0, c.2⟩).symm⟩⟩
    · rw [mx_atF hm ⟨by decide, by decide⟩ r1 r2 c, if_pos w_00]
      exact hq _ _ ⟨cq_r hA, (iif_f (fun h => c (at_0.mpr h.2))).symm⟩
  · rw [if_neg c0, if_pos w_00]
    exact hq _ _ ⟨cq_r hA, (iif_f (fun h => c0 h.1)).symm⟩
def mp127_0 (a0 a1 : Int) (μ : mi_M) : Prop := cvA μ ∧ mx_R a0 ∧ mx_R a1
def mq127_0 (a0 a1 : Int) (μ : mi_M) (r : Int) (ν : mi_M) : Prop := cq μ ν ∧ r = sq_row (sc_m μ) a0 a1
theorem mc127_0 {a0 a1 : Int} (hp : mp127_0 a0 a1 μ) (hq : ∀ r ν, mq127_0 a0 a1 μ r ν → Q (.inl (some (.inl r))) mi_G0 ν) : mi_cok X 127 [(.inr (.inl (some 0))), (.inl a0), (.inl a1)] mi_G0 μ u Q := by
  obtain ⟨hA, r0, r1⟩ := hp
  have hm := hA.1
  obtain ⟨⟨w1, w2⟩, ⟨g1, g2⟩, ⟨f1, f2⟩, -⟩ := id hm
  apply me127_0
  have hm1 : mi_wr (-1) = -1 := by decide
  rw [hm1, mx_wr r1, ← sc_m0 μ, ← sc_m1 μ, mx_within r0 ⟨by decide, by decide⟩ ⟨by omega, by omega⟩, mx_within r1 ⟨by decide, by decide⟩ ⟨by omega, by omega⟩]
  by_cases c1 : a1 = -1
  · rw [if_pos c1]
    by_cases c : 0 ≤ a0 ∧ a0 ≤ sc_m μ 1 - 1
    · rw [if_pos c, if_neg w_10]
      refine ⟨rch hA (by decide) (by decide), fun ν hν => ?_⟩
      obtain ⟨hcq, es, hcv⟩ := rch_q hν
      refine ⟨⟨by rw [es]; exact hm, by rw [es]; omega, (hcv.1 (by decide)).2⟩, fun r ρ ⟨q1, q2, q3⟩ => ?_⟩
      rw [es] at q2 q3
      obtain ⟨b1, tw, b3, b4⟩ := id hcq.2
      have hfin : cq μ ρ := ⟨fr_lt hcq.1 (fr_lm q1 rfl), ⟨by rw [q1 0 (by decide)]; exact b1, tw_fr q1 rfl tw, fun h => by rw [q1 0 (by decide)] at h; rw [q1 66 (by decide)]; exact b3 h, by rw [q1 0 (by decide)]; exact cvu_fr q1 rfl (fun _ => by decide) (fun _ => by decide) (fun _ => by decide) (fun _ => by decide) (fun _ => by decide) b4⟩⟩
      rw [if_pos c1]
      exact hq _ _ ⟨hfin, by unfold sq_row; rw [iif_t (by omega), if_pos c1]; exact q2⟩
    · rw [if_neg c, if_pos w_00]
      exact hq _ _ ⟨cq_r hA, (iif_f (by omega)).symm⟩
  · rw [if_neg c1]
    by_cases c2 : 0 ≤ a1 ∧ a1 ≤ sc_m μ 0 - 1
    · rw [if_pos c2, if_neg w_10]
      by_cases c : 0 ≤ a0 ∧ a0 ≤ sc_m μ 1 - 1
      · rw [if_pos c, if_neg w_10]
        refine ⟨rch hA (by decide) (by decide), fun ν hν => ?_⟩
        obtain ⟨hcq, es, hcv⟩ := rch_q hν
        refine ⟨⟨by rw [es]; exact hm, by rw [es]; omega, (hcv.1 (by decide)).2⟩, fun r ρ ⟨q1, q2, q3⟩ => ?_⟩
        rw [es] at q2 q3
        obtain ⟨b1, tw, b3, b4⟩ := id hcq.2
        have hfin : cq μ ρ := ⟨fr_lt hcq.1 (fr_lm q1 rfl), ⟨by rw [q1 0 (by decide)]; exact b1, tw_fr q1 rfl tw, fun h => by rw [q1 0 (by decide)] at h; rw [q1 66 (by decide)]; exact b3 h, by rw [q1 0 (by decide)]; exact cvu_fr q1 rfl (fun _ => by decide) (fun _ => by decide) (fun _ => by decide) (fun _ => by decide) (fun _ => by decide) b4⟩⟩
        rw [if_neg c1, q3 a1 c2.1 (by omega)]
        exact ⟨by omega, hq _ _ ⟨hfin, by unfold sq_row; rw [iif_t (by omega), if_neg c1]⟩⟩
      · rw [if_neg c, if_pos w_00]
        exact hq _ _ ⟨cq_r hA, (iif_f (by omega)).symm⟩
    · rw [if_neg c2, if_pos w_00]
      exact hq _ _ ⟨cq_r hA, (iif_f (by omega)).symm⟩
end
