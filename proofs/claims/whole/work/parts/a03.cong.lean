/-! WHAT DEPENDS ON WHAT -/
/-- sizes, window, values are the same -/
def eq1 (m n : Int → Int) : Prop := n 0 = m 0 ∧ n 1 = m 1 ∧ n 3 = m 3 ∧ ∀ j, 10 ≤ j → n j = m j
def eq3 (m n : Int → Int) : Prop := eq1 m n ∧ n 2 = m 2 ∧ n 4 = m 4 ∧ n 5 = m 5 ∧ n 6 = m 6
def eq5 (m n : Int → Int) : Prop := eq3 m n ∧ n 7 = m 7 ∧ n 8 = m 8
section
variable {m n : Int → Int}
theorem eq1_in (h : eq1 m n) {x y : Int} : sc_in n x y ↔ sc_in m x y := by unfold sc_in; rw [h.1, h.2.1]
theorem cg_val (h : eq1 m n) {v x y : Int} (hv : 0 ≤ v) (hx : 0 ≤ x) (hy : 0 ≤ y) : sp_val n v x y = sp_val m v x y := h.2.2.2 _ (by omega)
theorem cg_bit (h : eq1 m n) (hm : sc_ok m) {v x y i j acc : Int} (hv : 0 ≤ v) (hi : sc_in m x y) : sp_bit n v x y i j acc = sp_bit m v x y i j acc := by
  obtain ⟨⟨w1, w2⟩, ⟨g1, g2⟩, -⟩ := id hm
  have n1 := sp_near_in (n := x + i) (hi := m 0 - 1) (by omega)
  have n2 := sp_near_in (n := y + j) (hi := m 1 - 1) (by omega)
  unfold sp_bit sp_cv
  rw [h.1, h.2.1, cg_val h hv n1.1 n2.1, cg_val h hv hi.1 hi.2.2.1]
theorem cg_crow (h : eq1 m n) (hm : sc_ok m) {v x y j : Int} (hv : 0 ≤ v) (hi : sc_in m x y) : ∀ (k : Nat) (i acc : Int), sp_crow n v x y j k i acc = sp_crow m v x y j k i acc
  | 0, _, _ => rfl
  | k + 1, i, acc => by
    show sp_crow n v x y j k (i + 1) (sp_bit n v x y i j acc) = sp_crow m v x y j k (i + 1) (sp_bit m v x y i j acc)
    rw [cg_bit h hm hv hi, cg_crow h hm hv hi k]
theorem cg_call (h : eq1 m n) (hm : sc_ok m) {v x y : Int} (hv : 0 ≤ v) (hi : sc_in m x y) : ∀ (k : Nat) (j acc : Int), sp_call n v x y k j acc = sp_call m v x y k j acc
  | 0, _, _ => rfl
  | k + 1, j, acc => by
    show sp_call n v x y k (j + 1) (sp_crow n v x y j (2 * n 3 + 1).toNat (-(n 3)) acc) = sp_call m v x y k (j + 1) (sp_crow m v x y j (2 * m 3 + 1).toNat (-(m 3)) acc)
    rw [h.2.2.1, cg_crow h hm hv hi, cg_call h hm hv hi k]
theorem cg_code (h : eq1 m n) (hm : sc_ok m) {v x y : Int} (hv : 0 ≤ v) (hi : sc_in m x y) : sp_code n v x y = sp_code m v x y := by
  unfold sp_code
  rw [h.2.2.1, cg_call h hm hv hi]
theorem cg_cost (h : eq1 m n) (hm : sc_ok m) {x y d : Int} (hi : sc_in m x y) (hd : 0 ≤ d) : sp_cost n x y d = sp_cost m x y d := by
  unfold sp_cost
  rw [h.2.2.1]
  by_cases c : x < d
  · rw [if_pos c, if_pos c]
  · obtain ⟨h1, h2, h3, h4⟩ := id hi
    rw [if_neg c, if_neg c, cg_code h hm (by decide) hi, cg_code h hm (by decide) (show sc_in m (x - d) y from ⟨by omega, by omega, h3, h4⟩)]
theorem cg_wv (h : eq3 m n) (hm : sc_ok m) {r : Int} : ∀ (k : Nat) (x y d : Int), sc_in m x y → 0 ≤ d → d ≤ m 2 → sp_wv n r k x y d = sp_wv m r k x y d
  | 0, x, y, d, hi, hd, hd' => cg_cost h.1 hm hi hd
  | k + 1, x, y, d, hi, hd, hd' => by
    show sp_cost n x y d + @ite Int (sc_in n (x - wy_x r) (y - wy_y r)) (Classical.propDecidable _) (tb_v (fun e => sp_wv n r k (x - wy_x r) (y - wy_y r) e) (n 2) (n 4) (n 5) d) 0 = sp_cost m x y d + @ite Int (sc_in m (x - wy_x r) (y - wy_y r)) (Classical.propDecidable _) (tb_v (fun e => sp_wv m r k (x - wy_x r) (y - wy_y r) e) (m 2) (m 4) (m 5) d) 0
    rw [cg_cost h.1 hm hi hd]
    by_cases c : sc_in m (x - wy_x r) (y - wy_y r)
    · rw [if_pos c, if_pos ((eq1_in h.1).mpr c), h.2.1, h.2.2.1, h.2.2.2.1, tb_eq hd hd' (fun e h1 h2 => cg_wv h hm k _ _ e c h1 h2)]
    · rw [if_neg c, if_neg (fun h' => c ((eq1_in h.1).mp h'))]
theorem cg_way (h : eq3 m n) (hm : sc_ok m) {r x y d : Int} (hi : sc_in m x y) (hd : 0 ≤ d) (hd' : d ≤ m 2) : sp_way n r x y d = sp_way m r x y d := cg_wv h hm 16 x y d hi hd hd'
theorem cg_sum (h : eq3 m n) (hm : sc_ok m) {x y d : Int} (hi : sc_in m x y) (hd : 0 ≤ d) (hd' : d ≤ m 2) : sp_sum n x y d = sp_sum m x y d := by
  unfold sp_sum
  refine sm_eq 8 (fun r _ _ => ?_)
  unfold sp_part
  rw [h.2.2.2.2, cg_way h hm hi hd hd']
theorem cg_sh (h : eq3 m n) (hm : sc_ok m) {v x y : Int} (hi : sc_in m x y) : sp_sh n v x y = sp_sh m v x y := by
  obtain ⟨-, -, ⟨f1, f2⟩, -⟩ := id hm
  obtain ⟨h1, h2, h3, h4⟩ := id hi
  have e1 : sp_sl n x y = sp_sl m x y := by
    unfold sp_sl
    rw [h.2.1]
    exact am_eq _ (fun d d1 d2 => cg_sum h hm hi d1 (by omega))
  have e2 : sp_sr n x y = sp_sr m x y := by
    have en : sr_n n x = sr_n m x := by unfold sr_n; rw [h.2.1, h.1.1]
    have nb : sr_n m x ≤ m 2 ∧ sr_n m x ≤ m 0 - 1 - x := by unfold sr_n; split <;> omega
    unfold sp_sr
    rw [en]
    exact am_eq _ (fun d d1 d2 => cg_sum h hm ⟨by omega, by omega, h3, h4⟩ d1 (by omega))
  unfold sp_sh
  rw [e1, e2]
theorem cg_sure (h : eq5 m n) (hm : sc_ok m) {v x y : Int} (hi : sc_in m x y) : sp_sure n v x y ↔ sp_sure m v x y := by
  unfold sp_sure
  rw [cg_sh h.1 hm hi, h.2.1, eq1_in h.1.1]
  constructor
  · rintro ⟨a, b⟩; rw [cg_sh h.1 hm a] at b; exact ⟨a, b⟩
  · rintro ⟨a, b⟩; exact ⟨a, by rw [cg_sh h.1 hm a]; exact b⟩
theorem cg_seen (h : eq5 m n) (hm : sc_ok m) {v x y d : Int} : sp_seen n v x y d ↔ sp_seen m v x y d := by
  unfold sp_seen
  rw [eq1_in h.1.1]
  constructor
  · rintro ⟨a, b⟩; rw [cg_sh h.1 hm a] at b; exact ⟨a, b⟩
  · rintro ⟨a, b⟩; exact ⟨a, by rw [cg_sh h.1 hm a]; exact b⟩
theorem cg_k0 (h : eq5 m n) (hm : sc_ok m) {v x y : Int} (hi : sc_in m x y) : sp_k0 n v x y = sp_k0 m v x y := by
  by_cases c : sp_sure m v x y
  · rw [sp_k0_0 c, sp_k0_0 ((cg_sure h hm hi).mpr c)]
  · have c' : ¬ sp_sure n v x y := fun hh => c ((cg_sure h hm hi).mp hh)
    by_cases c2 : ∃ d, 0 ≤ d ∧ d ≤ m 2 ∧ sp_seen m v x y d
    · obtain ⟨d, d1, d2, d3⟩ := c2
      rw [sp_k0_1 c d1 d2 d3, sp_k0_1 c' d1 (by rw [h.1.2.1]; exact d2) ((cg_seen h hm).mpr d3)]
    · rw [sp_k0_2 c (fun d d1 d2 d3 => c2 ⟨d, d1, d2, d3⟩), sp_k0_2 c' (fun d d1 d2 d3 => c2 ⟨d, d1, by rw [h.1.2.1] at d2; exact d2, (cg_seen h hm).mp d3⟩)]
theorem cg_lk (h : eq5 m n) (hm : sc_ok m) {v x y i j : Int} : lk n v x y i j ↔ lk m v x y i j := by
  unfold lk
  rw [eq1_in h.1.1, eq1_in h.1.1]
  constructor
  · rintro ⟨a, b, c, d, e, f⟩
    rw [cg_k0 h hm b] at d
    rw [cg_k0 h hm c] at e
    rw [cg_sh h.1 hm b, cg_sh h.1 hm c] at f
    exact ⟨a, b, c, d, e, f⟩
  · rintro ⟨a, b, c, d, e, f⟩
    exact ⟨a, b, c, by rw [cg_k0 h hm b]; exact d, by rw [cg_k0 h hm c]; exact e, by rw [cg_sh h.1 hm b, cg_sh h.1 hm c]; exact f⟩
theorem cg_cn (h : eq5 m n) (hm : sc_ok m) {v x y i j : Int} : cn n v x y i j ↔ cn m v x y i j :=
  ⟨fun hc P h1 h2 => hc P h1 (fun a b c d g1 g2 => h2 a b c d g1 ((cg_lk h hm).mp g2)), fun hc P h1 h2 => hc P h1 (fun a b c d g1 g2 => h2 a b c d g1 ((cg_lk h hm).mpr g2))⟩
theorem cg_rt (h : eq5 m n) (hm : sc_ok m) {v x y : Int} (hi : sc_in m x y) : rt n v x y = rt m v x y := by
  obtain ⟨⟨a, b, g1, g2⟩, g3⟩ := rt_s (v := v) hi
  exact rt_u ((eq1_in h.1.1).mpr hi) ⟨a, b, (cg_cn h hm).mpr g1, g2⟩ (fun i j hc => g3 i j ((cg_cn h hm).mp hc))
theorem cg_srt (h : eq5 m n) (hm : sc_ok m) {v x y : Int} (hi : sc_in m x y) : sp_rt n v x y = sp_rt m v x y := by
  unfold sp_rt; rw [cg_k0 h hm hi, cg_rt h hm hi]
theorem cg_sz (h : eq5 m n) (hm : sc_ok m) {v r : Int} : sz n v r = sz m v r := by
  unfold sz
  rw [h.1.1.1, h.1.1.2.1]
  exact sm2_eq (fun x y h1 h2 h3 h4 => by rw [cg_srt h hm ⟨h1, h2, h3, h4⟩])
theorem cg_rk (h : eq5 m n) (hm : sc_ok m) {v r : Int} : rk n v r = rk m v r := by
  unfold rk
  exact sm_eq _ (fun i _ _ => by rw [cg_sz h hm])
theorem cg_kn (h : eq5 m n) (hm : sc_ok m) {v x y : Int} (hi : sc_in m x y) : sp_kn n v x y = sp_kn m v x y := by
  unfold sp_kn; rw [cg_k0 h hm hi, cg_rt h hm hi, cg_sz h hm, h.2.2]
theorem cg_ns (h : eq5 m n) (hm : sc_ok m) {v dx dy : Int} : ∀ (k : Nat) (i j : Int), ns_v n v dx dy k i j = ns_v m v dx dy k i j
  | 0, _, _ => rfl
  | k + 1, i, j => by
    by_cases c : sc_in m i j
    · rw [ns_in c, ns_in ((eq1_in h.1.1).mpr c), cg_kn h hm c, cg_sh h.1 hm c, cg_ns h hm k]
    · rw [ns_out c, ns_out (fun h' => c ((eq1_in h.1.1).mp h'))]
theorem cg_fill (h : eq5 m n) (hm : sc_ok m) {v x y : Int} (hi : sc_in m x y) : sp_fill n v x y = sp_fill m v x y := by
  have e : ∀ dx dy, sp_ns n v x y dx dy = sp_ns m v x y dx dy := fun dx dy => cg_ns h hm 16 _ _
  have e1 : sp_hf n v x y = sp_hf m v x y := by unfold sp_hf; rw [e, e]
  have e2 : ∀ s, sp_cs n v x y 8 s = sp_cs m v x y 8 s := fun s => by unfold sp_cs; exact sm_eq _ (fun r _ _ => by rw [e])
  have e3 : sp_mn n v x y 8 = sp_mn m v x y 8 := by unfold sp_mn; exact sm_eq _ (fun r _ _ => by rw [e])
  have e4 : sp_uf n v x y = sp_uf m v x y := by
    unfold sp_uf
    rw [e3, show (fun s => sp_cs n v x y 8 s) = (fun s => sp_cs m v x y 8 s) from funext e2]
  unfold sp_fill
  rw [cg_kn h hm hi, cg_sh h.1 hm hi, e1, e4]
end
/-! maps that are right stay so -/
section
variable {μ : mi_M} {m n : Int → Int}
theorem mp_cg {c : Nat} {f g : Int → Int → Int → Int} (h : eq1 m n) (he : ∀ v x y, 0 ≤ v → sc_in m x y → g v x y = f v x y) (hm : mp_is μ c m f) : mp_is μ c n g := fun v x y h1 h2 h3 h4 h5 h6 => by
  rw [h.1] at h4
  rw [h.2.1] at h6
  rw [he v x y h1 ⟨h3, h4, h5, h6⟩]
  exact hm v x y h1 h2 h3 h4 h5 h6
theorem ct_cg {c : Nat} {k : Int} {f g : Int → Int → Int → Int} (h : eq1 m n) (he : ∀ x y d, sc_in m x y → 0 ≤ d → d < k → g x y d = f x y d) (hm : ct_is μ c m k f) : ct_is μ c n k g := fun x y d h1 h2 h3 h4 h5 h6 => by
  rw [h.1] at h2
  rw [h.2.1] at h4
  rw [he x y d ⟨h1, h2, h3, h4⟩ h5 h6]
  exact hm x y d h1 h2 h3 h4 h5 h6
theorem cpl_cg {v : Int} (h : eq5 m n) (hm : sc_ok m) (hc : cpl μ m v) : cpl μ n v := by
  refine ⟨fun x y hi => ?_, fun r h1 h2 h3 => ?_, ?_⟩
  · have hi' := (eq1_in h.1.1).mp hi
    rw [cg_k0 h hm hi', cg_rt h hm hi', cg_rk h hm]
    exact hc.1 x y hi'
  · rw [cg_sz h hm] at h3 ⊢
    rw [cg_rk h hm]
    exact hc.2.1 r h1 h2 h3
  · rw [cg_rk h hm]; exact hc.2.2
/-- levels stay right under another dial -/
theorem cvu_cg {ν : mi_M} {k : Int} (hk : cvu k μ) (hm : sc_ok (sc_m μ)) (h1 : 1 ≤ k → eq1 (sc_m μ) (sc_m ν)) (h2 : 2 ≤ k → eq3 (sc_m μ) (sc_m ν)) (h4 : 4 ≤ k → eq5 (sc_m μ) (sc_m ν)) (hf : ∀ q, 67 ≤ q → q ≤ 79 → ν q = μ q) : cvu k ν := by
  obtain ⟨a1, a2, a3, a4, a5⟩ := hk
  refine ⟨fun e => ⟨mp_is_fr (hf 67 (by decide) (by decide)) (mp_cg (h1 e) (fun v x y hv hi => cg_code (h1 e) hm hv hi) (a1 e).1), ct_is_fr (hf 68 (by decide) (by decide)) (ct_cg (h1 e) (fun x y d hi d1 d2 => cg_cost (h1 e) hm hi d1) (a1 e).2)⟩, fun e => ?_, fun e => ?_, fun e => ?_, fun e => ?_⟩
  · have h := h2 e
    have := ct_cg h.1 (fun x y d hi d1 d2 => cg_sum h hm hi d1 (by omega)) (a2 e)
    rw [← h.2.1] at this
    exact ct_is_fr (hf 69 (by decide) (by decide)) this
  · have h := h2 (by omega)
    exact mp_is_fr (hf 72 (by decide) (by decide)) (mp_cg h.1 (fun v x y hv hi => cg_sh h hm hi) (a3 e))
  · have h := h4 e
    exact ⟨mp_is_fr (hf 73 (by decide) (by decide)) (mp_cg h.1.1 (fun v x y hv hi => cg_kn h hm hi) (a4 e).1), cpl_fr (hf 77 (by decide) (by decide)) (hf 78 (by decide) (by decide)) (hf 79 (by decide) (by decide)) (cpl_cg h hm (a4 e).2.1), cpl_fr (hf 77 (by decide) (by decide)) (hf 78 (by decide) (by decide)) (hf 79 (by decide) (by decide)) (cpl_cg h hm (a4 e).2.2)⟩
  · have h := h4 (by omega)
    exact mp_is_fr (hf 74 (by decide) (by decide)) (mp_cg h.1.1 (fun v x y hv hi => cg_fill h hm hi) (a5 e))
theorem tw_cg {ν : mi_M} (ht : tw_ok μ) (hm : sc_ok (sc_m μ)) (h : eq3 (sc_m μ) (sc_m ν)) (e66 : ν 66 5 = μ 66 5) (e70 : ν 70 = μ 70) : tw_ok ν := by
  refine ⟨by rw [e66]; exact ht.1, fun r h1 h2 => ?_⟩
  rw [e66] at h2
  intro x y d g1 g2 g3 g4 g5 g6
  rw [h.1.1] at g2
  rw [h.1.2.1] at g4
  rw [h.2.1] at g6
  rw [e70, cg_way h hm ⟨g1, g2, g3, g4⟩ g5 g6]
  exact ht.2 r h1 h2 x y d g1 g2 g3 g4 g5 g6
end
