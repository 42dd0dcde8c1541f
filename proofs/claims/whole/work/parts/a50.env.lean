/-! WHAT STANDS AROUND AT THE LAW'S ENTRY, out of the Statement's words -/
def lw_fl : List Cond := flatC (Cond.and given_1 narrow_1)
def sp_p : List Nat := [20, 31, 4, 53, 64, 42]
def sp_s : List Nat := [593, 595, 137, 767, 769, 675]
def sp_t : List Nat := [120, 128, 134, 144, 157, 172, 186, 201, 216]
def sp_k : List Nat := [61, 78, 80, 86, 88, 93, 95, 97, 102]
set_option maxRecDepth 100000 in
theorem gv_a : ∀ j, j < 6 → lw_fl[sp_p.getD j 0 + 1]? = some (Cond.arrayOf (.static "TwoViews" (mi_sn.getD j "") "[I") .int) := by decide +kernel
set_option maxRecDepth 100000 in
theorem gv_l : ∀ j, j < 6 → lw_fl[sp_p.getD j 0 + 2]? = some (Cond.eq (.length (.static "TwoViews" (mi_sn.getD j "") "[I")) (.int 8)) := by decide +kernel
set_option maxRecDepth 100000 in
theorem gv_e : ∀ j, j < 6 → ∀ i, i < 8 → lw_fl[sp_p.getD j 0 + 3 + i]? = some (Cond.eq (.elem (.static "TwoViews" (mi_sn.getD j "") "[I") (.int (Int32.ofNat i))) (.int (Int32.ofInt ((mi_sv.getD j []).getD i 0)))) := by decide +kernel
set_option maxRecDepth 100000 in
theorem gv_s : ∀ j, j < 6 → lw_tbl[sp_s.getD j 0]? = some (Cond.laysStatic "TwoViews" (mi_sn.getD j "") "[I") := by decide +kernel
set_option maxRecDepth 100000 in
theorem gv_i : lw_tbl[98]? = some (Cond.initialized "TwoViews") := by decide +kernel
set_option maxRecDepth 100000 in
theorem gt_x : ∀ i, i < 9 → lw_fl[sp_t.getD i 0]? = some (Cond.exactly (.string "TwoViews$Reader" (sp_k.getD i 0)) "java/lang/String") := by decide +kernel
set_option maxRecDepth 100000 in
theorem gt_c : ∀ i, i < 9 → lw_fl[sp_t.getD i 0 + 1]? = some (Cond.eq (.field (.string "TwoViews$Reader" (sp_k.getD i 0)) "java/lang/String" "coder" "B") (.int 0)) := by decide +kernel
set_option maxRecDepth 100000 in
theorem gt_a : ∀ i, i < 9 → lw_fl[sp_t.getD i 0 + 2]? = some (Cond.arrayOf (.field (.string "TwoViews$Reader" (sp_k.getD i 0)) "java/lang/String" "value" "[B") .byte) := by decide +kernel
set_option maxRecDepth 100000 in
theorem gt_l : ∀ i, i < 9 → lw_fl[sp_t.getD i 0 + 3]? = some (Cond.eq (.length (.field (.string "TwoViews$Reader" (sp_k.getD i 0)) "java/lang/String" "value" "[B")) (.int (Int32.ofNat (mi_len.getD i 0)))) := by decide +kernel
set_option maxRecDepth 100000 in
theorem gt_e : ∀ i, i < 9 → ∀ j, j < mi_len.getD i 0 → lw_fl[sp_t.getD i 0 + 4 + j]? = some (Cond.eq (.elem (.field (.string "TwoViews$Reader" (sp_k.getD i 0)) "java/lang/String" "value" "[B") (.int (Int32.ofNat j))) (.int ((mi_byt.getD i []).getD j 0))) := by decide +kernel
set_option maxRecDepth 100000 in
theorem gt_n : ∀ j, j < 9 → ∀ i, i < j → lw_fl[sp_t.getD j 0 + 4 + mi_len.getD j 0 + i]? = some (Cond.not (Cond.eq (.string "TwoViews$Reader" (sp_k.getD i 0)) (.string "TwoViews$Reader" (sp_k.getD j 0)))) := by decide +kernel
theorem gt_b : ∀ i, i < 9 → mi_len.getD i 0 < 2 ^ 31 := by decide
theorem gt_t : ∀ e ∈ mi_TL, e.1 = 7 ∧ e.2.1 = sp_k.getD (e.2.2 - 1020) 0 ∧ e.2.2 - 1020 < 9 ∧ 1020 ≤ e.2.2 := by decide
theorem gc_n : ∀ c, c < 13 → (c, ()) ∈ mi_WN := by decide
set_option maxRecDepth 100000 in
theorem ge_1 : lw_tbl[524]? = some (Cond.laysStatic "java/lang/String" "COMPACT_STRINGS" "Z") ∧ lw_tbl[112]? = some (Cond.initialized "java/lang/String") ∧ lw_fl[15]? = some (Cond.eq (.static "java/lang/String" "COMPACT_STRINGS" "Z") (.int 1)) := by decide +kernel
set_option maxRecDepth 100000 in
theorem ge_2 : lw_tbl[540]? = some (Cond.laysStatic "jdk/internal/util/Preconditions" "SIOOBE_FORMATTER" "Ljava/util/function/BiFunction;") ∧ lw_tbl[114]? = some (Cond.initialized "jdk/internal/util/Preconditions") ∧ lw_fl[16]? = some (Cond.isRef (.static "jdk/internal/util/Preconditions" "SIOOBE_FORMATTER" "Ljava/util/function/BiFunction;")) := by decide +kernel
set_option maxRecDepth 100000 in
theorem ge_3 : lw_tbl[1093]? = some (Cond.laysStatic Bundle.tN "UNASSIGNED_STACK" Bundle.steD) ∧ lw_tbl[117]? = some (Cond.initialized Bundle.tN) ∧ lw_fl[75]? = some (Cond.isRef (.static Bundle.tN "UNASSIGNED_STACK" Bundle.steD)) := by decide +kernel
set_option maxRecDepth 100000 in
theorem ge_4 : lw_tbl[1095]? = some (Cond.laysStatic Bundle.tN "SUPPRESSED_SENTINEL" Bundle.listD) ∧ lw_fl[76]? = some (Cond.isRef (.static Bundle.tN "SUPPRESSED_SENTINEL" Bundle.listD)) := by decide +kernel
set_option maxRecDepth 100000 in
theorem ge_5 : lw_tbl[1105]? = some (Cond.stringRef RX11 302 "no such place") ∧ lw_fl[233]? = some (Cond.exactly (.string RX11 302) "java/lang/String") := by decide +kernel
set_option maxRecDepth 100000 in
theorem ge_6 : lw_tbl[178]? = some (Cond.arrayClass .int) ∧ lw_tbl[228]? = some (Cond.arrayClass .byte) ∧ lw_tbl[1693]? = some (Cond.arrayClass .long) ∧ lw_tbl[264]? = some (Cond.arrayOver (.object RX9)) ∧ lw_tbl[278]? = some (Cond.arrayOver (.object RX0)) := by decide +kernel
section
variable {args : Array Value} {s : State} {A : Nat → Prop}
theorem gv_w (h : (Cond.and given_1 narrow_1).before args s = true) {i : Nat} {w : Cond} (hi : lw_fl[i]? = some w) : w.before args s = true := flat_of_before _ h w (List.mem_of_getElem? hi)
theorem tb_w (hts : ∀ w ∈ lw_tbl, w.before args s = true) {i : Nat} {w : Cond} (hi : lw_tbl[i]? = some w) : w.before args s = true := hts w (List.mem_of_getElem? hi)
theorem en_S (hts : ∀ w ∈ lw_tbl, w.before args s = true) (h : (Cond.and given_1 narrow_1).before args s = true) (hA : ∀ a : Nat, a < s.heap.size → ¬ A a) :
    ∃ aS : Nat → Nat, ∀ j, j < 6 → va_Z "TwoViews" (mi_sn.getD j "") "[I" (.ref (aS j)) A s s.heap ∧ va_T .int (aS j) 8 (fun i => .int (Int32.ofInt ((mi_sv.getD j []).getD i 0))) A s s.heap := by
  have h0 : ∀ j : Nat, ∃ t : Nat, j < 6 → va_Z "TwoViews" (mi_sn.getD j "") "[I" (.ref t) A s s.heap ∧ va_T .int t 8 (fun i => .int (Int32.ofInt ((mi_sv.getD j []).getD i 0))) A s s.heap := by
    intro j
    by_cases hj : j < 6
    · obtain ⟨t, ht, hT⟩ := va_Tof (tm := .static "TwoViews" (mi_sn.getD j "") "[I") (ty := .int) (N := 8) (f := fun i => .int (Int32.ofInt ((mi_sv.getD j []).getD i 0))) (A := A) (by decide) (gv_w h (gv_a j hj)) (va_eqt (gv_w h (gv_l j hj))) (fun i hi => va_eqt (gv_w h (gv_e j hj i hi))) hA
      exact ⟨t, fun _ => ⟨va_Zref (tb_w hts (gv_s j hj)) (tb_w hts gv_i) ht hA, hT⟩⟩
    · exact ⟨0, fun q => absurd q hj⟩
  exact Classical.axiomOfChoice h0
theorem en_T (hts : ∀ w ∈ lw_tbl, w.before args s = true) (h : (Cond.and given_1 narrow_1).before args s = true) (hA : ∀ a : Nat, a < s.heap.size → ¬ A a) :
    ∃ adK adV : Nat → Nat, vk_S 9 mi_len mi_byt adK adV A s s.heap ∧ ∀ e ∈ mi_TL, vk_R (mi_rs e.1) e.2.1 (mi_ss.getD (e.2.2 - 1020) "") (adK (e.2.2 - 1020)) s := by
  obtain ⟨adK, adV, hS, hE⟩ := vk_Sof (N := 9) (tm := fun i => .string "TwoViews$Reader" (sp_k.getD i 0)) (len := mi_len) (byt := mi_byt) (A := A) gt_b (fun i hi => gv_w h (gt_x i hi)) (fun i hi => gv_w h (gt_c i hi)) (fun i hi => gv_w h (gt_a i hi)) (fun i hi => gv_w h (gt_l i hi)) (fun i hi j hj => gv_w h (gt_e i hi j hj)) (fun i j hi hj hn => by
    rcases Nat.lt_or_gt_of_ne hn with q | q
    · exact Or.inl (gv_w h (gt_n j hj i q))
    · exact Or.inr (gv_w h (gt_n i hi j q))) hA
  refine ⟨adK, adV, hS, fun e he => ?_⟩
  obtain ⟨e1, e2, e3, -⟩ := gt_t e he
  refine vk_R.of (hts _ (mi_TL_ok e he)) ?_
  have hv := hE (e.2.2 - 1020) e3
  rw [e1, e2]
  exact hv
theorem en_K (hts : ∀ w ∈ lw_tbl, w.before args s = true) : ∃ (D : va_G) (ca : Nat → ClassId), va_K D vwCl (mi_ty ca) s := by
  have h0 : ∀ c : Nat, ∃ q : ClassId × (Nat → Nat), c < 13 → u_Kn s (mi_rs c) (mi_ct c) (mi_cn c) q.1 q.2 := by
    intro c
    by_cases hc : c < 13
    · obtain ⟨cC, iS, hk⟩ := u_known (ws := lw_tbl) (C := mi_rs c) (T := mi_ct c) (N := mi_cn c) (n := mi_cn c) hts (fun w hw => (List.mem_filter.mp ((mi_cls c hc).2.1 w hw)).1) (hts _ (mi_WN_ok (c, ()) (gc_n c hc)))
      exact ⟨(cC, iS), fun _ => hk⟩
    · exact ⟨(0, fun _ => 0), fun q => absurd q hc⟩
  obtain ⟨d, hd⟩ := Classical.axiomOfChoice h0
  obtain ⟨w0, w1, w2, w3, w4⟩ := ge_6
  obtain ⟨c0, k0, p0, f0, g0, q0⟩ := Cond.arrayClass_spec (tb_w hts w0)
  obtain ⟨c1, k1, p1, f1, g1, q1⟩ := Cond.arrayClass_spec (tb_w hts w1)
  obtain ⟨c2, k2, p2, f2, g2, q2⟩ := Cond.arrayClass_spec (tb_w hts w2)
  obtain ⟨p3, c3, k3, f3, -, g3, q3, n3⟩ := Cond.arrayOver_spec (tb_w hts w3)
  obtain ⟨p4, c4, k4, f4, -, g4, q4, n4⟩ := Cond.arrayOver_spec (tb_w hts w4)
  refine ⟨(fun c => (d c).1, fun c => (d c).2), fun j => match j with | 0 => c0 | 1 => c1 | 2 => c2 | 3 => c3 | _ => c4, fun c q hq => ?_, fun k q hq => ?_⟩
  · have hc : c < 13 := (List.getElem?_eq_some_iff.mp hq).1
    have e := (mi_cls c hc).1.symm.trans hq
    cases Option.some.inj e
    exact hd c hc
  · match k, hq with
    | 0, hq => cases hq; exact ⟨fun n z => ⟨fun k h => (by cases h), k0, g0, p0, q0⟩, f0⟩
    | 1, hq => cases hq; exact ⟨fun n z => ⟨fun k h => (by cases h), k1, g1, p1, q1⟩, f1⟩
    | 2, hq => cases hq; exact ⟨fun n z => ⟨fun k h => (by cases h), k2, g2, p2, q2⟩, f2⟩
    | 3, hq => cases hq; exact ⟨fun n z => ⟨fun k h => (by cases h), k3, g3, p3, q3⟩, k3, p3, g3, q3, f3, n3⟩
    | 4, hq => cases hq; exact ⟨fun n z => ⟨fun k h => (by cases h), k4, g4, p4, q4⟩, k4, p4, g4, q4, f4, n4⟩
    | k + 5, hq => simp at hq
/-- all of it -/
theorem en_all {b L : Nat} {xs : Nat → Int32} (hts : ∀ w ∈ lw_tbl, w.before args s = true) (h : (Cond.and given_1 narrow_1).before args s = true) (hX : va_X b L xs s s.heap) (hb : b < s.heap.size) (hL : L ≤ 3584) :
    ∃ (D : va_G) (ca : Nat → ClassId) (sa : Nat → Nat), sa 1010 = b ∧ mi_env (xs, L) s.heap.size D ca sa s s.heap := by
  have hA : ∀ a : Nat, a < s.heap.size → ¬ mi_A s.heap.size a := fun a q w => absurd q (Nat.not_lt.mpr w)
  obtain ⟨D, ca, hK⟩ := en_K hts
  obtain ⟨aS, hS⟩ := en_S hts h hA
  obtain ⟨adK, adV, hT, hR⟩ := en_T hts h hA
  obtain ⟨x1, x2, x3⟩ := ge_1
  obtain ⟨y1, y2, y3⟩ := ge_2
  obtain ⟨z1, z2, z3⟩ := ge_3
  obtain ⟨v1, v2⟩ := ge_4
  obtain ⟨r1, r2⟩ := ge_5
  obtain ⟨-, -, -, w3, w4⟩ := ge_6
  have e0 : ∀ j, j < 6 → (fun n => if n < 1006 then aS (n - 1000) else if n = 1010 then b else adK (n - 1020)) (1000 + j) = aS j := fun j hj => by
    show (if 1000 + j < 1006 then aS (1000 + j - 1000) else _) = _
    rw [if_pos (by omega), show 1000 + j - 1000 = j by omega]
  have e2 : ∀ i, (fun n => if n < 1006 then aS (n - 1000) else if n = 1010 then b else adK (n - 1020)) (1020 + i) = adK i := fun i => by
    show (if 1020 + i < 1006 then _ else if 1020 + i = 1010 then _ else adK (1020 + i - 1020)) = _
    rw [if_neg (by omega), if_neg (by omega), show 1020 + i - 1020 = i by omega]
  refine ⟨D, ca, fun n => if n < 1006 then aS (n - 1000) else if n = 1010 then b else adK (n - 1020), rfl, fun w hw hg => mi_gw_at (State.WarmedH.refl s) hg (hts w hw), hK, fun j hj => ?_, ⟨hX, hb, ?_, Nat.le_refl _⟩, ⟨fun e he => ?_, ⟨adV, ?_⟩, va_Zof (tb_w hts x1) (tb_w hts x2) (va_eqt (gv_w h x3)) hA, va_Zqof (tb_w hts y1) (tb_w hts y2) (gv_w h y3) hA⟩, ⟨?_, vx_Zqof (tb_w hts z1) (tb_w hts z2) (gv_w h z3) hA, vx_Zqof (tb_w hts v1) (tb_w hts z2) (gv_w h v2) hA⟩, va_AO.of (tb_w hts w3), va_AO.of (tb_w hts w4)⟩
  · rw [e0 j hj]; exact hS j hj
  · show L < 2147483648
    omega
  · obtain ⟨-, -, t3, t4⟩ := gt_t e he
    have := e2 (e.2.2 - 1020)
    rw [show 1020 + (e.2.2 - 1020) = e.2.2 by omega] at this
    rw [this]; exact hR e he
  · rw [show (fun i => (fun n => if n < 1006 then aS (n - 1000) else if n = 1010 then b else adK (n - 1020)) (1020 + i)) = adK from funext e2]
    exact hT
  · obtain ⟨a, c, cA, kA, q1, -⟩ := Cond.exactly_spec (args := args) (first := s) (o := none) (s := s) (idx := []) (t := .string RX11 302) (cls := "java/lang/String") (gv_w h r2)
    exact ⟨a, vk_R.of (tb_w hts r1) q1⟩
end
