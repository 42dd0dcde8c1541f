/-! PRINTED by wip/whole/gen/ct.py: the cells while the objects are made -/
def mi_pt (t : Nat) : Nat × Nat × Nat := (bif Nat.blt t 55 then (bif Nat.blt t 27 then (bif Nat.blt t 13 then (bif Nat.blt t 6 then (bif Nat.blt t 3 then (bif Nat.blt t 1 then (1, 2, 2) else (bif Nat.blt t 2 then (1, 3, 3) else (0, 0, 1))) else (bif Nat.blt t 4 then (4, 1, 5) else (bif Nat.blt t 5 then (4, 2, 6) else (4, 3, 7)))) else (bif Nat.blt t 9 then (bif Nat.blt t 7 then (4, 4, 8) else (bif Nat.blt t 8 then (4, 5, 9) else (4, 6, 10))) else (bif Nat.blt t 11 then (bif Nat.blt t 10 then (0, 1, 4) else (11, 1, 12)) else (bif Nat.blt t 12 then (0, 2, 11) else (13, 1, 11))))) else (bif Nat.blt t 20 then (bif Nat.blt t 16 then (bif Nat.blt t 14 then (14, 2, 15) else (bif Nat.blt t 15 then (14, 3, 16) else (13, 0, 14))) else (bif Nat.blt t 18 then (bif Nat.blt t 17 then (0, 3, 13) else (17, 2, 18)) else (bif Nat.blt t 19 then (19, 2, 20) else (19, 3, 21)))) else (bif Nat.blt t 23 then (bif Nat.blt t 21 then (18, 0, 19) else (bif Nat.blt t 22 then (22, 2, 23) else (22, 3, 24))) else (bif Nat.blt t 25 then (bif Nat.blt t 24 then (18, 1, 22) else (25, 2, 26)) else (bif Nat.blt t 26 then (25, 3, 27) else (18, 2, 25)))))) else (bif Nat.blt t 41 then (bif Nat.blt t 34 then (bif Nat.blt t 30 then (bif Nat.blt t 28 then (28, 2, 29) else (bif Nat.blt t 29 then (28, 3, 30) else (18, 3, 28))) else (bif Nat.blt t 32 then (bif Nat.blt t 31 then (31, 2, 32) else (31, 3, 33)) else (bif Nat.blt t 33 then (18, 4, 31) else (34, 2, 35)))) else (bif Nat.blt t 37 then (bif Nat.blt t 35 then (34, 3, 36) else (bif Nat.blt t 36 then (18, 5, 34) else (37, 2, 38))) else (bif Nat.blt t 39 then (bif Nat.blt t 38 then (37, 3, 39) else (18, 6, 37)) else (bif Nat.blt t 40 then (40, 2, 41) else (40, 3, 42))))) else (bif Nat.blt t 48 then (bif Nat.blt t 44 then (bif Nat.blt t 42 then (18, 7, 40) else (bif Nat.blt t 43 then (0, 4, 17) else (0, 5, 43))) else (bif Nat.blt t 46 then (bif Nat.blt t 45 then (45, 2, 46) else (45, 3, 47)) else (bif Nat.blt t 47 then (44, 1, 45) else (48, 1, 49)))) else (bif Nat.blt t 51 then (bif Nat.blt t 49 then (48, 2, 50) else (bif Nat.blt t 50 then (48, 3, 51) else (48, 4, 52))) else (bif Nat.blt t 53 then (bif Nat.blt t 52 then (48, 5, 53) else (48, 6, 54)) else (bif Nat.blt t 54 then (44, 2, 48) else (43, 0, 44))))))) else (bif Nat.blt t 83 then (bif Nat.blt t 69 then (bif Nat.blt t 62 then (bif Nat.blt t 58 then (bif Nat.blt t 56 then (56, 2, 57) else (bif Nat.blt t 57 then (56, 3, 58) else (55, 1, 56))) else (bif Nat.blt t 60 then (bif Nat.blt t 59 then (59, 1, 60) else (59, 2, 61)) else (bif Nat.blt t 61 then (59, 3, 62) else (59, 4, 63)))) else (bif Nat.blt t 65 then (bif Nat.blt t 63 then (59, 5, 64) else (bif Nat.blt t 64 then (59, 6, 65) else (55, 2, 59))) else (bif Nat.blt t 67 then (bif Nat.blt t 66 then (43, 1, 55) else (66, 4, 1)) else (bif Nat.blt t 68 then (66, 0, 67) else (66, 1, 68))))) else (bif Nat.blt t 76 then (bif Nat.blt t 72 then (bif Nat.blt t 70 then (66, 2, 69) else (bif Nat.blt t 71 then (66, 3, 70) else (0, 6, 66))) else (bif Nat.blt t 74 then (bif Nat.blt t 73 then (71, 3, 1) else (71, 4, 66)) else (bif Nat.blt t 75 then (71, 0, 72) else (71, 1, 73)))) else (bif Nat.blt t 79 then (bif Nat.blt t 77 then (71, 2, 74) else (bif Nat.blt t 78 then (71, 5, 75) else (0, 7, 71))) else (bif Nat.blt t 81 then (bif Nat.blt t 80 then (76, 0, 1) else (76, 1, 71)) else (bif Nat.blt t 82 then (76, 2, 77) else (76, 3, 78)))))) else (bif Nat.blt t 97 then (bif Nat.blt t 90 then (bif Nat.blt t 86 then (bif Nat.blt t 84 then (76, 4, 79) else (bif Nat.blt t 85 then (76, 5, 80) else (0, 8, 76))) else (bif Nat.blt t 88 then (bif Nat.blt t 87 then (81, 1, 1) else (81, 2, 66)) else (bif Nat.blt t 89 then (81, 0, 82) else (81, 3, 83)))) else (bif Nat.blt t 93 then (bif Nat.blt t 91 then (0, 9, 81) else (bif Nat.blt t 92 then (84, 0, 1) else (84, 1, 71))) else (bif Nat.blt t 95 then (bif Nat.blt t 94 then (84, 2, 85) else (0, 10, 84)) else (bif Nat.blt t 96 then (86, 1, 87) else (86, 2, 88))))) else (bif Nat.blt t 104 then (bif Nat.blt t 100 then (bif Nat.blt t 98 then (86, 4, 89) else (bif Nat.blt t 99 then (86, 6, 90) else (86, 13, 91))) else (bif Nat.blt t 102 then (bif Nat.blt t 101 then (86, 15, 92) else (86, 16, 93)) else (bif Nat.blt t 103 then (86, 17, 94) else (86, 18, 95)))) else (bif Nat.blt t 107 then (bif Nat.blt t 105 then (86, 19, 96) else (bif Nat.blt t 106 then (86, 20, 97) else (86, 21, 98))) else (bif Nat.blt t 109 then (bif Nat.blt t 108 then (86, 22, 99) else (86, 23, 100)) else (bif Nat.blt t 110 then (86, 24, 101) else (86, 25, 102))))))))
def mi_Rs : Nat → Nat → Nat → Option Nat
  | 0 => fun _ _ => none
  | t + 1 => mi_up (mi_Rs t) (mi_pt t).1 (mi_up (mi_Rs t (mi_pt t).1) (mi_pt t).2.1 (some (mi_pt t).2.2))
def mi_Gc (t n : Nat) : mi_G := (mi_Gk, mi_Rs t, n)
def mi_G9 : mi_G := (mi_Gk, mi_Gr, 103)
theorem mi_okE {X : mi_X} {k : Nat} {Ge G G' : mi_G} {Q : mi_R → mi_G → mi_M → Prop} {pc : Nat} {ls : mi_L} {st : mi_S} {μ : mi_M} {u : mi_U} (e : G = G') (h : mi_ok X k Ge Q pc ls st G' μ u) : mi_ok X k Ge Q pc ls st G μ u := by
  subst e; exact h
theorem mi_up_id {α : Type} {f : Nat → α} {r : Nat} {v : α} (h : f r = v) : mi_up f r v = f := by
  funext q
  by_cases e : q = r
  · subst e; rw [mi_up_self]; exact h.symm
  · exact mi_up_ne e
theorem rs_n {n : Nat} : ∀ (t : Nat), ((List.range t).all (fun i => Nat.blt (mi_pt i).1 n)) = true → ∀ q, n ≤ q → mi_Rs t q = fun _ => none
  | 0, _, _, _ => rfl
  | t + 1, h, q, hq => by
    have h' := List.all_eq_true.mp h
    have h1 : (mi_pt t).1 < n := Nat.le_of_ble_eq_true (h' t (List.mem_range.mpr (Nat.lt_succ_self t)))
    have h2 : ((List.range t).all (fun i => Nat.blt (mi_pt i).1 n)) = true := List.all_eq_true.mpr (fun i hi => h' i (List.mem_range.mpr (Nat.lt_succ_of_lt (List.mem_range.mp hi))))
    show mi_up (mi_Rs t) (mi_pt t).1 _ q = _
    rw [mi_up_ne (by omega)]
    exact rs_n t h2 q hq
theorem gn_c {kd : Nat × Nat} (t n : Nat) (h1 : mi_Gk n = kd) (h2 : ((List.range t).all (fun i => Nat.blt (mi_pt i).1 n)) = true) : (mi_up (mi_Gc t n).1 (mi_Gc t n).2.2 kd, mi_up (mi_Gc t n).2.1 (mi_Gc t n).2.2 (fun _ => none), (mi_Gc t n).2.2 + 1) = mi_Gc t (n + 1) := by
  show (mi_up mi_Gk n kd, mi_up (mi_Rs t) n (fun _ => none), n + 1) = (mi_Gk, mi_Rs t, n + 1)
  rw [mi_up_id h1, mi_up_id (rs_n t h2 n (Nat.le_refl n))]
theorem gp_c (r s q t n : Nat) (h1 : (mi_pt t).1 = r) (h2 : (mi_pt t).2.1 = s) (h3 : (mi_pt t).2.2 = q) : ((mi_Gc t n).1, mi_up (mi_Gc t n).2.1 r (mi_up ((mi_Gc t n).2.1 r) s (some q)), (mi_Gc t n).2.2) = mi_Gc (t + 1) n := by
  subst h1; subst h2; subst h3; rfl
theorem rs_o : ∀ (t : Nat), ((List.range t).all (fun i => Nat.blt (mi_pt i).1 104 && Nat.blt (mi_pt i).2.1 27)) = true → ∀ r s, 104 ≤ r ∨ 27 ≤ s → mi_Rs t r s = none
  | 0, _, _, _, _ => rfl
  | t + 1, h, r, s, ho => by
    have h' := List.all_eq_true.mp h
    have h1 := h' t (List.mem_range.mpr (Nat.lt_succ_self t))
    rw [Bool.and_eq_true] at h1
    have a1 : (mi_pt t).1 < 104 := Nat.le_of_ble_eq_true h1.1
    have a2 : (mi_pt t).2.1 < 27 := Nat.le_of_ble_eq_true h1.2
    have h2 : ((List.range t).all (fun i => Nat.blt (mi_pt i).1 104 && Nat.blt (mi_pt i).2.1 27)) = true := List.all_eq_true.mpr (fun i hi => h' i (List.mem_range.mpr (Nat.lt_succ_of_lt (List.mem_range.mp hi))))
    have ih := rs_o t h2
    show mi_up (mi_Rs t) (mi_pt t).1 _ r s = _
    by_cases e : r = (mi_pt t).1
    · rw [e, mi_up_self, mi_up_ne (by omega)]
      exact ih _ s (by omega)
    · rw [mi_up_ne e]
      exact ih r s ho
theorem blt_f {a b : Nat} (h : b ≤ a) : Nat.blt a b = false := by
  cases e : Nat.blt a b with
  | false => rfl
  | true => exact absurd (Nat.le_of_ble_eq_true e) (by omega)
theorem gr_o0 {s : Nat} (h : 27 ≤ s) : mi_Gr0 s = none := by
  unfold mi_Gr0; rw [show Nat.blt s 11 = false from blt_f (by omega)]; rfl
theorem gr_o1 {s : Nat} (h : 27 ≤ s) : mi_Gr1 s = none := by
  unfold mi_Gr1; rw [show Nat.blt s 4 = false from blt_f (by omega)]; rfl
theorem gr_o4 {s : Nat} (h : 27 ≤ s) : mi_Gr4 s = none := by
  unfold mi_Gr4; rw [show Nat.blt s 7 = false from blt_f (by omega)]; rfl
theorem gr_o11 {s : Nat} (h : 27 ≤ s) : mi_Gr11 s = none := by
  unfold mi_Gr11; rw [show Nat.blt s 2 = false from blt_f (by omega)]; rfl
theorem gr_o13 {s : Nat} (h : 27 ≤ s) : mi_Gr13 s = none := by
  unfold mi_Gr13; rw [show Nat.blt s 2 = false from blt_f (by omega)]; rfl
theorem gr_o14 {s : Nat} (h : 27 ≤ s) : mi_Gr14 s = none := by
  unfold mi_Gr14; rw [show Nat.blt s 4 = false from blt_f (by omega)]; rfl
theorem gr_o17 {s : Nat} (h : 27 ≤ s) : mi_Gr17 s = none := by
  unfold mi_Gr17; rw [show Nat.blt s 3 = false from blt_f (by omega)]; rfl
theorem gr_o18 {s : Nat} (h : 27 ≤ s) : mi_Gr18 s = none := by
  unfold mi_Gr18; rw [show Nat.blt s 8 = false from blt_f (by omega)]; rfl
theorem gr_o19 {s : Nat} (h : 27 ≤ s) : mi_Gr19 s = none := by
  unfold mi_Gr19; rw [show Nat.blt s 4 = false from blt_f (by omega)]; rfl
theorem gr_o22 {s : Nat} (h : 27 ≤ s) : mi_Gr22 s = none := by
  unfold mi_Gr22; rw [show Nat.blt s 4 = false from blt_f (by omega)]; rfl
theorem gr_o25 {s : Nat} (h : 27 ≤ s) : mi_Gr25 s = none := by
  unfold mi_Gr25; rw [show Nat.blt s 4 = false from blt_f (by omega)]; rfl
theorem gr_o28 {s : Nat} (h : 27 ≤ s) : mi_Gr28 s = none := by
  unfold mi_Gr28; rw [show Nat.blt s 4 = false from blt_f (by omega)]; rfl
theorem gr_o31 {s : Nat} (h : 27 ≤ s) : mi_Gr31 s = none := by
  unfold mi_Gr31; rw [show Nat.blt s 4 = false from blt_f (by omega)]; rfl
theorem gr_o34 {s : Nat} (h : 27 ≤ s) : mi_Gr34 s = none := by
  unfold mi_Gr34; rw [show Nat.blt s 4 = false from blt_f (by omega)]; rfl
theorem gr_o37 {s : Nat} (h : 27 ≤ s) : mi_Gr37 s = none := by
  unfold mi_Gr37; rw [show Nat.blt s 4 = false from blt_f (by omega)]; rfl
theorem gr_o40 {s : Nat} (h : 27 ≤ s) : mi_Gr40 s = none := by
  unfold mi_Gr40; rw [show Nat.blt s 4 = false from blt_f (by omega)]; rfl
theorem gr_o43 {s : Nat} (h : 27 ≤ s) : mi_Gr43 s = none := by
  unfold mi_Gr43; rw [show Nat.blt s 2 = false from blt_f (by omega)]; rfl
theorem gr_o44 {s : Nat} (h : 27 ≤ s) : mi_Gr44 s = none := by
  unfold mi_Gr44; rw [show Nat.blt s 3 = false from blt_f (by omega)]; rfl
theorem gr_o45 {s : Nat} (h : 27 ≤ s) : mi_Gr45 s = none := by
  unfold mi_Gr45; rw [show Nat.blt s 4 = false from blt_f (by omega)]; rfl
theorem gr_o48 {s : Nat} (h : 27 ≤ s) : mi_Gr48 s = none := by
  unfold mi_Gr48; rw [show Nat.blt s 7 = false from blt_f (by omega)]; rfl
theorem gr_o55 {s : Nat} (h : 27 ≤ s) : mi_Gr55 s = none := by
  unfold mi_Gr55; rw [show Nat.blt s 3 = false from blt_f (by omega)]; rfl
theorem gr_o56 {s : Nat} (h : 27 ≤ s) : mi_Gr56 s = none := by
  unfold mi_Gr56; rw [show Nat.blt s 4 = false from blt_f (by omega)]; rfl
theorem gr_o59 {s : Nat} (h : 27 ≤ s) : mi_Gr59 s = none := by
  unfold mi_Gr59; rw [show Nat.blt s 7 = false from blt_f (by omega)]; rfl
theorem gr_o66 {s : Nat} (h : 27 ≤ s) : mi_Gr66 s = none := by
  unfold mi_Gr66; rw [show Nat.blt s 5 = false from blt_f (by omega)]; rfl
theorem gr_o71 {s : Nat} (h : 27 ≤ s) : mi_Gr71 s = none := by
  unfold mi_Gr71; rw [show Nat.blt s 6 = false from blt_f (by omega)]; rfl
theorem gr_o76 {s : Nat} (h : 27 ≤ s) : mi_Gr76 s = none := by
  unfold mi_Gr76; rw [show Nat.blt s 6 = false from blt_f (by omega)]; rfl
theorem gr_o81 {s : Nat} (h : 27 ≤ s) : mi_Gr81 s = none := by
  unfold mi_Gr81; rw [show Nat.blt s 4 = false from blt_f (by omega)]; rfl
theorem gr_o84 {s : Nat} (h : 27 ≤ s) : mi_Gr84 s = none := by
  unfold mi_Gr84; rw [show Nat.blt s 3 = false from blt_f (by omega)]; rfl
theorem gr_o86 {s : Nat} (h : 27 ≤ s) : mi_Gr86 s = none := by
  unfold mi_Gr86; rw [show Nat.blt s 26 = false from blt_f (by omega)]; rfl
theorem gr_o {r s : Nat} (h : 104 ≤ r ∨ 27 ≤ s) : mi_Gr r s = none := by
  by_cases c : 104 ≤ r
  · unfold mi_Gr; rw [blt_f c]; rfl
  · have h : 27 ≤ s := h.resolve_left c
    unfold mi_Gr
    simp only [gr_o0 h, gr_o1 h, gr_o4 h, gr_o11 h, gr_o13 h, gr_o14 h, gr_o17 h, gr_o18 h, gr_o19 h, gr_o22 h, gr_o25 h, gr_o28 h, gr_o31 h, gr_o34 h, gr_o37 h, gr_o40 h, gr_o43 h, gr_o44 h, gr_o45 h, gr_o48 h, gr_o55 h, gr_o56 h, gr_o59 h, gr_o66 h, gr_o71 h, gr_o76 h, gr_o81 h, gr_o84 h, gr_o86 h, Bool.cond_self]
theorem rs_in : ∀ r, r < 104 → ∀ s, s < 27 → mi_Rs 111 r s = mi_Gr r s := by decide +kernel
theorem rs_g : mi_Rs 111 = mi_Gr := by
  funext r s
  by_cases c : r < 104 ∧ s < 27
  · exact rs_in r c.1 s c.2
  · rw [gr_o (by omega), rs_o 111 (by decide +kernel) r s (by omega)]
theorem g9_c : mi_Gc (110 + 1) 103 = mi_G9 := by
  show (mi_Gk, mi_Rs 111, 103) = (mi_Gk, mi_Gr, 103)
  rw [rs_g]
theorem g0_c : (mi_up mi_G9.1 mi_G9.2.2 (2, 1), mi_up mi_G9.2.1 mi_G9.2.2 (fun _ => none), mi_G9.2.2 + 1) = mi_G0 := by
  show (mi_up mi_Gk 103 (2, 1), mi_up mi_Gr 103 (fun _ => none), 104) = (mi_Gk, mi_Gr, 104)
  rw [mi_up_id (show mi_Gk 103 = (2, 1) from rfl), mi_up_id (show mi_Gr 103 = fun _ => none from rfl)]
