/-! IMAGES -/
section
variable {X : mi_X} {Q : mi_R → mi_G → mi_M → Prop} {u : mi_U} {μ : mi_M}
def cp1 (c d : Nat) (μ : mi_M) : mi_M := mi_row μ c (mi_cpy (μ d) (μ c) 0 0 6)
def bl (c d : Nat) (μ : mi_M) : mi_M := cp1 (c + 6) (d + 6) (cp1 (c + 5) (d + 5) (cp1 (c + 4) (d + 4) (cp1 (c + 3) (d + 3) (cp1 (c + 2) (d + 2) (cp1 (c + 1) (d + 1) (mi_set μ c 0 (μ d 0)))))))
theorem cp1_o {c d q : Nat} (h : q ≠ c) : cp1 c d μ q = μ q := mr_other _ h _
theorem cp1_s {c d : Nat} : cp1 c d μ c = mi_cpy (μ d) (μ c) 0 0 6 := mr_same _ _ _
theorem cpy_6 {f g : Int → Int} {l : Int} (h : 0 ≤ l) (h' : l < 6) : mi_cpy f g 0 0 6 l = f l := by
  unfold mi_cpy; rw [if_pos (by omega), show 0 + (l - 0) = l by omega]
theorem bl_o {c d q : Nat} (h : q < c ∨ c + 6 < q) : bl c d μ q = μ q := by
  unfold bl
  rw [cp1_o (by omega), cp1_o (by omega), cp1_o (by omega), cp1_o (by omega), cp1_o (by omega), cp1_o (by omega), ms_other _ (by omega)]
theorem bl_0 {c d : Nat} : bl c d μ c 0 = μ d 0 := by
  unfold bl
  rw [cp1_o (by omega), cp1_o (by omega), cp1_o (by omega), cp1_o (by omega), cp1_o (by omega), cp1_o (by omega), ms_same, if_pos rfl]
theorem bl_i {c d : Nat} (h : c + 6 < d ∨ d + 6 < c) {i : Nat} (hi : 1 ≤ i) (hi' : i ≤ 6) {l : Int} (hl : 0 ≤ l) (hl' : l < 6) : bl c d μ (c + i) l = μ (d + i) l := by
  unfold bl
  rcases (show i = 1 ∨ i = 2 ∨ i = 3 ∨ i = 4 ∨ i = 5 ∨ i = 6 by omega) with rfl | rfl | rfl | rfl | rfl | rfl
  · rw [cp1_o (by omega), cp1_o (by omega), cp1_o (by omega), cp1_o (by omega), cp1_o (by omega), cp1_s, cpy_6 hl hl', ms_other _ (by omega)]
  · rw [cp1_o (by omega), cp1_o (by omega), cp1_o (by omega), cp1_o (by omega), cp1_s, cpy_6 hl hl', cp1_o (by omega), ms_other _ (by omega)]
  · rw [cp1_o (by omega), cp1_o (by omega), cp1_o (by omega), cp1_s, cpy_6 hl hl', cp1_o (by omega), cp1_o (by omega), ms_other _ (by omega)]
  · rw [cp1_o (by omega), cp1_o (by omega), cp1_s, cpy_6 hl hl', cp1_o (by omega), cp1_o (by omega), cp1_o (by omega), ms_other _ (by omega)]
  · rw [cp1_o (by omega), cp1_s, cpy_6 hl hl', cp1_o (by omega), cp1_o (by omega), cp1_o (by omega), cp1_o (by omega), ms_other _ (by omega)]
  · rw [cp1_s, cpy_6 hl hl', cp1_o (by omega), cp1_o (by omega), cp1_o (by omega), cp1_o (by omega), cp1_o (by omega), ms_other _ (by omega)]
theorem bl_1 : mm2_48_4 μ = bl 48 4 μ := rfl
theorem bl_2 : mm2_59_4 μ = bl 59 4 μ := rfl
theorem bl_3 : mm2_4_48 μ = bl 4 48 μ := rfl
theorem bl_4 : mm2_4_59 μ = bl 4 59 μ := rfl
/-- an image made -/
def imC (c : Nat) (μ ν : mi_M) : Prop := (∀ q, q < c ∨ c + 10 < q → ν q = μ q) ∧ ν c 0 = 1 ∧ (∀ j, 0 ≤ j → j < 394 → sk ν (c + 1) j = sc_m μ j) ∧ ν (c + 4) 0 = μ 4 0 ∧ ∀ i, 1 ≤ i → i ≤ 6 → ∀ l, 0 ≤ l → l < 6 → ν (c + 4 + i) l = μ (4 + i) l
theorem imC_is {c : Nat} (hc : 42 < c) : imC c μ (mi_set (bl (c + 4) 4 (bc (c + 1) 1 μ)) c 0 1) := by
  refine ⟨fun q hq => ?_, by rw [ms_same, if_pos rfl], fun j h1 h2 => ?_, ?_, fun i h1 h2 l h3 h4 => ?_⟩
  · rw [ms_other _ (by omega), bl_o (by omega), bc_ot (by omega) (by omega) (by omega)]
  · rw [sk_eq (μ := bc (c + 1) 1 μ) (by rw [ms_other _ (by omega), bl_o (by omega)]) (by rw [ms_other _ (by omega), bl_o (by omega)]) (by rw [ms_other _ (by omega), bl_o (by omega)]), bc_sk (by omega)]
    show (if 0 ≤ j ∧ j < 394 then sk μ 1 j else _) = _
    rw [if_pos ⟨h1, h2⟩]; rfl
  · rw [ms_other _ (by omega), bl_0, bc_ot (by omega) (by omega) (by omega)]
  · rw [ms_other _ (by omega), bl_i (by omega) h1 h2 h3 h4, bc_ot (by omega) (by omega) (by omega)]
def mp131_0 (a0 : Int) (_ : mi_M) : Prop := mx_R a0
def mq131_0 (a0 : Int) (μ : mi_M) (r : Int) (ν : mi_M) : Prop := (a0 = 0 ∧ r = 1 ∧ imC 44 μ ν) ∨ (a0 = 1 ∧ r = 1 ∧ imC 55 μ ν) ∨ (¬ (0 ≤ a0 ∧ a0 ≤ 1) ∧ r = 0 ∧ ν = μ)
theorem mc131_0 {a0 : Int} (hp : mp131_0 a0 μ) (hq : ∀ r ν, mq131_0 a0 μ r ν → Q (.inl (some (.inl r))) mi_G0 ν) : mi_cok X 131 [(.inr (.inl (some 0))), (.inl a0)] mi_G0 μ u Q := by
  apply me131_0
  rw [mx_within hp (by unfold mx_R; omega) (by unfold mx_R; omega)]
  by_cases c : 0 ≤ a0 ∧ a0 ≤ 1
  · rw [if_pos c, if_neg w_10]
    rcases (show a0 = 0 ∨ a0 = 1 by omega) with rfl | rfl
    · exact mh131_0_15_v0 (hq _ _ (Or.inl ⟨rfl, rfl, imC_is (c := 44) (by decide)⟩))
    · exact mh131_0_15_v1 (hq _ _ (Or.inr (Or.inl ⟨rfl, rfl, imC_is (c := 55) (by decide)⟩)))
  · rw [if_neg c, if_pos w_00]
    exact hq _ _ (Or.inr (Or.inr ⟨c, rfl, rfl⟩))
/-- back to one -/
def bkC (c : Nat) (μ ν : mi_M) : Prop := (fr_l [0, 1, 2, 3, 4, 5, 6, 7, 8, 9, 10, 17, 66] μ ν) ∧ (∀ j, sc_m ν j = if 0 ≤ j ∧ j < 394 then sk μ (c + 1) j else sc_m μ j) ∧ ν 4 0 = μ (c + 4) 0 ∧ (∀ i, 1 ≤ i → i ≤ 6 → ∀ l, 0 ≤ l → l < 6 → ν (4 + i) l = μ (c + 4 + i) l) ∧ ν 17 0 = 0 ∧ ν 17 1 = μ 17 1 ∧ ci ν
theorem bkC_is {c : Nat} (hc : 42 < c) (hc' : c + 10 < 66) (hs : 0 ≤ μ 0 11 ∧ μ 0 11 ≤ 5) : bkC c μ (mm140_0 0 (mi_set (bl 4 (c + 4) (bc 1 (c + 1) μ)) 17 0 0)) := by
  have e0 : mi_set (bl 4 (c + 4) (bc 1 (c + 1) μ)) 17 0 0 0 = μ 0 := by rw [ms_other _ (by decide), bl_o (by omega), bc_ot (by decide) (by decide) (by decide)]
  obtain ⟨f1, f2, f3⟩ := ku_is (μ := mi_set (bl 4 (c + 4) (bc 1 (c + 1) μ)) 17 0 0) (a0 := 0) (by decide) (by rw [e0]; exact hs)
  have hk : ∀ q, q ≠ 0 → q ≠ 66 → mm140_0 0 (mi_set (bl 4 (c + 4) (bc 1 (c + 1) μ)) 17 0 0) q = mi_set (bl 4 (c + 4) (bc 1 (c + 1) μ)) 17 0 0 q := fun q h1 h2 => f1 q (by simp only [List.mem_cons, List.not_mem_nil, or_false, not_or]; exact ⟨h1, h2⟩)
  refine ⟨fun q hq => ?_, fun j => ?_, ?_, fun i h1 h2 l h3 h4 => ?_, ?_, ?_, ci_0 ?_ ?_⟩
  · simp only [List.mem_cons, List.not_mem_nil, or_false, not_or] at hq
    rw [hk q (by omega) (by omega), ms_other _ (by omega), bl_o (by omega), bc_ot (by omega) (by omega) (by omega)]
  · rw [← sk_1, sk_eq (μ := bc 1 (c + 1) μ) (by rw [hk 1 (by decide) (by decide), ms_other _ (by omega), bl_o (by omega)]) (by rw [hk (1 + 1) (by decide) (by decide), ms_other _ (by omega), bl_o (by omega)]) (by rw [hk (1 + 2) (by decide) (by decide), ms_other _ (by omega), bl_o (by omega)]), bc_sk (by omega)]
    rfl
  · rw [hk 4 (by decide) (by decide), ms_other _ (by decide), bl_0, bc_ot (by omega) (by omega) (by omega)]
  · rw [hk (4 + i) (by omega) (by omega), ms_other _ (by omega), bl_i (by omega) h1 h2 h3 h4, bc_ot (by omega) (by omega) (by omega)]
  · rw [hk 17 (by decide) (by decide), ms_same, if_pos rfl]
  · rw [hk 17 (by decide) (by decide), ms_same, if_neg (by decide), bl_o (by omega), bc_ot (by decide) (by decide) (by decide)]
  · rw [f2, e0]; split <;> omega
  · rw [f3]; rfl
def mp132_0 (a0 : Int) (μ : mi_M) : Prop := mx_R a0 ∧ (0 ≤ μ 0 11 ∧ μ 0 11 ≤ 5) ∧ (0 ≤ μ 44 0 ∧ μ 44 0 ≤ 1) ∧ (0 ≤ μ 55 0 ∧ μ 55 0 ≤ 1)
def mq132_0 (a0 : Int) (μ : mi_M) (r : Int) (ν : mi_M) : Prop := (a0 = 0 ∧ μ 44 0 = 1 ∧ r = 1 ∧ bkC 44 μ ν) ∨ (a0 = 1 ∧ μ 55 0 = 1 ∧ r = 1 ∧ bkC 55 μ ν) ∨ (¬ ((a0 = 0 ∧ μ 44 0 = 1) ∨ (a0 = 1 ∧ μ 55 0 = 1)) ∧ r = 0 ∧ ν = μ)
theorem mc132_0 {a0 : Int} (hp : mp132_0 a0 μ) (hq : ∀ r ν, mq132_0 a0 μ r ν → Q (.inl (some (.inl r))) mi_G0 ν) : mi_cok X 132 [(.inr (.inl (some 0))), (.inl a0)] mi_G0 μ u Q := by
  obtain ⟨hr, hs, h1, h2⟩ := hp
  apply me132_0
  rw [mx_within hr (by unfold mx_R; omega) (by unfold mx_R; omega)]
  by_cases c : 0 ≤ a0 ∧ a0 ≤ 1
  · rw [if_pos c, if_neg w_10]
    rcases (show a0 = 0 ∨ a0 = 1 by omega) with rfl | rfl
    · apply mh132_0_13_v0
      rw [mi_wr_id (by omega) (by omega)]
      by_cases d : μ 44 0 = 0
      · rw [if_pos d]; exact hq _ _ (Or.inr (Or.inr ⟨by omega, rfl, rfl⟩))
      · rw [if_neg d]; exact hq _ _ (Or.inl ⟨rfl, by omega, rfl, bkC_is (c := 44) (by decide) (by decide) hs⟩)
    · apply mh132_0_13_v1
      rw [mi_wr_id (by omega) (by omega)]
      by_cases d : μ 55 0 = 0
      · rw [if_pos d]; exact hq _ _ (Or.inr (Or.inr ⟨by omega, rfl, rfl⟩))
      · rw [if_neg d]; exact hq _ _ (Or.inr (Or.inl ⟨rfl, by omega, rfl, bkC_is (c := 55) (by decide) (by decide) hs⟩))
  · rw [if_neg c, if_pos w_00]
    exact hq _ _ (Or.inr (Or.inr ⟨by omega, rfl, rfl⟩))
/-- the reference's -/
def imR (o : Int) (μ ν : mi_M) : Prop := fr_l [86, 102] μ ν ∧ (∀ j, j ≠ 0 → j ≠ 26 → ν 86 j = μ 86 j) ∧ ν 86 0 = 0 ∧ (∀ j, 0 ≤ j → j < 394 → ν 102 (o + j) = μ 87 j) ∧ (∀ j, 0 ≤ j → j < 36 → ν 102 (o + 394 + j) = μ 89 j) ∧ ν 102 (o + 430) = μ 86 5 ∧ ∀ j, j < o ∨ o + 431 ≤ j → ν 102 j = μ 102 j
def mp245_86 (a0 : Int) (μ : mi_M) : Prop := mx_R a0 ∧ (0 ≤ μ 86 26 ∧ μ 86 26 ≤ 3)
def mq245_86 (a0 : Int) (μ : mi_M) (r : Int) (ν : mi_M) : Prop := ((0 ≤ a0 ∧ a0 ≤ 1) ∧ r = 1 ∧ imR (431 * a0) μ ν ∧ (ν 86 26 = if a0 = 0 then μ 86 26 / 2 * 2 + 1 else μ 86 26 % 2 + 2)) ∨ (¬ (0 ≤ a0 ∧ a0 ≤ 1) ∧ r = 0 ∧ rno μ ν)
theorem or_bit {v i : Int} (h : 0 ≤ v) (h' : v ≤ 3) (hi : 0 ≤ i) (hi' : i ≤ 1) : mi_or v (mi_shl 1 i) = if i = 0 then v / 2 * 2 + 1 else v % 2 + 2 := by
  rcases (show v = 0 ∨ v = 1 ∨ v = 2 ∨ v = 3 by omega) with rfl | rfl | rfl | rfl <;> rcases (show i = 0 ∨ i = 1 by omega) with rfl | rfl <;> decide
theorem and_bit {v i : Int} (h : 0 ≤ v) (h' : v ≤ 3) (hi : 0 ≤ i) (hi' : i ≤ 1) : mi_wr (mi_and (mi_shr v i) 1) = if i = 0 then v % 2 else v / 2 := by
  rcases (show v = 0 ∨ v = 1 ∨ v = 2 ∨ v = 3 by omega) with rfl | rfl | rfl | rfl <;> rcases (show i = 0 ∨ i = 1 by omega) with rfl | rfl <;> decide
theorem mc245_86 {a0 : Int} (hp : mp245_86 a0 μ) (hq : ∀ r ν, mq245_86 a0 μ r ν → Q (.inl (some (.inl r))) mi_G0 ν) : mi_cok X 245 [(.inr (.inl (some 86))), (.inl a0)] mi_G0 μ u Q := by
  obtain ⟨hr, b1, b2⟩ := hp
  apply me245_86
  rw [mx_withinM hr (by unfold mx_R; omega) (by unfold mx_R; omega)]
  by_cases c : 0 ≤ a0 ∧ a0 ≤ 1
  · rw [if_pos c, if_neg w_10]
    have e26 : mi_set μ 86 0 0 86 26 = μ 86 26 := by rw [ms_same, if_neg (by decide)]
    have e5 : mi_set μ 86 0 0 86 5 = μ 86 5 := by rw [ms_same, if_neg (by decide)]
    have e89 : mi_set μ 86 0 0 89 = μ 89 := ms_other _ (by decide) _ _
    have e102 : mi_set μ 86 0 0 102 = μ 102 := ms_other _ (by decide) _ _
    have e87 := th_87 μ 0
    have eo : ∀ q, q ≠ 86 → mi_set μ 86 0 0 q = μ q := fun q h => ms_other _ h _ _
    have ez := th_0 μ 0
    have e86 : ∀ j, j ≠ 0 → mi_set μ 86 0 0 86 j = μ 86 j := fun j h => by rw [ms_same, if_neg h]
    revert e26 e5 e89 e102 e87 eo ez e86
    generalize mi_set μ 86 0 0 = μ'
    intro e26 e5 e89 e102 e87 eo ez e86
    refine qp_u (A := fun k ρ => mk245_86_18 X Q u a0 k ρ) (fun k ρ => ρ = mi_row μ' 102 (fl (fun j => μ 87 (j - 431 * a0)) (μ 102) (431 * a0) (431 * a0 + k))) (a := 0) (n := 394) (by decide) ?_ ?_ ?_
    · rintro ρ rfl
      apply mh245_86_18
      rw [if_neg (by decide)]
      refine qp_u (A := fun k ρ => mk245_86_51 X Q u a0 k ρ) (fun k ρ => ρ = mi_row μ' 102 (fl (fun j => μ 89 (j - (431 * a0 + 394))) (fl (fun j => μ 87 (j - 431 * a0)) (μ 102) (431 * a0) (431 * a0 + 394)) (431 * a0 + 394) (431 * a0 + 394 + k))) (a := 0) (n := 36) (by decide) ?_ ?_ ?_
      · rintro ρ rfl
        apply mh245_86_51
        rw [if_neg (by decide), mr_other _ (show (86 : Nat) ≠ 102 by decide), e5, e26, or_bit b1 b2 c.1 c.2]
        refine ⟨by omega, hq _ _ (Or.inl ⟨c, rfl, ⟨fun q hq => ?_, fun j h1 h2 => ?_, ?_, fun j h1 h2 => ?_, fun j h1 h2 => ?_, ?_, fun j h1 => ?_⟩, ?_⟩)⟩
        · simp only [List.mem_cons, List.not_mem_nil, or_false, not_or] at hq
          rw [ms_other _ hq.1, ms_other _ hq.2, mr_other _ hq.2, eo q hq.1]
        · rw [ms_same, if_neg h2, ms_other _ (by decide), mr_other _ (by decide), e86 j h1]
        · rw [ms_same, if_neg (by decide), ms_other _ (by decide), mr_other _ (by decide), ez]
        · rw [ms_other _ (by decide), ms_same, if_neg (by omega), mr_same, fl_out (by omega), fl_in (by omega) (by omega)]
          show μ 87 _ = _
          rw [show 431 * a0 + j - 431 * a0 = j by omega]
        · rw [ms_other _ (by decide), ms_same, if_neg (by omega), mr_same, fl_in (by omega) (by omega)]
          show μ 89 _ = _
          rw [show 431 * a0 + 394 + j - (431 * a0 + 394) = j by omega]
        · rw [ms_other _ (by decide), ms_same, if_pos (by omega)]
        · rw [ms_other _ (by decide), ms_same, if_neg (by omega), mr_same, fl_out (by omega), fl_out (by omega)]
        · rw [ms_same, if_pos rfl]
      · rintro k ρ h1 h2 rfl t
        apply mh245_86_51
        rw [mi_wr_id (by omega) (by omega), mi_wr_id (by omega) (by omega), if_pos (by omega), mr_other _ (show (89 : Nat) ≠ 102 by decide), e89]
        refine ⟨⟨h1, h2⟩, by omega, t _ ?_⟩
        rw [show 431 * a0 + 394 + (k + 1) = 431 * a0 + 394 + k + 1 by omega]
        refine fl_s (by omega) ?_
        show _ = μ 89 (431 * a0 + 394 + k - (431 * a0 + 394))
        rw [show 431 * a0 + 394 + k - (431 * a0 + 394) = k by omega]
      · rw [Int.add_zero]
        congr 1
        funext j
        unfold fl
        rw [if_neg (show ¬ (431 * a0 + 394 ≤ j ∧ j < 431 * a0 + 394) by omega)]
    · rintro k ρ h1 h2 rfl t
      apply mh245_86_18
      rw [mi_wr_id (by omega) (by omega), mi_wr_id (by omega) (by omega), if_pos (by omega), mr_other _ (show (87 : Nat) ≠ 102 by decide), e87]
      refine ⟨⟨h1, h2⟩, by omega, t _ ?_⟩
      rw [show 431 * a0 + (k + 1) = 431 * a0 + k + 1 by omega]
      refine fl_s (by omega) ?_
      show _ = μ 87 (431 * a0 + k - 431 * a0)
      rw [show 431 * a0 + k - 431 * a0 = k by omega]
    · have := fl_0 μ' 102 (fun j => μ 87 (j - 431 * a0)) (431 * a0)
      rw [e102] at this
      rw [Int.add_zero]; exact this.symm
  · rw [if_neg c, if_pos w_00]
    exact hq _ _ (Or.inr ⟨c, rfl, rfl⟩)
def bkR (o : Int) (μ ν : mi_M) : Prop := fr_l [86, 87, 89] μ ν ∧ (∀ j, j ≠ 0 → j ≠ 3 → j ≠ 5 → ν 86 j = μ 86 j) ∧ ν 86 0 = 0 ∧ ν 86 3 = 0 ∧ ν 86 5 = μ 102 (o + 430) ∧ (∀ j, ν 87 j = if 0 ≤ j ∧ j < 394 then μ 102 (o + j) else μ 87 j) ∧ ∀ j, 0 ≤ j → j < 36 → ν 89 j = μ 102 (o + 394 + j)
def bit (v i : Int) : Int := if i = 0 then v % 2 else v / 2
def mp246_86 (a0 : Int) (μ : mi_M) : Prop := mx_R a0 ∧ (0 ≤ μ 86 26 ∧ μ 86 26 ≤ 3)
def mq246_86 (a0 : Int) (μ : mi_M) (r : Int) (ν : mi_M) : Prop := (((0 ≤ a0 ∧ a0 ≤ 1) ∧ bit (μ 86 26) a0 = 1) ∧ r = 1 ∧ bkR (431 * a0) μ ν) ∨ (¬ ((0 ≤ a0 ∧ a0 ≤ 1) ∧ bit (μ 86 26) a0 = 1) ∧ r = 0 ∧ rno μ ν)
theorem mc246_86 {a0 : Int} (hp : mp246_86 a0 μ) (hq : ∀ r ν, mq246_86 a0 μ r ν → Q (.inl (some (.inl r))) mi_G0 ν) : mi_cok X 246 [(.inr (.inl (some 86))), (.inl a0)] mi_G0 μ u Q := by
  obtain ⟨hr, b1, b2⟩ := hp
  apply me246_86
  rw [mx_withinM hr (by unfold mx_R; omega) (by unfold mx_R; omega)]
  by_cases c : 0 ≤ a0 ∧ a0 ≤ 1
  · rw [if_pos c, if_neg w_10, and_bit b1 b2 c.1 c.2]
    have hb : (if a0 = 0 then μ 86 26 % 2 else μ 86 26 / 2) = bit (μ 86 26) a0 := rfl
    have hb2 : 0 ≤ bit (μ 86 26) a0 ∧ bit (μ 86 26) a0 ≤ 1 := by unfold bit; split <;> omega
    rw [hb]
    by_cases d : bit (μ 86 26) a0 = 0
    · rw [if_pos d]; exact hq _ _ (Or.inr ⟨fun h => by have := h.2; omega, rfl, rfl⟩)
    rw [if_neg d]
    have e89 : mi_set μ 86 0 0 89 = μ 89 := ms_other _ (by decide) _ _
    have e102 : mi_set μ 86 0 0 102 = μ 102 := ms_other _ (by decide) _ _
    have e87 := th_87 μ 0
    have eo : ∀ q, q ≠ 86 → mi_set μ 86 0 0 q = μ q := fun q h => ms_other _ h _ _
    have ez := th_0 μ 0
    have e86 : ∀ j, j ≠ 0 → mi_set μ 86 0 0 86 j = μ 86 j := fun j h => by rw [ms_same, if_neg h]
    revert e89 e102 e87 eo ez e86
    generalize mi_set μ 86 0 0 = μ'
    intro e89 e102 e87 eo ez e86
    refine qp_u (A := fun k ρ => mk246_86_29 X Q u a0 k ρ) (fun k ρ => ρ = mi_row μ' 87 (fl (fun j => μ 102 (431 * a0 + j)) (μ 87) 0 k)) (a := 0) (n := 394) (by decide) ?_ ?_ ?_
    · rintro ρ rfl
      apply mh246_86_29
      rw [if_neg (by decide)]
      refine qp_u (A := fun k ρ => mk246_86_62 X Q u a0 k ρ) (fun k ρ => ρ = mi_row (mi_row μ' 87 (fl (fun j => μ 102 (431 * a0 + j)) (μ 87) 0 394)) 89 (fl (fun j => μ 102 (431 * a0 + 394 + j)) (μ 89) 0 k)) (a := 0) (n := 36) (by decide) ?_ ?_ ?_
      · rintro ρ rfl
        apply mh246_86_62
        rw [if_neg (by decide), mr_other _ (show (102 : Nat) ≠ 89 by decide), mr_other _ (show (102 : Nat) ≠ 87 by decide), e102]
        refine ⟨by omega, hq _ _ (Or.inl ⟨⟨c, by omega⟩, rfl, fun q hq => ?_, fun j h1 h2 h3 => ?_, ?_, ?_, ?_, fun j => ?_, fun j h1 h2 => ?_⟩)⟩
        · simp only [List.mem_cons, List.not_mem_nil, or_false, not_or] at hq
          rw [ms_other _ hq.1, ms_other _ hq.1, mr_other _ hq.2.2, mr_other _ hq.2.1, eo q hq.1]
        · rw [ms_same, if_neg h2, ms_same, if_neg h3, mr_other _ (by decide), mr_other _ (by decide), e86 j h1]
        · rw [ms_same, if_neg (by decide), ms_same, if_neg (by decide), mr_other _ (by decide), mr_other _ (by decide), ez]
        · rw [ms_same, if_pos rfl]
        · rw [ms_same, if_neg (by decide), ms_same, if_pos rfl, show 431 * a0 + 394 + 36 = 431 * a0 + 430 by omega]
        · rw [ms_other _ (by decide), ms_other _ (by decide), mr_other _ (by decide), mr_same]; rfl
        · rw [ms_other _ (by decide), ms_other _ (by decide), mr_same, fl_in h1 h2]
      · rintro k ρ h1 h2 rfl t
        apply mh246_86_62
        rw [mi_wr_id (by omega) (by omega), mi_wr_id (by omega) (by omega), if_pos (by omega), mr_other _ (show (102 : Nat) ≠ 89 by decide), mr_other _ (show (102 : Nat) ≠ 87 by decide), e102]
        exact ⟨by omega, ⟨h1, h2⟩, t _ (fl_s h1 rfl)⟩
      · have := fl_0 (mi_row μ' 87 (fl (fun j => μ 102 (431 * a0 + j)) (μ 87) 0 394)) 89 (fun j => μ 102 (431 * a0 + 394 + j)) 0
        rw [mr_other _ (by decide), e89] at this
        exact this.symm
    · rintro k ρ h1 h2 rfl t
      apply mh246_86_29
      rw [mi_wr_id (by omega) (by omega), mi_wr_id (by omega) (by omega), if_pos (by omega), mr_other _ (show (102 : Nat) ≠ 87 by decide), e102]
      exact ⟨by omega, ⟨h1, h2⟩, t _ (fl_s h1 rfl)⟩
    · have := fl_0 μ' 87 (fun j => μ 102 (431 * a0 + j)) 0
      rw [e87] at this
      exact this.symm
  · rw [if_neg c, if_pos w_00]
    exact hq _ _ (Or.inr ⟨fun h => c h.1, rfl, rfl⟩)
end
