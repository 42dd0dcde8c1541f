/-! THE PAST, on: given back; what the reference keeps; blank scenes -/
section
variable {X : mi_X} {Q : mi_R → mi_G → mi_M → Prop} {u : mi_U} {μ : mi_M}
def dn1 (n : Int) : Int := if 0 < n then n - 1 else 7
noncomputable def gbk (μ : mi_M) : mi_M := mi_set (bc 1 (sl (μ 17 1) 0) (mi_set μ 17 1 (dn1 (μ 17 1)))) 17 0 (μ 17 0 - 1)
def mp47_17_1 (μ : mi_M) : Prop := (0 ≤ μ 17 0 ∧ μ 17 0 ≤ 8) ∧ (0 ≤ μ 17 1 ∧ μ 17 1 < 8)
def mq47_17_1 (μ ν : mi_M) : Prop := fr_l [1, 2, 3, 17] μ ν ∧ ν 17 0 = μ 17 0 - 1 ∧ (0 ≤ ν 17 1 ∧ ν 17 1 < 8) ∧ (∀ j, sc_m ν j = if 0 ≤ j ∧ j < 394 then pc_ μ 0 j else sc_m μ j) ∧ ∀ a, pc_ ν a = pc_ μ (a + 1)
theorem bc_17b {d : Nat} {μ : mi_M} : bc 1 d μ 17 = μ 17 := bc_ot (by decide) (by decide) (by decide)
theorem gb_is (hp : mp47_17_1 μ) : mq47_17_1 μ (gbk μ) := by
  obtain ⟨⟨h1, h2⟩, n1, n2⟩ := hp
  have sb := sl_b (n := μ 17 1) (a := 0)
  have e0 : gbk μ 17 0 = μ 17 0 - 1 := by unfold gbk; rw [ms_same, if_pos rfl]
  have e1 : gbk μ 17 1 = dn1 (μ 17 1) := by unfold gbk; rw [ms_same, if_neg (by decide), bc_17b, ms_same, if_pos rfl]
  have eo : ∀ q, q ≠ 17 → q ≠ 1 → q ≠ 2 → q ≠ 3 → gbk μ q = μ q := fun q a b c d => by unfold gbk; rw [ms_other _ a, bc_ot b c d, ms_other _ a]
  have ew : 0 ≤ dn1 (μ 17 1) ∧ dn1 (μ 17 1) < 8 := by unfold dn1; split <;> omega
  have es : ∀ c, 17 < c → sk (gbk μ) c = sk μ c := fun c hc => sk_eq (eo _ (by omega) (by omega) (by omega) (by omega)) (eo _ (by omega) (by omega) (by omega) (by omega)) (eo _ (by omega) (by omega) (by omega) (by omega))
  refine ⟨fun q hq => ?_, e0, by rw [e1]; exact ew, fun j => ?_, fun a => ?_⟩
  · simp only [List.mem_cons, List.not_mem_nil, or_false, not_or] at hq
    exact eo q hq.2.2.2 hq.1 hq.2.1 hq.2.2.1
  · have t1 : sc_m (gbk μ) = sk (bc 1 (sl (μ 17 1) 0) (mi_set μ 17 1 (dn1 (μ 17 1)))) 1 := by
      rw [← sk_1]; unfold gbk
      exact sk_eq (ms_other _ (by decide) _ _) (ms_other _ (by decide) _ _) (ms_other _ (by decide) _ _)
    have t2 : ∀ c, 17 < c ∨ c + 2 < 17 → sk (mi_set μ 17 1 (dn1 (μ 17 1))) c = sk μ c := fun c hc => sk_eq (ms_other _ (by omega) _ _) (ms_other _ (by omega) _ _) (ms_other _ (by omega) _ _)
    rw [t1, bc_sk (by omega)]
    show (if 0 ≤ j ∧ j < 394 then sk _ _ j else sk _ 1 j) = _
    rw [t2 _ (by omega), t2 1 (by omega)]; rfl
  · have sb' := sl_b (n := gbk μ 17 1) (a := a)
    unfold pc_
    rw [es _ (by omega)]
    have : sl (gbk μ 17 1) a = sl (μ 17 1) (a + 1) := by rw [e1]; unfold sl dn1; split <;> omega
    rw [this]
theorem gb_go {σ : mi_M} {n : Int} (hn : 0 ≤ n ∧ n < 8) (hp : mp47_17_1 μ) (e : dn1 (μ 17 1) = n) (hs : σ = bc 1 (19 + 3 * n.toNat) (mi_set μ 17 1 n)) (hq : Q (.inl none) mi_G0 (gbk μ)) : Q (.inl none) mi_G0 (mi_set σ 17 0 (σ 17 0 - 1)) := by
  obtain ⟨-, n1, n2⟩ := hp
  have hk : gbk μ = mi_set σ 17 0 (σ 17 0 - 1) := by
    unfold gbk
    have e2 : sl (μ 17 1) 0 = 19 + 3 * n.toNat := by rw [← e]; unfold sl dn1; split <;> omega
    rw [hs, e2, e, bc_17b, ms_same, if_neg (by decide)]
  rw [← hk]; exact hq
theorem mc47_17_1 (hp : mp47_17_1 μ) (hq : ∀ ν, mq47_17_1 μ ν → Q (.inl none) mi_G0 ν) : mi_cok X 47 [(.inr (.inl (some 17))), (.inr (.inl (some 1)))] mi_G0 μ u Q := by
  apply me47_17_1
  have hk := hq _ (gb_is hp)
  obtain ⟨-, n1, n2⟩ := id hp
  have key : mk47_17_1_31 X Q u (dn1 (μ 17 1)) (mi_set μ 17 1 (dn1 (μ 17 1))) := by
    have : dn1 (μ 17 1) = 0 ∨ dn1 (μ 17 1) = 1 ∨ dn1 (μ 17 1) = 2 ∨ dn1 (μ 17 1) = 3 ∨ dn1 (μ 17 1) = 4 ∨ dn1 (μ 17 1) = 5 ∨ dn1 (μ 17 1) = 6 ∨ dn1 (μ 17 1) = 7 := by unfold dn1; split <;> omega
    rcases this with e | e | e | e | e | e | e | e
    · rw [e]; exact mh47_17_1_31_v0 (gb_go (n := 0) (by decide) hp e rfl hk)
    · rw [e]; exact mh47_17_1_31_v1 (gb_go (n := 1) (by decide) hp e rfl hk)
    · rw [e]; exact mh47_17_1_31_v2 (gb_go (n := 2) (by decide) hp e rfl hk)
    · rw [e]; exact mh47_17_1_31_v3 (gb_go (n := 3) (by decide) hp e rfl hk)
    · rw [e]; exact mh47_17_1_31_v4 (gb_go (n := 4) (by decide) hp e rfl hk)
    · rw [e]; exact mh47_17_1_31_v5 (gb_go (n := 5) (by decide) hp e rfl hk)
    · rw [e]; exact mh47_17_1_31_v6 (gb_go (n := 6) (by decide) hp e rfl hk)
    · rw [e]; exact mh47_17_1_31_v7 (gb_go (n := 7) (by decide) hp e rfl hk)
  rw [mi_wr_id (by omega) (by omega)]
  by_cases c : 0 < μ 17 1
  · rw [if_pos c]
    unfold dn1 at key; rw [if_pos c] at key; exact key
  · rw [if_neg c]
    unfold dn1 at key; rw [if_neg c] at key; exact key
/-- rows laid blank -/
def mq85_1 (a0 a1 : Int) (μ ν : mi_M) : Prop := fr_l [1, 3] μ ν ∧ ∀ j, sc_m ν j = if j = 0 then a0 else if j = 1 then a1 else if 10 ≤ j ∧ j < 394 then 0 else sc_m μ j
theorem mc85_1 {a0 a1 : Int} (hq : ∀ ν, mq85_1 a0 a1 μ ν → Q (.inl none) mi_G0 ν) : mi_cok X 85 [(.inr (.inl (some 1))), (.inl a0), (.inl a1)] mi_G0 μ u Q := by
  apply me85_1
  refine qp_u (A := fun k ρ => mk85_1_12 X Q u k ρ) (fun k ρ => ρ = mi_row (mi_set (mi_set μ 1 0 a0) 1 1 a1) 3 (fl (fun _ => 0) (μ 3) 0 k)) (a := 0) (n := 384) (by decide) ?_ ?_ ?_
  · rintro ρ rfl
    apply mh85_1_12
    rw [if_neg (by decide)]
    refine hq _ ⟨fun q hq => ?_, fun j => ?_⟩
    · simp only [List.mem_cons, List.not_mem_nil, or_false, not_or] at hq
      rw [mr_other _ hq.2, ms_other _ hq.1, ms_other _ hq.1]
    · unfold sc_m
      rw [mr_same, mr_other _ (show (1 : Nat) ≠ 3 by decide), mr_other _ (show (2 : Nat) ≠ 3 by decide), ms_same, ms_same, ms_other _ (show (2 : Nat) ≠ 1 by decide), ms_other _ (show (2 : Nat) ≠ 1 by decide)]
      by_cases c1 : j < 2
      · rw [if_pos c1]
        by_cases c2 : j = 0
        · rw [if_pos c2, if_neg (by omega), if_pos c2]
        · by_cases c3 : j = 1
          · rw [if_pos c3, if_neg c2, if_pos c3]
          · rw [if_neg c3, if_neg c2, if_neg c2, if_neg c3, if_neg (by omega), if_pos c1]
      · rw [if_neg c1, if_neg (show ¬ j = 0 by omega), if_neg (show ¬ j = 1 by omega), if_neg c1]
        by_cases c2 : j < 10
        · rw [if_pos c2, if_neg (by omega), if_pos c2]
        · rw [if_neg c2, if_neg c2]
          by_cases c3 : j < 394
          · rw [if_pos (by omega), fl_in (by omega) (by omega)]
          · rw [if_neg (by omega), fl_out (by omega)]
  · rintro k ρ h1 h2 rfl t
    apply mh85_1_12
    rw [mi_wr_id (by omega) (by omega), mi_wr_id (by omega) (by omega), if_pos (by omega)]
    exact ⟨⟨h1, h2⟩, t _ (fl_s h1 rfl)⟩
  · have := fl_0 (mi_set (mi_set μ 1 0 a0) 1 1 a1) 3 (fun _ => 0) 0
    rw [ms_other _ (by decide), ms_other _ (by decide)] at this
    exact this.symm
def mq85_14 (a0 a1 : Int) (μ ν : mi_M) : Prop := ν = mi_row (mi_set (mi_set μ 14 0 a0) 14 1 a1) 16 (fl (fun _ => 0) (μ 16) 0 384)
theorem mc85_14 {a0 a1 : Int} (hq : ∀ ν, mq85_14 a0 a1 μ ν → Q (.inl none) mi_G0 ν) : mi_cok X 85 [(.inr (.inl (some 14))), (.inl a0), (.inl a1)] mi_G0 μ u Q := by
  apply me85_14
  refine qp_u (A := fun k ρ => mk85_14_12 X Q u k ρ) (fun k ρ => ρ = mi_row (mi_set (mi_set μ 14 0 a0) 14 1 a1) 16 (fl (fun _ => 0) (μ 16) 0 k)) (a := 0) (n := 384) (by decide) ?_ ?_ ?_
  · rintro ρ rfl
    apply mh85_14_12
    rw [if_neg (by decide)]
    exact hq _ rfl
  · rintro k ρ h1 h2 rfl t
    apply mh85_14_12
    rw [mi_wr_id (by omega) (by omega), mi_wr_id (by omega) (by omega), if_pos (by omega)]
    exact ⟨⟨h1, h2⟩, t _ (fl_s h1 rfl)⟩
  · have := fl_0 (mi_set (mi_set μ 14 0 a0) 14 1 a1) 16 (fun _ => 0) 0
    rw [ms_other _ (by decide), ms_other _ (by decide)] at this
    exact this.symm
def mq147_86 (μ ν : mi_M) : Prop := ν = mi_row μ 87 (fl (fun _ => 0) (μ 87) 10 394)
theorem mc147_86 (hq : ∀ ν, mq147_86 μ ν → Q (.inl none) mi_G0 ν) : mi_cok X 147 [(.inr (.inl (some 86)))] mi_G0 μ u Q := by
  apply me147_86
  refine qp_u (A := fun k ρ => mk147_86_3 X Q u k ρ) (fun k ρ => ρ = mi_row μ 87 (fl (fun _ => 0) (μ 87) 10 k)) (a := 10) (n := 394) (by decide) ?_ ?_ (fl_0 _ _ _ _).symm
  · rintro ρ rfl
    apply mh147_86_3
    rw [if_neg (by decide)]
    exact hq _ rfl
  · rintro k ρ h1 h2 rfl t
    apply mh147_86_3
    rw [mi_wr_id (by omega) (by omega), mi_wr_id (by omega) (by omega), if_pos (by omega)]
    exact ⟨⟨by omega, h2⟩, t _ (fl_s h1 rfl)⟩
/-- the reference keeps -/
def mp148_86 (μ : mi_M) : Prop := 0 ≤ μ 86 3 ∧ μ 86 3 ≤ 8
def mq148_86 (μ ν : mi_M) : Prop := fr_l [86, 88] μ ν ∧ (∀ j, j ≠ 3 → ν 86 j = μ 86 j) ∧ kpr μ ν
theorem ks_2 {ρ : mi_M} {pm : Int} (e : ρ 86 3 = pm) (h : 0 ≤ pm) (h' : pm ≤ 7) (hq : Q (.inl none) mi_G0 (mi_set (mi_row ρ 88 (fl (fun j => ρ 87 (j - 394 * pm)) (ρ 88) (394 * pm) (394 * pm + 394))) 86 3 (pm + 1))) : mk148_86_52 X Q u 0 ρ := by
  refine qp_u (A := fun k σ => mk148_86_52 X Q u k σ) (fun k σ => σ = mi_row ρ 88 (fl (fun j => ρ 87 (j - 394 * pm)) (ρ 88) (394 * pm) (394 * pm + k))) (a := 0) (n := 394) (by decide) ?_ ?_ ?_
  · rintro σ rfl
    apply mh148_86_52
    rw [if_neg (by decide), mr_other _ (by decide), e]
    exact hq
  · rintro k σ h1 h2 rfl t
    apply mh148_86_52
    rw [mi_wr_id (by omega) (by omega), mi_wr_id (by omega) (by omega), if_pos (by omega), mr_other _ (by decide), mr_other _ (by decide), e]
    refine ⟨⟨h1, h2⟩, ⟨by omega, by omega⟩, t _ ?_⟩
    rw [show 394 * pm + (k + 1) = 394 * pm + k + 1 by omega]
    refine fl_s (by omega) ?_
    show ρ 87 k = ρ 87 (394 * pm + k - 394 * pm)
    rw [show 394 * pm + k - 394 * pm = k by omega]
  · rw [Int.add_zero]; exact (fl_0 _ _ _ _).symm
theorem mc148_86 (hp : mp148_86 μ) (hq : ∀ ν, mq148_86 μ ν → Q (.inl none) mi_G0 ν) : mi_cok X 148 [(.inr (.inl (some 86)))] mi_G0 μ u Q := by
  obtain ⟨p1, p2⟩ := hp
  apply me148_86
  rw [mi_wr_id (by omega) (by omega), mi_wr_id (by omega) (by omega)]
  by_cases c : μ 86 3 = 8
  · rw [if_pos c]
    refine qp_u (A := fun k σ => mk148_86_11 X Q u k σ) (fun k σ => σ = mi_row μ 88 (fl (fun j => μ 88 (j + 394)) (μ 88) 0 k)) (a := 0) (n := 2758) (by decide) ?_ ?_ (fl_0 _ _ _ _).symm
    · rintro σ rfl
      apply mh148_86_11
      rw [if_neg (by decide), mr_other _ (by decide), c]
      refine ks_2 (pm := 7) (by rw [ms_same, if_pos rfl]; rfl) (by decide) (by decide) (hq _ ?_)
      refine ⟨fun q hq => ?_, fun j hj => ?_, ?_, fun a j ha ha' hj hj' => ?_⟩
      · simp only [List.mem_cons, List.not_mem_nil, or_false, not_or] at hq
        rw [ms_other _ hq.1, mr_other _ hq.2, ms_other _ hq.1, mr_other _ hq.2]
      · rw [ms_same, if_neg hj, mr_other _ (by decide), ms_same, if_neg hj, mr_other _ (by decide)]
      · rw [ms_same, if_pos rfl, c]; rfl
      · unfold pr_
        rw [ms_same, if_pos rfl] at ha' ⊢
        rw [ms_other _ (by decide), mr_same, ms_other _ (by decide), mr_other _ (show (87 : Nat) ≠ 88 by decide), ms_other _ (by decide), mr_same, c]
        by_cases d : a = 0
        · rw [if_pos d, fl_in (by omega) (by omega)]
          show μ 87 _ = _
          rw [show 394 * (7 + 1 - 1 - a) + j - 394 * 7 = j by omega]
        · rw [if_neg d, fl_out (by omega), fl_in (by omega) (by omega)]
          show μ 88 _ = _
          rw [show 394 * (7 + 1 - 1 - a) + j + 394 = 394 * (8 - 1 - (a - 1)) + j by omega]
    · rintro k σ h1 h2 rfl t
      apply mh148_86_11
      rw [mi_wr_id (by omega) (by omega), mi_wr_id (by omega) (by omega), if_pos (by omega)]
      refine ⟨⟨by omega, by omega⟩, ⟨h1, by omega⟩, t _ (fl_s h1 ?_)⟩
      rw [mr_same, fl_out (by omega)]
  · rw [if_neg c]
    refine ks_2 (pm := μ 86 3) rfl p1 (by omega) (hq _ ?_)
    refine ⟨fun q hq => ?_, fun j hj => ?_, ?_, fun a j ha ha' hj hj' => ?_⟩
    · simp only [List.mem_cons, List.not_mem_nil, or_false, not_or] at hq
      rw [ms_other _ hq.1, mr_other _ hq.2]
    · rw [ms_same, if_neg hj, mr_other _ (by decide)]
    · rw [ms_same, if_pos rfl]; unfold up1; split <;> omega
    · unfold pr_
      rw [ms_same, if_pos rfl] at ha' ⊢
      rw [ms_other _ (by decide), mr_same]
      by_cases d : a = 0
      · rw [if_pos d, fl_in (by omega) (by omega)]
        show μ 87 _ = _
        rw [show 394 * (μ 86 3 + 1 - 1 - a) + j - 394 * μ 86 3 = j by omega]
      · rw [if_neg d, fl_out (by omega), show 394 * (μ 86 3 + 1 - 1 - a) + j = 394 * (μ 86 3 - 1 - (a - 1)) + j by omega]
/-- the reference's undo -/
def mp149_86 (μ : mi_M) : Prop := 0 ≤ μ 86 3 ∧ μ 86 3 ≤ 8
def mq149_86 (μ : mi_M) (r : Int) (ν : mi_M) : Prop := fr_l [86, 87] μ ν ∧ (∀ j, j ≠ 0 → j ≠ 3 → ν 86 j = μ 86 j) ∧ (ν 86 3 = if μ 86 3 = 0 then 0 else μ 86 3 - 1) ∧ (r = if μ 86 3 = 0 then -1 else μ 86 3 - 1) ∧ ν 86 0 = 0 ∧ ∀ j, ν 87 j = if μ 86 3 ≠ 0 ∧ 0 ≤ j ∧ j < 394 then pr_ μ 0 j else μ 87 j
theorem mc149_86 (hp : mp149_86 μ) (hq : ∀ r ν, mq149_86 μ r ν → Q (.inl (some (.inl r))) mi_G0 ν) : mi_cok X 149 [(.inr (.inl (some 86)))] mi_G0 μ u Q := by
  obtain ⟨p1, p2⟩ := hp
  apply me149_86
  rw [mi_wr_id (by omega) (by omega)]
  by_cases c : μ 86 3 = 0
  · rw [if_pos c]
    refine hq _ _ ⟨fr_ls (fr_lr _ _) (by decide) _ _, fun j h _ => by rw [ms_same, if_neg h], ?_, ?_, ?_, fun j => ?_⟩
    · rw [ms_same, if_neg (by decide), if_pos c, c]
    · rw [if_pos c]
    · rw [ms_same, if_pos rfl]
    · rw [ms_other _ (by decide), if_neg (fun h => h.1 c)]
  · rw [if_neg c]
    refine qp_u (A := fun k σ => mk149_86_26 X Q u k σ) (fun k σ => σ = mi_row (mi_set (mi_set μ 86 0 0) 86 3 (μ 86 3 - 1)) 87 (fl (pr_ μ 0) (μ 87) 0 k)) (a := 0) (n := 394) (by decide) ?_ ?_ ?_
    · rintro σ rfl
      apply mh149_86_26
      rw [if_neg (by decide), mr_other _ (show (86 : Nat) ≠ 87 by decide), ms_same _ _ 3, if_pos rfl]
      refine hq _ _ ⟨fun q hq => ?_, fun j h h' => ?_, ?_, ?_, ?_, fun j => ?_⟩
      · simp only [List.mem_cons, List.not_mem_nil, or_false, not_or] at hq
        rw [mr_other _ hq.2, ms_other _ hq.1, ms_other _ hq.1]
      · rw [mr_other _ (by decide), ms_same, if_neg h', ms_same, if_neg h]
      · rw [mr_other _ (by decide), ms_same, if_pos rfl, if_neg c]
      · rw [if_neg c]
      · rw [mr_other _ (by decide), ms_same, if_neg (by decide), ms_same, if_pos rfl]
      · rw [mr_same]
        by_cases d : 0 ≤ j ∧ j < 394
        · rw [fl_in d.1 d.2, if_pos ⟨c, d⟩]
        · rw [fl_out (by omega), if_neg (fun h => d h.2)]
    · rintro k σ h1 h2 rfl t
      apply mh149_86_26
      rw [mi_wr_id (by omega) (by omega), mi_wr_id (by omega) (by omega), if_pos (by omega), mr_other _ (show (86 : Nat) ≠ 87 by decide), ms_same _ _ 3, if_pos rfl]
      refine ⟨⟨by omega, by omega⟩, ⟨h1, h2⟩, t _ (fl_s h1 ?_)⟩
      rw [mr_other _ (by decide), ms_other _ (by decide), ms_other _ (by decide)]
      unfold pr_
      rw [show μ 86 3 - 1 - 0 = μ 86 3 - 1 by omega]
    · have := fl_0 (mi_set (mi_set μ 86 0 0) 86 3 (μ 86 3 - 1)) 87 (pr_ μ 0) 0
      rw [ms_other _ (by decide), ms_other _ (by decide)] at this
      exact this.symm
end
