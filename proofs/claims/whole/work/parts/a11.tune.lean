/-! ACTS: tune, undo -/
def stn (a : Int) : Int := if a = 1 then 0 else if a ≤ 4 then 1 else if a ≤ 6 then 3 else 5
section
variable {X : mi_X} {Q : mi_R → mi_G → mi_M → Prop} {u : mi_U} {μ : mi_M}
theorem s8 {a : Int} (h : 0 ≤ a) (h' : a < 8) : a = 0 ∨ a = 1 ∨ a = 2 ∨ a = 3 ∨ a = 4 ∨ a = 5 ∨ a = 6 ∨ a = 7 := by omega
theorem stn_is {a : Int} (h : 0 ≤ a) (h' : a < 8) : mi_ro X 1005 a = stn a := by
  rcases s8 h h' with rfl | rfl | rfl | rfl | rfl | rfl | rfl | rfl <;> rfl
theorem stn_b {a : Int} : 0 ≤ stn a ∧ stn a ≤ 5 := by unfold stn; (repeat' split) <;> omega
theorem tn_ci {s : Int} {μ0 ρ : mi_M} (hm : sc_ok (sc_m μ)) (hc : ci μ) (hs : 0 ≤ s) (h : mq139_0 s μ μ0) (hf : fr_l [2] μ0 ρ) (h1 : 1 ≤ s → eq1 (sc_m μ) (sc_m ρ)) (h2 : 2 ≤ s → eq3 (sc_m μ) (sc_m ρ)) (h4 : 4 ≤ s → eq5 (sc_m μ) (sc_m ρ)) : ci ρ := by
  obtain ⟨c1, c2, c3, c4⟩ := hc
  obtain ⟨b1, -, b3, b4⟩ := h
  have e0 : ρ 0 = μ0 0 := hf 0 (by decide)
  have e66 : ρ 66 = μ0 66 := hf 66 (by decide)
  have hg : ∀ q, 67 ≤ q → q ≤ 79 → ρ q = μ q := fun q g1 g2 => by
    rw [hf q (by simp only [List.mem_cons, List.not_mem_nil, or_false]; omega)]
    exact b1 q (BS_no (by omega) (by omega) (by omega))
  have k1 : ρ 0 11 ≤ s ∧ ρ 0 11 ≤ μ 0 11 ∧ 0 ≤ ρ 0 11 ∧ (1 < s → ρ 0 11 = 0 → μ 0 11 = 0) := by
    rw [e0, b3]; split <;> omega
  refine ⟨by omega, ?_, fun hz => ?_, cvu_cg (cvu_le c4 k1.2.1) hm (fun e => h1 (by omega)) (fun e => h2 (by omega)) (fun e => h4 (by omega)) hg⟩
  · by_cases c : 1 < s
    · exact tw_cg c2 hm (h2 (by omega)) (by rw [e66, b4, if_pos c]) (hg 70 (by decide) (by decide))
    · have : ρ 66 5 = -1 := by rw [e66, b4, if_neg c]
      exact ⟨by omega, fun r g1 g2 => by omega⟩
  · rw [e66, b4]
    by_cases c : 1 < s
    · rw [if_pos c]; exact c3 (k1.2.2.2 c hz)
    · rw [if_neg c]
def mp101_0 (a0 a1 : Int) (μ : mi_M) : Prop := cvA μ ∧ mp46_17_1 μ ∧ mx_R a0 ∧ mx_R a1
def mq101_0 (a0 a1 : Int) (μ : mi_M) (r : Int) (ν : mi_M) : Prop := (tnb (sc_m μ) a0 a1 → r = sc_m μ (2 + a0) ∧ acc μ ν (vlf (2 + a0) a1 (sc_m μ))) ∧ (¬ tnb (sc_m μ) a0 a1 → r = -1 ∧ ν = μ)
theorem d_is {ν : mi_M} {a : Int} (h : 0 ≤ a) (h' : a < 8) : ν 2 a = sc_m ν (2 + a) := by
  unfold sc_m; rw [if_neg (by omega), if_pos (by omega), show 2 + a - 2 = a by omega]
theorem tn_p {a0 a1 : Int} (r0 : mx_R a0) : mp89_1 a0 a1 μ := by
  unfold mp89_1
  rw [mx_within r0 (by unfold mx_R; omega) (by unfold mx_R; omega)]
  by_cases c : 0 ≤ a0 ∧ a0 ≤ 7
  · rw [if_pos c, if_neg w_10]; omega
  · rw [if_neg c, if_pos w_00]; trivial
theorem tn_v {a0 a1 : Int} (hm : sc_ok (sc_m μ)) (r0 : mx_R a0) (r1 : mx_R a1) : (tnb (sc_m μ) a0 a1 → mv89_1 X a0 a1 μ = 1) ∧ (¬ tnb (sc_m μ) a0 a1 → mv89_1 X a0 a1 μ = 0) := by
  obtain ⟨-, -, -, -, ⟨p1, p2, p3⟩, -⟩ := hm
  have e2 : μ 2 2 = sc_m μ 4 := d_is (by decide) (by decide)
  have e3 : μ 2 3 = sc_m μ 5 := d_is (by decide) (by decide)
  have w2 : mi_wr 2 = 2 := by decide
  have w3 : mi_wr 3 = 3 := by decide
  unfold mv89_1
  rw [mx_within r0 (by unfold mx_R; omega) (by unfold mx_R; omega), mx_wr r0, mx_wr r1, e2, e3, w2, w3, mi_wr_id (z := sc_m μ 4) (by omega) (by omega), mi_wr_id (z := sc_m μ 5) (by omega) (by omega)]
  by_cases c : 0 ≤ a0 ∧ a0 ≤ 7
  · rw [if_pos c, if_neg w_10]
    have key : ∀ lo hi : Int, mi_ro X 1000 a0 = lo → mi_ro X 1001 a0 = hi → mx_R lo → mx_R hi → mv134 a1 (mi_ro X 1000 a0) (mi_ro X 1001 a0) μ = if lo ≤ a1 ∧ a1 ≤ hi then 1 else 0 := fun lo hi q1 q2 q3 q4 => by rw [q1, q2]; exact mx_within r1 q3 q4
    have fin : ∀ lo hi : Int, mi_ro X 1000 a0 = lo → mi_ro X 1001 a0 = hi → mx_R lo → mx_R hi → ((tnb (sc_m μ) a0 a1 ↔ (lo ≤ a1 ∧ a1 ≤ hi) ∧ (a0 = 2 → a1 ≤ sc_m μ 5) ∧ (a0 = 3 → sc_m μ 4 ≤ a1))) → (tnb (sc_m μ) a0 a1 → (if mi_wr (mv134 a1 (mi_ro X 1000 a0) (mi_ro X 1001 a0) μ) = 0 then 0 else (if a0 = 2 then (if sc_m μ 5 < a1 then 0 else (if a0 = 3 then (if a1 < sc_m μ 4 then 0 else 1) else 1)) else (if a0 = 3 then (if a1 < sc_m μ 4 then 0 else 1) else 1)) : Int) = 1) ∧ (¬ tnb (sc_m μ) a0 a1 → (if mi_wr (mv134 a1 (mi_ro X 1000 a0) (mi_ro X 1001 a0) μ) = 0 then 0 else (if a0 = 2 then (if sc_m μ 5 < a1 then 0 else (if a0 = 3 then (if a1 < sc_m μ 4 then 0 else 1) else 1)) else (if a0 = 3 then (if a1 < sc_m μ 4 then 0 else 1) else 1)) : Int) = 0) := fun lo hi q1 q2 q3 q4 q5 => by
      rw [key lo hi q1 q2 q3 q4, q5]
      by_cases d : lo ≤ a1 ∧ a1 ≤ hi
      · rw [if_pos d, if_neg w_10]
        constructor
        · rintro ⟨-, g1, g2⟩
          (repeat' split) <;> first | rfl | omega
        · intro g
          (repeat' split) <;> first | rfl | (exact absurd ⟨d, by omega, by omega⟩ g)
      · rw [if_neg d, if_pos w_00]
        exact ⟨fun g => absurd g.1 d, fun _ => rfl⟩
    unfold tnb at fin ⊢
    rcases s8 c.1 (by omega) with rfl | rfl | rfl | rfl | rfl | rfl | rfl | rfl
    · exact fin 1 7 rfl rfl (by unfold mx_R; omega) (by unfold mx_R; omega) (by omega)
    · exact fin 1 2 rfl rfl (by unfold mx_R; omega) (by unfold mx_R; omega) (by omega)
    · exact fin 0 60 rfl rfl (by unfold mx_R; omega) (by unfold mx_R; omega) (by omega)
    · exact fin 0 60 rfl rfl (by unfold mx_R; omega) (by unfold mx_R; omega) (by omega)
    · exact fin 1 255 rfl rfl (by unfold mx_R; omega) (by unfold mx_R; omega) (by omega)
    · exact fin 0 3 rfl rfl (by unfold mx_R; omega) (by unfold mx_R; omega) (by omega)
    · exact fin 1 50 rfl rfl (by unfold mx_R; omega) (by unfold mx_R; omega) (by omega)
    · exact fin 1 999 rfl rfl (by unfold mx_R; omega) (by unfold mx_R; omega) (by omega)
  · rw [if_neg c, if_pos w_00]
    refine ⟨fun h => ?_, fun _ => rfl⟩
    unfold tnb at h; omega
theorem vlf_n {k v j : Int} {m : Int → Int} (h : j ≠ k) : vlf k v m j = m j := if_neg h
theorem mc101_0 {a0 a1 : Int} (hp : mp101_0 a0 a1 μ) (hq : ∀ r ν, mq101_0 a0 a1 μ r ν → Q (.inl (some (.inl r))) mi_G0 ν) : mi_cok X 101 [(.inr (.inl (some 0))), (.inl a0), (.inl a1)] mi_G0 μ u Q := by
  obtain ⟨⟨hm, hc⟩, hr, r0, r1⟩ := hp
  apply me101_0
  refine ⟨tn_p r0, ?_⟩
  by_cases c : tnb (sc_m μ) a0 a1
  · rw [(tn_v hm r0 r1).1 c, if_neg w_10]
    have hb : 0 ≤ a0 ∧ a0 < 8 := by unfold tnb at c; omega
    rw [stn_is hb.1 hb.2]
    refine ⟨hb, ⟨hr, stn_b, hc.1⟩, fun μ0 h0 => ⟨hb, hb, hq _ _ ⟨fun _ => ⟨?_, ?_⟩, fun h => absurd c h⟩⟩⟩
    · rw [d_is (ν := μ0) hb.1 hb.2, beg_m h0]
    · have hf : fr_l [2] μ0 (mi_set μ0 2 a0 a1) := fr_ls (fr_lr _ _) (by decide) _ _
      have es : sc_m (mi_set μ0 2 a0 a1) = vlf (2 + a0) a1 (sc_m μ) := by rw [vlf_2 hb.1 hb.2, beg_m h0]
      have hn : ∀ j, j ≠ 2 + a0 → vlf (2 + a0) a1 (sc_m μ) j = sc_m μ j := fun j hj => vlf_n hj
      refine ⟨fr_lt (fr_lm h0.1 rfl) (fr_lm hf rfl), kpc_fr h0.2.1 (fun q hq => hf q (by
        simp only [List.mem_cons, List.not_mem_nil, or_false]; omega)), es, tn_ci hm hc stn_b.1 h0 hf ?_ ?_ ?_⟩
      · intro e
        have : a0 ≠ 1 := fun e' => by rw [e'] at e; exact absurd e (by decide)
        rw [es]
        exact ⟨hn _ (by omega), hn _ (by omega), hn _ (by omega), fun j hj => hn _ (by omega)⟩
      · intro e
        have : 5 ≤ a0 := by unfold stn at e; (repeat' split at e) <;> omega
        rw [es]
        exact ⟨⟨hn _ (by omega), hn _ (by omega), hn _ (by omega), fun j hj => hn _ (by omega)⟩, hn _ (by omega), hn _ (by omega), hn _ (by omega), hn _ (by omega)⟩
      · intro e
        have : a0 = 7 := by unfold stn at e; (repeat' split at e) <;> omega
        rw [es]
        exact ⟨⟨⟨hn _ (by omega), hn _ (by omega), hn _ (by omega), fun j hj => hn _ (by omega)⟩, hn _ (by omega), hn _ (by omega), hn _ (by omega), hn _ (by omega)⟩, hn _ (by omega), hn _ (by omega)⟩
  · rw [(tn_v hm r0 r1).2 c, if_pos w_00]
    exact hq _ _ ⟨fun h => absurd h c, fun _ => ⟨rfl, rfl⟩⟩
def mp172_86 (a0 a1 : Int) (μ : mi_M) : Prop := sc_ok (μ 87) ∧ mp148_86 μ ∧ mx_R a0 ∧ mx_R a1
def mq172_86 (a0 a1 : Int) (μ : mi_M) (r : Int) (ν : mi_M) : Prop := (tnb (μ 87) a0 a1 → r = μ 87 (2 + a0) ∧ acr μ ν (vlf (2 + a0) a1 (μ 87))) ∧ (¬ tnb (μ 87) a0 a1 → r = -1 ∧ rno μ ν)
theorem tn_R {a0 a1 : Int} (hm : sc_ok (μ 87)) (r0 : mx_R a0) (r1 : mx_R a1) : mp171_86 a0 a1 μ ∧ (tnb (μ 87) a0 a1 → mv171_86 a0 a1 μ = 1) ∧ (¬ tnb (μ 87) a0 a1 → mv171_86 a0 a1 μ = 0) := by
  obtain ⟨-, -, -, -, ⟨p1, p2, p3⟩, -⟩ := hm
  have w7 : mi_wr 7 = 7 := by decide
  have hw : ∀ lo hi : Int, mx_R lo → mx_R hi → mv144 a1 lo hi μ = if lo ≤ a1 ∧ a1 ≤ hi then 1 else 0 := fun lo hi q3 q4 => mx_withinM r1 q3 q4
  have z : ∀ lo hi : Int, (if lo ≤ a1 ∧ a1 ≤ hi then 1 else 0 : Int) = 0 ∨ (if lo ≤ a1 ∧ a1 ≤ hi then 1 else 0 : Int) = 1 := fun lo hi => by split <;> omega
  unfold mp171_86 mv171_86 tnb
  rw [mx_wr r0, w7, hw 1 7 (by unfold mx_R; omega) (by unfold mx_R; omega), hw 1 2 (by unfold mx_R; omega) (by unfold mx_R; omega), hw 0 (μ 87 5) (by unfold mx_R; omega) (by unfold mx_R; omega), hw (μ 87 4) 60 (by unfold mx_R; omega) (by unfold mx_R; omega), hw 1 255 (by unfold mx_R; omega) (by unfold mx_R; omega), hw 0 3 (by unfold mx_R; omega) (by unfold mx_R; omega), hw 1 50 (by unfold mx_R; omega) (by unfold mx_R; omega), hw 1 999 (by unfold mx_R; omega) (by unfold mx_R; omega)]
  refine ⟨?_, ?_⟩
  · (repeat' split) <;> first | omega | trivial
  · by_cases c0 : a0 = 0
    · simp only [if_pos c0]; constructor <;> intro h <;> split <;> omega
    by_cases c1 : a0 = 0 + 1
    · simp only [if_neg c0, if_pos c1]; constructor <;> intro h <;> split <;> omega
    by_cases c2 : a0 = 0 + 1 + 1
    · simp only [if_neg c0, if_neg c1, if_pos c2]; constructor <;> intro h <;> split <;> omega
    by_cases c3 : a0 = 0 + 1 + 1 + 1
    · simp only [if_neg c0, if_neg c1, if_neg c2, if_pos c3]; constructor <;> intro h <;> split <;> omega
    by_cases c4 : a0 = 0 + 1 + 1 + 1 + 1
    · simp only [if_neg c0, if_neg c1, if_neg c2, if_neg c3, if_pos c4]; constructor <;> intro h <;> split <;> omega
    by_cases c5 : a0 = 0 + 1 + 1 + 1 + 1 + 1
    · simp only [if_neg c0, if_neg c1, if_neg c2, if_neg c3, if_neg c4, if_pos c5]; constructor <;> intro h <;> split <;> omega
    by_cases c6 : a0 = 0 + 1 + 1 + 1 + 1 + 1 + 1
    · simp only [if_neg c0, if_neg c1, if_neg c2, if_neg c3, if_neg c4, if_neg c5, if_pos c6]; constructor <;> intro h <;> split <;> omega
    simp only [if_neg c0, if_neg c1, if_neg c2, if_neg c3, if_neg c4, if_neg c5, if_neg c6]
    by_cases c7 : a0 = 7
    · rw [if_pos c7]
      by_cases d : 1 ≤ a1 ∧ a1 ≤ 999
      · rw [if_pos d, if_neg w_10]; exact ⟨fun _ => rfl, fun h => absurd (by omega) h⟩
      · rw [if_neg d, if_pos w_00]; exact ⟨fun h => by omega, fun h => rfl⟩
    · rw [if_neg c7]; exact ⟨fun h => by omega, fun h => rfl⟩
theorem mc172_86 {a0 a1 : Int} (hp : mp172_86 a0 a1 μ) (hq : ∀ r ν, mq172_86 a0 a1 μ r ν → Q (.inl (some (.inl r))) mi_G0 ν) : mi_cok X 172 [(.inr (.inl (some 86))), (.inl a0), (.inl a1)] mi_G0 μ u Q := by
  obtain ⟨hm, hc, r0, r1⟩ := hp
  apply me172_86
  obtain ⟨t1, t2, t3⟩ := tn_R (μ := mi_set μ 86 0 0) (by rw [th_87]; exact hm) r0 r1
  rw [th_87] at t2 t3
  refine ⟨t1, ?_⟩
  by_cases c : tnb (μ 87) a0 a1
  · have hb : 0 ≤ a0 ∧ a0 < 8 := by unfold tnb at c; omega
    rw [t2 c, if_neg w_10]
    refine ⟨begR_p hc, fun μ0 h0 => ⟨by omega, by omega, hq _ _ ⟨fun _ => ⟨by rw [begR_m h0], ?_⟩, fun h => absurd c h⟩⟩⟩
    have := begR h0 (fr_ls (fr_lr [87] μ0) (show 87 ∈ [87] by decide) (2 + a0) a1)
    rw [vlf_R, begR_m h0] at this
    exact this
  · rw [t3 c, if_pos w_00]
    exact hq _ _ ⟨fun h => absurd h c, fun _ => ⟨rfl, rfl⟩⟩
/-- undo -/
def mp130_0 (μ : mi_M) : Prop := cvP μ
def mq130_0 (μ : mi_M) (r : Int) (ν : mi_M) : Prop := (μ 17 0 = 0 → r = -1 ∧ ν = μ) ∧ (μ 17 0 ≠ 0 → r = μ 17 0 - 1 ∧ fr_l [0, 1, 2, 3, 17, 66] μ ν ∧ ν 17 0 = μ 17 0 - 1 ∧ (0 ≤ ν 17 1 ∧ ν 17 1 < 8) ∧ (∀ j, sc_m ν j = if 0 ≤ j ∧ j < 394 then pc_ μ 0 j else sc_m μ j) ∧ (∀ a, pc_ ν a = pc_ μ (a + 1)) ∧ ci ν)
theorem mc130_0 (hp : mp130_0 μ) (hq : ∀ r ν, mq130_0 μ r ν → Q (.inl (some (.inl r))) mi_G0 ν) : mi_cok X 130 [(.inr (.inl (some 0)))] mi_G0 μ u Q := by
  obtain ⟨h1, h2⟩ := hp
  apply me130_0
  rw [mi_wr_id (z := μ 17 0) (by have := h1.1; omega) (by have := h1.1; omega)]
  by_cases c : μ 17 0 = 0
  · rw [if_pos c]; exact hq _ _ ⟨fun _ => ⟨rfl, rfl⟩, fun h => absurd c h⟩
  · rw [if_neg c]
    refine ⟨h1, fun μ0 ⟨g1, g2, g3, g4, g5⟩ => ?_⟩
    obtain ⟨f1, f2, f3⟩ := ku_is (μ := μ0) (a0 := 0) (by decide) (by rw [g1 0 (by decide)]; exact h2)
    have e17 : mm140_0 0 μ0 17 = μ0 17 := f1 17 (by decide)
    refine hq _ _ ⟨fun h => absurd h c, fun _ => ⟨by rw [e17, g2], fr_lt (fr_lm g1 rfl) (fr_lm f1 rfl), by rw [e17]; exact g2, by rw [e17]; exact g3, fun j => ?_, fun a => ?_, ci_0 ?_ ?_⟩⟩
    · rw [sc_m_frl f1 (by decide) (by decide) (by decide)]; exact g4 j
    · rw [← g5 a]
      exact pc_fr (fun q hq => f1 q (by simp only [List.mem_cons, List.not_mem_nil, or_false, not_or]; omega)) a
    · rw [f2, g1 0 (by decide)]; split <;> omega
    · rw [f3]; rfl
end
