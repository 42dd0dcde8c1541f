/-! THE PAST: scenes kept, one after another -/
/-- a scene that lies in three cells -/
def sk (μ : mi_M) (c : Nat) : Int → Int := fun j => if j < 2 then μ c j else if j < 10 then μ (c + 1) (j - 2) else μ (c + 2) (j - 10)
theorem sk_1 (μ : mi_M) : sk μ 1 = sc_m μ := rfl
/-- a row's part laid anew -/
def fl (f g : Int → Int) (a k : Int) : Int → Int := fun j => if a ≤ j ∧ j < k then f j else g j
theorem fl_0 (μ : mi_M) (r : Nat) (f : Int → Int) (a : Int) : mi_row μ r (fl f (μ r) a a) = μ := by
  funext q j
  by_cases c : q = r
  · subst c
    rw [mr_same]; unfold fl; rw [if_neg (by omega)]
  · rw [mr_other μ c]
theorem fl_s {μ : mi_M} {r : Nat} {f g : Int → Int} {a k v : Int} (h : a ≤ k) (hv : v = f k) : mi_set (mi_row μ r (fl f g a k)) r k v = mi_row μ r (fl f g a (k + 1)) := by
  funext q j
  by_cases c : q = r
  · subst c
    rw [mr_same, ms_same, mr_same]
    unfold fl
    by_cases d : j = k
    · subst d; rw [if_pos rfl, if_pos ⟨h, by omega⟩, hv]
    · rw [if_neg d]
      by_cases e : a ≤ j ∧ j < k
      · rw [if_pos e, if_pos ⟨e.1, by omega⟩]
      · rw [if_neg e, if_neg (by omega)]
  · rw [ms_other _ c, mr_other _ c, mr_other _ c]
theorem fl_in {f g : Int → Int} {a k j : Int} (h : a ≤ j) (h' : j < k) : fl f g a k j = f j := if_pos ⟨h, h'⟩
theorem fl_out {f g : Int → Int} {a k j : Int} (h : j < a ∨ k ≤ j) : fl f g a k j = g j := if_neg (by omega)
/-- one scene becomes another -/
noncomputable def bc (c d : Nat) (μ : mi_M) : mi_M := (mi_row (mi_row (mi_set (mi_set μ c 0 (μ d 0)) c 1 (μ d 1)) (c + 1) (mi_cpy ((mi_set (mi_set μ c 0 (μ d 0)) c 1 (μ d 1)) (d + 1)) ((mi_set (mi_set μ c 0 (μ d 0)) c 1 (μ d 1)) (c + 1)) 0 0 8)) (c + 2) (mi_cpy ((mi_row (mi_set (mi_set μ c 0 (μ d 0)) c 1 (μ d 1)) (c + 1) (mi_cpy ((mi_set (mi_set μ c 0 (μ d 0)) c 1 (μ d 1)) (d + 1)) ((mi_set (mi_set μ c 0 (μ d 0)) c 1 (μ d 1)) (c + 1)) 0 0 8)) (d + 2)) ((mi_row (mi_set (mi_set μ c 0 (μ d 0)) c 1 (μ d 1)) (c + 1) (mi_cpy ((mi_set (mi_set μ c 0 (μ d 0)) c 1 (μ d 1)) (d + 1)) ((mi_set (mi_set μ c 0 (μ d 0)) c 1 (μ d 1)) (c + 1)) 0 0 8)) (c + 2)) 0 0 384))
theorem bc_ot {c d q : Nat} {μ : mi_M} (h : q ≠ c) (h1 : q ≠ c + 1) (h2 : q ≠ c + 2) : bc c d μ q = μ q := by
  unfold bc; rw [mr_other _ h2, mr_other _ h1, ms_other _ h, ms_other _ h]
theorem bc_c0 {c d : Nat} {μ : mi_M} (j : Int) : bc c d μ c j = if j = 1 then μ d 1 else if j = 0 then μ d 0 else μ c j := by
  unfold bc; rw [mr_other _ (by omega), mr_other _ (by omega), ms_same, ms_same]
theorem bc_c1 {c d : Nat} {μ : mi_M} (h : c + 2 < d ∨ d + 2 < c) : bc c d μ (c + 1) = mi_cpy (μ (d + 1)) (μ (c + 1)) 0 0 8 := by
  unfold bc; rw [mr_other _ (by omega), mr_same, ms_other _ (by omega), ms_other _ (by omega), ms_other _ (by omega), ms_other _ (by omega)]
theorem bc_c2 {c d : Nat} {μ : mi_M} (h : c + 2 < d ∨ d + 2 < c) : bc c d μ (c + 2) = mi_cpy (μ (d + 2)) (μ (c + 2)) 0 0 384 := by
  unfold bc; rw [mr_same, mr_other _ (by omega), ms_other _ (by omega), ms_other _ (by omega), mr_other _ (by omega), ms_other _ (by omega), ms_other _ (by omega)]
theorem bc_sk {c d : Nat} {μ : mi_M} (h : c + 2 < d ∨ d + 2 < c) : sk (bc c d μ) c = fun j => if 0 ≤ j ∧ j < 394 then sk μ d j else sk μ c j := by
  funext j
  unfold sk
  rw [bc_c1 h, bc_c2 h, bc_c0]
  unfold mi_cpy
  by_cases c1 : j < 2
  · rw [if_pos c1, if_pos c1, if_pos c1]
    by_cases c2 : 0 ≤ j
    · rw [if_pos (show 0 ≤ j ∧ j < 394 by omega)]
      by_cases c3 : j = 1
      · rw [if_pos c3, c3]
      · rw [if_neg c3, if_pos (show j = 0 by omega), show j = 0 by omega]
    · rw [if_neg (show ¬ j = 1 by omega), if_neg (show ¬ j = 0 by omega), if_neg (show ¬ (0 ≤ j ∧ j < 394) by omega)]
  · rw [if_neg c1, if_neg c1, if_neg c1]
    by_cases c2 : j < 10
    · rw [if_pos c2, if_pos c2, if_pos c2, if_pos (by omega), if_pos (by omega), show 0 + (j - 2 - 0) = j - 2 by omega]
    · rw [if_neg c2, if_neg c2, if_neg c2]
      by_cases c3 : j < 394
      · rw [if_pos (by omega), if_pos (by omega), show 0 + (j - 10 - 0) = j - 10 by omega]
      · rw [if_neg (by omega), if_neg (by omega)]
theorem sk_eq {μ ν : mi_M} {c : Nat} (h : ν c = μ c) (h1 : ν (c + 1) = μ (c + 1)) (h2 : ν (c + 2) = μ (c + 2)) : sk ν c = sk μ c := by unfold sk; rw [h, h1, h2]
theorem sc_cg {f g : Int → Int} (h : ∀ j, 0 ≤ j → j < 394 → g j = f j) (hf : sc_ok f) : sc_ok g := by
  unfold sc_ok at hf ⊢
  rw [h 0 (by decide) (by decide), h 1 (by decide) (by decide), h 2 (by decide) (by decide), h 3 (by decide) (by decide), h 4 (by decide) (by decide), h 5 (by decide) (by decide), h 6 (by decide) (by decide), h 7 (by decide) (by decide), h 8 (by decide) (by decide), h 9 (by decide) (by decide)]
  obtain ⟨a, b, c, d, e, f1, g1, i, k, l⟩ := hf
  exact ⟨a, b, c, d, e, f1, g1, i, k, fun j h1 h2 => by rw [h j (by omega) h2]; exact l j h1 h2⟩
/-- where the a-th newest lies -/
def sl (n a : Int) : Nat := 19 + 3 * ((n - 1 - a) % 8).toNat
def pc_ (μ : mi_M) (a : Int) : Int → Int := sk μ (sl (μ 17 1) a)
def pr_ (μ : mi_M) (a : Int) : Int → Int := fun j => μ 88 (394 * (μ 86 3 - 1 - a) + j)
def pa (μ : mi_M) : Prop := ((0 ≤ μ 17 0 ∧ μ 17 0 ≤ 8) ∧ (0 ≤ μ 17 1 ∧ μ 17 1 < 8)) ∧ μ 17 0 = μ 86 3 ∧ ∀ a, 0 ≤ a → a < μ 17 0 → sc_ok (pr_ μ a) ∧ ∀ j, 0 ≤ j → j < 394 → pc_ μ a j = pr_ μ a j
def up1 (h : Int) : Int := if h + 1 < 8 then h + 1 else 8
/-- kept, by the class -/
def kpc (μ ν : mi_M) : Prop := ν 17 0 = up1 (μ 17 0) ∧ (0 ≤ ν 17 1 ∧ ν 17 1 < 8) ∧ ∀ a j, 0 ≤ a → a < ν 17 0 → 0 ≤ j → j < 394 → pc_ ν a j = if a = 0 then sc_m μ j else pc_ μ (a - 1) j
/-- kept, by the reference -/
def kpr (μ ν : mi_M) : Prop := ν 86 3 = up1 (μ 86 3) ∧ ∀ a j, 0 ≤ a → a < ν 86 3 → 0 ≤ j → j < 394 → pr_ ν a j = if a = 0 then μ 87 j else pr_ μ (a - 1) j
abbrev PS : List Nat := [17, 19, 20, 21, 22, 23, 24, 25, 26, 27, 28, 29, 30, 31, 32, 33, 34, 35, 36, 37, 38, 39, 40, 41, 42]
theorem sl_b {n a : Int} : 19 ≤ sl n a ∧ sl n a ≤ 40 ∧ (sl n a - 19) % 3 = 0 := by unfold sl; omega
theorem PS_in {q : Nat} (h : q = 17 ∨ (19 ≤ q ∧ q ≤ 42)) : q ∈ PS := by
  have : ∀ q : Fin 43, (q.val = 17 ∨ 19 ≤ q.val) → q.val ∈ PS := by decide
  exact this ⟨q, by omega⟩ (by show q = 17 ∨ 19 ≤ q; omega)
/-- the class's keep, as memory -/
noncomputable def kp (μ : mi_M) : mi_M := mi_set (mi_set (bc (sl (μ 17 1) (-1)) 1 μ) 17 1 (if μ 17 1 + 1 < 8 then μ 17 1 + 1 else 0)) 17 0 (up1 (μ 17 0))
def mp46_17_1 (μ : mi_M) : Prop := (0 ≤ μ 17 0 ∧ μ 17 0 ≤ 8) ∧ (0 ≤ μ 17 1 ∧ μ 17 1 < 8)
def mq46_17_1 (μ ν : mi_M) : Prop := fr_l PS μ ν ∧ kpc μ ν
theorem bc_17 {c d : Nat} {μ : mi_M} (h : 17 < c) : bc c d μ 17 = μ 17 := bc_ot (by omega) (by omega) (by omega)
theorem kp_is {μ : mi_M} (hp : mp46_17_1 μ) : mq46_17_1 μ (kp μ) := by
  obtain ⟨⟨h1, h2⟩, n1, n2⟩ := hp
  have sb := sl_b (n := μ 17 1) (a := -1)
  have e0 : kp μ 17 0 = up1 (μ 17 0) := by unfold kp; rw [ms_same, if_pos rfl]
  have e1 : kp μ 17 1 = if μ 17 1 + 1 < 8 then μ 17 1 + 1 else 0 := by unfold kp; rw [ms_same, if_neg (by decide), ms_same, if_pos rfl]
  have eo : ∀ q, q ≠ 17 → kp μ q = bc (sl (μ 17 1) (-1)) 1 μ q := fun q hq => by unfold kp; rw [ms_other _ hq, ms_other _ hq]
  have es : ∀ c, 17 < c → sk (kp μ) c = sk (bc (sl (μ 17 1) (-1)) 1 μ) c := fun c hc => sk_eq (eo _ (by omega)) (eo _ (by omega)) (eo _ (by omega))
  have eu : up1 (μ 17 0) ≤ 8 := by unfold up1; split <;> omega
  refine ⟨fun q hq => ?_, e0, ?_, fun a j ha ha' hj hj' => ?_⟩
  · have hq' : ¬ (q = 17 ∨ (19 ≤ q ∧ q ≤ 42)) := fun h => hq (PS_in h)
    rw [eo q (by omega)]; exact bc_ot (by omega) (by omega) (by omega)
  · rw [e1]; split <;> omega
  · rw [e0] at ha'
    unfold pc_
    have sb' := sl_b (n := kp μ 17 1) (a := a)
    rw [es _ (by omega)]
    by_cases c : a = 0
    · have : sl (kp μ 17 1) a = sl (μ 17 1) (-1) := by rw [e1, c]; unfold sl; split <;> omega
      rw [if_pos c, this, bc_sk (by omega)]
      show (if 0 ≤ j ∧ j < 394 then sk μ 1 j else _) = _
      rw [if_pos ⟨hj, hj'⟩]; rfl
    · have t : sl (kp μ 17 1) a = sl (μ 17 1) (a - 1) := by rw [e1]; unfold sl; split <;> omega
      have t2 : sl (μ 17 1) (a - 1) + 2 < sl (μ 17 1) (-1) ∨ sl (μ 17 1) (-1) + 2 < sl (μ 17 1) (a - 1) := by unfold sl; omega
      rw [if_neg c, t]
      exact congrFun (sk_eq (bc_ot (by omega) (by omega) (by omega)) (bc_ot (by omega) (by omega) (by omega)) (bc_ot (by omega) (by omega) (by omega))) j
section
variable {X : mi_X} {Q : mi_R → mi_G → mi_M → Prop} {u : mi_U} {μ : mi_M}
theorem kp_go {σ : mi_M} {n : Int} (hn : 0 ≤ n ∧ n < 8) (hp : mp46_17_1 μ) (e : μ 17 1 = n) (hs : σ = bc (19 + 3 * n.toNat) 1 μ) (hq : Q (.inl none) mi_G0 (kp μ)) : if mi_wr (σ 17 1 + 1) < mi_wr 8 then (
    Q (.inl none) mi_G0 (mi_set (mi_set σ 17 1 (σ 17 1 + 1)) 17 0 (mv261 (σ 17 0 + 1) 8 (mi_set σ 17 1 (σ 17 1 + 1)))))
  else (
    Q (.inl none) mi_G0 (mi_set (mi_set σ 17 1 0) 17 0 (mv261 (σ 17 0 + 1) 8 (mi_set σ 17 1 0)))) := by
  obtain ⟨⟨h1, h2⟩, n1, n2⟩ := hp
  have s17 : σ 17 = μ 17 := by rw [hs]; exact bc_17 (by omega)
  have hm : ∀ ρ, mv261 (μ 17 0 + 1) 8 ρ = up1 (μ 17 0) := fun ρ => by
    unfold mv261 up1
    simp (disch := omega) only [mi_wr_id]
    split <;> split <;> omega
  have hk : kp μ = mi_set (mi_set σ 17 1 (if μ 17 1 + 1 < 8 then μ 17 1 + 1 else 0)) 17 0 (up1 (μ 17 0)) := by
    unfold kp; rw [hs]
    have : sl (μ 17 1) (-1) = 19 + 3 * n.toNat := by unfold sl; omega
    rw [this]
  rw [s17, hm, hm, mi_wr_id (by omega) (by omega), mi_wr_id (by omega) (by omega)]
  rw [hk] at hq
  by_cases c : μ 17 1 + 1 < 8
  · rw [if_pos c]; rw [if_pos c] at hq; exact hq
  · rw [if_neg c]; rw [if_neg c] at hq; exact hq
theorem mc46_17_1 (hp : mp46_17_1 μ) (hq : ∀ ν, mq46_17_1 μ ν → Q (.inl none) mi_G0 ν) : mi_cok X 46 [(.inr (.inl (some 17))), (.inr (.inl (some 1)))] mi_G0 μ u Q := by
  apply me46_17_1
  have hk := hq _ (kp_is hp)
  obtain ⟨-, n1, n2⟩ := id hp
  have : μ 17 1 = 0 ∨ μ 17 1 = 1 ∨ μ 17 1 = 2 ∨ μ 17 1 = 3 ∨ μ 17 1 = 4 ∨ μ 17 1 = 5 ∨ μ 17 1 = 6 ∨ μ 17 1 = 7 := by omega
  rcases this with e | e | e | e | e | e | e | e
  · rw [e]; exact mh46_17_1_8_v0 (kp_go (n := 0) (by decide) hp e rfl hk)
  · rw [e]; exact mh46_17_1_8_v1 (kp_go (n := 1) (by decide) hp e rfl hk)
  · rw [e]; exact mh46_17_1_8_v2 (kp_go (n := 2) (by decide) hp e rfl hk)
  · rw [e]; exact mh46_17_1_8_v3 (kp_go (n := 3) (by decide) hp e rfl hk)
  · rw [e]; exact mh46_17_1_8_v4 (kp_go (n := 4) (by decide) hp e rfl hk)
  · rw [e]; exact mh46_17_1_8_v5 (kp_go (n := 5) (by decide) hp e rfl hk)
  · rw [e]; exact mh46_17_1_8_v6 (kp_go (n := 6) (by decide) hp e rfl hk)
  · rw [e]; exact mh46_17_1_8_v7 (kp_go (n := 7) (by decide) hp e rfl hk)
end
