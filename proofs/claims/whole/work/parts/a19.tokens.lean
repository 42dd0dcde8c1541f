/-! TOKENS, in common -/
theorem and255 (a : Int) : 0 ≤ mi_and a 255 ∧ mi_and a 255 ≤ 255 := by
  unfold mi_and
  have h : (Int32.ofInt a &&& Int32.ofInt 255).toBitVec.toNat ≤ 255 := by
    rw [Int32.toBitVec_and, BitVec.toNat_and]; exact Nat.and_le_right
  have e : (Int32.ofInt a &&& Int32.ofInt 255).toInt = ((Int32.ofInt a &&& Int32.ofInt 255).toBitVec.toNat : Int) := by
    show BitVec.toInt _ = _
    exact BitVec.toInt_eq_toNat_of_lt (by omega)
  rw [e]; omega
def byt (g : Int → Int) : Int → Int := fun j => mi_and (g j) 255
theorem byt_b {g : Int → Int} {j : Int} : 0 ≤ byt g j ∧ byt g j ≤ 255 := and255 _
def bkb (c : Int) : Bool := decide (c = 32 ∨ c = 10)
def rnb (c : Int) : Bool := decide ((97 ≤ c ∧ c ≤ 122) ∨ (48 ≤ c ∧ c ≤ 57))
def dgb (c : Int) : Bool := decide (48 ≤ c ∧ c ≤ 57)
theorem bkb_t {c : Int} : bkb c = true ↔ c = 32 ∨ c = 10 := by unfold bkb; exact decide_eq_true_iff
theorem rnb_t {c : Int} : rnb c = true ↔ (97 ≤ c ∧ c ≤ 122) ∨ (48 ≤ c ∧ c ≤ 57) := by unfold rnb; exact decide_eq_true_iff
theorem dgb_t {c : Int} : dgb c = true ↔ 48 ≤ c ∧ c ≤ 57 := by unfold dgb; exact decide_eq_true_iff
def scn (P : Int → Bool) : Nat → Int → Int
  | 0, p => p
  | k + 1, p => if P p = true then scn P k (p + 1) else p
def sn (P : Int → Bool) (n p : Int) : Int := scn P (n - p).toNat p
section
variable {P : Int → Bool} {n p : Int}
theorem sn_end (h : n ≤ p) : sn P n p = p := by unfold sn; rw [show (n - p).toNat = 0 by omega]; rfl
theorem sn_in (h : p < n) (hp : P p = true) : sn P n p = sn P n (p + 1) := by
  unfold sn; rw [show (n - p).toNat = (n - (p + 1)).toNat + 1 by omega]
  show (if P p = true then _ else _) = _
  rw [if_pos hp]
theorem sn_out (h : ¬ P p = true) : sn P n p = p := by
  by_cases c : n ≤ p
  · exact sn_end c
  · unfold sn; rw [show (n - p).toNat = (n - (p + 1)).toNat + 1 by omega]
    show (if P p = true then _ else _) = _
    rw [if_neg h]
theorem sn_b : ∀ (k : Nat) (p : Int), (n - p).toNat = k → p ≤ n → p ≤ sn P n p ∧ sn P n p ≤ n ∧ (∀ j, p ≤ j → j < sn P n p → P j = true) ∧ (sn P n p < n → ¬ P (sn P n p) = true)
  | 0, p, hk, h => by
    rw [sn_end (by omega)]; exact ⟨by omega, h, fun j _ _ => by omega, fun _ => by omega⟩
  | k + 1, p, hk, h => by
    by_cases c : P p = true
    · rw [sn_in (by omega) c]
      obtain ⟨h1, h2, h3, h4⟩ := sn_b k (p + 1) (by omega) (by omega)
      refine ⟨by omega, h2, fun j g1 g2 => ?_, h4⟩
      by_cases e : j = p
      · rw [e]; exact c
      · exact h3 j (by omega) g2
    · rw [sn_out c]; exact ⟨by omega, h, fun j _ _ => by omega, fun _ => c⟩
end
/-- loops that go on while they may -/
theorem wl {σ : Type} {A : σ → Prop} (I : Int → σ → Prop) {n : Int} (st : ∀ q s, q ≤ n → I q s → (∀ s', q < n → I (q + 1) s' → A s') → A s) : ∀ (k : Nat) (q : Int) (s : σ), (n - q).toNat = k → q ≤ n → I q s → A s
  | 0, q, s, hk, h, hi => st q s h hi (fun s' h' _ => by omega)
  | k + 1, q, s, hk, h, hi => st q s h hi (fun s' h' hi' => wl I st k (q + 1) s' (by omega) (by omega) hi')
/-- a token's begin, a run's end -/
def tS (B : Int → Int) (n p : Int) : Int := sn (fun j => bkb (B j)) n p
def tE (B : Int → Int) (n s : Int) : Int := sn (fun j => rnb (B j)) n s
theorem tS_b {B : Int → Int} {n p : Int} (h : p ≤ n) : p ≤ tS B n p ∧ tS B n p ≤ n ∧ (tS B n p < n → ¬ (B (tS B n p) = 32 ∨ B (tS B n p) = 10)) := by
  obtain ⟨h1, h2, -, h4⟩ := sn_b (P := fun j => bkb (B j)) (n := n) _ p rfl h
  exact ⟨h1, h2, fun g => fun g' => h4 g (bkb_t.mpr g')⟩
theorem tE_b {B : Int → Int} {n p : Int} (h : p ≤ n) : p ≤ tE B n p ∧ tE B n p ≤ n ∧ (∀ j, p ≤ j → j < tE B n p → (97 ≤ B j ∧ B j ≤ 122) ∨ (48 ≤ B j ∧ B j ≤ 57)) := by
  obtain ⟨h1, h2, h3, h4⟩ := sn_b (P := fun j => rnb (B j)) (n := n) _ p rfl h
  exact ⟨h1, h2, fun j g g' => rnb_t.mp (h3 j g g')⟩
/-- the class's end of a token, the reference's kind and end -/
def cE (B : Int → Int) (n s : Int) : Int := if s < n ∧ B s = 59 then s + 1 else tE B n s
def kd (B : Int → Int) (n s : Int) : Int := if n ≤ s then 0 else if rnb (B s) = true then 1 else if B s = 59 then 2 else 3
def rE (B : Int → Int) (n s : Int) : Int := if n ≤ s then s else if rnb (B s) = true then tE B n s else s + 1
/-- digits -/
def dv (B : Int → Int) : Nat → Int → Int → Int
  | 0, _, a => a
  | k + 1, s, a => if dgb (B s) = true then dv B k (s + 1) (a * 10 + B s - 48) else -1
def nmb (B : Int → Int) (s e : Int) : Int := if 1 ≤ e - s ∧ e - s ≤ 3 then dv B (e - s).toNat s 0 else -1
/-- words -/
def eqw (B : Int → Int) (s : Int) : List Int → Bool
  | [] => true
  | c :: cs => decide (B s = c) && eqw B (s + 1) cs
def isw (B : Int → Int) (s e : Int) (w : List Int) : Bool := decide (e - s = (w.length : Int)) && eqw B s w
def eq7 (B : Int → Int) (s e : Int) : Int → List Int → Bool
  | _, [] => true
  | k, c :: cs => decide ((if k < e - s then B (s + k) else 0) = c) && eq7 B s e (k + 1) cs
theorem eq7_0 {B : Int → Int} {s e : Int} : ∀ (m : Nat) (k : Int), e - s ≤ k → eq7 B s e k (List.replicate m 0) = true
  | 0, k, h => rfl
  | m + 1, k, h => by
    show (decide ((if k < e - s then B (s + k) else 0) = 0) && eq7 B s e (k + 1) (List.replicate m 0)) = true
    rw [if_neg (by omega), eq7_0 m (k + 1) (by omega)]; rfl
/-- padded with noughts: the same -/
theorem eq7_w {B : Int → Int} {s e : Int} (hB : ∀ j, s ≤ j → j < e → B j ≠ 0) (m : Nat) (hm : 0 < m ∨ True) : ∀ (w : List Int) (k : Int), 0 ≤ k → k ≤ e - s → (∀ c ∈ w, c ≠ 0) → (m = 0 → e - s ≤ k + w.length) → (eq7 B s e k (w ++ List.replicate m 0) = true ↔ e - s = k + w.length ∧ eqw B (s + k) w = true)
  | [], k, h1, h2, h3, h4 => by
    show eq7 B s e k (List.replicate m 0) = true ↔ e - s = k + ((0 : Nat) : Int) ∧ true = true
    constructor
    · intro h
      refine ⟨?_, rfl⟩
      by_cases c : k < e - s
      · cases m with
        | zero =>
          have := h4 rfl
          simp only [List.length_nil] at this
          omega
        | succ m =>
          have h' : (decide ((if k < e - s then B (s + k) else 0) = 0) && eq7 B s e (k + 1) (List.replicate m 0)) = true := h
          rw [if_pos c] at h'
          have := of_decide_eq_true (Bool.and_eq_true_iff.mp h').1
          exact absurd this (hB _ (by omega) (by omega))
      · omega
    · rintro ⟨h, -⟩
      exact eq7_0 m k (by omega)
  | c :: cs, k, h1, h2, h3, h4 => by
    show (decide ((if k < e - s then B (s + k) else 0) = c) && eq7 B s e (k + 1) (cs ++ List.replicate m 0)) = true ↔ e - s = k + ((cs.length + 1 : Nat) : Int) ∧ (decide (B (s + k) = c) && eqw B (s + k + 1) cs) = true
    have hc : c ≠ 0 := h3 c List.mem_cons_self
    by_cases d : k < e - s
    · rw [if_pos d]
      have ih := eq7_w hB m hm cs (k + 1) (by omega) (by omega) (fun x hx => h3 x (List.mem_cons_of_mem _ hx)) (fun hm0 => by have := h4 hm0; simp only [List.length_cons] at this; omega)
      rw [Bool.and_eq_true_iff, Bool.and_eq_true_iff, ih, show s + (k + 1) = s + k + 1 by omega]
      constructor
      · rintro ⟨a, b, c⟩; exact ⟨by omega, a, c⟩
      · rintro ⟨a, b, c⟩; exact ⟨b, by omega, c⟩
    · rw [if_neg d]
      constructor
      · intro h
        have := of_decide_eq_true (Bool.and_eq_true_iff.mp h).1
        exact absurd this.symm hc
      · rintro ⟨a, -⟩; omega
/-- going through a word -/
theorem tk_go {A : Int → Prop} {Qt Qf : Prop} {B : Int → Int} {s : Int} {w : List Int} (st : ∀ l : Nat, l ≤ w.length → (if l < w.length then (if B (s + l) = w.getD l 0 then A (l + 1) else Qf) else Qt) → A l) : ∀ (v : List Int) (l : Nat), l ≤ w.length → w.drop l = v → (if eqw B (s + l) v = true then Qt else Qf) → A l
  | [], l, hw, hd, h => by
    have : w.length ≤ l := by
      have := congrArg List.length hd
      rw [List.length_drop] at this
      simp only [List.length_nil] at this
      omega
    apply st l hw
    rw [if_neg (by omega)]
    have h' : if true = true then Qt else Qf := h
    rw [if_pos rfl] at h'; exact h'
  | c :: cs, l, hw, hd, h => by
    have hl : l < w.length := by
      have := congrArg List.length hd
      rw [List.length_drop] at this
      simp only [List.length_cons] at this
      omega
    have hc : w.getD l 0 = c := by
      have h1 : (w.drop l)[0]? = some c := by rw [hd]; rfl
      rw [List.getElem?_drop, Nat.add_zero] at h1
      unfold List.getD; rw [h1]; rfl
    have ht : w.drop (l + 1) = cs := by
      have : (w.drop l).drop 1 = cs := by rw [hd]; rfl
      rw [List.drop_drop] at this
      exact this
    apply st l hw
    rw [if_pos hl, hc]
    have h' : if (decide (B (s + l) = c) && eqw B (s + l + 1) cs) = true then Qt else Qf := h
    by_cases d : B (s + l) = c
    · rw [if_pos d]
      refine tk_go st cs (l + 1) hl ht ?_
      rw [decide_eq_true d, Bool.true_and] at h'
      rw [show s + ((l + 1 : Nat) : Int) = s + l + 1 by omega]; exact h'
    · rw [if_neg d]
      rw [decide_eq_false d, Bool.false_and, if_neg (by decide)] at h'
      exact h'
