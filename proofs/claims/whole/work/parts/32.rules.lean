/-! RULES of loops, sums, memory -/
theorem qp_1 {σ : Type} {A I : Int → σ → Prop} {n : Int} (e : ∀ s, I n s → A n s) (t : ∀ i s, i < n → I i s → (∀ s', I (i + 1) s' → A (i + 1) s') → A i s) : ∀ (k : Nat) (i : Int) (s : σ), i + k = n → I i s → A i s
  | 0, i, s, h, hi => by
    have : i = n := by omega
    subst this; exact e s hi
  | k + 1, i, s, h, hi => t i s (by omega) hi (fun s' hs' => qp_1 e t k (i + 1) s' (by omega) hs')
/-- from a up to n -/
theorem qp_u {σ : Type} {A : Int → σ → Prop} (I : Int → σ → Prop) {a n : Int} (ha : a ≤ n) (e : ∀ s, I n s → A n s) (t : ∀ i s, a ≤ i → i < n → I i s → (∀ s', I (i + 1) s' → A (i + 1) s') → A i s) {s : σ} (hs : I a s) : A a s := by
  refine qp_1 (A := fun i s => a ≤ i → A i s) (I := fun i s => I i s) (n := n) (fun s h _ => e s h) (fun i s h1 h2 h3 h4 => t i s h4 h1 h2 (fun s' h5 => h3 s' h5 (by omega))) (n - a).toNat a s (by omega) hs (by omega)
/-- from a down to n -/
theorem qp_d {σ : Type} {A : Int → σ → Prop} (I : Int → σ → Prop) {a n : Int} (ha : n ≤ a) (e : ∀ s, I n s → A n s) (t : ∀ i s, n < i → i ≤ a → I i s → (∀ s', I (i - 1) s' → A (i - 1) s') → A i s) {s : σ} (hs : I a s) : A a s := by
  have := qp_u (A := fun i s => A (-i) s) (fun i s => I (-i) s) (a := -a) (n := -n) (by omega) (fun s h => by rw [Int.neg_neg] at h ⊢; exact e s h) (fun i s h1 h2 h3 h4 => t (-i) s (by omega) (by omega) h3 (fun s' h5 => by
    have := h4 s' (by rw [show -(i + 1) = -i - 1 by omega]; exact h5)
    rw [show -(i + 1) = -i - 1 by omega] at this; exact this)) (s := s) (by rw [Int.neg_neg]; exact hs)
  rw [Int.neg_neg] at this; exact this
/-- rows and places in them -/
theorem qp_2 {σ : Type} {A : Int → σ → Prop} {B I : Int → Int → σ → Prop} {w h : Int} (hw : 0 ≤ w) (hh : 0 ≤ h) (e : ∀ s, I h 0 s → A h s)
    (r : ∀ y s, 0 ≤ y → y < h → I y 0 s → (∀ s', I y 0 s' → B y 0 s') → A y s)
    (t : ∀ y x s, 0 ≤ y → y < h → 0 ≤ x → x < w → I y x s → (∀ s', I y (x + 1) s' → B y (x + 1) s') → B y x s)
    (f : ∀ y s, 0 ≤ y → y < h → I y w s → (∀ s', I (y + 1) 0 s' → A (y + 1) s') → B y w s) {s : σ} (hs : I 0 0 s) : A 0 s :=
  qp_u (fun y s => I y 0 s) hh e (fun y s h1 h2 h3 h4 => r y s h1 h2 h3 (fun s' hs' => qp_u (fun x s => I y x s) hw (fun s' h5 => f y s' h1 h2 h5 h4) (fun x s' h5 h6 h7 h8 => t y x s' h1 h2 h5 h6 h7 h8) hs')) hs
/-- the sum of the first n -/
def sm (f : Int → Int) : Nat → Int
  | 0 => 0
  | n + 1 => sm f n + f n
theorem sm_s {f : Int → Int} {i : Int} (h : 0 ≤ i) : sm f (i + 1).toNat = sm f i.toNat + f i := by
  obtain ⟨n, rfl⟩ := Int.eq_ofNat_of_zero_le h
  rw [show ((n : Int) + 1).toNat = n + 1 by omega, show ((n : Int)).toNat = n by omega]
  rfl
theorem sm_0 {f : Int → Int} : sm f (0 : Int).toNat = 0 := rfl
theorem sm_b {f : Int → Int} {a : Int} (ha : 0 ≤ a) : ∀ n : Nat, (∀ i : Int, 0 ≤ i → i < n → 0 ≤ f i ∧ f i ≤ a) → 0 ≤ sm f n ∧ sm f n ≤ n * a
  | 0, _ => ⟨Int.le_refl _, by show (0 : Int) ≤ ((0 : Nat) : Int) * a; rw [Int.natCast_zero, Int.zero_mul]; exact Int.le_refl _⟩
  | n + 1, h => by
    have h1 := sm_b ha n (fun i a b => h i a (by omega))
    have h2 := h n (by omega) (by omega)
    show 0 ≤ sm f n + f n ∧ sm f n + f n ≤ ((n + 1 : Nat) : Int) * a
    rw [Int.natCast_add, Int.add_mul]
    constructor
    · omega
    · have : ((1 : Nat) : Int) * a = a := by rw [Int.natCast_one, Int.one_mul]
      rw [this]; omega
theorem sm_eq {f g : Int → Int} : ∀ n : Nat, (∀ i : Int, 0 ≤ i → i < n → f i = g i) → sm f n = sm g n
  | 0, _ => rfl
  | n + 1, h => by
    show sm f n + f n = sm g n + g n
    rw [sm_eq n (fun i a b => h i a (by omega)), h n (by omega) (by omega)]
/-- sums over places -/
def sm2 (f : Int → Int → Int) (w h : Int) : Int := sm (fun y => sm (fun x => f x y) w.toNat) h.toNat
/-- what has been summed ahead of a place -/
def sm2a (f : Int → Int → Int) (w y x : Int) : Int := sm (fun y => sm (fun x => f x y) w.toNat) y.toNat + sm (fun x => f x y) x.toNat
theorem sm2_0 {f : Int → Int → Int} {w : Int} : sm2a f w 0 0 = 0 := rfl
theorem sm2_x {f : Int → Int → Int} {w y x : Int} (h : 0 ≤ x) : sm2a f w y (x + 1) = sm2a f w y x + f x y := by
  unfold sm2a; rw [sm_s h]; omega
theorem sm2_y {f : Int → Int → Int} {w y : Int} (h : 0 ≤ y) : sm2a f w (y + 1) 0 = sm2a f w y w := by
  unfold sm2a; rw [sm_s h, sm_0]; omega
theorem sm2_e {f : Int → Int → Int} {w h : Int} : sm2a f w h 0 = sm2 f w h := by
  unfold sm2a sm2; rw [sm_0]; omega
/-! memory -/
theorem ms_same (μ : mi_M) (r : Nat) (j v k : Int) : mi_set μ r j v r k = if k = j then v else μ r k := by
  unfold mi_set; rw [mi_beq_t rfl]; rfl
theorem ms_other (μ : mi_M) {r q : Nat} (h : q ≠ r) (j v : Int) : mi_set μ r j v q = μ q := by
  funext k; unfold mi_set; rw [mi_beq_f h]; rfl
theorem mr_same (μ : mi_M) (r : Nat) (f : Int → Int) : mi_row μ r f r = f := by
  funext k; unfold mi_row; rw [mi_beq_t rfl]; rfl
theorem mr_other (μ : mi_M) {r q : Nat} (h : q ≠ r) (f : Int → Int) : mi_row μ r f q = μ q := by
  funext k; unfold mi_row; rw [mi_beq_f h]; rfl
/-- all cells but one are as they were -/
def fr_1 (c : Nat) (μ ν : mi_M) : Prop := ∀ r, r ≠ c → ν r = μ r
theorem fr_r (c : Nat) (μ : mi_M) : fr_1 c μ μ := fun _ _ => rfl
theorem fr_s {c : Nat} {μ ν : mi_M} (h : fr_1 c μ ν) (j v : Int) : fr_1 c μ (mi_set ν c j v) := fun r hr => by rw [ms_other ν hr]; exact h r hr
/-- a map of both views is f -/
def mp_is (μ : mi_M) (c : Nat) (m : Int → Int) (f : Int → Int → Int → Int) : Prop := ∀ v x y, 0 ≤ v → v ≤ 1 → 0 ≤ x → x < m 0 → 0 ≤ y → y < m 1 → μ c (192 * v + 16 * y + x) = f v x y
/-- .. ahead of a place -/
def mp_to (μ : mi_M) (c : Nat) (m : Int → Int) (f : Int → Int → Int → Int) (py px : Int) : Prop := ∀ v x y, 0 ≤ v → v ≤ 1 → 0 ≤ x → x < m 0 → 0 ≤ y → (y < py ∨ y = py ∧ x < px) → μ c (192 * v + 16 * y + x) = f v x y
theorem mp_to0 {μ : mi_M} {c : Nat} {m : Int → Int} {f : Int → Int → Int → Int} : mp_to μ c m f 0 0 := fun v x y h1 h2 h3 h4 h5 h6 => by omega
theorem mp_toY {μ : mi_M} {c : Nat} {m : Int → Int} {f : Int → Int → Int → Int} {y : Int} (h : mp_to μ c m f y (m 0)) : mp_to μ c m f (y + 1) 0 := fun v x y' h1 h2 h3 h4 h5 h6 => h v x y' h1 h2 h3 h4 h5 (by omega)
theorem mp_toE {μ : mi_M} {c : Nat} {m : Int → Int} {f : Int → Int → Int → Int} (h : mp_to μ c m f (m 1) 0) : mp_is μ c m f := fun v x y h1 h2 h3 h4 h5 h6 => h v x y h1 h2 h3 h4 h5 (by omega)
/-- both views of one place are laid -/
theorem mp_toX {μ : mi_M} {c : Nat} {m : Int → Int} {f : Int → Int → Int → Int} {py px a b : Int} (hm : m 0 ≤ 16) (h : mp_to μ c m f py px) (hx : 0 ≤ px) (hx' : px < m 0) (hy : 0 ≤ py) (hy' : py < 12) (ha : a = f 0 px py) (hb : b = f 1 px py) :
    mp_to (mi_set (mi_set μ c (192 * 0 + 16 * py + px) a) c (192 * 1 + 16 * py + px) b) c m f py (px + 1) := by
  intro v x y h1 h2 h3 h4 h5 h6
  rw [ms_same, ms_same]
  by_cases e : y = py ∧ x = px
  · obtain ⟨e1, e2⟩ := e
    subst e1; subst e2
    rcases (show v = 0 ∨ v = 1 by omega) with rfl | rfl
    · rw [if_neg (by omega), if_pos rfl, ha]
    · rw [if_pos rfl, hb]
  · rw [if_neg (by omega), if_neg (by omega)]
    exact h v x y h1 h2 h3 h4 h5 (by omega)
