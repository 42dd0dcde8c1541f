/-! TEXTS, in common -/
def rel (m m' : Int → Int) : Prop := ∀ j, 0 ≤ j → j < 394 → m j = m' j
def tl (B : Int → Int) (n : Int) : Nat → Int → (Int → Int) → Int → LR
  | 0, _, m, l => (1, l, m)
  | k + 1, p, m, l => if n ≤ tS B n p then (0, l, m) else if (lnc B n m (tS B n p)).1 = 0 then tl B n k (lnc B n m (tS B n p)).2.1 (lnc B n m (tS B n p)).2.2 (l + 1) else ((lnc B n m (tS B n p)).1, l, m)
def tm (w h a b : Int) : Int → Int := fun j => if j = 0 then w else if j = 1 then h else if j = 2 then 3 else if j = 3 then 1 else if j = 4 then 2 else if j = 5 then 6 else if j = 6 then 255 else if j = 7 then 1 else if j = 8 then a else if j = 9 then b else 0
def txs (B : Int → Int) (n a b : Int) : LR := if (lsz B n (tm 0 0 a b) 0).1 = 0 then tl B n 141 (lsz B n (tm 0 0 a b) 0).2.1 (lsz B n (tm 0 0 a b) 0).2.2 0 else ((lsz B n (tm 0 0 a b) 0).1, 0, tm 0 0 a b)
section
variable {B : Int → Int} {n : Int} {m m' : Int → Int}
theorem vlf_s {k v : Int} : vlf k v m k = v := if_pos rfl
theorem ok_2 {v : Int} (hm : sc_ok m) (h : 1 ≤ v ∧ v ≤ 7) : sc_ok (vlf 2 v m) := by
  obtain ⟨a, b, c, d, e, f, g, i, k, l⟩ := hm
  unfold sc_ok
  rw [vlf_n (show (0 : Int) ≠ 2 by decide), vlf_n (show (1 : Int) ≠ 2 by decide), vlf_s, vlf_n (show (3 : Int) ≠ 2 by decide), vlf_n (show (4 : Int) ≠ 2 by decide), vlf_n (show (5 : Int) ≠ 2 by decide), vlf_n (show (6 : Int) ≠ 2 by decide), vlf_n (show (7 : Int) ≠ 2 by decide), vlf_n (show (8 : Int) ≠ 2 by decide), vlf_n (show (9 : Int) ≠ 2 by decide)]
  exact ⟨a, b, h, d, e, f, g, i, k, fun j h1 h2 => by rw [vlf_n (by omega)]; exact l j h1 h2⟩
theorem ok_3 {v : Int} (hm : sc_ok m) (h : 1 ≤ v ∧ v ≤ 2) : sc_ok (vlf 3 v m) := by
  obtain ⟨a, b, c, d, e, f, g, i, k, l⟩ := hm
  unfold sc_ok
  rw [vlf_n (show (0 : Int) ≠ 3 by decide), vlf_n (show (1 : Int) ≠ 3 by decide), vlf_n (show (2 : Int) ≠ 3 by decide), vlf_s, vlf_n (show (4 : Int) ≠ 3 by decide), vlf_n (show (5 : Int) ≠ 3 by decide), vlf_n (show (6 : Int) ≠ 3 by decide), vlf_n (show (7 : Int) ≠ 3 by decide), vlf_n (show (8 : Int) ≠ 3 by decide), vlf_n (show (9 : Int) ≠ 3 by decide)]
  exact ⟨a, b, c, h, e, f, g, i, k, fun j h1 h2 => by rw [vlf_n (by omega)]; exact l j h1 h2⟩
theorem ok_6 {v : Int} (hm : sc_ok m) (h : 1 ≤ v ∧ v ≤ 255) : sc_ok (vlf 6 v m) := by
  obtain ⟨a, b, c, d, e, f, g, i, k, l⟩ := hm
  unfold sc_ok
  rw [vlf_n (show (0 : Int) ≠ 6 by decide), vlf_n (show (1 : Int) ≠ 6 by decide), vlf_n (show (2 : Int) ≠ 6 by decide), vlf_n (show (3 : Int) ≠ 6 by decide), vlf_n (show (4 : Int) ≠ 6 by decide), vlf_n (show (5 : Int) ≠ 6 by decide), vlf_s, vlf_n (show (7 : Int) ≠ 6 by decide), vlf_n (show (8 : Int) ≠ 6 by decide), vlf_n (show (9 : Int) ≠ 6 by decide)]
  exact ⟨a, b, c, d, e, h, g, i, k, fun j h1 h2 => by rw [vlf_n (by omega)]; exact l j h1 h2⟩
theorem ok_7 {v : Int} (hm : sc_ok m) (h : 0 ≤ v ∧ v ≤ 3) : sc_ok (vlf 7 v m) := by
  obtain ⟨a, b, c, d, e, f, g, i, k, l⟩ := hm
  unfold sc_ok
  rw [vlf_n (show (0 : Int) ≠ 7 by decide), vlf_n (show (1 : Int) ≠ 7 by decide), vlf_n (show (2 : Int) ≠ 7 by decide), vlf_n (show (3 : Int) ≠ 7 by decide), vlf_n (show (4 : Int) ≠ 7 by decide), vlf_n (show (5 : Int) ≠ 7 by decide), vlf_n (show (6 : Int) ≠ 7 by decide), vlf_s, vlf_n (show (8 : Int) ≠ 7 by decide), vlf_n (show (9 : Int) ≠ 7 by decide)]
  exact ⟨a, b, c, d, e, f, h, i, k, fun j h1 h2 => by rw [vlf_n (by omega)]; exact l j h1 h2⟩
theorem ok_45 {v w : Int} (hm : sc_ok m) (h : 0 ≤ v ∧ v ≤ w ∧ w ≤ 60) : sc_ok (vlf 5 w (vlf 4 v m)) := by
  obtain ⟨a, b, c, d, e, f, g, i, k, l⟩ := hm
  unfold sc_ok
  rw [vlf_n (show (0 : Int) ≠ 5 by decide), vlf_n (show (0 : Int) ≠ 4 by decide), vlf_n (show (1 : Int) ≠ 5 by decide), vlf_n (show (1 : Int) ≠ 4 by decide), vlf_n (show (2 : Int) ≠ 5 by decide), vlf_n (show (2 : Int) ≠ 4 by decide), vlf_n (show (3 : Int) ≠ 5 by decide), vlf_n (show (3 : Int) ≠ 4 by decide), vlf_n (show (4 : Int) ≠ 5 by decide), vlf_s, vlf_s, vlf_n (show (6 : Int) ≠ 5 by decide), vlf_n (show (6 : Int) ≠ 4 by decide), vlf_n (show (7 : Int) ≠ 5 by decide), vlf_n (show (7 : Int) ≠ 4 by decide), vlf_n (show (8 : Int) ≠ 5 by decide), vlf_n (show (8 : Int) ≠ 4 by decide), vlf_n (show (9 : Int) ≠ 5 by decide), vlf_n (show (9 : Int) ≠ 4 by decide)]
  exact ⟨a, b, c, d, h, f, g, i, k, fun j h1 h2 => by rw [vlf_n (by omega), vlf_n (by omega)]; exact l j h1 h2⟩
theorem ok_v {q v : Int} (hm : sc_ok m) (hq : 10 ≤ q) (h : 0 ≤ v ∧ v ≤ 15) : sc_ok (vlf q v m) := by
  obtain ⟨a, b, c, d, e, f, g, i, k, l⟩ := hm
  unfold sc_ok
  rw [vlf_n (show (0 : Int) ≠ q by omega), vlf_n (show (1 : Int) ≠ q by omega), vlf_n (show (2 : Int) ≠ q by omega), vlf_n (show (3 : Int) ≠ q by omega), vlf_n (show (4 : Int) ≠ q by omega), vlf_n (show (5 : Int) ≠ q by omega), vlf_n (show (6 : Int) ≠ q by omega), vlf_n (show (7 : Int) ≠ q by omega), vlf_n (show (8 : Int) ≠ q by omega), vlf_n (show (9 : Int) ≠ q by omega)]
  refine ⟨a, b, c, d, e, f, g, i, k, fun j h1 h2 => ?_⟩
  by_cases z : j = q
  · rw [z, vlf_s]; exact h
  · rw [vlf_n z]; exact l j h1 h2
theorem ok_tm {w h a b : Int} (hw : 3 ≤ w ∧ w ≤ 16) (hh : 3 ≤ h ∧ h ≤ 12) (ha : 1 ≤ a ∧ a ≤ 50) (hb : 1 ≤ b ∧ b ≤ 999) : sc_ok (tm w h a b) := by
  refine ⟨hw, hh, by show 1 ≤ (3 : Int) ∧ (3 : Int) ≤ 7; decide, by show 1 ≤ (1 : Int) ∧ (1 : Int) ≤ 2; decide, by show 0 ≤ (2 : Int) ∧ (2 : Int) ≤ 6 ∧ (6 : Int) ≤ 60; decide, by show 1 ≤ (255 : Int) ∧ (255 : Int) ≤ 255; decide, by show 0 ≤ (1 : Int) ∧ (1 : Int) ≤ 3; decide, ha, hb, fun j h1 h2 => ?_⟩
  unfold tm
  rw [if_neg (by omega), if_neg (by omega), if_neg (by omega), if_neg (by omega), if_neg (by omega), if_neg (by omega), if_neg (by omega), if_neg (by omega), if_neg (by omega), if_neg (by omega)]
  decide
theorem hx_ok {v y s : Int} (hv : 0 ≤ v) (hv' : v ≤ 1) (hy : 0 ≤ y) : ∀ (k : Nat) (x : Int) (m : Int → Int), 0 ≤ x → sc_ok m → sc_ok (hx B v y s k x m).2
  | 0, x, m, _, hm => hm
  | k + 1, x, m, hx', hm => by
    have hb := hexv_b (c := B (s + x))
    show sc_ok (if hexv (B (s + x)) = -1 then (8 * (s + x) + 3, m) else hx B v y s k (x + 1) (vlf (10 + (192 * v + 16 * y + x)) (hexv (B (s + x))) m)).2
    by_cases c : hexv (B (s + x)) = -1
    · rw [if_pos c]; exact hm
    · rw [if_neg c]; exact hx_ok hv hv' hy k (x + 1) _ (by omega) (ok_v hm (by omega) (by omega))
/-- a good line: where it ends, what it leaves -/
theorem tSE {p : Int} (h : p ≤ n) : p ≤ tS B n p ∧ tS B n p ≤ n ∧ p ≤ tE B n (tS B n p) ∧ tE B n (tS B n p) ≤ n := by
  have a := tS_b (B := B) h
  have b := tE_b (B := B) (n := n) (p := tS B n p) a.2.1
  omega
theorem ldl_ok {p k lo hi : Int} (hp : 0 ≤ p) (hn : p ≤ n) (h : (ldl B n m p k lo hi).1 = 0) : (p ≤ (ldl B n m p k lo hi).2.1 ∧ (ldl B n m p k lo hi).2.1 ≤ n) ∧ lo ≤ nN B n (tS B n p) ∧ nN B n (tS B n p) ≤ hi := by
  have t := tSE (B := B) hn
  have f := nF_0 (by omega) (show nF B n (tS B n p) lo hi = 0 from h)
  exact ⟨⟨t.2.2.1, t.2.2.2⟩, f.2⟩
theorem lpn_ok {p : Int} (hm : sc_ok m) (hp : 0 ≤ p) (hn : p ≤ n) (h : (lpn B n m p).1 = 0) : (p ≤ (lpn B n m p).2.1 ∧ (lpn B n m p).2.1 ≤ n) ∧ sc_ok (lpn B n m p).2.2 := by
  have t := tSE (B := B) hn
  have t2 := tSE (B := B) t.2.2.2
  unfold lpn at h ⊢
  by_cases c : nF B n (tS B n p) 0 60 = 0
  · rw [if_pos c] at h ⊢
    have f1 := nF_0 (by omega) c
    have f2 := nF_0 (by omega) (show nF B n (tS B n (tE B n (tS B n p))) (nN B n (tS B n p)) 60 = 0 from h)
    refine ⟨⟨?_, t2.2.2.2⟩, ok_45 hm ⟨f1.2.1, f2.2.1, f2.2.2⟩⟩
    show p ≤ tE B n (tS B n (tE B n (tS B n p)))
    omega
  · rw [if_neg c] at h; exact absurd h c
theorem lrw_ok {v p : Int} (hv : 0 ≤ v) (hv' : v ≤ 1) (hm : sc_ok m) (hp : 0 ≤ p) (hn : p ≤ n) (h : (lrw B n m v p).1 = 0) : (p ≤ (lrw B n m v p).2.1 ∧ (lrw B n m v p).2.1 ≤ n) ∧ sc_ok (lrw B n m v p).2.2 := by
  have t := tSE (B := B) hn
  have t2 := tSE (B := B) t.2.2.2
  unfold lrw at h ⊢
  by_cases c : nF B n (tS B n p) 0 (m 1 - 1) = 0
  · rw [if_pos c] at h ⊢
    have f1 := nF_0 (by omega) c
    by_cases d : tE B n (tS B n (tE B n (tS B n p))) = tS B n (tE B n (tS B n p))
    · rw [if_pos d] at h
      have h' : 8 * tS B n (tE B n (tS B n p)) + 1 = 0 := h
      omega
    · rw [if_neg d] at h ⊢
      by_cases e : tE B n (tS B n (tE B n (tS B n p))) - tS B n (tE B n (tS B n p)) = m 0
      · rw [if_pos e] at h ⊢
        refine ⟨⟨?_, t2.2.2.2⟩, hx_ok hv hv' f1.2.1 _ 0 m (by decide) hm⟩
        show p ≤ tE B n (tS B n (tE B n (tS B n p)))
        omega
      · rw [if_neg e] at h
        have h' : 8 * tS B n (tE B n (tS B n p)) + 3 = 0 := h
        omega
  · rw [if_neg c] at h; exact absurd h c
theorem ln_ok {s : Int} (hm : sc_ok m) (hs : 0 ≤ s) (hn : s ≤ n) (h : (ln B n m s).1 = 0) : (s + 4 ≤ (ln B n m s).2.1 ∧ (ln B n m s).2.1 ≤ n) ∧ sc_ok (ln B n m s).2.2 := by
  have t := tE_b (B := B) hn
  have len : ∀ w : List Int, 4 ≤ w.length → isw B s (tE B n s) w = true → s + 4 ≤ tE B n s := fun w hw hh => by
    have := isw_len hh; omega
  unfold ln at h ⊢
  by_cases c1 : isw B s (tE B n s) wd1022 = true
  · rw [if_pos c1] at h ⊢
    have l := len _ (by decide) c1
    have k := ldl_ok (by omega) t.2.1 h
    exact ⟨⟨by omega, k.1.2⟩, ok_2 hm k.2⟩
  rw [if_neg c1] at h ⊢
  by_cases c2 : isw B s (tE B n s) wd1023 = true
  · rw [if_pos c2] at h ⊢
    have l := len _ (by decide) c2
    have k := ldl_ok (by omega) t.2.1 h
    exact ⟨⟨by omega, k.1.2⟩, ok_3 hm k.2⟩
  rw [if_neg c2] at h ⊢
  by_cases c3 : isw B s (tE B n s) wd1024 = true
  · rw [if_pos c3] at h ⊢
    have l := len _ (by decide) c3
    have k := lpn_ok hm (by omega) t.2.1 h
    exact ⟨⟨by omega, k.1.2⟩, k.2⟩
  rw [if_neg c3] at h ⊢
  by_cases c4 : isw B s (tE B n s) wd1025 = true
  · rw [if_pos c4] at h ⊢
    have l := len _ (by decide) c4
    have k := ldl_ok (by omega) t.2.1 h
    exact ⟨⟨by omega, k.1.2⟩, ok_6 hm k.2⟩
  rw [if_neg c4] at h ⊢
  by_cases c5 : isw B s (tE B n s) wd1026 = true
  · rw [if_pos c5] at h ⊢
    have l := len _ (by decide) c5
    have k := ldl_ok (by omega) t.2.1 h
    exact ⟨⟨by omega, k.1.2⟩, ok_7 hm k.2⟩
  rw [if_neg c5] at h ⊢
  by_cases c6 : isw B s (tE B n s) wd1027 = true
  · rw [if_pos c6] at h ⊢
    have l := len _ (by decide) c6
    have k := lrw_ok (by decide) (by decide) hm (by omega) t.2.1 h
    exact ⟨⟨by omega, k.1.2⟩, k.2⟩
  rw [if_neg c6] at h ⊢
  by_cases c7 : isw B s (tE B n s) wd1028 = true
  · rw [if_pos c7] at h ⊢
    have l := len _ (by decide) c7
    have k := lrw_ok (by decide) (by decide) hm (by omega) t.2.1 h
    exact ⟨⟨by omega, k.1.2⟩, k.2⟩
  rw [if_neg c7] at h
  have h' : 8 * s + 1 = 0 := h
  omega
theorem lnc_ok {s : Int} (hm : sc_ok m) (hs : 0 ≤ s) (hn : s < n) (h : (lnc B n m s).1 = 0) : (s + 5 ≤ (lnc B n m s).2.1 ∧ (lnc B n m s).2.1 ≤ n) ∧ sc_ok (lnc B n m s).2.2 := by
  unfold lnc at h ⊢
  by_cases c : B s = 59
  · rw [if_pos c] at h ⊢
    have t := tS_b (B := B) (n := n) (p := s + 1) (by omega)
    have k := ln_ok hm (by omega) t.2.1 h
    exact ⟨⟨by omega, k.1.2⟩, k.2⟩
  · rw [if_neg c] at h
    have h' : 8 * s + 1 = 0 := h
    omega
/-- scenes that are alike tell alike -/
theorem rel_v {k v : Int} (h : rel m m') : rel (vlf k v m) (vlf k v m') := fun j h1 h2 => by
  unfold vlf; rw [h j h1 h2]
def ral (r r' : LR) : Prop := r.1 = r'.1 ∧ r.2.1 = r'.2.1 ∧ rel r.2.2 r'.2.2
theorem hx_cg {v y s : Int} : ∀ (k : Nat) (x : Int) (m m' : Int → Int), rel m m' → (hx B v y s k x m).1 = (hx B v y s k x m').1 ∧ rel (hx B v y s k x m).2 (hx B v y s k x m').2
  | 0, x, m, m', h => ⟨rfl, h⟩
  | k + 1, x, m, m', h => by
    show (if hexv (B (s + x)) = -1 then (8 * (s + x) + 3, m) else hx B v y s k (x + 1) (vlf (10 + (192 * v + 16 * y + x)) (hexv (B (s + x))) m)).1 = (if hexv (B (s + x)) = -1 then (8 * (s + x) + 3, m') else hx B v y s k (x + 1) (vlf (10 + (192 * v + 16 * y + x)) (hexv (B (s + x))) m')).1 ∧ rel (if hexv (B (s + x)) = -1 then (8 * (s + x) + 3, m) else hx B v y s k (x + 1) (vlf (10 + (192 * v + 16 * y + x)) (hexv (B (s + x))) m)).2 (if hexv (B (s + x)) = -1 then (8 * (s + x) + 3, m') else hx B v y s k (x + 1) (vlf (10 + (192 * v + 16 * y + x)) (hexv (B (s + x))) m')).2
    by_cases c : hexv (B (s + x)) = -1
    · rw [if_pos c, if_pos c]; exact ⟨rfl, h⟩
    · rw [if_neg c, if_neg c]; exact hx_cg k (x + 1) _ _ (rel_v h)
theorem lrw_cg {v p : Int} (h : rel m m') : ral (lrw B n m v p) (lrw B n m' v p) := by
  unfold lrw
  rw [h 1 (by decide) (by decide), h 0 (by decide) (by decide)]
  by_cases c : nF B n (tS B n p) 0 (m' 1 - 1) = 0
  · rw [if_pos c, if_pos c]
    by_cases d : tE B n (tS B n (tE B n (tS B n p))) = tS B n (tE B n (tS B n p))
    · rw [if_pos d, if_pos d]; exact ⟨rfl, rfl, h⟩
    · rw [if_neg d, if_neg d]
      by_cases e : tE B n (tS B n (tE B n (tS B n p))) - tS B n (tE B n (tS B n p)) = m' 0
      · rw [if_pos e, if_pos e]
        have k := hx_cg (B := B) (v := v) (y := nN B n (tS B n p)) (s := tS B n (tE B n (tS B n p))) (m' 0).toNat 0 m m' h
        exact ⟨k.1, rfl, k.2⟩
      · rw [if_neg e, if_neg e]; exact ⟨rfl, rfl, h⟩
  · rw [if_neg c, if_neg c]; exact ⟨rfl, rfl, h⟩
theorem lpn_cg {p : Int} (h : rel m m') : ral (lpn B n m p) (lpn B n m' p) := by
  unfold lpn
  by_cases c : nF B n (tS B n p) 0 60 = 0
  · rw [if_pos c, if_pos c]; exact ⟨rfl, rfl, rel_v (rel_v h)⟩
  · rw [if_neg c, if_neg c]; exact ⟨rfl, rfl, h⟩
theorem ln_cg {s : Int} (h : rel m m') : ral (ln B n m s) (ln B n m' s) := by
  unfold ln
  by_cases c1 : isw B s (tE B n s) wd1022 = true
  · rw [if_pos c1, if_pos c1]; exact ⟨rfl, rfl, rel_v h⟩
  rw [if_neg c1, if_neg c1]
  by_cases c2 : isw B s (tE B n s) wd1023 = true
  · rw [if_pos c2, if_pos c2]; exact ⟨rfl, rfl, rel_v h⟩
  rw [if_neg c2, if_neg c2]
  by_cases c3 : isw B s (tE B n s) wd1024 = true
  · rw [if_pos c3, if_pos c3]; exact lpn_cg h
  rw [if_neg c3, if_neg c3]
  by_cases c4 : isw B s (tE B n s) wd1025 = true
  · rw [if_pos c4, if_pos c4]; exact ⟨rfl, rfl, rel_v h⟩
  rw [if_neg c4, if_neg c4]
  by_cases c5 : isw B s (tE B n s) wd1026 = true
  · rw [if_pos c5, if_pos c5]; exact ⟨rfl, rfl, rel_v h⟩
  rw [if_neg c5, if_neg c5]
  by_cases c6 : isw B s (tE B n s) wd1027 = true
  · rw [if_pos c6, if_pos c6]; exact lrw_cg h
  rw [if_neg c6, if_neg c6]
  by_cases c7 : isw B s (tE B n s) wd1028 = true
  · rw [if_pos c7, if_pos c7]; exact lrw_cg h
  rw [if_neg c7, if_neg c7]; exact ⟨rfl, rfl, h⟩
theorem lnc_cg {s : Int} (h : rel m m') : ral (lnc B n m s) (lnc B n m' s) := by
  unfold lnc
  by_cases c : B s = 59
  · rw [if_pos c, if_pos c]; exact ln_cg h
  · rw [if_neg c, if_neg c]; exact ⟨rfl, rfl, h⟩
theorem tl_cg : ∀ (k : Nat) (p : Int) (m m' : Int → Int) (l : Int), rel m m' → ral (tl B n k p m l) (tl B n k p m' l)
  | 0, p, m, m', l, h => ⟨rfl, rfl, h⟩
  | k + 1, p, m, m', l, h => by
    obtain ⟨g1, g2, g3⟩ := lnc_cg (B := B) (n := n) (s := tS B n p) h
    show ral (if n ≤ tS B n p then (0, l, m) else if (lnc B n m (tS B n p)).1 = 0 then tl B n k (lnc B n m (tS B n p)).2.1 (lnc B n m (tS B n p)).2.2 (l + 1) else ((lnc B n m (tS B n p)).1, l, m)) (if n ≤ tS B n p then (0, l, m') else if (lnc B n m' (tS B n p)).1 = 0 then tl B n k (lnc B n m' (tS B n p)).2.1 (lnc B n m' (tS B n p)).2.2 (l + 1) else ((lnc B n m' (tS B n p)).1, l, m'))
    by_cases c : n ≤ tS B n p
    · rw [if_pos c, if_pos c]; exact ⟨rfl, rfl, h⟩
    · rw [if_neg c, if_neg c, g1]
      by_cases d : (lnc B n m' (tS B n p)).1 = 0
      · rw [if_pos d, if_pos d, g2]; exact tl_cg k _ _ _ _ g3
      · rw [if_neg d, if_neg d]; exact ⟨rfl, rfl, h⟩
end
