/-! fillings -/
theorem mx_div {a b : Int} (ha : 0 ≤ a) (ha' : a < 2147483648) (hb : 0 < b) (hb' : b < 2147483648) : mi_div a b = a / b := by
  obtain ⟨n, rfl⟩ := Int.eq_ofNat_of_zero_le ha
  obtain ⟨k, rfl⟩ := Int.eq_ofNat_of_zero_le (Int.le_of_lt hb)
  unfold mi_div
  have h := Nat.div_le_self n k
  rw [mx_of, mx_of, pk_div (by omega) (by omega) (by omega), nI_toInt (by omega), Int.natCast_ediv]
def hf_v (a b : Int) : Int := if a < 0 then (if b < 0 then 0 else b) else if b < 0 then a else if a < b then a else b
noncomputable def sp_hf (m : Int → Int) (v x y : Int) : Int := hf_v (sp_ns m v x y (-1) 0) (sp_ns m v x y 1 0)
noncomputable def sp_cs (m : Int → Int) (v x y : Int) (n : Nat) (s : Int) : Int := sm (fun r => if sp_ns m v x y (wy_x r) (wy_y r) = s then 1 else 0) n
noncomputable def sp_mn (m : Int → Int) (v x y : Int) (n : Nat) : Int := sm (fun r => if sp_ns m v x y (wy_x r) (wy_y r) < 0 then 0 else 1) n
def ff_v (g : Int → Int) (k : Int) : Nat → Int → Int → Int
  | 0, _, _ => 0
  | n + 1, d, c => if 0 < k ∧ k ≤ 2 * (c + g d) then d else ff_v g k n (d + 1) (c + g d)
noncomputable def sp_uf (m : Int → Int) (v x y : Int) : Int := ff_v (fun s => sp_cs m v x y 8 s) (sp_mn m v x y 8) 8 0 0
noncomputable def sp_fill (m : Int → Int) (v x y : Int) : Int := if sp_kn m v x y = 0 then sp_sh m v x y else if sp_kn m v x y = 2 then sp_hf m v x y else sp_uf m v x y
theorem ff_b {g : Int → Int} {k : Int} : ∀ (n : Nat) (d c : Int), 0 ≤ d → d + n ≤ 8 → 0 ≤ ff_v g k n d c ∧ ff_v g k n d c ≤ 7
  | 0, d, c, h1, h2 => by unfold ff_v; omega
  | n + 1, d, c, h1, h2 => by
    unfold ff_v
    split
    · omega
    · exact ff_b n (d + 1) _ (by omega) (by omega)
theorem ff_0 {g : Int → Int} {k : Int} (hk : ¬ 0 < k) : ∀ (n : Nat) (d c : Int), ff_v g k n d c = 0
  | 0, d, c => rfl
  | n + 1, d, c => by
    unfold ff_v
    rw [if_neg (fun h => hk h.1)]
    exact ff_0 hk n _ _
theorem sp_fill_b {m : Int → Int} (hm : sc_ok m) {v x y : Int} (hx : x < m 0) : 0 ≤ sp_fill m v x y ∧ sp_fill m v x y ≤ 7 := by
  obtain ⟨-, -, ⟨f1, f2⟩, -⟩ := id hm
  have h1 := sp_sh_b hm v hx y
  have h2 := sp_ns_b hm (v := v) (x := x) (y := y) (dx := -1) (dy := 0)
  have h3 := sp_ns_b hm (v := v) (x := x) (y := y) (dx := 1) (dy := 0)
  have h4 := ff_b (g := fun s => sp_cs m v x y 8 s) (k := sp_mn m v x y 8) 8 0 0 (by omega) (by omega)
  have h5 : 0 ≤ sp_hf m v x y ∧ sp_hf m v x y ≤ 7 := by
    unfold sp_hf hf_v; split <;> (try split) <;> (try split) <;> omega
  unfold sp_fill
  split
  · omega
  · split
    · omega
    · exact h4
section
variable {m : Int → Int} {v x y : Int}
theorem cs_s {r : Int} (h : 0 ≤ r) (s : Int) : sp_cs m v x y (r + 1).toNat s = sp_cs m v x y r.toNat s + (if sp_ns m v x y (wy_x r) (wy_y r) = s then 1 else 0) := by unfold sp_cs; rw [sm_s h]
theorem mn_s {r : Int} (h : 0 ≤ r) : sp_mn m v x y (r + 1).toNat = sp_mn m v x y r.toNat + (if sp_ns m v x y (wy_x r) (wy_y r) < 0 then 0 else 1) := by unfold sp_mn; rw [sm_s h]
theorem cs_b (n : Nat) (s : Int) : 0 ≤ sp_cs m v x y n s ∧ sp_cs m v x y n s ≤ n := by
  have := sm_b (f := fun r => if sp_ns m v x y (wy_x r) (wy_y r) = s then (1 : Int) else 0) (a := 1) (by decide) n (fun i _ _ => by split <;> omega)
  unfold sp_cs; omega
theorem mn_b (n : Nat) : 0 ≤ sp_mn m v x y n ∧ sp_mn m v x y n ≤ n := by
  have := sm_b (f := fun r => if sp_ns m v x y (wy_x r) (wy_y r) < 0 then (0 : Int) else 1) (a := 1) (by decide) n (fun i _ _ => by split <;> omega)
  unfold sp_mn; omega
end
/-! digits -/
def pk8 (g : Int → Int) : Int := g 0 + 16 * g 1 + 256 * g 2 + 4096 * g 3 + 65536 * g 4 + 1048576 * g 5 + 16777216 * g 6 + 268435456 * g 7
def sum8 (g : Int → Int) : Int := g 0 + g 1 + g 2 + g 3 + g 4 + g 5 + g 6 + g 7
theorem pk8_step {s : Int} (h : 0 ≤ s) (h' : s ≤ 7) {g g' : Int → Int} (hg : ∀ t, g' t = g t + (if s = t then 1 else 0)) : pk8 g' = pk8 g + mi_shl 1 (4 * s) ∧ sum8 g' = sum8 g + 1 := by
  have e0 := hg 0
  have e1 := hg 1
  have e2 := hg 2
  have e3 := hg 3
  have e4 := hg 4
  have e5 := hg 5
  have e6 := hg 6
  have e7 := hg 7
  unfold pk8 sum8
  rcases (show s = 0 ∨ s = 1 ∨ s = 2 ∨ s = 3 ∨ s = 4 ∨ s = 5 ∨ s = 6 ∨ s = 7 by omega) with rfl | rfl | rfl | rfl | rfl | rfl | rfl | rfl
  · rw [show mi_shl 1 (4 * 0) = 1 by decide]; simp at e0 e1 e2 e3 e4 e5 e6 e7; omega
  · rw [show mi_shl 1 (4 * 1) = 16 by decide]; simp at e0 e1 e2 e3 e4 e5 e6 e7; omega
  · rw [show mi_shl 1 (4 * 2) = 256 by decide]; simp at e0 e1 e2 e3 e4 e5 e6 e7; omega
  · rw [show mi_shl 1 (4 * 3) = 4096 by decide]; simp at e0 e1 e2 e3 e4 e5 e6 e7; omega
  · rw [show mi_shl 1 (4 * 4) = 65536 by decide]; simp at e0 e1 e2 e3 e4 e5 e6 e7; omega
  · rw [show mi_shl 1 (4 * 5) = 1048576 by decide]; simp at e0 e1 e2 e3 e4 e5 e6 e7; omega
  · rw [show mi_shl 1 (4 * 6) = 16777216 by decide]; simp at e0 e1 e2 e3 e4 e5 e6 e7; omega
  · rw [show mi_shl 1 (4 * 7) = 268435456 by decide]; simp at e0 e1 e2 e3 e4 e5 e6 e7; omega
theorem and15N (n : Nat) : n &&& 15 = n % 16 := by
  have := Nat.and_two_pow_sub_one_eq_mod n 4
  exact this
theorem mx_nib {n k : Nat} (hk : k < 32) (h : n < 2147483648) : mi_and (mi_ushr (n : Int) (k : Int)) 15 = (((n / 2 ^ k) % 16 : Nat) : Int) := by
  have h2 := Nat.div_le_self n (2 ^ k)
  rw [mx_ushrN hk h]
  have := mx_andN (a := n / 2 ^ k) (b := 15) (by omega)
  rw [and15N] at this
  exact this
theorem dg2 {N P L d R : Int} (hP : 0 < P) (hN : N = L + P * (d + 16 * R)) (hL : 0 ≤ L) (hL' : L < P) (hd : 0 ≤ d) (hd' : d < 16) : N / P % 16 = d := by
  rw [hN, Int.add_mul_ediv_left _ _ (by omega), Int.ediv_eq_zero_of_lt hL hL', Int.zero_add]; omega
theorem mx_dig {g : Int → Int} (hg : ∀ t, 0 ≤ t → t < 8 → 0 ≤ g t) (hs : sum8 g ≤ 8) {s : Int} (h : 0 ≤ s) (h' : s < 8) : mi_and (mi_ushr (pk8 g) (4 * s)) 15 = g s := by
  have e0 := hg 0 (by decide) (by decide)
  have e1 := hg 1 (by decide) (by decide)
  have e2 := hg 2 (by decide) (by decide)
  have e3 := hg 3 (by decide) (by decide)
  have e4 := hg 4 (by decide) (by decide)
  have e5 := hg 5 (by decide) (by decide)
  have e6 := hg 6 (by decide) (by decide)
  have e7 := hg 7 (by decide) (by decide)
  unfold sum8 at hs
  by_cases hb : pk8 g < 2147483648
  · have h0 : 0 ≤ pk8 g := by unfold pk8; omega
    obtain ⟨n, hn⟩ := Int.eq_ofNat_of_zero_le h0
    rw [hn]
    rw [hn] at hb
    unfold pk8 at hn
    rcases (show s = 0 ∨ s = 1 ∨ s = 2 ∨ s = 3 ∨ s = 4 ∨ s = 5 ∨ s = 6 ∨ s = 7 by omega) with rfl | rfl | rfl | rfl | rfl | rfl | rfl | rfl
    · have := mx_nib (n := n) (k := 0) (by decide) (by omega); rw [show (4 * 0 : Int) = ((0 : Nat) : Int) from rfl, this]; omega
    · have := mx_nib (n := n) (k := 4) (by decide) (by omega); rw [show (4 * 1 : Int) = ((4 : Nat) : Int) from rfl, this]; omega
    · have := mx_nib (n := n) (k := 8) (by decide) (by omega); rw [show (4 * 2 : Int) = ((8 : Nat) : Int) from rfl, this, show ((n / 2 ^ 8 % 16 : Nat) : Int) = (n : Int) / 256 % 16 by omega]; exact dg2 (L := g 0 + 16 * g 1) (R := 1 * g 3 + 16 * g 4 + 256 * g 5 + 4096 * g 6 + 65536 * g 7) (by decide) (by omega) (by omega) (by omega) (by omega) (by omega)
    · have := mx_nib (n := n) (k := 12) (by decide) (by omega); rw [show (4 * 3 : Int) = ((12 : Nat) : Int) from rfl, this, show ((n / 2 ^ 12 % 16 : Nat) : Int) = (n : Int) / 4096 % 16 by omega]; exact dg2 (L := g 0 + 16 * g 1 + 256 * g 2) (R := 1 * g 4 + 16 * g 5 + 256 * g 6 + 4096 * g 7) (by decide) (by omega) (by omega) (by omega) (by omega) (by omega)
    · have := mx_nib (n := n) (k := 16) (by decide) (by omega); rw [show (4 * 4 : Int) = ((16 : Nat) : Int) from rfl, this, show ((n / 2 ^ 16 % 16 : Nat) : Int) = (n : Int) / 65536 % 16 by omega]; exact dg2 (L := g 0 + 16 * g 1 + 256 * g 2 + 4096 * g 3) (R := 1 * g 5 + 16 * g 6 + 256 * g 7) (by decide) (by omega) (by omega) (by omega) (by omega) (by omega)
    · have := mx_nib (n := n) (k := 20) (by decide) (by omega); rw [show (4 * 5 : Int) = ((20 : Nat) : Int) from rfl, this, show ((n / 2 ^ 20 % 16 : Nat) : Int) = (n : Int) / 1048576 % 16 by omega]; exact dg2 (L := g 0 + 16 * g 1 + 256 * g 2 + 4096 * g 3 + 65536 * g 4) (R := 1 * g 6 + 16 * g 7) (by decide) (by omega) (by omega) (by omega) (by omega) (by omega)
    · have := mx_nib (n := n) (k := 24) (by decide) (by omega); rw [show (4 * 6 : Int) = ((24 : Nat) : Int) from rfl, this, show ((n / 2 ^ 24 % 16 : Nat) : Int) = (n : Int) / 16777216 % 16 by omega]; exact dg2 (L := g 0 + 16 * g 1 + 256 * g 2 + 4096 * g 3 + 65536 * g 4 + 1048576 * g 5) (R := 1 * g 7) (by decide) (by omega) (by omega) (by omega) (by omega) (by omega)
    · have := mx_nib (n := n) (k := 28) (by decide) (by omega); rw [show (4 * 7 : Int) = ((28 : Nat) : Int) from rfl, this, show ((n / 2 ^ 28 % 16 : Nat) : Int) = (n : Int) / 268435456 % 16 by omega]; exact dg2 (L := g 0 + 16 * g 1 + 256 * g 2 + 4096 * g 3 + 65536 * g 4 + 1048576 * g 5 + 16777216 * g 6) (R := 0) (by decide) (by omega) (by omega) (by omega) (by omega) (by omega)
  · have a7 : g 7 = 8 := by unfold pk8 at hb; omega
    have hp : pk8 g = 2147483648 := by unfold pk8; omega
    rw [hp]
    rcases (show s = 0 ∨ s = 1 ∨ s = 2 ∨ s = 3 ∨ s = 4 ∨ s = 5 ∨ s = 6 ∨ s = 7 by omega) with rfl | rfl | rfl | rfl | rfl | rfl | rfl | rfl
    · rw [show mi_and (mi_ushr 2147483648 (4 * 0)) 15 = 0 by decide]; omega
    · rw [show mi_and (mi_ushr 2147483648 (4 * 1)) 15 = 0 by decide]; omega
    · rw [show mi_and (mi_ushr 2147483648 (4 * 2)) 15 = 0 by decide]; omega
    · rw [show mi_and (mi_ushr 2147483648 (4 * 3)) 15 = 0 by decide]; omega
    · rw [show mi_and (mi_ushr 2147483648 (4 * 4)) 15 = 0 by decide]; omega
    · rw [show mi_and (mi_ushr 2147483648 (4 * 5)) 15 = 0 by decide]; omega
    · rw [show mi_and (mi_ushr 2147483648 (4 * 6)) 15 = 0 by decide]; omega
    · rw [show mi_and (mi_ushr 2147483648 (4 * 7)) 15 = 8 by decide]; omega
