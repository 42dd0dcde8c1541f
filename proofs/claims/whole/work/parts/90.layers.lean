/-! LAYERS -/
/-- the reference's layers are sound -/
def lyr (μ : mi_M) : Prop := (0 ≤ μ 86 5 ∧ μ 86 5 ≤ 6) ∧ ∀ l, 0 ≤ l → l < μ 86 5 → (-20 ≤ μ 89 (6 * l) ∧ μ 89 (6 * l) ≤ 20) ∧ (-20 ≤ μ 89 (6 * l + 1) ∧ μ 89 (6 * l + 1) ≤ 20) ∧ (1 ≤ μ 89 (6 * l + 2) ∧ μ 89 (6 * l + 2) ≤ 40) ∧ (1 ≤ μ 89 (6 * l + 3) ∧ μ 89 (6 * l + 3) ≤ 40) ∧ (0 ≤ μ 89 (6 * l + 4) ∧ μ 89 (6 * l + 4) ≤ 7)
/-- the class holds the same -/
def lyc (μ : mi_M) : Prop := μ 4 0 = μ 86 5 ∧ ∀ l, 0 ≤ l → l < 6 → μ 5 l = μ 89 (6 * l) ∧ μ 6 l = μ 89 (6 * l + 1) ∧ μ 7 l = μ 89 (6 * l + 2) ∧ μ 8 l = μ 89 (6 * l + 3) ∧ μ 9 l = μ 89 (6 * l + 4) ∧ μ 10 l = μ 89 (6 * l + 5)
/-- the left edge in a view -/
def sp_eg (L : Int → Int) (v l : Int) : Int := if v = 0 then L (6 * l) else L (6 * l) - L (6 * l + 4)
def sp_has (L : Int → Int) (v x y l : Int) : Prop := (0 ≤ x - sp_eg L v l ∧ x - sp_eg L v l ≤ L (6 * l + 2) - 1) ∧ (0 ≤ y - L (6 * l + 1) ∧ y - L (6 * l + 1) ≤ L (6 * l + 3) - 1)
noncomputable def la_v (P : Int → Prop) : Nat → Int
  | 0 => -1
  | n + 1 => @ite Int (P n) (Classical.propDecidable _) (n : Int) (la_v P n)
theorem la_in {P : Int → Prop} {i : Int} (h : 0 ≤ i) (hp : P i) : la_v P (i + 1).toNat = i := by
  obtain ⟨n, rfl⟩ := Int.eq_ofNat_of_zero_le h
  rw [show ((n : Int) + 1).toNat = n + 1 by omega]
  exact if_pos hp
theorem la_out {P : Int → Prop} {i : Int} (h : 0 ≤ i) (hp : ¬ P i) : la_v P (i + 1).toNat = la_v P i.toNat := by
  obtain ⟨n, rfl⟩ := Int.eq_ofNat_of_zero_le h
  rw [show ((n : Int) + 1).toNat = n + 1 by omega, show ((n : Int)).toNat = n by omega]
  exact if_neg hp
theorem la_b {P : Int → Prop} : ∀ n : Nat, -1 ≤ la_v P n ∧ la_v P n < n
  | 0 => by unfold la_v; omega
  | n + 1 => by
    have := la_b (P := P) n
    unfold la_v
    split <;> omega
/-- the last layer that a place of a view has -/
noncomputable def sp_la (L : Int → Int) (n v x y : Int) : Int := la_v (sp_has L v x y) n.toNat
theorem sp_la_b {L : Int → Int} {n v x y : Int} (h : 0 ≤ n) : -1 ≤ sp_la L n v x y ∧ sp_la L n v x y < n := by
  have := la_b (P := sp_has L v x y) n.toNat
  unfold sp_la; omega
def mp4_4 (a0 a1 a2 : Int) (μ : mi_M) : Prop := lyr μ ∧ lyc μ ∧ (0 ≤ a0 ∧ a0 ≤ 1) ∧ (-100 ≤ a1 ∧ a1 ≤ 100) ∧ (-100 ≤ a2 ∧ a2 ≤ 100)
noncomputable def mv4_4 (a0 a1 a2 : Int) (μ : mi_M) : Int := sp_la (μ 89) (μ 86 5) a0 a1 a2
def mp176_86 (a0 a1 a2 : Int) (μ : mi_M) : Prop := lyr μ ∧ (0 ≤ a0 ∧ a0 ≤ 1) ∧ (-100 ≤ a1 ∧ a1 ≤ 100) ∧ (-100 ≤ a2 ∧ a2 ≤ 100)
noncomputable def mv176_86 (a0 a1 a2 : Int) (μ : mi_M) : Int := sp_la (μ 89) (μ 86 5) a0 a1 a2
section
variable {X : mi_X} {Q : mi_R → mi_G → mi_M → Prop} {u : mi_U} {μ : mi_M}
theorem eg_b {v l : Int} (hl : lyr μ) (h : 0 ≤ l) (h' : l < μ 86 5) : -27 ≤ sp_eg (μ 89) v l ∧ sp_eg (μ 89) v l ≤ 20 := by
  obtain ⟨b1, b2, b3, b4, b5⟩ := hl.2 l h h'
  unfold sp_eg; split <;> omega
theorem mx_edge {v l : Int} (hc : lyc μ) (hv : 0 ≤ v) (hv' : v ≤ 1) (h : 0 ≤ l) (h' : l < 6) : mp3_4 v l μ ∧ mv3_4 v l μ = sp_eg (μ 89) v l := by
  obtain ⟨c1, c2, c3, c4, c5, c6⟩ := hc.2 l h h'
  unfold mp3_4 mv3_4 sp_eg
  rw [mi_wr_id (z := v) (by omega) (by omega), c1, c5]
  by_cases c : v = 0
  · rw [if_pos c, if_pos c]; exact ⟨by omega, rfl⟩
  · rw [if_neg c, if_neg c]; exact ⟨by omega, rfl⟩
theorem mx_edgeR {v l : Int} (hv : 0 ≤ v) (hv' : v ≤ 1) (h : 0 ≤ l) (h' : l < 6) : mp175_86 l v μ ∧ mv175_86 l v μ = sp_eg (μ 89) v l := by
  have h11 : mi_wr 1 = 1 := by decide
  unfold mp175_86 mv175_86 sp_eg
  rw [mi_wr_id (z := v) (by omega) (by omega), h11]
  by_cases c : v = 0
  · rw [if_neg (by omega), if_neg (by omega), if_pos c]; exact ⟨⟨by omega, trivial⟩, by omega⟩
  · rw [if_pos (by omega), if_pos (by omega), if_neg c]; exact ⟨⟨by omega, by omega⟩, rfl⟩
theorem mc4_4 {a0 a1 a2 : Int} (hp : mp4_4 a0 a1 a2 μ) (hq : Q (.inl (some (.inl (mv4_4 a0 a1 a2 μ)))) mi_G0 μ) : mi_cok X 4 [(.inr (.inl (some 4))), (.inl a0), (.inl a1), (.inl a2)] mi_G0 μ u Q := by
  obtain ⟨hr, hc, ⟨hv, hv'⟩, ⟨x1, x2⟩, ⟨y1, y2⟩⟩ := hp
  obtain ⟨n1, n2⟩ := hr.1
  apply me4_4
  rw [hc.1]
  refine qp_d (σ := Unit) (A := fun i _ => mk4_4_8 X Q u a0 a1 a2 i μ) (fun i _ => mv4_4 a0 a1 a2 μ = la_v (sp_has (μ 89) a0 a1 a2) (i + 1).toNat) (a := μ 86 5 - 1) (n := -1) (by omega) ?_ ?_ (s := ()) (by rw [show μ 86 5 - 1 + 1 = μ 86 5 by omega]; rfl)
  · rintro - he
    apply mh4_4_8
    rw [if_pos (by decide)]
    have : mv4_4 a0 a1 a2 μ = -1 := he
    rw [this] at hq; exact hq
  · rintro i - hi hi' he k
    obtain ⟨b1, b2, b3, b4, b5⟩ := hr.2 i (by omega) (by omega)
    obtain ⟨c1, c2, c3, c4, c5, c6⟩ := hc.2 i (by omega) (by omega)
    obtain ⟨p1, p2⟩ := mx_edge hc hv hv' (show 0 ≤ i by omega) (by omega)
    have eb := eg_b (v := a0) hr (show 0 ≤ i by omega) (by omega)
    have next : ¬ sp_has (μ 89) a0 a1 a2 i → mk4_4_8 X Q u a0 a1 a2 (i + -1) μ := fun h => k () (by
      rw [he, la_out (by omega) h, show i - 1 + 1 = i by omega])
    apply mh4_4_8
    rw [p2, c2, c3, c4, mi_wr_id (z := i) (by omega) (by omega), if_neg (by omega), mi_wr_id (z := a1) (by omega) (by omega), mi_wr_id (z := sp_eg (μ 89) a0 i) (by omega) (by omega), mi_wr_id (z := sp_eg (μ 89) a0 i + μ 89 (6 * i + 2)) (by omega) (by omega), mi_wr_id (z := a2) (by omega) (by omega), mi_wr_id (z := μ 89 (6 * i + 1)) (by omega) (by omega), mi_wr_id (z := μ 89 (6 * i + 1) + μ 89 (6 * i + 3)) (by omega) (by omega)]
    refine ⟨p1, ?_⟩
    unfold sp_has at next
    by_cases d1 : a1 < sp_eg (μ 89) a0 i
    · rw [if_pos d1]; exact next (by omega)
    · rw [if_neg d1]
      refine ⟨by omega, ?_⟩
      by_cases d2 : a1 < sp_eg (μ 89) a0 i + μ 89 (6 * i + 2)
      · rw [if_pos d2]
        refine ⟨by omega, ?_⟩
        by_cases d3 : a2 < μ 89 (6 * i + 1)
        · rw [if_pos d3]; exact next (by omega)
        · rw [if_neg d3]
          refine ⟨by omega, by omega, ?_⟩
          by_cases d4 : a2 < μ 89 (6 * i + 1) + μ 89 (6 * i + 3)
          · rw [if_pos d4]
            have : mv4_4 a0 a1 a2 μ = i := by rw [he]; exact la_in (by omega) (by unfold sp_has; omega)
            rw [this] at hq; exact hq
          · rw [if_neg d4]; exact next (by omega)
      · rw [if_neg d2]; exact next (by omega)
theorem mc176_86 {a0 a1 a2 : Int} (hp : mp176_86 a0 a1 a2 μ) (hq : Q (.inl (some (.inl (mv176_86 a0 a1 a2 μ)))) mi_G0 μ) : mi_cok X 176 [(.inr (.inl (some 86))), (.inl a0), (.inl a1), (.inl a2)] mi_G0 μ u Q := by
  obtain ⟨hr, ⟨hv, hv'⟩, ⟨x1, x2⟩, ⟨y1, y2⟩⟩ := hp
  obtain ⟨n1, n2⟩ := hr.1
  apply me176_86
  refine qp_u (A := fun l acc => mk176_86_6 X Q u a0 a1 a2 acc l μ) (fun l acc => acc = la_v (sp_has (μ 89) a0 a1 a2) l.toNat) (a := 0) (n := μ 86 5) (by omega) ?_ ?_ rfl
  · rintro acc rfl
    apply mh176_86_6
    rw [if_neg (Int.lt_irrefl _)]
    exact hq
  · rintro i acc hi hi' rfl k
    obtain ⟨b1, b2, b3, b4, b5⟩ := hr.2 i hi hi'
    obtain ⟨p1, p2⟩ := mx_edgeR (μ := μ) hv hv' hi (by omega)
    have eb := eg_b (v := a0) hr hi hi'
    apply mh176_86_6
    rw [p2, mi_wr_id (z := i) (by omega) (by omega), mi_wr_id (z := μ 86 5) (by omega) (by omega), if_pos hi', mx_withinM ⟨by omega, by omega⟩ ⟨by omega, by omega⟩ ⟨by omega, by omega⟩, mx_withinM ⟨by omega, by omega⟩ ⟨by omega, by omega⟩ ⟨by omega, by omega⟩]
    refine ⟨p1, by omega, by omega, ?_⟩
    by_cases d1 : 0 ≤ a1 - sp_eg (μ 89) a0 i ∧ a1 - sp_eg (μ 89) a0 i ≤ μ 89 (6 * i + 2) - 1
    · rw [if_pos d1, if_neg w_10]
      refine ⟨by omega, k _ ?_⟩
      by_cases d2 : 0 ≤ a2 - μ 89 (6 * i + 1) ∧ a2 - μ 89 (6 * i + 1) ≤ μ 89 (6 * i + 3) - 1
      · rw [if_pos d2, if_neg w_10]; exact (la_in hi ⟨d1, d2⟩).symm
      · rw [if_neg d2, if_pos w_00]; exact (la_out hi (fun h => d2 h.2)).symm
    · rw [if_neg d1, if_pos w_00]
      exact k _ (la_out hi (fun h => d1 h.1)).symm
end
/-- a number of sixteen, out of any -/
theorem mx_tex (z : Int) : 0 ≤ mi_rem (mi_ushr z 16) 16 ∧ mi_rem (mi_ushr z 16) 16 ≤ 15 := by
  have h : ∃ n : Nat, n < 65536 ∧ mi_ushr z 16 = (n : Int) := by
    have e : Int32.ofInt z = nI (z % 4294967296).toNat := by
      rw [← mx_of]
      apply Int32.toInt_inj.mp
      rw [Int32.toInt_ofInt, Int32.toInt_ofInt, show (((z % 4294967296).toNat : Nat) : Int) = z % 4294967296 by omega]
      show Int.bmod z 4294967296 = Int.bmod (z % 4294967296) 4294967296
      exact (Int.emod_bmod ..).symm
    refine ⟨(z % 4294967296).toNat / 65536, by omega, ?_⟩
    unfold mi_ushr
    have := pk_ushrN (n := (z % 4294967296).toNat) (by omega) (nI 16) 16 (mx_su 16 (by decide))
    rw [e, show Int32.ofInt 16 = nI 16 from mx_of 16, this, nI_toInt (by omega)]
  obtain ⟨n, h1, h2⟩ := h
  rw [h2, mx_rem (by omega) (by omega) (by decide) (by decide)]
  omega
