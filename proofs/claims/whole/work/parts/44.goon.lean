/-! one step of a way -/
/-- what a place tells by the one ahead of it -/
def tb_0 (f : Int → Int) (n B d : Int) : Int := if f d < ls_t f n.toNat + B then f d else ls_t f n.toNat + B
def tb_1 (f : Int → Int) (n A B d : Int) : Int := if 0 < d then (if f (d - 1) + A < tb_0 f n B d then f (d - 1) + A else tb_0 f n B d) else tb_0 f n B d
def tb_2 (f : Int → Int) (n A B d : Int) : Int := if d < n then (if f (d + 1) + A < tb_1 f n A B d then f (d + 1) + A else tb_1 f n A B d) else tb_1 f n A B d
def tb_v (f : Int → Int) (n A B d : Int) : Int := tb_2 f n A B d - ls_t f n.toNat
theorem tb_b {f : Int → Int} {n A B d : Int} (h0 : 0 ≤ d) (h1 : d ≤ n) (hA : 0 ≤ A) (hB : 0 ≤ B) : 0 ≤ tb_v f n A B d ∧ tb_v f n A B d ≤ B := by
  have l0 := ls_le (f := f) n.toNat d h0 (by omega)
  have l1 : 0 < d → ls_t f n.toNat ≤ f (d - 1) := fun h => ls_le n.toNat (d - 1) (by omega) (by omega)
  have l2 : d < n → ls_t f n.toNat ≤ f (d + 1) := fun h => ls_le n.toNat (d + 1) (by omega) (by omega)
  unfold tb_v tb_2 tb_1 tb_0
  by_cases e1 : 0 < d
  · have := l1 e1
    by_cases e2 : d < n
    · have := l2 e2
      simp only [e1, e2, if_true]
      split <;> split <;> (try split) <;> (try split) <;> (try split) <;> (try split) <;> omega
    · simp only [e1, e2, if_true, if_false]
      split <;> (try split) <;> (try split) <;> omega
  · by_cases e2 : d < n
    · have := l2 e2
      simp only [e1, e2, if_true, if_false]
      split <;> (try split) <;> (try split) <;> omega
    · simp only [e1, e2, if_false]
      split <;> omega
theorem tb_eq {f g : Int → Int} {n A B d : Int} (h0 : 0 ≤ d) (h1 : d ≤ n) (h : ∀ e, 0 ≤ e → e ≤ n → f e = g e) : tb_v f n A B d = tb_v g n A B d := by
  have hl : ls_t f n.toNat = ls_t g n.toNat := ls_eq n.toNat (fun e a b => h e a (by omega))
  have hd := h d h0 h1
  have h1' : 0 < d → f (d - 1) = g (d - 1) := fun _ => h (d - 1) (by omega) (by omega)
  have h2' : d < n → f (d + 1) = g (d + 1) := fun _ => h (d + 1) (by omega) (by omega)
  unfold tb_v tb_2 tb_1 tb_0
  rw [hl, hd]
  by_cases e1 : 0 < d
  · rw [h1' e1]
    by_cases e2 : d < n
    · rw [h2' e2]
    · rw [if_neg e2, if_neg e2]
  · rw [if_neg e1, if_neg e1]
    by_cases e2 : d < n
    · rw [h2' e2]
    · rw [if_neg e2, if_neg e2]
