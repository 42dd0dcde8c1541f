/-! statics, the script, texts by name; new cells; Object's constructor; arraycopy -/
theorem mi_getD_l {α : Type} (l : List α) (i : Nat) (d : α) (h : i < l.length) : ∃ x, l[i]? = some x ∧ l.getD i d = x := ⟨l[i], by simp [h], by simp [h]⟩
section
variable {X : mi_X} {k : Nat} {Ge : mi_G} {Q : mi_R → mi_G → mi_M → Prop} {pc nx aux : Nat} {ls : mi_L} {st st' : mi_S} {G : mi_G} {μ : mi_M} {u : mi_U}
theorem mi_s_getS (h262 : k < 262) {i : Nat} (hat : mi_at (mi_tb k) pc = some (.getstatic i, nx, aux)) (hk : mi_ok X k Ge Q nx ls (.inr (.inl (some aux)) :: st) G μ u) : mi_ok X k Ge Q pc ls st G μ u := by
  obtain ⟨hd, hn, hc⟩ := mi_dec h262 hat 3 rfl (by decide)
  subst hn
  simp only [mi_ck2, Bool.and_eq_true, Bool.or_eq_true, decide_eq_true_eq] at hc
  obtain ⟨⟨c1, c2⟩, c3⟩ := hc
  have c1 := mi_ble c1
  have c2 := mi_blt c2
  intro base D ca sa adE p l e R s m args below meth c hA ad la H locs cells slots hS
  have hA' := hA
  obtain ⟨hx, hb, hml, hre, hown, hlk, hin, hex, hst, hfr, hlo, hE⟩ := hA'
  obtain ⟨s1, s2, s3, s4, s5, s6, s7⟩ := hS
  have hz := (hE.2.2.1 (aux - 1000) (by omega)).1
  have e9 : 1000 + (aux - 1000) = aux := by omega
  rw [e9, ← s6.2.2.1 aux c1] at hz
  have hgo : W p l e R s m args below meth c H locs cells slots (vx_MQ below (mi_Qc base D ca sa adE Ge.2.2 Q) (mi_XC base D ca sa adE Ge.2.2 Q) args s R.cells R.slots (mi_A base)) (F0 m (pc + 3) la (.ref (ad aux) :: st.map (mi_c ad))) :=
    hk base D ca sa adE p l e R s m args below meth c hA ad la H locs cells slots ⟨s1, s2, s3, s4, mi_vo_c (mi_vo_r (Or.inr c1)) s5, s6, s7⟩
  rcases c3 with c3 | c3
  · exact va_getsN (ref := "TwoViews") (host := "TwoViews") hx hb hz s7.1 hown (hE.w (mi_SL_ok _ c3) rfl) (fun x h => h) hd hgo
  · exact va_gets (ref := "TwoViews") hx hb hz s7.1 hown (hE.w (mi_SL_ok _ c3) rfl) (fun x h => h) hd hgo
end
