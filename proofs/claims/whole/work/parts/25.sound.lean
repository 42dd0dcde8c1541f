theorem mi_bif {c : Bool} {A : Prop} (h : bif c then A else False) : c = true ∧ A := by
  cases c with
  | true => exact ⟨rfl, h⟩
  | false => exact h.elim
theorem mi_sw_mono {x : Int} {K K' : Int → Prop} (h : ∀ o, K o → K' o) : ∀ {offs : List Int} {lo d : Int}, mi_sw x K lo offs d → mi_sw x K' lo offs d
  | [], _, _, q => h _ q
  | o :: r, lo, d, q => by
    simp only [mi_sw] at q ⊢
    by_cases e : x = lo
    · rw [if_pos e] at q ⊢; exact h _ q
    · rw [if_neg e] at q ⊢; exact mi_sw_mono h q
section
variable {X : mi_X} {k : Nat} {Ge : mi_G} {Q : mi_R → mi_G → mi_M → Prop} {pc nx aux : Nat} {ls : mi_L} {st : mi_S} {G : mi_G} {μ : mi_M} {u : mi_U} {K : Nat → mi_L → mi_S → mi_G → mi_M → mi_U → Prop} {C : Nat → List mi_V → mi_G → mi_M → mi_U → (mi_R → mi_G → mi_M → Prop) → Prop} {ct : Bool} {ex : Nat → Option (Nat × Nat)}
theorem ms_core (ha : aux < 262) (h : ms_inv X ct ex Ge nx aux pc ls st G μ u K C Q) : ∃ (as : List mi_V) (st' : mi_S) (b : mi_U) (Q' : mi_R → mi_G → mi_M → Prop), mi_pop (mi_hd aux).1 st [] = some (as, st') ∧ mi_rc (mi_hd aux).2.2.2.2.1 G as = true ∧ mi_wd st' ≤ 8 ∧ (b.1 ≤ u.1 ∧ b.2 ≤ u.2) ∧ C aux as G μ b Q' ∧ (∀ v G' μ', Q' (.inl v) G' μ' → K nx ls (v.toList ++ st') G' μ' (u.1 - b.1, u.2 - b.2)) ∧
    ((mi_hd aux).2.2.2.2.2 = false → ∀ G' μ', ¬ Q' (.inr ()) G' μ') ∧ (∀ G' μ', Q' (.inr ()) G' μ' → match ex pc with
      | none => Q (.inr ()) (bif ct then G' else Ge) μ'
      | some h => K h.1 (mi_lset ls h.2 none) [] G' μ' (u.1 - b.1, u.2 - b.2)) := by
  simp only [ms_inv, mi_beq_f (show aux ≠ 9999 by omega), mi_beq_f (show aux ≠ 9998 by omega), mi_beq_f (show aux ≠ 9997 by omega), mi_beq_f (show aux ≠ 9996 by omega), cond_false] at h
  split at h
  · exact h.elim
  · rename_i as st' hp
    cases hg : (mi_rc (mi_hd aux).2.2.2.2.1 G as && Nat.ble (mi_wd st') 8) with
    | false => rw [hg] at h; exact h.elim
    | true =>
      rw [hg] at h
      rw [Bool.and_eq_true] at hg
      cases hal : (mi_hd aux).2.2.1 with
      | true =>
        rw [hal] at h
        obtain ⟨b, hb, hC⟩ := h
        refine ⟨as, st', b, _, hp, hg.1, mi_ble hg.2, hb, hC, fun v G' μ' q => q, fun ht G' μ' q => ?_, fun G' μ' q => ?_⟩
        · simp only [ht, cond_false] at q
        · cases ht : (mi_hd aux).2.2.2.2.2 with
          | true => simp only [ht, cond_true] at q; exact q
          | false => simp only [ht, cond_false] at q
      | false =>
        rw [hal] at h
        exact ⟨as, st', (0, 0), _, hp, hg.1, mi_ble hg.2, ⟨Nat.zero_le _, Nat.zero_le _⟩, h, fun v G' μ' q => q, fun ht G' μ' q => q, fun G' μ' q => q.elim⟩
theorem ms_inv_static (h262 : k < 262) {i : Nat} (hat : mi_at (mi_tb k) pc = some (.invokestatic i, nx, aux)) (hK : ∀ pc' ls' st' G' μ' u', K pc' ls' st' G' μ' u' → mi_ok X k Ge Q pc' ls' st' G' μ' u') (hC : ∀ k' as b Q', C k' as G μ b Q' → mi_cok X k' as G μ b Q')
    (h : ms_inv X (mi_hd k).2.2.2.1 (mi_ex k) Ge nx aux pc ls st G μ u K C Q) : mi_ok X k Ge Q pc ls st G μ u := by
  by_cases h8 : aux = 9998
  · subst h8
    simp only [ms_inv, mi_beq_f (show (9998 : Nat) ≠ 9999 by decide), mi_beq_t, cond_false, cond_true] at h
    split at h
    · rename_i n dp r sp q st'
      obtain ⟨h1, h2⟩ := mi_bif h
      simp only [Bool.and_eq_true] at h1
      obtain ⟨⟨⟨a1, a2⟩, a3⟩, a4⟩ := h1
      cases hq : Nat.blt q 1000 with
      | true =>
        rw [hq] at a4 h2
        simp only [cond_true, Bool.and_eq_true] at a4 h2
        exact mi_s_copyW h262 hat (mi_ble a1) (mi_blt a2) (mi_beq a3) (mi_blt a4.1) (mi_beq a4.2) h2.1 (hK _ _ _ _ _ _ h2.2)
      | false =>
        rw [hq] at a4 h2
        simp only [cond_false] at a4 h2
        have h1000 : 1000 ≤ q := Nat.le_of_not_lt (fun c => by
          have : Nat.blt q 1000 = true := Nat.ble_eq_true_of_le c
          rw [this] at hq; cases hq)
        have h6 := mi_blt a4
        have e8 : mi_rl X q = 8 := by
          have : Nat.blt q 1010 = true := Nat.ble_eq_true_of_le (by omega)
          simp only [mi_rl, this, cond_true]
        rw [e8] at h2
        exact mi_s_copyS h262 hat (mi_ble a1) (mi_blt a2) (mi_beq a3) h1000 h6 h2.1 (hK _ _ _ _ _ _ h2.2)
    · exact h.elim
  · have ha : aux < 262 := by
      obtain ⟨-, -, hc⟩ := mi_dec h262 hat 3 rfl (by decide)
      simp only [mi_ck2, mi_beq_f h8, cond_false, Bool.or_eq_true] at hc
      rcases hc with (hc | hc) | hc <;> exact (mi_ckc_spec hc).1
    obtain ⟨as, st', b, Q', hp, hrc, hwd, hb, hc, hret, hth, hthr⟩ := ms_core ha h
    exact mi_s_invS h262 hat (by omega) hp hwd hb (hC _ _ _ _ hc) (fun v G' μ' q => hK _ _ _ _ _ _ (hret v G' μ' q)) hth
theorem ms_inv_virtual (h262 : k < 262) {i : Nat} (hat : mi_at (mi_tb k) pc = some (.invokevirtual i, nx, aux)) (hK : ∀ pc' ls' st' G' μ' u', K pc' ls' st' G' μ' u' → mi_ok X k Ge Q pc' ls' st' G' μ' u') (hC : ∀ k' as b Q', C k' as G μ b Q' → mi_cok X k' as G μ b Q')
    (h : ms_inv X (mi_hd k).2.2.2.1 (mi_ex k) Ge nx aux pc ls st G μ u K C Q) : mi_ok X k Ge Q pc ls st G μ u := by
  by_cases h7 : aux = 9997
  · subst h7
    simp only [ms_inv, mi_beq_f (show (9997 : Nat) ≠ 9999 by decide), mi_beq_f (show (9997 : Nat) ≠ 9998 by decide), mi_beq_t, cond_false, cond_true] at h
    split at h
    · obtain ⟨h1, h2⟩ := mi_bif h
      simp only [Bool.and_eq_true] at h1
      exact mi_s_len h262 hat (mi_ble h1.1.1) (mi_ble h1.1.2) (mi_blt h1.2) (hK _ _ _ _ _ _ h2)
    · exact h.elim
  · by_cases h6 : aux = 9996
    · subst h6
      simp only [ms_inv, mi_beq_f (show (9996 : Nat) ≠ 9999 by decide), mi_beq_f (show (9996 : Nat) ≠ 9998 by decide), mi_beq_f (show (9996 : Nat) ≠ 9997 by decide), mi_beq_t, cond_false, cond_true] at h
      split at h
      · obtain ⟨h1, h2⟩ := mi_bif h
        simp only [Bool.and_eq_true] at h1
        exact mi_s_chr h262 hat (mi_ble h1.1.1) (mi_ble h1.1.2) (mi_blt h1.2) h2.1 (hK _ _ _ _ _ _ h2.2)
      · exact h.elim
    · have ha : aux < 262 := by
        obtain ⟨-, -, hc⟩ := mi_dec h262 hat 3 rfl (by decide)
        simp only [mi_ck2, mi_beq_f h7, mi_beq_f h6, cond_false, Bool.and_eq_true] at hc
        exact (mi_ckc_spec hc.1).1
      obtain ⟨as, st', b, Q', hp, hrc, hwd, hb, hc, hret, hth, hthr⟩ := ms_core ha h
      refine mi_s_invV h262 hat (by omega) hp hrc hwd hb (hC _ _ _ _ hc) (fun v G' μ' q => hK _ _ _ _ _ _ (hret v G' μ' q)) (fun G' μ' q => ?_)
      have := hthr G' μ' q
      cases he : mi_ex k pc with
      | none => rw [he] at this; exact this
      | some z => rw [he] at this; exact hK _ _ _ _ _ _ this
theorem ms_inv_special (h262 : k < 262) {i : Nat} (hat : mi_at (mi_tb k) pc = some (.invokespecial i, nx, aux)) (hK : ∀ pc' ls' st' G' μ' u', K pc' ls' st' G' μ' u' → mi_ok X k Ge Q pc' ls' st' G' μ' u') (hC : ∀ k' as b Q', C k' as G μ b Q' → mi_cok X k' as G μ b Q')
    (h0 : ms_hr aux st = true) (h : ms_inv X (mi_hd k).2.2.2.1 (mi_ex k) Ge nx aux pc ls st G μ u K C Q) : mi_ok X k Ge Q pc ls st G μ u := by
  by_cases h9 : aux = 9999
  · subst h9
    simp only [ms_inv, mi_beq_t, cond_true] at h
    split at h
    · obtain ⟨h1, h2⟩ := mi_bif h
      exact mi_s_obj h262 hat (mi_ble h1) (hK _ _ _ _ _ _ h2)
    · exact h.elim
  · have hc0 : mi_ckc k aux 3 i = true := by
      obtain ⟨-, -, hc⟩ := mi_dec h262 hat 3 rfl (by decide)
      simp only [mi_ck2, mi_beq_f h9, cond_false] at hc
      exact hc
    have ha := (mi_ckc_spec hc0).1
    obtain ⟨as, st', b, Q', hp, hrc, hwd, hb, hc, hret, hth, hthr⟩ := ms_core ha h
    refine mi_s_invI h262 hat (by omega) hp ?_ hwd hb (hC _ _ _ _ hc) (fun v G' μ' q => hK _ _ _ _ _ _ (hret v G' μ' q)) hth
    simp only [ms_hr, mi_beq_f h9, Bool.false_or, hp] at h0
    split at h0
    · rename_i r As st2 he
      injection he with he1
      injection he1 with he2 he3
      exact ⟨r, As, he2⟩
    · cases h0
end
/-! every step is the machine's -/
theorem ms_sound {X : mi_X} {k : Nat} {Ge : mi_G} {Q : mi_R → mi_G → mi_M → Prop} {pc nx aux : Nat} {i : Instr} {ls : mi_L} {st : mi_S} {G : mi_G} {μ : mi_M} {u : mi_U} {K : Nat → mi_L → mi_S → mi_G → mi_M → mi_U → Prop} {C : Nat → List mi_V → mi_G → mi_M → mi_U → (mi_R → mi_G → mi_M → Prop) → Prop}
    (h262 : k < 262) (hat : mi_at (mi_tb k) pc = some (i, nx, aux)) (hK : ∀ pc' ls' st' G' μ' u', K pc' ls' st' G' μ' u' → mi_ok X k Ge Q pc' ls' st' G' μ' u') (hC : ∀ k' as b Q', C k' as G μ b Q' → mi_cok X k' as G μ b Q')
    (h : ms_st X (mi_hd k).2.2.2.1 (mi_ex k) Ge i nx aux pc ls st G μ u K C Q) : mi_ok X k Ge Q pc ls st G μ u := by
  cases i
  case iload n =>
    simp only [ms_st] at h
    split at h
    · rename_i x hx
      exact mi_s_iload h262 hat hx (hK _ _ _ _ _ _ h)
    · exact h.elim
  case iload_n n =>
    simp only [ms_st] at h
    split at h
    · rename_i x hx
      exact mi_s_iload_n h262 hat hx (hK _ _ _ _ _ _ h)
    · exact h.elim
  case aload n =>
    simp only [ms_st] at h
    split at h
    · rename_i x hx
      exact mi_s_aload h262 hat hx (hK _ _ _ _ _ _ h)
    · exact h.elim
  case aload_n n =>
    simp only [ms_st] at h
    split at h
    · rename_i x hx
      exact mi_s_aload_n h262 hat hx (hK _ _ _ _ _ _ h)
    · exact h.elim
  case istore n =>
    simp only [ms_st] at h
    split at h
    · obtain ⟨h1, h2⟩ := mi_bif h
      exact mi_s_istore h262 hat (mi_blt h1) (hK _ _ _ _ _ _ h2)
    · exact h.elim
  case istore_n n =>
    simp only [ms_st] at h
    split at h
    · obtain ⟨h1, h2⟩ := mi_bif h
      exact mi_s_istore_n h262 hat (mi_blt h1) (hK _ _ _ _ _ _ h2)
    · exact h.elim
  case astore n =>
    simp only [ms_st] at h
    split at h
    · obtain ⟨h1, h2⟩ := mi_bif h
      exact mi_s_astore h262 hat (mi_blt h1) (hK _ _ _ _ _ _ h2)
    · exact h.elim
  case astore_n n =>
    simp only [ms_st] at h
    split at h
    · obtain ⟨h1, h2⟩ := mi_bif h
      exact mi_s_astore_n h262 hat (mi_blt h1) (hK _ _ _ _ _ _ h2)
    · exact h.elim
  case iinc n z =>
    simp only [ms_st] at h
    split at h
    · rename_i x hx
      obtain ⟨h1, h2⟩ := mi_bif h
      exact mi_s_iinc h262 hat hx (hK _ _ _ _ _ _ h2)
    · exact h.elim
  case iconst z =>
    exact mi_s_iconst h262 hat (hK _ _ _ _ _ _ h)
  case bipush z =>
    simp only [ms_st] at h
    obtain ⟨h1, h2⟩ := mi_bif h
    rw [Bool.and_eq_true, decide_eq_true_eq, decide_eq_true_eq] at h1
    exact mi_s_bipush h262 hat h1.1 h1.2 (hK _ _ _ _ _ _ h2)
  case sipush z =>
    simp only [ms_st] at h
    obtain ⟨h1, h2⟩ := mi_bif h
    rw [Bool.and_eq_true, decide_eq_true_eq, decide_eq_true_eq] at h1
    exact mi_s_sipush h262 hat h1.1 h1.2 (hK _ _ _ _ _ _ h2)
  case ldc i =>
    simp only [ms_st] at h
    cases hb : Nat.blt aux 2147483648 with
    | true => rw [hb] at h; exact mi_s_ldc h262 hat hb (hK _ _ _ _ _ _ h)
    | false => rw [hb] at h; exact mi_s_ldcS h262 hat hb (hK _ _ _ _ _ _ h)
  case ldc_w i =>
    simp only [ms_st] at h
    obtain ⟨h1, h2⟩ := mi_bif h
    exact mi_s_ldcw h262 hat (hK _ _ _ _ _ _ h2)
  case iadd =>
    simp only [ms_st] at h
    split at h
    · exact mi_s_iadd h262 hat (hK _ _ _ _ _ _ h)
    · exact h.elim
  case isub =>
    simp only [ms_st] at h
    split at h
    · exact mi_s_isub h262 hat (hK _ _ _ _ _ _ h)
    · exact h.elim
  case imul =>
    simp only [ms_st] at h
    split at h
    · exact mi_s_imul h262 hat (hK _ _ _ _ _ _ h)
    · exact h.elim
  case ishl =>
    simp only [ms_st] at h
    split at h
    · exact mi_s_ishl h262 hat (hK _ _ _ _ _ _ h)
    · exact h.elim
  case ishr =>
    simp only [ms_st] at h
    split at h
    · exact mi_s_ishr h262 hat (hK _ _ _ _ _ _ h)
    · exact h.elim
  case iushr =>
    simp only [ms_st] at h
    split at h
    · exact mi_s_iushr h262 hat (hK _ _ _ _ _ _ h)
    · exact h.elim
  case iand =>
    simp only [ms_st] at h
    split at h
    · exact mi_s_iand h262 hat (hK _ _ _ _ _ _ h)
    · exact h.elim
  case ior =>
    simp only [ms_st] at h
    split at h
    · exact mi_s_ior h262 hat (hK _ _ _ _ _ _ h)
    · exact h.elim
  case ixor =>
    simp only [ms_st] at h
    split at h
    · exact mi_s_ixor h262 hat (hK _ _ _ _ _ _ h)
    · exact h.elim
  case ineg =>
    simp only [ms_st] at h
    split at h
    · exact mi_s_ineg h262 hat (hK _ _ _ _ _ _ h)
    · exact h.elim
  case i2b =>
    simp only [ms_st] at h
    split at h
    · exact mi_s_i2b h262 hat (hK _ _ _ _ _ _ h)
    · exact h.elim
  case i2l =>
    simp only [ms_st] at h
    split at h
    · exact mi_s_i2l h262 hat (hK _ _ _ _ _ _ h)
    · exact h.elim
  case lcmp =>
    simp only [ms_st] at h
    split at h
    · exact mi_s_lcmp h262 hat (hK _ _ _ _ _ _ h)
    · exact h.elim
  case idiv =>
    simp only [ms_st] at h
    split at h
    · exact mi_s_idiv h262 hat h.1 (hK _ _ _ _ _ _ h.2)
    · exact h.elim
  case irem =>
    simp only [ms_st] at h
    split at h
    · exact mi_s_irem h262 hat h.1 (hK _ _ _ _ _ _ h.2)
    · exact h.elim
  case dup =>
    simp only [ms_st] at h
    split at h
    · exact mi_s_dup h262 hat (fun z e => by cases e) (hK _ _ _ _ _ _ h)
    · exact mi_s_dup h262 hat (fun z e => by cases e) (hK _ _ _ _ _ _ h)
    · exact h.elim
  case dup2 =>
    simp only [ms_st] at h
    split at h
    · exact mi_s_dup2 h262 hat (hK _ _ _ _ _ _ h)
    · exact h.elim
  case pop =>
    simp only [ms_st] at h
    split at h
    · exact mi_s_pop h262 hat (hK _ _ _ _ _ _ h)
    · exact h.elim
  case goto o =>
    exact mi_s_goto h262 hat (hK _ _ _ _ _ _ h)
  case if_icmp c o =>
    simp only [ms_st] at h
    split at h
    · cases c with
      | eq => dsimp only at h; exact mi_s_icmp_eq h262 hat (fun q => hK _ _ _ _ _ _ (by rw [if_pos q] at h; exact h)) (fun q => hK _ _ _ _ _ _ (by rw [if_neg q] at h; exact h))
      | ne => dsimp only at h; exact mi_s_icmp_ne h262 hat (fun q => hK _ _ _ _ _ _ (by rw [if_pos q] at h; exact h)) (fun q => hK _ _ _ _ _ _ (by rw [if_neg q] at h; exact h))
      | lt => dsimp only at h; exact mi_s_icmp_lt h262 hat (fun q => hK _ _ _ _ _ _ (by rw [if_pos q] at h; exact h)) (fun q => hK _ _ _ _ _ _ (by rw [if_neg q] at h; exact h))
      | ge => dsimp only at h; exact mi_s_icmp_ge h262 hat (fun q => hK _ _ _ _ _ _ (by rw [if_pos q] at h; exact h)) (fun q => hK _ _ _ _ _ _ (by rw [if_neg q] at h; exact h))
      | gt => dsimp only at h; exact mi_s_icmp_gt h262 hat (fun q => hK _ _ _ _ _ _ (by rw [if_pos q] at h; exact h)) (fun q => hK _ _ _ _ _ _ (by rw [if_neg q] at h; exact h))
      | le => dsimp only at h; exact mi_s_icmp_le h262 hat (fun q => hK _ _ _ _ _ _ (by rw [if_pos q] at h; exact h)) (fun q => hK _ _ _ _ _ _ (by rw [if_neg q] at h; exact h))
    · exact h.elim
  case ifCond c o =>
    simp only [ms_st] at h
    split at h
    · cases c with
      | eq => dsimp only at h; exact mi_s_if_eq h262 hat (fun q => hK _ _ _ _ _ _ (by rw [if_pos q] at h; exact h)) (fun q => hK _ _ _ _ _ _ (by rw [if_neg q] at h; exact h))
      | ne => dsimp only at h; exact mi_s_if_ne h262 hat (fun q => hK _ _ _ _ _ _ (by rw [if_pos q] at h; exact h)) (fun q => hK _ _ _ _ _ _ (by rw [if_neg q] at h; exact h))
      | lt => dsimp only at h; exact mi_s_if_lt h262 hat (fun q => hK _ _ _ _ _ _ (by rw [if_pos q] at h; exact h)) (fun q => hK _ _ _ _ _ _ (by rw [if_neg q] at h; exact h))
      | ge => dsimp only at h; exact mi_s_if_ge h262 hat (fun q => hK _ _ _ _ _ _ (by rw [if_pos q] at h; exact h)) (fun q => hK _ _ _ _ _ _ (by rw [if_neg q] at h; exact h))
      | gt => dsimp only at h; exact mi_s_if_gt h262 hat (fun q => hK _ _ _ _ _ _ (by rw [if_pos q] at h; exact h)) (fun q => hK _ _ _ _ _ _ (by rw [if_neg q] at h; exact h))
      | le => dsimp only at h; exact mi_s_if_le h262 hat (fun q => hK _ _ _ _ _ _ (by rw [if_pos q] at h; exact h)) (fun q => hK _ _ _ _ _ _ (by rw [if_neg q] at h; exact h))
    · exact h.elim
  case tableswitch d lo hi offs =>
    simp only [ms_st] at h
    split at h
    · refine mi_s_sw h262 hat (mi_sw_mono (fun o q => ?_) h)
      exact hK _ _ _ _ _ _ q
    · exact h.elim
  case getfield i =>
    simp only [ms_st] at h
    split at h
    · obtain ⟨h1, h2⟩ := mi_bif h
      rw [Bool.and_eq_true, Bool.and_eq_true] at h1
      obtain ⟨⟨a1, a2⟩, a3⟩ := h1
      cases hf : mi_fr (aux / 64) (aux % 64) with
      | true => rw [hf] at h2; exact mi_s_getR h262 hat (mi_blt a1) (mi_beq a2) hf (hK _ _ _ _ _ _ h2)
      | false => rw [hf] at h2; exact mi_s_getI h262 hat (mi_blt a1) (mi_beq a2) hf (hK _ _ _ _ _ _ h2)
    · exact h.elim
  case putfield i =>
    simp only [ms_st] at h
    split at h
    · obtain ⟨h1, h2⟩ := mi_bif h
      rw [Bool.and_eq_true, Bool.and_eq_true, Bool.and_eq_true, Bool.not_eq_true'] at h1
      obtain ⟨⟨⟨a1, a2⟩, a3⟩, a4⟩ := h1
      cases hb : Nat.beq aux 0 with
      | true => rw [hb] at h2; exact mi_s_putI h262 hat (mi_blt a1) (mi_beq a2) a4 (fun _ => h2.1) (hK _ _ _ _ _ _ h2.2)
      | false => rw [hb] at h2; exact mi_s_putI h262 hat (mi_blt a1) (mi_beq a2) a4 (fun e => by rw [hb] at e; cases e) (hK _ _ _ _ _ _ h2)
    · obtain ⟨h1, h2⟩ := mi_bif h
      simp only [Bool.and_eq_true] at h1
      obtain ⟨⟨⟨⟨⟨a0, a1⟩, a2⟩, a3⟩, a4⟩, a5⟩ := h1
      exact mi_s_putR h262 hat a0 (mi_blt a1) (mi_blt a2) (mi_beq a3) a5 (hK _ _ _ _ _ _ h2)
    · exact h.elim
  case getstatic i =>
    simp only [ms_st] at h
    obtain ⟨h1, h2⟩ := mi_bif h
    exact mi_s_getS h262 hat (hK _ _ _ _ _ _ h2)
  case iaload =>
    simp only [ms_st] at h
    split at h
    · rename_i j r st'
      cases hb : Nat.blt r 1000 with
      | true =>
        rw [hb] at h
        obtain ⟨h1, h2⟩ := mi_bif (show bif _ then _ else False from h)
        rw [Bool.and_eq_true] at h1
        exact mi_s_iald h262 hat (mi_blt h1.1) (mi_beq h1.2) h2.1 (hK _ _ _ _ _ _ h2.2)
      | false =>
        rw [hb] at h
        obtain ⟨h1, h2⟩ := mi_bif (show bif _ then _ else False from h)
        have h1000 : 1000 ≤ r := Nat.le_of_not_lt (fun q => by
          have : Nat.blt r 1000 = true := Nat.ble_eq_true_of_le q
          rw [this] at hb; cases hb)
        rw [Bool.or_eq_true] at h1
        rcases h1 with h1 | h1
        · have h6 := mi_blt h1
          have e8 : mi_rl X r = 8 := by
            have : Nat.blt r 1010 = true := Nat.ble_eq_true_of_le (by omega)
            simp only [mi_rl, this, cond_true]
          rw [e8] at h2
          exact mi_s_ialdS h262 hat h1000 h6 h2.1 (hK _ _ _ _ _ _ h2.2)
        · have h6 := mi_beq h1
          subst h6
          exact mi_s_ialdX h262 hat h2.1 (hK _ _ _ _ _ _ h2.2)
    · exact h.elim
  case baload =>
    simp only [ms_st] at h
    split at h
    · obtain ⟨h1, h2⟩ := mi_bif h
      rw [Bool.and_eq_true] at h1
      exact mi_s_bald h262 hat (mi_blt h1.1) (mi_beq h1.2) h2.1 (hK _ _ _ _ _ _ h2.2)
    · exact h.elim
  case laload =>
    simp only [ms_st] at h
    split at h
    · obtain ⟨h1, h2⟩ := mi_bif h
      rw [Bool.and_eq_true] at h1
      exact mi_s_lald h262 hat (mi_blt h1.1) (mi_beq h1.2) h2.1 (hK _ _ _ _ _ _ h2.2)
    · exact h.elim
  case aaload =>
    simp only [ms_st] at h
    split at h
    · obtain ⟨h1, h2⟩ := mi_bif h
      rw [Bool.and_eq_true, Bool.or_eq_true] at h1
      exact mi_s_aald h262 hat (mi_blt h1.1) (h1.2.imp mi_beq mi_beq) h2.1 (hK _ _ _ _ _ _ h2.2)
    · exact h.elim
  case iastore =>
    simp only [ms_st] at h
    split at h
    · obtain ⟨h1, h2⟩ := mi_bif h
      rw [Bool.and_eq_true] at h1
      exact mi_s_iast h262 hat (mi_blt h1.1) (mi_beq h1.2) h2.1 (hK _ _ _ _ _ _ h2.2)
    · exact h.elim
  case bastore =>
    simp only [ms_st] at h
    split at h
    · obtain ⟨h1, h2⟩ := mi_bif h
      rw [Bool.and_eq_true] at h1
      exact mi_s_bast h262 hat (mi_blt h1.1) (mi_beq h1.2) h2.1 (hK _ _ _ _ _ _ h2.2)
    · exact h.elim
  case lastore =>
    simp only [ms_st] at h
    split at h
    · obtain ⟨h1, h2⟩ := mi_bif h
      rw [Bool.and_eq_true] at h1
      exact mi_s_last h262 hat (mi_blt h1.1) (mi_beq h1.2) h2.1 (hK _ _ _ _ _ _ h2.2)
    · exact h.elim
  case aastore =>
    simp only [ms_st] at h
    split at h
    · obtain ⟨h1, h2⟩ := mi_bif h
      simp only [Bool.and_eq_true, Bool.or_eq_true] at h1
      obtain ⟨⟨⟨a0, a1⟩, a2⟩, a3⟩ := h1
      exact mi_s_aast h262 hat a0 (mi_blt a1) (mi_blt a2) (a3.imp (fun q => ⟨mi_beq q.1, mi_beq q.2⟩) (fun q => ⟨mi_beq q.1, mi_beq q.2⟩)) h2.1 (hK _ _ _ _ _ _ h2.2)
    · exact h.elim
  case arraylength =>
    simp only [ms_st] at h
    split at h
    · obtain ⟨h1, h2⟩ := mi_bif h
      have h3 := mi_beq h1
      subst h3
      exact mi_s_alenX h262 hat (hK _ _ _ _ _ _ h2)
    · exact h.elim
  case newarray t =>
    simp only [ms_st] at h
    split at h
    · obtain ⟨h1, h2⟩ := mi_bif h
      rw [Bool.and_eq_true, Bool.and_eq_true, decide_eq_true_eq, decide_eq_true_eq] at h1
      obtain ⟨⟨a1, a2⟩, a3⟩ := h1
      obtain ⟨-, -, hc⟩ := mi_dec h262 hat 2 rfl (by decide)
      simp only [mi_ck2, Bool.or_eq_true, decide_eq_true_eq] at hc
      rcases hc with (hc | hc) | hc
      · subst hc; exact mi_s_newaI h262 hat (mi_blt a1) a2 a3 h2.1 (hK _ _ _ _ _ _ h2.2)
      · subst hc; exact mi_s_newaB h262 hat (mi_blt a1) a2 a3 h2.1 (hK _ _ _ _ _ _ h2.2)
      · subst hc; exact mi_s_newaJ h262 hat (mi_blt a1) a2 a3 h2.1 (hK _ _ _ _ _ _ h2.2)
    · exact h.elim
  case anewarray i =>
    simp only [ms_st] at h
    split at h
    · obtain ⟨h1, h2⟩ := mi_bif h
      simp only [Bool.and_eq_true, Bool.or_eq_true, decide_eq_true_eq] at h1
      obtain ⟨⟨⟨⟨a0, a1⟩, a2⟩, a3⟩, a4⟩ := h1
      rcases a2 with a2 | a2
      · have e := mi_beq a2
        subst e
        exact mi_s_anew3 h262 hat (mi_blt a1) a3 a4 h2.1 (hK _ _ _ _ _ _ h2.2)
      · have e := mi_beq a2
        subst e
        exact mi_s_anew4 h262 hat (mi_blt a1) a3 a4 h2.1 (hK _ _ _ _ _ _ h2.2)
    · exact h.elim
  case new i =>
    simp only [ms_st] at h
    cases hb : (Nat.beq aux 9995 && Nat.ble (mi_wd st) 8) with
    | true =>
      rw [hb] at h
      rw [Bool.and_eq_true] at hb
      have e := mi_beq hb.1
      subst e
      exact mi_s_throw h262 hat (mi_ble hb.2) h.1 h.2
    | false =>
      rw [hb] at h
      obtain ⟨h1, h2⟩ := mi_bif (show bif _ then _ else False from h)
      simp only [Bool.and_eq_true] at h1
      have hne : aux ≠ 9995 := Nat.ne_of_lt (mi_blt h1.2)
      exact mi_s_new h262 hat (mi_beq_f hne) (mi_blt h1.1.2) h2.1 (hK _ _ _ _ _ _ h2.2)
  case ireturn =>
    simp only [ms_st] at h
    split at h
    · cases hb : Nat.beq aux 1 with
      | true => rw [hb] at h; exact mi_s_ireturn h262 hat (fun _ => h.1) h.2
      | false => rw [hb] at h; exact mi_s_ireturn h262 hat (fun e => by rw [hb] at e; cases e) h
    · exact h.elim
  case return_ =>
    simp only [ms_st] at h
    split at h
    · exact mi_s_return h262 hat h
    · exact h.elim
  case invokestatic i => exact ms_inv_static h262 hat hK hC h
  case invokevirtual i => exact ms_inv_virtual h262 hat hK hC h
  case invokespecial i =>
    obtain ⟨h1, h2⟩ := mi_bif (show bif _ then _ else False from h)
    exact ms_inv_special h262 hat hK hC h1 h2
  all_goals exact False.elim h
/-- some steps of a method -/
theorem ms_run {X : mi_X} {k : Nat} {Ge : mi_G} {Q : mi_R → mi_G → mi_M → Prop} {tb : mi_T} {stop : Nat → Bool} {C : Nat → List mi_V → mi_G → mi_M → mi_U → (mi_R → mi_G → mi_M → Prop) → Prop} (h262 : k < 262) (htb : mi_tb k = tb) (hC : ∀ k' as G μ b Q', C k' as G μ b Q' → mi_cok X k' as G μ b Q') :
    ∀ (n pc : Nat) (ls : mi_L) (st : mi_S) (G : mi_G) (μ : mi_M) (u : mi_U), ms_un X tb stop (mi_hd k).2.2.2.1 (mi_ex k) Ge (mi_ok X k Ge Q) C Q n pc ls st G μ u → mi_ok X k Ge Q pc ls st G μ u
  | 0, _, _, _, _, _, _, h => h
  | n + 1, pc, ls, st, G, μ, u, h => by
    simp only [ms_un] at h
    split at h
    · exact h.elim
    · rename_i e he
      obtain ⟨i, nx, aux⟩ := e
      refine ms_sound h262 (by rw [htb]; exact he) (fun pc' ls' st' G' μ' u' q => ?_) (fun k' as b Q' q => hC k' as G μ b Q' q) h
      cases hs : stop pc' with
      | true => rw [hs] at q; exact q
      | false => rw [hs] at q; exact ms_run h262 htb hC n pc' ls' st' G' μ' u' q
