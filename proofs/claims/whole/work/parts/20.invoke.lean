/-! calls -/
theorem mi_pop_spec : ∀ (n : Nat) (st acc as st' : List mi_V), mi_pop n st acc = some (as, st') → acc.reverse ++ st = as.reverse ++ st' ∧ as.length = acc.length + n
  | 0, st, acc, as, st', h => by
    simp only [mi_pop, Option.some.injEq, Prod.mk.injEq] at h
    obtain ⟨h1, h2⟩ := h
    subst h1; subst h2
    exact ⟨rfl, rfl⟩
  | n + 1, [], acc, as, st', h => by simp [mi_pop] at h
  | n + 1, v :: st, acc, as, st', h => by
    have := mi_pop_spec n st (v :: acc) as st' h
    simp only [List.reverse_cons, List.append_assoc, List.length_cons] at this
    exact ⟨this.1, by omega⟩
theorem mi_ckc_spec {k aux kind i : Nat} (h : mi_ckc k aux kind i = true) : aux < 262 ∧ aux ≠ 256 ∧ (mi_on k, i, kind, aux) ∈ mi_ML ∧ (mi_rm aux).1 + 1 ≤ (mi_rm k).1 ∧ 8 + ((mi_hd aux).2.1 + 11) + (mi_rm aux).2 ≤ (mi_rm k).2 ∧ ((mi_hd k).2.2.2.1 = false → (mi_hd aux).2.2.2.1 = false) := by
  simp only [mi_ckc, Bool.and_eq_true, Bool.or_eq_true, decide_eq_true_eq, Bool.not_eq_true'] at h
  obtain ⟨⟨⟨⟨⟨h1, h2⟩, h3⟩, h4⟩, h5⟩, h6⟩ := h
  refine ⟨mi_blt h1, fun e => ?_, h3, mi_ble h4, mi_ble h5, fun e => ?_⟩
  · rw [e] at h2; exact absurd h2 (by decide)
  · rcases h6 with h6 | h6
    · exact h6
    · rw [e] at h6; cases h6
set_option maxRecDepth 100000 in
theorem mi_ML_k : ∀ e ∈ mi_ML, (e.2.2.1 ≠ 4 → mi_hh e.2.2.2 = []) ∧ (e.2.2.1 = 4 → mi_hh e.2.2.2 ≠ [] ∧ (mi_hd e.2.2.2).2.2.2.2.2 = false) ∧ (e.2.2.1 = 0 ∨ e.2.2.1 = 1 ∨ e.2.2.1 = 4 → mi_sta e.2.2.2 = true ∧ (mi_hd e.2.2.2).2.2.2.2.2 = false) ∧ (e.2.2.1 = 2 ∨ e.2.2.1 = 3 → mi_sta e.2.2.2 = false) ∧ (e.2.2.1 = 3 → (mi_nm e.2.2.2).name = "<init>" ∧ mi_rt e.2.2.2 = none ∧ (mi_hd e.2.2.2).2.2.2.2.2 = false) := by decide +kernel
theorem mi_met_of {l : Launch} {y : MethodName} {ws : List Cond} {rm : Room} {Pc : Array Value → State → Prop} {Qc : Array Value → State → Outcome → State → Prop} {XC : String → State → State → Prop} {mc ms : Nat} {free : Addr → Prop} (h : vx_Met l y ws rm Pc Qc XC mc ms free) (hx : ∀ E st t, ¬ XC E st t) : Met l y ws rm Pc Qc mc ms free := by
  intro p e h1 h2 h3 s m args below h4 h5 h6 h7
  obtain ⟨n, o, a1, a2, a3, a4⟩ := h p e h1 h2 h3 s m args below h4 h5 h6 h7
  refine ⟨n, o, a1, a2, a3, ?_⟩
  rcases a4 with a4 | ⟨q, -, E, ce, L, hq, -⟩
  · exact a4
  · exact absurd hq (hx E _ _)
theorem mi_vx_of {p : Program} {l : Launch} {e : Env} {R : Room} {s : State} {m : MethodId} {args : Array Value} {below : List Frame} {meth : Method} {c : Code} {H : Heap} {locs : List Loc} {cells slots mc ms : Nat} {g : JFrame} {rest : List Value} {Qa : State → Outcome → State → Prop} {XC : String → State → State → Prop} {free : Addr → Prop} (h : va_Run p l e R s m args below meth c H locs cells slots mc ms g rest Qa free) : vx_Run p l e R s m args below meth c H locs cells slots mc ms g rest Qa XC free := fun T hT Y => Or.inl (h T hT Y)
section
variable {X : mi_X} {k : Nat} {Ge : mi_G} {Q Q' : mi_R → mi_G → mi_M → Prop} {pc nx aux : Nat} {ls : mi_L} {st st' : mi_S} {G : mi_G} {μ : mi_M} {u b : mi_U} {as : List mi_V}
theorem mi_blind {base : Nat} {D : va_G} {ca : Nat → ClassId} {sa ad : Nat → Nat} : FrameBlind (mi_Pc X base D ca sa ad G μ as) := fun a U g mk h => by
  obtain ⟨h1, h2, h3, h4⟩ := h
  exact ⟨h1, h2.go (U := U.calling g mk a) (State.WarmedH.refl U) (Nat.le_refl _) (fun _ _ _ => rfl), h3, h4⟩
/-- what a call's end is for the caller, whatever the kind of call -/
theorem mi_after {base : Nat} {D : va_G} {ca : Nat → ClassId} {sa adE ad : Nat → Nat} {p : Program} {l : Launch} {e : Env} {R : Room} {s : State} {m : MethodId} {args : Array Value} {below : List Frame} {meth : Method} {c : Code} {la : Array Slot} {H : Heap} {locs : List Loc} {cells slots k' : Nat} {a : Array Value} (h262 : k < 262) (hnx : nx = pc + 3)
    (hA : mi_AF X base D ca sa k p l R s m meth c) (hS : mi_SF base D ca sa adE k Ge ls st G μ u R s ad la H locs cells slots) (hb : b.1 ≤ u.1 ∧ b.2 ≤ u.2) (hct : (mi_hd k).2.2.2.1 = false → (mi_hd k').2.2.2.1 = false) (hst : ∀ v ∈ st', v ∈ st)
    (hr : vx_Run p l e R s m args below meth c H locs cells slots b.1 b.2 (F0 m pc la (st.map (mi_c ad))) (st'.map (mi_c ad)) (mi_Qc base D ca sa ad k' G Q' a) (mi_XC base D ca sa ad k' G Q') (mi_A base))
    (hret : ∀ v G' μ', Q' (.inl v) G' μ' → mi_ok X k Ge Q nx ls (v.toList ++ st') G' μ' (u.1 - b.1, u.2 - b.2))
    (hthr : ∀ G' μ', Q' (.inr ()) G' μ' → match mi_ex k pc with
      | none => Q (.inr ()) (bif (mi_hd k).2.2.2.1 then G' else Ge) μ'
      | some h => mi_ok X k Ge Q h.1 (mi_lset ls h.2 none) [] G' μ' (u.1 - b.1, u.2 - b.2)) :
    W p l e R s m args below meth c H locs cells slots (vx_MQ below (mi_Qc base D ca sa adE k Ge Q) (mi_XC base D ca sa adE k Ge Q) args s R.cells R.slots (mi_A base)) (F0 m pc la (st.map (mi_c ad))) := by
  subst hnx
  have hs5 := hS.2.2.2.2.1
  refine mi_run hr ?_ ?_
  · intro v t st₀ L h0 hq hL
    obtain ⟨⟨v', G', μ', ad', e1, hQ, hw, hvo, hG⟩, hF⟩ := hq
    obtain ⟨f1, f2⟩ := mi_SF_ret (st2 := v'.toList ++ st') hS hw hF h0 hL hb (fun h => hG (hct h)) (fun x hx => by
      rcases List.mem_append.mp hx with hx | hx
      · cases v' with
        | none => exact absurd hx List.not_mem_nil
        | some y => simp only [Option.toList_some, List.mem_singleton] at hx; subst hx; exact hvo _ rfl
      · have h1 := hs5 x (hst x hx)
        exact fun r e => (h1 r e).imp (fun q => Nat.lt_of_lt_of_le q hw.2.2.2.2.1) id)
    have := hret v' G' μ' hQ base D ca sa adE p l e R s m args below meth c hA ad' la t.heap (locs ++ L) (cells + b.1) (slots + b.2) f1
    have ev : v = v'.map (mi_c ad') := by injection e1
    have es : st'.map (mi_c ad') = st'.map (mi_c ad) := List.map_congr_left (fun x hx => (f2 x (hs5 x (hst x hx))).1)
    subst ev
    rw [List.map_append, es] at this
    cases v' <;> exact this
  · intro q E ce t st₀ L h0 hx hL hce hv hcl
    obtain ⟨rfl, ⟨G', μ', ad', hQ, hw, hG⟩, hF⟩ := hx
    obtain ⟨f1, f2⟩ := mi_SF_ret (st2 := []) hS hw hF h0 hL hb (fun h => hG (hct h)) (fun x hx => absurd hx List.not_mem_nil)
    have hA' := hA
    obtain ⟨hx, hbb, hml, hre, hown, hlk, hin, hex, hsT, hfr, hlo, hE⟩ := hA'
    obtain ⟨s1, s2, s3, s4, s5, s6, s7, s8, s9, s10⟩ := f1
    have ht := hthr G' μ' hQ
    rcases mi_hxA k h262 with ⟨hh, hn⟩ | ⟨b', t', o', x', hh, hn, hd', hlt, hon, -⟩
    · rw [hn] at ht
      refine vx_out (by rw [hex, hh]; intro x hx; exact absurd hx List.not_mem_nil) hlk hce hv hcl (fun t2 ht2 _ => ⟨rfl, ⟨_, μ', ad', ht, by rw [ht2]; exact mi_wl_ret s6 s8, fun h => by rw [h]; rfl⟩, s7.F ht2⟩) s7.2.2 (Nat.le_trans (Nat.le_add_right _ _) s9) (Nat.le_trans (Nat.le_add_right _ _) s10)
    · rw [hn] at ht
      cases hc : (Nat.ble 0 pc && Nat.blt pc b') with
      | false =>
        rw [hc] at ht
        have hge : ¬ pc < b' := fun h => by
          have : (Nat.ble 0 pc && Nat.blt pc b') = true := by simp only [Bool.and_eq_true]; exact ⟨rfl, Nat.ble_eq_true_of_le h⟩
          rw [this] at hc; cases hc
        refine vx_out (by
          rw [hex, hh]
          intro x hx
          have : x = ⟨0, b', t', 13⟩ := by simpa [tableOf] using hx
          subst this
          show (decide (0 ≤ pc) && decide (pc < b')) = false
          simp [hge]) hlk hce hv hcl (fun t2 ht2 _ => ⟨rfl, ⟨_, μ', ad', ht, by rw [ht2]; exact mi_wl_ret s6 s8, fun h => by rw [h]; rfl⟩, s7.F ht2⟩) s7.2.2 (Nat.le_trans (Nat.le_add_right _ _) s9) (Nat.le_trans (Nat.le_add_right _ _) s10)
      | true =>
        rw [hc] at ht
        have hlt2 : pc < b' := by
          simp only [Bool.and_eq_true] at hc
          exact mi_blt hc.2
        have hRL : mi_rs (mi_on k) = RL := by rw [hon]; rfl
        refine vx_catch (own := mi_rs (mi_on k)) (name := "java/util/NoSuchElementException") hown [] ⟨0, b', t', 13⟩ [] (by rw [hex, hh]; rfl) (fun z hz => absurd hz List.not_mem_nil) (by show (decide (0 ≤ pc) && decide (pc < b')) = true; simp [hlt2]) (show (13 : Nat) ≠ 0 by decide) (by rw [hRL]; exact hE.w mi_wEL rfl) (hE.w mi_wEC rfl) hce hv hcl ?_
        refine lv_astore hx hbb hd' (lv := mi_ent ad' ls) ⟨s2, s3, fun q hq => by obtain ⟨v, h1, h2⟩ := mi_ent_mem.mp hq; rw [h2]; exact (s4 _ _ h1).1⟩ hlt rfl ?_
        intro la' hla
        exact ht base D ca sa adE p l e R s m args below meth c hA ad' la' t.heap (locs ++ L) (cells + b.1) (slots + b.2) ⟨by rw [mi_lset_len]; exact s1, hla.1, hla.2.1, mi_loc_set (P := fun i v => la[i]? = some (.val (mi_c ad' v))) s4 (fun v hv => by cases hv) hla, s5, s6, s7, s8, s9, s10⟩
end
