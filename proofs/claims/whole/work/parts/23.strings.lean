/-! String.length and charAt of our texts, by the JDK's own code -/
set_option maxRecDepth 100000 in
theorem mj_clen : Cond.code yJ0_length_8abf5 cJ0_length_8abf5 1 (some .int) ∈ lw_tbl := List.mem_of_getElem? (i := 518) rfl
set_option maxRecDepth 100000 in
theorem mj_ccod : Cond.code yJ0_coder_7d493 cJ0_coder_7d493 1 (some .byte) ∈ lw_tbl := List.mem_of_getElem? (i := 522) rfl
set_option maxRecDepth 100000 in
theorem mj_clat : Cond.code yJ0_isLatin1_aae02 cJ0_isLatin1_aae02 1 (some .boolean) ∈ lw_tbl := List.mem_of_getElem? (i := 532) rfl
set_option maxRecDepth 100000 in
theorem mj_cchr : Cond.code yJ0_charAt_5068e cJ0_charAt_5068e 2 (some .char) ∈ lw_tbl := List.mem_of_getElem? (i := 528) rfl
set_option maxRecDepth 100000 in
theorem mj_cl1c : Cond.code yJ1_charAt_3b067 cJ1_charAt_3b067 2 (some .char) ∈ lw_tbl := List.mem_of_getElem? (i := 535) rfl
set_option maxRecDepth 100000 in
theorem mj_ccki : Cond.code yJ0_checkIndex_df160 cJ0_checkIndex_df160 2 none ∈ lw_tbl := List.mem_of_getElem? (i := 538) rfl
set_option maxRecDepth 100000 in
theorem mj_cpck : Cond.code yJ3_checkIndex_8e157 cJ3_checkIndex_8e157 3 (some .int) ∈ lw_tbl := List.mem_of_getElem? (i := 543) rfl
set_option maxRecDepth 100000 in
theorem mj_l1 : Cond.methodLink "java/lang/String" 335 yJ0_coder_7d493 ∈ lw_tbl := List.mem_of_getElem? (i := 519) (by decide +kernel)
set_option maxRecDepth 100000 in
theorem mj_l2 : Cond.methodLink "java/lang/String" 492 yJ0_isLatin1_aae02 ∈ lw_tbl := List.mem_of_getElem? (i := 529) (by decide +kernel)
set_option maxRecDepth 100000 in
theorem mj_l3 : Cond.methodLink "java/lang/String" 495 yJ1_charAt_3b067 ∈ lw_tbl := List.mem_of_getElem? (i := 533) (by decide +kernel)
set_option maxRecDepth 100000 in
theorem mj_l4 : Cond.methodLink "java/lang/StringLatin1" 9 yJ0_checkIndex_df160 ∈ lw_tbl := List.mem_of_getElem? (i := 536) (by decide +kernel)
set_option maxRecDepth 100000 in
theorem mj_l5 : Cond.methodLink "java/lang/String" 1059 yJ3_checkIndex_8e157 ∈ lw_tbl := List.mem_of_getElem? (i := 541) (by decide +kernel)
set_option maxRecDepth 100000 in
theorem mj_ilen : Cond.instanceMethod yJ0_length_8abf5 ∈ lw_tbl := List.mem_of_getElem? (i := 516) (by decide +kernel)
set_option maxRecDepth 100000 in
theorem mj_slen : Cond.selects "java/lang/String" yJ0_length_8abf5 yJ0_length_8abf5 ∈ lw_tbl := List.mem_of_getElem? (i := 517) (by decide +kernel)
set_option maxRecDepth 100000 in
theorem mj_icod : Cond.instanceMethod yJ0_coder_7d493 ∈ lw_tbl := List.mem_of_getElem? (i := 520) (by decide +kernel)
set_option maxRecDepth 100000 in
theorem mj_scod : Cond.selects "java/lang/String" yJ0_coder_7d493 yJ0_coder_7d493 ∈ lw_tbl := List.mem_of_getElem? (i := 521) (by decide +kernel)
set_option maxRecDepth 100000 in
theorem mj_ilat : Cond.instanceMethod yJ0_isLatin1_aae02 ∈ lw_tbl := List.mem_of_getElem? (i := 530) (by decide +kernel)
set_option maxRecDepth 100000 in
theorem mj_slat : Cond.selects "java/lang/String" yJ0_isLatin1_aae02 yJ0_isLatin1_aae02 ∈ lw_tbl := List.mem_of_getElem? (i := 531) (by decide +kernel)
set_option maxRecDepth 100000 in
theorem mj_ichr : Cond.instanceMethod yJ0_charAt_5068e ∈ lw_tbl := List.mem_of_getElem? (i := 526) (by decide +kernel)
set_option maxRecDepth 100000 in
theorem mj_schr : Cond.selects "java/lang/String" yJ0_charAt_5068e yJ0_charAt_5068e ∈ lw_tbl := List.mem_of_getElem? (i := 527) (by decide +kernel)
set_option maxRecDepth 100000 in
theorem mj_tl1c : Cond.static yJ1_charAt_3b067 ∈ lw_tbl := List.mem_of_getElem? (i := 534) (by decide +kernel)
set_option maxRecDepth 100000 in
theorem mj_tcki : Cond.static yJ0_checkIndex_df160 ∈ lw_tbl := List.mem_of_getElem? (i := 537) (by decide +kernel)
set_option maxRecDepth 100000 in
theorem mj_tpck : Cond.static yJ3_checkIndex_8e157 ∈ lw_tbl := List.mem_of_getElem? (i := 542) (by decide +kernel)
set_option maxRecDepth 100000 in
theorem mj_z0 : Cond.initialized "java/lang/String" ∈ lw_tbl := List.mem_of_getElem? (i := 112) (by decide +kernel)
set_option maxRecDepth 100000 in
theorem mj_z1 : Cond.initialized "java/lang/StringLatin1" ∈ lw_tbl := List.mem_of_getElem? (i := 113) (by decide +kernel)
set_option maxRecDepth 100000 in
theorem mj_z2 : Cond.initialized "jdk/internal/util/Preconditions" ∈ lw_tbl := List.mem_of_getElem? (i := 114) (by decide +kernel)
set_option maxRecDepth 100000 in
theorem mj_f38 : Cond.fieldLink "java/lang/String" 38 "java/lang/String" "COMPACT_STRINGS" "Z" ∈ lw_tbl := List.mem_of_getElem? (i := 523) (by decide +kernel)
set_option maxRecDepth 100000 in
theorem mj_f9 : Cond.fieldLink "java/lang/String" 9 "java/lang/String" "value" "[B" ∈ lw_tbl := List.mem_of_getElem? (i := 1711) (by decide +kernel)
set_option maxRecDepth 100000 in
theorem mj_f15 : Cond.fieldLink "java/lang/String" 15 "java/lang/String" "coder" "B" ∈ lw_tbl := List.mem_of_getElem? (i := 1712) (by decide +kernel)
set_option maxRecDepth 100000 in
theorem mj_f1053 : Cond.fieldLink "java/lang/String" 1053 "jdk/internal/util/Preconditions" "SIOOBE_FORMATTER" "Ljava/util/function/BiFunction;" ∈ lw_tbl := List.mem_of_getElem? (i := 539) (by decide +kernel)
theorem mj_dlen_0 : decode cJ0_length_8abf5 0 = .ok (.aload_n 0, 1) := by decide +kernel
theorem mj_dlen_1 : decode cJ0_length_8abf5 1 = .ok (.getfield 9, 3) := by decide +kernel
theorem mj_dlen_4 : decode cJ0_length_8abf5 4 = .ok (.arraylength, 1) := by decide +kernel
theorem mj_dlen_5 : decode cJ0_length_8abf5 5 = .ok (.aload_n 0, 1) := by decide +kernel
theorem mj_dlen_6 : decode cJ0_length_8abf5 6 = .ok (.invokevirtual 335, 3) := by decide +kernel
theorem mj_dlen_9 : decode cJ0_length_8abf5 9 = .ok (.ishr, 1) := by decide +kernel
theorem mj_dlen_10 : decode cJ0_length_8abf5 10 = .ok (.ireturn, 1) := by decide +kernel
theorem mj_dcod_0 : decode cJ0_coder_7d493 0 = .ok (.getstatic 38, 3) := by decide +kernel
theorem mj_dcod_3 : decode cJ0_coder_7d493 3 = .ok (.ifCond .eq 10, 3) := by decide +kernel
theorem mj_dcod_6 : decode cJ0_coder_7d493 6 = .ok (.aload_n 0, 1) := by decide +kernel
theorem mj_dcod_7 : decode cJ0_coder_7d493 7 = .ok (.getfield 15, 3) := by decide +kernel
theorem mj_dcod_10 : decode cJ0_coder_7d493 10 = .ok (.goto 4, 3) := by decide +kernel
theorem mj_dcod_13 : decode cJ0_coder_7d493 13 = .ok (.iconst 1, 1) := by decide +kernel
theorem mj_dcod_14 : decode cJ0_coder_7d493 14 = .ok (.ireturn, 1) := by decide +kernel
theorem mj_dlat_0 : decode cJ0_isLatin1_aae02 0 = .ok (.getstatic 38, 3) := by decide +kernel
theorem mj_dlat_3 : decode cJ0_isLatin1_aae02 3 = .ok (.ifCond .eq 14, 3) := by decide +kernel
theorem mj_dlat_6 : decode cJ0_isLatin1_aae02 6 = .ok (.aload_n 0, 1) := by decide +kernel
theorem mj_dlat_7 : decode cJ0_isLatin1_aae02 7 = .ok (.getfield 15, 3) := by decide +kernel
theorem mj_dlat_10 : decode cJ0_isLatin1_aae02 10 = .ok (.ifCond .ne 7, 3) := by decide +kernel
theorem mj_dlat_13 : decode cJ0_isLatin1_aae02 13 = .ok (.iconst 1, 1) := by decide +kernel
theorem mj_dlat_14 : decode cJ0_isLatin1_aae02 14 = .ok (.goto 4, 3) := by decide +kernel
theorem mj_dlat_17 : decode cJ0_isLatin1_aae02 17 = .ok (.iconst 0, 1) := by decide +kernel
theorem mj_dlat_18 : decode cJ0_isLatin1_aae02 18 = .ok (.ireturn, 1) := by decide +kernel
theorem mj_dchr_0 : decode cJ0_charAt_5068e 0 = .ok (.aload_n 0, 1) := by decide +kernel
theorem mj_dchr_1 : decode cJ0_charAt_5068e 1 = .ok (.invokevirtual 492, 3) := by decide +kernel
theorem mj_dchr_4 : decode cJ0_charAt_5068e 4 = .ok (.ifCond .eq 12, 3) := by decide +kernel
theorem mj_dchr_7 : decode cJ0_charAt_5068e 7 = .ok (.aload_n 0, 1) := by decide +kernel
theorem mj_dchr_8 : decode cJ0_charAt_5068e 8 = .ok (.getfield 9, 3) := by decide +kernel
theorem mj_dchr_11 : decode cJ0_charAt_5068e 11 = .ok (.iload_n 1, 1) := by decide +kernel
theorem mj_dchr_12 : decode cJ0_charAt_5068e 12 = .ok (.invokestatic 495, 3) := by decide +kernel
theorem mj_dchr_15 : decode cJ0_charAt_5068e 15 = .ok (.ireturn, 1) := by decide +kernel
theorem mj_dchr_16 : decode cJ0_charAt_5068e 16 = .ok (.aload_n 0, 1) := by decide +kernel
theorem mj_dchr_17 : decode cJ0_charAt_5068e 17 = .ok (.getfield 9, 3) := by decide +kernel
theorem mj_dchr_20 : decode cJ0_charAt_5068e 20 = .ok (.iload_n 1, 1) := by decide +kernel
theorem mj_dchr_21 : decode cJ0_charAt_5068e 21 = .ok (.invokestatic 498, 3) := by decide +kernel
theorem mj_dchr_24 : decode cJ0_charAt_5068e 24 = .ok (.ireturn, 1) := by decide +kernel
theorem mj_dl1c_0 : decode cJ1_charAt_3b067 0 = .ok (.iload_n 1, 1) := by decide +kernel
theorem mj_dl1c_1 : decode cJ1_charAt_3b067 1 = .ok (.aload_n 0, 1) := by decide +kernel
theorem mj_dl1c_2 : decode cJ1_charAt_3b067 2 = .ok (.arraylength, 1) := by decide +kernel
theorem mj_dl1c_3 : decode cJ1_charAt_3b067 3 = .ok (.invokestatic 9, 3) := by decide +kernel
theorem mj_dl1c_6 : decode cJ1_charAt_3b067 6 = .ok (.aload_n 0, 1) := by decide +kernel
theorem mj_dl1c_7 : decode cJ1_charAt_3b067 7 = .ok (.iload_n 1, 1) := by decide +kernel
theorem mj_dl1c_8 : decode cJ1_charAt_3b067 8 = .ok (.baload, 1) := by decide +kernel
theorem mj_dl1c_9 : decode cJ1_charAt_3b067 9 = .ok (.sipush 255, 3) := by decide +kernel
theorem mj_dl1c_12 : decode cJ1_charAt_3b067 12 = .ok (.iand, 1) := by decide +kernel
theorem mj_dl1c_13 : decode cJ1_charAt_3b067 13 = .ok (.i2c, 1) := by decide +kernel
theorem mj_dl1c_14 : decode cJ1_charAt_3b067 14 = .ok (.ireturn, 1) := by decide +kernel
theorem mj_dcki_0 : decode cJ0_checkIndex_df160 0 = .ok (.iload_n 0, 1) := by decide +kernel
theorem mj_dcki_1 : decode cJ0_checkIndex_df160 1 = .ok (.iload_n 1, 1) := by decide +kernel
theorem mj_dcki_2 : decode cJ0_checkIndex_df160 2 = .ok (.getstatic 1053, 3) := by decide +kernel
theorem mj_dcki_5 : decode cJ0_checkIndex_df160 5 = .ok (.invokestatic 1059, 3) := by decide +kernel
theorem mj_dcki_8 : decode cJ0_checkIndex_df160 8 = .ok (.pop, 1) := by decide +kernel
theorem mj_dcki_9 : decode cJ0_checkIndex_df160 9 = .ok (.return_, 1) := by decide +kernel
theorem mj_dpck_0 : decode cJ3_checkIndex_8e157 0 = .ok (.iload_n 0, 1) := by decide +kernel
theorem mj_dpck_1 : decode cJ3_checkIndex_8e157 1 = .ok (.ifCond .lt 8, 3) := by decide +kernel
theorem mj_dpck_4 : decode cJ3_checkIndex_8e157 4 = .ok (.iload_n 0, 1) := by decide +kernel
theorem mj_dpck_5 : decode cJ3_checkIndex_8e157 5 = .ok (.iload_n 1, 1) := by decide +kernel
theorem mj_dpck_6 : decode cJ3_checkIndex_8e157 6 = .ok (.if_icmp .lt 10, 3) := by decide +kernel
theorem mj_dpck_9 : decode cJ3_checkIndex_8e157 9 = .ok (.aload_n 2, 1) := by decide +kernel
theorem mj_dpck_10 : decode cJ3_checkIndex_8e157 10 = .ok (.iload_n 0, 1) := by decide +kernel
theorem mj_dpck_11 : decode cJ3_checkIndex_8e157 11 = .ok (.iload_n 1, 1) := by decide +kernel
theorem mj_dpck_12 : decode cJ3_checkIndex_8e157 12 = .ok (.invokestatic 95, 3) := by decide +kernel
theorem mj_dpck_15 : decode cJ3_checkIndex_8e157 15 = .ok (.athrow, 1) := by decide +kernel
theorem mj_dpck_16 : decode cJ3_checkIndex_8e157 16 = .ok (.iload_n 0, 1) := by decide +kernel
theorem mj_dpck_17 : decode cJ3_checkIndex_8e157 17 = .ok (.ireturn, 1) := by decide +kernel
noncomputable def mj_P (X : mi_X) (base : Nat) (D : va_G) (ca : Nat → ClassId) (sa : Nat → Nat) (av : List Value) : Array Value → State → Prop := fun a U => a = av.toArray ∧ mi_env X base D ca sa U U.heap
def mj_V : Array Value → State → Outcome → State → Prop := fun _ st o t => o = .returned none ∧ t.heap = st.heap
theorem mj_blind {X : mi_X} {base : Nat} {D : va_G} {ca : Nat → ClassId} {sa : Nat → Nat} {av : List Value} : FrameBlind (mj_P X base D ca sa av) := fun a U g mk h => ⟨h.1, h.2.go (U := U.calling g mk a) (State.WarmedH.refl U) (Nat.le_refl _) (fun _ _ _ => rfl)⟩
theorem mj_pre {X : mi_X} {base : Nat} {D : va_G} {ca : Nat → ClassId} {sa : Nat → Nat} {av : List Value} {s : State} {H : Heap} {locs : List Loc} (hE : mi_env X base D ca sa s s.heap) (hS : va_S (mi_A base) s.heap H locs) : ∀ U : State, U.heap = H → s.WarmedH U.vm → mj_P X base D ca sa av av.toArray U := fun U hU hW => by subst hU; exact ⟨rfl, hE.go hW hS.1 hS.2.1⟩
theorem mj_cb {X : mi_X} {base : Nat} {D : va_G} {ca : Nat → ClassId} {sa : Nat → Nat} {R : Room} {s : State} {args : Array Value} {own : String} {index n : Nat} {y : MethodName} {cc : ByteArray} {maxL : Nat} {ret : Option FieldType} {rm : Room} (hE : mi_env X base D ca sa s s.heap) (hc : Cond.code y cc maxL ret ∈ lw_tbl) (hl : Cond.methodLink own index y ∈ lw_tbl) (hi : Cond.initialized y.cls ∈ lw_tbl) (h0 : rm.cells = 0) (h1 : rm.slots = 0) (hf : rm.frames + 1 ≤ R.frames) (ho : 8 + (maxL + 11) + rm.locals ≤ R.locals)
    (hy : y.cls ≠ "java/lang/invoke/MethodHandle" ∧ y.cls ≠ "java/lang/invoke/VarHandle") (hn : (parseMethodDescriptor y.desc).map (fun d => d.parameters.length) = some n) : CallB R s args own index y cc maxL ret [Cond.code y cc maxL ret] rm 0 0 n := by
  refine ⟨h0, h1, hf, ho, fun w hw a' U hW => ?_, List.mem_cons_self, hE.w hc rfl, hE.w hi rfl, hy, fun sig h => ?_, hE.w hl rfl⟩
  · have : w = Cond.code y cc maxL ret := by simpa using hw
    subst this
    exact mi_gw_at hW rfl (hE.w (a := #[]) hc rfl)
  · rw [h] at hn
    exact (Option.some.inj hn).symm
section
variable {X : mi_X} {base : Nat} {D : va_G} {ca : Nat → ClassId} {sa : Nat → Nat}
set_option maxRecDepth 20000 in
theorem mj_coder (l : Launch) (i : Nat) (hi : i < 9) : Met l yJ0_coder_7d493 [Cond.code yJ0_coder_7d493 cJ0_coder_7d493 1 (some .byte)] ({ frames := 0, cells := 0, slots := 0, locals := 0 }) (mj_P X base D ca sa [.ref (sa (1020 + i))]) (QcRead 0) 0 0 (fun _ => False) := by
  refine Met.ofW (cc := cJ0_coder_7d493) (maxL := 1) (ret := some .byte) (by decide) rfl ?_
  intro p e s m args below meth c s₁ B hml hv
  obtain ⟨rfl, hE⟩ := hv
  have hx := B.exec
  have hb := B.bytes
  have hr := B.returns
  have hlk := B.notSynchronized
  have hown : s.vm.findClass "java/lang/String" = some m.cls := findClass_of_methodNamed B.named
  obtain ⟨adV, hV⟩ := hE.2.2.2.2.1.2.1
  have hS : va_S (mi_A base) s.heap s.heap [] := va_S.rf
  rw [entry_eq m _ (by intro v hv; simp at hv; subst hv; rfl)]
  refine va_gets hx hb hE.2.2.2.2.1.2.2.1 hS hown (hE.w mj_f38 rfl) (fun _ h => h) mj_dcod_0 ?_
  refine lv_if_eq (tgt := 13) hx hb mj_dcod_3 rfl (fun h => absurd h (by decide)) (fun _ => ?_)
  refine lv_aload_n hx hb mj_dcod_6 rfl rfl ?_
  refine vk_getf hx hb (hV.1 i hi).2.1 hS hown (hE.w mj_f15 rfl) (fun _ h => h) mj_dcod_7 ?_
  refine lv_goto (tgt := 14) hx hb mj_dcod_10 rfl ?_
  exact W.zret hx hb hr rfl (fun t ht _ => ⟨rfl, ht⟩) (fun q hq => absurd hq List.not_mem_nil) mj_dcod_14 hlk
set_option maxRecDepth 20000 in
theorem mj_lat (l : Launch) (i : Nat) (hi : i < 9) : Met l yJ0_isLatin1_aae02 [Cond.code yJ0_isLatin1_aae02 cJ0_isLatin1_aae02 1 (some .boolean)] ({ frames := 0, cells := 0, slots := 0, locals := 0 }) (mj_P X base D ca sa [.ref (sa (1020 + i))]) (QcRead 1) 0 0 (fun _ => False) := by
  refine Met.ofW (cc := cJ0_isLatin1_aae02) (maxL := 1) (ret := some .boolean) (by decide) rfl ?_
  intro p e s m args below meth c s₁ B hml hv
  obtain ⟨rfl, hE⟩ := hv
  have hx := B.exec
  have hb := B.bytes
  have hr := B.returns
  have hlk := B.notSynchronized
  have hown : s.vm.findClass "java/lang/String" = some m.cls := findClass_of_methodNamed B.named
  obtain ⟨adV, hV⟩ := hE.2.2.2.2.1.2.1
  have hS : va_S (mi_A base) s.heap s.heap [] := va_S.rf
  rw [entry_eq m _ (by intro v hv; simp at hv; subst hv; rfl)]
  refine va_gets hx hb hE.2.2.2.2.1.2.2.1 hS hown (hE.w mj_f38 rfl) (fun _ h => h) mj_dlat_0 ?_
  refine lv_if_eq (tgt := 17) hx hb mj_dlat_3 rfl (fun h => absurd h (by decide)) (fun _ => ?_)
  refine lv_aload_n hx hb mj_dlat_6 rfl rfl ?_
  refine vk_getf hx hb (hV.1 i hi).2.1 hS hown (hE.w mj_f15 rfl) (fun _ h => h) mj_dlat_7 ?_
  refine lv_if_ne (tgt := 17) hx hb mj_dlat_10 rfl (fun h => absurd rfl h) (fun _ => ?_)
  refine lv_iconst hx hb mj_dlat_13 rfl ?_
  refine lv_goto (tgt := 18) hx hb mj_dlat_14 rfl ?_
  exact W.zret hx hb hr rfl (fun t ht _ => ⟨rfl, ht⟩) (fun q hq => absurd hq List.not_mem_nil) mj_dlat_18 hlk
set_option maxRecDepth 20000 in
theorem mj_pck (l : Launch) (j n : Int32) (v : Value) (hv : v.category = 1) (h1 : ¬ j < 0) (h2 : j < n) : Met l yJ3_checkIndex_8e157 [Cond.code yJ3_checkIndex_8e157 cJ3_checkIndex_8e157 3 (some .int)] ({ frames := 0, cells := 0, slots := 0, locals := 0 }) (mj_P X base D ca sa [.int j, .int n, v]) (QcRead j) 0 0 (fun _ => False) := by
  refine Met.ofW (cc := cJ3_checkIndex_8e157) (maxL := 3) (ret := some .int) (by decide) rfl ?_
  intro p e s m args below meth c s₁ B hml hv'
  obtain ⟨rfl, hE⟩ := hv'
  have hx := B.exec
  have hb := B.bytes
  have hr := B.returns
  have hlk := B.notSynchronized
  rw [entry_eq m _ (by intro w hw; simp at hw; rcases hw with rfl | rfl | rfl; rfl; rfl; exact hv)]
  refine lv_iload_n hx hb mj_dpck_0 rfl rfl ?_
  refine lv_if_lt (tgt := 9) hx hb mj_dpck_1 rfl (fun h => absurd h h1) (fun _ => ?_)
  refine lv_iload_n hx hb mj_dpck_4 rfl rfl ?_
  refine lv_iload_n hx hb mj_dpck_5 rfl rfl ?_
  refine lv_icmp_lt (tgt := 16) hx hb mj_dpck_6 rfl (fun _ => ?_) (fun h => absurd h2 h)
  refine lv_iload_n hx hb mj_dpck_16 rfl rfl ?_
  exact W.iret hx hb hr (fun t ht _ => ⟨rfl, ht⟩) (fun q hq => absurd hq List.not_mem_nil) mj_dpck_17 hlk
theorem mj_callV {p : Program} {l : Launch} {e : Env} {R : Room} {s : State} {m : MethodId} {args a : Array Value} {below : List Frame} {meth : Method} {c : Code} {H : Heap} {locs : List Loc} {cells slots : Nat} {Q : State → Prop} {g : JFrame} {rest : List Value} (hr : CallRun p l e R s m args below meth c H locs cells slots 0 0 g rest (mj_V a) (fun _ => False)) (kk : W p l e R s m args below meth c H locs cells slots Q { g with pc := g.pc + 3, stack := rest }) : W p l e R s m args below meth c H locs cells slots Q g := by
  intro T hT Y
  obtain ⟨v, st₀, t, T', L, h0, Y', hL, e1, ⟨hv, hh⟩, st⟩ := hr T hT Y
  cases hv
  obtain ⟨t2, a1, b1⟩ := kk T' (by rw [e1, hh, h0]) (Stand.forget Y' (fun q h => (hL q h).elim))
  exact ⟨t2, st t2 a1, b1⟩
set_option maxRecDepth 20000 in
theorem mj_cki (l : Launch) (j n : Int32) (h1 : ¬ j < 0) (h2 : j < n) : Met l yJ0_checkIndex_df160 [Cond.code yJ0_checkIndex_df160 cJ0_checkIndex_df160 2 none] ({ frames := 1, cells := 0, slots := 0, locals := 22 }) (mj_P X base D ca sa [.int j, .int n]) mj_V 0 0 (fun _ => False) := by
  refine Met.ofW (cc := cJ0_checkIndex_df160) (maxL := 2) (ret := none) (by decide) rfl ?_
  intro p e s m args below meth c s₁ B hml hv'
  obtain ⟨rfl, hE⟩ := hv'
  have hx := B.exec
  have hb := B.bytes
  have hr := B.returns
  have hlk := B.notSynchronized
  have hown : s.vm.findClass "java/lang/String" = some m.cls := findClass_of_methodNamed B.named
  have hS : va_S (mi_A base) s.heap s.heap [] := va_S.rf
  rw [entry_eq m _ (by intro w hw; simp at hw; rcases hw with rfl | rfl <;> rfl)]
  refine lv_iload_n hx hb mj_dcki_0 rfl rfl ?_
  refine lv_iload_n hx hb mj_dcki_1 rfl rfl ?_
  have key : ∀ v : Value, v.category = 1 → va_Z "jdk/internal/util/Preconditions" "SIOOBE_FORMATTER" "Ljava/util/function/BiFunction;" v (mi_A base) s s.heap → W p l e (headSpec [Cond.code yJ0_checkIndex_df160 cJ0_checkIndex_df160 2 none] { frames := 1, cells := 0, slots := 0, locals := 22 }).room s m [Value.int j, Value.int n].toArray below meth c s.heap [] 0 0 (MQ below mj_V [Value.int j, Value.int n].toArray s 0 0 (fun _ => False)) (F0 m 2 (([Value.int j, Value.int n].map Slot.val ++ List.replicate (2 - [Value.int j, Value.int n].length) Slot.unset).toArray) [.int n, .int j]) := by
    intro v hv hz
    refine va_gets (ref := "jdk/internal/util/Preconditions") hx hb hz hS hown (hE.w mj_f1053 rfl) (fun _ h => h) mj_dcki_2 ?_
    refine W.callR (W.runS (Ts := mi_gl) (As := [.int j, .int n, v]) (rest := []) (n := 3) ⟨hx, hb, hml, hown, hE.gl⟩ (mj_pck (X := X) (base := base) (D := D) (ca := ca) (sa := sa) l j n v hv h1 h2) ⟨mj_cb hE mj_cpck mj_l5 mj_z2 rfl rfl (Nat.le_refl _) (Nat.le_refl _) (by decide) (by decide +kernel), hE.w mj_tpck rfl⟩ ⟨mj_blind, mj_pre hE hS⟩ rfl rfl rfl rfl (lv_room (by decide)) mj_dcki_5 ⟨Nat.le_refl _, Nat.le_refl _⟩) ?_
    refine W.eq (g2 := F0 m 8 _ [.int j]) rfl ?_
    refine lv_pop hx hb mj_dcki_8 rfl ?_
    exact W.vret hx hb hr (fun t ht _ => ⟨rfl, ht⟩) (fun q hq => absurd hq List.not_mem_nil) mj_dcki_9 hlk
  rcases hE.2.2.2.2.1.2.2.2 with hz | ⟨t, hz⟩
  · exact key .null rfl hz
  · exact key (.ref t) rfl hz
noncomputable def mj_P2 (X : mi_X) (base : Nat) (D : va_G) (ca : Nat → ClassId) (sa : Nat → Nat) (q i : Nat) (j : Int32) : Array Value → State → Prop := fun a U => a = [Value.ref q, Value.int j].toArray ∧ mi_env X base D ca sa U U.heap ∧ va_T .byte q (mi_len.getD i 0) (fun j => .int ((mi_byt.getD i []).getD j 0)) (mi_A base) U U.heap
theorem mj_blind2 {q i : Nat} {j : Int32} : FrameBlind (mj_P2 X base D ca sa q i j) := fun a U g mk h => ⟨h.1, h.2.1.go (U := U.calling g mk a) (State.WarmedH.refl U) (Nat.le_refl _) (fun _ _ _ => rfl), h.2.2.moved (U := U.calling g mk a) (State.WarmedH.refl U).alike⟩
set_option maxRecDepth 20000 in
theorem mj_l1c (l : Launch) (q i j : Nat) (hl : mi_len.getD i 0 < 2147483648) (hj : j < mi_len.getD i 0) : Met l yJ1_charAt_3b067 [Cond.code yJ1_charAt_3b067 cJ1_charAt_3b067 2 (some .char)] ({ frames := 2, cells := 0, slots := 0, locals := 43 }) (mj_P2 X base D ca sa q i (nI j)) (QcRead ((mi_byt.getD i []).getD j 0 &&& 255)) 0 0 (fun _ => False) := by
  refine Met.ofW (cc := cJ1_charAt_3b067) (maxL := 2) (ret := some .char) (by decide) rfl ?_
  intro p e s m args below meth c s₁ B hml hv'
  obtain ⟨rfl, hE, hT⟩ := hv'
  have hx := B.exec
  have hb := B.bytes
  have hr := B.returns
  have hlk := B.notSynchronized
  have hown : s.vm.findClass "java/lang/StringLatin1" = some m.cls := findClass_of_methodNamed B.named
  have hS : va_S (mi_A base) s.heap s.heap [] := va_S.rf
  rw [entry_eq m _ (by intro w hw; simp at hw; rcases hw with rfl | rfl <;> rfl)]
  refine lv_iload_n hx hb mj_dl1c_0 rfl rfl ?_
  refine lv_aload_n hx hb mj_dl1c_1 rfl rfl ?_
  refine va_tlen (v := nI (mi_len.getD i 0)) hx hb hT hS rfl mj_dl1c_2 ?_
  refine mj_callV (W.runS (Ts := mi_gl) (As := [.int (nI j), .int (nI (mi_len.getD i 0))]) (rest := []) (n := 2) ⟨hx, hb, hml, hown, hE.gl⟩ (mj_cki (X := X) (base := base) (D := D) (ca := ca) (sa := sa) l (nI j) (nI (mi_len.getD i 0)) (nI_pos (by omega)) (nI_lt hj (by omega))) ⟨mj_cb hE mj_ccki mj_l4 mj_z0 rfl rfl (Nat.le_refl _) (Nat.le_refl _) (by decide) (by decide +kernel), hE.w mj_tcki rfl⟩ ⟨mj_blind, mj_pre hE hS⟩ rfl rfl rfl rfl (lv_room (by decide)) mj_dl1c_3 ⟨Nat.le_refl _, Nat.le_refl _⟩) ?_
  refine W.eq (g2 := F0 m 6 _ []) rfl ?_
  refine lv_aload_n hx hb mj_dl1c_6 rfl rfl ?_
  refine lv_iload_n hx hb mj_dl1c_7 rfl rfl ?_
  refine va_tb (v := .int ((mi_byt.getD i []).getD j 0)) hx hb hT hS (vp_in_nI hj (by omega)) (by rw [nI_clamp (by omega)]) mj_dl1c_8 ?_
  refine lv_sipush hx hb mj_dl1c_9 rfl ?_
  refine lv_iand hx hb mj_dl1c_12 ?_
  refine lv_i2c hx hb mj_dl1c_13 (sc_c2 _) ?_
  exact W.zret hx hb hr (sc_nar _) (fun t ht _ => ⟨rfl, ht⟩) (fun q hq => absurd hq List.not_mem_nil) mj_dl1c_14 hlk
set_option maxRecDepth 20000 in
theorem mj_length (l : Launch) (i : Nat) (hi : i < 9) : Met l yJ0_length_8abf5 [Cond.code yJ0_length_8abf5 cJ0_length_8abf5 1 (some .int)] ({ frames := 1, cells := 0, slots := 0, locals := 20 }) (mj_P X base D ca sa [.ref (sa (1020 + i))]) (QcRead (nI (mi_len.getD i 0))) 0 0 (fun _ => False) := by
  refine Met.ofW (cc := cJ0_length_8abf5) (maxL := 1) (ret := some .int) (by decide) rfl ?_
  intro p e s m args below meth c s₁ B hml hv
  obtain ⟨rfl, hE⟩ := hv
  have hx := B.exec
  have hb := B.bytes
  have hr := B.returns
  have hlk := B.notSynchronized
  have hown : s.vm.findClass "java/lang/String" = some m.cls := findClass_of_methodNamed B.named
  obtain ⟨adV, hV⟩ := hE.2.2.2.2.1.2.1
  have hS : va_S (mi_A base) s.heap s.heap [] := va_S.rf
  rw [entry_eq m _ (by intro v hv; simp at hv; subst hv; rfl)]
  refine lv_aload_n hx hb mj_dlen_0 rfl rfl ?_
  refine vk_getf hx hb (hV.1 i hi).2.2.1 hS hown (hE.w mj_f9 rfl) (fun _ h => h) mj_dlen_1 ?_
  refine va_tlen (v := nI (mi_len.getD i 0)) hx hb (hV.1 i hi).2.2.2 hS rfl mj_dlen_4 ?_
  refine lv_aload_n hx hb mj_dlen_5 rfl rfl ?_
  refine W.callR (W.runV (Ts := mi_gl) (C := "java/lang/String") (As := []) (rest := [.int (nI (mi_len.getD i 0))]) (n := 0) ⟨hx, hb, hml, hown, hE.gl⟩ (mj_coder (X := X) (base := base) (D := D) (ca := ca) (sa := sa) l i hi) ⟨mj_cb hE mj_ccod mj_l1 mj_z0 rfl rfl (Nat.le_refl _) (Nat.le_refl _) (by decide) (by decide +kernel), hE.w mj_icod rfl, hE.w mj_scod rfl⟩ ⟨mj_blind, vk_recv hV hi hS, mj_pre hE hS⟩ rfl rfl rfl rfl (lv_room (by simp [Value.category])) mj_dlen_6 ⟨Nat.le_refl _, Nat.le_refl _⟩) ?_
  refine W.eq (g2 := F0 m 9 _ [.int 0, .int (nI (mi_len.getD i 0))]) rfl ?_
  refine lv_ishr hx hb mj_dlen_9 ?_
  rw [sb_shr0]
  exact W.iret hx hb hr (fun t ht _ => ⟨rfl, ht⟩) (fun q hq => absurd hq List.not_mem_nil) mj_dlen_10 hlk
set_option maxRecDepth 20000 in
theorem mj_charAt (l : Launch) (i j : Nat) (hi : i < 9) (hl : mi_len.getD i 0 < 2147483648) (hj : j < mi_len.getD i 0) : Met l yJ0_charAt_5068e [Cond.code yJ0_charAt_5068e cJ0_charAt_5068e 2 (some .char)] ({ frames := 3, cells := 0, slots := 0, locals := 64 }) (mj_P X base D ca sa [.ref (sa (1020 + i)), .int (nI j)]) (QcRead ((mi_byt.getD i []).getD j 0 &&& 255)) 0 0 (fun _ => False) := by
  refine Met.ofW (cc := cJ0_charAt_5068e) (maxL := 2) (ret := some .char) (by decide) rfl ?_
  intro p e s m args below meth c s₁ B hml hv
  obtain ⟨rfl, hE⟩ := hv
  have hx := B.exec
  have hb := B.bytes
  have hr := B.returns
  have hlk := B.notSynchronized
  have hown : s.vm.findClass "java/lang/String" = some m.cls := findClass_of_methodNamed B.named
  obtain ⟨adV, hV⟩ := hE.2.2.2.2.1.2.1
  have hS : va_S (mi_A base) s.heap s.heap [] := va_S.rf
  rw [entry_eq m _ (by intro w hw; simp at hw; rcases hw with rfl | rfl <;> rfl)]
  refine lv_aload_n hx hb mj_dchr_0 rfl rfl ?_
  refine W.callR (W.runV (Ts := mi_gl) (C := "java/lang/String") (As := []) (rest := []) (n := 0) ⟨hx, hb, hml, hown, hE.gl⟩ (mj_lat (X := X) (base := base) (D := D) (ca := ca) (sa := sa) l i hi) ⟨mj_cb hE mj_clat mj_l2 mj_z0 rfl rfl (by decide) (by decide) (by decide) (by decide +kernel), hE.w mj_ilat rfl, hE.w mj_slat rfl⟩ ⟨mj_blind, vk_recv hV hi hS, mj_pre hE hS⟩ rfl rfl rfl rfl (lv_room (by decide)) mj_dchr_1 ⟨Nat.le_refl _, Nat.le_refl _⟩) ?_
  refine W.eq (g2 := F0 m 4 _ [.int 1]) rfl ?_
  refine lv_if_eq (tgt := 16) hx hb mj_dchr_4 rfl (fun h => absurd h (by decide)) (fun _ => ?_)
  refine lv_aload_n hx hb mj_dchr_7 rfl rfl ?_
  refine vk_getf hx hb (hV.1 i hi).2.2.1 hS hown (hE.w mj_f9 rfl) (fun _ h => h) mj_dchr_8 ?_
  refine lv_iload_n hx hb mj_dchr_11 rfl rfl ?_
  refine W.callR (W.runS (Ts := mi_gl) (As := [.ref (adV i), .int (nI j)]) (rest := []) (n := 2) ⟨hx, hb, hml, hown, hE.gl⟩ (mj_l1c (X := X) (base := base) (D := D) (ca := ca) (sa := sa) l (adV i) i j hl hj) ⟨mj_cb hE mj_cl1c mj_l3 mj_z1 rfl rfl (Nat.le_refl _) (Nat.le_refl _) (by decide) (by decide +kernel), hE.w mj_tl1c rfl⟩ ⟨mj_blind2, fun U hU hW => ⟨rfl, by rw [hU]; exact hE.go hW hS.1 hS.2.1, by rw [hU]; exact ((hV.1 i hi).2.2.2).moved hW.alike⟩⟩ rfl rfl rfl rfl (lv_room (by decide)) mj_dchr_12 ⟨Nat.le_refl _, Nat.le_refl _⟩) ?_
  refine W.eq (g2 := F0 m 15 _ [.int ((mi_byt.getD i []).getD j 0 &&& 255)]) rfl ?_
  exact W.zret hx hb hr (sc_nar _) (fun t ht _ => ⟨rfl, ht⟩) (fun q hq => absurd hq List.not_mem_nil) mj_dchr_15 hlk
end
theorem mj_len9 : ∀ i, i < 9 → mi_len.getD i 0 = (mi_sc.getD i []).length ∧ mi_len.getD i 0 < 2147483648 := by decide
theorem mj_chr9 : ∀ i, i < 9 → ∀ j, j < mi_len.getD i 0 → (mi_byt.getD i []).getD j 0 &&& 255 = Int32.ofInt ((mi_sc.getD i []).getD j 0) := by decide
theorem mj_rl {X : mi_X} {r : Nat} (h : 1020 ≤ r) : mi_rl X r = (mi_sc.getD (r - 1020) []).length := by
  have h1 : Nat.blt r 1010 = false := by
    cases hb : Nat.blt r 1010 with
    | false => rfl
    | true => have := mi_blt hb; omega
  simp only [mi_rl, h1, mi_beq_f (show r ≠ 1010 by omega), cond_false]
theorem mj_ro {X : mi_X} {r : Nat} (h : 1020 ≤ r) (j : Int) : mi_ro X r j = (mi_sc.getD (r - 1020) []).getD j.toNat 0 := by
  have h1 : Nat.blt r 1010 = false := by
    cases hb : Nat.blt r 1010 with
    | false => rfl
    | true => have := mi_blt hb; omega
  simp only [mi_ro, h1, mi_beq_f (show r ≠ 1010 by omega), cond_false]
section
variable {X : mi_X} {k : Nat} {Ge : mi_G} {Q : mi_R → mi_G → mi_M → Prop} {pc nx aux : Nat} {ls : mi_L} {st st' : mi_S} {G : mi_G} {μ : mi_M} {u : mi_U}
theorem mi_s_len (h262 : k < 262) {i : Nat} (hat : mi_at (mi_tb k) pc = some (.invokevirtual i, nx, 9997)) {r : Nat} (hwd : mi_wd st ≤ 8) (hr1 : 1020 ≤ r) (hr2 : r < 1029) (hk : mi_ok X k Ge Q nx ls (.inl (mi_rl X r : Int) :: st) G μ u) : mi_ok X k Ge Q pc ls (.inr (.inl (some r)) :: st) G μ u := by
  obtain ⟨hd, hnx, hc⟩ := mi_dec h262 hat 3 rfl (by decide)
  subst hnx
  simp only [mi_ck2, mi_beq_t, cond_true, Bool.and_eq_true, decide_eq_true_eq] at hc
  obtain ⟨⟨c1, c2⟩, c3⟩ := hc
  have c2 := mi_ble c2
  have c3 := mi_ble c3
  have hi : r - 1020 < 9 := by omega
  intro base D ca sa adE p l e R s m args below meth c hA ad la H locs cells slots hS
  have hA' := hA
  obtain ⟨hx, hbb, hml, hre, hown, hlk, hin, hex, hsT, hfr, hlo, hE⟩ := hA'
  obtain ⟨s1, s2, s3, s4, s5, s6, s7, s8, s9, s10⟩ := hS
  obtain ⟨adV, hV⟩ := hE.2.2.2.2.1.2.1
  have e9 : 1020 + (r - 1020) = r := by omega
  have er : ad r = sa (1020 + (r - 1020)) := by rw [e9]; exact s6.2.2.1 r (by omega)
  have hlink : Cond.methodLink (mi_rs (mi_on k)) i yJ0_length_8abf5 ∈ lw_tbl := mi_PL_ok _ c1
  show W p l e R s m args below meth c H locs cells slots _ (F0 m pc la (.ref (ad r) :: st.map (mi_c ad)))
  rw [er]
  refine W.callR (W.runV (Ts := mi_gl) (C := "java/lang/String") (As := []) (rest := st.map (mi_c ad)) (n := 0) ⟨hx, hbb, hml, hown, hE.gl⟩ (mj_length (X := X) (base := base) (D := D) (ca := ca) (sa := sa) l (r - 1020) hi) ⟨mj_cb hE mj_clen hlink mj_z0 rfl rfl (show 1 + 1 ≤ R.frames by omega) (show 8 + (1 + 11) + 20 ≤ R.locals by omega) (by decide) (by decide +kernel), hE.w mj_ilen rfl, hE.w mj_slen rfl⟩ ⟨mj_blind, vk_recv hV hi s7, mj_pre hE s7⟩ rfl rfl s2 rfl (lv_room (by rw [mi_wd_cat]; exact hwd)) hd ⟨by omega, by omega⟩) ?_
  refine W.eq (g2 := F0 m (pc + 3) la (.int (nI (mi_len.getD (r - 1020) 0)) :: st.map (mi_c ad))) rfl ?_
  have ev : nI (mi_len.getD (r - 1020) 0) = Int32.ofInt (mi_rl X r : Int) := by
    rw [mj_rl hr1, (mj_len9 _ hi).1]
    exact (Int32.ofInt_eq_ofNat).symm
  rw [ev]
  exact hk base D ca sa adE p l e R s m args below meth c hA ad la H locs cells slots ⟨s1, s2, s3, s4, mi_vo_c mi_vo_i (fun v hv => s5 v (List.mem_cons_of_mem _ hv)), s6, s7, s8, s9, s10⟩
theorem mi_s_chr (h262 : k < 262) {i : Nat} (hat : mi_at (mi_tb k) pc = some (.invokevirtual i, nx, 9996)) {r : Nat} {j : Int} (hwd : mi_wd st ≤ 8) (hr1 : 1020 ≤ r) (hr2 : r < 1029) (hj : 0 ≤ j ∧ j < (mi_rl X r : Int)) (hk : mi_ok X k Ge Q nx ls (.inl (mi_ro X r j) :: st) G μ u) : mi_ok X k Ge Q pc ls (.inl j :: .inr (.inl (some r)) :: st) G μ u := by
  obtain ⟨hd, hnx, hc⟩ := mi_dec h262 hat 3 rfl (by decide)
  subst hnx
  simp only [mi_ck2, mi_beq_f (show (9996 : Nat) ≠ 9997 by decide), mi_beq_t, cond_true, cond_false, Bool.and_eq_true, decide_eq_true_eq] at hc
  obtain ⟨⟨c1, c2⟩, c3⟩ := hc
  have c2 := mi_ble c2
  have c3 := mi_ble c3
  have hi : r - 1020 < 9 := by omega
  obtain ⟨l1, l2⟩ := mj_len9 _ hi
  rw [mj_rl hr1, ← l1] at hj
  have hjn : j.toNat < mi_len.getD (r - 1020) 0 := by omega
  have ej : Int32.ofInt j = nI j.toNat := by
    unfold nI
    rw [← Int32.ofInt_eq_ofNat, Int.toNat_of_nonneg hj.1]
  intro base D ca sa adE p l e R s m args below meth c hA ad la H locs cells slots hS
  have hA' := hA
  obtain ⟨hx, hbb, hml, hre, hown, hlk, hin, hex, hsT, hfr, hlo, hE⟩ := hA'
  obtain ⟨s1, s2, s3, s4, s5, s6, s7, s8, s9, s10⟩ := hS
  obtain ⟨adV, hV⟩ := hE.2.2.2.2.1.2.1
  have e9 : 1020 + (r - 1020) = r := by omega
  have er : ad r = sa (1020 + (r - 1020)) := by rw [e9]; exact s6.2.2.1 r (by omega)
  have hlink : Cond.methodLink (mi_rs (mi_on k)) i yJ0_charAt_5068e ∈ lw_tbl := mi_PL_ok _ c1
  show W p l e R s m args below meth c H locs cells slots _ (F0 m pc la (.int (Int32.ofInt j) :: .ref (ad r) :: st.map (mi_c ad)))
  rw [er, ej]
  refine W.callR (W.runV (Ts := mi_gl) (C := "java/lang/String") (As := [.int (nI j.toNat)]) (rest := st.map (mi_c ad)) (n := 1) ⟨hx, hbb, hml, hown, hE.gl⟩ (mj_charAt (X := X) (base := base) (D := D) (ca := ca) (sa := sa) l (r - 1020) j.toNat hi l2 hjn) ⟨mj_cb hE mj_cchr hlink mj_z0 rfl rfl (show 3 + 1 ≤ R.frames by omega) (show 8 + (2 + 11) + 64 ≤ R.locals by omega) (by decide) (by decide +kernel), hE.w mj_ichr rfl, hE.w mj_schr rfl⟩ ⟨mj_blind, vk_recv hV hi s7, mj_pre hE s7⟩ rfl rfl s2 rfl (lv_room (by rw [mi_wd_cat]; exact hwd)) hd ⟨by omega, by omega⟩) ?_
  refine W.eq (g2 := F0 m (pc + 3) la (.int ((mi_byt.getD (r - 1020) []).getD j.toNat 0 &&& 255) :: st.map (mi_c ad))) rfl ?_
  rw [mj_chr9 _ hi _ hjn, ← mj_ro (X := X) hr1 j]
  exact hk base D ca sa adE p l e R s m args below meth c hA ad la H locs cells slots ⟨s1, s2, s3, s4, mi_vo_c mi_vo_i (fun v hv => s5 v (List.mem_cons_of_mem _ (List.mem_cons_of_mem _ hv))), s6, s7, s8, s9, s10⟩
end

