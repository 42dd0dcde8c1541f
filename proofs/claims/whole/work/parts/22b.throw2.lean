section
variable {p : Program} {l : Launch} {e : Env} {R : Room} {s : State} {m : MethodId} {args : Array Value} {below : List Frame} {meth : Method} {c : Code} {H : Heap} {locs : List Loc} {cells slots : Nat} {free : Addr → Prop} {Qc : Array Value → State → Outcome → State → Prop} {XC : String → State → State → Prop} {ls : Array Slot} {rest : List Value}
/-- new NoSuchElementException("no such place"), thrown: the way of vx_throwSW of the kit's laws, with the words of this JDK -/
theorem mi_throwW {cc : ByteArray} {pc : Nat} (hexec : p.tables.exec = Jvm.exec) (hb : c.code = cc) (hl : l.stackTraces = false) {mc ms sa : Nat} {A : Nat → Prop}
    (hown : s.vm.findClass RX11 = some m.cls) (hk : (Cond.classLink RX11 300 mi_eN).before args s = true) (hini : (Cond.initialized mi_eN).before args s = true) (hstr : vk_R RX11 302 "no such place" sa s) (hat : ∀ w ∈ mi_atm.filter vx_no, w.before args s = true)
    (hU : vx_Zq Bundle.tN "UNASSIGNED_STACK" Bundle.steD A s s.heap) (hN : vx_Zq Bundle.tN "SUPPRESSED_SENTINEL" Bundle.listD A s s.heap) (hS : va_S A s.heap H locs) (hsize : ls.size = c.maxLocals)
    (d0 : decode cc pc = .ok (.new 300, 3)) (d3 : decode cc (pc + 3) = .ok (.dup, 1)) (d4 : decode cc (pc + 4) = .ok (.ldc_w 302, 3)) (d7 : decode cc (pc + 7) = .ok (.invokespecial 304, 3)) (d10 : decode cc (pc + 10) = .ok (.athrow, 1))
    (hout : ∀ x ∈ c.exceptionTable.toList, covers x (pc + 10) = false) (hRframes : 5 < R.frames) (hRlocals : (rest.map fun v => v.category).sum + 82 ≤ R.locals) (hRcells : cells + 1 ≤ R.cells) (hRslots : slots + 6 ≤ R.slots) (hlocks : meth.locks = false)
    (hx : ∀ t : State, s.vm.Alike t.vm → H.size ≤ t.heap.size → (∀ q : Nat, q < H.size → t.heap[q]? = H[q]?) → XC mi_eN s t)
    (hf : ∀ z ∈ locs, free z.base) (hc : cells + 1 ≤ mc) (hs : slots + 6 ≤ ms) :
    W p l e R s m args below meth c H locs cells slots (vx_MQ below Qc XC args s mc ms free) (F0 m pc ls rest) := by
  intro T hT Y0
  have htr : e.platform.stackTraces = false := (show e.platform.stackTraces = l.stackTraces by rw [Y0.admits.platform]).trans hl
  have Y := vx_rebase Y0 (R' := { frames := R.frames, locals := R.locals, cells := 1, slots := 6 }) (Nat.le_refl _) (Nat.le_refl _) hRcells hRslots
  obtain ⟨s', hA⟩ : ∃ z, z = (T.setVm s.vm).setFrames (.invoking m args :: below) := ⟨_, rfl⟩
  rw [← hA] at Y
  have hvm : s'.vm = s.vm := by rw [hA]; rfl
  have hhp : s'.heap = H := by rw [hA]; exact hT
  have hW0 : s.WarmedH s'.vm := by rw [hvm]; exact State.WarmedH.refl s
  have hat' : ∀ w ∈ mi_atm.filter vx_no, w.before args s' = true := fun w hw => vx_ot_at hW0 hvm.symm (mi_at3 w (List.mem_cons_of_mem _ (List.mem_cons_of_mem _ hw))) (hat w hw)
  have hk' : (Cond.classLink RX11 300 mi_eN).before args s' = true := vx_ot_at hW0 hvm.symm (mi_at3 _ List.mem_cons_self) hk
  have hini' : (Cond.initialized mi_eN).before args s' = true := vx_ot_at hW0 hvm.symm (mi_at3 _ (List.mem_cons_of_mem _ List.mem_cons_self)) hini
  have hU' : vx_Zq Bundle.tN "UNASSIGNED_STACK" Bundle.steD A s' s'.heap := by rw [hhp]; exact vx_Zq.moved hW0.alike (hU.kept hS.2.1)
  have hN' : vx_Zq Bundle.tN "SUPPRESSED_SENTINEL" Bundle.listD A s' s'.heap := by rw [hhp]; exact vx_Zq.moved hW0.alike (hN.kept hS.2.1)
  have h : ∀ w ∈ mi_atm, w.before args s' = true := vx_own hat' (vx_isRefq hU'.1) (vx_isRefq hN'.1) hU'.2.word hN'.2.word
  have hown' : s'.vm.findClass RX11 = some m.cls := by rw [hvm]; exact hown
  have hins : (Cond.instantiable mi_eN 6).before args s' = true := h _ (by simp [mi_atm])
  obtain ⟨vm₁, cX, kX, hfX, hkX, -, -, X₁, st1⟩ := Y.newCold hexec (own := RX11) (C := mi_eN) (index := 300) (n := 6) hown' hk' hins hini' (g := F0 m pc ls rest) rfl (by rw [hb]; exact d0) (Nat.le_refl _) (Nat.le_refl _)
  generalize hT1 : (T.setVm vm₁).pushCell { cls := cX, slots := kX.instanceTypes.map defaultValue, vm := .none } = T1 at X₁ st1
  have hcat : (Value.ref T.heap.size).category = 1 := rfl
  have hcellA : T1.heap[T.heap.size]? = some (freshCell cX kX) := by rw [← hT1]; exact State.heap_pushCell_size _ _
  have d3' : decode c.code (pc + 3) = .ok (.dup, 1) := by rw [hb]; exact d3
  have d4' : decode c.code (pc + 4) = .ok (.ldc_w 302, 3) := by rw [hb]; exact d4
  have hstr' : vk_R RX11 302 "no such place" sa s' := vk_R.warm hW0 hstr
  obtain ⟨U, hsteps, hrun, hend, hW, hsame, ce, hce, hvmn, hcls⟩ := mi_ctorThrow X₁ hexec htr hown' h (fun x hx => nomatch hx) hfX hkX hcellA (by rw [hhp, hT]; exact Nat.le_refl _) (msg := .ref sa) rfl
    (g := { method := m, pc := pc + 7, locals := ls, stack := .ref sa :: .ref T.heap.size :: .ref T.heap.size :: rest, locked := none }) rfl hsize rfl rfl (rest := rest) rfl
    (by rw [hb]; exact d7) (by rw [hb]; exact d10) hout hRframes (by simp only [List.map_cons, List.sum_cons, hcat]; show 2 * 0 + _ + 81 ≤ R.locals; omega) hlocks
  obtain ⟨f1, f2⟩ := vx_frame hsame
  rw [hhp] at f1 f2
  have hWs : s.WarmedH U.vm := State.WarmedH.trans hW0 hW
  have hcl : s.vm.findClass mi_eN = some ce.cls := by
    rw [hcls, ← hvm]
    exact hfX
  have hall : s.sameButNew ({ U with vm := s.vm } : State) locs mc ms := by
    subst hA
    obtain ⟨e1, e2⟩ := hsame
    rw [State.setFrames_setFrames] at e1
    have h2 : (T.setVm s.vm).sameButNew ({ U with vm := s.vm } : State) [] (0 + 1) (0 + 6) := ⟨e1, e2⟩
    have h3 := Y0.same.trans h2
    rw [List.append_nil] at h3
    exact h3.mono hc hs
  refine ⟨U, ?_, .threw T.heap.size, hrun, hend, Or.inr ⟨T.heap.size, rfl, mi_eN, ce, locs, hx U hWs.alike f1 (fun q hq => f2 q hq (fun z hz => nomatch hz)), hce, hvmn, hcl, hWs, hall, hf⟩⟩
  refine st1 _ ?_
  show Steps p.tables e below (T1.setTop { method := m, pc := pc + 3, locals := ls, stack := .ref T.heap.size :: rest, locked := none }) _
  jvm_step X₁.here [X₁.here.top, hexec, d3', Value.category]
  exact X₁.ldcStringW hexec (own := RX11) (text := "no such place") (index := 302) (a := sa) hown' hstr'.1 hstr'.2
    (g := { method := m, pc := pc + 4, locals := ls, stack := .ref T.heap.size :: .ref T.heap.size :: rest, locked := none }) rfl d4' _ hsteps
end
section
variable {X : mi_X} {k : Nat} {Ge : mi_G} {Q : mi_R → mi_G → mi_M → Prop} {pc nx aux : Nat} {ls : mi_L} {st st' : mi_S} {G : mi_G} {μ : mi_M} {u : mi_U}
theorem mi_s_throw (h262 : k < 262) {i : Nat} (hat : mi_at (mi_tb k) pc = some (.new i, nx, 9995)) (hwd : mi_wd st ≤ 8) (hu : 1 ≤ u.1 ∧ 6 ≤ u.2) (hQ : Q (.inr ()) (bif (mi_hd k).2.2.2.1 then G else Ge) μ) : mi_ok X k Ge Q pc ls st G μ u := by
  obtain ⟨hd, hnx, hc⟩ := mi_dec h262 hat 3 rfl (by decide)
  simp only [mi_ck2, mi_beq_t, cond_true, Bool.and_eq_true, decide_eq_true_eq] at hc
  obtain ⟨⟨⟨⟨⟨⟨⟨c1, c2⟩, c3⟩, c4⟩, c5⟩, c6⟩, c7⟩, c8⟩ := hc
  have c6 := mi_ble c6
  have c7 := mi_ble c7
  obtain ⟨c1a, c1b⟩ := Prod.mk.inj c1
  subst c1b
  intro base D ca sa adE p l e R s m args below meth c hA ad la H locs cells slots hS
  obtain ⟨hx, hbb, hml, hre, hown, hlk, hin, hex, hsT, hfr, hlo, hE⟩ := hA
  obtain ⟨s1, s2, s3, s4, s5, s6, s7, s8, s9, s10⟩ := hS
  obtain ⟨⟨q, hq⟩, hU, hN⟩ := hE.2.2.2.2.2.1
  have hRX : mi_rs (mi_on k) = RX11 := by rw [c1a]; rfl
  rw [hRX] at hown
  refine mi_throwW hx hbb hsT hown (hE.w mi_at4 rfl) (hE.w mi_at5 rfl) hq (fun w hw => hE.w (mi_at1 w hw) (List.all_eq_true.mp mi_at2 w hw)) hU hN s7 (by rw [hml]; exact s2) hd c2 c3 c4 c5 (by rw [hex, c8]; intro x hx; exact absurd hx List.not_mem_nil) (by omega) (by rw [mi_wd_cat]; omega) (by omega) (by omega) hlk ?_ s7.2.2 (by omega) (by omega)
  intro t hal hsz hkp
  have hkp' : ∀ q : Nat, q < H.size → ¬ mi_A base q → t.heap[q]? = H[q]? := fun q h _ => hkp q h
  obtain ⟨w1, w2, w3, w4, w5, w6⟩ := mi_wl_ret (k := k) s6 s8
  refine ⟨rfl, ⟨_, μ, ad, hQ, ⟨fun i' q' h' => ?_, w2, w3, w4, w5, w6⟩, fun h => by rw [h]; rfl⟩, Nat.le_trans s7.1 hsz, fun q' h1 h2 => (hkp q' (Nat.lt_of_lt_of_le h1 s7.1)).trans (s7.2.1 q' h1 h2)⟩
  exact (w1 i' q' h').kept (hkp _ ((w1 i' q' h').lt))
end
