/-! a throw of our own: NoSuchElementException hands its text up by entry 13 of its pool (JDK 17) -/
def mi_eN : String := "java/util/NoSuchElementException"
def mi_eR : String := "java/lang/RuntimeException"
def mi_b13 : ByteArray := ⟨#[0x2a, 0x2b, 0xb7, 0x00, 0x0d, 0xb1]⟩
def mi_atm : List Cond := Bundle.throwableAtoms ++ Bundle.throwableSAtoms ++ (Bundle.passSAtoms mi_eN mi_eR 13 mi_b13 ++ Bundle.chainSAtoms mi_eR ["java/lang/Exception"]) ++
  [.methodLink RX11 304 (Bundle.initS mi_eN), .instantiable mi_eN 6, .castable mi_eN mi_eN, .selects mi_eN Bundle.tFill0 Bundle.tFill0, .selects mi_eN Bundle.tFill Bundle.tFill,
   .lays mi_eN Bundle.tN "cause" "Ljava/lang/Throwable;", .lays mi_eN Bundle.tN "stackTrace" Bundle.steD, .lays mi_eN Bundle.tN "suppressedExceptions" Bundle.listD, .lays mi_eN Bundle.tN "detailMessage" "Ljava/lang/String;",
   .isRef (.static Bundle.tN "UNASSIGNED_STACK" Bundle.steD), .isRef (.static Bundle.tN "SUPPRESSED_SENTINEL" Bundle.listD),
   .fieldLink Bundle.tN 198 Bundle.tN "backtrace" "Ljava/lang/Object;", .lays Bundle.tN Bundle.tN "backtrace" "Ljava/lang/Object;", .lays mi_eN Bundle.tN "backtrace" "Ljava/lang/Object;"]
set_option maxRecDepth 100000 in
theorem mi_at1 : ∀ w ∈ mi_atm.filter vx_no, w ∈ lw_tbl := by decide +kernel
set_option maxRecDepth 100000 in
theorem mi_at2 : (mi_atm.filter vx_no).all mi_gw = true := by decide +kernel
set_option maxRecDepth 100000 in
theorem mi_at3 : ∀ w ∈ Cond.classLink RX11 300 mi_eN :: Cond.initialized mi_eN :: mi_atm.filter vx_no, vx_ot w = true := by decide +kernel
theorem mi_at4 : Cond.classLink RX11 300 mi_eN ∈ lw_tbl := List.mem_of_getElem? (i := 1066) (by decide +kernel)
theorem mi_at5 : Cond.initialized mi_eN ∈ lw_tbl := List.mem_of_getElem? (i := 120) (by decide +kernel)
theorem mi_at6 : Bundle.fit mi_eN = true ∧ Bundle.fit mi_eR = true ∧ ∀ n ∈ ["java/lang/Exception"], Bundle.fit n = true := by decide +kernel
