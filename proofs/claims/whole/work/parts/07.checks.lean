/-! what a row of the code must be: the bytes say so, and what it names is in the tables -/
noncomputable def mi_ln : Instr → Nat
  | .iload _ | .aload _ | .istore _ | .astore _ | .bipush _ | .ldc _ | .newarray _ => 2
  | .iinc _ _ | .sipush _ | .ldc_w _ | .goto _ | .if_icmp _ _ | .ifCond _ _ | .getfield _ | .putfield _ | .getstatic _ | .invokestatic _ | .invokevirtual _ | .invokespecial _ | .new _ | .anewarray _ => 3
  | .tableswitch _ _ _ _ => 0
  | _ => 1
noncomputable def mi_ini (k : Nat) : Bool := decide ((mi_nm k).name = "<init>")
noncomputable def mi_ckc (k aux kind i : Nat) : Bool := (Nat.blt aux 262 && !(Nat.beq aux 256)) && decide ((mi_on k, i, kind, aux) ∈ mi_ML) && Nat.ble ((mi_rm aux).1 + 1) (mi_rm k).1 && Nat.ble (8 + ((mi_hd aux).2.1 + 11) + (mi_rm aux).2) (mi_rm k).2 && (!(mi_hd aux).2.2.2.1 || (mi_hd k).2.2.2.1)
noncomputable def mi_ck2 (k : Nat) (pc : Nat) (i : Instr) (aux : Nat) : Bool := match i with
  | .goto o | .if_icmp _ o | .ifCond _ o => decide ((pc : Int) + o = (aux : Int))
  | .getfield i => decide ((mi_on k, i, aux) ∈ mi_FL) && Nat.blt (aux / 64) 13 && Nat.blt (aux % 64) (mi_cn (aux / 64))
  | .putfield i => decide ((mi_on k, i, aux) ∈ mi_FL) && Nat.blt (aux / 64) 13 && Nat.blt (aux % 64) (mi_cn (aux / 64)) && (bif (mi_ct (aux / 64) (aux % 64)).2.2.2 then mi_ini k && Nat.beq (mi_on k) (aux / 64) else true)
  | .getstatic i => Nat.ble 1000 aux && Nat.blt aux 1006 && (decide ((mi_on k, i, aux, 1) ∈ mi_SL) || decide ((mi_on k, i, aux, 0) ∈ mi_SL))
  | .new i => bif Nat.beq aux 9995 then decide ((mi_on k, i) = (11, 300)) && decide (decode (mi_cd k) (pc + 3) = .ok (.dup, 1)) && decide (decode (mi_cd k) (pc + 4) = .ok (.ldc_w 302, 3)) && decide (decode (mi_cd k) (pc + 7) = .ok (.invokespecial 304, 3)) && decide (decode (mi_cd k) (pc + 10) = .ok (.athrow, 1)) && Nat.ble 7 (mi_rm k).1 && Nat.ble 103 (mi_rm k).2 && decide (mi_hh k = [])
    else decide ((mi_on k, i, aux) ∈ mi_NL) && Nat.blt (aux / 64) 13 && Nat.beq (aux % 64) (mi_cn (aux / 64))
  | .anewarray i => decide ((mi_on k, i, aux) ∈ mi_AL)
  | .ldc i => bif Nat.blt aux 2147483648 then decide ((mi_on k, i, aux) ∈ mi_KL) else decide ((mi_on k, i, aux - 2147483648) ∈ mi_TL)
  | .ldc_w i => decide ((mi_on k, i, aux) ∈ mi_KL)
  | .invokestatic i => bif Nat.beq aux 9998 then decide ((mi_on k, i) ∈ mi_CP) && Nat.ble 1 (mi_rm k).1 && Nat.ble 40 (mi_rm k).2
    else mi_ckc k aux 0 i || mi_ckc k aux 1 i || mi_ckc k aux 4 i
  | .invokevirtual i => bif Nat.beq aux 9997 then decide ((mi_on k, i, aux) ∈ mi_PL) && Nat.ble 4 (mi_rm k).1 && Nat.ble 110 (mi_rm k).2
    else bif Nat.beq aux 9996 then decide ((mi_on k, i, aux) ∈ mi_PL) && Nat.ble 4 (mi_rm k).1 && Nat.ble 110 (mi_rm k).2
    else mi_ckc k aux 2 i && decide ((mi_hd aux).2.2.2.2.1 = 10 + mi_on aux)
  | .invokespecial i => bif Nat.beq aux 9999 then decide ((mi_on k, i) ∈ mi_OL) && Nat.ble 1 (mi_rm k).1 && Nat.ble 20 (mi_rm k).2 else mi_ckc k aux 3 i
  | .tableswitch d lo hi offs => decide (0 ≤ (pc : Int) + d) && offs.toList.all (fun o => decide (0 ≤ (pc : Int) + o)) && decide (hi = lo + (offs.size : Int) - 1)
  | .newarray t => decide (t = .int) || decide (t = .byte) || decide (t = .long)
  | .ireturn => bif Nat.beq aux 1 then decide (mi_rt k = some .boolean) else decide (mi_rt k = some .int)
  | .return_ => decide (mi_rt k = none)
  | _ => true
noncomputable def mi_chk (k : Nat) (e : mi_E) : Bool := decide (decode (mi_cd k) e.1 = .ok (e.2.1, e.2.2.1 - e.1)) && (Nat.beq (mi_ln e.2.1) 0 || Nat.beq e.2.2.1 (e.1 + mi_ln e.2.1)) && mi_ck2 k e.1 e.2.1 e.2.2.2
noncomputable def mi_chl (k : Nat) (l : List mi_E) : Bool := l.all (mi_chk k)
set_option maxRecDepth 100000 in
theorem mi_k0 : (mi_tb 0).all (mi_chl 0) = true := by decide +kernel
set_option maxRecDepth 100000 in
theorem mi_k1 : (mi_tb 1).all (mi_chl 1) = true := by decide +kernel
set_option maxRecDepth 100000 in
theorem mi_k2 : (mi_tb 2).all (mi_chl 2) = true := by decide +kernel
set_option maxRecDepth 100000 in
theorem mi_k3 : (mi_tb 3).all (mi_chl 3) = true := by decide +kernel
set_option maxRecDepth 100000 in
theorem mi_k4 : (mi_tb 4).all (mi_chl 4) = true := by decide +kernel
set_option maxRecDepth 100000 in
theorem mi_k5 : (mi_tb 5).all (mi_chl 5) = true := by decide +kernel
set_option maxRecDepth 100000 in
theorem mi_k6 : (mi_tb 6).all (mi_chl 6) = true := by decide +kernel
set_option maxRecDepth 100000 in
theorem mi_k7 : (mi_tb 7).all (mi_chl 7) = true := by decide +kernel
set_option maxRecDepth 100000 in
theorem mi_k8 : (mi_tb 8).all (mi_chl 8) = true := by decide +kernel
set_option maxRecDepth 100000 in
theorem mi_k9 : (mi_tb 9).all (mi_chl 9) = true := by decide +kernel
set_option maxRecDepth 100000 in
theorem mi_k10 : (mi_tb 10).all (mi_chl 10) = true := by decide +kernel
set_option maxRecDepth 100000 in
theorem mi_k11 : (mi_tb 11).all (mi_chl 11) = true := by decide +kernel
set_option maxRecDepth 100000 in
theorem mi_k12 : (mi_tb 12).all (mi_chl 12) = true := by decide +kernel
set_option maxRecDepth 100000 in
theorem mi_k13 : (mi_tb 13).all (mi_chl 13) = true := by decide +kernel
set_option maxRecDepth 100000 in
theorem mi_k14 : (mi_tb 14).all (mi_chl 14) = true := by decide +kernel
set_option maxRecDepth 100000 in
theorem mi_k15 : (mi_tb 15).all (mi_chl 15) = true := by decide +kernel
set_option maxRecDepth 100000 in
theorem mi_k16 : (mi_tb 16).all (mi_chl 16) = true := by decide +kernel
set_option maxRecDepth 100000 in
theorem mi_k17 : (mi_tb 17).all (mi_chl 17) = true := by decide +kernel
set_option maxRecDepth 100000 in
theorem mi_k18 : (mi_tb 18).all (mi_chl 18) = true := by decide +kernel
set_option maxRecDepth 100000 in
theorem mi_k19 : (mi_tb 19).all (mi_chl 19) = true := by decide +kernel
set_option maxRecDepth 100000 in
theorem mi_k20 : (mi_tb 20).all (mi_chl 20) = true := by decide +kernel
set_option maxRecDepth 100000 in
theorem mi_k21 : (mi_tb 21).all (mi_chl 21) = true := by decide +kernel
set_option maxRecDepth 100000 in
theorem mi_k22 : (mi_tb 22).all (mi_chl 22) = true := by decide +kernel
set_option maxRecDepth 100000 in
theorem mi_k23 : (mi_tb 23).all (mi_chl 23) = true := by decide +kernel
set_option maxRecDepth 100000 in
theorem mi_k24 : (mi_tb 24).all (mi_chl 24) = true := by decide +kernel
set_option maxRecDepth 100000 in
theorem mi_k25 : (mi_tb 25).all (mi_chl 25) = true := by decide +kernel
set_option maxRecDepth 100000 in
theorem mi_k26 : (mi_tb 26).all (mi_chl 26) = true := by decide +kernel
set_option maxRecDepth 100000 in
theorem mi_k27 : (mi_tb 27).all (mi_chl 27) = true := by decide +kernel
set_option maxRecDepth 100000 in
theorem mi_k28 : (mi_tb 28).all (mi_chl 28) = true := by decide +kernel
set_option maxRecDepth 100000 in
theorem mi_k29 : (mi_tb 29).all (mi_chl 29) = true := by decide +kernel
set_option maxRecDepth 100000 in
theorem mi_k30 : (mi_tb 30).all (mi_chl 30) = true := by decide +kernel
set_option maxRecDepth 100000 in
theorem mi_k31 : (mi_tb 31).all (mi_chl 31) = true := by decide +kernel
set_option maxRecDepth 100000 in
theorem mi_k32 : (mi_tb 32).all (mi_chl 32) = true := by decide +kernel
set_option maxRecDepth 100000 in
theorem mi_k33 : (mi_tb 33).all (mi_chl 33) = true := by decide +kernel
set_option maxRecDepth 100000 in
theorem mi_k34 : (mi_tb 34).all (mi_chl 34) = true := by decide +kernel
set_option maxRecDepth 100000 in
theorem mi_k35 : (mi_tb 35).all (mi_chl 35) = true := by decide +kernel
set_option maxRecDepth 100000 in
theorem mi_k36 : (mi_tb 36).all (mi_chl 36) = true := by decide +kernel
set_option maxRecDepth 100000 in
theorem mi_k37 : (mi_tb 37).all (mi_chl 37) = true := by decide +kernel
set_option maxRecDepth 100000 in
theorem mi_k38 : (mi_tb 38).all (mi_chl 38) = true := by decide +kernel
set_option maxRecDepth 100000 in
theorem mi_k39 : (mi_tb 39).all (mi_chl 39) = true := by decide +kernel
set_option maxRecDepth 100000 in
theorem mi_k40 : (mi_tb 40).all (mi_chl 40) = true := by decide +kernel
set_option maxRecDepth 100000 in
theorem mi_k41 : (mi_tb 41).all (mi_chl 41) = true := by decide +kernel
set_option maxRecDepth 100000 in
theorem mi_k42 : (mi_tb 42).all (mi_chl 42) = true := by decide +kernel
set_option maxRecDepth 100000 in
theorem mi_k43 : (mi_tb 43).all (mi_chl 43) = true := by decide +kernel
set_option maxRecDepth 100000 in
theorem mi_k44 : (mi_tb 44).all (mi_chl 44) = true := by decide +kernel
set_option maxRecDepth 100000 in
theorem mi_k45 : (mi_tb 45).all (mi_chl 45) = true := by decide +kernel
set_option maxRecDepth 100000 in
theorem mi_k46 : (mi_tb 46).all (mi_chl 46) = true := by decide +kernel
set_option maxRecDepth 100000 in
theorem mi_k47 : (mi_tb 47).all (mi_chl 47) = true := by decide +kernel
set_option maxRecDepth 100000 in
theorem mi_k48 : (mi_tb 48).all (mi_chl 48) = true := by decide +kernel
set_option maxRecDepth 100000 in
theorem mi_k49 : (mi_tb 49).all (mi_chl 49) = true := by decide +kernel
set_option maxRecDepth 100000 in
theorem mi_k50 : (mi_tb 50).all (mi_chl 50) = true := by decide +kernel
set_option maxRecDepth 100000 in
theorem mi_k51 : (mi_tb 51).all (mi_chl 51) = true := by decide +kernel
set_option maxRecDepth 100000 in
theorem mi_k52 : (mi_tb 52).all (mi_chl 52) = true := by decide +kernel
set_option maxRecDepth 100000 in
theorem mi_k53 : (mi_tb 53).all (mi_chl 53) = true := by decide +kernel
set_option maxRecDepth 100000 in
theorem mi_k54 : (mi_tb 54).all (mi_chl 54) = true := by decide +kernel
set_option maxRecDepth 100000 in
theorem mi_k55 : (mi_tb 55).all (mi_chl 55) = true := by decide +kernel
set_option maxRecDepth 100000 in
theorem mi_k56 : (mi_tb 56).all (mi_chl 56) = true := by decide +kernel
set_option maxRecDepth 100000 in
theorem mi_k57 : (mi_tb 57).all (mi_chl 57) = true := by decide +kernel
set_option maxRecDepth 100000 in
theorem mi_k58 : (mi_tb 58).all (mi_chl 58) = true := by decide +kernel
set_option maxRecDepth 100000 in
theorem mi_k59 : (mi_tb 59).all (mi_chl 59) = true := by decide +kernel
set_option maxRecDepth 100000 in
theorem mi_k60 : (mi_tb 60).all (mi_chl 60) = true := by decide +kernel
set_option maxRecDepth 100000 in
theorem mi_k61 : (mi_tb 61).all (mi_chl 61) = true := by decide +kernel
set_option maxRecDepth 100000 in
theorem mi_k62 : (mi_tb 62).all (mi_chl 62) = true := by decide +kernel
set_option maxRecDepth 100000 in
theorem mi_k63 : (mi_tb 63).all (mi_chl 63) = true := by decide +kernel
set_option maxRecDepth 100000 in
theorem mi_k64 : (mi_tb 64).all (mi_chl 64) = true := by decide +kernel
set_option maxRecDepth 100000 in
theorem mi_k65 : (mi_tb 65).all (mi_chl 65) = true := by decide +kernel
set_option maxRecDepth 100000 in
theorem mi_k66 : (mi_tb 66).all (mi_chl 66) = true := by decide +kernel
set_option maxRecDepth 100000 in
theorem mi_k67 : (mi_tb 67).all (mi_chl 67) = true := by decide +kernel
set_option maxRecDepth 100000 in
theorem mi_k68 : (mi_tb 68).all (mi_chl 68) = true := by decide +kernel
set_option maxRecDepth 100000 in
theorem mi_k69 : (mi_tb 69).all (mi_chl 69) = true := by decide +kernel
set_option maxRecDepth 100000 in
theorem mi_k70 : (mi_tb 70).all (mi_chl 70) = true := by decide +kernel
set_option maxRecDepth 100000 in
theorem mi_k71 : (mi_tb 71).all (mi_chl 71) = true := by decide +kernel
set_option maxRecDepth 100000 in
theorem mi_k72 : (mi_tb 72).all (mi_chl 72) = true := by decide +kernel
set_option maxRecDepth 100000 in
theorem mi_k73 : (mi_tb 73).all (mi_chl 73) = true := by decide +kernel
set_option maxRecDepth 100000 in
theorem mi_k74 : (mi_tb 74).all (mi_chl 74) = true := by decide +kernel
set_option maxRecDepth 100000 in
theorem mi_k75 : (mi_tb 75).all (mi_chl 75) = true := by decide +kernel
set_option maxRecDepth 100000 in
theorem mi_k76 : (mi_tb 76).all (mi_chl 76) = true := by decide +kernel
set_option maxRecDepth 100000 in
theorem mi_k77 : (mi_tb 77).all (mi_chl 77) = true := by decide +kernel
set_option maxRecDepth 100000 in
theorem mi_k78 : (mi_tb 78).all (mi_chl 78) = true := by decide +kernel
set_option maxRecDepth 100000 in
theorem mi_k79 : (mi_tb 79).all (mi_chl 79) = true := by decide +kernel
set_option maxRecDepth 100000 in
theorem mi_k80 : (mi_tb 80).all (mi_chl 80) = true := by decide +kernel
set_option maxRecDepth 100000 in
theorem mi_k81 : (mi_tb 81).all (mi_chl 81) = true := by decide +kernel
set_option maxRecDepth 100000 in
theorem mi_k82 : (mi_tb 82).all (mi_chl 82) = true := by decide +kernel
set_option maxRecDepth 100000 in
theorem mi_k83 : (mi_tb 83).all (mi_chl 83) = true := by decide +kernel
set_option maxRecDepth 100000 in
theorem mi_k84 : (mi_tb 84).all (mi_chl 84) = true := by decide +kernel
set_option maxRecDepth 100000 in
theorem mi_k85 : (mi_tb 85).all (mi_chl 85) = true := by decide +kernel
set_option maxRecDepth 100000 in
theorem mi_k86 : (mi_tb 86).all (mi_chl 86) = true := by decide +kernel
set_option maxRecDepth 100000 in
theorem mi_k87 : (mi_tb 87).all (mi_chl 87) = true := by decide +kernel
set_option maxRecDepth 100000 in
theorem mi_k88 : (mi_tb 88).all (mi_chl 88) = true := by decide +kernel
set_option maxRecDepth 100000 in
theorem mi_k89 : (mi_tb 89).all (mi_chl 89) = true := by decide +kernel
set_option maxRecDepth 100000 in
theorem mi_k90 : (mi_tb 90).all (mi_chl 90) = true := by decide +kernel
set_option maxRecDepth 100000 in
theorem mi_k91 : (mi_tb 91).all (mi_chl 91) = true := by decide +kernel
set_option maxRecDepth 100000 in
theorem mi_k92 : (mi_tb 92).all (mi_chl 92) = true := by decide +kernel
set_option maxRecDepth 100000 in
theorem mi_k93 : (mi_tb 93).all (mi_chl 93) = true := by decide +kernel
set_option maxRecDepth 100000 in
theorem mi_k94 : (mi_tb 94).all (mi_chl 94) = true := by decide +kernel
set_option maxRecDepth 100000 in
theorem mi_k95 : (mi_tb 95).all (mi_chl 95) = true := by decide +kernel
set_option maxRecDepth 100000 in
theorem mi_k96 : (mi_tb 96).all (mi_chl 96) = true := by decide +kernel
set_option maxRecDepth 100000 in
theorem mi_k97 : (mi_tb 97).all (mi_chl 97) = true := by decide +kernel
set_option maxRecDepth 100000 in
theorem mi_k98 : (mi_tb 98).all (mi_chl 98) = true := by decide +kernel
set_option maxRecDepth 100000 in
theorem mi_k99 : (mi_tb 99).all (mi_chl 99) = true := by decide +kernel
set_option maxRecDepth 100000 in
theorem mi_k100 : (mi_tb 100).all (mi_chl 100) = true := by decide +kernel
set_option maxRecDepth 100000 in
theorem mi_k101 : (mi_tb 101).all (mi_chl 101) = true := by decide +kernel
set_option maxRecDepth 100000 in
theorem mi_k102 : (mi_tb 102).all (mi_chl 102) = true := by decide +kernel
set_option maxRecDepth 100000 in
theorem mi_k103 : (mi_tb 103).all (mi_chl 103) = true := by decide +kernel
set_option maxRecDepth 100000 in
theorem mi_k104 : (mi_tb 104).all (mi_chl 104) = true := by decide +kernel
set_option maxRecDepth 100000 in
theorem mi_k105 : (mi_tb 105).all (mi_chl 105) = true := by decide +kernel
set_option maxRecDepth 100000 in
theorem mi_k106 : (mi_tb 106).all (mi_chl 106) = true := by decide +kernel
set_option maxRecDepth 100000 in
theorem mi_k107 : (mi_tb 107).all (mi_chl 107) = true := by decide +kernel
set_option maxRecDepth 100000 in
theorem mi_k108 : (mi_tb 108).all (mi_chl 108) = true := by decide +kernel
set_option maxRecDepth 100000 in
theorem mi_k109 : (mi_tb 109).all (mi_chl 109) = true := by decide +kernel
set_option maxRecDepth 100000 in
theorem mi_k110 : (mi_tb 110).all (mi_chl 110) = true := by decide +kernel
set_option maxRecDepth 100000 in
theorem mi_k111 : (mi_tb 111).all (mi_chl 111) = true := by decide +kernel
set_option maxRecDepth 100000 in
theorem mi_k112 : (mi_tb 112).all (mi_chl 112) = true := by decide +kernel
set_option maxRecDepth 100000 in
theorem mi_k113 : (mi_tb 113).all (mi_chl 113) = true := by decide +kernel
set_option maxRecDepth 100000 in
theorem mi_k114 : (mi_tb 114).all (mi_chl 114) = true := by decide +kernel
set_option maxRecDepth 100000 in
theorem mi_k115 : (mi_tb 115).all (mi_chl 115) = true := by decide +kernel
set_option maxRecDepth 100000 in
theorem mi_k116 : (mi_tb 116).all (mi_chl 116) = true := by decide +kernel
set_option maxRecDepth 100000 in
theorem mi_k117 : (mi_tb 117).all (mi_chl 117) = true := by decide +kernel
set_option maxRecDepth 100000 in
theorem mi_k118 : (mi_tb 118).all (mi_chl 118) = true := by decide +kernel
set_option maxRecDepth 100000 in
theorem mi_k119 : (mi_tb 119).all (mi_chl 119) = true := by decide +kernel
set_option maxRecDepth 100000 in
theorem mi_k120 : (mi_tb 120).all (mi_chl 120) = true := by decide +kernel
set_option maxRecDepth 100000 in
theorem mi_k121 : (mi_tb 121).all (mi_chl 121) = true := by decide +kernel
set_option maxRecDepth 100000 in
theorem mi_k122 : (mi_tb 122).all (mi_chl 122) = true := by decide +kernel
set_option maxRecDepth 100000 in
theorem mi_k123 : (mi_tb 123).all (mi_chl 123) = true := by decide +kernel
set_option maxRecDepth 100000 in
theorem mi_k124 : (mi_tb 124).all (mi_chl 124) = true := by decide +kernel
set_option maxRecDepth 100000 in
theorem mi_k125 : (mi_tb 125).all (mi_chl 125) = true := by decide +kernel
set_option maxRecDepth 100000 in
theorem mi_k126 : (mi_tb 126).all (mi_chl 126) = true := by decide +kernel
set_option maxRecDepth 100000 in
theorem mi_k127 : (mi_tb 127).all (mi_chl 127) = true := by decide +kernel
set_option maxRecDepth 100000 in
theorem mi_k128 : (mi_tb 128).all (mi_chl 128) = true := by decide +kernel
set_option maxRecDepth 100000 in
theorem mi_k129 : (mi_tb 129).all (mi_chl 129) = true := by decide +kernel
set_option maxRecDepth 100000 in
theorem mi_k130 : (mi_tb 130).all (mi_chl 130) = true := by decide +kernel
set_option maxRecDepth 100000 in
theorem mi_k131 : (mi_tb 131).all (mi_chl 131) = true := by decide +kernel
set_option maxRecDepth 100000 in
theorem mi_k132 : (mi_tb 132).all (mi_chl 132) = true := by decide +kernel
set_option maxRecDepth 100000 in
theorem mi_k133 : (mi_tb 133).all (mi_chl 133) = true := by decide +kernel
set_option maxRecDepth 100000 in
theorem mi_k134 : (mi_tb 134).all (mi_chl 134) = true := by decide +kernel
set_option maxRecDepth 100000 in
theorem mi_k135 : (mi_tb 135).all (mi_chl 135) = true := by decide +kernel
set_option maxRecDepth 100000 in
theorem mi_k136 : (mi_tb 136).all (mi_chl 136) = true := by decide +kernel
set_option maxRecDepth 100000 in
theorem mi_k137 : (mi_tb 137).all (mi_chl 137) = true := by decide +kernel
set_option maxRecDepth 100000 in
theorem mi_k138 : (mi_tb 138).all (mi_chl 138) = true := by decide +kernel
set_option maxRecDepth 100000 in
theorem mi_k139 : (mi_tb 139).all (mi_chl 139) = true := by decide +kernel
set_option maxRecDepth 100000 in
theorem mi_k140 : (mi_tb 140).all (mi_chl 140) = true := by decide +kernel
set_option maxRecDepth 100000 in
theorem mi_k141 : (mi_tb 141).all (mi_chl 141) = true := by decide +kernel
set_option maxRecDepth 100000 in
theorem mi_k142 : (mi_tb 142).all (mi_chl 142) = true := by decide +kernel
set_option maxRecDepth 100000 in
theorem mi_k143 : (mi_tb 143).all (mi_chl 143) = true := by decide +kernel
set_option maxRecDepth 100000 in
theorem mi_k144 : (mi_tb 144).all (mi_chl 144) = true := by decide +kernel
set_option maxRecDepth 100000 in
theorem mi_k145 : (mi_tb 145).all (mi_chl 145) = true := by decide +kernel
set_option maxRecDepth 100000 in
theorem mi_k146 : (mi_tb 146).all (mi_chl 146) = true := by decide +kernel
set_option maxRecDepth 100000 in
theorem mi_k147 : (mi_tb 147).all (mi_chl 147) = true := by decide +kernel
set_option maxRecDepth 100000 in
theorem mi_k148 : (mi_tb 148).all (mi_chl 148) = true := by decide +kernel
set_option maxRecDepth 100000 in
theorem mi_k149 : (mi_tb 149).all (mi_chl 149) = true := by decide +kernel
set_option maxRecDepth 100000 in
theorem mi_k150 : (mi_tb 150).all (mi_chl 150) = true := by decide +kernel
set_option maxRecDepth 100000 in
theorem mi_k151 : (mi_tb 151).all (mi_chl 151) = true := by decide +kernel
set_option maxRecDepth 100000 in
theorem mi_k152 : (mi_tb 152).all (mi_chl 152) = true := by decide +kernel
set_option maxRecDepth 100000 in
theorem mi_k153 : (mi_tb 153).all (mi_chl 153) = true := by decide +kernel
set_option maxRecDepth 100000 in
theorem mi_k154 : (mi_tb 154).all (mi_chl 154) = true := by decide +kernel
set_option maxRecDepth 100000 in
theorem mi_k155 : (mi_tb 155).all (mi_chl 155) = true := by decide +kernel
set_option maxRecDepth 100000 in
theorem mi_k156 : (mi_tb 156).all (mi_chl 156) = true := by decide +kernel
set_option maxRecDepth 100000 in
theorem mi_k157 : (mi_tb 157).all (mi_chl 157) = true := by decide +kernel
set_option maxRecDepth 100000 in
theorem mi_k158 : (mi_tb 158).all (mi_chl 158) = true := by decide +kernel
set_option maxRecDepth 100000 in
theorem mi_k159 : (mi_tb 159).all (mi_chl 159) = true := by decide +kernel
set_option maxRecDepth 100000 in
theorem mi_k160 : (mi_tb 160).all (mi_chl 160) = true := by decide +kernel
set_option maxRecDepth 100000 in
theorem mi_k161 : (mi_tb 161).all (mi_chl 161) = true := by decide +kernel
set_option maxRecDepth 100000 in
theorem mi_k162 : (mi_tb 162).all (mi_chl 162) = true := by decide +kernel
set_option maxRecDepth 100000 in
theorem mi_k163 : (mi_tb 163).all (mi_chl 163) = true := by decide +kernel
set_option maxRecDepth 100000 in
theorem mi_k164 : (mi_tb 164).all (mi_chl 164) = true := by decide +kernel
set_option maxRecDepth 100000 in
theorem mi_k165 : (mi_tb 165).all (mi_chl 165) = true := by decide +kernel
set_option maxRecDepth 100000 in
theorem mi_k166 : (mi_tb 166).all (mi_chl 166) = true := by decide +kernel
set_option maxRecDepth 100000 in
theorem mi_k167 : (mi_tb 167).all (mi_chl 167) = true := by decide +kernel
set_option maxRecDepth 100000 in
theorem mi_k168 : (mi_tb 168).all (mi_chl 168) = true := by decide +kernel
set_option maxRecDepth 100000 in
theorem mi_k169 : (mi_tb 169).all (mi_chl 169) = true := by decide +kernel
set_option maxRecDepth 100000 in
theorem mi_k170 : (mi_tb 170).all (mi_chl 170) = true := by decide +kernel
set_option maxRecDepth 100000 in
theorem mi_k171 : (mi_tb 171).all (mi_chl 171) = true := by decide +kernel
set_option maxRecDepth 100000 in
theorem mi_k172 : (mi_tb 172).all (mi_chl 172) = true := by decide +kernel
set_option maxRecDepth 100000 in
theorem mi_k173 : (mi_tb 173).all (mi_chl 173) = true := by decide +kernel
set_option maxRecDepth 100000 in
theorem mi_k174 : (mi_tb 174).all (mi_chl 174) = true := by decide +kernel
set_option maxRecDepth 100000 in
theorem mi_k175 : (mi_tb 175).all (mi_chl 175) = true := by decide +kernel
set_option maxRecDepth 100000 in
theorem mi_k176 : (mi_tb 176).all (mi_chl 176) = true := by decide +kernel
set_option maxRecDepth 100000 in
theorem mi_k177 : (mi_tb 177).all (mi_chl 177) = true := by decide +kernel
set_option maxRecDepth 100000 in
theorem mi_k178 : (mi_tb 178).all (mi_chl 178) = true := by decide +kernel
set_option maxRecDepth 100000 in
theorem mi_k179 : (mi_tb 179).all (mi_chl 179) = true := by decide +kernel
set_option maxRecDepth 100000 in
theorem mi_k180 : (mi_tb 180).all (mi_chl 180) = true := by decide +kernel
set_option maxRecDepth 100000 in
theorem mi_k181 : (mi_tb 181).all (mi_chl 181) = true := by decide +kernel
set_option maxRecDepth 100000 in
theorem mi_k182 : (mi_tb 182).all (mi_chl 182) = true := by decide +kernel
set_option maxRecDepth 100000 in
theorem mi_k183 : (mi_tb 183).all (mi_chl 183) = true := by decide +kernel
set_option maxRecDepth 100000 in
theorem mi_k184 : (mi_tb 184).all (mi_chl 184) = true := by decide +kernel
set_option maxRecDepth 100000 in
theorem mi_k185 : (mi_tb 185).all (mi_chl 185) = true := by decide +kernel
set_option maxRecDepth 100000 in
theorem mi_k186 : (mi_tb 186).all (mi_chl 186) = true := by decide +kernel
set_option maxRecDepth 100000 in
theorem mi_k187 : (mi_tb 187).all (mi_chl 187) = true := by decide +kernel
set_option maxRecDepth 100000 in
theorem mi_k188 : (mi_tb 188).all (mi_chl 188) = true := by decide +kernel
set_option maxRecDepth 100000 in
theorem mi_k189 : (mi_tb 189).all (mi_chl 189) = true := by decide +kernel
set_option maxRecDepth 100000 in
theorem mi_k190 : (mi_tb 190).all (mi_chl 190) = true := by decide +kernel
set_option maxRecDepth 100000 in
theorem mi_k191 : (mi_tb 191).all (mi_chl 191) = true := by decide +kernel
set_option maxRecDepth 100000 in
theorem mi_k192 : (mi_tb 192).all (mi_chl 192) = true := by decide +kernel
set_option maxRecDepth 100000 in
theorem mi_k193 : (mi_tb 193).all (mi_chl 193) = true := by decide +kernel
set_option maxRecDepth 100000 in
theorem mi_k194 : (mi_tb 194).all (mi_chl 194) = true := by decide +kernel
set_option maxRecDepth 100000 in
theorem mi_k195 : (mi_tb 195).all (mi_chl 195) = true := by decide +kernel
set_option maxRecDepth 100000 in
theorem mi_k196 : (mi_tb 196).all (mi_chl 196) = true := by decide +kernel
set_option maxRecDepth 100000 in
theorem mi_k197 : (mi_tb 197).all (mi_chl 197) = true := by decide +kernel
set_option maxRecDepth 100000 in
theorem mi_k198 : (mi_tb 198).all (mi_chl 198) = true := by decide +kernel
set_option maxRecDepth 100000 in
theorem mi_k199 : (mi_tb 199).all (mi_chl 199) = true := by decide +kernel
set_option maxRecDepth 100000 in
theorem mi_k200 : (mi_tb 200).all (mi_chl 200) = true := by decide +kernel
set_option maxRecDepth 100000 in
theorem mi_k201 : (mi_tb 201).all (mi_chl 201) = true := by decide +kernel
set_option maxRecDepth 100000 in
theorem mi_k202 : (mi_tb 202).all (mi_chl 202) = true := by decide +kernel
set_option maxRecDepth 100000 in
theorem mi_k203 : (mi_tb 203).all (mi_chl 203) = true := by decide +kernel
set_option maxRecDepth 100000 in
theorem mi_k204 : (mi_tb 204).all (mi_chl 204) = true := by decide +kernel
set_option maxRecDepth 100000 in
theorem mi_k205 : (mi_tb 205).all (mi_chl 205) = true := by decide +kernel
set_option maxRecDepth 100000 in
theorem mi_k206 : (mi_tb 206).all (mi_chl 206) = true := by decide +kernel
set_option maxRecDepth 100000 in
theorem mi_k207 : (mi_tb 207).all (mi_chl 207) = true := by decide +kernel
set_option maxRecDepth 100000 in
theorem mi_k208 : (mi_tb 208).all (mi_chl 208) = true := by decide +kernel
set_option maxRecDepth 100000 in
theorem mi_k209 : (mi_tb 209).all (mi_chl 209) = true := by decide +kernel
set_option maxRecDepth 100000 in
theorem mi_k210 : (mi_tb 210).all (mi_chl 210) = true := by decide +kernel
set_option maxRecDepth 100000 in
theorem mi_k211 : (mi_tb 211).all (mi_chl 211) = true := by decide +kernel
set_option maxRecDepth 100000 in
theorem mi_k212 : (mi_tb 212).all (mi_chl 212) = true := by decide +kernel
set_option maxRecDepth 100000 in
theorem mi_k213 : (mi_tb 213).all (mi_chl 213) = true := by decide +kernel
set_option maxRecDepth 100000 in
theorem mi_k214 : (mi_tb 214).all (mi_chl 214) = true := by decide +kernel
set_option maxRecDepth 100000 in
theorem mi_k215 : (mi_tb 215).all (mi_chl 215) = true := by decide +kernel
set_option maxRecDepth 100000 in
theorem mi_k216 : (mi_tb 216).all (mi_chl 216) = true := by decide +kernel
set_option maxRecDepth 100000 in
theorem mi_k217 : (mi_tb 217).all (mi_chl 217) = true := by decide +kernel
set_option maxRecDepth 100000 in
theorem mi_k218 : (mi_tb 218).all (mi_chl 218) = true := by decide +kernel
set_option maxRecDepth 100000 in
theorem mi_k219 : (mi_tb 219).all (mi_chl 219) = true := by decide +kernel
set_option maxRecDepth 100000 in
theorem mi_k220 : (mi_tb 220).all (mi_chl 220) = true := by decide +kernel
set_option maxRecDepth 100000 in
theorem mi_k221 : (mi_tb 221).all (mi_chl 221) = true := by decide +kernel
set_option maxRecDepth 100000 in
theorem mi_k222 : (mi_tb 222).all (mi_chl 222) = true := by decide +kernel
set_option maxRecDepth 100000 in
theorem mi_k223 : (mi_tb 223).all (mi_chl 223) = true := by decide +kernel
set_option maxRecDepth 100000 in
theorem mi_k224 : (mi_tb 224).all (mi_chl 224) = true := by decide +kernel
set_option maxRecDepth 100000 in
theorem mi_k225 : (mi_tb 225).all (mi_chl 225) = true := by decide +kernel
set_option maxRecDepth 100000 in
theorem mi_k226 : (mi_tb 226).all (mi_chl 226) = true := by decide +kernel
set_option maxRecDepth 100000 in
theorem mi_k227 : (mi_tb 227).all (mi_chl 227) = true := by decide +kernel
set_option maxRecDepth 100000 in
theorem mi_k228 : (mi_tb 228).all (mi_chl 228) = true := by decide +kernel
set_option maxRecDepth 100000 in
theorem mi_k229 : (mi_tb 229).all (mi_chl 229) = true := by decide +kernel
set_option maxRecDepth 100000 in
theorem mi_k230 : (mi_tb 230).all (mi_chl 230) = true := by decide +kernel
set_option maxRecDepth 100000 in
theorem mi_k231 : (mi_tb 231).all (mi_chl 231) = true := by decide +kernel
set_option maxRecDepth 100000 in
theorem mi_k232 : (mi_tb 232).all (mi_chl 232) = true := by decide +kernel
set_option maxRecDepth 100000 in
theorem mi_k233 : (mi_tb 233).all (mi_chl 233) = true := by decide +kernel
set_option maxRecDepth 100000 in
theorem mi_k234 : (mi_tb 234).all (mi_chl 234) = true := by decide +kernel
set_option maxRecDepth 100000 in
theorem mi_k235 : (mi_tb 235).all (mi_chl 235) = true := by decide +kernel
set_option maxRecDepth 100000 in
theorem mi_k236 : (mi_tb 236).all (mi_chl 236) = true := by decide +kernel
set_option maxRecDepth 100000 in
theorem mi_k237 : (mi_tb 237).all (mi_chl 237) = true := by decide +kernel
set_option maxRecDepth 100000 in
theorem mi_k238 : (mi_tb 238).all (mi_chl 238) = true := by decide +kernel
set_option maxRecDepth 100000 in
theorem mi_k239 : (mi_tb 239).all (mi_chl 239) = true := by decide +kernel
set_option maxRecDepth 100000 in
theorem mi_k240 : (mi_tb 240).all (mi_chl 240) = true := by decide +kernel
set_option maxRecDepth 100000 in
theorem mi_k241 : (mi_tb 241).all (mi_chl 241) = true := by decide +kernel
set_option maxRecDepth 100000 in
theorem mi_k242 : (mi_tb 242).all (mi_chl 242) = true := by decide +kernel
set_option maxRecDepth 100000 in
theorem mi_k243 : (mi_tb 243).all (mi_chl 243) = true := by decide +kernel
set_option maxRecDepth 100000 in
theorem mi_k244 : (mi_tb 244).all (mi_chl 244) = true := by decide +kernel
set_option maxRecDepth 100000 in
theorem mi_k245 : (mi_tb 245).all (mi_chl 245) = true := by decide +kernel
set_option maxRecDepth 100000 in
theorem mi_k246 : (mi_tb 246).all (mi_chl 246) = true := by decide +kernel
set_option maxRecDepth 100000 in
theorem mi_k247 : (mi_tb 247).all (mi_chl 247) = true := by decide +kernel
set_option maxRecDepth 100000 in
theorem mi_k248 : (mi_tb 248).all (mi_chl 248) = true := by decide +kernel
set_option maxRecDepth 100000 in
theorem mi_k249 : (mi_tb 249).all (mi_chl 249) = true := by decide +kernel
set_option maxRecDepth 100000 in
theorem mi_k250 : (mi_tb 250).all (mi_chl 250) = true := by decide +kernel
set_option maxRecDepth 100000 in
theorem mi_k251 : (mi_tb 251).all (mi_chl 251) = true := by decide +kernel
set_option maxRecDepth 100000 in
theorem mi_k252 : (mi_tb 252).all (mi_chl 252) = true := by decide +kernel
set_option maxRecDepth 100000 in
theorem mi_k253 : (mi_tb 253).all (mi_chl 253) = true := by decide +kernel
set_option maxRecDepth 100000 in
theorem mi_k254 : (mi_tb 254).all (mi_chl 254) = true := by decide +kernel
set_option maxRecDepth 100000 in
theorem mi_k255 : (mi_tb 255).all (mi_chl 255) = true := by decide +kernel
set_option maxRecDepth 100000 in
theorem mi_k256_0 : (((mi_tb 256).drop 0).take 3).all (mi_chl 256) = true := by decide +kernel
set_option maxRecDepth 100000 in
theorem mi_k256_1 : (((mi_tb 256).drop 3).take 3).all (mi_chl 256) = true := by decide +kernel
set_option maxRecDepth 100000 in
theorem mi_k256_2 : (((mi_tb 256).drop 6).take 3).all (mi_chl 256) = true := by decide +kernel
set_option maxRecDepth 100000 in
theorem mi_k256_3 : (((mi_tb 256).drop 9).take 3).all (mi_chl 256) = true := by decide +kernel
set_option maxRecDepth 100000 in
theorem mi_k256_4 : (((mi_tb 256).drop 12).take 3).all (mi_chl 256) = true := by decide +kernel
set_option maxRecDepth 100000 in
theorem mi_k256_5 : (((mi_tb 256).drop 15).take 3).all (mi_chl 256) = true := by decide +kernel
set_option maxRecDepth 100000 in
theorem mi_k256_6 : (((mi_tb 256).drop 18).take 3).all (mi_chl 256) = true := by decide +kernel
set_option maxRecDepth 100000 in
theorem mi_k256_7 : (((mi_tb 256).drop 21).take 3).all (mi_chl 256) = true := by decide +kernel
set_option maxRecDepth 100000 in
theorem mi_k256_8 : (((mi_tb 256).drop 24).take 3).all (mi_chl 256) = true := by decide +kernel
set_option maxRecDepth 100000 in
theorem mi_k256_9 : (((mi_tb 256).drop 27).take 3).all (mi_chl 256) = true := by decide +kernel
set_option maxRecDepth 100000 in
theorem mi_k256_10 : (((mi_tb 256).drop 30).take 3).all (mi_chl 256) = true := by decide +kernel
set_option maxRecDepth 100000 in
theorem mi_k256_11 : (((mi_tb 256).drop 33).take 3).all (mi_chl 256) = true := by decide +kernel
set_option maxRecDepth 100000 in
theorem mi_k256_12 : (((mi_tb 256).drop 36).take 3).all (mi_chl 256) = true := by decide +kernel
set_option maxRecDepth 100000 in
theorem mi_k256_13 : (((mi_tb 256).drop 39).take 3).all (mi_chl 256) = true := by decide +kernel
set_option maxRecDepth 100000 in
theorem mi_k256_14 : (((mi_tb 256).drop 42).take 3).all (mi_chl 256) = true := by decide +kernel
set_option maxRecDepth 100000 in
theorem mi_k256_15 : (((mi_tb 256).drop 45).take 3).all (mi_chl 256) = true := by decide +kernel
set_option maxRecDepth 100000 in
theorem mi_k256_16 : (((mi_tb 256).drop 48).take 3).all (mi_chl 256) = true := by decide +kernel
set_option maxRecDepth 100000 in
theorem mi_k256_17 : (((mi_tb 256).drop 51).take 3).all (mi_chl 256) = true := by decide +kernel
set_option maxRecDepth 100000 in
theorem mi_k256_18 : (((mi_tb 256).drop 54).take 3).all (mi_chl 256) = true := by decide +kernel
set_option maxRecDepth 100000 in
theorem mi_k256_19 : (((mi_tb 256).drop 57).take 3).all (mi_chl 256) = true := by decide +kernel
set_option maxRecDepth 100000 in
theorem mi_k256_20 : (((mi_tb 256).drop 60).take 3).all (mi_chl 256) = true := by decide +kernel
theorem mi_k256 : (mi_tb 256).all (mi_chl 256) = true := by
  have h : mi_tb 256 = ((mi_tb 256).drop 0).take 3 ++ ((mi_tb 256).drop 3).take 3 ++ ((mi_tb 256).drop 6).take 3 ++ ((mi_tb 256).drop 9).take 3 ++ ((mi_tb 256).drop 12).take 3 ++ ((mi_tb 256).drop 15).take 3 ++ ((mi_tb 256).drop 18).take 3 ++ ((mi_tb 256).drop 21).take 3 ++ ((mi_tb 256).drop 24).take 3 ++ ((mi_tb 256).drop 27).take 3 ++ ((mi_tb 256).drop 30).take 3 ++ ((mi_tb 256).drop 33).take 3 ++ ((mi_tb 256).drop 36).take 3 ++ ((mi_tb 256).drop 39).take 3 ++ ((mi_tb 256).drop 42).take 3 ++ ((mi_tb 256).drop 45).take 3 ++ ((mi_tb 256).drop 48).take 3 ++ ((mi_tb 256).drop 51).take 3 ++ ((mi_tb 256).drop 54).take 3 ++ ((mi_tb 256).drop 57).take 3 ++ ((mi_tb 256).drop 60).take 3 := rfl
  rw [h]; simp only [List.all_append, mi_k256_0, mi_k256_1, mi_k256_2, mi_k256_3, mi_k256_4, mi_k256_5, mi_k256_6, mi_k256_7, mi_k256_8, mi_k256_9, mi_k256_10, mi_k256_11, mi_k256_12, mi_k256_13, mi_k256_14, mi_k256_15, mi_k256_16, mi_k256_17, mi_k256_18, mi_k256_19, mi_k256_20, Bool.and_self]
set_option maxRecDepth 100000 in
theorem mi_k257 : (mi_tb 257).all (mi_chl 257) = true := by decide +kernel
set_option maxRecDepth 100000 in
theorem mi_k258 : (mi_tb 258).all (mi_chl 258) = true := by decide +kernel
set_option maxRecDepth 100000 in
theorem mi_k259 : (mi_tb 259).all (mi_chl 259) = true := by decide +kernel
set_option maxRecDepth 100000 in
theorem mi_k260 : (mi_tb 260).all (mi_chl 260) = true := by decide +kernel
set_option maxRecDepth 100000 in
theorem mi_k261 : (mi_tb 261).all (mi_chl 261) = true := by decide +kernel
