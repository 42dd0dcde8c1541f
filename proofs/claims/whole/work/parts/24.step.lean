/-! THE STEP, over our tables -/
/-- a call -/
noncomputable def ms_inv (X : mi_X) (ct : Bool) (ex : Nat → Option (Nat × Nat)) (Ge : mi_G) (nx aux pc : Nat) (ls : mi_L) (st : mi_S) (G : mi_G) (μ : mi_M) (u : mi_U)
    (K : Nat → mi_L → mi_S → mi_G → mi_M → mi_U → Prop) (C : Nat → List mi_V → mi_G → mi_M → mi_U → (mi_R → mi_G → mi_M → Prop) → Prop) (Q : mi_R → mi_G → mi_M → Prop) : Prop :=
  bif Nat.beq aux 9999 then
    (match st with
    | .inr (.inl (some _)) :: st' => bif Nat.ble (mi_wd st') 8 then K nx ls st' G μ u else False
    | _ => False)
  else bif Nat.beq aux 9998 then
    (match st with
    | .inl n :: .inl dp :: .inr (.inl (some r)) :: .inl sp :: .inr (.inl (some q)) :: st' =>
      bif Nat.ble (mi_wd st') 8 && Nat.blt r G.2.2 && Nat.beq (G.1 r).1 0 && (bif Nat.blt q 1000 then Nat.blt q G.2.2 && Nat.beq (G.1 q).1 0 else Nat.blt q 1006) then
        (0 ≤ sp ∧ 0 ≤ dp ∧ 0 ≤ n ∧ dp + n ≤ ((G.1 r).2 : Int) ∧ sp + n ≤ (bif Nat.blt q 1000 then ((G.1 q).2 : Int) else (mi_rl X q : Int))) ∧
        K nx ls st' G (mi_row μ r (mi_cpy (bif Nat.blt q 1000 then μ q else mi_ro X q) (μ r) sp dp n)) u
      else False
    | _ => False)
  else bif Nat.beq aux 9997 then
    (match st with
    | .inr (.inl (some r)) :: st' => bif Nat.ble (mi_wd st') 8 && Nat.ble 1020 r && Nat.blt r 1029 then K nx ls (.inl (mi_rl X r : Int) :: st') G μ u else False
    | _ => False)
  else bif Nat.beq aux 9996 then
    (match st with
    | .inl j :: .inr (.inl (some r)) :: st' => bif Nat.ble (mi_wd st') 8 && Nat.ble 1020 r && Nat.blt r 1029 then (0 ≤ j ∧ j < (mi_rl X r : Int)) ∧ K nx ls (.inl (mi_ro X r j) :: st') G μ u else False
    | _ => False)
  else (match mi_pop (mi_hd aux).1 st [] with
    | none => False
    | some (as, st') => bif !(mi_rc (mi_hd aux).2.2.2.2.1 G as && Nat.ble (mi_wd st') 8) then False else bif (mi_hd aux).2.2.1 then
        ∃ b : mi_U, (b.1 ≤ u.1 ∧ b.2 ≤ u.2) ∧ C aux as G μ b (fun r G' μ' => match r with
          | .inl v => K nx ls (v.toList ++ st') G' μ' (u.1 - b.1, u.2 - b.2)
          | .inr _ => bif (mi_hd aux).2.2.2.2.2 then (match ex pc with
            | none => Q (.inr ()) (bif ct then G' else Ge) μ'
            | some h => K h.1 (mi_lset ls h.2 none) [] G' μ' (u.1 - b.1, u.2 - b.2)) else False)
      else C aux as G μ (0, 0) (fun r G' μ' => match r with
          | .inl v => K nx ls (v.toList ++ st') G' μ' u
          | .inr _ => False))
/-- a constructor's receiver is a reference -/
noncomputable def ms_hr (aux : Nat) (st : mi_S) : Bool := Nat.beq aux 9999 || (match mi_pop (mi_hd aux).1 st [] with
  | some (.inr (.inl (some _)) :: _, _) => true
  | _ => false)
/-- ONE STEP, by what comes behind it: K goes on in the method, C calls one, Q ends it. ct: the method keeps what it makes; Ge: the cells at its entry; ex: where a throw of a call is caught. -/
noncomputable def ms_st (X : mi_X) (ct : Bool) (ex : Nat → Option (Nat × Nat)) (Ge : mi_G) (i : Instr) (nx aux pc : Nat) (ls : mi_L) (st : mi_S) (G : mi_G) (μ : mi_M) (u : mi_U)
    (K : Nat → mi_L → mi_S → mi_G → mi_M → mi_U → Prop) (C : Nat → List mi_V → mi_G → mi_M → mi_U → (mi_R → mi_G → mi_M → Prop) → Prop) (Q : mi_R → mi_G → mi_M → Prop) : Prop :=
  match i with
  | .iload n => match mi_lget ls n with
    | some (.inl x) => K nx ls (.inl x :: st) G μ u
    | _ => False
  | .iload_n n => match mi_lget ls n.val with
    | some (.inl x) => K nx ls (.inl x :: st) G μ u
    | _ => False
  | .aload n => match mi_lget ls n with
    | some (.inr (.inl (some r))) => K nx ls (.inr (.inl (some r)) :: st) G μ u
    | _ => False
  | .aload_n n => match mi_lget ls n.val with
    | some (.inr (.inl (some r))) => K nx ls (.inr (.inl (some r)) :: st) G μ u
    | _ => False
  | .istore n => match st with
    | .inl x :: st' => bif Nat.blt n ls.length then K nx (mi_lset ls n (some (.inl x))) st' G μ u else False
    | _ => False
  | .istore_n n => match st with
    | .inl x :: st' => bif Nat.blt n.val ls.length then K nx (mi_lset ls n.val (some (.inl x))) st' G μ u else False
    | _ => False
  | .astore n => match st with
    | .inr (.inl (some r)) :: st' => bif Nat.blt n ls.length then K nx (mi_lset ls n (some (.inr (.inl (some r))))) st' G μ u else False
    | _ => False
  | .astore_n n => match st with
    | .inr (.inl (some r)) :: st' => bif Nat.blt n.val ls.length then K nx (mi_lset ls n.val (some (.inr (.inl (some r))))) st' G μ u else False
    | _ => False
  | .iinc n k => match mi_lget ls n with
    | some (.inl x) => bif Nat.blt n ls.length then K nx (mi_lset ls n (some (.inl (x + k)))) st G μ u else False
    | _ => False
  | .iconst k => K nx ls (.inl k :: st) G μ u
  | .bipush k => bif decide (-128 ≤ k) && decide (k < 128) then K nx ls (.inl k :: st) G μ u else False
  | .sipush k => bif decide (-32768 ≤ k) && decide (k < 32768) then K nx ls (.inl k :: st) G μ u else False
  | .ldc _ => bif Nat.blt aux 2147483648 then K nx ls (.inl (aux : Int) :: st) G μ u else K nx ls (.inr (.inl (some (aux - 2147483648))) :: st) G μ u
  | .ldc_w _ => bif Nat.blt aux 2147483648 then K nx ls (.inl (aux : Int) :: st) G μ u else False
  | .iadd => match st with
    | .inl b :: .inl a :: st' => K nx ls (.inl (a + b) :: st') G μ u
    | _ => False
  | .isub => match st with
    | .inl b :: .inl a :: st' => K nx ls (.inl (a - b) :: st') G μ u
    | _ => False
  | .imul => match st with
    | .inl b :: .inl a :: st' => K nx ls (.inl (a * b) :: st') G μ u
    | _ => False
  | .ineg => match st with
    | .inl a :: st' => K nx ls (.inl (-a) :: st') G μ u
    | _ => False
  | .idiv => match st with
    | .inl b :: .inl a :: st' => mi_wr b ≠ 0 ∧ K nx ls (.inl (mi_div a b) :: st') G μ u
    | _ => False
  | .irem => match st with
    | .inl b :: .inl a :: st' => mi_wr b ≠ 0 ∧ K nx ls (.inl (mi_rem a b) :: st') G μ u
    | _ => False
  | .ishl => match st with
    | .inl b :: .inl a :: st' => K nx ls (.inl (mi_shl a b) :: st') G μ u
    | _ => False
  | .ishr => match st with
    | .inl b :: .inl a :: st' => K nx ls (.inl (mi_shr a b) :: st') G μ u
    | _ => False
  | .iushr => match st with
    | .inl b :: .inl a :: st' => K nx ls (.inl (mi_ushr a b) :: st') G μ u
    | _ => False
  | .iand => match st with
    | .inl b :: .inl a :: st' => K nx ls (.inl (mi_and a b) :: st') G μ u
    | _ => False
  | .ior => match st with
    | .inl b :: .inl a :: st' => K nx ls (.inl (mi_or a b) :: st') G μ u
    | _ => False
  | .ixor => match st with
    | .inl b :: .inl a :: st' => K nx ls (.inl (mi_xor a b) :: st') G μ u
    | _ => False
  | .i2b => match st with
    | .inl a :: st' => K nx ls (.inl (mi_i2b a) :: st') G μ u
    | _ => False
  | .i2l => match st with
    | .inl a :: st' => K nx ls (.inr (.inr (mi_wr a)) :: st') G μ u
    | _ => False
  | .lcmp => match st with
    | .inr (.inr b) :: .inr (.inr a) :: st' => K nx ls (.inl (mi_cmpl a b) :: st') G μ u
    | _ => False
  | .dup => match st with
    | .inl a :: st' => K nx ls (.inl a :: .inl a :: st') G μ u
    | .inr (.inl a) :: st' => K nx ls (.inr (.inl a) :: .inr (.inl a) :: st') G μ u
    | _ => False
  | .dup2 => match st with
    | .inl b :: .inr (.inl a) :: st' => K nx ls (.inl b :: .inr (.inl a) :: .inl b :: .inr (.inl a) :: st') G μ u
    | _ => False
  | .pop => match st with
    | .inl _ :: st' => K nx ls st' G μ u
    | _ => False
  | .goto _ => K aux ls st G μ u
  | .if_icmp c _ => match st with
    | .inl b :: .inl a :: st' => match c with
      | .eq => if mi_wr a = mi_wr b then K aux ls st' G μ u else K nx ls st' G μ u
      | .ne => if mi_wr a = mi_wr b then K nx ls st' G μ u else K aux ls st' G μ u
      | .lt => if mi_wr a < mi_wr b then K aux ls st' G μ u else K nx ls st' G μ u
      | .ge => if mi_wr a < mi_wr b then K nx ls st' G μ u else K aux ls st' G μ u
      | .gt => if mi_wr b < mi_wr a then K aux ls st' G μ u else K nx ls st' G μ u
      | .le => if mi_wr b < mi_wr a then K nx ls st' G μ u else K aux ls st' G μ u
    | _ => False
  | .ifCond c _ => match st with
    | .inl a :: st' => match c with
      | .eq => if mi_wr a = 0 then K aux ls st' G μ u else K nx ls st' G μ u
      | .ne => if mi_wr a = 0 then K nx ls st' G μ u else K aux ls st' G μ u
      | .lt => if mi_wr a < 0 then K aux ls st' G μ u else K nx ls st' G μ u
      | .ge => if mi_wr a < 0 then K nx ls st' G μ u else K aux ls st' G μ u
      | .gt => if 0 < mi_wr a then K aux ls st' G μ u else K nx ls st' G μ u
      | .le => if 0 < mi_wr a then K nx ls st' G μ u else K aux ls st' G μ u
    | _ => False
  | .tableswitch d lo _ offs => match st with
    | .inl a :: st' => mi_sw (mi_wr a) (fun o => K ((pc : Int) + o).toNat ls st' G μ u) lo offs.toList d
    | _ => False
  | .getfield _ => match st with
    | .inr (.inl (some r)) :: st' =>
      bif Nat.blt r G.2.2 && Nat.beq (G.1 r).1 (10 + aux / 64) && Nat.blt (aux % 64) (G.1 r).2 then
        (bif mi_fr (aux / 64) (aux % 64) then K nx ls (.inr (.inl (G.2.1 r (aux % 64))) :: st') G μ u
        else K nx ls (.inl (μ r ((aux % 64 : Nat) : Int)) :: st') G μ u)
      else False
    | _ => False
  | .putfield _ => match st with
    | .inl v :: .inr (.inl (some r)) :: st' =>
      bif Nat.blt r G.2.2 && Nat.beq (G.1 r).1 (10 + aux / 64) && Nat.blt (aux % 64) (G.1 r).2 && !(mi_fr (aux / 64) (aux % 64)) then
        (bif Nat.beq aux 0 then (v = 0 ∨ v = 1) ∧ K nx ls st' G (mi_set μ r ((aux % 64 : Nat) : Int) v) u
        else K nx ls st' G (mi_set μ r ((aux % 64 : Nat) : Int) v) u)
      else False
    | .inr (.inl (some q)) :: .inr (.inl (some r)) :: st' =>
      bif ct && Nat.blt r G.2.2 && Nat.blt q G.2.2 && Nat.beq (G.1 r).1 (10 + aux / 64) && Nat.blt (aux % 64) (G.1 r).2 && mi_fr (aux / 64) (aux % 64) then
        K nx ls st' (G.1, mi_up G.2.1 r (mi_up (G.2.1 r) (aux % 64) (some q)), G.2.2) μ u
      else False
    | _ => False
  | .getstatic _ => bif Nat.ble 1000 aux then K nx ls (.inr (.inl (some aux)) :: st) G μ u else False
  | .iaload => match st with
    | .inl j :: .inr (.inl (some r)) :: st' =>
      bif Nat.blt r 1000 then (bif Nat.blt r G.2.2 && Nat.beq (G.1 r).1 0 then (0 ≤ j ∧ j < ((G.1 r).2 : Int)) ∧ K nx ls (.inl (μ r j) :: st') G μ u else False)
      else bif Nat.blt r 1006 || Nat.beq r 1010 then (0 ≤ j ∧ j < (mi_rl X r : Int)) ∧ K nx ls (.inl (mi_ro X r j) :: st') G μ u else False
    | _ => False
  | .baload => match st with
    | .inl j :: .inr (.inl (some r)) :: st' =>
      bif Nat.blt r G.2.2 && Nat.beq (G.1 r).1 1 then (0 ≤ j ∧ j < ((G.1 r).2 : Int)) ∧ K nx ls (.inl (μ r j) :: st') G μ u else False
    | _ => False
  | .laload => match st with
    | .inl j :: .inr (.inl (some r)) :: st' =>
      bif Nat.blt r G.2.2 && Nat.beq (G.1 r).1 2 then (0 ≤ j ∧ j < ((G.1 r).2 : Int)) ∧ K nx ls (.inr (.inr (μ r j)) :: st') G μ u else False
    | _ => False
  | .aaload => match st with
    | .inl j :: .inr (.inl (some r)) :: st' =>
      bif Nat.blt r G.2.2 && (Nat.beq (G.1 r).1 3 || Nat.beq (G.1 r).1 4) then (0 ≤ j ∧ j < ((G.1 r).2 : Int)) ∧ K nx ls (.inr (.inl (G.2.1 r j.toNat)) :: st') G μ u else False
    | _ => False
  | .iastore => match st with
    | .inl v :: .inl j :: .inr (.inl (some r)) :: st' =>
      bif Nat.blt r G.2.2 && Nat.beq (G.1 r).1 0 then (0 ≤ j ∧ j < ((G.1 r).2 : Int)) ∧ K nx ls st' G (mi_set μ r j v) u else False
    | _ => False
  | .bastore => match st with
    | .inl v :: .inl j :: .inr (.inl (some r)) :: st' =>
      bif Nat.blt r G.2.2 && Nat.beq (G.1 r).1 1 then (0 ≤ j ∧ j < ((G.1 r).2 : Int)) ∧ K nx ls st' G (mi_set μ r j (mi_i2b v)) u else False
    | _ => False
  | .lastore => match st with
    | .inr (.inr v) :: .inl j :: .inr (.inl (some r)) :: st' =>
      bif Nat.blt r G.2.2 && Nat.beq (G.1 r).1 2 then (0 ≤ j ∧ j < ((G.1 r).2 : Int)) ∧ K nx ls st' G (mi_set μ r j v) u else False
    | _ => False
  | .aastore => match st with
    | .inr (.inl (some q)) :: .inl j :: .inr (.inl (some r)) :: st' =>
      bif ct && Nat.blt r G.2.2 && Nat.blt q G.2.2 && ((Nat.beq (G.1 r).1 3 && Nat.beq (G.1 q).1 19) || (Nat.beq (G.1 r).1 4 && Nat.beq (G.1 q).1 10)) then
        (0 ≤ j ∧ j < ((G.1 r).2 : Int)) ∧ K nx ls st' (G.1, mi_up G.2.1 r (mi_up (G.2.1 r) j.toNat (some q)), G.2.2) μ u else False
    | _ => False
  | .arraylength => match st with
    | .inr (.inl (some r)) :: st' => bif Nat.beq r 1010 then K nx ls (.inl (mi_rl X r : Int) :: st') G μ u else False
    | _ => False
  | .newarray t => match st with
    | .inl z :: st' =>
      bif Nat.blt G.2.2 999 && decide (0 ≤ z) && decide (z ≤ 4096) then
        (1 ≤ u.1 ∧ z.toNat ≤ u.2) ∧ K nx ls (.inr (.inl (some G.2.2)) :: st') (mi_up G.1 G.2.2 (match t with | .int => 0 | .byte => 1 | .long => 2 | _ => 5, z.toNat), mi_up G.2.1 G.2.2 (fun _ => none), G.2.2 + 1) (mi_row μ G.2.2 (fun _ => 0)) (u.1 - 1, u.2 - z.toNat)
      else False
    | _ => False
  | .anewarray _ => match st with
    | .inl z :: st' =>
      bif ct && Nat.blt G.2.2 999 && (Nat.beq aux 3 || Nat.beq aux 4) && decide (0 ≤ z) && decide (z ≤ 4096) then
        (1 ≤ u.1 ∧ z.toNat ≤ u.2) ∧ K nx ls (.inr (.inl (some G.2.2)) :: st') (mi_up G.1 G.2.2 (aux, z.toNat), mi_up G.2.1 G.2.2 (fun _ => none), G.2.2 + 1) (mi_row μ G.2.2 (fun _ => 0)) (u.1 - 1, u.2 - z.toNat)
      else False
    | _ => False
  | .new _ =>
    bif Nat.beq aux 9995 && Nat.ble (mi_wd st) 8 then (1 ≤ u.1 ∧ 6 ≤ u.2) ∧ Q (.inr ()) (bif ct then G else Ge) μ
    else bif ct && Nat.blt G.2.2 999 && Nat.blt aux 9995 then
      (1 ≤ u.1 ∧ aux % 64 ≤ u.2) ∧ K nx ls (.inr (.inl (some G.2.2)) :: st) (mi_up G.1 G.2.2 (10 + aux / 64, aux % 64), mi_up G.2.1 G.2.2 (fun _ => none), G.2.2 + 1) (mi_row μ G.2.2 (fun _ => 0)) (u.1 - 1, u.2 - aux % 64)
    else False
  | .ireturn => match st with
    | [.inl z] => bif Nat.beq aux 1 then (z = 0 ∨ z = 1) ∧ Q (.inl (some (.inl z))) (bif ct then G else Ge) μ else Q (.inl (some (.inl z))) (bif ct then G else Ge) μ
    | _ => False
  | .return_ => match st with
    | [] => Q (.inl none) (bif ct then G else Ge) μ
    | _ => False
  | .invokestatic _ => ms_inv X ct ex Ge nx aux pc ls st G μ u K C Q
  | .invokevirtual _ => ms_inv X ct ex Ge nx aux pc ls st G μ u K C Q
  | .invokespecial _ => bif ms_hr aux st then ms_inv X ct ex Ge nx aux pc ls st G μ u K C Q else False
  | _ => False
/-- n steps within a method, up to the places where it is to stop -/
noncomputable def ms_un (X : mi_X) (tb : mi_T) (stop : Nat → Bool) (ct : Bool) (ex : Nat → Option (Nat × Nat)) (Ge : mi_G) (K : Nat → mi_L → mi_S → mi_G → mi_M → mi_U → Prop) (C : Nat → List mi_V → mi_G → mi_M → mi_U → (mi_R → mi_G → mi_M → Prop) → Prop) (Q : mi_R → mi_G → mi_M → Prop) : Nat → Nat → mi_L → mi_S → mi_G → mi_M → mi_U → Prop
  | 0, pc, ls, st, G, μ, u => K pc ls st G μ u
  | n + 1, pc, ls, st, G, μ, u => match mi_at tb pc with
    | none => False
    | some e => ms_st X ct ex Ge e.1 e.2.1 e.2.2 pc ls st G μ u (fun pc' ls' st' G' μ' u' => bif stop pc' then K pc' ls' st' G' μ' u' else ms_un X tb stop ct ex Ge K C Q n pc' ls' st' G' μ' u') C Q
