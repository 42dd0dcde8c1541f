/-! PRINTED by wip/whole/gen/mka39.py: the law, road by road -/
def mi_Gz : mi_G := (mi_Gk, mi_Gr, 0)
-- TwoViewsLaw.law([I)Z (1010,)
noncomputable def mk256_1010_23 (X : mi_X) (Q : mi_R → mi_G → mi_M → Prop) (u : mi_U) (l4 : Int) (μ : mi_M) : Prop := ∀ o5 o6 : Option mi_V, mi_ok X 256 mi_Gz Q 23 [some (.inr (.inl (some 1010))), some (.inr (.inl (some 0))), some (.inr (.inl (some 86))), some (.inr (.inl (some 103))), some (.inl l4), o5, o6] [] mi_G0 μ u
noncomputable def mk256_1010_204 (X : mi_X) (Q : mi_R → mi_G → mi_M → Prop) (u : mi_U) (l4 : Int) (μ : mi_M) : Prop := ∀ o5 o6 : Option mi_V, mi_ok X 256 mi_Gz Q 204 [some (.inr (.inl (some 1010))), some (.inr (.inl (some 0))), some (.inr (.inl (some 86))), some (.inr (.inl (some 103))), some (.inl l4), o5, o6] [] mi_G0 μ u
noncomputable def mk256_1010_277 (X : mi_X) (Q : mi_R → mi_G → mi_M → Prop) (u : mi_U) (l4 : Int) (μ : mi_M) : Prop := ∀ o5 o6 : Option mi_V, mi_ok X 256 mi_Gz Q 277 [some (.inr (.inl (some 1010))), some (.inr (.inl (some 0))), some (.inr (.inl (some 86))), some (.inr (.inl (some 103))), some (.inl l4), o5, o6] [] mi_G0 μ u
noncomputable def mk256_1010_302 (X : mi_X) (Q : mi_R → mi_G → mi_M → Prop) (u : mi_U) (l4 : Int) (μ : mi_M) : Prop := ∀ o5 o6 : Option mi_V, mi_ok X 256 mi_Gz Q 302 [some (.inr (.inl (some 1010))), some (.inr (.inl (some 0))), some (.inr (.inl (some 86))), some (.inr (.inl (some 103))), some (.inl l4), o5, o6] [] mi_G0 μ u
noncomputable def mk256_1010_339 (X : mi_X) (Q : mi_R → mi_G → mi_M → Prop) (u : mi_U) (l4 : Int) (μ : mi_M) : Prop := ∀ o5 o6 : Option mi_V, mi_ok X 256 mi_Gz Q 339 [some (.inr (.inl (some 1010))), some (.inr (.inl (some 0))), some (.inr (.inl (some 86))), some (.inr (.inl (some 103))), some (.inl l4), o5, o6] [] mi_G0 μ u
noncomputable def mk256_1010_400 (X : mi_X) (Q : mi_R → mi_G → mi_M → Prop) (u : mi_U) (l4 : Int) (μ : mi_M) : Prop := ∀ o5 o6 : Option mi_V, mi_ok X 256 mi_Gz Q 400 [some (.inr (.inl (some 1010))), some (.inr (.inl (some 0))), some (.inr (.inl (some 86))), some (.inr (.inl (some 103))), some (.inl l4), o5, o6] [] mi_G0 μ u
noncomputable def mk256_1010_437 (X : mi_X) (Q : mi_R → mi_G → mi_M → Prop) (u : mi_U) (l4 : Int) (μ : mi_M) : Prop := ∀ o5 o6 : Option mi_V, mi_ok X 256 mi_Gz Q 437 [some (.inr (.inl (some 1010))), some (.inr (.inl (some 0))), some (.inr (.inl (some 86))), some (.inr (.inl (some 103))), some (.inl l4), o5, o6] [] mi_G0 μ u
noncomputable def mk256_1010_524 (X : mi_X) (Q : mi_R → mi_G → mi_M → Prop) (u : mi_U) (l4 : Int) (μ : mi_M) : Prop := ∀ o5 o6 : Option mi_V, mi_ok X 256 mi_Gz Q 524 [some (.inr (.inl (some 1010))), some (.inr (.inl (some 0))), some (.inr (.inl (some 86))), some (.inr (.inl (some 103))), some (.inl l4), o5, o6] [] mi_G0 μ u
noncomputable def mk256_1010_537 (X : mi_X) (Q : mi_R → mi_G → mi_M → Prop) (u : mi_U) (l4 : Int) (μ : mi_M) : Prop := ∀ o5 o6 : Option mi_V, mi_ok X 256 mi_Gz Q 537 [some (.inr (.inl (some 1010))), some (.inr (.inl (some 0))), some (.inr (.inl (some 86))), some (.inr (.inl (some 103))), some (.inl l4), o5, o6] [] mi_G0 μ u
noncomputable def mk256_1010_550 (X : mi_X) (Q : mi_R → mi_G → mi_M → Prop) (u : mi_U) (l4 : Int) (μ : mi_M) : Prop := ∀ o5 o6 : Option mi_V, mi_ok X 256 mi_Gz Q 550 [some (.inr (.inl (some 1010))), some (.inr (.inl (some 0))), some (.inr (.inl (some 86))), some (.inr (.inl (some 103))), some (.inl l4), o5, o6] [] mi_G0 μ u
noncomputable def mk256_1010_599 (X : mi_X) (Q : mi_R → mi_G → mi_M → Prop) (u : mi_U) (l4 : Int) (μ : mi_M) : Prop := ∀ o5 o6 : Option mi_V, mi_ok X 256 mi_Gz Q 599 [some (.inr (.inl (some 1010))), some (.inr (.inl (some 0))), some (.inr (.inl (some 86))), some (.inr (.inl (some 103))), some (.inl l4), o5, o6] [] mi_G0 μ u
noncomputable def mk256_1010_679 (X : mi_X) (Q : mi_R → mi_G → mi_M → Prop) (u : mi_U) (l4 : Int) (μ : mi_M) : Prop := ∀ o5 o6 : Option mi_V, mi_ok X 256 mi_Gz Q 679 [some (.inr (.inl (some 1010))), some (.inr (.inl (some 0))), some (.inr (.inl (some 86))), some (.inr (.inl (some 103))), some (.inl l4), o5, o6] [] mi_G0 μ u
noncomputable def mk256_1010_759 (X : mi_X) (Q : mi_R → mi_G → mi_M → Prop) (u : mi_U) (l4 : Int) (μ : mi_M) : Prop := ∀ o5 o6 : Option mi_V, mi_ok X 256 mi_Gz Q 759 [some (.inr (.inl (some 1010))), some (.inr (.inl (some 0))), some (.inr (.inl (some 86))), some (.inr (.inl (some 103))), some (.inl l4), o5, o6] [] mi_G0 μ u
noncomputable def mk256_1010_839 (X : mi_X) (Q : mi_R → mi_G → mi_M → Prop) (u : mi_U) (l4 : Int) (μ : mi_M) : Prop := ∀ o5 o6 : Option mi_V, mi_ok X 256 mi_Gz Q 839 [some (.inr (.inl (some 1010))), some (.inr (.inl (some 0))), some (.inr (.inl (some 86))), some (.inr (.inl (some 103))), some (.inl l4), o5, o6] [] mi_G0 μ u
noncomputable def mk256_1010_864 (X : mi_X) (Q : mi_R → mi_G → mi_M → Prop) (u : mi_U) (l4 : Int) (μ : mi_M) : Prop := ∀ o5 o6 : Option mi_V, mi_ok X 256 mi_Gz Q 864 [some (.inr (.inl (some 1010))), some (.inr (.inl (some 0))), some (.inr (.inl (some 86))), some (.inr (.inl (some 103))), some (.inl l4), o5, o6] [] mi_G0 μ u
noncomputable def mk256_1010_913 (X : mi_X) (Q : mi_R → mi_G → mi_M → Prop) (u : mi_U) (l4 : Int) (μ : mi_M) : Prop := ∀ o5 o6 : Option mi_V, mi_ok X 256 mi_Gz Q 913 [some (.inr (.inl (some 1010))), some (.inr (.inl (some 0))), some (.inr (.inl (some 86))), some (.inr (.inl (some 103))), some (.inl l4), o5, o6] [] mi_G0 μ u
noncomputable def mk256_1010_974 (X : mi_X) (Q : mi_R → mi_G → mi_M → Prop) (u : mi_U) (l4 : Int) (μ : mi_M) : Prop := ∀ o5 o6 : Option mi_V, mi_ok X 256 mi_Gz Q 974 [some (.inr (.inl (some 1010))), some (.inr (.inl (some 0))), some (.inr (.inl (some 86))), some (.inr (.inl (some 103))), some (.inl l4), o5, o6] [] mi_G0 μ u
noncomputable def mk256_1010_1023 (X : mi_X) (Q : mi_R → mi_G → mi_M → Prop) (u : mi_U) (l4 : Int) (μ : mi_M) : Prop := ∀ o5 o6 : Option mi_V, mi_ok X 256 mi_Gz Q 1023 [some (.inr (.inl (some 1010))), some (.inr (.inl (some 0))), some (.inr (.inl (some 86))), some (.inr (.inl (some 103))), some (.inl l4), o5, o6] [] mi_G0 μ u
noncomputable def mk256_1010_1103 (X : mi_X) (Q : mi_R → mi_G → mi_M → Prop) (u : mi_U) (l4 : Int) (μ : mi_M) : Prop := ∀ o5 o6 : Option mi_V, mi_ok X 256 mi_Gz Q 1103 [some (.inr (.inl (some 1010))), some (.inr (.inl (some 0))), some (.inr (.inl (some 86))), some (.inr (.inl (some 103))), some (.inl l4), o5, o6] [] mi_G0 μ u
noncomputable def mk256_1010_1171 (X : mi_X) (Q : mi_R → mi_G → mi_M → Prop) (u : mi_U) (l4 : Int) (μ : mi_M) : Prop := ∀ o5 o6 : Option mi_V, mi_ok X 256 mi_Gz Q 1171 [some (.inr (.inl (some 1010))), some (.inr (.inl (some 0))), some (.inr (.inl (some 86))), some (.inr (.inl (some 103))), some (.inl l4), o5, o6] [] mi_G0 μ u
noncomputable def mk256_1010_1220 (X : mi_X) (Q : mi_R → mi_G → mi_M → Prop) (u : mi_U) (l4 : Int) (μ : mi_M) : Prop := ∀ o5 o6 : Option mi_V, mi_ok X 256 mi_Gz Q 1220 [some (.inr (.inl (some 1010))), some (.inr (.inl (some 0))), some (.inr (.inl (some 86))), some (.inr (.inl (some 103))), some (.inl l4), o5, o6] [] mi_G0 μ u
noncomputable def mk256_1010_1257 (X : mi_X) (Q : mi_R → mi_G → mi_M → Prop) (u : mi_U) (l4 : Int) (μ : mi_M) : Prop := ∀ o5 o6 : Option mi_V, mi_ok X 256 mi_Gz Q 1257 [some (.inr (.inl (some 1010))), some (.inr (.inl (some 0))), some (.inr (.inl (some 86))), some (.inr (.inl (some 103))), some (.inl l4), o5, o6] [] mi_G0 μ u
noncomputable def mk256_1010_1306 (X : mi_X) (Q : mi_R → mi_G → mi_M → Prop) (u : mi_U) (l4 : Int) (μ : mi_M) : Prop := ∀ o5 o6 : Option mi_V, mi_ok X 256 mi_Gz Q 1306 [some (.inr (.inl (some 1010))), some (.inr (.inl (some 0))), some (.inr (.inl (some 86))), some (.inr (.inl (some 103))), some (.inl l4), o5, o6] [] mi_G0 μ u
noncomputable def mk256_1010_1343 (X : mi_X) (Q : mi_R → mi_G → mi_M → Prop) (u : mi_U) (l4 : Int) (μ : mi_M) : Prop := ∀ o5 o6 : Option mi_V, mi_ok X 256 mi_Gz Q 1343 [some (.inr (.inl (some 1010))), some (.inr (.inl (some 0))), some (.inr (.inl (some 86))), some (.inr (.inl (some 103))), some (.inl l4), o5, o6] [] mi_G0 μ u
noncomputable def mk256_1010_1392 (X : mi_X) (Q : mi_R → mi_G → mi_M → Prop) (u : mi_U) (l4 : Int) (μ : mi_M) : Prop := ∀ o5 o6 : Option mi_V, mi_ok X 256 mi_Gz Q 1392 [some (.inr (.inl (some 1010))), some (.inr (.inl (some 0))), some (.inr (.inl (some 86))), some (.inr (.inl (some 103))), some (.inl l4), o5, o6] [] mi_G0 μ u
noncomputable def mk256_1010_1460 (X : mi_X) (Q : mi_R → mi_G → mi_M → Prop) (u : mi_U) (l4 : Int) (μ : mi_M) : Prop := ∀ o5 o6 : Option mi_V, mi_ok X 256 mi_Gz Q 1460 [some (.inr (.inl (some 1010))), some (.inr (.inl (some 0))), some (.inr (.inl (some 86))), some (.inr (.inl (some 103))), some (.inl l4), o5, o6] [] mi_G0 μ u
noncomputable def mk256_1010_1485 (X : mi_X) (Q : mi_R → mi_G → mi_M → Prop) (u : mi_U) (l4 : Int) (μ : mi_M) : Prop := ∀ o5 o6 : Option mi_V, mi_ok X 256 mi_Gz Q 1485 [some (.inr (.inl (some 1010))), some (.inr (.inl (some 0))), some (.inr (.inl (some 86))), some (.inr (.inl (some 103))), some (.inl l4), o5, o6] [] mi_G0 μ u
noncomputable def mk256_1010_1522 (X : mi_X) (Q : mi_R → mi_G → mi_M → Prop) (u : mi_U) (l4 : Int) (μ : mi_M) : Prop := ∀ o5 o6 : Option mi_V, mi_ok X 256 mi_Gz Q 1522 [some (.inr (.inl (some 1010))), some (.inr (.inl (some 0))), some (.inr (.inl (some 86))), some (.inr (.inl (some 103))), some (.inl l4), o5, o6] [] mi_G0 μ u
noncomputable def mk256_1010_1571 (X : mi_X) (Q : mi_R → mi_G → mi_M → Prop) (u : mi_U) (l4 : Int) (μ : mi_M) : Prop := ∀ o5 o6 : Option mi_V, mi_ok X 256 mi_Gz Q 1571 [some (.inr (.inl (some 1010))), some (.inr (.inl (some 0))), some (.inr (.inl (some 86))), some (.inr (.inl (some 103))), some (.inl l4), o5, o6] [] mi_G0 μ u
noncomputable def mk256_1010_1596 (X : mi_X) (Q : mi_R → mi_G → mi_M → Prop) (u : mi_U) (l4 : Int) (μ : mi_M) : Prop := ∀ o5 o6 : Option mi_V, mi_ok X 256 mi_Gz Q 1596 [some (.inr (.inl (some 1010))), some (.inr (.inl (some 0))), some (.inr (.inl (some 86))), some (.inr (.inl (some 103))), some (.inl l4), o5, o6] [] mi_G0 μ u
noncomputable def mk256_1010_1676 (X : mi_X) (Q : mi_R → mi_G → mi_M → Prop) (u : mi_U) (l4 : Int) (μ : mi_M) : Prop := ∀ o5 o6 : Option mi_V, mi_ok X 256 mi_Gz Q 1676 [some (.inr (.inl (some 1010))), some (.inr (.inl (some 0))), some (.inr (.inl (some 86))), some (.inr (.inl (some 103))), some (.inl l4), o5, o6] [] mi_G0 μ u
noncomputable def mk256_1010_1744 (X : mi_X) (Q : mi_R → mi_G → mi_M → Prop) (u : mi_U) (l4 : Int) (μ : mi_M) : Prop := ∀ o5 o6 : Option mi_V, mi_ok X 256 mi_Gz Q 1744 [some (.inr (.inl (some 1010))), some (.inr (.inl (some 0))), some (.inr (.inl (some 86))), some (.inr (.inl (some 103))), some (.inl l4), o5, o6] [] mi_G0 μ u
noncomputable def mk256_1010_1781 (X : mi_X) (Q : mi_R → mi_G → mi_M → Prop) (u : mi_U) (l4 : Int) (μ : mi_M) : Prop := ∀ o5 o6 : Option mi_V, mi_ok X 256 mi_Gz Q 1781 [some (.inr (.inl (some 1010))), some (.inr (.inl (some 0))), some (.inr (.inl (some 86))), some (.inr (.inl (some 103))), some (.inl l4), o5, o6] [] mi_G0 μ u
noncomputable def mk256_1010_1806 (X : mi_X) (Q : mi_R → mi_G → mi_M → Prop) (u : mi_U) (l4 : Int) (μ : mi_M) : Prop := ∀ o5 o6 : Option mi_V, mi_ok X 256 mi_Gz Q 1806 [some (.inr (.inl (some 1010))), some (.inr (.inl (some 0))), some (.inr (.inl (some 86))), some (.inr (.inl (some 103))), some (.inl l4), o5, o6] [] mi_G0 μ u
noncomputable def mk256_1010_1843 (X : mi_X) (Q : mi_R → mi_G → mi_M → Prop) (u : mi_U) (l4 : Int) (μ : mi_M) : Prop := ∀ o5 o6 : Option mi_V, mi_ok X 256 mi_Gz Q 1843 [some (.inr (.inl (some 1010))), some (.inr (.inl (some 0))), some (.inr (.inl (some 86))), some (.inr (.inl (some 103))), some (.inl l4), o5, o6] [] mi_G0 μ u
noncomputable def mk256_1010_1856 (X : mi_X) (Q : mi_R → mi_G → mi_M → Prop) (u : mi_U) (l4 : Int) (μ : mi_M) : Prop := ∀ o5 o6 : Option mi_V, mi_ok X 256 mi_Gz Q 1856 [some (.inr (.inl (some 1010))), some (.inr (.inl (some 0))), some (.inr (.inl (some 86))), some (.inr (.inl (some 103))), some (.inl l4), o5, o6] [] mi_G0 μ u
noncomputable def mk256_1010_1881 (X : mi_X) (Q : mi_R → mi_G → mi_M → Prop) (u : mi_U) (l4 : Int) (μ : mi_M) : Prop := ∀ o5 o6 : Option mi_V, mi_ok X 256 mi_Gz Q 1881 [some (.inr (.inl (some 1010))), some (.inr (.inl (some 0))), some (.inr (.inl (some 86))), some (.inr (.inl (some 103))), some (.inl l4), o5, o6] [] mi_G0 μ u
noncomputable def mk256_1010_1906 (X : mi_X) (Q : mi_R → mi_G → mi_M → Prop) (u : mi_U) (l4 : Int) (μ : mi_M) : Prop := ∀ o5 o6 : Option mi_V, mi_ok X 256 mi_Gz Q 1906 [some (.inr (.inl (some 1010))), some (.inr (.inl (some 0))), some (.inr (.inl (some 86))), some (.inr (.inl (some 103))), some (.inl l4), o5, o6] [] mi_G0 μ u
noncomputable def mk256_1010_1931 (X : mi_X) (Q : mi_R → mi_G → mi_M → Prop) (u : mi_U) (l4 : Int) (μ : mi_M) : Prop := ∀ o5 o6 : Option mi_V, mi_ok X 256 mi_Gz Q 1931 [some (.inr (.inl (some 1010))), some (.inr (.inl (some 0))), some (.inr (.inl (some 86))), some (.inr (.inl (some 103))), some (.inl l4), o5, o6] [] mi_G0 μ u
def ms256_1010 (pc : Nat) : Bool := Nat.beq pc 23 || Nat.beq pc 204 || Nat.beq pc 277 || Nat.beq pc 302 || Nat.beq pc 339 || Nat.beq pc 400 || Nat.beq pc 437 || Nat.beq pc 524 || Nat.beq pc 537 || Nat.beq pc 550 || Nat.beq pc 599 || Nat.beq pc 679 || Nat.beq pc 759 || Nat.beq pc 839 || Nat.beq pc 864 || Nat.beq pc 913 || Nat.beq pc 974 || Nat.beq pc 1023 || Nat.beq pc 1103 || Nat.beq pc 1171 || Nat.beq pc 1220 || Nat.beq pc 1257 || Nat.beq pc 1306 || Nat.beq pc 1343 || Nat.beq pc 1392 || Nat.beq pc 1460 || Nat.beq pc 1485 || Nat.beq pc 1522 || Nat.beq pc 1571 || Nat.beq pc 1596 || Nat.beq pc 1676 || Nat.beq pc 1744 || Nat.beq pc 1781 || Nat.beq pc 1806 || Nat.beq pc 1843 || Nat.beq pc 1856 || Nat.beq pc 1881 || Nat.beq pc 1906 || Nat.beq pc 1931
theorem mh256_1010_23 {X : mi_X} {Q : mi_R → mi_G → mi_M → Prop} {u : mi_U} {l4 : Int} {μ : mi_M} (h :
  if mi_wr ((mi_rl X 1010 : Int) - 7) < mi_wr l4 then (
    Q (.inl (some (.inl 1))) mi_G0 μ)
  else (
    (0 ≤ l4 ∧ l4 < (mi_rl X 1010 : Int)) ∧
    if mi_wr (mi_and (mi_ro X 1010 l4) 63) = 0 then (
      mk256_1010_204 X Q u l4 μ)
    else (
      if mi_wr (mi_and (mi_ro X 1010 l4) 63) = (0 + 1) then (
        mk256_1010_277 X Q u l4 μ)
      else (
        if mi_wr (mi_and (mi_ro X 1010 l4) 63) = (0 + 1 + 1) then (
          mk256_1010_302 X Q u l4 μ)
        else (
          if mi_wr (mi_and (mi_ro X 1010 l4) 63) = (0 + 1 + 1 + 1) then (
            mk256_1010_339 X Q u l4 μ)
          else (
            if mi_wr (mi_and (mi_ro X 1010 l4) 63) = (0 + 1 + 1 + 1 + 1) then (
              mk256_1010_400 X Q u l4 μ)
            else (
              if mi_wr (mi_and (mi_ro X 1010 l4) 63) = (0 + 1 + 1 + 1 + 1 + 1) then (
                mk256_1010_437 X Q u l4 μ)
              else (
                if mi_wr (mi_and (mi_ro X 1010 l4) 63) = (0 + 1 + 1 + 1 + 1 + 1 + 1) then (
                  mk256_1010_524 X Q u l4 μ)
                else (
                  if mi_wr (mi_and (mi_ro X 1010 l4) 63) = (0 + 1 + 1 + 1 + 1 + 1 + 1 + 1) then (
                    mk256_1010_537 X Q u l4 μ)
                  else (
                    if mi_wr (mi_and (mi_ro X 1010 l4) 63) = (0 + 1 + 1 + 1 + 1 + 1 + 1 + 1 + 1) then (
                      mk256_1010_550 X Q u l4 μ)
                    else (
                      if mi_wr (mi_and (mi_ro X 1010 l4) 63) = (0 + 1 + 1 + 1 + 1 + 1 + 1 + 1 + 1 + 1) then (
                        mk256_1010_599 X Q u l4 μ)
                      else (
                        if mi_wr (mi_and (mi_ro X 1010 l4) 63) = (0 + 1 + 1 + 1 + 1 + 1 + 1 + 1 + 1 + 1 + 1) then (
                          mk256_1010_679 X Q u l4 μ)
                        else (
                          if mi_wr (mi_and (mi_ro X 1010 l4) 63) = (0 + 1 + 1 + 1 + 1 + 1 + 1 + 1 + 1 + 1 + 1 + 1) then (
                            mk256_1010_759 X Q u l4 μ)
                          else (
                            if mi_wr (mi_and (mi_ro X 1010 l4) 63) = (0 + 1 + 1 + 1 + 1 + 1 + 1 + 1 + 1 + 1 + 1 + 1 + 1) then (
                              mk256_1010_839 X Q u l4 μ)
                            else (
                              if mi_wr (mi_and (mi_ro X 1010 l4) 63) = (0 + 1 + 1 + 1 + 1 + 1 + 1 + 1 + 1 + 1 + 1 + 1 + 1 + 1) then (
                                mk256_1010_864 X Q u l4 μ)
                              else (
                                if mi_wr (mi_and (mi_ro X 1010 l4) 63) = (0 + 1 + 1 + 1 + 1 + 1 + 1 + 1 + 1 + 1 + 1 + 1 + 1 + 1 + 1) then (
                                  mk256_1010_913 X Q u l4 μ)
                                else (
                                  if mi_wr (mi_and (mi_ro X 1010 l4) 63) = (0 + 1 + 1 + 1 + 1 + 1 + 1 + 1 + 1 + 1 + 1 + 1 + 1 + 1 + 1 + 1) then (
                                    mk256_1010_974 X Q u l4 μ)
                                  else (
                                    if mi_wr (mi_and (mi_ro X 1010 l4) 63) = (0 + 1 + 1 + 1 + 1 + 1 + 1 + 1 + 1 + 1 + 1 + 1 + 1 + 1 + 1 + 1 + 1) then (
                                      mk256_1010_1023 X Q u l4 μ)
                                    else (
                                      if mi_wr (mi_and (mi_ro X 1010 l4) 63) = (0 + 1 + 1 + 1 + 1 + 1 + 1 + 1 + 1 + 1 + 1 + 1 + 1 + 1 + 1 + 1 + 1 + 1) then (
                                        mk256_1010_1103 X Q u l4 μ)
                                      else (
                                        if mi_wr (mi_and (mi_ro X 1010 l4) 63) = (0 + 1 + 1 + 1 + 1 + 1 + 1 + 1 + 1 + 1 + 1 + 1 + 1 + 1 + 1 + 1 + 1 + 1 + 1) then (
                                          mk256_1010_1171 X Q u l4 μ)
                                        else (
                                          if mi_wr (mi_and (mi_ro X 1010 l4) 63) = (0 + 1 + 1 + 1 + 1 + 1 + 1 + 1 + 1 + 1 + 1 + 1 + 1 + 1 + 1 + 1 + 1 + 1 + 1 + 1) then (
                                            mk256_1010_1220 X Q u l4 μ)
                                          else (
                                            if mi_wr (mi_and (mi_ro X 1010 l4) 63) = (0 + 1 + 1 + 1 + 1 + 1 + 1 + 1 + 1 + 1 + 1 + 1 + 1 + 1 + 1 + 1 + 1 + 1 + 1 + 1 + 1) then (
                                              mk256_1010_1257 X Q u l4 μ)
                                            else (
                                              if mi_wr (mi_and (mi_ro X 1010 l4) 63) = (0 + 1 + 1 + 1 + 1 + 1 + 1 + 1 + 1 + 1 + 1 + 1 + 1 + 1 + 1 + 1 + 1 + 1 + 1 + 1 + 1 + 1) then (
                                                mk256_1010_1306 X Q u l4 μ)
                                              else (
                                                if mi_wr (mi_and (mi_ro X 1010 l4) 63) = (0 + 1 + 1 + 1 + 1 + 1 + 1 + 1 + 1 + 1 + 1 + 1 + 1 + 1 + 1 + 1 + 1 + 1 + 1 + 1 + 1 + 1 + 1) then (
                                                  mk256_1010_1343 X Q u l4 μ)
                                                else (
                                                  if mi_wr (mi_and (mi_ro X 1010 l4) 63) = (0 + 1 + 1 + 1 + 1 + 1 + 1 + 1 + 1 + 1 + 1 + 1 + 1 + 1 + 1 + 1 + 1 + 1 + 1 + 1 + 1 + 1 + 1 + 1) then (
                                                    mk256_1010_1392 X Q u l4 μ)
                                                  else (
                                                    if mi_wr (mi_and (mi_ro X 1010 l4) 63) = (0 + 1 + 1 + 1 + 1 + 1 + 1 + 1 + 1 + 1 + 1 + 1 + 1 + 1 + 1 + 1 + 1 + 1 + 1 + 1 + 1 + 1 + 1 + 1 + 1) then (
                                                      mk256_1010_1460 X Q u l4 μ)
                                                    else (
                                                      if mi_wr (mi_and (mi_ro X 1010 l4) 63) = (0 + 1 + 1 + 1 + 1 + 1 + 1 + 1 + 1 + 1 + 1 + 1 + 1 + 1 + 1 + 1 + 1 + 1 + 1 + 1 + 1 + 1 + 1 + 1 + 1 + 1) then (
                                                        mk256_1010_1485 X Q u l4 μ)
                                                      else (
                                                        if mi_wr (mi_and (mi_ro X 1010 l4) 63) = (0 + 1 + 1 + 1 + 1 + 1 + 1 + 1 + 1 + 1 + 1 + 1 + 1 + 1 + 1 + 1 + 1 + 1 + 1 + 1 + 1 + 1 + 1 + 1 + 1 + 1 + 1) then (
                                                          mk256_1010_1522 X Q u l4 μ)
                                                        else (
                                                          if mi_wr (mi_and (mi_ro X 1010 l4) 63) = (0 + 1 + 1 + 1 + 1 + 1 + 1 + 1 + 1 + 1 + 1 + 1 + 1 + 1 + 1 + 1 + 1 + 1 + 1 + 1 + 1 + 1 + 1 + 1 + 1 + 1 + 1 + 1) then (
                                                            mk256_1010_1571 X Q u l4 μ)
                                                          else (
                                                            if mi_wr (mi_and (mi_ro X 1010 l4) 63) = (0 + 1 + 1 + 1 + 1 + 1 + 1 + 1 + 1 + 1 + 1 + 1 + 1 + 1 + 1 + 1 + 1 + 1 + 1 + 1 + 1 + 1 + 1 + 1 + 1 + 1 + 1 + 1 + 1) then (
                                                              mk256_1010_1596 X Q u l4 μ)
                                                            else (
                                                              if mi_wr (mi_and (mi_ro X 1010 l4) 63) = (0 + 1 + 1 + 1 + 1 + 1 + 1 + 1 + 1 + 1 + 1 + 1 + 1 + 1 + 1 + 1 + 1 + 1 + 1 + 1 + 1 + 1 + 1 + 1 + 1 + 1 + 1 + 1 + 1 + 1) then (
                                                                mk256_1010_1676 X Q u l4 μ)
                                                              else (
                                                                if mi_wr (mi_and (mi_ro X 1010 l4) 63) = (0 + 1 + 1 + 1 + 1 + 1 + 1 + 1 + 1 + 1 + 1 + 1 + 1 + 1 + 1 + 1 + 1 + 1 + 1 + 1 + 1 + 1 + 1 + 1 + 1 + 1 + 1 + 1 + 1 + 1 + 1) then (
                                                                  mk256_1010_1744 X Q u l4 μ)
                                                                else (
                                                                  if mi_wr (mi_and (mi_ro X 1010 l4) 63) = (0 + 1 + 1 + 1 + 1 + 1 + 1 + 1 + 1 + 1 + 1 + 1 + 1 + 1 + 1 + 1 + 1 + 1 + 1 + 1 + 1 + 1 + 1 + 1 + 1 + 1 + 1 + 1 + 1 + 1 + 1 + 1) then (
                                                                    mk256_1010_1781 X Q u l4 μ)
                                                                  else (
                                                                    if mi_wr (mi_and (mi_ro X 1010 l4) 63) = (0 + 1 + 1 + 1 + 1 + 1 + 1 + 1 + 1 + 1 + 1 + 1 + 1 + 1 + 1 + 1 + 1 + 1 + 1 + 1 + 1 + 1 + 1 + 1 + 1 + 1 + 1 + 1 + 1 + 1 + 1 + 1 + 1) then (
                                                                      mk256_1010_1806 X Q u l4 μ)
                                                                    else (
                                                                      if mi_wr (mi_and (mi_ro X 1010 l4) 63) = (0 + 1 + 1 + 1 + 1 + 1 + 1 + 1 + 1 + 1 + 1 + 1 + 1 + 1 + 1 + 1 + 1 + 1 + 1 + 1 + 1 + 1 + 1 + 1 + 1 + 1 + 1 + 1 + 1 + 1 + 1 + 1 + 1 + 1) then (
                                                                        mk256_1010_1843 X Q u l4 μ)
                                                                      else (
                                                                        if mi_wr (mi_and (mi_ro X 1010 l4) 63) = (0 + 1 + 1 + 1 + 1 + 1 + 1 + 1 + 1 + 1 + 1 + 1 + 1 + 1 + 1 + 1 + 1 + 1 + 1 + 1 + 1 + 1 + 1 + 1 + 1 + 1 + 1 + 1 + 1 + 1 + 1 + 1 + 1 + 1 + 1) then (
                                                                          mk256_1010_1856 X Q u l4 μ)
                                                                        else (
                                                                          if mi_wr (mi_and (mi_ro X 1010 l4) 63) = (0 + 1 + 1 + 1 + 1 + 1 + 1 + 1 + 1 + 1 + 1 + 1 + 1 + 1 + 1 + 1 + 1 + 1 + 1 + 1 + 1 + 1 + 1 + 1 + 1 + 1 + 1 + 1 + 1 + 1 + 1 + 1 + 1 + 1 + 1 + 1) then (
                                                                            mk256_1010_1881 X Q u l4 μ)
                                                                          else (
                                                                            if mi_wr (mi_and (mi_ro X 1010 l4) 63) = (0 + 1 + 1 + 1 + 1 + 1 + 1 + 1 + 1 + 1 + 1 + 1 + 1 + 1 + 1 + 1 + 1 + 1 + 1 + 1 + 1 + 1 + 1 + 1 + 1 + 1 + 1 + 1 + 1 + 1 + 1 + 1 + 1 + 1 + 1 + 1 + 1) then (
                                                                              mk256_1010_1906 X Q u l4 μ)
                                                                            else (
                                                                              mk256_1010_1931 X Q u l4 μ))))))))))))))))))))))))))))))))))))))) : mk256_1010_23 X Q u l4 μ :=
  fun o5 o6 => ms_run (stop := ms256_1010) (by decide) rfl (fun _ _ _ _ _ _ h => h) 1264 23 _ _ _ _ _ (mi_ite (fun h205 => (And.intro (by decide : (1 : Int) = 0 ∨ (1 : Int) = 1) h205)) (fun h205 => (And.intro h205.1 (mi_ite (fun h206 => (h206 _ _)) (fun h206 => (mi_ite (fun h207 => (h207 _ _)) (fun h207 => (mi_ite (fun h208 => (h208 _ _)) (fun h208 => (mi_ite (fun h209 => (h209 _ _)) (fun h209 => (mi_ite (fun h210 => (h210 _ _)) (fun h210 => (mi_ite (fun h211 => (h211 _ _)) (fun h211 => (mi_ite (fun h212 => (h212 _ _)) (fun h212 => (mi_ite (fun h213 => (h213 _ _)) (fun h213 => (mi_ite (fun h214 => (h214 _ _)) (fun h214 => (mi_ite (fun h215 => (h215 _ _)) (fun h215 => (mi_ite (fun h216 => (h216 _ _)) (fun h216 => (mi_ite (fun h217 => (h217 _ _)) (fun h217 => (mi_ite (fun h218 => (h218 _ _)) (fun h218 => (mi_ite (fun h219 => (h219 _ _)) (fun h219 => (mi_ite (fun h220 => (h220 _ _)) (fun h220 => (mi_ite (fun h221 => (h221 _ _)) (fun h221 => (mi_ite (fun h222 => (h222 _ _)) (fun h222 => (mi_ite (fun h223 => (h223 _ _)) (fun h223 => (mi_ite (fun h224 => (h224 _ _)) (fun h224 => (mi_ite (fun h225 => (h225 _ _)) (fun h225 => (mi_ite (fun h226 => (h226 _ _)) (fun h226 => (mi_ite (fun h227 => (h227 _ _)) (fun h227 => (mi_ite (fun h228 => (h228 _ _)) (fun h228 => (mi_ite (fun h229 => (h229 _ _)) (fun h229 => (mi_ite (fun h230 => (h230 _ _)) (fun h230 => (mi_ite (fun h231 => (h231 _ _)) (fun h231 => (mi_ite (fun h232 => (h232 _ _)) (fun h232 => (mi_ite (fun h233 => (h233 _ _)) (fun h233 => (mi_ite (fun h234 => (h234 _ _)) (fun h234 => (mi_ite (fun h235 => (h235 _ _)) (fun h235 => (mi_ite (fun h236 => (h236 _ _)) (fun h236 => (mi_ite (fun h237 => (h237 _ _)) (fun h237 => (mi_ite (fun h238 => (h238 _ _)) (fun h238 => (mi_ite (fun h239 => (h239 _ _)) (fun h239 => (mi_ite (fun h240 => (h240 _ _)) (fun h240 => (mi_ite (fun h241 => (h241 _ _)) (fun h241 => (mi_ite (fun h242 => (h242 _ _)) (fun h242 => (h242 _ _)) h241)) h240)) h239)) h238)) h237)) h236)) h235)) h234)) h233)) h232)) h231)) h230)) h229)) h228)) h227)) h226)) h225)) h224)) h223)) h222)) h221)) h220)) h219)) h218)) h217)) h216)) h215)) h214)) h213)) h212)) h211)) h210)) h209)) h208)) h207)) h206)) h205.2))) h)
theorem mh256_1010_204 {X : mi_X} {Q : mi_R → mi_G → mi_M → Prop} {u : mi_U} {l4 : Int} {μ : mi_M} (h :
  (0 ≤ (l4 + 1) ∧ (l4 + 1) < (mi_rl X 1010 : Int)) ∧
  (0 ≤ (l4 + 2) ∧ (l4 + 2) < (mi_rl X 1010 : Int)) ∧
  (0 ≤ (l4 + 3) ∧ (l4 + 3) < (mi_rl X 1010 : Int)) ∧
  (0 ≤ (l4 + 4) ∧ (l4 + 4) < (mi_rl X 1010 : Int)) ∧
  (0 ≤ (l4 + 5) ∧ (l4 + 5) < (mi_rl X 1010 : Int)) ∧
  mp97r (mi_ro X 1010 (l4 + 1)) (mi_ro X 1010 (l4 + 2)) (mi_ro X 1010 (l4 + 3)) (mi_ro X 1010 (l4 + 4)) (mi_ro X 1010 (l4 + 5)) μ ∧
  (∀ (v0 : Int) (μ0 : mi_M), mq97r (mi_ro X 1010 (l4 + 1)) (mi_ro X 1010 (l4 + 2)) (mi_ro X 1010 (l4 + 3)) (mi_ro X 1010 (l4 + 4)) (mi_ro X 1010 (l4 + 5)) μ v0 μ0 →
  (0 ≤ (l4 + 1) ∧ (l4 + 1) < (mi_rl X 1010 : Int)) ∧
  (0 ≤ (l4 + 2) ∧ (l4 + 2) < (mi_rl X 1010 : Int)) ∧
  (0 ≤ (l4 + 3) ∧ (l4 + 3) < (mi_rl X 1010 : Int)) ∧
  (0 ≤ (l4 + 4) ∧ (l4 + 4) < (mi_rl X 1010 : Int)) ∧
  (0 ≤ (l4 + 5) ∧ (l4 + 5) < (mi_rl X 1010 : Int)) ∧
  mp154_86 (mi_ro X 1010 (l4 + 1)) (mi_ro X 1010 (l4 + 2)) (mi_ro X 1010 (l4 + 3)) (mi_ro X 1010 (l4 + 4)) (mi_ro X 1010 (l4 + 5)) μ0 ∧
  (∀ (v1 : Int) (μ1 : mi_M), mq154_86 (mi_ro X 1010 (l4 + 1)) (mi_ro X 1010 (l4 + 2)) (mi_ro X 1010 (l4 + 3)) (mi_ro X 1010 (l4 + 4)) (mi_ro X 1010 (l4 + 5)) μ0 v1 μ1 →
  if mi_wr v0 = mi_wr v1 then (
    mk256_1010_1931 X Q u l4 μ1)
  else (
    Q (.inl (some (.inl 0))) mi_G0 μ1)))) : mk256_1010_204 X Q u l4 μ :=
  fun o5 o6 => ms_run (stop := ms256_1010) (by decide) rfl (fun _ _ _ _ _ _ h => h) 1264 204 _ _ _ _ _ (And.intro h.1 (And.intro h.2.1 (And.intro h.2.2.1 (And.intro h.2.2.2.1 (And.intro h.2.2.2.2.1 (mc97r h.2.2.2.2.2.1 (fun v0 μ0 h243 => (have h244 := (h.2.2.2.2.2.2 v0 μ0 h243); (And.intro h244.1 (And.intro h244.2.1 (And.intro h244.2.2.1 (And.intro h244.2.2.2.1 (And.intro h244.2.2.2.2.1 (mc154_86 h244.2.2.2.2.2.1 (fun v1 μ1 h245 => (have h246 := (h244.2.2.2.2.2.2 v1 μ1 h245); (mi_ite (fun h247 => (h247 _ _)) (fun h247 => (And.intro (by decide : (0 : Int) = 0 ∨ (0 : Int) = 1) h247)) h246)))))))))))))))))
theorem mh256_1010_277 {X : mi_X} {Q : mi_R → mi_G → mi_M → Prop} {u : mi_U} {l4 : Int} {μ : mi_M} (h :
  (0 ≤ (l4 + 1) ∧ (l4 + 1) < (mi_rl X 1010 : Int)) ∧
  mp98_0 (mi_ro X 1010 (l4 + 1)) μ ∧
  (∀ (v0 : Int) (μ0 : mi_M), mq98_0 (mi_ro X 1010 (l4 + 1)) μ v0 μ0 →
  (0 ≤ (l4 + 1) ∧ (l4 + 1) < (mi_rl X 1010 : Int)) ∧
  (988 ≤ (u).1 ∧ 6916 ≤ (u).2) ∧
  mp168_86 (mi_ro X 1010 (l4 + 1)) μ0 ∧
  (∀ (v1 : Int) (μ1 : mi_M), mq168_86 (mi_ro X 1010 (l4 + 1)) μ0 v1 μ1 →
  if mi_wr v0 = mi_wr v1 then (
    mk256_1010_1931 X Q ((u).1 - 988, (u).2 - 6916) l4 μ1)
  else (
    Q (.inl (some (.inl 0))) mi_G0 μ1)))) : mk256_1010_277 X Q u l4 μ :=
  fun o5 o6 => ms_run (stop := ms256_1010) (by decide) rfl (fun _ _ _ _ _ _ h => h) 1264 277 _ _ _ _ _ (And.intro h.1 (mc98_0 h.2.1 (fun v0 μ0 h248 => (have h249 := (h.2.2 v0 μ0 h248); (And.intro h249.1 ⟨(988, 6916), h249.2.1, mc168_86 (h249.2.2).1 (fun v1 μ1 h250 => (have h251 := (((h249.2.2).2) v1 μ1 h250); (mi_ite (fun h252 => (h252 _ _)) (fun h252 => (And.intro (by decide : (0 : Int) = 0 ∨ (0 : Int) = 1) h252)) h251)))⟩)))))
theorem mh256_1010_302 {X : mi_X} {Q : mi_R → mi_G → mi_M → Prop} {u : mi_U} {l4 : Int} {μ : mi_M} (h :
  (0 ≤ (l4 + 1) ∧ (l4 + 1) < (mi_rl X 1010 : Int)) ∧
  (0 ≤ (l4 + 2) ∧ (l4 + 2) < (mi_rl X 1010 : Int)) ∧
  mp99_0 (mi_ro X 1010 (l4 + 1)) (mi_ro X 1010 (l4 + 2)) μ ∧
  (∀ (v0 : Int) (μ0 : mi_M), mq99_0 (mi_ro X 1010 (l4 + 1)) (mi_ro X 1010 (l4 + 2)) μ v0 μ0 →
  (0 ≤ (l4 + 1) ∧ (l4 + 1) < (mi_rl X 1010 : Int)) ∧
  (0 ≤ (l4 + 2) ∧ (l4 + 2) < (mi_rl X 1010 : Int)) ∧
  mp169_86 (mi_ro X 1010 (l4 + 1)) (mi_ro X 1010 (l4 + 2)) μ0 ∧
  (∀ (v1 : Int) (μ1 : mi_M), mq169_86 (mi_ro X 1010 (l4 + 1)) (mi_ro X 1010 (l4 + 2)) μ0 v1 μ1 →
  if mi_wr v0 = mi_wr v1 then (
    mk256_1010_1931 X Q u l4 μ1)
  else (
    Q (.inl (some (.inl 0))) mi_G0 μ1)))) : mk256_1010_302 X Q u l4 μ :=
  fun o5 o6 => ms_run (stop := ms256_1010) (by decide) rfl (fun _ _ _ _ _ _ h => h) 1264 302 _ _ _ _ _ (And.intro h.1 (And.intro h.2.1 (mc99_0 h.2.2.1 (fun v0 μ0 h253 => (have h254 := (h.2.2.2 v0 μ0 h253); (And.intro h254.1 (And.intro h254.2.1 (mc169_86 h254.2.2.1 (fun v1 μ1 h255 => (have h256 := (h254.2.2.2 v1 μ1 h255); (mi_ite (fun h257 => (h257 _ _)) (fun h257 => (And.intro (by decide : (0 : Int) = 0 ∨ (0 : Int) = 1) h257)) h256)))))))))))
theorem mh256_1010_339 {X : mi_X} {Q : mi_R → mi_G → mi_M → Prop} {u : mi_U} {l4 : Int} {μ : mi_M} (h :
  (0 ≤ (l4 + 1) ∧ (l4 + 1) < (mi_rl X 1010 : Int)) ∧
  (0 ≤ (l4 + 2) ∧ (l4 + 2) < (mi_rl X 1010 : Int)) ∧
  (0 ≤ (l4 + 3) ∧ (l4 + 3) < (mi_rl X 1010 : Int)) ∧
  (0 ≤ (l4 + 4) ∧ (l4 + 4) < (mi_rl X 1010 : Int)) ∧
  mp100_0 (mi_ro X 1010 (l4 + 1)) (mi_ro X 1010 (l4 + 2)) (mi_ro X 1010 (l4 + 3)) (mi_ro X 1010 (l4 + 4)) μ ∧
  (∀ (v0 : Int) (μ0 : mi_M), mq100_0 (mi_ro X 1010 (l4 + 1)) (mi_ro X 1010 (l4 + 2)) (mi_ro X 1010 (l4 + 3)) (mi_ro X 1010 (l4 + 4)) μ v0 μ0 →
  (0 ≤ (l4 + 1) ∧ (l4 + 1) < (mi_rl X 1010 : Int)) ∧
  (0 ≤ (l4 + 2) ∧ (l4 + 2) < (mi_rl X 1010 : Int)) ∧
  (0 ≤ (l4 + 3) ∧ (l4 + 3) < (mi_rl X 1010 : Int)) ∧
  (0 ≤ (l4 + 4) ∧ (l4 + 4) < (mi_rl X 1010 : Int)) ∧
  mp170_86 (mi_ro X 1010 (l4 + 1)) (mi_ro X 1010 (l4 + 2)) (mi_ro X 1010 (l4 + 3)) (mi_ro X 1010 (l4 + 4)) μ0 ∧
  (∀ (v1 : Int) (μ1 : mi_M), mq170_86 (mi_ro X 1010 (l4 + 1)) (mi_ro X 1010 (l4 + 2)) (mi_ro X 1010 (l4 + 3)) (mi_ro X 1010 (l4 + 4)) μ0 v1 μ1 →
  if mi_wr v0 = mi_wr v1 then (
    mk256_1010_1931 X Q u l4 μ1)
  else (
    Q (.inl (some (.inl 0))) mi_G0 μ1)))) : mk256_1010_339 X Q u l4 μ :=
  fun o5 o6 => ms_run (stop := ms256_1010) (by decide) rfl (fun _ _ _ _ _ _ h => h) 1264 339 _ _ _ _ _ (And.intro h.1 (And.intro h.2.1 (And.intro h.2.2.1 (And.intro h.2.2.2.1 (mc100_0 h.2.2.2.2.1 (fun v0 μ0 h258 => (have h259 := (h.2.2.2.2.2 v0 μ0 h258); (And.intro h259.1 (And.intro h259.2.1 (And.intro h259.2.2.1 (And.intro h259.2.2.2.1 (mc170_86 h259.2.2.2.2.1 (fun v1 μ1 h260 => (have h261 := (h259.2.2.2.2.2 v1 μ1 h260); (mi_ite (fun h262 => (h262 _ _)) (fun h262 => (And.intro (by decide : (0 : Int) = 0 ∨ (0 : Int) = 1) h262)) h261)))))))))))))))
theorem mh256_1010_400 {X : mi_X} {Q : mi_R → mi_G → mi_M → Prop} {u : mi_U} {l4 : Int} {μ : mi_M} (h :
  (0 ≤ (l4 + 1) ∧ (l4 + 1) < (mi_rl X 1010 : Int)) ∧
  (0 ≤ (l4 + 2) ∧ (l4 + 2) < (mi_rl X 1010 : Int)) ∧
  mp101_0 (mi_ro X 1010 (l4 + 1)) (mi_ro X 1010 (l4 + 2)) μ ∧
  (∀ (v0 : Int) (μ0 : mi_M), mq101_0 (mi_ro X 1010 (l4 + 1)) (mi_ro X 1010 (l4 + 2)) μ v0 μ0 →
  (0 ≤ (l4 + 1) ∧ (l4 + 1) < (mi_rl X 1010 : Int)) ∧
  (0 ≤ (l4 + 2) ∧ (l4 + 2) < (mi_rl X 1010 : Int)) ∧
  mp172_86 (mi_ro X 1010 (l4 + 1)) (mi_ro X 1010 (l4 + 2)) μ0 ∧
  (∀ (v1 : Int) (μ1 : mi_M), mq172_86 (mi_ro X 1010 (l4 + 1)) (mi_ro X 1010 (l4 + 2)) μ0 v1 μ1 →
  if mi_wr v0 = mi_wr v1 then (
    mk256_1010_1931 X Q u l4 μ1)
  else (
    Q (.inl (some (.inl 0))) mi_G0 μ1)))) : mk256_1010_400 X Q u l4 μ :=
  fun o5 o6 => ms_run (stop := ms256_1010) (by decide) rfl (fun _ _ _ _ _ _ h => h) 1264 400 _ _ _ _ _ (And.intro h.1 (And.intro h.2.1 (mc101_0 h.2.2.1 (fun v0 μ0 h263 => (have h264 := (h.2.2.2 v0 μ0 h263); (And.intro h264.1 (And.intro h264.2.1 (mc172_86 h264.2.2.1 (fun v1 μ1 h265 => (have h266 := (h264.2.2.2 v1 μ1 h265); (mi_ite (fun h267 => (h267 _ _)) (fun h267 => (And.intro (by decide : (0 : Int) = 0 ∨ (0 : Int) = 1) h267)) h266)))))))))))
theorem mh256_1010_437 {X : mi_X} {Q : mi_R → mi_G → mi_M → Prop} {u : mi_U} {l4 : Int} {μ : mi_M} (h :
  (0 ≤ (l4 + 1) ∧ (l4 + 1) < (mi_rl X 1010 : Int)) ∧
  (0 ≤ (l4 + 2) ∧ (l4 + 2) < (mi_rl X 1010 : Int)) ∧
  (0 ≤ (l4 + 3) ∧ (l4 + 3) < (mi_rl X 1010 : Int)) ∧
  (0 ≤ (l4 + 4) ∧ (l4 + 4) < (mi_rl X 1010 : Int)) ∧
  (0 ≤ (l4 + 5) ∧ (l4 + 5) < (mi_rl X 1010 : Int)) ∧
  (0 ≤ (l4 + 6) ∧ (l4 + 6) < (mi_rl X 1010 : Int)) ∧
  mp102_0 (mi_ro X 1010 (l4 + 1)) (mi_ro X 1010 (l4 + 2)) (mi_ro X 1010 (l4 + 3)) (mi_ro X 1010 (l4 + 4)) (mi_ro X 1010 (l4 + 5)) (mi_ro X 1010 (l4 + 6)) μ ∧
  (0 ≤ (l4 + 1) ∧ (l4 + 1) < (mi_rl X 1010 : Int)) ∧
  (0 ≤ (l4 + 2) ∧ (l4 + 2) < (mi_rl X 1010 : Int)) ∧
  (0 ≤ (l4 + 3) ∧ (l4 + 3) < (mi_rl X 1010 : Int)) ∧
  (0 ≤ (l4 + 4) ∧ (l4 + 4) < (mi_rl X 1010 : Int)) ∧
  (0 ≤ (l4 + 5) ∧ (l4 + 5) < (mi_rl X 1010 : Int)) ∧
  (0 ≤ (l4 + 6) ∧ (l4 + 6) < (mi_rl X 1010 : Int)) ∧
  mp173_86 (mi_ro X 1010 (l4 + 1)) (mi_ro X 1010 (l4 + 2)) (mi_ro X 1010 (l4 + 3)) (mi_ro X 1010 (l4 + 4)) (mi_ro X 1010 (l4 + 5)) (mi_ro X 1010 (l4 + 6)) (mm102_0 (mi_ro X 1010 (l4 + 1)) (mi_ro X 1010 (l4 + 2)) (mi_ro X 1010 (l4 + 3)) (mi_ro X 1010 (l4 + 4)) (mi_ro X 1010 (l4 + 5)) (mi_ro X 1010 (l4 + 6)) μ) ∧
  if mi_wr (mv102_0 (mi_ro X 1010 (l4 + 1)) (mi_ro X 1010 (l4 + 2)) (mi_ro X 1010 (l4 + 3)) (mi_ro X 1010 (l4 + 4)) (mi_ro X 1010 (l4 + 5)) (mi_ro X 1010 (l4 + 6)) μ) = mi_wr (mv173_86 (mi_ro X 1010 (l4 + 1)) (mi_ro X 1010 (l4 + 2)) (mi_ro X 1010 (l4 + 3)) (mi_ro X 1010 (l4 + 4)) (mi_ro X 1010 (l4 + 5)) (mi_ro X 1010 (l4 + 6)) (mm102_0 (mi_ro X 1010 (l4 + 1)) (mi_ro X 1010 (l4 + 2)) (mi_ro X 1010 (l4 + 3)) (mi_ro X 1010 (l4 + 4)) (mi_ro X 1010 (l4 + 5)) (mi_ro X 1010 (l4 + 6)) μ)) then (
    mk256_1010_1931 X Q u l4 (mm173_86 (mi_ro X 1010 (l4 + 1)) (mi_ro X 1010 (l4 + 2)) (mi_ro X 1010 (l4 + 3)) (mi_ro X 1010 (l4 + 4)) (mi_ro X 1010 (l4 + 5)) (mi_ro X 1010 (l4 + 6)) (mm102_0 (mi_ro X 1010 (l4 + 1)) (mi_ro X 1010 (l4 + 2)) (mi_ro X 1010 (l4 + 3)) (mi_ro X 1010 (l4 + 4)) (mi_ro X 1010 (l4 + 5)) (mi_ro X 1010 (l4 + 6)) μ)))
  else (
    Q (.inl (some (.inl 0))) mi_G0 (mm173_86 (mi_ro X 1010 (l4 + 1)) (mi_ro X 1010 (l4 + 2)) (mi_ro X 1010 (l4 + 3)) (mi_ro X 1010 (l4 + 4)) (mi_ro X 1010 (l4 + 5)) (mi_ro X 1010 (l4 + 6)) (mm102_0 (mi_ro X 1010 (l4 + 1)) (mi_ro X 1010 (l4 + 2)) (mi_ro X 1010 (l4 + 3)) (mi_ro X 1010 (l4 + 4)) (mi_ro X 1010 (l4 + 5)) (mi_ro X 1010 (l4 + 6)) μ)))) : mk256_1010_437 X Q u l4 μ :=
  fun o5 o6 => ms_run (stop := ms256_1010) (by decide) rfl (fun _ _ _ _ _ _ h => h) 1264 437 _ _ _ _ _ (And.intro h.1 (And.intro h.2.1 (And.intro h.2.2.1 (And.intro h.2.2.2.1 (And.intro h.2.2.2.2.1 (And.intro h.2.2.2.2.2.1 (mc102_0 h.2.2.2.2.2.2.1 (And.intro h.2.2.2.2.2.2.2.1 (And.intro h.2.2.2.2.2.2.2.2.1 (And.intro h.2.2.2.2.2.2.2.2.2.1 (And.intro h.2.2.2.2.2.2.2.2.2.2.1 (And.intro h.2.2.2.2.2.2.2.2.2.2.2.1 (And.intro h.2.2.2.2.2.2.2.2.2.2.2.2.1 (mc173_86 h.2.2.2.2.2.2.2.2.2.2.2.2.2.1 (mi_ite (fun h268 => (h268 _ _)) (fun h268 => (And.intro (by decide : (0 : Int) = 0 ∨ (0 : Int) = 1) h268)) h.2.2.2.2.2.2.2.2.2.2.2.2.2.2)))))))))))))))
theorem mh256_1010_524 {X : mi_X} {Q : mi_R → mi_G → mi_M → Prop} {u : mi_U} {l4 : Int} {μ : mi_M} (h :
  if mi_wr (mv103_0 μ) = mi_wr (mv174_86 (mm103_0 μ)) then (
    mk256_1010_1931 X Q u l4 (mm174_86 (mm103_0 μ)))
  else (
    Q (.inl (some (.inl 0))) mi_G0 (mm174_86 (mm103_0 μ)))) : mk256_1010_524 X Q u l4 μ :=
  fun o5 o6 => ms_run (stop := ms256_1010) (by decide) rfl (fun _ _ _ _ _ _ h => h) 1264 524 _ _ _ _ _ (mc103_0 (mc174_86 (mi_ite (fun h269 => (h269 _ _)) (fun h269 => (And.intro (by decide : (0 : Int) = 0 ∨ (0 : Int) = 1) h269)) h)))
theorem mh256_1010_537 {X : mi_X} {Q : mi_R → mi_G → mi_M → Prop} {u : mi_U} {l4 : Int} {μ : mi_M} (h :
  mp104_0 μ ∧
  (∀ (v0 : Int) (μ0 : mi_M), mq104_0 μ v0 μ0 →
  mp178_86 μ0 ∧
  (∀ (v1 : Int) (μ1 : mi_M), mq178_86 μ0 v1 μ1 →
  if mi_wr v0 = mi_wr v1 then (
    mk256_1010_1931 X Q u l4 μ1)
  else (
    Q (.inl (some (.inl 0))) mi_G0 μ1)))) : mk256_1010_537 X Q u l4 μ :=
  fun o5 o6 => ms_run (stop := ms256_1010) (by decide) rfl (fun _ _ _ _ _ _ h => h) 1264 537 _ _ _ _ _ (mc104_0 h.1 (fun v0 μ0 h270 => (have h271 := (h.2 v0 μ0 h270); (mc178_86 h271.1 (fun v1 μ1 h272 => (have h273 := (h271.2 v1 μ1 h272); (mi_ite (fun h274 => (h274 _ _)) (fun h274 => (And.intro (by decide : (0 : Int) = 0 ∨ (0 : Int) = 1) h274)) h273)))))))
theorem mh256_1010_550 {X : mi_X} {Q : mi_R → mi_G → mi_M → Prop} {u : mi_U} {l4 : Int} {μ : mi_M} (h :
  (0 ≤ (l4 + 1) ∧ (l4 + 1) < (mi_rl X 1010 : Int)) ∧
  (0 ≤ (l4 + 2) ∧ (l4 + 2) < (mi_rl X 1010 : Int)) ∧
  (0 ≤ (l4 + 3) ∧ (l4 + 3) < (mi_rl X 1010 : Int)) ∧
  mp105r (mi_ro X 1010 (l4 + 1)) (mi_ro X 1010 (l4 + 2)) (mi_ro X 1010 (l4 + 3)) μ ∧
  (∀ (v0 : Int) (μ0 : mi_M), mq105r (mi_ro X 1010 (l4 + 1)) (mi_ro X 1010 (l4 + 2)) (mi_ro X 1010 (l4 + 3)) μ v0 μ0 →
  (0 ≤ (l4 + 1) ∧ (l4 + 1) < (mi_rl X 1010 : Int)) ∧
  (0 ≤ (l4 + 2) ∧ (l4 + 2) < (mi_rl X 1010 : Int)) ∧
  (0 ≤ (l4 + 3) ∧ (l4 + 3) < (mi_rl X 1010 : Int)) ∧
  mp181r (mi_ro X 1010 (l4 + 1)) (mi_ro X 1010 (l4 + 2)) (mi_ro X 1010 (l4 + 3)) μ0 ∧
  (∀ (v1 : Int) (μ1 : mi_M), mq181r (mi_ro X 1010 (l4 + 1)) (mi_ro X 1010 (l4 + 2)) (mi_ro X 1010 (l4 + 3)) μ0 v1 μ1 →
  if mi_wr v0 = mi_wr v1 then (
    mk256_1010_1931 X Q u l4 μ1)
  else (
    Q (.inl (some (.inl 0))) mi_G0 μ1)))) : mk256_1010_550 X Q u l4 μ :=
  fun o5 o6 => ms_run (stop := ms256_1010) (by decide) rfl (fun _ _ _ _ _ _ h => h) 1264 550 _ _ _ _ _ (And.intro h.1 (And.intro h.2.1 (And.intro h.2.2.1 (mc105r h.2.2.2.1 (fun v0 μ0 h275 => (have h276 := (h.2.2.2.2 v0 μ0 h275); (And.intro h276.1 (And.intro h276.2.1 (And.intro h276.2.2.1 (mc181r h276.2.2.2.1 (fun v1 μ1 h277 => (have h278 := (h276.2.2.2.2 v1 μ1 h277); (mi_ite (fun h279 => (h279 _ _)) (fun h279 => (And.intro (by decide : (0 : Int) = 0 ∨ (0 : Int) = 1) h279)) h278)))))))))))))
theorem mh256_1010_599 {X : mi_X} {Q : mi_R → mi_G → mi_M → Prop} {u : mi_U} {l4 : Int} {μ : mi_M} (h :
  (0 ≤ (l4 + 1) ∧ (l4 + 1) < (mi_rl X 1010 : Int)) ∧
  (0 ≤ (l4 + 2) ∧ (l4 + 2) < (mi_rl X 1010 : Int)) ∧
  (0 ≤ (l4 + 3) ∧ (l4 + 3) < (mi_rl X 1010 : Int)) ∧
  (1 ≤ (u).1 ∧ 6 ≤ (u).2) ∧
  mp248_0_103 (mi_ro X 1010 (l4 + 1)) (mi_ro X 1010 (l4 + 2)) (mi_ro X 1010 (l4 + 3)) μ ∧
  (∀ (v0 : Int) (μ0 : mi_M), mq248_0_103 (mi_ro X 1010 (l4 + 1)) (mi_ro X 1010 (l4 + 2)) (mi_ro X 1010 (l4 + 3)) μ v0 μ0 →
  (0 ≤ (l4 + 1) ∧ (l4 + 1) < (mi_rl X 1010 : Int)) ∧
  (0 ≤ (l4 + 2) ∧ (l4 + 2) < (mi_rl X 1010 : Int)) ∧
  (0 ≤ (l4 + 3) ∧ (l4 + 3) < (mi_rl X 1010 : Int)) ∧
  mp182r (mi_ro X 1010 (l4 + 1)) (mi_ro X 1010 (l4 + 2)) (mi_ro X 1010 (l4 + 3)) μ0 ∧
  (∀ (v1 : Int) (μ1 : mi_M), mq182r (mi_ro X 1010 (l4 + 1)) (mi_ro X 1010 (l4 + 2)) (mi_ro X 1010 (l4 + 3)) μ0 v1 μ1 →
  if mi_wr (mv143_86 μ1) = mi_wr v0 then (
    if mi_wr v0 = 0 then (
      if mi_wr (mi_cmpl (μ1 103 0) (mi_wr v1)) = 0 then (
        mk256_1010_1931 X Q ((u).1 - 1, (u).2 - 6) l4 μ1)
      else (
        Q (.inl (some (.inl 0))) mi_G0 μ1))
    else (
      mk256_1010_1931 X Q ((u).1 - 1, (u).2 - 6) l4 μ1))
  else (
    Q (.inl (some (.inl 0))) mi_G0 μ1)))) : mk256_1010_599 X Q u l4 μ :=
  fun o5 o6 => ms_run (stop := ms256_1010) (by decide) rfl (fun _ _ _ _ _ _ h => h) 1264 599 _ _ _ _ _ (And.intro h.1 (And.intro h.2.1 (And.intro h.2.2.1 ⟨(1, 6), h.2.2.2.1, mc248_0_103 (h.2.2.2.2).1 (fun v0 μ0 h280 => (have h281 := (((h.2.2.2.2).2) v0 μ0 h280); (And.intro h281.1 (And.intro h281.2.1 (And.intro h281.2.2.1 (mc182r h281.2.2.2.1 (fun v1 μ1 h282 => (have h283 := (h281.2.2.2.2 v1 μ1 h282); (mc143_86 (mi_ite (fun h284 => (mi_ite (fun h285 => (And.intro (⟨by decide, by decide⟩ : (0 : Int) ≤ 0 ∧ (0 : Int) < 1) (mi_ite (fun h286 => (h286 _ _)) (fun h286 => (And.intro (by decide : (0 : Int) = 0 ∨ (0 : Int) = 1) h286)) h285))) (fun h285 => (h285 _ _)) h284)) (fun h284 => (And.intro (by decide : (0 : Int) = 0 ∨ (0 : Int) = 1) h284)) h283))))))))))⟩)))
theorem mh256_1010_679 {X : mi_X} {Q : mi_R → mi_G → mi_M → Prop} {u : mi_U} {l4 : Int} {μ : mi_M} (h :
  (0 ≤ (l4 + 1) ∧ (l4 + 1) < (mi_rl X 1010 : Int)) ∧
  (0 ≤ (l4 + 2) ∧ (l4 + 2) < (mi_rl X 1010 : Int)) ∧
  (0 ≤ (l4 + 3) ∧ (l4 + 3) < (mi_rl X 1010 : Int)) ∧
  (1 ≤ (u).1 ∧ 6 ≤ (u).2) ∧
  mp249_0_103 (mi_ro X 1010 (l4 + 1)) (mi_ro X 1010 (l4 + 2)) (mi_ro X 1010 (l4 + 3)) μ ∧
  (∀ (v0 : Int) (μ0 : mi_M), mq249_0_103 (mi_ro X 1010 (l4 + 1)) (mi_ro X 1010 (l4 + 2)) (mi_ro X 1010 (l4 + 3)) μ v0 μ0 →
  (0 ≤ (l4 + 1) ∧ (l4 + 1) < (mi_rl X 1010 : Int)) ∧
  (0 ≤ (l4 + 2) ∧ (l4 + 2) < (mi_rl X 1010 : Int)) ∧
  (0 ≤ (l4 + 3) ∧ (l4 + 3) < (mi_rl X 1010 : Int)) ∧
  mp187_86 (mi_ro X 1010 (l4 + 1)) (mi_ro X 1010 (l4 + 2)) (mi_ro X 1010 (l4 + 3)) μ0 ∧
  (∀ (v1 : Int) (μ1 : mi_M), mq187_86 (mi_ro X 1010 (l4 + 1)) (mi_ro X 1010 (l4 + 2)) (mi_ro X 1010 (l4 + 3)) μ0 v1 μ1 →
  if mi_wr (mv143_86 μ1) = mi_wr v0 then (
    if mi_wr v0 = 0 then (
      if mi_wr (mi_cmpl (μ1 103 0) (mi_wr v1)) = 0 then (
        mk256_1010_1931 X Q ((u).1 - 1, (u).2 - 6) l4 μ1)
      else (
        Q (.inl (some (.inl 0))) mi_G0 μ1))
    else (
      mk256_1010_1931 X Q ((u).1 - 1, (u).2 - 6) l4 μ1))
  else (
    Q (.inl (some (.inl 0))) mi_G0 μ1)))) : mk256_1010_679 X Q u l4 μ :=
  fun o5 o6 => ms_run (stop := ms256_1010) (by decide) rfl (fun _ _ _ _ _ _ h => h) 1264 679 _ _ _ _ _ (And.intro h.1 (And.intro h.2.1 (And.intro h.2.2.1 ⟨(1, 6), h.2.2.2.1, mc249_0_103 (h.2.2.2.2).1 (fun v0 μ0 h287 => (have h288 := (((h.2.2.2.2).2) v0 μ0 h287); (And.intro h288.1 (And.intro h288.2.1 (And.intro h288.2.2.1 (mc187_86 h288.2.2.2.1 (fun v1 μ1 h289 => (have h290 := (h288.2.2.2.2 v1 μ1 h289); (mc143_86 (mi_ite (fun h291 => (mi_ite (fun h292 => (And.intro (⟨by decide, by decide⟩ : (0 : Int) ≤ 0 ∧ (0 : Int) < 1) (mi_ite (fun h293 => (h293 _ _)) (fun h293 => (And.intro (by decide : (0 : Int) = 0 ∨ (0 : Int) = 1) h293)) h292))) (fun h292 => (h292 _ _)) h291)) (fun h291 => (And.intro (by decide : (0 : Int) = 0 ∨ (0 : Int) = 1) h291)) h290))))))))))⟩)))
theorem mh256_1010_759 {X : mi_X} {Q : mi_R → mi_G → mi_M → Prop} {u : mi_U} {l4 : Int} {μ : mi_M} (h :
  (0 ≤ (l4 + 1) ∧ (l4 + 1) < (mi_rl X 1010 : Int)) ∧
  (0 ≤ (l4 + 2) ∧ (l4 + 2) < (mi_rl X 1010 : Int)) ∧
  (0 ≤ (l4 + 3) ∧ (l4 + 3) < (mi_rl X 1010 : Int)) ∧
  (1 ≤ (u).1 ∧ 6 ≤ (u).2) ∧
  mp250_0_103 (mi_ro X 1010 (l4 + 1)) (mi_ro X 1010 (l4 + 2)) (mi_ro X 1010 (l4 + 3)) μ ∧
  (∀ (v0 : Int) (μ0 : mi_M), mq250_0_103 (mi_ro X 1010 (l4 + 1)) (mi_ro X 1010 (l4 + 2)) (mi_ro X 1010 (l4 + 3)) μ v0 μ0 →
  (0 ≤ (l4 + 1) ∧ (l4 + 1) < (mi_rl X 1010 : Int)) ∧
  (0 ≤ (l4 + 2) ∧ (l4 + 2) < (mi_rl X 1010 : Int)) ∧
  (0 ≤ (l4 + 3) ∧ (l4 + 3) < (mi_rl X 1010 : Int)) ∧
  mp188_86 (mi_ro X 1010 (l4 + 1)) (mi_ro X 1010 (l4 + 2)) (mi_ro X 1010 (l4 + 3)) μ0 ∧
  (∀ (v1 : Int) (μ1 : mi_M), mq188_86 (mi_ro X 1010 (l4 + 1)) (mi_ro X 1010 (l4 + 2)) (mi_ro X 1010 (l4 + 3)) μ0 v1 μ1 →
  if mi_wr (mv143_86 μ1) = mi_wr v0 then (
    if mi_wr v0 = 0 then (
      if mi_wr (mi_cmpl (μ1 103 0) (mi_wr v1)) = 0 then (
        mk256_1010_1931 X Q ((u).1 - 1, (u).2 - 6) l4 μ1)
      else (
        Q (.inl (some (.inl 0))) mi_G0 μ1))
    else (
      mk256_1010_1931 X Q ((u).1 - 1, (u).2 - 6) l4 μ1))
  else (
    Q (.inl (some (.inl 0))) mi_G0 μ1)))) : mk256_1010_759 X Q u l4 μ :=
  fun o5 o6 => ms_run (stop := ms256_1010) (by decide) rfl (fun _ _ _ _ _ _ h => h) 1264 759 _ _ _ _ _ (And.intro h.1 (And.intro h.2.1 (And.intro h.2.2.1 ⟨(1, 6), h.2.2.2.1, mc250_0_103 (h.2.2.2.2).1 (fun v0 μ0 h294 => (have h295 := (((h.2.2.2.2).2) v0 μ0 h294); (And.intro h295.1 (And.intro h295.2.1 (And.intro h295.2.2.1 (mc188_86 h295.2.2.2.1 (fun v1 μ1 h296 => (have h297 := (h295.2.2.2.2 v1 μ1 h296); (mc143_86 (mi_ite (fun h298 => (mi_ite (fun h299 => (And.intro (⟨by decide, by decide⟩ : (0 : Int) ≤ 0 ∧ (0 : Int) < 1) (mi_ite (fun h300 => (h300 _ _)) (fun h300 => (And.intro (by decide : (0 : Int) = 0 ∨ (0 : Int) = 1) h300)) h299))) (fun h299 => (h299 _ _)) h298)) (fun h298 => (And.intro (by decide : (0 : Int) = 0 ∨ (0 : Int) = 1) h298)) h297))))))))))⟩)))
theorem mh256_1010_839 {X : mi_X} {Q : mi_R → mi_G → mi_M → Prop} {u : mi_U} {l4 : Int} {μ : mi_M} (h :
  (0 ≤ (l4 + 1) ∧ (l4 + 1) < (mi_rl X 1010 : Int)) ∧
  mp109_0 (mi_ro X 1010 (l4 + 1)) μ ∧
  (∀ (v0 : Int) (μ0 : mi_M), mq109_0 (mi_ro X 1010 (l4 + 1)) μ v0 μ0 →
  (0 ≤ (l4 + 1) ∧ (l4 + 1) < (mi_rl X 1010 : Int)) ∧
  mp190_86 (mi_ro X 1010 (l4 + 1)) μ0 ∧
  (∀ (v1 : Int) (μ1 : mi_M), mq190_86 (mi_ro X 1010 (l4 + 1)) μ0 v1 μ1 →
  if mi_wr v0 = mi_wr v1 then (
    mk256_1010_1931 X Q u l4 μ1)
  else (
    Q (.inl (some (.inl 0))) mi_G0 μ1)))) : mk256_1010_839 X Q u l4 μ :=
  fun o5 o6 => ms_run (stop := ms256_1010) (by decide) rfl (fun _ _ _ _ _ _ h => h) 1264 839 _ _ _ _ _ (And.intro h.1 (mc109_0 h.2.1 (fun v0 μ0 h301 => (have h302 := (h.2.2 v0 μ0 h301); (And.intro h302.1 (mc190_86 h302.2.1 (fun v1 μ1 h303 => (have h304 := (h302.2.2 v1 μ1 h303); (mi_ite (fun h305 => (h305 _ _)) (fun h305 => (And.intro (by decide : (0 : Int) = 0 ∨ (0 : Int) = 1) h305)) h304)))))))))
theorem mh256_1010_864 {X : mi_X} {Q : mi_R → mi_G → mi_M → Prop} {u : mi_U} {l4 : Int} {μ : mi_M} (h :
  (0 ≤ (l4 + 1) ∧ (l4 + 1) < (mi_rl X 1010 : Int)) ∧
  (0 ≤ (l4 + 2) ∧ (l4 + 2) < (mi_rl X 1010 : Int)) ∧
  (0 ≤ (l4 + 3) ∧ (l4 + 3) < (mi_rl X 1010 : Int)) ∧
  mp110_0 (mi_ro X 1010 (l4 + 1)) (mi_ro X 1010 (l4 + 2)) (mi_ro X 1010 (l4 + 3)) μ ∧
  (∀ (v0 : Int) (μ0 : mi_M), mq110_0 (mi_ro X 1010 (l4 + 1)) (mi_ro X 1010 (l4 + 2)) (mi_ro X 1010 (l4 + 3)) μ v0 μ0 →
  (0 ≤ (l4 + 1) ∧ (l4 + 1) < (mi_rl X 1010 : Int)) ∧
  (0 ≤ (l4 + 2) ∧ (l4 + 2) < (mi_rl X 1010 : Int)) ∧
  (0 ≤ (l4 + 3) ∧ (l4 + 3) < (mi_rl X 1010 : Int)) ∧
  mp194_86 (mi_ro X 1010 (l4 + 1)) (mi_ro X 1010 (l4 + 2)) (mi_ro X 1010 (l4 + 3)) μ0 ∧
  (∀ (v1 : Int) (μ1 : mi_M), mq194_86 (mi_ro X 1010 (l4 + 1)) (mi_ro X 1010 (l4 + 2)) (mi_ro X 1010 (l4 + 3)) μ0 v1 μ1 →
  if mi_wr v0 = mi_wr v1 then (
    mk256_1010_1931 X Q u l4 μ1)
  else (
    Q (.inl (some (.inl 0))) mi_G0 μ1)))) : mk256_1010_864 X Q u l4 μ :=
  fun o5 o6 => ms_run (stop := ms256_1010) (by decide) rfl (fun _ _ _ _ _ _ h => h) 1264 864 _ _ _ _ _ (And.intro h.1 (And.intro h.2.1 (And.intro h.2.2.1 (mc110_0 h.2.2.2.1 (fun v0 μ0 h306 => (have h307 := (h.2.2.2.2 v0 μ0 h306); (And.intro h307.1 (And.intro h307.2.1 (And.intro h307.2.2.1 (mc194_86 h307.2.2.2.1 (fun v1 μ1 h308 => (have h309 := (h307.2.2.2.2 v1 μ1 h308); (mi_ite (fun h310 => (h310 _ _)) (fun h310 => (And.intro (by decide : (0 : Int) = 0 ∨ (0 : Int) = 1) h310)) h309)))))))))))))
theorem mh256_1010_913 {X : mi_X} {Q : mi_R → mi_G → mi_M → Prop} {u : mi_U} {l4 : Int} {μ : mi_M} (h :
  (0 ≤ (l4 + 1) ∧ (l4 + 1) < (mi_rl X 1010 : Int)) ∧
  (0 ≤ (l4 + 2) ∧ (l4 + 2) < (mi_rl X 1010 : Int)) ∧
  (0 ≤ (l4 + 3) ∧ (l4 + 3) < (mi_rl X 1010 : Int)) ∧
  (0 ≤ (l4 + 4) ∧ (l4 + 4) < (mi_rl X 1010 : Int)) ∧
  mp111_0 (mi_ro X 1010 (l4 + 1)) (mi_ro X 1010 (l4 + 2)) (mi_ro X 1010 (l4 + 3)) (mi_ro X 1010 (l4 + 4)) μ ∧
  (∀ (v0 : Int) (μ0 : mi_M), mq111_0 (mi_ro X 1010 (l4 + 1)) (mi_ro X 1010 (l4 + 2)) (mi_ro X 1010 (l4 + 3)) (mi_ro X 1010 (l4 + 4)) μ v0 μ0 →
  (0 ≤ (l4 + 1) ∧ (l4 + 1) < (mi_rl X 1010 : Int)) ∧
  (0 ≤ (l4 + 2) ∧ (l4 + 2) < (mi_rl X 1010 : Int)) ∧
  (0 ≤ (l4 + 3) ∧ (l4 + 3) < (mi_rl X 1010 : Int)) ∧
  (0 ≤ (l4 + 4) ∧ (l4 + 4) < (mi_rl X 1010 : Int)) ∧
  mp202_86 (mi_ro X 1010 (l4 + 1)) (mi_ro X 1010 (l4 + 2)) (mi_ro X 1010 (l4 + 3)) (mi_ro X 1010 (l4 + 4)) μ0 ∧
  (∀ (v1 : Int) (μ1 : mi_M), mq202_86 (mi_ro X 1010 (l4 + 1)) (mi_ro X 1010 (l4 + 2)) (mi_ro X 1010 (l4 + 3)) (mi_ro X 1010 (l4 + 4)) μ0 v1 μ1 →
  if mi_wr v0 = mi_wr v1 then (
    mk256_1010_1931 X Q u l4 μ1)
  else (
    Q (.inl (some (.inl 0))) mi_G0 μ1)))) : mk256_1010_913 X Q u l4 μ :=
  fun o5 o6 => ms_run (stop := ms256_1010) (by decide) rfl (fun _ _ _ _ _ _ h => h) 1264 913 _ _ _ _ _ (And.intro h.1 (And.intro h.2.1 (And.intro h.2.2.1 (And.intro h.2.2.2.1 (mc111_0 h.2.2.2.2.1 (fun v0 μ0 h311 => (have h312 := (h.2.2.2.2.2 v0 μ0 h311); (And.intro h312.1 (And.intro h312.2.1 (And.intro h312.2.2.1 (And.intro h312.2.2.2.1 (mc202_86 h312.2.2.2.2.1 (fun v1 μ1 h313 => (have h314 := (h312.2.2.2.2.2 v1 μ1 h313); (mi_ite (fun h315 => (h315 _ _)) (fun h315 => (And.intro (by decide : (0 : Int) = 0 ∨ (0 : Int) = 1) h315)) h314)))))))))))))))
theorem mh256_1010_974 {X : mi_X} {Q : mi_R → mi_G → mi_M → Prop} {u : mi_U} {l4 : Int} {μ : mi_M} (h :
  (0 ≤ (l4 + 1) ∧ (l4 + 1) < (mi_rl X 1010 : Int)) ∧
  (0 ≤ (l4 + 2) ∧ (l4 + 2) < (mi_rl X 1010 : Int)) ∧
  (0 ≤ (l4 + 3) ∧ (l4 + 3) < (mi_rl X 1010 : Int)) ∧
  mp112_0 (mi_ro X 1010 (l4 + 1)) (mi_ro X 1010 (l4 + 2)) (mi_ro X 1010 (l4 + 3)) μ ∧
  (∀ (v0 : Int) (μ0 : mi_M), mq112_0 (mi_ro X 1010 (l4 + 1)) (mi_ro X 1010 (l4 + 2)) (mi_ro X 1010 (l4 + 3)) μ v0 μ0 →
  (0 ≤ (l4 + 1) ∧ (l4 + 1) < (mi_rl X 1010 : Int)) ∧
  (0 ≤ (l4 + 2) ∧ (l4 + 2) < (mi_rl X 1010 : Int)) ∧
  (0 ≤ (l4 + 3) ∧ (l4 + 3) < (mi_rl X 1010 : Int)) ∧
  mp203_86 (mi_ro X 1010 (l4 + 1)) (mi_ro X 1010 (l4 + 2)) (mi_ro X 1010 (l4 + 3)) μ0 ∧
  (∀ (v1 : Int) (μ1 : mi_M), mq203_86 (mi_ro X 1010 (l4 + 1)) (mi_ro X 1010 (l4 + 2)) (mi_ro X 1010 (l4 + 3)) μ0 v1 μ1 →
  if mi_wr v0 = mi_wr v1 then (
    mk256_1010_1931 X Q u l4 μ1)
  else (
    Q (.inl (some (.inl 0))) mi_G0 μ1)))) : mk256_1010_974 X Q u l4 μ :=
  fun o5 o6 => ms_run (stop := ms256_1010) (by decide) rfl (fun _ _ _ _ _ _ h => h) 1264 974 _ _ _ _ _ (And.intro h.1 (And.intro h.2.1 (And.intro h.2.2.1 (mc112_0 h.2.2.2.1 (fun v0 μ0 h316 => (have h317 := (h.2.2.2.2 v0 μ0 h316); (And.intro h317.1 (And.intro h317.2.1 (And.intro h317.2.2.1 (mc203_86 h317.2.2.2.1 (fun v1 μ1 h318 => (have h319 := (h317.2.2.2.2 v1 μ1 h318); (mi_ite (fun h320 => (h320 _ _)) (fun h320 => (And.intro (by decide : (0 : Int) = 0 ∨ (0 : Int) = 1) h320)) h319)))))))))))))
theorem mh256_1010_1023 {X : mi_X} {Q : mi_R → mi_G → mi_M → Prop} {u : mi_U} {l4 : Int} {μ : mi_M} (h :
  (0 ≤ (l4 + 1) ∧ (l4 + 1) < (mi_rl X 1010 : Int)) ∧
  (0 ≤ (l4 + 2) ∧ (l4 + 2) < (mi_rl X 1010 : Int)) ∧
  (0 ≤ (l4 + 3) ∧ (l4 + 3) < (mi_rl X 1010 : Int)) ∧
  (1 ≤ (u).1 ∧ 6 ≤ (u).2) ∧
  mp251_0_103 (mi_ro X 1010 (l4 + 1)) (mi_ro X 1010 (l4 + 2)) (mi_ro X 1010 (l4 + 3)) μ ∧
  (∀ (v0 : Int) (μ0 : mi_M), mq251_0_103 (mi_ro X 1010 (l4 + 1)) (mi_ro X 1010 (l4 + 2)) (mi_ro X 1010 (l4 + 3)) μ v0 μ0 →
  (0 ≤ (l4 + 1) ∧ (l4 + 1) < (mi_rl X 1010 : Int)) ∧
  (0 ≤ (l4 + 2) ∧ (l4 + 2) < (mi_rl X 1010 : Int)) ∧
  (0 ≤ (l4 + 3) ∧ (l4 + 3) < (mi_rl X 1010 : Int)) ∧
  mp215_86 (mi_ro X 1010 (l4 + 1)) (mi_ro X 1010 (l4 + 2)) (mi_ro X 1010 (l4 + 3)) μ0 ∧
  (∀ (v1 : Int) (μ1 : mi_M), mq215_86 (mi_ro X 1010 (l4 + 1)) (mi_ro X 1010 (l4 + 2)) (mi_ro X 1010 (l4 + 3)) μ0 v1 μ1 →
  if mi_wr (mv143_86 μ1) = mi_wr v0 then (
    if mi_wr v0 = 0 then (
      if mi_wr (mi_cmpl (μ1 103 0) (mi_wr v1)) = 0 then (
        mk256_1010_1931 X Q ((u).1 - 1, (u).2 - 6) l4 μ1)
      else (
        Q (.inl (some (.inl 0))) mi_G0 μ1))
    else (
      mk256_1010_1931 X Q ((u).1 - 1, (u).2 - 6) l4 μ1))
  else (
    Q (.inl (some (.inl 0))) mi_G0 μ1)))) : mk256_1010_1023 X Q u l4 μ :=
  fun o5 o6 => ms_run (stop := ms256_1010) (by decide) rfl (fun _ _ _ _ _ _ h => h) 1264 1023 _ _ _ _ _ (And.intro h.1 (And.intro h.2.1 (And.intro h.2.2.1 ⟨(1, 6), h.2.2.2.1, mc251_0_103 (h.2.2.2.2).1 (fun v0 μ0 h321 => (have h322 := (((h.2.2.2.2).2) v0 μ0 h321); (And.intro h322.1 (And.intro h322.2.1 (And.intro h322.2.2.1 (mc215_86 h322.2.2.2.1 (fun v1 μ1 h323 => (have h324 := (h322.2.2.2.2 v1 μ1 h323); (mc143_86 (mi_ite (fun h325 => (mi_ite (fun h326 => (And.intro (⟨by decide, by decide⟩ : (0 : Int) ≤ 0 ∧ (0 : Int) < 1) (mi_ite (fun h327 => (h327 _ _)) (fun h327 => (And.intro (by decide : (0 : Int) = 0 ∨ (0 : Int) = 1) h327)) h326))) (fun h326 => (h326 _ _)) h325)) (fun h325 => (And.intro (by decide : (0 : Int) = 0 ∨ (0 : Int) = 1) h325)) h324))))))))))⟩)))
theorem mh256_1010_1103 {X : mi_X} {Q : mi_R → mi_G → mi_M → Prop} {u : mi_U} {l4 : Int} {μ : mi_M} (h :
  (0 ≤ (l4 + 1) ∧ (l4 + 1) < (mi_rl X 1010 : Int)) ∧
  (0 ≤ (l4 + 2) ∧ (l4 + 2) < (mi_rl X 1010 : Int)) ∧
  (1 ≤ (u).1 ∧ 6 ≤ (u).2) ∧
  mp252_0_103 (mi_ro X 1010 (l4 + 1)) (mi_ro X 1010 (l4 + 2)) μ ∧
  (∀ (v0 : Int) (μ0 : mi_M), mq252_0_103 (mi_ro X 1010 (l4 + 1)) (mi_ro X 1010 (l4 + 2)) μ v0 μ0 →
  (0 ≤ (l4 + 1) ∧ (l4 + 1) < (mi_rl X 1010 : Int)) ∧
  (0 ≤ (l4 + 2) ∧ (l4 + 2) < (mi_rl X 1010 : Int)) ∧
  mp216_86 (mi_ro X 1010 (l4 + 1)) (mi_ro X 1010 (l4 + 2)) μ0 ∧
  (∀ (v1 : Int) (μ1 : mi_M), mq216_86 (mi_ro X 1010 (l4 + 1)) (mi_ro X 1010 (l4 + 2)) μ0 v1 μ1 →
  if mi_wr (mv143_86 μ1) = mi_wr v0 then (
    if mi_wr v0 = 0 then (
      if mi_wr (mi_cmpl (μ1 103 0) (mi_wr v1)) = 0 then (
        mk256_1010_1931 X Q ((u).1 - 1, (u).2 - 6) l4 μ1)
      else (
        Q (.inl (some (.inl 0))) mi_G0 μ1))
    else (
      mk256_1010_1931 X Q ((u).1 - 1, (u).2 - 6) l4 μ1))
  else (
    Q (.inl (some (.inl 0))) mi_G0 μ1)))) : mk256_1010_1103 X Q u l4 μ :=
  fun o5 o6 => ms_run (stop := ms256_1010) (by decide) rfl (fun _ _ _ _ _ _ h => h) 1264 1103 _ _ _ _ _ (And.intro h.1 (And.intro h.2.1 ⟨(1, 6), h.2.2.1, mc252_0_103 (h.2.2.2).1 (fun v0 μ0 h328 => (have h329 := (((h.2.2.2).2) v0 μ0 h328); (And.intro h329.1 (And.intro h329.2.1 (mc216_86 h329.2.2.1 (fun v1 μ1 h330 => (have h331 := (h329.2.2.2 v1 μ1 h330); (mc143_86 (mi_ite (fun h332 => (mi_ite (fun h333 => (And.intro (⟨by decide, by decide⟩ : (0 : Int) ≤ 0 ∧ (0 : Int) < 1) (mi_ite (fun h334 => (h334 _ _)) (fun h334 => (And.intro (by decide : (0 : Int) = 0 ∨ (0 : Int) = 1) h334)) h333))) (fun h333 => (h333 _ _)) h332)) (fun h332 => (And.intro (by decide : (0 : Int) = 0 ∨ (0 : Int) = 1) h332)) h331)))))))))⟩))
theorem mh256_1010_1171 {X : mi_X} {Q : mi_R → mi_G → mi_M → Prop} {u : mi_U} {l4 : Int} {μ : mi_M} (h :
  (0 ≤ (l4 + 1) ∧ (l4 + 1) < (mi_rl X 1010 : Int)) ∧
  (0 ≤ (l4 + 2) ∧ (l4 + 2) < (mi_rl X 1010 : Int)) ∧
  (0 ≤ (l4 + 3) ∧ (l4 + 3) < (mi_rl X 1010 : Int)) ∧
  mp115_0 (mi_ro X 1010 (l4 + 1)) (mi_ro X 1010 (l4 + 2)) (mi_ro X 1010 (l4 + 3)) μ ∧
  (∀ (v0 : Int) (μ0 : mi_M), mq115_0 (mi_ro X 1010 (l4 + 1)) (mi_ro X 1010 (l4 + 2)) (mi_ro X 1010 (l4 + 3)) μ v0 μ0 →
  (0 ≤ (l4 + 1) ∧ (l4 + 1) < (mi_rl X 1010 : Int)) ∧
  (0 ≤ (l4 + 2) ∧ (l4 + 2) < (mi_rl X 1010 : Int)) ∧
  (0 ≤ (l4 + 3) ∧ (l4 + 3) < (mi_rl X 1010 : Int)) ∧
  mp217_86 (mi_ro X 1010 (l4 + 1)) (mi_ro X 1010 (l4 + 2)) (mi_ro X 1010 (l4 + 3)) μ0 ∧
  (∀ (v1 : Int) (μ1 : mi_M), mq217_86 (mi_ro X 1010 (l4 + 1)) (mi_ro X 1010 (l4 + 2)) (mi_ro X 1010 (l4 + 3)) μ0 v1 μ1 →
  if mi_wr v0 = mi_wr v1 then (
    mk256_1010_1931 X Q u l4 μ1)
  else (
    Q (.inl (some (.inl 0))) mi_G0 μ1)))) : mk256_1010_1171 X Q u l4 μ :=
  fun o5 o6 => ms_run (stop := ms256_1010) (by decide) rfl (fun _ _ _ _ _ _ h => h) 1264 1171 _ _ _ _ _ (And.intro h.1 (And.intro h.2.1 (And.intro h.2.2.1 (mc115_0 h.2.2.2.1 (fun v0 μ0 h335 => (have h336 := (h.2.2.2.2 v0 μ0 h335); (And.intro h336.1 (And.intro h336.2.1 (And.intro h336.2.2.1 (mc217_86 h336.2.2.2.1 (fun v1 μ1 h337 => (have h338 := (h336.2.2.2.2 v1 μ1 h337); (mi_ite (fun h339 => (h339 _ _)) (fun h339 => (And.intro (by decide : (0 : Int) = 0 ∨ (0 : Int) = 1) h339)) h338)))))))))))))
theorem mh256_1010_1220 {X : mi_X} {Q : mi_R → mi_G → mi_M → Prop} {u : mi_U} {l4 : Int} {μ : mi_M} (h :
  (0 ≤ (l4 + 1) ∧ (l4 + 1) < (mi_rl X 1010 : Int)) ∧
  (0 ≤ (l4 + 2) ∧ (l4 + 2) < (mi_rl X 1010 : Int)) ∧
  mp116_0 (mi_ro X 1010 (l4 + 1)) (mi_ro X 1010 (l4 + 2)) μ ∧
  (∀ (v0 : Int) (μ0 : mi_M), mq116_0 (mi_ro X 1010 (l4 + 1)) (mi_ro X 1010 (l4 + 2)) μ v0 μ0 →
  (0 ≤ (l4 + 1) ∧ (l4 + 1) < (mi_rl X 1010 : Int)) ∧
  (0 ≤ (l4 + 2) ∧ (l4 + 2) < (mi_rl X 1010 : Int)) ∧
  mp218_86 (mi_ro X 1010 (l4 + 1)) (mi_ro X 1010 (l4 + 2)) μ0 ∧
  (∀ (v1 : Int) (μ1 : mi_M), mq218_86 (mi_ro X 1010 (l4 + 1)) (mi_ro X 1010 (l4 + 2)) μ0 v1 μ1 →
  if mi_wr v0 = mi_wr v1 then (
    mk256_1010_1931 X Q u l4 μ1)
  else (
    Q (.inl (some (.inl 0))) mi_G0 μ1)))) : mk256_1010_1220 X Q u l4 μ :=
  fun o5 o6 => ms_run (stop := ms256_1010) (by decide) rfl (fun _ _ _ _ _ _ h => h) 1264 1220 _ _ _ _ _ (And.intro h.1 (And.intro h.2.1 (mc116_0 h.2.2.1 (fun v0 μ0 h340 => (have h341 := (h.2.2.2 v0 μ0 h340); (And.intro h341.1 (And.intro h341.2.1 (mc218_86 h341.2.2.1 (fun v1 μ1 h342 => (have h343 := (h341.2.2.2 v1 μ1 h342); (mi_ite (fun h344 => (h344 _ _)) (fun h344 => (And.intro (by decide : (0 : Int) = 0 ∨ (0 : Int) = 1) h344)) h343)))))))))))
theorem mh256_1010_1257 {X : mi_X} {Q : mi_R → mi_G → mi_M → Prop} {u : mi_U} {l4 : Int} {μ : mi_M} (h :
  (0 ≤ (l4 + 1) ∧ (l4 + 1) < (mi_rl X 1010 : Int)) ∧
  (0 ≤ (l4 + 2) ∧ (l4 + 2) < (mi_rl X 1010 : Int)) ∧
  (0 ≤ (l4 + 3) ∧ (l4 + 3) < (mi_rl X 1010 : Int)) ∧
  mp117_0 (mi_ro X 1010 (l4 + 1)) (mi_ro X 1010 (l4 + 2)) (mi_ro X 1010 (l4 + 3)) μ ∧
  (∀ (v0 : Int) (μ0 : mi_M), mq117_0 (mi_ro X 1010 (l4 + 1)) (mi_ro X 1010 (l4 + 2)) (mi_ro X 1010 (l4 + 3)) μ v0 μ0 →
  (0 ≤ (l4 + 1) ∧ (l4 + 1) < (mi_rl X 1010 : Int)) ∧
  (0 ≤ (l4 + 2) ∧ (l4 + 2) < (mi_rl X 1010 : Int)) ∧
  (0 ≤ (l4 + 3) ∧ (l4 + 3) < (mi_rl X 1010 : Int)) ∧
  mp219_86 (mi_ro X 1010 (l4 + 1)) (mi_ro X 1010 (l4 + 2)) (mi_ro X 1010 (l4 + 3)) μ0 ∧
  (∀ (v1 : Int) (μ1 : mi_M), mq219_86 (mi_ro X 1010 (l4 + 1)) (mi_ro X 1010 (l4 + 2)) (mi_ro X 1010 (l4 + 3)) μ0 v1 μ1 →
  if mi_wr v0 = mi_wr v1 then (
    mk256_1010_1931 X Q u l4 μ1)
  else (
    Q (.inl (some (.inl 0))) mi_G0 μ1)))) : mk256_1010_1257 X Q u l4 μ :=
  fun o5 o6 => ms_run (stop := ms256_1010) (by decide) rfl (fun _ _ _ _ _ _ h => h) 1264 1257 _ _ _ _ _ (And.intro h.1 (And.intro h.2.1 (And.intro h.2.2.1 (mc117_0 h.2.2.2.1 (fun v0 μ0 h345 => (have h346 := (h.2.2.2.2 v0 μ0 h345); (And.intro h346.1 (And.intro h346.2.1 (And.intro h346.2.2.1 (mc219_86 h346.2.2.2.1 (fun v1 μ1 h347 => (have h348 := (h346.2.2.2.2 v1 μ1 h347); (mi_ite (fun h349 => (h349 _ _)) (fun h349 => (And.intro (by decide : (0 : Int) = 0 ∨ (0 : Int) = 1) h349)) h348)))))))))))))
theorem mh256_1010_1306 {X : mi_X} {Q : mi_R → mi_G → mi_M → Prop} {u : mi_U} {l4 : Int} {μ : mi_M} (h :
  (0 ≤ (l4 + 1) ∧ (l4 + 1) < (mi_rl X 1010 : Int)) ∧
  (0 ≤ (l4 + 2) ∧ (l4 + 2) < (mi_rl X 1010 : Int)) ∧
  mp118_0 (mi_ro X 1010 (l4 + 1)) (mi_ro X 1010 (l4 + 2)) μ ∧
  (∀ (v0 : Int) (μ0 : mi_M), mq118_0 (mi_ro X 1010 (l4 + 1)) (mi_ro X 1010 (l4 + 2)) μ v0 μ0 →
  (0 ≤ (l4 + 1) ∧ (l4 + 1) < (mi_rl X 1010 : Int)) ∧
  (0 ≤ (l4 + 2) ∧ (l4 + 2) < (mi_rl X 1010 : Int)) ∧
  mp221_86 (mi_ro X 1010 (l4 + 1)) (mi_ro X 1010 (l4 + 2)) μ0 ∧
  (∀ (v1 : Int) (μ1 : mi_M), mq221_86 (mi_ro X 1010 (l4 + 1)) (mi_ro X 1010 (l4 + 2)) μ0 v1 μ1 →
  if mi_wr v0 = mi_wr v1 then (
    mk256_1010_1931 X Q u l4 μ1)
  else (
    Q (.inl (some (.inl 0))) mi_G0 μ1)))) : mk256_1010_1306 X Q u l4 μ :=
  fun o5 o6 => ms_run (stop := ms256_1010) (by decide) rfl (fun _ _ _ _ _ _ h => h) 1264 1306 _ _ _ _ _ (And.intro h.1 (And.intro h.2.1 (mc118_0 h.2.2.1 (fun v0 μ0 h350 => (have h351 := (h.2.2.2 v0 μ0 h350); (And.intro h351.1 (And.intro h351.2.1 (mc221_86 h351.2.2.1 (fun v1 μ1 h352 => (have h353 := (h351.2.2.2 v1 μ1 h352); (mi_ite (fun h354 => (h354 _ _)) (fun h354 => (And.intro (by decide : (0 : Int) = 0 ∨ (0 : Int) = 1) h354)) h353)))))))))))
theorem mh256_1010_1343 {X : mi_X} {Q : mi_R → mi_G → mi_M → Prop} {u : mi_U} {l4 : Int} {μ : mi_M} (h :
  (0 ≤ (l4 + 1) ∧ (l4 + 1) < (mi_rl X 1010 : Int)) ∧
  (0 ≤ (l4 + 2) ∧ (l4 + 2) < (mi_rl X 1010 : Int)) ∧
  (0 ≤ (l4 + 3) ∧ (l4 + 3) < (mi_rl X 1010 : Int)) ∧
  mp119_0 (mi_ro X 1010 (l4 + 1)) (mi_ro X 1010 (l4 + 2)) (mi_ro X 1010 (l4 + 3)) μ ∧
  (∀ (v0 : Int) (μ0 : mi_M), mq119_0 (mi_ro X 1010 (l4 + 1)) (mi_ro X 1010 (l4 + 2)) (mi_ro X 1010 (l4 + 3)) μ v0 μ0 →
  (0 ≤ (l4 + 1) ∧ (l4 + 1) < (mi_rl X 1010 : Int)) ∧
  (0 ≤ (l4 + 2) ∧ (l4 + 2) < (mi_rl X 1010 : Int)) ∧
  (0 ≤ (l4 + 3) ∧ (l4 + 3) < (mi_rl X 1010 : Int)) ∧
  mp224_86 (mi_ro X 1010 (l4 + 1)) (mi_ro X 1010 (l4 + 2)) (mi_ro X 1010 (l4 + 3)) μ0 ∧
  (∀ (v1 : Int) (μ1 : mi_M), mq224_86 (mi_ro X 1010 (l4 + 1)) (mi_ro X 1010 (l4 + 2)) (mi_ro X 1010 (l4 + 3)) μ0 v1 μ1 →
  if mi_wr v0 = mi_wr v1 then (
    mk256_1010_1931 X Q u l4 μ1)
  else (
    Q (.inl (some (.inl 0))) mi_G0 μ1)))) : mk256_1010_1343 X Q u l4 μ :=
  fun o5 o6 => ms_run (stop := ms256_1010) (by decide) rfl (fun _ _ _ _ _ _ h => h) 1264 1343 _ _ _ _ _ (And.intro h.1 (And.intro h.2.1 (And.intro h.2.2.1 (mc119_0 h.2.2.2.1 (fun v0 μ0 h355 => (have h356 := (h.2.2.2.2 v0 μ0 h355); (And.intro h356.1 (And.intro h356.2.1 (And.intro h356.2.2.1 (mc224_86 h356.2.2.2.1 (fun v1 μ1 h357 => (have h358 := (h356.2.2.2.2 v1 μ1 h357); (mi_ite (fun h359 => (h359 _ _)) (fun h359 => (And.intro (by decide : (0 : Int) = 0 ∨ (0 : Int) = 1) h359)) h358)))))))))))))
theorem mh256_1010_1392 {X : mi_X} {Q : mi_R → mi_G → mi_M → Prop} {u : mi_U} {l4 : Int} {μ : mi_M} (h :
  (0 ≤ (l4 + 1) ∧ (l4 + 1) < (mi_rl X 1010 : Int)) ∧
  (0 ≤ (l4 + 2) ∧ (l4 + 2) < (mi_rl X 1010 : Int)) ∧
  (1 ≤ (u).1 ∧ 6 ≤ (u).2) ∧
  mp253_0_103 (mi_ro X 1010 (l4 + 1)) (mi_ro X 1010 (l4 + 2)) μ ∧
  (∀ (v0 : Int) (μ0 : mi_M), mq253_0_103 (mi_ro X 1010 (l4 + 1)) (mi_ro X 1010 (l4 + 2)) μ v0 μ0 →
  (0 ≤ (l4 + 1) ∧ (l4 + 1) < (mi_rl X 1010 : Int)) ∧
  (0 ≤ (l4 + 2) ∧ (l4 + 2) < (mi_rl X 1010 : Int)) ∧
  mp231_86 (mi_ro X 1010 (l4 + 1)) (mi_ro X 1010 (l4 + 2)) μ0 ∧
  (∀ (v1 : Int) (μ1 : mi_M), mq231_86 (mi_ro X 1010 (l4 + 1)) (mi_ro X 1010 (l4 + 2)) μ0 v1 μ1 →
  if mi_wr (mv143_86 μ1) = mi_wr v0 then (
    if mi_wr v0 = 0 then (
      if mi_wr (mi_cmpl (μ1 103 0) (mi_wr v1)) = 0 then (
        mk256_1010_1931 X Q ((u).1 - 1, (u).2 - 6) l4 μ1)
      else (
        Q (.inl (some (.inl 0))) mi_G0 μ1))
    else (
      mk256_1010_1931 X Q ((u).1 - 1, (u).2 - 6) l4 μ1))
  else (
    Q (.inl (some (.inl 0))) mi_G0 μ1)))) : mk256_1010_1392 X Q u l4 μ :=
  fun o5 o6 => ms_run (stop := ms256_1010) (by decide) rfl (fun _ _ _ _ _ _ h => h) 1264 1392 _ _ _ _ _ (And.intro h.1 (And.intro h.2.1 ⟨(1, 6), h.2.2.1, mc253_0_103 (h.2.2.2).1 (fun v0 μ0 h360 => (have h361 := (((h.2.2.2).2) v0 μ0 h360); (And.intro h361.1 (And.intro h361.2.1 (mc231_86 h361.2.2.1 (fun v1 μ1 h362 => (have h363 := (h361.2.2.2 v1 μ1 h362); (mc143_86 (mi_ite (fun h364 => (mi_ite (fun h365 => (And.intro (⟨by decide, by decide⟩ : (0 : Int) ≤ 0 ∧ (0 : Int) < 1) (mi_ite (fun h366 => (h366 _ _)) (fun h366 => (And.intro (by decide : (0 : Int) = 0 ∨ (0 : Int) = 1) h366)) h365))) (fun h365 => (h365 _ _)) h364)) (fun h364 => (And.intro (by decide : (0 : Int) = 0 ∨ (0 : Int) = 1) h364)) h363)))))))))⟩))
theorem mh256_1010_1460 {X : mi_X} {Q : mi_R → mi_G → mi_M → Prop} {u : mi_U} {l4 : Int} {μ : mi_M} (h :
  (0 ≤ (l4 + 1) ∧ (l4 + 1) < (mi_rl X 1010 : Int)) ∧
  mp121_0 (mi_ro X 1010 (l4 + 1)) μ ∧
  (∀ (v0 : Int) (μ0 : mi_M), mq121_0 (mi_ro X 1010 (l4 + 1)) μ v0 μ0 →
  (0 ≤ (l4 + 1) ∧ (l4 + 1) < (mi_rl X 1010 : Int)) ∧
  mp234_86 (mi_ro X 1010 (l4 + 1)) μ0 ∧
  (∀ (v1 : Int) (μ1 : mi_M), mq234_86 (mi_ro X 1010 (l4 + 1)) μ0 v1 μ1 →
  if mi_wr v0 = mi_wr v1 then (
    mk256_1010_1931 X Q u l4 μ1)
  else (
    Q (.inl (some (.inl 0))) mi_G0 μ1)))) : mk256_1010_1460 X Q u l4 μ :=
  fun o5 o6 => ms_run (stop := ms256_1010) (by decide) rfl (fun _ _ _ _ _ _ h => h) 1264 1460 _ _ _ _ _ (And.intro h.1 (mc121_0 h.2.1 (fun v0 μ0 h367 => (have h368 := (h.2.2 v0 μ0 h367); (And.intro h368.1 (mc234_86 h368.2.1 (fun v1 μ1 h369 => (have h370 := (h368.2.2 v1 μ1 h369); (mi_ite (fun h371 => (h371 _ _)) (fun h371 => (And.intro (by decide : (0 : Int) = 0 ∨ (0 : Int) = 1) h371)) h370)))))))))
theorem mh256_1010_1485 {X : mi_X} {Q : mi_R → mi_G → mi_M → Prop} {u : mi_U} {l4 : Int} {μ : mi_M} (h :
  (0 ≤ (l4 + 1) ∧ (l4 + 1) < (mi_rl X 1010 : Int)) ∧
  (0 ≤ (l4 + 2) ∧ (l4 + 2) < (mi_rl X 1010 : Int)) ∧
  mp122_0 (mi_ro X 1010 (l4 + 1)) (mi_ro X 1010 (l4 + 2)) μ ∧
  (∀ (v0 : Int) (μ0 : mi_M), mq122_0 (mi_ro X 1010 (l4 + 1)) (mi_ro X 1010 (l4 + 2)) μ v0 μ0 →
  (0 ≤ (l4 + 1) ∧ (l4 + 1) < (mi_rl X 1010 : Int)) ∧
  (0 ≤ (l4 + 2) ∧ (l4 + 2) < (mi_rl X 1010 : Int)) ∧
  mp233_86 (mi_ro X 1010 (l4 + 1)) (mi_ro X 1010 (l4 + 2)) μ0 ∧
  (∀ (v1 : Int) (μ1 : mi_M), mq233_86 (mi_ro X 1010 (l4 + 1)) (mi_ro X 1010 (l4 + 2)) μ0 v1 μ1 →
  if mi_wr v0 = mi_wr v1 then (
    mk256_1010_1931 X Q u l4 μ1)
  else (
    Q (.inl (some (.inl 0))) mi_G0 μ1)))) : mk256_1010_1485 X Q u l4 μ :=
  fun o5 o6 => ms_run (stop := ms256_1010) (by decide) rfl (fun _ _ _ _ _ _ h => h) 1264 1485 _ _ _ _ _ (And.intro h.1 (And.intro h.2.1 (mc122_0 h.2.2.1 (fun v0 μ0 h372 => (have h373 := (h.2.2.2 v0 μ0 h372); (And.intro h373.1 (And.intro h373.2.1 (mc233_86 h373.2.2.1 (fun v1 μ1 h374 => (have h375 := (h373.2.2.2 v1 μ1 h374); (mi_ite (fun h376 => (h376 _ _)) (fun h376 => (And.intro (by decide : (0 : Int) = 0 ∨ (0 : Int) = 1) h376)) h375)))))))))))
theorem mh256_1010_1522 {X : mi_X} {Q : mi_R → mi_G → mi_M → Prop} {u : mi_U} {l4 : Int} {μ : mi_M} (h :
  (0 ≤ (l4 + 1) ∧ (l4 + 1) < (mi_rl X 1010 : Int)) ∧
  (0 ≤ (l4 + 2) ∧ (l4 + 2) < (mi_rl X 1010 : Int)) ∧
  (0 ≤ (l4 + 3) ∧ (l4 + 3) < (mi_rl X 1010 : Int)) ∧
  mp123_0 (mi_ro X 1010 (l4 + 1)) (mi_ro X 1010 (l4 + 2)) (mi_ro X 1010 (l4 + 3)) μ ∧
  (∀ (v0 : Int) (μ0 : mi_M), mq123_0 (mi_ro X 1010 (l4 + 1)) (mi_ro X 1010 (l4 + 2)) (mi_ro X 1010 (l4 + 3)) μ v0 μ0 →
  (0 ≤ (l4 + 1) ∧ (l4 + 1) < (mi_rl X 1010 : Int)) ∧
  (0 ≤ (l4 + 2) ∧ (l4 + 2) < (mi_rl X 1010 : Int)) ∧
  (0 ≤ (l4 + 3) ∧ (l4 + 3) < (mi_rl X 1010 : Int)) ∧
  mp237_86 (mi_ro X 1010 (l4 + 1)) (mi_ro X 1010 (l4 + 2)) (mi_ro X 1010 (l4 + 3)) μ0 ∧
  (∀ (v1 : Int) (μ1 : mi_M), mq237_86 (mi_ro X 1010 (l4 + 1)) (mi_ro X 1010 (l4 + 2)) (mi_ro X 1010 (l4 + 3)) μ0 v1 μ1 →
  if mi_wr v0 = mi_wr v1 then (
    mk256_1010_1931 X Q u l4 μ1)
  else (
    Q (.inl (some (.inl 0))) mi_G0 μ1)))) : mk256_1010_1522 X Q u l4 μ :=
  fun o5 o6 => ms_run (stop := ms256_1010) (by decide) rfl (fun _ _ _ _ _ _ h => h) 1264 1522 _ _ _ _ _ (And.intro h.1 (And.intro h.2.1 (And.intro h.2.2.1 (mc123_0 h.2.2.2.1 (fun v0 μ0 h377 => (have h378 := (h.2.2.2.2 v0 μ0 h377); (And.intro h378.1 (And.intro h378.2.1 (And.intro h378.2.2.1 (mc237_86 h378.2.2.2.1 (fun v1 μ1 h379 => (have h380 := (h378.2.2.2.2 v1 μ1 h379); (mi_ite (fun h381 => (h381 _ _)) (fun h381 => (And.intro (by decide : (0 : Int) = 0 ∨ (0 : Int) = 1) h381)) h380)))))))))))))
theorem mh256_1010_1571 {X : mi_X} {Q : mi_R → mi_G → mi_M → Prop} {u : mi_U} {l4 : Int} {μ : mi_M} (h :
  (0 ≤ (l4 + 1) ∧ (l4 + 1) < (mi_rl X 1010 : Int)) ∧
  mp124_0 (mi_ro X 1010 (l4 + 1)) μ ∧
  (∀ (v0 : Int) (μ0 : mi_M), mq124_0 (mi_ro X 1010 (l4 + 1)) μ v0 μ0 →
  (0 ≤ (l4 + 1) ∧ (l4 + 1) < (mi_rl X 1010 : Int)) ∧
  mp238_86 (mi_ro X 1010 (l4 + 1)) μ0 ∧
  (∀ (v1 : Int) (μ1 : mi_M), mq238_86 (mi_ro X 1010 (l4 + 1)) μ0 v1 μ1 →
  if mi_wr v0 = mi_wr v1 then (
    mk256_1010_1931 X Q u l4 μ1)
  else (
    Q (.inl (some (.inl 0))) mi_G0 μ1)))) : mk256_1010_1571 X Q u l4 μ :=
  fun o5 o6 => ms_run (stop := ms256_1010) (by decide) rfl (fun _ _ _ _ _ _ h => h) 1264 1571 _ _ _ _ _ (And.intro h.1 (mc124_0 h.2.1 (fun v0 μ0 h382 => (have h383 := (h.2.2 v0 μ0 h382); (And.intro h383.1 (mc238_86 h383.2.1 (fun v1 μ1 h384 => (have h385 := (h383.2.2 v1 μ1 h384); (mi_ite (fun h386 => (h386 _ _)) (fun h386 => (And.intro (by decide : (0 : Int) = 0 ∨ (0 : Int) = 1) h386)) h385)))))))))
theorem mh256_1010_1596 {X : mi_X} {Q : mi_R → mi_G → mi_M → Prop} {u : mi_U} {l4 : Int} {μ : mi_M} (h :
  (0 ≤ (l4 + 1) ∧ (l4 + 1) < (mi_rl X 1010 : Int)) ∧
  (0 ≤ (l4 + 2) ∧ (l4 + 2) < (mi_rl X 1010 : Int)) ∧
  (0 ≤ (l4 + 3) ∧ (l4 + 3) < (mi_rl X 1010 : Int)) ∧
  (1 ≤ (u).1 ∧ 6 ≤ (u).2) ∧
  mp254_0_103 (mi_ro X 1010 (l4 + 1)) (mi_ro X 1010 (l4 + 2)) (mi_ro X 1010 (l4 + 3)) μ ∧
  (∀ (v0 : Int) (μ0 : mi_M), mq254_0_103 (mi_ro X 1010 (l4 + 1)) (mi_ro X 1010 (l4 + 2)) (mi_ro X 1010 (l4 + 3)) μ v0 μ0 →
  (0 ≤ (l4 + 1) ∧ (l4 + 1) < (mi_rl X 1010 : Int)) ∧
  (0 ≤ (l4 + 2) ∧ (l4 + 2) < (mi_rl X 1010 : Int)) ∧
  (0 ≤ (l4 + 3) ∧ (l4 + 3) < (mi_rl X 1010 : Int)) ∧
  mp229_86 (mi_ro X 1010 (l4 + 1)) (mi_ro X 1010 (l4 + 2)) (mi_ro X 1010 (l4 + 3)) μ0 ∧
  (∀ (v1 : Int) (μ1 : mi_M), mq229_86 (mi_ro X 1010 (l4 + 1)) (mi_ro X 1010 (l4 + 2)) (mi_ro X 1010 (l4 + 3)) μ0 v1 μ1 →
  if mi_wr (mv143_86 μ1) = mi_wr v0 then (
    if mi_wr v0 = 0 then (
      if mi_wr (mi_cmpl (μ1 103 0) (mi_wr v1)) = 0 then (
        mk256_1010_1931 X Q ((u).1 - 1, (u).2 - 6) l4 μ1)
      else (
        Q (.inl (some (.inl 0))) mi_G0 μ1))
    else (
      mk256_1010_1931 X Q ((u).1 - 1, (u).2 - 6) l4 μ1))
  else (
    Q (.inl (some (.inl 0))) mi_G0 μ1)))) : mk256_1010_1596 X Q u l4 μ :=
  fun o5 o6 => ms_run (stop := ms256_1010) (by decide) rfl (fun _ _ _ _ _ _ h => h) 1264 1596 _ _ _ _ _ (And.intro h.1 (And.intro h.2.1 (And.intro h.2.2.1 ⟨(1, 6), h.2.2.2.1, mc254_0_103 (h.2.2.2.2).1 (fun v0 μ0 h387 => (have h388 := (((h.2.2.2.2).2) v0 μ0 h387); (And.intro h388.1 (And.intro h388.2.1 (And.intro h388.2.2.1 (mc229_86 h388.2.2.2.1 (fun v1 μ1 h389 => (have h390 := (h388.2.2.2.2 v1 μ1 h389); (mc143_86 (mi_ite (fun h391 => (mi_ite (fun h392 => (And.intro (⟨by decide, by decide⟩ : (0 : Int) ≤ 0 ∧ (0 : Int) < 1) (mi_ite (fun h393 => (h393 _ _)) (fun h393 => (And.intro (by decide : (0 : Int) = 0 ∨ (0 : Int) = 1) h393)) h392))) (fun h392 => (h392 _ _)) h391)) (fun h391 => (And.intro (by decide : (0 : Int) = 0 ∨ (0 : Int) = 1) h391)) h390))))))))))⟩)))
theorem mh256_1010_1676 {X : mi_X} {Q : mi_R → mi_G → mi_M → Prop} {u : mi_U} {l4 : Int} {μ : mi_M} (h :
  (0 ≤ (l4 + 1) ∧ (l4 + 1) < (mi_rl X 1010 : Int)) ∧
  (0 ≤ (l4 + 2) ∧ (l4 + 2) < (mi_rl X 1010 : Int)) ∧
  (1 ≤ (u).1 ∧ 6 ≤ (u).2) ∧
  mp255_0_103 (mi_ro X 1010 (l4 + 1)) (mi_ro X 1010 (l4 + 2)) μ ∧
  (∀ (v0 : Int) (μ0 : mi_M), mq255_0_103 (mi_ro X 1010 (l4 + 1)) (mi_ro X 1010 (l4 + 2)) μ v0 μ0 →
  (0 ≤ (l4 + 1) ∧ (l4 + 1) < (mi_rl X 1010 : Int)) ∧
  (0 ≤ (l4 + 2) ∧ (l4 + 2) < (mi_rl X 1010 : Int)) ∧
  mp230_86 (mi_ro X 1010 (l4 + 1)) (mi_ro X 1010 (l4 + 2)) μ0 ∧
  (∀ (v1 : Int) (μ1 : mi_M), mq230_86 (mi_ro X 1010 (l4 + 1)) (mi_ro X 1010 (l4 + 2)) μ0 v1 μ1 →
  if mi_wr (mv143_86 μ1) = mi_wr v0 then (
    if mi_wr v0 = 0 then (
      if mi_wr (mi_cmpl (μ1 103 0) (mi_wr v1)) = 0 then (
        mk256_1010_1931 X Q ((u).1 - 1, (u).2 - 6) l4 μ1)
      else (
        Q (.inl (some (.inl 0))) mi_G0 μ1))
    else (
      mk256_1010_1931 X Q ((u).1 - 1, (u).2 - 6) l4 μ1))
  else (
    Q (.inl (some (.inl 0))) mi_G0 μ1)))) : mk256_1010_1676 X Q u l4 μ :=
  fun o5 o6 => ms_run (stop := ms256_1010) (by decide) rfl (fun _ _ _ _ _ _ h => h) 1264 1676 _ _ _ _ _ (And.intro h.1 (And.intro h.2.1 ⟨(1, 6), h.2.2.1, mc255_0_103 (h.2.2.2).1 (fun v0 μ0 h394 => (have h395 := (((h.2.2.2).2) v0 μ0 h394); (And.intro h395.1 (And.intro h395.2.1 (mc230_86 h395.2.2.1 (fun v1 μ1 h396 => (have h397 := (h395.2.2.2 v1 μ1 h396); (mc143_86 (mi_ite (fun h398 => (mi_ite (fun h399 => (And.intro (⟨by decide, by decide⟩ : (0 : Int) ≤ 0 ∧ (0 : Int) < 1) (mi_ite (fun h400 => (h400 _ _)) (fun h400 => (And.intro (by decide : (0 : Int) = 0 ∨ (0 : Int) = 1) h400)) h399))) (fun h399 => (h399 _ _)) h398)) (fun h398 => (And.intro (by decide : (0 : Int) = 0 ∨ (0 : Int) = 1) h398)) h397)))))))))⟩))
theorem mh256_1010_1744 {X : mi_X} {Q : mi_R → mi_G → mi_M → Prop} {u : mi_U} {l4 : Int} {μ : mi_M} (h :
  (0 ≤ (l4 + 1) ∧ (l4 + 1) < (mi_rl X 1010 : Int)) ∧
  (0 ≤ (l4 + 2) ∧ (l4 + 2) < (mi_rl X 1010 : Int)) ∧
  mp127_0 (mi_ro X 1010 (l4 + 1)) (mi_ro X 1010 (l4 + 2)) μ ∧
  (∀ (v0 : Int) (μ0 : mi_M), mq127_0 (mi_ro X 1010 (l4 + 1)) (mi_ro X 1010 (l4 + 2)) μ v0 μ0 →
  (0 ≤ (l4 + 1) ∧ (l4 + 1) < (mi_rl X 1010 : Int)) ∧
  (0 ≤ (l4 + 2) ∧ (l4 + 2) < (mi_rl X 1010 : Int)) ∧
  mp241_86 (mi_ro X 1010 (l4 + 1)) (mi_ro X 1010 (l4 + 2)) μ0 ∧
  (∀ (v1 : Int) (μ1 : mi_M), mq241_86 (mi_ro X 1010 (l4 + 1)) (mi_ro X 1010 (l4 + 2)) μ0 v1 μ1 →
  if mi_wr v0 = mi_wr v1 then (
    mk256_1010_1931 X Q u l4 μ1)
  else (
    Q (.inl (some (.inl 0))) mi_G0 μ1)))) : mk256_1010_1744 X Q u l4 μ :=
  fun o5 o6 => ms_run (stop := ms256_1010) (by decide) rfl (fun _ _ _ _ _ _ h => h) 1264 1744 _ _ _ _ _ (And.intro h.1 (And.intro h.2.1 (mc127_0 h.2.2.1 (fun v0 μ0 h401 => (have h402 := (h.2.2.2 v0 μ0 h401); (And.intro h402.1 (And.intro h402.2.1 (mc241_86 h402.2.2.1 (fun v1 μ1 h403 => (have h404 := (h402.2.2.2 v1 μ1 h403); (mi_ite (fun h405 => (h405 _ _)) (fun h405 => (And.intro (by decide : (0 : Int) = 0 ∨ (0 : Int) = 1) h405)) h404)))))))))))
theorem mh256_1010_1781 {X : mi_X} {Q : mi_R → mi_G → mi_M → Prop} {u : mi_U} {l4 : Int} {μ : mi_M} (h :
  (0 ≤ (l4 + 1) ∧ (l4 + 1) < (mi_rl X 1010 : Int)) ∧
  mp128_0 (mi_ro X 1010 (l4 + 1)) μ ∧
  (∀ (v0 : Int) (μ0 : mi_M), mq128_0 (mi_ro X 1010 (l4 + 1)) μ v0 μ0 →
  (0 ≤ (l4 + 1) ∧ (l4 + 1) < (mi_rl X 1010 : Int)) ∧
  mp243_86 (mi_ro X 1010 (l4 + 1)) μ0 ∧
  (∀ (v1 : Int) (μ1 : mi_M), mq243_86 (mi_ro X 1010 (l4 + 1)) μ0 v1 μ1 →
  if mi_wr v0 = mi_wr v1 then (
    mk256_1010_1931 X Q u l4 μ1)
  else (
    Q (.inl (some (.inl 0))) mi_G0 μ1)))) : mk256_1010_1781 X Q u l4 μ :=
  fun o5 o6 => ms_run (stop := ms256_1010) (by decide) rfl (fun _ _ _ _ _ _ h => h) 1264 1781 _ _ _ _ _ (And.intro h.1 (mc128_0 h.2.1 (fun v0 μ0 h406 => (have h407 := (h.2.2 v0 μ0 h406); (And.intro h407.1 (mc243_86 h407.2.1 (fun v1 μ1 h408 => (have h409 := (h407.2.2 v1 μ1 h408); (mi_ite (fun h410 => (h410 _ _)) (fun h410 => (And.intro (by decide : (0 : Int) = 0 ∨ (0 : Int) = 1) h410)) h409)))))))))
theorem mh256_1010_1806 {X : mi_X} {Q : mi_R → mi_G → mi_M → Prop} {u : mi_U} {l4 : Int} {μ : mi_M} (h :
  (0 ≤ (l4 + 1) ∧ (l4 + 1) < (mi_rl X 1010 : Int)) ∧
  (0 ≤ (l4 + 2) ∧ (l4 + 2) < (mi_rl X 1010 : Int)) ∧
  mp129_0 (mi_ro X 1010 (l4 + 1)) (mi_ro X 1010 (l4 + 2)) μ ∧
  (∀ (v0 : Int) (μ0 : mi_M), mq129_0 (mi_ro X 1010 (l4 + 1)) (mi_ro X 1010 (l4 + 2)) μ v0 μ0 →
  (0 ≤ (l4 + 1) ∧ (l4 + 1) < (mi_rl X 1010 : Int)) ∧
  (0 ≤ (l4 + 2) ∧ (l4 + 2) < (mi_rl X 1010 : Int)) ∧
  mp244_86 (mi_ro X 1010 (l4 + 1)) (mi_ro X 1010 (l4 + 2)) μ0 ∧
  (∀ (v1 : Int) (μ1 : mi_M), mq244_86 (mi_ro X 1010 (l4 + 1)) (mi_ro X 1010 (l4 + 2)) μ0 v1 μ1 →
  if mi_wr v0 = mi_wr v1 then (
    mk256_1010_1931 X Q u l4 μ1)
  else (
    Q (.inl (some (.inl 0))) mi_G0 μ1)))) : mk256_1010_1806 X Q u l4 μ :=
  fun o5 o6 => ms_run (stop := ms256_1010) (by decide) rfl (fun _ _ _ _ _ _ h => h) 1264 1806 _ _ _ _ _ (And.intro h.1 (And.intro h.2.1 (mc129_0 h.2.2.1 (fun v0 μ0 h411 => (have h412 := (h.2.2.2 v0 μ0 h411); (And.intro h412.1 (And.intro h412.2.1 (mc244_86 h412.2.2.1 (fun v1 μ1 h413 => (have h414 := (h412.2.2.2 v1 μ1 h413); (mi_ite (fun h415 => (h415 _ _)) (fun h415 => (And.intro (by decide : (0 : Int) = 0 ∨ (0 : Int) = 1) h415)) h414)))))))))))
theorem mh256_1010_1843 {X : mi_X} {Q : mi_R → mi_G → mi_M → Prop} {u : mi_U} {l4 : Int} {μ : mi_M} (h :
  mp130_0 μ ∧
  (∀ (v0 : Int) (μ0 : mi_M), mq130_0 μ v0 μ0 →
  mp149_86 μ0 ∧
  (∀ (v1 : Int) (μ1 : mi_M), mq149_86 μ0 v1 μ1 →
  if mi_wr v0 = mi_wr v1 then (
    mk256_1010_1931 X Q u l4 μ1)
  else (
    Q (.inl (some (.inl 0))) mi_G0 μ1)))) : mk256_1010_1843 X Q u l4 μ :=
  fun o5 o6 => ms_run (stop := ms256_1010) (by decide) rfl (fun _ _ _ _ _ _ h => h) 1264 1843 _ _ _ _ _ (mc130_0 h.1 (fun v0 μ0 h416 => (have h417 := (h.2 v0 μ0 h416); (mc149_86 h417.1 (fun v1 μ1 h418 => (have h419 := (h417.2 v1 μ1 h418); (mi_ite (fun h420 => (h420 _ _)) (fun h420 => (And.intro (by decide : (0 : Int) = 0 ∨ (0 : Int) = 1) h420)) h419)))))))
theorem mh256_1010_1856 {X : mi_X} {Q : mi_R → mi_G → mi_M → Prop} {u : mi_U} {l4 : Int} {μ : mi_M} (h :
  (0 ≤ (l4 + 1) ∧ (l4 + 1) < (mi_rl X 1010 : Int)) ∧
  mp131_0 (mi_ro X 1010 (l4 + 1)) μ ∧
  (∀ (v0 : Int) (μ0 : mi_M), mq131_0 (mi_ro X 1010 (l4 + 1)) μ v0 μ0 →
  (0 ≤ (l4 + 1) ∧ (l4 + 1) < (mi_rl X 1010 : Int)) ∧
  mp245_86 (mi_ro X 1010 (l4 + 1)) μ0 ∧
  (∀ (v1 : Int) (μ1 : mi_M), mq245_86 (mi_ro X 1010 (l4 + 1)) μ0 v1 μ1 →
  if mi_wr v0 = mi_wr v1 then (
    mk256_1010_1931 X Q u l4 μ1)
  else (
    Q (.inl (some (.inl 0))) mi_G0 μ1)))) : mk256_1010_1856 X Q u l4 μ :=
  fun o5 o6 => ms_run (stop := ms256_1010) (by decide) rfl (fun _ _ _ _ _ _ h => h) 1264 1856 _ _ _ _ _ (And.intro h.1 (mc131_0 h.2.1 (fun v0 μ0 h421 => (have h422 := (h.2.2 v0 μ0 h421); (And.intro h422.1 (mc245_86 h422.2.1 (fun v1 μ1 h423 => (have h424 := (h422.2.2 v1 μ1 h423); (mi_ite (fun h425 => (h425 _ _)) (fun h425 => (And.intro (by decide : (0 : Int) = 0 ∨ (0 : Int) = 1) h425)) h424)))))))))
theorem mh256_1010_1881 {X : mi_X} {Q : mi_R → mi_G → mi_M → Prop} {u : mi_U} {l4 : Int} {μ : mi_M} (h :
  (0 ≤ (l4 + 1) ∧ (l4 + 1) < (mi_rl X 1010 : Int)) ∧
  mp132_0 (mi_ro X 1010 (l4 + 1)) μ ∧
  (∀ (v0 : Int) (μ0 : mi_M), mq132_0 (mi_ro X 1010 (l4 + 1)) μ v0 μ0 →
  (0 ≤ (l4 + 1) ∧ (l4 + 1) < (mi_rl X 1010 : Int)) ∧
  mp246_86 (mi_ro X 1010 (l4 + 1)) μ0 ∧
  (∀ (v1 : Int) (μ1 : mi_M), mq246_86 (mi_ro X 1010 (l4 + 1)) μ0 v1 μ1 →
  if mi_wr v0 = mi_wr v1 then (
    mk256_1010_1931 X Q u l4 μ1)
  else (
    Q (.inl (some (.inl 0))) mi_G0 μ1)))) : mk256_1010_1881 X Q u l4 μ :=
  fun o5 o6 => ms_run (stop := ms256_1010) (by decide) rfl (fun _ _ _ _ _ _ h => h) 1264 1881 _ _ _ _ _ (And.intro h.1 (mc132_0 h.2.1 (fun v0 μ0 h426 => (have h427 := (h.2.2 v0 μ0 h426); (And.intro h427.1 (mc246_86 h427.2.1 (fun v1 μ1 h428 => (have h429 := (h427.2.2 v1 μ1 h428); (mi_ite (fun h430 => (h430 _ _)) (fun h430 => (And.intro (by decide : (0 : Int) = 0 ∨ (0 : Int) = 1) h430)) h429)))))))))
theorem mh256_1010_1906 {X : mi_X} {Q : mi_R → mi_G → mi_M → Prop} {u : mi_U} {l4 : Int} {μ : mi_M} (h :
  (0 ≤ (l4 + 1) ∧ (l4 + 1) < (mi_rl X 1010 : Int)) ∧
  mp133_0 (mi_ro X 1010 (l4 + 1)) μ ∧
  (0 ≤ (l4 + 1) ∧ (l4 + 1) < (mi_rl X 1010 : Int)) ∧
  mp247_86 (mi_ro X 1010 (l4 + 1)) μ ∧
  if mi_wr (mv133_0 (mi_ro X 1010 (l4 + 1)) μ) = mi_wr (mv247_86 (mi_ro X 1010 (l4 + 1)) μ) then (
    mk256_1010_1931 X Q u l4 (mm247_86 (mi_ro X 1010 (l4 + 1)) μ))
  else (
    Q (.inl (some (.inl 0))) mi_G0 (mm247_86 (mi_ro X 1010 (l4 + 1)) μ))) : mk256_1010_1906 X Q u l4 μ :=
  fun o5 o6 => ms_run (stop := ms256_1010) (by decide) rfl (fun _ _ _ _ _ _ h => h) 1264 1906 _ _ _ _ _ (And.intro h.1 (mc133_0 h.2.1 (And.intro h.2.2.1 (mc247_86 h.2.2.2.1 (mi_ite (fun h431 => (h431 _ _)) (fun h431 => (And.intro (by decide : (0 : Int) = 0 ∨ (0 : Int) = 1) h431)) h.2.2.2.2)))))
theorem mh256_1010_1931 {X : mi_X} {Q : mi_R → mi_G → mi_M → Prop} {u : mi_U} {l4 : Int} {μ : mi_M} (h :
  mk256_1010_23 X Q u (l4 + 7) μ) : mk256_1010_1931 X Q u l4 μ :=
  fun o5 o6 => ms_run (stop := ms256_1010) (by decide) rfl (fun _ _ _ _ _ _ h => h) 1264 1931 _ _ _ _ _ (h _ _)
