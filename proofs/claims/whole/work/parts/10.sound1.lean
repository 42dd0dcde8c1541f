/-! every row of every method is checked -/
theorem mi_ka0 : ∀ k ∈ [0, 1, 2, 3, 4, 5, 6, 7, 8, 9, 10, 11, 12, 13, 14, 15, 16, 17, 18, 19, 20, 21, 22, 23, 24, 25, 26, 27, 28, 29, 30, 31], (mi_tb k).all (mi_chl k) = true := List.forall_mem_cons.mpr ⟨mi_k0, List.forall_mem_cons.mpr ⟨mi_k1, List.forall_mem_cons.mpr ⟨mi_k2, List.forall_mem_cons.mpr ⟨mi_k3, List.forall_mem_cons.mpr ⟨mi_k4, List.forall_mem_cons.mpr ⟨mi_k5, List.forall_mem_cons.mpr ⟨mi_k6, List.forall_mem_cons.mpr ⟨mi_k7, List.forall_mem_cons.mpr ⟨mi_k8, List.forall_mem_cons.mpr ⟨mi_k9, List.forall_mem_cons.mpr ⟨mi_k10, List.forall_mem_cons.mpr ⟨mi_k11, List.forall_mem_cons.mpr ⟨mi_k12, List.forall_mem_cons.mpr ⟨mi_k13, List.forall_mem_cons.mpr ⟨mi_k14, List.forall_mem_cons.mpr ⟨mi_k15, List.forall_mem_cons.mpr ⟨mi_k16, List.forall_mem_cons.mpr ⟨mi_k17, List.forall_mem_cons.mpr ⟨mi_k18, List.forall_mem_cons.mpr ⟨mi_k19, List.forall_mem_cons.mpr ⟨mi_k20, List.forall_mem_cons.mpr ⟨mi_k21, List.forall_mem_cons.mpr ⟨mi_k22, List.forall_mem_cons.mpr ⟨mi_k23, List.forall_mem_cons.mpr ⟨mi_k24, List.forall_mem_cons.mpr ⟨mi_k25, List.forall_mem_cons.mpr ⟨mi_k26, List.forall_mem_cons.mpr ⟨mi_k27, List.forall_mem_cons.mpr ⟨mi_k28, List.forall_mem_cons.mpr ⟨mi_k29, List.forall_mem_cons.mpr ⟨mi_k30, List.forall_mem_cons.mpr ⟨mi_k31, fun _ h => absurd h List.not_mem_nil⟩⟩⟩⟩⟩⟩⟩⟩⟩⟩⟩⟩⟩⟩⟩⟩⟩⟩⟩⟩⟩⟩⟩⟩⟩⟩⟩⟩⟩⟩⟩⟩
theorem mi_ka1 : ∀ k ∈ [32, 33, 34, 35, 36, 37, 38, 39, 40, 41, 42, 43, 44, 45, 46, 47, 48, 49, 50, 51, 52, 53, 54, 55, 56, 57, 58, 59, 60, 61, 62, 63], (mi_tb k).all (mi_chl k) = true := List.forall_mem_cons.mpr ⟨mi_k32, List.forall_mem_cons.mpr ⟨mi_k33, List.forall_mem_cons.mpr ⟨mi_k34, List.forall_mem_cons.mpr ⟨mi_k35, List.forall_mem_cons.mpr ⟨mi_k36, List.forall_mem_cons.mpr ⟨mi_k37, List.forall_mem_cons.mpr ⟨mi_k38, List.forall_mem_cons.mpr ⟨mi_k39, List.forall_mem_cons.mpr ⟨mi_k40, List.forall_mem_cons.mpr ⟨mi_k41, List.forall_mem_cons.mpr ⟨mi_k42, List.forall_mem_cons.mpr ⟨mi_k43, List.forall_mem_cons.mpr ⟨mi_k44, List.forall_mem_cons.mpr ⟨mi_k45, List.forall_mem_cons.mpr ⟨mi_k46, List.forall_mem_cons.mpr ⟨mi_k47, List.forall_mem_cons.mpr ⟨mi_k48, List.forall_mem_cons.mpr ⟨mi_k49, List.forall_mem_cons.mpr ⟨mi_k50, List.forall_mem_cons.mpr ⟨mi_k51, List.forall_mem_cons.mpr ⟨mi_k52, List.forall_mem_cons.mpr ⟨mi_k53, List.forall_mem_cons.mpr ⟨mi_k54, List.forall_mem_cons.mpr ⟨mi_k55, List.forall_mem_cons.mpr ⟨mi_k56, List.forall_mem_cons.mpr ⟨mi_k57, List.forall_mem_cons.mpr ⟨mi_k58, List.forall_mem_cons.mpr ⟨mi_k59, List.forall_mem_cons.mpr ⟨mi_k60, List.forall_mem_cons.mpr ⟨mi_k61, List.forall_mem_cons.mpr ⟨mi_k62, List.forall_mem_cons.mpr ⟨mi_k63, fun _ h => absurd h List.not_mem_nil⟩⟩⟩⟩⟩⟩⟩⟩⟩⟩⟩⟩⟩⟩⟩⟩⟩⟩⟩⟩⟩⟩⟩⟩⟩⟩⟩⟩⟩⟩⟩⟩
theorem mi_ka2 : ∀ k ∈ [64, 65, 66, 67, 68, 69, 70, 71, 72, 73, 74, 75, 76, 77, 78, 79, 80, 81, 82, 83, 84, 85, 86, 87, 88, 89, 90, 91, 92, 93, 94, 95], (mi_tb k).all (mi_chl k) = true := List.forall_mem_cons.mpr ⟨mi_k64, List.forall_mem_cons.mpr ⟨mi_k65, List.forall_mem_cons.mpr ⟨mi_k66, List.forall_mem_cons.mpr ⟨mi_k67, List.forall_mem_cons.mpr ⟨mi_k68, List.forall_mem_cons.mpr ⟨mi_k69, List.forall_mem_cons.mpr ⟨mi_k70, List.forall_mem_cons.mpr ⟨mi_k71, List.forall_mem_cons.mpr ⟨mi_k72, List.forall_mem_cons.mpr ⟨mi_k73, List.forall_mem_cons.mpr ⟨mi_k74, List.forall_mem_cons.mpr ⟨mi_k75, List.forall_mem_cons.mpr ⟨mi_k76, List.forall_mem_cons.mpr ⟨mi_k77, List.forall_mem_cons.mpr ⟨mi_k78, List.forall_mem_cons.mpr ⟨mi_k79, List.forall_mem_cons.mpr ⟨mi_k80, List.forall_mem_cons.mpr ⟨mi_k81, List.forall_mem_cons.mpr ⟨mi_k82, List.forall_mem_cons.mpr ⟨mi_k83, List.forall_mem_cons.mpr ⟨mi_k84, List.forall_mem_cons.mpr ⟨mi_k85, List.forall_mem_cons.mpr ⟨mi_k86, List.forall_mem_cons.mpr ⟨mi_k87, List.forall_mem_cons.mpr ⟨mi_k88, List.forall_mem_cons.mpr ⟨mi_k89, List.forall_mem_cons.mpr ⟨mi_k90, List.forall_mem_cons.mpr ⟨mi_k91, List.forall_mem_cons.mpr ⟨mi_k92, List.forall_mem_cons.mpr ⟨mi_k93, List.forall_mem_cons.mpr ⟨mi_k94, List.forall_mem_cons.mpr ⟨mi_k95, fun _ h => absurd h List.not_mem_nil⟩⟩⟩⟩⟩⟩⟩⟩⟩⟩⟩⟩⟩⟩⟩⟩⟩⟩⟩⟩⟩⟩⟩⟩⟩⟩⟩⟩⟩⟩⟩⟩
theorem mi_ka3 : ∀ k ∈ [96, 97, 98, 99, 100, 101, 102, 103, 104, 105, 106, 107, 108, 109, 110, 111, 112, 113, 114, 115, 116, 117, 118, 119, 120, 121, 122, 123, 124, 125, 126, 127], (mi_tb k).all (mi_chl k) = true := List.forall_mem_cons.mpr ⟨mi_k96, List.forall_mem_cons.mpr ⟨mi_k97, List.forall_mem_cons.mpr ⟨mi_k98, List.forall_mem_cons.mpr ⟨mi_k99, List.forall_mem_cons.mpr ⟨mi_k100, List.forall_mem_cons.mpr ⟨mi_k101, List.forall_mem_cons.mpr ⟨mi_k102, List.forall_mem_cons.mpr ⟨mi_k103, List.forall_mem_cons.mpr ⟨mi_k104, List.forall_mem_cons.mpr ⟨mi_k105, List.forall_mem_cons.mpr ⟨mi_k106, List.forall_mem_cons.mpr ⟨mi_k107, List.forall_mem_cons.mpr ⟨mi_k108, List.forall_mem_cons.mpr ⟨mi_k109, List.forall_mem_cons.mpr ⟨mi_k110, List.forall_mem_cons.mpr ⟨mi_k111, List.forall_mem_cons.mpr ⟨mi_k112, List.forall_mem_cons.mpr ⟨mi_k113, List.forall_mem_cons.mpr ⟨mi_k114, List.forall_mem_cons.mpr ⟨mi_k115, List.forall_mem_cons.mpr ⟨mi_k116, List.forall_mem_cons.mpr ⟨mi_k117, List.forall_mem_cons.mpr ⟨mi_k118, List.forall_mem_cons.mpr ⟨mi_k119, List.forall_mem_cons.mpr ⟨mi_k120, List.forall_mem_cons.mpr ⟨mi_k121, List.forall_mem_cons.mpr ⟨mi_k122, List.forall_mem_cons.mpr ⟨mi_k123, List.forall_mem_cons.mpr ⟨mi_k124, List.forall_mem_cons.mpr ⟨mi_k125, List.forall_mem_cons.mpr ⟨mi_k126, List.forall_mem_cons.mpr ⟨mi_k127, fun _ h => absurd h List.not_mem_nil⟩⟩⟩⟩⟩⟩⟩⟩⟩⟩⟩⟩⟩⟩⟩⟩⟩⟩⟩⟩⟩⟩⟩⟩⟩⟩⟩⟩⟩⟩⟩⟩
theorem mi_ka4 : ∀ k ∈ [128, 129, 130, 131, 132, 133, 134, 135, 136, 137, 138, 139, 140, 141, 142, 143, 144, 145, 146, 147, 148, 149, 150, 151, 152, 153, 154, 155, 156, 157, 158, 159], (mi_tb k).all (mi_chl k) = true := List.forall_mem_cons.mpr ⟨mi_k128, List.forall_mem_cons.mpr ⟨mi_k129, List.forall_mem_cons.mpr ⟨mi_k130, List.forall_mem_cons.mpr ⟨mi_k131, List.forall_mem_cons.mpr ⟨mi_k132, List.forall_mem_cons.mpr ⟨mi_k133, List.forall_mem_cons.mpr ⟨mi_k134, List.forall_mem_cons.mpr ⟨mi_k135, List.forall_mem_cons.mpr ⟨mi_k136, List.forall_mem_cons.mpr ⟨mi_k137, List.forall_mem_cons.mpr ⟨mi_k138, List.forall_mem_cons.mpr ⟨mi_k139, List.forall_mem_cons.mpr ⟨mi_k140, List.forall_mem_cons.mpr ⟨mi_k141, List.forall_mem_cons.mpr ⟨mi_k142, List.forall_mem_cons.mpr ⟨mi_k143, List.forall_mem_cons.mpr ⟨mi_k144, List.forall_mem_cons.mpr ⟨mi_k145, List.forall_mem_cons.mpr ⟨mi_k146, List.forall_mem_cons.mpr ⟨mi_k147, List.forall_mem_cons.mpr ⟨mi_k148, List.forall_mem_cons.mpr ⟨mi_k149, List.forall_mem_cons.mpr ⟨mi_k150, List.forall_mem_cons.mpr ⟨mi_k151, List.forall_mem_cons.mpr ⟨mi_k152, List.forall_mem_cons.mpr ⟨mi_k153, List.forall_mem_cons.mpr ⟨mi_k154, List.forall_mem_cons.mpr ⟨mi_k155, List.forall_mem_cons.mpr ⟨mi_k156, List.forall_mem_cons.mpr ⟨mi_k157, List.forall_mem_cons.mpr ⟨mi_k158, List.forall_mem_cons.mpr ⟨mi_k159, fun _ h => absurd h List.not_mem_nil⟩⟩⟩⟩⟩⟩⟩⟩⟩⟩⟩⟩⟩⟩⟩⟩⟩⟩⟩⟩⟩⟩⟩⟩⟩⟩⟩⟩⟩⟩⟩⟩
theorem mi_ka5 : ∀ k ∈ [160, 161, 162, 163, 164, 165, 166, 167, 168, 169, 170, 171, 172, 173, 174, 175, 176, 177, 178, 179, 180, 181, 182, 183, 184, 185, 186, 187, 188, 189, 190, 191], (mi_tb k).all (mi_chl k) = true := List.forall_mem_cons.mpr ⟨mi_k160, List.forall_mem_cons.mpr ⟨mi_k161, List.forall_mem_cons.mpr ⟨mi_k162, List.forall_mem_cons.mpr ⟨mi_k163, List.forall_mem_cons.mpr ⟨mi_k164, List.forall_mem_cons.mpr ⟨mi_k165, List.forall_mem_cons.mpr ⟨mi_k166, List.forall_mem_cons.mpr ⟨mi_k167, List.forall_mem_cons.mpr ⟨mi_k168, List.forall_mem_cons.mpr ⟨mi_k169, List.forall_mem_cons.mpr ⟨mi_k170, List.forall_mem_cons.mpr ⟨mi_k171, List.forall_mem_cons.mpr ⟨mi_k172, List.forall_mem_cons.mpr ⟨mi_k173, List.forall_mem_cons.mpr ⟨mi_k174, List.forall_mem_cons.mpr ⟨mi_k175, List.forall_mem_cons.mpr ⟨mi_k176, List.forall_mem_cons.mpr ⟨mi_k177, List.forall_mem_cons.mpr ⟨mi_k178, List.forall_mem_cons.mpr ⟨mi_k179, List.forall_mem_cons.mpr ⟨mi_k180, List.forall_mem_cons.mpr ⟨mi_k181, List.forall_mem_cons.mpr ⟨mi_k182, List.forall_mem_cons.mpr ⟨mi_k183, List.forall_mem_cons.mpr ⟨mi_k184, List.forall_mem_cons.mpr ⟨mi_k185, List.forall_mem_cons.mpr ⟨mi_k186, List.forall_mem_cons.mpr ⟨mi_k187, List.forall_mem_cons.mpr ⟨mi_k188, List.forall_mem_cons.mpr ⟨mi_k189, List.forall_mem_cons.mpr ⟨mi_k190, List.forall_mem_cons.mpr ⟨mi_k191, fun _ h => absurd h List.not_mem_nil⟩⟩⟩⟩⟩⟩⟩⟩⟩⟩⟩⟩⟩⟩⟩⟩⟩⟩⟩⟩⟩⟩⟩⟩⟩⟩⟩⟩⟩⟩⟩⟩
theorem mi_ka6 : ∀ k ∈ [192, 193, 194, 195, 196, 197, 198, 199, 200, 201, 202, 203, 204, 205, 206, 207, 208, 209, 210, 211, 212, 213, 214, 215, 216, 217, 218, 219, 220, 221, 222, 223], (mi_tb k).all (mi_chl k) = true := List.forall_mem_cons.mpr ⟨mi_k192, List.forall_mem_cons.mpr ⟨mi_k193, List.forall_mem_cons.mpr ⟨mi_k194, List.forall_mem_cons.mpr ⟨mi_k195, List.forall_mem_cons.mpr ⟨mi_k196, List.forall_mem_cons.mpr ⟨mi_k197, List.forall_mem_cons.mpr ⟨mi_k198, List.forall_mem_cons.mpr ⟨mi_k199, List.forall_mem_cons.mpr ⟨mi_k200, List.forall_mem_cons.mpr ⟨mi_k201, List.forall_mem_cons.mpr ⟨mi_k202, List.forall_mem_cons.mpr ⟨mi_k203, List.forall_mem_cons.mpr ⟨mi_k204, List.forall_mem_cons.mpr ⟨mi_k205, List.forall_mem_cons.mpr ⟨mi_k206, List.forall_mem_cons.mpr ⟨mi_k207, List.forall_mem_cons.mpr ⟨mi_k208, List.forall_mem_cons.mpr ⟨mi_k209, List.forall_mem_cons.mpr ⟨mi_k210, List.forall_mem_cons.mpr ⟨mi_k211, List.forall_mem_cons.mpr ⟨mi_k212, List.forall_mem_cons.mpr ⟨mi_k213, List.forall_mem_cons.mpr ⟨mi_k214, List.forall_mem_cons.mpr ⟨mi_k215, List.forall_mem_cons.mpr ⟨mi_k216, List.forall_mem_cons.mpr ⟨mi_k217, List.forall_mem_cons.mpr ⟨mi_k218, List.forall_mem_cons.mpr ⟨mi_k219, List.forall_mem_cons.mpr ⟨mi_k220, List.forall_mem_cons.mpr ⟨mi_k221, List.forall_mem_cons.mpr ⟨mi_k222, List.forall_mem_cons.mpr ⟨mi_k223, fun _ h => absurd h List.not_mem_nil⟩⟩⟩⟩⟩⟩⟩⟩⟩⟩⟩⟩⟩⟩⟩⟩⟩⟩⟩⟩⟩⟩⟩⟩⟩⟩⟩⟩⟩⟩⟩⟩
theorem mi_ka7 : ∀ k ∈ [224, 225, 226, 227, 228, 229, 230, 231, 232, 233, 234, 235, 236, 237, 238, 239, 240, 241, 242, 243, 244, 245, 246, 247, 248, 249, 250, 251, 252, 253, 254, 255], (mi_tb k).all (mi_chl k) = true := List.forall_mem_cons.mpr ⟨mi_k224, List.forall_mem_cons.mpr ⟨mi_k225, List.forall_mem_cons.mpr ⟨mi_k226, List.forall_mem_cons.mpr ⟨mi_k227, List.forall_mem_cons.mpr ⟨mi_k228, List.forall_mem_cons.mpr ⟨mi_k229, List.forall_mem_cons.mpr ⟨mi_k230, List.forall_mem_cons.mpr ⟨mi_k231, List.forall_mem_cons.mpr ⟨mi_k232, List.forall_mem_cons.mpr ⟨mi_k233, List.forall_mem_cons.mpr ⟨mi_k234, List.forall_mem_cons.mpr ⟨mi_k235, List.forall_mem_cons.mpr ⟨mi_k236, List.forall_mem_cons.mpr ⟨mi_k237, List.forall_mem_cons.mpr ⟨mi_k238, List.forall_mem_cons.mpr ⟨mi_k239, List.forall_mem_cons.mpr ⟨mi_k240, List.forall_mem_cons.mpr ⟨mi_k241, List.forall_mem_cons.mpr ⟨mi_k242, List.forall_mem_cons.mpr ⟨mi_k243, List.forall_mem_cons.mpr ⟨mi_k244, List.forall_mem_cons.mpr ⟨mi_k245, List.forall_mem_cons.mpr ⟨mi_k246, List.forall_mem_cons.mpr ⟨mi_k247, List.forall_mem_cons.mpr ⟨mi_k248, List.forall_mem_cons.mpr ⟨mi_k249, List.forall_mem_cons.mpr ⟨mi_k250, List.forall_mem_cons.mpr ⟨mi_k251, List.forall_mem_cons.mpr ⟨mi_k252, List.forall_mem_cons.mpr ⟨mi_k253, List.forall_mem_cons.mpr ⟨mi_k254, List.forall_mem_cons.mpr ⟨mi_k255, fun _ h => absurd h List.not_mem_nil⟩⟩⟩⟩⟩⟩⟩⟩⟩⟩⟩⟩⟩⟩⟩⟩⟩⟩⟩⟩⟩⟩⟩⟩⟩⟩⟩⟩⟩⟩⟩⟩
theorem mi_ka8 : ∀ k ∈ [256, 257, 258, 259, 260, 261], (mi_tb k).all (mi_chl k) = true := List.forall_mem_cons.mpr ⟨mi_k256, List.forall_mem_cons.mpr ⟨mi_k257, List.forall_mem_cons.mpr ⟨mi_k258, List.forall_mem_cons.mpr ⟨mi_k259, List.forall_mem_cons.mpr ⟨mi_k260, List.forall_mem_cons.mpr ⟨mi_k261, fun _ h => absurd h List.not_mem_nil⟩⟩⟩⟩⟩⟩
theorem mi_kall (k : Nat) (hk : k < 262) : (mi_tb k).all (mi_chl k) = true := by
  by_cases h0 : k < 32
  · exact mi_ka0 k (by have : k ∈ List.range' 0 32 := List.mem_range'_1.mpr ⟨by omega, by omega⟩; exact this)
  by_cases h1 : k < 64
  · exact mi_ka1 k (by have : k ∈ List.range' 32 32 := List.mem_range'_1.mpr ⟨by omega, by omega⟩; exact this)
  by_cases h2 : k < 96
  · exact mi_ka2 k (by have : k ∈ List.range' 64 32 := List.mem_range'_1.mpr ⟨by omega, by omega⟩; exact this)
  by_cases h3 : k < 128
  · exact mi_ka3 k (by have : k ∈ List.range' 96 32 := List.mem_range'_1.mpr ⟨by omega, by omega⟩; exact this)
  by_cases h4 : k < 160
  · exact mi_ka4 k (by have : k ∈ List.range' 128 32 := List.mem_range'_1.mpr ⟨by omega, by omega⟩; exact this)
  by_cases h5 : k < 192
  · exact mi_ka5 k (by have : k ∈ List.range' 160 32 := List.mem_range'_1.mpr ⟨by omega, by omega⟩; exact this)
  by_cases h6 : k < 224
  · exact mi_ka6 k (by have : k ∈ List.range' 192 32 := List.mem_range'_1.mpr ⟨by omega, by omega⟩; exact this)
  by_cases h7 : k < 256
  · exact mi_ka7 k (by have : k ∈ List.range' 224 32 := List.mem_range'_1.mpr ⟨by omega, by omega⟩; exact this)
  by_cases h8 : k < 262
  · exact mi_ka8 k (by have : k ∈ List.range' 256 6 := List.mem_range'_1.mpr ⟨by omega, by omega⟩; exact this)
  omega
theorem mi_find_mem : ∀ (l : List mi_E) (pc : Nat) (x : Instr × Nat × Nat), mi_find pc l = some x → (pc, x) ∈ l
  | [], _, _, h => by simp [mi_find] at h
  | e :: r, pc, x, h => by
    simp only [mi_find] at h
    cases hb : Nat.beq e.1 pc with
    | true =>
      rw [hb] at h
      have h1 : e.2 = x := Option.some.inj h
      have h2 : e.1 = pc := Nat.eq_of_beq_eq_true hb
      subst h1; subst h2
      exact List.mem_cons_self
    | false =>
      rw [hb] at h
      exact List.mem_cons_of_mem _ (mi_find_mem r pc x h)
theorem mi_nth_mem : ∀ (tb : mi_T) (n : Nat), mi_nth tb n = [] ∨ mi_nth tb n ∈ tb
  | [], _ => Or.inl rfl
  | x :: _, 0 => Or.inr List.mem_cons_self
  | _ :: l, n + 1 => (mi_nth_mem l n).elim Or.inl (fun h => Or.inr (List.mem_cons_of_mem _ h))
theorem mi_at_chk {k pc nx aux : Nat} {i : Instr} (hk : k < 262) (h : mi_at (mi_tb k) pc = some (i, nx, aux)) : mi_chk k (pc, i, nx, aux) = true := by
  have h1 := mi_find_mem _ _ _ h
  rcases mi_nth_mem (mi_tb k) (pc / 32) with h2 | h2
  · rw [h2] at h1; exact absurd h1 List.not_mem_nil
  · exact List.all_eq_true.mp (List.all_eq_true.mp (mi_kall k hk) _ h2) _ h1
theorem mi_dec {k pc nx aux : Nat} {i : Instr} (hk : k < 262) (h : mi_at (mi_tb k) pc = some (i, nx, aux)) (L : Nat) (hL : mi_ln i = L) (h0 : L ≠ 0) : decode (mi_cd k) pc = .ok (i, L) ∧ nx = pc + L ∧ mi_ck2 k pc i aux = true := by
  have h1 := mi_at_chk hk h
  simp only [mi_chk, Bool.and_eq_true, Bool.or_eq_true, decide_eq_true_eq] at h1
  obtain ⟨⟨h2, h3⟩, h4⟩ := h1
  have h5 : nx = pc + L := by
    rcases h3 with h3 | h3
    · have := Nat.eq_of_beq_eq_true h3; omega
    · have := Nat.eq_of_beq_eq_true h3; rw [hL] at this; exact this
  refine ⟨?_, h5, h4⟩
  rw [h2, h5, Nat.add_sub_cancel_left]
theorem mi_decS {k pc nx aux : Nat} {i : Instr} (hk : k < 262) (h : mi_at (mi_tb k) pc = some (i, nx, aux)) : decode (mi_cd k) pc = .ok (i, nx - pc) ∧ mi_ck2 k pc i aux = true := by
  have h1 := mi_at_chk hk h
  simp only [mi_chk, Bool.and_eq_true, Bool.or_eq_true, decide_eq_true_eq] at h1
  exact ⟨h1.1.1, h1.2⟩
theorem mi_vo_i {n : Nat} {z : Int} : mi_vo n (.inl z) := fun r h => by cases h
theorem mi_vo_l {n : Nat} {z : Int} : mi_vo n (.inr (.inr z)) := fun r h => by cases h
theorem mi_vo_n {n : Nat} : mi_vo n (.inr (.inl none)) := fun r h => by cases h
theorem mi_vo_r {n r : Nat} (h : r < n ∨ 1000 ≤ r) : mi_vo n (.inr (.inl (some r))) := fun q e => by cases e; exact h
theorem mi_vo_c {n : Nat} {v : mi_V} {st : mi_S} (h1 : mi_vo n v) (h2 : ∀ v ∈ st, mi_vo n v) : ∀ x ∈ v :: st, mi_vo n x := List.forall_mem_cons.mpr ⟨h1, h2⟩
section
variable {X : mi_X} {k : Nat} {Ge : mi_G} {Q : mi_R → mi_G → mi_M → Prop} {pc nx aux : Nat} {ls : mi_L} {st st' : mi_S} {G : mi_G} {μ : mi_M} {u : mi_U}
/-- a step on the stack alone -/
theorem mi_stk (hv : ∀ n, (∀ v ∈ st, mi_vo n v) → ∀ v ∈ st', mi_vo n v) (hk : mi_ok X k Ge Q nx ls st' G μ u)
    (hrow : ∀ (p : Program) (l : Launch) (e : Env) (R : Room) (s : State) (m : MethodId) (args : Array Value) (below : List Frame) (meth : Method) (c : Code) (H : Heap) (locs : List Loc) (cells slots : Nat) (Qf : State → Prop) (la : Array Slot) (ad : Nat → Nat), p.tables.exec = Jvm.exec → c.code = mi_cd k → s.vm.findClass (mi_rs (mi_on k)) = some m.cls → (∀ w ∈ lw_tbl, mi_gw w = true → w.before args s = true) →
      W p l e R s m args below meth c H locs cells slots Qf (F0 m nx la (st'.map (mi_c ad))) → W p l e R s m args below meth c H locs cells slots Qf (F0 m pc la (st.map (mi_c ad)))) : mi_ok X k Ge Q pc ls st G μ u := by
  intro base D ca sa adE p l e R s m args below meth c hA ad la H locs cells slots hS
  have hA' := hA
  obtain ⟨hx, hb, hml, hr, hown, hlk, hin, hex, hst, hf, hlo, hE⟩ := hA'
  refine hrow p l e R s m args below meth c H locs cells slots _ la ad hx hb hown (fun w hw hg => hE.w hw hg) ?_
  obtain ⟨s1, s2, s3, s4, s5, s6⟩ := hS
  exact hk base D ca sa adE p l e R s m args below meth c hA ad la H locs cells slots ⟨s1, s2, s3, s4, hv _ s5, s6⟩
theorem mi_s_iadd (h262 : k < 262) (hat : mi_at (mi_tb k) pc = some (.iadd, nx, aux)) {a b : Int} (hk : mi_ok X k Ge Q nx ls (.inl (a + b) :: st) G μ u) : mi_ok X k Ge Q pc ls (.inl b :: .inl a :: st) G μ u := by
  obtain ⟨hd, hn, -⟩ := mi_dec h262 hat 1 rfl (by decide)
  subst hn
  refine mi_stk (fun n h => mi_vo_c mi_vo_i (fun v hv => h v (List.mem_cons_of_mem _ (List.mem_cons_of_mem _ hv)))) hk ?_
  intro p l e R s m args below meth c H locs cells slots Qf la ad hx hb ho hw hW
  exact lv_iadd hx hb hd (by rw [← Int32.ofInt_add]; exact hW)
theorem mi_s_isub (h262 : k < 262) (hat : mi_at (mi_tb k) pc = some (.isub, nx, aux)) {a b : Int} (hk : mi_ok X k Ge Q nx ls (.inl (a - b) :: st) G μ u) : mi_ok X k Ge Q pc ls (.inl b :: .inl a :: st) G μ u := by
  obtain ⟨hd, hn, -⟩ := mi_dec h262 hat 1 rfl (by decide)
  subst hn
  refine mi_stk (fun n h => mi_vo_c mi_vo_i (fun v hv => h v (List.mem_cons_of_mem _ (List.mem_cons_of_mem _ hv)))) hk ?_
  intro p l e R s m args below meth c H locs cells slots Qf la ad hx hb ho hw hW
  exact lv_isub hx hb hd (by rw [← Int32.ofInt_sub]; exact hW)
theorem mi_s_imul (h262 : k < 262) (hat : mi_at (mi_tb k) pc = some (.imul, nx, aux)) {a b : Int} (hk : mi_ok X k Ge Q nx ls (.inl (a * b) :: st) G μ u) : mi_ok X k Ge Q pc ls (.inl b :: .inl a :: st) G μ u := by
  obtain ⟨hd, hn, -⟩ := mi_dec h262 hat 1 rfl (by decide)
  subst hn
  refine mi_stk (fun n h => mi_vo_c mi_vo_i (fun v hv => h v (List.mem_cons_of_mem _ (List.mem_cons_of_mem _ hv)))) hk ?_
  intro p l e R s m args below meth c H locs cells slots Qf la ad hx hb ho hw hW
  exact lv_imul hx hb hd (by rw [← Int32.ofInt_mul]; exact hW)
theorem mi_s_ishl (h262 : k < 262) (hat : mi_at (mi_tb k) pc = some (.ishl, nx, aux)) {a b : Int} (hk : mi_ok X k Ge Q nx ls (.inl (mi_shl a b) :: st) G μ u) : mi_ok X k Ge Q pc ls (.inl b :: .inl a :: st) G μ u := by
  obtain ⟨hd, hn, -⟩ := mi_dec h262 hat 1 rfl (by decide)
  subst hn
  refine mi_stk (fun n h => mi_vo_c mi_vo_i (fun v hv => h v (List.mem_cons_of_mem _ (List.mem_cons_of_mem _ hv)))) hk ?_
  intro p l e R s m args below meth c H locs cells slots Qf la ad hx hb ho hw hW
  exact lv_ishl hx hb hd (by rw [← mi_of_toInt (Int32.ofInt a <<< (Int32.ofInt b &&& 31))]; exact hW)
theorem mi_s_ishr (h262 : k < 262) (hat : mi_at (mi_tb k) pc = some (.ishr, nx, aux)) {a b : Int} (hk : mi_ok X k Ge Q nx ls (.inl (mi_shr a b) :: st) G μ u) : mi_ok X k Ge Q pc ls (.inl b :: .inl a :: st) G μ u := by
  obtain ⟨hd, hn, -⟩ := mi_dec h262 hat 1 rfl (by decide)
  subst hn
  refine mi_stk (fun n h => mi_vo_c mi_vo_i (fun v hv => h v (List.mem_cons_of_mem _ (List.mem_cons_of_mem _ hv)))) hk ?_
  intro p l e R s m args below meth c H locs cells slots Qf la ad hx hb ho hw hW
  exact lv_ishr hx hb hd (by rw [← mi_of_toInt (Int32.ofInt a >>> (Int32.ofInt b &&& 31))]; exact hW)
theorem mi_s_iand (h262 : k < 262) (hat : mi_at (mi_tb k) pc = some (.iand, nx, aux)) {a b : Int} (hk : mi_ok X k Ge Q nx ls (.inl (mi_and a b) :: st) G μ u) : mi_ok X k Ge Q pc ls (.inl b :: .inl a :: st) G μ u := by
  obtain ⟨hd, hn, -⟩ := mi_dec h262 hat 1 rfl (by decide)
  subst hn
  refine mi_stk (fun n h => mi_vo_c mi_vo_i (fun v hv => h v (List.mem_cons_of_mem _ (List.mem_cons_of_mem _ hv)))) hk ?_
  intro p l e R s m args below meth c H locs cells slots Qf la ad hx hb ho hw hW
  exact lv_iand hx hb hd (by rw [← mi_of_toInt (Int32.ofInt a &&& Int32.ofInt b)]; exact hW)
theorem mi_s_ior (h262 : k < 262) (hat : mi_at (mi_tb k) pc = some (.ior, nx, aux)) {a b : Int} (hk : mi_ok X k Ge Q nx ls (.inl (mi_or a b) :: st) G μ u) : mi_ok X k Ge Q pc ls (.inl b :: .inl a :: st) G μ u := by
  obtain ⟨hd, hn, -⟩ := mi_dec h262 hat 1 rfl (by decide)
  subst hn
  refine mi_stk (fun n h => mi_vo_c mi_vo_i (fun v hv => h v (List.mem_cons_of_mem _ (List.mem_cons_of_mem _ hv)))) hk ?_
  intro p l e R s m args below meth c H locs cells slots Qf la ad hx hb ho hw hW
  exact lv_ior hx hb hd (by rw [← mi_of_toInt (Int32.ofInt a ||| Int32.ofInt b)]; exact hW)
theorem mi_s_ixor (h262 : k < 262) (hat : mi_at (mi_tb k) pc = some (.ixor, nx, aux)) {a b : Int} (hk : mi_ok X k Ge Q nx ls (.inl (mi_xor a b) :: st) G μ u) : mi_ok X k Ge Q pc ls (.inl b :: .inl a :: st) G μ u := by
  obtain ⟨hd, hn, -⟩ := mi_dec h262 hat 1 rfl (by decide)
  subst hn
  refine mi_stk (fun n h => mi_vo_c mi_vo_i (fun v hv => h v (List.mem_cons_of_mem _ (List.mem_cons_of_mem _ hv)))) hk ?_
  intro p l e R s m args below meth c H locs cells slots Qf la ad hx hb ho hw hW
  exact lv_ixor hx hb hd (by rw [← mi_of_toInt (Int32.ofInt a ^^^ Int32.ofInt b)]; exact hW)
theorem mi_s_iushr (h262 : k < 262) (hat : mi_at (mi_tb k) pc = some (.iushr, nx, aux)) {a b : Int} (hk : mi_ok X k Ge Q nx ls (.inl (mi_ushr a b) :: st) G μ u) : mi_ok X k Ge Q pc ls (.inl b :: .inl a :: st) G μ u := by
  obtain ⟨hd, hn, -⟩ := mi_dec h262 hat 1 rfl (by decide)
  subst hn
  refine mi_stk (fun n h => mi_vo_c mi_vo_i (fun v hv => h v (List.mem_cons_of_mem _ (List.mem_cons_of_mem _ hv)))) hk ?_
  intro p l e R s m args below meth c H locs cells slots Qf la ad hx hb ho hw hW
  exact lv_iushr hx hb hd (mi_of_toInt _).symm hW
theorem mi_s_idiv (h262 : k < 262) (hat : mi_at (mi_tb k) pc = some (.idiv, nx, aux)) {a b : Int} (hb0 : mi_wr b ≠ 0) (hk : mi_ok X k Ge Q nx ls (.inl (mi_div a b) :: st) G μ u) : mi_ok X k Ge Q pc ls (.inl b :: .inl a :: st) G μ u := by
  obtain ⟨hd, hn, -⟩ := mi_dec h262 hat 1 rfl (by decide)
  subst hn
  refine mi_stk (fun n h => mi_vo_c mi_vo_i (fun v hv => h v (List.mem_cons_of_mem _ (List.mem_cons_of_mem _ hv)))) hk ?_
  intro p l e R s m args below meth c H locs cells slots Qf la ad hx hb ho hw hW
  exact lv_idiv hx hb hd (fun e => hb0 (by rw [← mi_wr_toInt, e]; rfl)) (by rw [← mi_of_toInt (Int32.ofInt a / Int32.ofInt b)]; exact hW)
theorem mi_s_irem (h262 : k < 262) (hat : mi_at (mi_tb k) pc = some (.irem, nx, aux)) {a b : Int} (hb0 : mi_wr b ≠ 0) (hk : mi_ok X k Ge Q nx ls (.inl (mi_rem a b) :: st) G μ u) : mi_ok X k Ge Q pc ls (.inl b :: .inl a :: st) G μ u := by
  obtain ⟨hd, hn, -⟩ := mi_dec h262 hat 1 rfl (by decide)
  subst hn
  refine mi_stk (fun n h => mi_vo_c mi_vo_i (fun v hv => h v (List.mem_cons_of_mem _ (List.mem_cons_of_mem _ hv)))) hk ?_
  intro p l e R s m args below meth c H locs cells slots Qf la ad hx hb ho hw hW
  exact lv_irem hx hb hd (fun e => hb0 (by rw [← mi_wr_toInt, e]; rfl)) (by rw [← mi_of_toInt (Int32.ofInt a - Int32.ofInt a / Int32.ofInt b * Int32.ofInt b)]; exact hW)
theorem mi_s_ineg (h262 : k < 262) (hat : mi_at (mi_tb k) pc = some (.ineg, nx, aux)) {a : Int} (hk : mi_ok X k Ge Q nx ls (.inl (-a) :: st) G μ u) : mi_ok X k Ge Q pc ls (.inl a :: st) G μ u := by
  obtain ⟨hd, hn, -⟩ := mi_dec h262 hat 1 rfl (by decide)
  subst hn
  refine mi_stk (fun n h => mi_vo_c mi_vo_i (fun v hv => h v (List.mem_cons_of_mem _ hv))) hk ?_
  intro p l e R s m args below meth c H locs cells slots Qf la ad hx hb ho hw hW
  exact lv_ineg hx hb hd (by rw [← Int32.ofInt_neg]; exact hW)
theorem mi_s_i2b (h262 : k < 262) (hat : mi_at (mi_tb k) pc = some (.i2b, nx, aux)) {a : Int} (hk : mi_ok X k Ge Q nx ls (.inl (mi_i2b a) :: st) G μ u) : mi_ok X k Ge Q pc ls (.inl a :: st) G μ u := by
  obtain ⟨hd, hn, -⟩ := mi_dec h262 hat 1 rfl (by decide)
  subst hn
  refine mi_stk (fun n h => mi_vo_c mi_vo_i (fun v hv => h v (List.mem_cons_of_mem _ hv))) hk ?_
  intro p l e R s m args below meth c H locs cells slots Qf la ad hx hb ho hw hW
  exact lv_i2b hx hb hd (mi_of_toInt _).symm hW
theorem mi_l_of (x : Int32) : x.toInt64 = Int64.ofInt x.toInt := by
  apply Int64.toInt_inj.mp
  rw [Int32.toInt_toInt64, Int64.toInt_ofInt]
  exact (Int.bmod_eq_of_le (by have := x.le_toInt; have e : Int64.size = 18446744073709551616 := rfl; rw [e]; omega) (by have := x.toInt_lt; have e : Int64.size = 18446744073709551616 := rfl; rw [e]; omega)).symm
theorem mi_s_i2l (h262 : k < 262) (hat : mi_at (mi_tb k) pc = some (.i2l, nx, aux)) {a : Int} (hk : mi_ok X k Ge Q nx ls (.inr (.inr (mi_wr a)) :: st) G μ u) : mi_ok X k Ge Q pc ls (.inl a :: st) G μ u := by
  obtain ⟨hd, hn, -⟩ := mi_dec h262 hat 1 rfl (by decide)
  subst hn
  refine mi_stk (fun n h => mi_vo_c mi_vo_l (fun v hv => h v (List.mem_cons_of_mem _ hv))) hk ?_
  intro p l e R s m args below meth c H locs cells slots Qf la ad hx hb ho hw hW
  exact lv_i2l hx hb hd (by rw [← mi_wr_toInt]; exact (mi_l_of _)) hW
theorem mi_s_lcmp (h262 : k < 262) (hat : mi_at (mi_tb k) pc = some (.lcmp, nx, aux)) {a b : Int} (hk : mi_ok X k Ge Q nx ls (.inl (mi_cmpl a b) :: st) G μ u) : mi_ok X k Ge Q pc ls (.inr (.inr b) :: .inr (.inr a) :: st) G μ u := by
  obtain ⟨hd, hn, -⟩ := mi_dec h262 hat 1 rfl (by decide)
  subst hn
  refine mi_stk (fun n h => mi_vo_c mi_vo_i (fun v hv => h v (List.mem_cons_of_mem _ (List.mem_cons_of_mem _ hv)))) hk ?_
  intro p l e R s m args below meth c H locs cells slots Qf la ad hx hb ho hw hW
  exact W.lcmp hx hb hd (by rw [← mi_of_toInt (lg_cmp (Int64.ofInt a) (Int64.ofInt b))]; exact hW)
theorem mi_s_iconst (h262 : k < 262) {z : Int} (hat : mi_at (mi_tb k) pc = some (.iconst z, nx, aux)) (hk : mi_ok X k Ge Q nx ls (.inl z :: st) G μ u) : mi_ok X k Ge Q pc ls st G μ u := by
  obtain ⟨hd, hn, -⟩ := mi_dec h262 hat 1 rfl (by decide)
  subst hn
  refine mi_stk (fun n h => mi_vo_c mi_vo_i h) hk ?_
  intro p l e R s m args below meth c H locs cells slots Qf la ad hx hb ho hw hW
  exact lv_iconst hx hb hd rfl hW
theorem mi_s_bipush (h262 : k < 262) {z : Int} (hat : mi_at (mi_tb k) pc = some (.bipush z, nx, aux)) (h1 : -128 ≤ z) (h2 : z < 128) (hk : mi_ok X k Ge Q nx ls (.inl z :: st) G μ u) : mi_ok X k Ge Q pc ls st G μ u := by
  obtain ⟨hd, hn, -⟩ := mi_dec h262 hat 2 rfl (by decide)
  subst hn
  refine mi_stk (fun n h => mi_vo_c mi_vo_i h) hk ?_
  intro p l e R s m args below meth c H locs cells slots Qf la ad hx hb ho hw hW
  refine lv_bipush hx hb hd ?_ hW
  apply Int32.toInt_inj.mp
  rw [Int8.toInt_toInt32, Int8.toInt_ofInt, mi_wr_toInt, mi_wr_id (by omega) (by omega)]
  exact Int.bmod_eq_of_le (by have e : Int8.size = 256 := rfl; rw [e]; omega) (by have e : Int8.size = 256 := rfl; rw [e]; omega)
theorem mi_s_sipush (h262 : k < 262) {z : Int} (hat : mi_at (mi_tb k) pc = some (.sipush z, nx, aux)) (h1 : -32768 ≤ z) (h2 : z < 32768) (hk : mi_ok X k Ge Q nx ls (.inl z :: st) G μ u) : mi_ok X k Ge Q pc ls st G μ u := by
  obtain ⟨hd, hn, -⟩ := mi_dec h262 hat 3 rfl (by decide)
  subst hn
  refine mi_stk (fun n h => mi_vo_c mi_vo_i h) hk ?_
  intro p l e R s m args below meth c H locs cells slots Qf la ad hx hb ho hw hW
  refine lv_sipush hx hb hd ?_ hW
  apply Int32.toInt_inj.mp
  rw [Int16.toInt_toInt32, Int16.toInt_ofInt, mi_wr_toInt, mi_wr_id (by omega) (by omega)]
  exact Int.bmod_eq_of_le (by have e : Int16.size = 65536 := rfl; rw [e]; omega) (by have e : Int16.size = 65536 := rfl; rw [e]; omega)
theorem mi_KL_in {k i aux : Nat} (h : (mi_on k, i, aux) ∈ mi_KL) : Cond.constant (mi_rs (mi_on k)) i (Int32.ofNat aux) ∈ lw_tbl := mi_KL_ok _ h
theorem mi_s_ldc (h262 : k < 262) {i : Nat} (hat : mi_at (mi_tb k) pc = some (.ldc i, nx, aux)) (ha : Nat.blt aux 2147483648 = true) (hk : mi_ok X k Ge Q nx ls (.inl (aux : Int) :: st) G μ u) : mi_ok X k Ge Q pc ls st G μ u := by
  obtain ⟨hd, hn, hc⟩ := mi_dec h262 hat 2 rfl (by decide)
  subst hn
  simp only [mi_ck2, ha, cond_true, decide_eq_true_eq] at hc
  refine mi_stk (fun n h => mi_vo_c mi_vo_i h) hk ?_
  intro p l e R s m args below meth c H locs cells slots Qf la ad hx hb ho hw hW
  exact lv_ldc hx hb ho (hw _ (mi_KL_in hc) rfl) hd (by rw [← Int32.ofInt_eq_ofNat]; exact hW)
theorem mi_s_ldcw (h262 : k < 262) {i : Nat} (hat : mi_at (mi_tb k) pc = some (.ldc_w i, nx, aux)) (hk : mi_ok X k Ge Q nx ls (.inl (aux : Int) :: st) G μ u) : mi_ok X k Ge Q pc ls st G μ u := by
  obtain ⟨hd, hn, hc⟩ := mi_dec h262 hat 3 rfl (by decide)
  subst hn
  simp only [mi_ck2, decide_eq_true_eq] at hc
  refine mi_stk (fun n h => mi_vo_c mi_vo_i h) hk ?_
  intro p l e R s m args below meth c H locs cells slots Qf la ad hx hb ho hw hW
  exact lv_ldcw hx hb ho (hw _ (mi_KL_in hc) rfl) hd (by rw [← Int32.ofInt_eq_ofNat]; exact hW)
theorem mi_s_dup (h262 : k < 262) (hat : mi_at (mi_tb k) pc = some (.dup, nx, aux)) {v : mi_V} (hv : ∀ z, v ≠ .inr (.inr z)) (hk : mi_ok X k Ge Q nx ls (v :: v :: st) G μ u) : mi_ok X k Ge Q pc ls (v :: st) G μ u := by
  obtain ⟨hd, hn, -⟩ := mi_dec h262 hat 1 rfl (by decide)
  subst hn
  refine mi_stk (fun n h => mi_vo_c (h v List.mem_cons_self) h) hk ?_
  intro p l e R s m args below meth c H locs cells slots Qf la ad hx hb ho hw hW
  refine lv_dup hx hb hd ?_ hW
  match v, hv with
  | .inl _, _ => rfl
  | .inr (.inl none), _ => rfl
  | .inr (.inl (some _)), _ => rfl
  | .inr (.inr z), hv => exact absurd rfl (hv z)
theorem mi_s_pop (h262 : k < 262) (hat : mi_at (mi_tb k) pc = some (.pop, nx, aux)) {a : Int} (hk : mi_ok X k Ge Q nx ls st G μ u) : mi_ok X k Ge Q pc ls (.inl a :: st) G μ u := by
  obtain ⟨hd, hn, -⟩ := mi_dec h262 hat 1 rfl (by decide)
  subst hn
  refine mi_stk (fun n h v hv => h v (List.mem_cons_of_mem _ hv)) hk ?_
  intro p l e R s m args below meth c H locs cells slots Qf la ad hx hb ho hw hW
  exact lv_pop hx hb hd rfl hW
theorem mi_s_goto (h262 : k < 262) {o : Int} (hat : mi_at (mi_tb k) pc = some (.goto o, nx, aux)) (hk : mi_ok X k Ge Q aux ls st G μ u) : mi_ok X k Ge Q pc ls st G μ u := by
  obtain ⟨hd, hn, hc⟩ := mi_dec h262 hat 3 rfl (by decide)
  simp only [mi_ck2, decide_eq_true_eq] at hc
  refine mi_stk (fun n h => h) hk ?_
  intro p l e R s m args below meth c H locs cells slots Qf la ad hx hb ho hw hW
  exact lv_goto hx hb hd hc hW
end
