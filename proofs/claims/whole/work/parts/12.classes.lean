/-! the classes: their words, fields, types -/
def mi_gl : List Cond := lw_tbl.filter mi_gw
theorem mi_in2 (L : List Cond) (ps : List Nat) (h : L = ps.filterMap (fun i => lw_tbl[i]?)) (hg : L.all mi_gw = true) : ∀ w ∈ L, w ∈ mi_gl := by
  intro w hw
  have h2 := List.all_eq_true.mp hg w hw
  rw [h] at hw
  obtain ⟨i, -, hi⟩ := List.mem_filterMap.mp hw
  exact List.mem_filter.mpr ⟨List.mem_of_getElem? hi, h2⟩
set_option maxRecDepth 100000 in
theorem mi_u0 : ∀ w ∈ u_ws RX0 TX0 3, w ∈ mi_gl := mi_in2 _ [293, 295, 297] (by decide +kernel) (by decide +kernel)
set_option maxRecDepth 100000 in
theorem mi_u1 : ∀ w ∈ u_ws RX1 TX1 7, w ∈ mi_gl := mi_in2 _ [199, 201, 203, 205, 207, 209, 211] (by decide +kernel) (by decide +kernel)
set_option maxRecDepth 100000 in
theorem mi_u2 : ∀ w ∈ u_ws RX2 TX2 3, w ∈ mi_gl := mi_in2 _ [421, 423, 425] (by decide +kernel) (by decide +kernel)
set_option maxRecDepth 100000 in
theorem mi_u3 : ∀ w ∈ u_ws RX3 TX3 6, w ∈ mi_gl := mi_in2 _ [351, 353, 355, 357, 359, 361] (by decide +kernel) (by decide +kernel)
set_option maxRecDepth 100000 in
theorem mi_u4 : ∀ w ∈ u_ws RX4 TX4 6, w ∈ mi_gl := mi_in2 _ [319, 321, 323, 325, 327, 329] (by decide +kernel) (by decide +kernel)
set_option maxRecDepth 100000 in
theorem mi_u5 : ∀ w ∈ u_ws RX5 TX5 3, w ∈ mi_gl := mi_in2 _ [270, 272, 274] (by decide +kernel) (by decide +kernel)
set_option maxRecDepth 100000 in
theorem mi_u6 : ∀ w ∈ u_ws RX6 TX6 7, w ∈ mi_gl := mi_in2 _ [377, 379, 381, 383, 385, 387, 389] (by decide +kernel) (by decide +kernel)
set_option maxRecDepth 100000 in
theorem mi_u7 : ∀ w ∈ u_ws RX7 TX7 6, w ∈ mi_gl := mi_in2 _ [244, 246, 248, 250, 252, 254] (by decide +kernel) (by decide +kernel)
set_option maxRecDepth 100000 in
theorem mi_u8 : ∀ w ∈ u_ws RX8 TX8 4, w ∈ mi_gl := mi_in2 _ [403, 405, 407, 409] (by decide +kernel) (by decide +kernel)
set_option maxRecDepth 100000 in
theorem mi_u9 : ∀ w ∈ u_ws RX9 TX9 4, w ∈ mi_gl := mi_in2 _ [169, 171, 173, 175] (by decide +kernel) (by decide +kernel)
set_option maxRecDepth 100000 in
theorem mi_u10 : ∀ w ∈ u_ws RX10 TX10 2, w ∈ mi_gl := mi_in2 _ [223, 225] (by decide +kernel) (by decide +kernel)
set_option maxRecDepth 100000 in
theorem mi_u11 : ∀ w ∈ u_ws RX11 TX11 12, w ∈ mi_gl := mi_in2 _ [440, 442, 444, 446, 448, 450, 452, 454, 456, 458, 460, 462] (by decide +kernel) (by decide +kernel)
set_option maxRecDepth 100000 in
theorem mi_u12 : ∀ w ∈ u_ws RX12 TX12 27, w ∈ mi_gl := mi_in2 _ [1240, 1242, 1244, 1246, 1248, 1250, 1252, 1254, 1256, 1258, 1260, 1262, 1264, 1266, 1268, 1270, 1272, 1274, 1276, 1278, 1280, 1282, 1284, 1286, 1288, 1290, 1292] (by decide +kernel) (by decide +kernel)
theorem mi_cls : ∀ c, c < 13 → vwCl[c]? = some (mi_rs c, mi_ct c, mi_cn c) ∧ (∀ w ∈ u_ws (mi_rs c) (mi_ct c) (mi_cn c), w ∈ mi_gl) ∧ (∀ k, k < mi_cn c → parseFieldDescriptor (mi_ct c k).2.2.1 = some (mi_cy c k)) ∧ (∀ a, a < mi_cn c → ∀ b, b < mi_cn c → a ≠ b → (mi_ct c a).2.1 ≠ (mi_ct c b).2.1)
  | 0, _ => ⟨rfl, mi_u0, tyX0_ok, nmX0⟩
  | 1, _ => ⟨rfl, mi_u1, tyX1_ok, nmX1⟩
  | 2, _ => ⟨rfl, mi_u2, tyX2_ok, nmX2⟩
  | 3, _ => ⟨rfl, mi_u3, tyX3_ok, nmX3⟩
  | 4, _ => ⟨rfl, mi_u4, tyX4_ok, nmX4⟩
  | 5, _ => ⟨rfl, mi_u5, tyX5_ok, nmX5⟩
  | 6, _ => ⟨rfl, mi_u6, tyX6_ok, nmX6⟩
  | 7, _ => ⟨rfl, mi_u7, tyX7_ok, nmX7⟩
  | 8, _ => ⟨rfl, mi_u8, tyX8_ok, nmX8⟩
  | 9, _ => ⟨rfl, mi_u9, tyX9_ok, nmX9⟩
  | 10, _ => ⟨rfl, mi_u10, tyX10_ok, nmX10⟩
  | 11, _ => ⟨rfl, mi_u11, tyX11_ok, nmX11⟩
  | 12, _ => ⟨rfl, mi_u12, tyX12_ok, nmX12⟩
  | n + 13, h => absurd h (by omega)
set_option maxRecDepth 100000 in
theorem mi_fR : ∀ c, c < 13 → ∀ k, k < mi_cn c → mi_fr c k = true → (mi_ct c k).2.2.2 = true ∧ (mi_ct c k).1 = mi_rs c ∧ defaultValue (mi_cy c k) = .null ∧ fits (mi_cy c k) (.ref 0) = true := by decide +kernel
set_option maxRecDepth 100000 in
theorem mi_fI1 : ∀ c, c < 13 → ∀ k, k < mi_cn c → mi_fr c k = false → (mi_ct c k).2.2.2 = false ∧ (mi_ct c k).1 = mi_rs c ∧ defaultValue (mi_cy c k) = .int 0 := by decide +kernel
set_option maxRecDepth 100000 in
theorem mi_fI2 : ∀ c, c < 13 → ∀ k, k < mi_cn c → mi_fr c k = false → mi_cy c k = (bif Nat.beq (c * 64 + k) 0 then .boolean else .int) := by decide +kernel
set_option maxRecDepth 100000 in
theorem mi_fN : ∀ c, c < 13 → mi_cn c < 64 := by decide +kernel
