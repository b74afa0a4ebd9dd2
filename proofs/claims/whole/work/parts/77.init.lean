/-! both made: the memory, and the state that it shows -/
def mI : mm_M := mI_c ++ mI_m
set_option maxRecDepth 100000 in
theorem mI_139 : mm_ev mc_fty mm_X0 mc_nf 1 mc_P 400 4 139 [.ref 129] (mI_c ++ [.inr (.inr (6, mc_nf 6))]) = some (none, mI) := mI_same_ok (by decide +kernel)
def z10 : List Int32 := List.replicate 10 0
def h00 : HV := (((z10, z10, z10), (0, 0)), 0, fun _ => L0)
def g00 : SG := (h00, (List.replicate 16 0, 0), (List.replicate 96 0, 0), List.replicate 7 0, (0, h00))
theorem h00_ok : HOK h00 := by
  have hz : ∀ i, i < 10 → gi z10 (nI i) = nI 0 := by decide +kernel
  refine ⟨⟨rfl, rfl, rfl⟩, rfl, by decide, ⟨0, by decide, rfl⟩, rfl, fun i hi => absurd hi (Nat.not_lt_zero _), fun i hi => ⟨⟨0, by decide, hz i hi⟩, ⟨0, by decide, hz i hi⟩, ⟨0, by decide, hz i hi⟩⟩⟩
theorem g00_ok : SGOK g00 := ⟨h00_ok, h00_ok, ⟨rfl, by decide, fun i hi => absurd hi (Nat.not_lt_zero _)⟩, ⟨rfl, by decide, fun i hi => absurd hi (Nat.not_lt_zero _)⟩, rfl, Or.inl rfl⟩
theorem mI_len : mI.length = 143 := by decide +kernel
set_option maxRecDepth 100000 in
theorem mI_L1 : ∀ i, i < 5 → LA mI (la 1 i) L0 := by
  intro i hi
  rcases (show i = 0 ∨ i = 1 ∨ i = 2 ∨ i = 3 ∨ i = 4 by omega) with rfl | rfl | rfl | rfl | rfl
  · exact ⟨by decide +kernel, by decide +kernel, by decide +kernel, by decide +kernel, by decide +kernel, by decide +kernel, by decide +kernel⟩
  · exact ⟨by decide +kernel, by decide +kernel, by decide +kernel, by decide +kernel, by decide +kernel, by decide +kernel, by decide +kernel⟩
  · exact ⟨by decide +kernel, by decide +kernel, by decide +kernel, by decide +kernel, by decide +kernel, by decide +kernel, by decide +kernel⟩
  · exact ⟨by decide +kernel, by decide +kernel, by decide +kernel, by decide +kernel, by decide +kernel, by decide +kernel, by decide +kernel⟩
  · exact ⟨by decide +kernel, by decide +kernel, by decide +kernel, by decide +kernel, by decide +kernel, by decide +kernel, by decide +kernel⟩
set_option maxRecDepth 100000 in
theorem mI_L41 : ∀ i, i < 5 → LA mI (la 41 i) L0 := by
  intro i hi
  rcases (show i = 0 ∨ i = 1 ∨ i = 2 ∨ i = 3 ∨ i = 4 by omega) with rfl | rfl | rfl | rfl | rfl
  · exact ⟨by decide +kernel, by decide +kernel, by decide +kernel, by decide +kernel, by decide +kernel, by decide +kernel, by decide +kernel⟩
  · exact ⟨by decide +kernel, by decide +kernel, by decide +kernel, by decide +kernel, by decide +kernel, by decide +kernel, by decide +kernel⟩
  · exact ⟨by decide +kernel, by decide +kernel, by decide +kernel, by decide +kernel, by decide +kernel, by decide +kernel, by decide +kernel⟩
  · exact ⟨by decide +kernel, by decide +kernel, by decide +kernel, by decide +kernel, by decide +kernel, by decide +kernel, by decide +kernel⟩
  · exact ⟨by decide +kernel, by decide +kernel, by decide +kernel, by decide +kernel, by decide +kernel, by decide +kernel, by decide +kernel⟩
set_option maxRecDepth 100000 in
theorem mI_L81 : ∀ i, i < 5 → LA mI (la 81 i) L0 := by
  intro i hi
  rcases (show i = 0 ∨ i = 1 ∨ i = 2 ∨ i = 3 ∨ i = 4 by omega) with rfl | rfl | rfl | rfl | rfl
  · exact ⟨by decide +kernel, by decide +kernel, by decide +kernel, by decide +kernel, by decide +kernel, by decide +kernel, by decide +kernel⟩
  · exact ⟨by decide +kernel, by decide +kernel, by decide +kernel, by decide +kernel, by decide +kernel, by decide +kernel, by decide +kernel⟩
  · exact ⟨by decide +kernel, by decide +kernel, by decide +kernel, by decide +kernel, by decide +kernel, by decide +kernel, by decide +kernel⟩
  · exact ⟨by decide +kernel, by decide +kernel, by decide +kernel, by decide +kernel, by decide +kernel, by decide +kernel, by decide +kernel⟩
  · exact ⟨by decide +kernel, by decide +kernel, by decide +kernel, by decide +kernel, by decide +kernel, by decide +kernel, by decide +kernel⟩
set_option maxRecDepth 100000 in
theorem mI_S1 : SA mI 1 h00.1 := ⟨by decide +kernel, by decide +kernel, by decide +kernel, by decide +kernel, by decide +kernel⟩
set_option maxRecDepth 100000 in
theorem mI_S41 : SA mI 41 h00.1 := ⟨by decide +kernel, by decide +kernel, by decide +kernel, by decide +kernel, by decide +kernel⟩
set_option maxRecDepth 100000 in
theorem mI_S81 : SA mI 81 h00.1 := ⟨by decide +kernel, by decide +kernel, by decide +kernel, by decide +kernel, by decide +kernel⟩
def q00 : QV := ((List.replicate 8 0, List.replicate 5 0), (0, 0, 0, 0, 0, 0))
set_option maxRecDepth 100000 in
theorem mI_Q : QA mI 121 q00 := ⟨by decide +kernel, by decide +kernel, by decide +kernel⟩
theorem L0_LEN : LEN L0 := ⟨rfl, rfl, rfl, rfl, rfl, rfl⟩
set_option maxRecDepth 100000 in
theorem mI_x0 : mI[0]? = some (xo (gTc g00) (gH g00)) := by decide +kernel
set_option maxRecDepth 100000 in
theorem mI_x124 : mI[124]? = some (lt_o (gZn g00)) := by decide +kernel
set_option maxRecDepth 100000 in
theorem mI_x125 : mI[125]? = some (.inl (gZ g00)) := by decide +kernel
set_option maxRecDepth 100000 in
theorem mI_x126 : mI[126]? = some (dr_o 0 0) := by decide +kernel
set_option maxRecDepth 100000 in
theorem mI_x127 : mI[127]? = some (.inl (gT g00)) := by decide +kernel
set_option maxRecDepth 100000 in
theorem mI_x128 : mI[128]? = some (.inl (gR g00)) := by decide +kernel
theorem mI_CS : CS mI g00 :=
  ⟨⟨mI_len, mI_x0⟩, ⟨mI_S1, fun i hi => mI_L1 i (by have : i ≤ 0 := hi; omega), fun i _ h => ⟨L0, L0_LEN, mI_L1 i h⟩⟩, ⟨mI_S41, fun i hi => mI_L41 i (by have : i ≤ 0 := hi; omega), fun i _ h => ⟨L0, L0_LEN, mI_L41 i h⟩⟩, ⟨⟨h00.1, h00_ok.1, mI_S81, fun i h => ⟨L0, L0_LEN, mI_L81 i h⟩⟩, mI_L81 0 (by decide)⟩, ⟨q00, ⟨rfl, rfl⟩, mI_Q⟩, ⟨mI_x124, mI_x125⟩, ⟨0, 0, mI_x126⟩, mI_x127, mI_x128⟩
def o00 : OV := ((0, 0, 0), (0, 0, 0), (0, 0, 0, 0), 0)
def r00 : RV := ((z10, z10, z10, z10, panL L0, List.replicate 132 0), (0, 0))
set_option maxRecDepth 100000 in
theorem mI_x129 : mI[129]? = some (oo o00) := by decide +kernel
set_option maxRecDepth 100000 in
theorem mI_x130 : mI[130]? = some (.inl (rowL r00)) := by decide +kernel
set_option maxRecDepth 100000 in
theorem mI_x131 : mI[131]? = some (.inl (List.replicate 206 0)) := by decide +kernel
set_option maxRecDepth 100000 in
theorem mI_x132 : mI[132]? = some dp_o := by decide +kernel
set_option maxRecDepth 100000 in
theorem mI_x133 : ∀ k, k < 6 → mI[133 + k]? = some (.inl (List.replicate 206 0)) := by
  intro k hk
  rcases (show k = 0 ∨ k = 1 ∨ k = 2 ∨ k = 3 ∨ k = 4 ∨ k = 5 by omega) with rfl | rfl | rfl | rfl | rfl | rfl <;> decide +kernel
set_option maxRecDepth 100000 in
theorem mI_x139 : mI[139]? = some (.inl (gR g00)) := by decide +kernel
set_option maxRecDepth 100000 in
theorem mI_x140 : mI[140]? = some (.inl (gT g00)) := by decide +kernel
set_option maxRecDepth 100000 in
theorem mI_x141 : mI[141]? = some (.inl (gZ g00)) := by decide +kernel
set_option maxRecDepth 100000 in
theorem mI_x142 : mI[142]? = some (.inl (List.replicate 32 0)) := by decide +kernel
theorem mI_MR : MR r00 h00 := ⟨⟨rfl, rfl, rfl, rfl, by decide +kernel, by decide +kernel⟩, rfl, rfl, rfl, rfl, rfl, rfl, rfl, fun j hj => absurd hj (Nat.not_lt_zero _)⟩
theorem mI_MS : MS mI g00 :=
  ⟨⟨mI_len, o00, mI_x129, rfl⟩, ⟨r00, mI_MR, mI_x130⟩, ⟨List.replicate 206 0, List.length_replicate, mI_x131, fun h => absurd h (by decide)⟩, mI_x132, fun k hk => ⟨List.replicate 206 0, List.length_replicate, mI_x133 k hk⟩, mI_x139, mI_x140, mI_x141, ⟨List.replicate 32 0, List.length_replicate, mI_x142⟩⟩
