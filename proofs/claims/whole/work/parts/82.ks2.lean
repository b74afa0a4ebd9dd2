/-! the eight String constants, the two static rows, at the start -/
def ls_F : List Cond := flatC (Jvm.Cond.and given_1 narrow_1)
set_option maxRecDepth 100000 in
theorem ls_m0 : (Cond.exactly (.string "SmallerInTheShop$Letters" 23) "java/lang/String" ∈ ls_F ∧ Cond.eq (.field (.string "SmallerInTheShop$Letters" 23) "java/lang/String" "coder" "B") (.int 0) ∈ ls_F) ∧ (Cond.arrayOf (.field (.string "SmallerInTheShop$Letters" 23) "java/lang/String" "value" "[B") .byte ∈ ls_F ∧ Cond.eq (.length (.field (.string "SmallerInTheShop$Letters" 23) "java/lang/String" "value" "[B")) (.int (Int32.ofNat 6)) ∈ ls_F) := by decide +kernel
set_option maxRecDepth 100000 in
theorem ls_e0 : ∀ j, j < 6 → Cond.eq (.elem (.field (.string "SmallerInTheShop$Letters" 23) "java/lang/String" "value" "[B") (.int (Int32.ofNat j))) (.int (([99, 109, 118, 115, 116, 111] : List Int32).getD j 0)) ∈ ls_F := by decide +kernel
set_option maxRecDepth 100000 in
theorem ls_m1 : (Cond.exactly (.string "SmallerInTheShop$Letters" 59) "java/lang/String" ∈ ls_F ∧ Cond.eq (.field (.string "SmallerInTheShop$Letters" 59) "java/lang/String" "coder" "B") (.int 0) ∈ ls_F) ∧ (Cond.arrayOf (.field (.string "SmallerInTheShop$Letters" 59) "java/lang/String" "value" "[B") .byte ∈ ls_F ∧ Cond.eq (.length (.field (.string "SmallerInTheShop$Letters" 59) "java/lang/String" "value" "[B")) (.int (Int32.ofNat 4)) ∈ ls_F) := by decide +kernel
set_option maxRecDepth 100000 in
theorem ls_e1 : ∀ j, j < 4 → Cond.eq (.elem (.field (.string "SmallerInTheShop$Letters" 59) "java/lang/String" "value" "[B") (.int (Int32.ofNat j))) (.int (([48, 107, 48, 59] : List Int32).getD j 0)) ∈ ls_F := by decide +kernel
set_option maxRecDepth 100000 in
theorem ls_m2 : (Cond.exactly (.string "SmallerInTheShop$Letters" 61) "java/lang/String" ∈ ls_F ∧ Cond.eq (.field (.string "SmallerInTheShop$Letters" 61) "java/lang/String" "coder" "B") (.int 0) ∈ ls_F) ∧ (Cond.arrayOf (.field (.string "SmallerInTheShop$Letters" 61) "java/lang/String" "value" "[B") .byte ∈ ls_F ∧ Cond.eq (.length (.field (.string "SmallerInTheShop$Letters" 61) "java/lang/String" "value" "[B")) (.int (Int32.ofNat 4)) ∈ ls_F) := by decide +kernel
set_option maxRecDepth 100000 in
theorem ls_e2 : ∀ j, j < 4 → Cond.eq (.elem (.field (.string "SmallerInTheShop$Letters" 61) "java/lang/String" "value" "[B") (.int (Int32.ofNat j))) (.int (([48, 48, 48, 59] : List Int32).getD j 0)) ∈ ls_F := by decide +kernel
set_option maxRecDepth 100000 in
theorem ls_m3 : (Cond.exactly (.string "SmallerInTheShop$Letters" 63) "java/lang/String" ∈ ls_F ∧ Cond.eq (.field (.string "SmallerInTheShop$Letters" 63) "java/lang/String" "coder" "B") (.int 0) ∈ ls_F) ∧ (Cond.arrayOf (.field (.string "SmallerInTheShop$Letters" 63) "java/lang/String" "value" "[B") .byte ∈ ls_F ∧ Cond.eq (.length (.field (.string "SmallerInTheShop$Letters" 63) "java/lang/String" "value" "[B")) (.int (Int32.ofNat 3)) ∈ ls_F) := by decide +kernel
set_option maxRecDepth 100000 in
theorem ls_e3 : ∀ j, j < 3 → Cond.eq (.elem (.field (.string "SmallerInTheShop$Letters" 63) "java/lang/String" "value" "[B") (.int (Int32.ofNat j))) (.int (([48, 48, 59] : List Int32).getD j 0)) ∈ ls_F := by decide +kernel
set_option maxRecDepth 100000 in
theorem ls_m4 : (Cond.exactly (.string "SmallerInTheShop$Letters" 65) "java/lang/String" ∈ ls_F ∧ Cond.eq (.field (.string "SmallerInTheShop$Letters" 65) "java/lang/String" "coder" "B") (.int 0) ∈ ls_F) ∧ (Cond.arrayOf (.field (.string "SmallerInTheShop$Letters" 65) "java/lang/String" "value" "[B") .byte ∈ ls_F ∧ Cond.eq (.length (.field (.string "SmallerInTheShop$Letters" 65) "java/lang/String" "value" "[B")) (.int (Int32.ofNat 1)) ∈ ls_F) := by decide +kernel
set_option maxRecDepth 100000 in
theorem ls_e4 : ∀ j, j < 1 → Cond.eq (.elem (.field (.string "SmallerInTheShop$Letters" 65) "java/lang/String" "value" "[B") (.int (Int32.ofNat j))) (.int (([59] : List Int32).getD j 0)) ∈ ls_F := by decide +kernel
set_option maxRecDepth 100000 in
theorem ls_m5 : (Cond.exactly (.string "SmallerInTheShop$Letters" 67) "java/lang/String" ∈ ls_F ∧ Cond.eq (.field (.string "SmallerInTheShop$Letters" 67) "java/lang/String" "coder" "B") (.int 0) ∈ ls_F) ∧ (Cond.arrayOf (.field (.string "SmallerInTheShop$Letters" 67) "java/lang/String" "value" "[B") .byte ∈ ls_F ∧ Cond.eq (.length (.field (.string "SmallerInTheShop$Letters" 67) "java/lang/String" "value" "[B")) (.int (Int32.ofNat 2)) ∈ ls_F) := by decide +kernel
set_option maxRecDepth 100000 in
theorem ls_e5 : ∀ j, j < 2 → Cond.eq (.elem (.field (.string "SmallerInTheShop$Letters" 67) "java/lang/String" "value" "[B") (.int (Int32.ofNat j))) (.int (([48, 59] : List Int32).getD j 0)) ∈ ls_F := by decide +kernel
set_option maxRecDepth 100000 in
theorem ls_m6 : (Cond.exactly (.string "SmallerInTheShop$Letters" 69) "java/lang/String" ∈ ls_F ∧ Cond.eq (.field (.string "SmallerInTheShop$Letters" 69) "java/lang/String" "coder" "B") (.int 0) ∈ ls_F) ∧ (Cond.arrayOf (.field (.string "SmallerInTheShop$Letters" 69) "java/lang/String" "value" "[B") .byte ∈ ls_F ∧ Cond.eq (.length (.field (.string "SmallerInTheShop$Letters" 69) "java/lang/String" "value" "[B")) (.int (Int32.ofNat 0)) ∈ ls_F) := by decide +kernel
set_option maxRecDepth 100000 in
theorem ls_e6 : ∀ j, j < 0 → Cond.eq (.elem (.field (.string "SmallerInTheShop$Letters" 69) "java/lang/String" "value" "[B") (.int (Int32.ofNat j))) (.int (([] : List Int32).getD j 0)) ∈ ls_F := by decide +kernel
set_option maxRecDepth 100000 in
theorem ls_m7 : (Cond.exactly (.string "SmallerInTheShopModel" 33) "java/lang/String" ∈ ls_F ∧ Cond.eq (.field (.string "SmallerInTheShopModel" 33) "java/lang/String" "coder" "B") (.int 0) ∈ ls_F) ∧ (Cond.arrayOf (.field (.string "SmallerInTheShopModel" 33) "java/lang/String" "value" "[B") .byte ∈ ls_F ∧ Cond.eq (.length (.field (.string "SmallerInTheShopModel" 33) "java/lang/String" "value" "[B")) (.int (Int32.ofNat 6)) ∈ ls_F) := by decide +kernel
set_option maxRecDepth 100000 in
theorem ls_e7 : ∀ j, j < 6 → Cond.eq (.elem (.field (.string "SmallerInTheShopModel" 33) "java/lang/String" "value" "[B") (.int (Int32.ofNat j))) (.int (([99, 109, 118, 115, 116, 111] : List Int32).getD j 0)) ∈ ls_F := by decide +kernel
set_option maxRecDepth 100000 in
theorem ls_mCREASE_START : Cond.arrayOf (.static "SmallerInTheShop" "CREASE_START" "[I") .int ∈ ls_F ∧ Cond.eq (.length (.static "SmallerInTheShop" "CREASE_START" "[I")) (.int (Int32.ofNat 10)) ∈ ls_F := by decide +kernel
set_option maxRecDepth 100000 in
theorem ls_eCREASE_START : ∀ j, j < 10 → Cond.eq (.elem (.static "SmallerInTheShop" "CREASE_START" "[I") (.int (Int32.ofNat j))) (.int (([0, 1, 2, 4, 5, 6, 0, 1, 2, 3] : List Int32).getD j 0)) ∈ ls_F := by decide +kernel
set_option maxRecDepth 100000 in
theorem ls_mCREASE_END : Cond.arrayOf (.static "SmallerInTheShop" "CREASE_END" "[I") .int ∈ ls_F ∧ Cond.eq (.length (.static "SmallerInTheShop" "CREASE_END" "[I")) (.int (Int32.ofNat 10)) ∈ ls_F := by decide +kernel
set_option maxRecDepth 100000 in
theorem ls_eCREASE_END : ∀ j, j < 10 → Cond.eq (.elem (.static "SmallerInTheShop" "CREASE_END" "[I") (.int (Int32.ofNat j))) (.int (([1, 2, 3, 5, 6, 7, 4, 5, 6, 7] : List Int32).getD j 0)) ∈ ls_F := by decide +kernel
set_option maxRecDepth 100000 in
theorem ls_mc : Cond.eq (.static "java/lang/String" "COMPACT_STRINGS" "Z") (.int 1) ∈ ls_F ∧ Cond.isRef (.static "jdk/internal/util/Preconditions" "SIOOBE_FORMATTER" "Ljava/util/function/BiFunction;") ∈ ls_F := by decide +kernel
set_option maxRecDepth 100000 in
theorem ls_w1 : (Cond.laysStatic "SmallerInTheShop" "CREASE_START" "[I" ∈ lw_tbl ∧ Cond.laysStatic "SmallerInTheShop" "CREASE_END" "[I" ∈ lw_tbl) ∧ (Cond.laysStatic "java/lang/String" "COMPACT_STRINGS" "Z" ∈ lw_tbl ∧ Cond.laysStatic "jdk/internal/util/Preconditions" "SIOOBE_FORMATTER" "Ljava/util/function/BiFunction;" ∈ lw_tbl) := by decide +kernel
set_option maxRecDepth 100000 in
theorem ls_w2 : (Cond.initialized "SmallerInTheShop" ∈ lw_tbl ∧ Cond.initialized "java/lang/String" ∈ lw_tbl) ∧ Cond.initialized "jdk/internal/util/Preconditions" ∈ lw_tbl := by decide +kernel
set_option maxRecDepth 100000 in
theorem ls_w3 : (Cond.arrayClass .int ∈ lw_tbl ∧ Cond.arrayOver (.object "SmallerInTheShop$Layout") ∈ lw_tbl) ∧ Cond.arrayOver (.array .int) ∈ lw_tbl := by decide +kernel
set_option maxRecDepth 100000 in
theorem ls_w4 : ∀ q ∈ mc_cl, Cond.instantiable q.1 q.2.2 ∈ lw_tbl := by decide +kernel
set_option maxRecDepth 100000 in
theorem ls_w5 : ∀ w ∈ mc_sks, Cond.stringRef w.1 w.2.1 w.2.2.1 ∈ lw_tbl := by decide +kernel
section KS2
variable {s : State} {b L : Nat} {xs : Nat → Int32}
def ls_ow (i : Nat) : String := if i < 7 then "SmallerInTheShop$Letters" else "SmallerInTheShopModel"
def ls_ix (i : Nat) : Nat := [23, 59, 61, 63, 65, 67, 69, 33].getD i 0
def ls_bs (i : Nat) : List Int32 := [[99, 109, 118, 115, 116, 111], [48, 107, 48, 59], [48, 48, 48, 59], [48, 48, 59], [59], [48, 59], [], [99, 109, 118, 115, 116, 111]].getD i []
theorem ls_str {args : Array Value} {A : Nat → Prop} (hgv : (Jvm.Cond.and given_1 narrow_1).before args s = true) (hA : ∀ a : Nat, a < s.heap.size → ¬ A a) : ∃ K V : Nat → Nat, ∀ i, i < 8 → st_at s args A (ls_ow i) (ls_ix i) (ls_bs i) (K i) (V i) := by
  have hs : ∀ w ∈ ls_F, w.before args s = true := flat_of_before _ hgv
  have h0 : ∀ i : Nat, ∃ q : Nat × Nat, i < 8 → st_at s args A (ls_ow i) (ls_ix i) (ls_bs i) q.1 q.2 := by
    intro i
    by_cases hi : i < 8
    · have key : ∃ a v, st_at s args A (ls_ow i) (ls_ix i) (ls_bs i) a v := by
        rcases (show i = 0 ∨ i = 1 ∨ i = 2 ∨ i = 3 ∨ i = 4 ∨ i = 5 ∨ i = 6 ∨ i = 7 by omega) with rfl | rfl | rfl | rfl | rfl | rfl | rfl | rfl
        · exact st_of (own := "SmallerInTheShop$Letters") (k := 23) (bs := [99, 109, 118, 115, 116, 111]) (by decide) (hs _ ls_m0.1.1) (hs _ ls_m0.1.2) (hs _ ls_m0.2.1) (hs _ ls_m0.2.2) (fun j hj => hs _ (ls_e0 j hj)) hA
        · exact st_of (own := "SmallerInTheShop$Letters") (k := 59) (bs := [48, 107, 48, 59]) (by decide) (hs _ ls_m1.1.1) (hs _ ls_m1.1.2) (hs _ ls_m1.2.1) (hs _ ls_m1.2.2) (fun j hj => hs _ (ls_e1 j hj)) hA
        · exact st_of (own := "SmallerInTheShop$Letters") (k := 61) (bs := [48, 48, 48, 59]) (by decide) (hs _ ls_m2.1.1) (hs _ ls_m2.1.2) (hs _ ls_m2.2.1) (hs _ ls_m2.2.2) (fun j hj => hs _ (ls_e2 j hj)) hA
        · exact st_of (own := "SmallerInTheShop$Letters") (k := 63) (bs := [48, 48, 59]) (by decide) (hs _ ls_m3.1.1) (hs _ ls_m3.1.2) (hs _ ls_m3.2.1) (hs _ ls_m3.2.2) (fun j hj => hs _ (ls_e3 j hj)) hA
        · exact st_of (own := "SmallerInTheShop$Letters") (k := 65) (bs := [59]) (by decide) (hs _ ls_m4.1.1) (hs _ ls_m4.1.2) (hs _ ls_m4.2.1) (hs _ ls_m4.2.2) (fun j hj => hs _ (ls_e4 j hj)) hA
        · exact st_of (own := "SmallerInTheShop$Letters") (k := 67) (bs := [48, 59]) (by decide) (hs _ ls_m5.1.1) (hs _ ls_m5.1.2) (hs _ ls_m5.2.1) (hs _ ls_m5.2.2) (fun j hj => hs _ (ls_e5 j hj)) hA
        · exact st_of (own := "SmallerInTheShop$Letters") (k := 69) (bs := []) (by decide) (hs _ ls_m6.1.1) (hs _ ls_m6.1.2) (hs _ ls_m6.2.1) (hs _ ls_m6.2.2) (fun j hj => hs _ (ls_e6 j hj)) hA
        · exact st_of (own := "SmallerInTheShopModel") (k := 33) (bs := [99, 109, 118, 115, 116, 111]) (by decide) (hs _ ls_m7.1.1) (hs _ ls_m7.1.2) (hs _ ls_m7.2.1) (hs _ ls_m7.2.2) (fun j hj => hs _ (ls_e7 j hj)) hA
      obtain ⟨a, v, h⟩ := key
      exact ⟨(a, v), fun _ => h⟩
    · exact ⟨(0, 0), fun h => absurd h hi⟩
  obtain ⟨ad, had⟩ := Classical.axiomOfChoice h0
  exact ⟨fun i => (ad i).1, fun i => (ad i).2, had⟩
end KS2
