/-! numbers in loops -/
theorem nf_lt {i N : Nat} (h : i < N) (hN : N < 2 ^ 31) : ¬ nI N ≤ nI i := nI_ge h hN
theorem nf_loop {σ : Type} {N : Nat} {Φ : Nat → σ → Prop} {Ψ : σ → Prop} {step : σ → Nat → σ} (hs : ∀ i s, i < N → (Φ i s ↔ Φ (i + 1) (step s i))) (he : ∀ s, Φ N s ↔ Ψ s) : ∀ (k i : Nat) (s : σ), i + k = N → (Φ i s ↔ Ψ ((List.range' i k).foldl step s)) := by
  intro k
  induction k with
  | zero =>
    intro i s h
    have : i = N := by omega
    subst this
    exact he s
  | succ k ih =>
    intro i s h
    rw [List.range'_succ, List.foldl_cons]
    exact (hs i s (by omega)).trans (ih (i + 1) _ (by omega))
/-! Kinds -/
def sEA (h f s : Int32) : Int32 := if s = h then 3 + f else 3
def sSS (w s : Int32) : Int32 := if 10 ≤ w then (if s = 1 then 2 else 1) else s
def sEf (k f w s : Int32) : Int32 := if k = 1 then sEA 2 f s else if k = 2 then sEA 1 f s else if k = 3 then sEA 2 f (sSS w s) else if k = 4 then 7 else if k = 5 then sEA 1 f s / 2 else 3
def sWA (h s : Int32) : Int32 := if s = h then 2 else 1
def sWr (k w s : Int32) : Int32 := if k = 1 then sWA 2 s else if k = 2 then sWA 1 s else if k = 3 then sWA 2 (sSS w s) else if k = 4 then 0 else if k = 5 then sWA 1 s + 1 else 1
section K1
variable {scr : List Int32} {n : Nat} {M : mm_M} {Q : Option Value → mm_M → Prop} {x1 x2 x3 x4 : Int32}
theorem W17 : Wp scr (n + 1) 17 [.int x1, .int x2, .int x3] M Q ↔ Q (some (.int (sEA x1 x2 x3))) M := by
  simp only [e17, u17_0, u17_1, u17_2, u17_5, u17_6, u17_7, u17_8, u17_11, u17_12, mw_os, wp_ite, mw_sw, Option.toList_some, Option.toList_none, List.cons_append, List.nil_append, true_and, and_true, if_true, if_false, mw_s_, mw_s_i, mw_s_r, mw_s_ii, mw_s_ir, mw_s_ri, mw_s_rr, mw_s_iii, mw_s_iir, mw_s_iri, mw_s_irr, mw_s_rii, mw_s_rir, mw_s_rri, mw_s_rrr, mw_s_iiii, mw_s_iiir, mw_s_iiri, mw_s_iirr, mw_s_irii, mw_s_irir, mw_s_irri, mw_s_irrr, mw_s_riii, mw_s_riir, mw_s_riri, mw_s_rirr, mw_s_rrii, mw_s_rrir, mw_s_rrri, mw_s_rrrr]
  unfold sEA
  split <;> rfl
theorem W18 : Wp scr (n + 1) 18 [.int x1, .int x2] M Q ↔ Q (some (.int (sSS x1 x2))) M := by
  simp only [e18, u18_0, u18_1, u18_3, u18_6, u18_7, u18_8, u18_9, u18_10, u18_13, u18_14, u18_17, u18_18, mw_os, wp_ite, mw_sw, Option.toList_some, Option.toList_none, List.cons_append, List.nil_append, true_and, and_true, if_true, if_false, mw_s_, mw_s_i, mw_s_r, mw_s_ii, mw_s_ir, mw_s_ri, mw_s_rr, mw_s_iii, mw_s_iir, mw_s_iri, mw_s_irr, mw_s_rii, mw_s_rir, mw_s_rri, mw_s_rrr, mw_s_iiii, mw_s_iiir, mw_s_iiri, mw_s_iirr, mw_s_irii, mw_s_irir, mw_s_irri, mw_s_irrr, mw_s_riii, mw_s_riir, mw_s_riri, mw_s_rirr, mw_s_rrii, mw_s_rrir, mw_s_rrri, mw_s_rrrr]
  unfold sSS
  repeat' split
  all_goals first | rfl | simp_all
theorem W20 : Wp scr (n + 1) 20 [.int x1, .int x2] M Q ↔ Q (some (.int (sWA x1 x2))) M := by
  simp only [e20, u20_0, u20_1, u20_2, u20_5, u20_6, u20_9, u20_10, mw_os, wp_ite, mw_sw, Option.toList_some, Option.toList_none, List.cons_append, List.nil_append, true_and, and_true, if_true, if_false, mw_s_, mw_s_i, mw_s_r, mw_s_ii, mw_s_ir, mw_s_ri, mw_s_rr, mw_s_iii, mw_s_iir, mw_s_iri, mw_s_irr, mw_s_rii, mw_s_rir, mw_s_rri, mw_s_rrr, mw_s_iiii, mw_s_iiir, mw_s_iiri, mw_s_iirr, mw_s_irii, mw_s_irir, mw_s_irri, mw_s_irrr, mw_s_riii, mw_s_riir, mw_s_riri, mw_s_rirr, mw_s_rrii, mw_s_rrir, mw_s_rrri, mw_s_rrrr]
  unfold sWA
  split <;> rfl
theorem W16 : Wp scr (n + 2) 16 [.int x1, .int x2, .int x3, .int x4] M Q ↔ Q (some (.int (sEf x1 x2 x3 x4))) M := by
  simp only [e16, u16_0, u16_1, u16_36, u16_37, u16_38, u16_39, u16_42, u16_43, u16_44, u16_45, u16_46, u16_49, u16_50, u16_51, u16_52, u16_53, u16_54, u16_57, u16_60, u16_61, u16_63, u16_64, u16_65, u16_66, u16_67, u16_70, u16_71, u16_72, u16_73, u16_74, mw_os, wp_ite, mw_sw, Option.toList_some, Option.toList_none, List.cons_append, List.nil_append, true_and, and_true, if_true, if_false, mw_s_, mw_s_i, mw_s_r, mw_s_ii, mw_s_ir, mw_s_ri, mw_s_rr, mw_s_iii, mw_s_iir, mw_s_iri, mw_s_irr, mw_s_rii, mw_s_rir, mw_s_rri, mw_s_rrr, mw_s_iiii, mw_s_iiir, mw_s_iiri, mw_s_iirr, mw_s_irii, mw_s_irir, mw_s_irri, mw_s_irrr, mw_s_riii, mw_s_riir, mw_s_riri, mw_s_rirr, mw_s_rrii, mw_s_rrir, mw_s_rrri, mw_s_rrrr, W17, W18]
  unfold sEf
  repeat' split
  all_goals first | rfl | simp_all
theorem W19 : Wp scr (n + 2) 19 [.int x1, .int x2, .int x3] M Q ↔ Q (some (.int (sWr x1 x2 x3))) M := by
  simp only [e19, u19_0, u19_1, u19_36, u19_37, u19_38, u19_41, u19_42, u19_43, u19_44, u19_47, u19_48, u19_49, u19_50, u19_51, u19_54, u19_57, u19_58, u19_59, u19_60, u19_61, u19_62, u19_65, u19_66, u19_67, u19_68, u19_69, mw_os, wp_ite, mw_sw, Option.toList_some, Option.toList_none, List.cons_append, List.nil_append, true_and, and_true, if_true, if_false, mw_s_, mw_s_i, mw_s_r, mw_s_ii, mw_s_ir, mw_s_ri, mw_s_rr, mw_s_iii, mw_s_iir, mw_s_iri, mw_s_irr, mw_s_rii, mw_s_rir, mw_s_rri, mw_s_rrr, mw_s_iiii, mw_s_iiir, mw_s_iiri, mw_s_iirr, mw_s_irii, mw_s_irir, mw_s_irri, mw_s_irrr, mw_s_riii, mw_s_riir, mw_s_riri, mw_s_rirr, mw_s_rrii, mw_s_rrir, mw_s_rrri, mw_s_rrrr, W20, W18]
  unfold sWr
  repeat' split
  all_goals first | rfl | simp_all
end K1
