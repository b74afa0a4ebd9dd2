section SH3
variable {scr : List Int32} {n : Nat} {M : mm_M} {Q : Option Value → mm_M → Prop} {s t a b : Nat} {v w : SV} {u x : LV}
theorem fold5 {α β γ δ ε ι : Type} {l : List ι} {f1 : α → ι → α} {f2 : β → ι → β} {f3 : γ → ι → γ} {f4 : δ → ι → δ} {f5 : ε → ι → ε} : ∀ {s : α × β × γ × δ × ε}, l.foldl (fun s i => (f1 s.1 i, f2 s.2.1 i, f3 s.2.2.1 i, f4 s.2.2.2.1 i, f5 s.2.2.2.2 i)) s = (l.foldl f1 s.1, l.foldl f2 s.2.1, l.foldl f3 s.2.2.1, l.foldl f4 s.2.2.2.1, l.foldl f5 s.2.2.2.2) := by
  induction l with
  | nil => intro s; rfl
  | cons y l ih => intro s; rw [List.foldl_cons, ih]; rfl
def mk5 (y : List Int32 × List Int32 × List Int32 × List Int32 × List Int32) (sd : List Int32) (z : Int32 × Int32 × Int32) : LV := ((y.1, y.2.1, y.2.2.1, y.2.2.2.1, sd, y.2.2.2.2), z)
set_option maxRecDepth 10000 in
theorem W22 (hM : a + 6 < M.length) (hb : LA M b u) (hd : b + 7 ≤ a ∨ a + 7 ≤ b) (hu : LEN u) (hx : LEN x) : Wp scr (n + 1) 22 [.ref a, .ref b] (pl M a x) Q ↔ Q none (pl M a u) := by
  have hbM : ∀ w : LV, LA (pl M a w) b u := fun w => pl_other hb hd
  obtain ⟨l1, l2, l3, l4, l5, l6⟩ := hu
  obtain ⟨x1, x2, x3, x4, x5, x6⟩ := hx
  obtain ⟨⟨xC, xR, xL, xD, xS, xH⟩, zz⟩ := x
  have key := nf_loopI (N := 8) (Φ := fun i (y : List Int32 × List Int32 × List Int32 × List Int32 × List Int32) => wp scr n mb_22 2 [some (.ref a), some (.ref b), some (.int (nI i))] [] (pl M a (mk5 y xS zz)) Q) (Ψ := fun y => wp scr n mb_22 76 [some (.ref a), some (.ref b), some (.int (nI 0))] [] (pl M a (mk5 y xS zz)) Q) (step := fun y i => (y.1.set i (gi (vC u) (nI i)), y.2.1.set i (gi (vR u) (nI i)), y.2.2.1.set i (gi (vL u) (nI i)), y.2.2.2.1.set i (gi (vD u) (nI i)), y.2.2.2.2.set i (gi (vH u) (nI i)))) (I := fun _ y => y.1.length = 8 ∧ y.2.1.length = 8 ∧ y.2.2.1.length = 8 ∧ y.2.2.2.1.length = 8 ∧ y.2.2.2.2.length = 8)
    (fun i y _ h => ⟨by rw [List.length_set]; exact h.1, by rw [List.length_set]; exact h.2.1, by rw [List.length_set]; exact h.2.2.1, by rw [List.length_set]; exact h.2.2.2.1, by rw [List.length_set]; exact h.2.2.2.2⟩)
    (fun i y hi h => u22_2.trans (by
      obtain ⟨y1, y2, y3, y4, y5⟩ := y
      obtain ⟨h1, h2, h3, h4, h5⟩ := h
      have hi10 : i < 10 := Nat.lt_trans hi (by decide)
      have a1 : ∀ z p1 p2 p3 p4, mm_sti (pl M a (mk5 (y1, p1, p2, p3, p4) xS zz)) (.ref (a + 1)) (nI i) z = some (pl M a (mk5 (y1.set i z, p1, p2, p3, p4) xS zz)) := fun z p1 p2 p3 p4 => by
        rw [pl_stC hM (by show vp_in (nI i) y1.length; rw [h1]; exact nI_in8 hi), clN hi10]; rfl
      have a2 : ∀ z p1 p2 p3 p4, mm_sti (pl M a (mk5 (p1, y2, p2, p3, p4) xS zz)) (.ref (a + 2)) (nI i) z = some (pl M a (mk5 (p1, y2.set i z, p2, p3, p4) xS zz)) := fun z p1 p2 p3 p4 => by
        rw [pl_stR hM (by show vp_in (nI i) y2.length; rw [h2]; exact nI_in8 hi), clN hi10]; rfl
      have a3 : ∀ z p1 p2 p3 p4, mm_sti (pl M a (mk5 (p1, p2, y3, p3, p4) xS zz)) (.ref (a + 3)) (nI i) z = some (pl M a (mk5 (p1, p2, y3.set i z, p3, p4) xS zz)) := fun z p1 p2 p3 p4 => by
        rw [pl_stL hM (by show vp_in (nI i) y3.length; rw [h3]; exact nI_in8 hi), clN hi10]; rfl
      have a4 : ∀ z p1 p2 p3 p4, mm_sti (pl M a (mk5 (p1, p2, p3, y4, p4) xS zz)) (.ref (a + 4)) (nI i) z = some (pl M a (mk5 (p1, p2, p3, y4.set i z, p4) xS zz)) := fun z p1 p2 p3 p4 => by
        rw [pl_stD hM (by show vp_in (nI i) y4.length; rw [h4]; exact nI_in8 hi), clN hi10]; rfl
      have a5 : ∀ z p1 p2 p3 p4, mm_sti (pl M a (mk5 (p1, p2, p3, p4, y5) xS zz)) (.ref (a + 6)) (nI i) z = some (pl M a (mk5 (p1, p2, p3, p4, y5.set i z) xS zz)) := fun z p1 p2 p3 p4 => by
        rw [pl_stH hM (by show vp_in (nI i) y5.length; rw [h5]; exact nI_in8 hi), clN hi10]; rfl
      show _ ↔ wp scr n mb_22 2 [some (.ref a), some (.ref b), some (.int (nI (i + 1)))] [] (pl M a (mk5 (y1.set i (gi (vC u) (nI i)), y2.set i (gi (vR u) (nI i)), y3.set i (gi (vL u) (nI i)), y4.set i (gi (vD u) (nI i)), y5.set i (gi (vH u) (nI i))) xS zz)) Q
      have g1 := gi_at (l1.symm ▸ nI_in8 hi : vp_in (nI i) (vC u).length)
      have g2 := gi_at (l2.symm ▸ nI_in8 hi : vp_in (nI i) (vR u).length)
      have g3 := gi_at (l3.symm ▸ nI_in8 hi : vp_in (nI i) (vL u).length)
      have g4 := gi_at (l4.symm ▸ nI_in8 hi : vp_in (nI i) (vD u).length)
      have g6 := gi_at (l6.symm ▸ nI_in8 hi : vp_in (nI i) (vH u).length)
      simp only [u22_3, u22_5, nle8 hi, if_false, u22_8, u22_9, LA_0 (pl_LA hM), mw_os, u22_12, u22_13, u22_14, LA_0 (hbM _), u22_17, u22_18, LA_c (hbM _), g1, u22_19, a1]
      simp only [u22_20, u22_21, LA_1 (pl_LA hM), mw_os, u22_24, u22_25, u22_26, LA_1 (hbM _), u22_29, u22_30, LA_r (hbM _), g2, u22_31, a2]
      simp only [u22_32, u22_33, LA_2 (pl_LA hM), mw_os, u22_36, u22_37, u22_38, LA_2 (hbM _), u22_41, u22_42, LA_l (hbM _), g3, u22_43, a3]
      simp only [u22_44, u22_45, LA_3 (pl_LA hM), mw_os, u22_48, u22_49, u22_50, LA_3 (hbM _), u22_53, u22_54, LA_d (hbM _), g4, u22_55, a4]
      simp only [u22_56, u22_57, LA_5 (pl_LA hM), mw_os, u22_60, u22_61, u22_62, LA_5 (hbM _), u22_65, u22_66, LA_h (hbM _), g6, u22_67, a5]
      simp only [u22_68, u22_71, mm_sto1, mm_clr, mm_isL, List.getElem?_cons_zero, List.getElem?_cons_succ, List.set_cons_zero, List.set_cons_succ, Bool.false_eq_true, if_false, nI_1]))
    (fun y h => u22_2.trans (by simp only [u22_3, u22_5, u22_74, u22_75, mw_os, wp_ite, mw_sw, Option.toList_some, Option.toList_none, List.cons_append, List.nil_append, true_and, and_true, if_true, if_false, mw_s_, mw_s_i, mw_s_r, mw_s_ii, mw_s_ir, mw_s_ri, mw_s_rr, mw_s_iii, mw_s_iir, mw_s_iri, mw_s_irr, mw_s_rii, mw_s_rir, mw_s_rri, mw_s_rrr, mw_s_iiii, mw_s_iiir, mw_s_iiri, mw_s_iirr, mw_s_irii, mw_s_irir, mw_s_irri, mw_s_irrr, mw_s_riii, mw_s_riir, mw_s_riri, mw_s_rirr, mw_s_rrii, mw_s_rrir, mw_s_rrri, mw_s_rrrr, mm_sto1, mm_clr, mm_isL, List.getElem?_cons_zero, List.getElem?_cons_succ, List.set_cons_zero, List.set_cons_succ, Bool.false_eq_true, nle8e, nI_0])) 8 0 (xC, xR, xL, xD, xH) rfl ⟨x1, x2, x3, x4, x6⟩
  have e1 : (List.range' 0 8).foldl (fun (y : List Int32 × List Int32 × List Int32 × List Int32 × List Int32) i => (y.1.set i (gi (vC u) (nI i)), y.2.1.set i (gi (vR u) (nI i)), y.2.2.1.set i (gi (vL u) (nI i)), y.2.2.2.1.set i (gi (vD u) (nI i)), y.2.2.2.2.set i (gi (vH u) (nI i)))) (xC, xR, xL, xD, xH) = (vC u, vR u, vL u, vD u, vH u) := by
    refine (fold5 (f1 := fun (y : List Int32) i => y.set i (gi (vC u) (nI i))) (f2 := fun (y : List Int32) i => y.set i (gi (vR u) (nI i))) (f3 := fun (y : List Int32) i => y.set i (gi (vL u) (nI i))) (f4 := fun (y : List Int32) i => y.set i (gi (vD u) (nI i))) (f5 := fun (y : List Int32) i => y.set i (gi (vH u) (nI i)))).trans ?_
    rw [set8 (l := xC) x1, set8 (l := xR) x2, set8 (l := xL) x3, set8 (l := xD) x4, set8 (l := xH) x6, map_gi8 l1, map_gi8 l2, map_gi8 l3, map_gi8 l4, map_gi8 l6]
  have k1 := key.1
  rw [e1] at k1
  have key2 := nf_loopI (N := 10) (Φ := fun i (y : List Int32) => wp scr n mb_22 76 [some (.ref a), some (.ref b), some (.int (nI i))] [] (pl M a (mk5 (vC u, vR u, vL u, vD u, vH u) y zz)) Q) (Ψ := fun y => Q none (pl M a (mk5 (vC u, vR u, vL u, vD u, vH u) y u.2))) (step := fun y i => y.set i (gi (vS u) (nI i))) (I := fun _ y => y.length = 10)
    (fun i y _ h => by rw [List.length_set]; exact h)
    (fun i y hi h => u22_76.trans (by
      have a1 : ∀ z, mm_sti (pl M a (mk5 (vC u, vR u, vL u, vD u, vH u) y zz)) (.ref (a + 5)) (nI i) z = some (pl M a (mk5 (vC u, vR u, vL u, vD u, vH u) (y.set i z) zz)) := fun z => by
        rw [pl_stS hM (by show vp_in (nI i) y.length; rw [h]; exact nI_in10 hi), clN hi]; rfl
      simp only [e22, u22_0, u22_1, u22_3, u22_5, u22_8, u22_9, u22_12, u22_13, u22_14, u22_17, u22_18, u22_19, u22_20, u22_21, u22_24, u22_25, u22_26, u22_29, u22_30, u22_31, u22_32, u22_33, u22_36, u22_37, u22_38, u22_41, u22_42, u22_43, u22_44, u22_45, u22_48, u22_49, u22_50, u22_53, u22_54, u22_55, u22_56, u22_57, u22_60, u22_61, u22_62, u22_65, u22_66, u22_67, u22_68, u22_71, u22_74, u22_75, u22_77, u22_79, u22_82, u22_83, u22_86, u22_87, u22_88, u22_91, u22_92, u22_93, u22_94, u22_97, u22_100, u22_101, u22_102, u22_105, u22_108, u22_109, u22_110, u22_113, u22_116, u22_117, u22_118, u22_121, u22_124, mw_os, wp_ite, mw_sw, Option.toList_some, Option.toList_none, List.cons_append, List.nil_append, true_and, and_true, if_true, if_false, mw_s_, mw_s_i, mw_s_r, mw_s_ii, mw_s_ir, mw_s_ri, mw_s_rr, mw_s_iii, mw_s_iir, mw_s_iri, mw_s_irr, mw_s_rii, mw_s_rir, mw_s_rri, mw_s_rrr, mw_s_iiii, mw_s_iiir, mw_s_iiri, mw_s_iirr, mw_s_irii, mw_s_irir, mw_s_irri, mw_s_irrr, mw_s_riii, mw_s_riir, mw_s_riri, mw_s_rirr, mw_s_rrii, mw_s_rrir, mw_s_rrri, mw_s_rrrr, mm_sto1, mm_clr, mm_isL, List.getElem?_cons_zero, List.getElem?_cons_succ, List.set_cons_zero, List.set_cons_succ, Bool.false_eq_true, LA_4 (pl_LA hM), LA_4 (hbM _), LA_s (hbM _), gi_at (l5.symm ▸ nI_in10 hi : vp_in (nI i) (vS u).length), a1, nle10 hi, nI_1]))
    (fun y h => u22_76.trans (by
      have p6 : ∀ z1 z2 z3 z, mm_put mc_fty (pl M a (mk5 (vC u, vR u, vL u, vD u, vH u) y (z1, z2, z3))) (.ref a) (.int z) 1 6 = some (pl M a (mk5 (vC u, vR u, vL u, vD u, vH u) y (z, z2, z3))) := fun z1 z2 z3 z => pl_puW hM
      have p7 : ∀ z1 z2 z3 z, mm_put mc_fty (pl M a (mk5 (vC u, vR u, vL u, vD u, vH u) y (z1, z2, z3))) (.ref a) (.int z) 1 7 = some (pl M a (mk5 (vC u, vR u, vL u, vD u, vH u) y (z1, z, z3))) := fun z1 z2 z3 z => pl_puT hM
      have p8 : ∀ z1 z2 z3 z, mm_put mc_fty (pl M a (mk5 (vC u, vR u, vL u, vD u, vH u) y (z1, z2, z3))) (.ref a) (.int z) 1 8 = some (pl M a (mk5 (vC u, vR u, vL u, vD u, vH u) y (z1, z2, z))) := fun z1 z2 z3 z => pl_puF hM
      obtain ⟨z1, z2, z3⟩ := zz
      simp only [u22_77, u22_79, u22_100, u22_101, u22_102, u22_105, u22_108, u22_109, u22_110, u22_113, u22_116, u22_117, u22_118, u22_121, u22_124, mw_os, wp_ite, mw_sw, Option.toList_some, Option.toList_none, List.cons_append, List.nil_append, true_and, and_true, if_true, if_false, mw_s_, mw_s_i, mw_s_r, mw_s_ii, mw_s_ir, mw_s_ri, mw_s_rr, mw_s_iii, mw_s_iir, mw_s_iri, mw_s_irr, mw_s_rii, mw_s_rir, mw_s_rri, mw_s_rrr, mw_s_iiii, mw_s_iiir, mw_s_iiri, mw_s_iirr, mw_s_irii, mw_s_irir, mw_s_irri, mw_s_irrr, mw_s_riii, mw_s_riir, mw_s_riri, mw_s_rirr, mw_s_rrii, mw_s_rrir, mw_s_rrri, mw_s_rrrr, nle10e, LA_6 (hbM _), LA_7 (hbM _), LA_8 (hbM _), p6, p7, p8]
      exact Iff.rfl)) 10 0 xS rfl x5
  have k2 := key2.1
  rw [set10 (l := xS) x5, map_gi10 l5] at k2
  have k3 := k1.trans k2
  have e5 : Q none (pl M a u) ↔ Q none (pl M a (mk5 (vC u, vR u, vL u, vD u, vH u) (vS u) u.2)) := Iff.rfl
  rw [e5, ← k3]
  simp only [e22, u22_0, u22_1, mw_os, wp_ite, mw_sw, Option.toList_some, Option.toList_none, List.cons_append, List.nil_append, true_and, and_true, if_true, if_false, mw_s_, mw_s_i, mw_s_r, mw_s_ii, mw_s_ir, mw_s_ri, mw_s_rr, mw_s_iii, mw_s_iir, mw_s_iri, mw_s_irr, mw_s_rii, mw_s_rir, mw_s_rri, mw_s_rrr, mw_s_iiii, mw_s_iiir, mw_s_iiri, mw_s_iirr, mw_s_irii, mw_s_irir, mw_s_irri, mw_s_irrr, mw_s_riii, mw_s_riir, mw_s_riri, mw_s_rirr, mw_s_rrii, mw_s_rrir, mw_s_rrri, mw_s_rrrr, mm_sto1, mm_clr, mm_isL, List.getElem?_cons_zero, List.getElem?_cons_succ, List.set_cons_zero, List.set_cons_succ, Bool.false_eq_true]
  exact Iff.rfl
theorem W70 {d : Nat} {line way : Int32} {y : LV} (h : SA M s v) (hv : SOK v) (hd : d < 4) (hN : sN v = nI d) (hl : LA M (la s d) u) (hw : LA M (la s (d + 1)) y) (hu : LOK u) (hm : MOK u (bfR line) (bfC line)) (hs0 : LEN y) (hn : LOK (fC u line way)) : Wp scr (n + 5) 70 [.ref s, .int line, .int way] M Q ↔ Q (some (.int (tfE v (fC u line way)))) (ph (pl M (la s (d + 1)) (fC u line way)) s (xW (xN v (nI (d + 1))) (wdOf v (fC u line way)))) := by
  have hM := LA_len hw
  have w71 : ∀ Q : Option Value → mm_M → Prop, _ := fun Q => W71 (scr := scr) (n := n) (Q := Q) (line := line) (way := way) h hv hd hl hw hu hm hs0 hn
  have hS : SA (pl M (la s (d + 1)) (fC u line way)) s v := SA_pl h (Or.inr (by unfold la; omega))
  have hL : LA (pl M (la s (d + 1)) (fC u line way)) (la s (d + 1)) (fC u line way) := pl_LA hM
  generalize pl M (la s (d + 1)) (fC u line way) = M1 at w71 hS hL ⊢
  generalize fC u line way = X at w71 hL hn ⊢
  have hM1 := SA_len hS
  have e1 : ph M1 s v = M1 := ph_self hS
  have p1 : ∀ z, mm_put mc_fty M1 (.ref s) (.int z) 4 4 = some (ph M1 s (xN v z)) := fun z => by
    have := ph_puN (v := v) (x := z) hM1
    rw [e1] at this
    exact this
  have w74 : ∀ Q : Option Value → mm_M → Prop, Wp scr (n + 4) 74 [.ref s, .ref (la s (d + 1))] (ph M1 s (xN v (nI (d + 1)))) Q ↔ Q none (ph M1 s (xW (xN v (nI (d + 1))) (wdOf v X))) := fun Q => W74 (v := xN v (nI (d + 1))) hM1 hv hL hn (Or.inr (by unfold la; omega))
  simp only [e70, u70_0, u70_1, u70_2, u70_5, u70_6, u70_7, u70_10, u70_11, u70_12, u70_13, u70_16, u70_17, u70_18, u70_21, u70_22, u70_23, u70_26, u70_29, u70_30, mw_os, wp_ite, mw_sw, Option.toList_some, Option.toList_none, List.cons_append, List.nil_append, true_and, and_true, if_true, if_false, mw_s_, mw_s_i, mw_s_r, mw_s_ii, mw_s_ir, mw_s_ri, mw_s_rr, mw_s_iii, mw_s_iir, mw_s_iri, mw_s_irr, mw_s_rii, mw_s_rir, mw_s_rri, mw_s_rrr, mw_s_iiii, mw_s_iiir, mw_s_iiri, mw_s_iirr, mw_s_irii, mw_s_irir, mw_s_irri, mw_s_irrr, mw_s_riii, mw_s_riir, mw_s_riri, mw_s_rirr, mw_s_rrii, mw_s_rrir, mw_s_rrri, mw_s_rrrr, mm_sto1, mm_clr, mm_isL, List.getElem?_cons_zero, List.getElem?_cons_succ, List.set_cons_zero, List.set_cons_succ, Bool.false_eq_true, SA_4 h, SA_x h, hN, w71, SA_4 hS, p1, nI_1, SA_x (ph_SA hM1), W73 (ph_SA (v := xN v (nI (d + 1))) hM1) (show d + 1 < 5 by omega) rfl, w74]
/-- the Layouts 1 .. d of another sheet come -/
def cpL (M : mm_M) (s : Nat) (U : Nat → LV) : Nat → mm_M
  | 0 => M
  | i + 1 => pl (cpL M s U i) (la s (i + 1)) (U (i + 1))
theorem cpL_out {U : Nat → LV} {i : Nat} : ∀ (d : Nat), (i < s + 12 ∨ s + 12 + 7 * d ≤ i) → (cpL M s U d)[i]? = M[i]? := by
  intro d
  induction d with
  | zero => intro _; rfl
  | succ d ih =>
    intro h
    rw [cpL, pl_out (by unfold la; omega)]
    exact ih (by omega)
theorem cpL_len {U : Nat → LV} : ∀ (d : Nat), (cpL M s U d).length = M.length := by
  intro d
  induction d with
  | zero => rfl
  | succ d ih => rw [cpL, pl_len, ih]
theorem W67 {d : Nat} {U Y : Nat → LV} (h : SA M s v) (hv : SOK v) (hw : SOK w) (ht : SA M t w) (hd4 : d < 5) (hN : sN w = nI d) (hdis : t + 40 ≤ s ∨ s + 40 ≤ t) (hU : ∀ i, i ≤ d → LA M (la t i) (U i)) (hUl : ∀ i, i ≤ d → LEN (U i)) (hY : ∀ i, i < 5 → LA M (la s i) (Y i)) (hYl : ∀ i, i < 5 → LEN (Y i)) : Wp scr (n + 2) 67 [.ref s, .ref t] M Q ↔ Q none (cpL (ph M s w) s U d) := by
  have hM := SA_len h
  have hS : ∀ j, SA (cpL (ph M s w) s U j) s w := fun j => SA_keep (ph_SA hM) (fun q hq => cpL_out j (by omega))
  have hT : ∀ j, j < 5 → SA (cpL (ph M s w) s U j) t w := fun j hj => SA_keep (SA_ph ht (by omega)) (fun q hq => cpL_out j (by omega))
  have hTl : ∀ j i, j < 5 → i ≤ d → LA (cpL (ph M s w) s U j) (la t i) (U i) := fun j i hj hi => LA_keep (LA_ph (hU i hi) (by unfold la; omega)) (fun q hq => cpL_out j (by unfold la; omega))
  have hSl : ∀ j i, j < i → i < 5 → LA (cpL (ph M s w) s U j) (la s i) (Y i) := fun j i hj hi => LA_keep (LA_ph (hY i hi) (by unfold la; omega)) (fun q hq => cpL_out j (by unfold la; omega))
  have key : ∀ (k j : Nat), j + k = d → (wp scr (n + 1) mb_67 23 [some (.ref s), some (.ref t), some (.int (nI (j + 1)))] [] (cpL (ph M s w) s U j) Q ↔ Q none (cpL (ph M s w) s U d)) := by
    intro k
    induction k with
    | zero =>
      intro j hj
      have : j = d := by omega
      subst this
      have h1 : (nI j < nI (j + 1)) ↔ True := iff_true_intro (nI_lt (by omega) (by omega))
      refine u67_23.trans ?_
      simp only [u67_24, u67_25, u67_28, u67_57, mw_os, wp_ite, mw_sw, Option.toList_some, Option.toList_none, List.cons_append, List.nil_append, true_and, and_true, if_true, if_false, mw_s_, mw_s_i, mw_s_r, mw_s_ii, mw_s_ir, mw_s_ri, mw_s_rr, mw_s_iii, mw_s_iir, mw_s_iri, mw_s_irr, mw_s_rii, mw_s_rir, mw_s_rri, mw_s_rrr, mw_s_iiii, mw_s_iiir, mw_s_iiri, mw_s_iirr, mw_s_irii, mw_s_irir, mw_s_irri, mw_s_irrr, mw_s_riii, mw_s_riir, mw_s_riri, mw_s_rirr, mw_s_rrii, mw_s_rrir, mw_s_rrri, mw_s_rrrr, SA_4 (hS j), hN, h1]
    | succ k ih =>
      intro j hj
      have h1 : (nI d < nI (j + 1)) ↔ False := iff_false_intro (nI_nlt (by omega) (by omega))
      have h2 : ((4 : Int32) < nI (j + 1)) ↔ False := iff_false_intro (nI_nlt (a := 4) (b := j + 1) (by omega) (by omega))
      have hm1 : la s (j + 1) + 6 < (cpL (ph M s w) s U j).length := LA_len (hSl j (j + 1) (by omega) (by omega))
      have w22 : ∀ Q : Option Value → mm_M → Prop, Wp scr (n + 1) 22 [.ref (la s (j + 1)), .ref (la t (j + 1))] (cpL (ph M s w) s U j) Q ↔ Q none (cpL (ph M s w) s U (j + 1)) := fun Q => by
        have := W22 (scr := scr) (n := n) (Q := Q) hm1 (hTl j (j + 1) (by omega) (by omega)) (by unfold la; omega) (hUl (j + 1) (by omega)) (hYl (j + 1) (by omega))
        rw [pl_self (hSl j (j + 1) (by omega) (by omega))] at this
        exact this
      refine u67_23.trans ?_
      simp only [e67, u67_0, u67_1, u67_2, u67_5, u67_6, u67_7, u67_10, u67_13, u67_14, u67_15, u67_18, u67_21, u67_22, u67_24, u67_25, u67_28, u67_31, u67_32, u67_33, u67_36, u67_37, u67_40, u67_41, u67_42, u67_43, u67_46, u67_47, u67_48, u67_51, u67_54, u67_57, mw_os, wp_ite, mw_sw, Option.toList_some, Option.toList_none, List.cons_append, List.nil_append, true_and, and_true, if_true, if_false, mw_s_, mw_s_i, mw_s_r, mw_s_ii, mw_s_ir, mw_s_ri, mw_s_rr, mw_s_iii, mw_s_iir, mw_s_iri, mw_s_irr, mw_s_rii, mw_s_rir, mw_s_rri, mw_s_rrr, mw_s_iiii, mw_s_iiir, mw_s_iiri, mw_s_iirr, mw_s_irii, mw_s_irir, mw_s_irri, mw_s_irrr, mw_s_riii, mw_s_riir, mw_s_riri, mw_s_rirr, mw_s_rrii, mw_s_rrir, mw_s_rrri, mw_s_rrrr, mm_sto1, mm_clr, mm_isL, List.getElem?_cons_zero, List.getElem?_cons_succ, List.set_cons_zero, List.set_cons_succ, Bool.false_eq_true, SA_4 (hS j), hN, h1, h2, SA_0 (hS j), SA_0 (hT j (by omega)), SA_l (hS j) (show j + 1 < 5 by omega), SA_l (hT j (by omega)) (show j + 1 < 5 by omega), LA_x (hSl j (j + 1) (by omega) (by omega)), w22, nI_1]
      exact ih (j + 1) (by omega)
  have w68 : ∀ Q : Option Value → mm_M → Prop, Wp scr (n + 1) 68 [.ref s, .ref t] M Q ↔ Q none (ph M s ((sK w, sF w, sWo w), (sN v, sCv v))) := fun Q => by
    have := W68 (scr := scr) (n := n) (Q := Q) hM hv hw ht (by omega)
    rw [ph_self h] at this
    exact this
  have k0 := key d 0 (by omega)
  have hb : ∀ x : SV, SA (ph M s x) t w := fun x => SA_ph ht (by omega)
  have p1 : ∀ z z1 z2, mm_put mc_fty (ph M s ((sK w, sF w, sWo w), (z1, z2))) (.ref s) (.int z) 4 4 = some (ph M s ((sK w, sF w, sWo w), (z, z2))) := fun z z1 z2 => ph_puN hM
  have p2 : ∀ z z1 z2, mm_put mc_fty (ph M s ((sK w, sF w, sWo w), (z1, z2))) (.ref s) (.int z) 4 5 = some (ph M s ((sK w, sF w, sWo w), (z1, z))) := fun z z1 z2 => ph_puC hM
  rw [← k0]
  simp only [e67, u67_0, u67_1, u67_2, u67_5, u67_6, u67_7, u67_10, u67_13, u67_14, u67_15, u67_18, u67_21, u67_22, mw_os, wp_ite, mw_sw, Option.toList_some, Option.toList_none, List.cons_append, List.nil_append, true_and, and_true, if_true, if_false, mw_s_, mw_s_i, mw_s_r, mw_s_ii, mw_s_ir, mw_s_ri, mw_s_rr, mw_s_iii, mw_s_iir, mw_s_iri, mw_s_irr, mw_s_rii, mw_s_rir, mw_s_rri, mw_s_rrr, mw_s_iiii, mw_s_iiir, mw_s_iiri, mw_s_iirr, mw_s_irii, mw_s_irir, mw_s_irri, mw_s_irrr, mw_s_riii, mw_s_riir, mw_s_riri, mw_s_rirr, mw_s_rrii, mw_s_rrir, mw_s_rrri, mw_s_rrrr, mm_sto1, mm_clr, mm_isL, List.getElem?_cons_zero, List.getElem?_cons_succ, List.set_cons_zero, List.set_cons_succ, Bool.false_eq_true, SA_x h, w68, SA_4 (hb _), SA_5 (hb _), p1, p2]
  exact Iff.rfl
end SH3
