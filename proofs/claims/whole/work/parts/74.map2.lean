section MP
variable {scr : List Int32} {n : Nat} {M M0 : mm_M} {Q : Option Value → mm_M → Prop} {g : SG}
theorem inL_le {place : Nat} {l : List Nat} : ∀ (k i q : Nat), inL g place l k i = some q → q < place + 1 + i + k := by
  intro k
  induction k with
  | zero => intro i q h; cases h
  | succ k ih =>
    intro i q h
    rw [inL] at h
    split at h
    · have := ih _ _ h; omega
    · cases h; omega
theorem outL_le : ∀ (f p q : Nat), outL g f p = some q → q ≤ gZn g + 5 := by
  intro f
  induction f with
  | zero => intro p q h; cases h
  | succ f ih =>
    intro p q h
    rw [outL] at h
    split at h
    · rename_i hp
      split at h
      · cases h; omega
      · have hl4 := shp_len (zN g p)
        cases hi : inL g p (shp (zN g p)) (shp (zN g p)).length 0 with
        | some r =>
          rw [hi] at h
          cases h
          have := inL_le _ _ _ hi
          omega
        | none =>
          rw [hi] at h
          exact ih _ _ h
    · cases h
theorem dF_le : ∀ (f p : Nat) (h : HV) (c : Nat), (dF g f p h c).2.1 ≤ c + f ∧ ∀ q, (dF g f p h c).1 = some q → q < gZn g := by
  intro f
  induction f with
  | zero => intro p h c; exact ⟨Nat.le_refl _, fun q hq => by cases hq⟩
  | succ f ih =>
    intro p h c
    rw [dF]
    by_cases hp : p < gZn g
    · rw [if_pos hp]
      cases hs : stp g p h with
      | none => exact ⟨by show c ≤ _; omega, fun q hq => by cases hq; exact hp⟩
      | some h' =>
        obtain ⟨a, b⟩ := ih (p + 1 + (shp (zN g p)).length) h' (c + 1)
        exact ⟨by show (dF g f _ h' (c + 1)).2.1 ≤ _; omega, b⟩
    · rw [if_neg hp]
      exact ⟨by show c ≤ _; omega, fun q hq => by cases hq⟩
theorem CPf (hC : CS M g) (hg : SGOK g) (hl : M.length = M0.length) (ha : Ag M0 M 129 143) {r : Value} (hQ : CPost M0 (gZl g (gZ g) 0) r Q) : Q (some r) (M.set 124 (lt_o 0)) := by
  have h := CS_ltd (ts := gZ g) (c := 0) hC hg
  rw [sr_self (CZ hC)] at h
  exact hQ _ (List.length_set.trans hl) (Ag_tr ha (Ag_set (by omega))) h
theorem C67t (hC : CS M g) (hg : SGOK g) (hQ : ∀ M', CTt M M' g (gN g) → Q none M') : Wp scr (n + 2) 67 [.ref 81, .ref 1] M Q := by
  obtain ⟨⟨v, hv, hs, hy⟩, h0⟩ := hC.2.2.2.1
  have hd4 := hg.1.2.2.1
  have : ∀ i, ∃ y, (i < 5 → LEN y ∧ LA M (la 81 i) y) ∧ (i = 0 → y = L0) := by
    intro i
    by_cases hi0 : i = 0
    · subst hi0
      obtain ⟨x, hx, _⟩ := L0_in
      exact ⟨L0, fun _ => ⟨LOK_LEN (GT_N hx).1, h0⟩, fun _ => rfl⟩
    · by_cases hi : i < 5
      · obtain ⟨y, y1, y2⟩ := hy i hi
        exact ⟨y, fun _ => ⟨y1, y2⟩, fun z => absurd z hi0⟩
      · exact ⟨L0, fun z => absurd z hi, fun _ => rfl⟩
  obtain ⟨Y, hY⟩ := Classical.axiomOfChoice this
  have hl : M.length = 143 := hC.1.1
  rw [W67 (s := 81) (t := 1) (d := (gN g).2.1) (U := (gN g).2.2) (Y := Y) hs hv (gSOK hg) (NS hC) (by omega) hg.1.2.1 (Or.inl (by omega)) (fun i hi => hC.2.1.2.1 i hi) (fun i hi => by
    obtain ⟨x, hx, _⟩ := HOK_GT hg.1 i hi
    exact LOK_LEN (GT_N hx).1) (fun i hi => ((hY i).1 hi).2) (fun i hi => ((hY i).1 hi).1)]
  have hsh := cp_SH (s := 81) (h' := (v, (gN g).2)) hC.2.1 hg.1 hs (fun i hi => (hY i).1 hi) ((hY 0).2 rfl) (by omega)
  refine hQ _ ?_
  have hA := Ag_cp (M := M) (s := 81) (v := (gN g).1) (U := (gN g).2.2) (a := 0) (b := 81) hd4 (by omega)
  have hB := Ag_cp (M := M) (s := 81) (v := (gN g).1) (U := (gN g).2.2) (a := 121) (b := 143) hd4 (by omega)
  have hlen : (cpL (ph M 81 (gN g).1) 81 (gN g).2.2 (gN g).2.1).length = M.length := (cpL_len _).trans (ph_len ..)
  generalize cpL (ph M 81 (gN g).1) 81 (gN g).2.2 (gN g).2.1 = M1 at *
  obtain ⟨⟨a1, a2⟩, a3, a4, _, ⟨τ, a6, a7⟩, ⟨a8, a9⟩, ⟨x, y, a10⟩, a11, a12⟩ := hC
  refine ⟨hlen, Ag_sub hB (by omega) (by omega), ⟨⟨hlen.trans a1, (hA 0 (by omega) (by omega)).trans a2⟩, SH_kp a3 (Ag_sub hA (by omega) (by omega)) hg.1.2.2.1, SH_kp a4 (Ag_sub hA (by omega) (by omega)) hg.2.1.2.2.1, ?_, ⟨τ, a6, QA_keep a7 (fun j hj => hB _ (by omega) (by omega))⟩, ⟨(hB 124 (by omega) (by omega)).trans a8, (hB 125 (by omega) (by omega)).trans a9⟩, ⟨x, y, (hB 126 (by omega) (by omega)).trans a10⟩, (hB 127 (by omega) (by omega)).trans a11, (hB 128 (by omega) (by omega)).trans a12⟩, hsh⟩
  obtain ⟨Z, hZ, hZ0⟩ := SH_all hsh hg.1
  exact ⟨⟨(gN g).1, hg.1.1, hsh.1, fun i hi => ⟨Z i, (hZ i hi).1, (hZ i hi).2⟩⟩, by have := (hZ 0 (by omega)).2; rw [hZ0] at this; exact this⟩
theorem J_map (hg : SGOK g) : JO scr 85 142 [] g := by
  have hz := hg.2.2.2.1
  have hG0 : ∀ g', SGOK g' → SGOK (gZl g' (gZ g) 0) := fun g' hg' => gZl_ok hg' hz.1 (by omega) (fun i hi => absurd hi (by omega))
  have flt : (¬ (gZn g = 0) ∧ outL g (gZn g + 1) 0 = none ∧ fltV g = -1) ∨ (0 : Int32) ≤ fltV g := by
    unfold fltV
    by_cases h : gZn g = 0
    · rw [if_pos h]; exact Or.inr (by decide)
    · rw [if_neg h]
      cases ho : outL g (gZn g + 1) 0 with
      | none => exact Or.inl ⟨h, rfl, rfl⟩
      | some q =>
        have := outL_le _ _ _ ho
        exact Or.inr (nI_pos' (by omega))
  have pf : ∀ (M : mm_M) (hC : CS M g), mm_put mc_fty M (.ref 124) (.int 0) 2 1 = some (M.set 124 (lt_o 0)) := fun M hC => CZ_pu (x := 0) (c := 0) hC
  rcases flt with ⟨hne, ho, hf⟩ | hf
  · have l0 : (fltV g < 0) ↔ True := by rw [hf]; decide
    obtain ⟨D, hD⟩ : ∃ D, D = dF g (gZn g + 1) 0 (gN g) 0 := ⟨_, rfl⟩
    have hle := dF_le (g := g) (gZn g + 1) 0 (gN g) 0
    rw [← hD] at hle
    cases hq1 : D.1 with
    | some q =>
      refine ⟨.int (-2000 - nI q), gZl g (gZ g) 0, hG0 g hg, fun n M Q hC hQ => ?_, fun n M Q hC hQ => ?_⟩
      · simp only [u85_0, u85_1, u85_4, e85, mw_os, wp_ite, mw_sw, Option.toList_some, Option.toList_none, List.cons_append, List.nil_append, true_and, and_true, if_true, if_false, mw_s_, mw_s_i, mw_s_r, mw_s_ii, mw_s_ir, mw_s_ri, mw_s_rr, mw_s_iii, mw_s_iir, mw_s_iri, mw_s_irr, mw_s_rii, mw_s_rir, mw_s_rri, mw_s_rrr, mw_s_iiii, mw_s_iiir, mw_s_iiri, mw_s_iirr, mw_s_irii, mw_s_irir, mw_s_irri, mw_s_irrr, mw_s_riii, mw_s_riir, mw_s_riri, mw_s_rirr, mw_s_rrii, mw_s_rrir, mw_s_rrri, mw_s_rrrr, mm_sto1, mm_clr, mm_isL, List.getElem?_cons_zero, List.getElem?_cons_succ, List.set_cons_zero, List.set_cons_succ, Bool.false_eq_true, CS_4 hC, CZ_x hC]
        refine C45 (n := n + 31) hC hg ?_
        simp only [u85_7, u85_8, u85_9, u85_20, u85_21, mw_os, wp_ite, mw_sw, Option.toList_some, Option.toList_none, List.cons_append, List.nil_append, true_and, and_true, if_true, if_false, mw_s_, mw_s_i, mw_s_r, mw_s_ii, mw_s_ir, mw_s_ri, mw_s_rr, mw_s_iii, mw_s_iir, mw_s_iri, mw_s_irr, mw_s_rii, mw_s_rir, mw_s_rri, mw_s_rrr, mw_s_iiii, mw_s_iiir, mw_s_iiri, mw_s_iirr, mw_s_irii, mw_s_irir, mw_s_irri, mw_s_irrr, mw_s_riii, mw_s_riir, mw_s_riri, mw_s_rirr, mw_s_rrii, mw_s_rrir, mw_s_rrri, mw_s_rrrr, mm_sto1, mm_clr, mm_isL, List.getElem?_cons_zero, List.getElem?_cons_succ, List.set_cons_zero, List.set_cons_succ, Bool.false_eq_true, l0, CS_x hC]
        simp only [u86_0, u86_1, u86_4, u86_5, u86_8, e86, mw_os, wp_ite, mw_sw, Option.toList_some, Option.toList_none, List.cons_append, List.nil_append, true_and, and_true, if_true, if_false, mw_s_, mw_s_i, mw_s_r, mw_s_ii, mw_s_ir, mw_s_ri, mw_s_rr, mw_s_iii, mw_s_iir, mw_s_iri, mw_s_irr, mw_s_rii, mw_s_rir, mw_s_rri, mw_s_rrr, mw_s_iiii, mw_s_iiir, mw_s_iiri, mw_s_iirr, mw_s_irii, mw_s_irir, mw_s_irri, mw_s_irrr, mw_s_riii, mw_s_riir, mw_s_riri, mw_s_rirr, mw_s_rrii, mw_s_rrir, mw_s_rrri, mw_s_rrrr, mm_sto1, mm_clr, mm_isL, List.getElem?_cons_zero, List.getElem?_cons_succ, List.set_cons_zero, List.set_cons_succ, Bool.false_eq_true, CS_2 hC, CS_0 hC, (show mw_r M 81 4 ↔ True from by obtain ⟨v, _, hs⟩ := TRu hC; exact SA_x hs)]
        refine C67t (n := n + 36) hC hg (fun M1 hc1 => ?_)
        simp only [u86_11, u86_12, u86_13, u86_14, mw_os, wp_ite, mw_sw, Option.toList_some, Option.toList_none, List.cons_append, List.nil_append, true_and, and_true, if_true, if_false, mw_s_, mw_s_i, mw_s_r, mw_s_ii, mw_s_ir, mw_s_ri, mw_s_rr, mw_s_iii, mw_s_iir, mw_s_iri, mw_s_irr, mw_s_rii, mw_s_rir, mw_s_rri, mw_s_rrr, mw_s_iiii, mw_s_iiir, mw_s_iiri, mw_s_iirr, mw_s_irii, mw_s_irir, mw_s_irri, mw_s_irrr, mw_s_riii, mw_s_riir, mw_s_riri, mw_s_rirr, mw_s_rrii, mw_s_rrir, mw_s_rrri, mw_s_rrrr, mm_sto1, mm_clr, mm_isL, List.getElem?_cons_zero, List.getElem?_cons_succ, List.set_cons_zero, List.set_cons_succ, Bool.false_eq_true]
        refine C86l (n := n + 29) hg (gZn g + 1) 0 (gN g) 0 M1 (by omega) (by omega) (by omega) ho hg.1 hc1 (fun M2 hc2 hh2 => ?_)
        rw [← hD] at hc2 ⊢
        rw [hq1]
        have hC2 := hc2.2.2.1
        simp only [u85_24, u85_25, u85_26, u85_29, e52, u52_0, u52_0b, u52_1, u52_2, u52_5, mw_os, wp_ite, mw_sw, Option.toList_some, Option.toList_none, List.cons_append, List.nil_append, true_and, and_true, if_true, if_false, mw_s_, mw_s_i, mw_s_r, mw_s_ii, mw_s_ir, mw_s_ri, mw_s_rr, mw_s_iii, mw_s_iir, mw_s_iri, mw_s_irr, mw_s_rii, mw_s_rir, mw_s_rri, mw_s_rrr, mw_s_iiii, mw_s_iiir, mw_s_iiri, mw_s_iirr, mw_s_irii, mw_s_irir, mw_s_irri, mw_s_irrr, mw_s_riii, mw_s_riir, mw_s_riri, mw_s_rirr, mw_s_rrii, mw_s_rrir, mw_s_rrri, mw_s_rrrr, mm_sto1, mm_clr, mm_isL, List.getElem?_cons_zero, List.getElem?_cons_succ, List.set_cons_zero, List.set_cons_succ, Bool.false_eq_true, CS_4 hC2, CZ_x hC2, pf M2 hC2, u85_32, u85_33]
        exact CPf hC2 hg hc2.1 hc2.2.1 hQ
      · obtain ⟨o, r, hO, h1, hR, hA⟩ := MSu hC
        have e8 : o.1.2.2 = nI (gZn g) := by rw [h1]
        have hC1 := MS_ltd (ts := gZ g) (c := 0) (o2 := o.2) hC hO h1
        rw [sr_self (MZ hC)] at hC1
        have hO1 : OA (so M ((o.1.1, o.1.2.1, nI 0), o.2)) ((o.1.1, o.1.2.1, nI 0), o.2) := so_OA hO
        have hZ1 : RA (so M ((o.1.1, o.1.2.1, nI 0), o.2)) 141 (gZ g) := RA_so (MZ hC) (by decide)
        have p8 : mm_put mc_fty M (.ref 129) (.int 0) 6 8 = some (so M ((o.1.1, o.1.2.1, nI 0), o.2)) := OA_pu8 hO
        have hl1 : (so M ((o.1.1, o.1.2.1, nI 0), o.2)).length = M.length := so_len
        have ha1 : Ag M (so M ((o.1.1, o.1.2.1, nI 0), o.2)) 0 129 := Ag_so
        generalize so M ((o.1.1, o.1.2.1, nI 0), o.2) = M1 at hC1 hO1 hZ1 p8 hl1 ha1
        simp only [u142_0, u142_1, u142_4, u142_5, u142_6, u142_7, u142_10, u142_11, u142_12, e142, mw_os, wp_ite, mw_sw, Option.toList_some, Option.toList_none, List.cons_append, List.nil_append, true_and, and_true, if_true, if_false, mw_s_, mw_s_i, mw_s_r, mw_s_ii, mw_s_ir, mw_s_ri, mw_s_rr, mw_s_iii, mw_s_iir, mw_s_iri, mw_s_irr, mw_s_rii, mw_s_rir, mw_s_rri, mw_s_rrr, mw_s_iiii, mw_s_iiir, mw_s_iiri, mw_s_iirr, mw_s_irii, mw_s_irir, mw_s_irri, mw_s_irrr, mw_s_riii, mw_s_riir, mw_s_riri, mw_s_rirr, mw_s_rrii, mw_s_rrir, mw_s_rrri, mw_s_rrrr, mm_sto1, mm_clr, mm_isL, List.getElem?_cons_zero, List.getElem?_cons_succ, List.set_cons_zero, List.set_cons_succ, Bool.false_eq_true, OA_8 hO, e8, p8, OA_x hO1]
        refine M143 (n := n + 30) hg hO1 hZ1 ?_
        have d0 : mm_lda M1 132 0 = some (.ref 133) := DPk (k := 0) hC1 (by decide)
        simp only [u142_15, u142_16, u142_17, u142_26, u142_27, u142_30, u142_31, u142_34, u142_35, u142_36, mw_os, wp_ite, mw_sw, Option.toList_some, Option.toList_none, List.cons_append, List.nil_append, true_and, and_true, if_true, if_false, mw_s_, mw_s_i, mw_s_r, mw_s_ii, mw_s_ir, mw_s_ri, mw_s_rr, mw_s_iii, mw_s_iir, mw_s_iri, mw_s_irr, mw_s_rii, mw_s_rir, mw_s_rri, mw_s_rrr, mw_s_iiii, mw_s_iiir, mw_s_iiri, mw_s_iirr, mw_s_irii, mw_s_irir, mw_s_irri, mw_s_irrr, mw_s_riii, mw_s_riir, mw_s_riri, mw_s_rirr, mw_s_rrii, mw_s_rrir, mw_s_rrri, mw_s_rrrr, mm_sto1, mm_clr, mm_isL, List.getElem?_cons_zero, List.getElem?_cons_succ, List.set_cons_zero, List.set_cons_succ, Bool.false_eq_true, l0, OA_0 hO1, OA_2 hO1, d0]
        refine MT147 (k := 0) (n := n + 38) (M0 := M) hl1 ha1 hC1 (by decide) (fun M2 hm2 => ?_)
        simp only [u142_39, u142_40, u142_41, u142_42, mw_os, wp_ite, mw_sw, Option.toList_some, Option.toList_none, List.cons_append, List.nil_append, true_and, and_true, if_true, if_false, mw_s_, mw_s_i, mw_s_r, mw_s_ii, mw_s_ir, mw_s_ri, mw_s_rr, mw_s_iii, mw_s_iir, mw_s_iri, mw_s_irr, mw_s_rii, mw_s_rir, mw_s_rri, mw_s_rrr, mw_s_iiii, mw_s_iiir, mw_s_iiri, mw_s_iirr, mw_s_irii, mw_s_irir, mw_s_irri, mw_s_irrr, mw_s_riii, mw_s_riir, mw_s_riri, mw_s_rirr, mw_s_rrii, mw_s_rrir, mw_s_rrri, mw_s_rrrr, mm_sto1, mm_clr, mm_isL, List.getElem?_cons_zero, List.getElem?_cons_succ, List.set_cons_zero, List.set_cons_succ, Bool.false_eq_true]
        refine M142l (n := n + 29) (G := gZl g (gZ g) 0) hg rfl (gZn g + 1) 0 (gN g) 0 M2 (by omega) (by omega) ho hg.1 hm2 (fun M3 hm3 hh3 => ?_)
        rw [← hD] at hm3 ⊢
        rw [hq1]
        exact hQ M3 hm3.1 hm3.2.1 hm3.2.2.1
    | none =>
      have hok : HOK D.2.2 := by
        have key : ∀ (f p : Nat) (h : HV) (c : Nat), outL g f p = none → HOK h → HOK (dF g f p h c).2.2 := by
          intro f
          induction f with
          | zero => intro p h c _ hh; exact hh
          | succ f ih =>
            intro p h c ho hh
            rw [dF]
            by_cases hp : p < gZn g
            · rw [if_pos hp]
              obtain ⟨hS, ho'⟩ := outL_GS ho hp
              cases hs : stp g p h with
              | none => exact hh
              | some h' => exact ih _ h' _ ho' (stp_ok hS hh hs)
            · rw [if_neg hp]
              exact hh
        rw [hD]
        exact key _ _ _ _ ho hg.1
      refine ⟨.int (nI D.2.1), gZl (gW g D.2.2) (gZ g) 0, hG0 _ (gW_ok hg hok), fun n M Q hC hQ => ?_, fun n M Q hC hQ => ?_⟩
      · simp only [u85_0, u85_1, u85_4, e85, mw_os, wp_ite, mw_sw, Option.toList_some, Option.toList_none, List.cons_append, List.nil_append, true_and, and_true, if_true, if_false, mw_s_, mw_s_i, mw_s_r, mw_s_ii, mw_s_ir, mw_s_ri, mw_s_rr, mw_s_iii, mw_s_iir, mw_s_iri, mw_s_irr, mw_s_rii, mw_s_rir, mw_s_rri, mw_s_rrr, mw_s_iiii, mw_s_iiir, mw_s_iiri, mw_s_iirr, mw_s_irii, mw_s_irir, mw_s_irri, mw_s_irrr, mw_s_riii, mw_s_riir, mw_s_riri, mw_s_rirr, mw_s_rrii, mw_s_rrir, mw_s_rrri, mw_s_rrrr, mm_sto1, mm_clr, mm_isL, List.getElem?_cons_zero, List.getElem?_cons_succ, List.set_cons_zero, List.set_cons_succ, Bool.false_eq_true, CS_4 hC, CZ_x hC]
        refine C45 (n := n + 31) hC hg ?_
        simp only [u85_7, u85_8, u85_9, u85_20, u85_21, mw_os, wp_ite, mw_sw, Option.toList_some, Option.toList_none, List.cons_append, List.nil_append, true_and, and_true, if_true, if_false, mw_s_, mw_s_i, mw_s_r, mw_s_ii, mw_s_ir, mw_s_ri, mw_s_rr, mw_s_iii, mw_s_iir, mw_s_iri, mw_s_irr, mw_s_rii, mw_s_rir, mw_s_rri, mw_s_rrr, mw_s_iiii, mw_s_iiir, mw_s_iiri, mw_s_iirr, mw_s_irii, mw_s_irir, mw_s_irri, mw_s_irrr, mw_s_riii, mw_s_riir, mw_s_riri, mw_s_rirr, mw_s_rrii, mw_s_rrir, mw_s_rrri, mw_s_rrrr, mm_sto1, mm_clr, mm_isL, List.getElem?_cons_zero, List.getElem?_cons_succ, List.set_cons_zero, List.set_cons_succ, Bool.false_eq_true, l0, CS_x hC]
        simp only [u86_0, u86_1, u86_4, u86_5, u86_8, e86, mw_os, wp_ite, mw_sw, Option.toList_some, Option.toList_none, List.cons_append, List.nil_append, true_and, and_true, if_true, if_false, mw_s_, mw_s_i, mw_s_r, mw_s_ii, mw_s_ir, mw_s_ri, mw_s_rr, mw_s_iii, mw_s_iir, mw_s_iri, mw_s_irr, mw_s_rii, mw_s_rir, mw_s_rri, mw_s_rrr, mw_s_iiii, mw_s_iiir, mw_s_iiri, mw_s_iirr, mw_s_irii, mw_s_irir, mw_s_irri, mw_s_irrr, mw_s_riii, mw_s_riir, mw_s_riri, mw_s_rirr, mw_s_rrii, mw_s_rrir, mw_s_rrri, mw_s_rrrr, mm_sto1, mm_clr, mm_isL, List.getElem?_cons_zero, List.getElem?_cons_succ, List.set_cons_zero, List.set_cons_succ, Bool.false_eq_true, CS_2 hC, CS_0 hC, (show mw_r M 81 4 ↔ True from by obtain ⟨v, _, hs⟩ := TRu hC; exact SA_x hs)]
        refine C67t (n := n + 36) hC hg (fun M1 hc1 => ?_)
        simp only [u86_11, u86_12, u86_13, u86_14, mw_os, wp_ite, mw_sw, Option.toList_some, Option.toList_none, List.cons_append, List.nil_append, true_and, and_true, if_true, if_false, mw_s_, mw_s_i, mw_s_r, mw_s_ii, mw_s_ir, mw_s_ri, mw_s_rr, mw_s_iii, mw_s_iir, mw_s_iri, mw_s_irr, mw_s_rii, mw_s_rir, mw_s_rri, mw_s_rrr, mw_s_iiii, mw_s_iiir, mw_s_iiri, mw_s_iirr, mw_s_irii, mw_s_irir, mw_s_irri, mw_s_irrr, mw_s_riii, mw_s_riir, mw_s_riri, mw_s_rirr, mw_s_rrii, mw_s_rrir, mw_s_rrri, mw_s_rrrr, mm_sto1, mm_clr, mm_isL, List.getElem?_cons_zero, List.getElem?_cons_succ, List.set_cons_zero, List.set_cons_succ, Bool.false_eq_true]
        refine C86l (n := n + 29) hg (gZn g + 1) 0 (gN g) 0 M1 (by omega) (by omega) (by omega) ho hg.1 hc1 (fun M2 hc2 hh2 => ?_)
        rw [← hD] at hc2 hh2 ⊢
        rw [hq1]
        have hC2 := hc2.2.2.1
        have hs2 := hc2.2.2.2
        have hd4 := hok.2.2.1
        obtain ⟨Y, hY, hY0⟩ := SH_all hC2.2.1 hg.1
        have hs := cp_SH (s := 1) hs2 hok hC2.2.1.1 hY hY0 (by rw [hC2.1.1]; decide)
        have hlen : (cpL (ph M2 1 D.2.2.1) 1 D.2.2.2.2 D.2.2.2.1).length = M2.length := (cpL_len _).trans (ph_len ..)
        have hA := Ag_cp (M := M2) (s := 1) (v := D.2.2.1) (U := D.2.2.2.2) (a := 0) (b := 1) hd4 (by omega)
        have hB := Ag_cp (M := M2) (s := 1) (v := D.2.2.1) (U := D.2.2.2.2) (a := 41) (b := 143) hd4 (by omega)
        have w67 := fun Q => CW67 (scr := scr) (n := n + 36) (Q := Q) hs2 hok hC2.2.1 hg.1 (show 81 + 40 ≤ 1 ∨ 1 + 40 ≤ 81 by omega)
        generalize cpL (ph M2 1 D.2.2.1) 1 D.2.2.2.2 D.2.2.2.1 = M3 at hs hlen hA hB w67
        have hC3 : CS M3 (gW g D.2.2) := CS_now hC2 hg hlen (hA 0 (by omega) (by omega)) (Ag_sub hB (by omega) (by omega)) hs
        have pf3 : mm_put mc_fty M3 (.ref 124) (.int 0) 2 1 = some (M3.set 124 (lt_o 0)) := CZ_pu (x := 0) (c := 0) hC3
        have fin : ∀ q, wp scr (n + 38) mb_86 59 [some (.ref 0), some (.int (nI D.2.1)), some (.int (nI q))] [] M2 (fun r1 M1 => wp scr (n + 39) mb_85 24 [some (.ref 0), some (.int (fltV g)), none] (r1.toList ++ []) M1 Q) := by
          intro q
          simp only [u86_59, u86_60, u86_63, u86_64, u86_67, u86_70, u86_71, mw_os, wp_ite, mw_sw, Option.toList_some, Option.toList_none, List.cons_append, List.nil_append, true_and, and_true, if_true, if_false, mw_s_, mw_s_i, mw_s_r, mw_s_ii, mw_s_ir, mw_s_ri, mw_s_rr, mw_s_iii, mw_s_iir, mw_s_iri, mw_s_irr, mw_s_rii, mw_s_rir, mw_s_rri, mw_s_rrr, mw_s_iiii, mw_s_iiir, mw_s_iiri, mw_s_iirr, mw_s_irii, mw_s_irir, mw_s_irri, mw_s_irrr, mw_s_riii, mw_s_riir, mw_s_riri, mw_s_rirr, mw_s_rrii, mw_s_rrir, mw_s_rrri, mw_s_rrrr, mm_sto1, mm_clr, mm_isL, List.getElem?_cons_zero, List.getElem?_cons_succ, List.set_cons_zero, List.set_cons_succ, Bool.false_eq_true, CS_0 hC2, CS_2 hC2, NS_x hC2, w67, u85_24, u85_25, u85_26, u85_29, e52, u52_0, u52_0b, u52_1, u52_2, u52_5, CS_4 hC3, CZ_x hC3, pf3, u85_32, u85_33]
          exact CPf (g := gW g D.2.2) hC3 (gW_ok hg hok) (hlen.trans hc2.1) (Ag_tr hc2.2.1 (Ag_sub hB (by omega) (by omega))) hQ
        exact ⟨fin _, fin⟩
      · obtain ⟨o, r, hO, h1, hR, hA⟩ := MSu hC
        have e8 : o.1.2.2 = nI (gZn g) := by rw [h1]
        have hC1 := MS_ltd (ts := gZ g) (c := 0) (o2 := o.2) hC hO h1
        rw [sr_self (MZ hC)] at hC1
        have hO1 : OA (so M ((o.1.1, o.1.2.1, nI 0), o.2)) ((o.1.1, o.1.2.1, nI 0), o.2) := so_OA hO
        have hZ1 : RA (so M ((o.1.1, o.1.2.1, nI 0), o.2)) 141 (gZ g) := RA_so (MZ hC) (by decide)
        have p8 : mm_put mc_fty M (.ref 129) (.int 0) 6 8 = some (so M ((o.1.1, o.1.2.1, nI 0), o.2)) := OA_pu8 hO
        have hl1 : (so M ((o.1.1, o.1.2.1, nI 0), o.2)).length = M.length := so_len
        have ha1 : Ag M (so M ((o.1.1, o.1.2.1, nI 0), o.2)) 0 129 := Ag_so
        generalize so M ((o.1.1, o.1.2.1, nI 0), o.2) = M1 at hC1 hO1 hZ1 p8 hl1 ha1
        simp only [u142_0, u142_1, u142_4, u142_5, u142_6, u142_7, u142_10, u142_11, u142_12, e142, mw_os, wp_ite, mw_sw, Option.toList_some, Option.toList_none, List.cons_append, List.nil_append, true_and, and_true, if_true, if_false, mw_s_, mw_s_i, mw_s_r, mw_s_ii, mw_s_ir, mw_s_ri, mw_s_rr, mw_s_iii, mw_s_iir, mw_s_iri, mw_s_irr, mw_s_rii, mw_s_rir, mw_s_rri, mw_s_rrr, mw_s_iiii, mw_s_iiir, mw_s_iiri, mw_s_iirr, mw_s_irii, mw_s_irir, mw_s_irri, mw_s_irrr, mw_s_riii, mw_s_riir, mw_s_riri, mw_s_rirr, mw_s_rrii, mw_s_rrir, mw_s_rrri, mw_s_rrrr, mm_sto1, mm_clr, mm_isL, List.getElem?_cons_zero, List.getElem?_cons_succ, List.set_cons_zero, List.set_cons_succ, Bool.false_eq_true, OA_8 hO, e8, p8, OA_x hO1]
        refine M143 (n := n + 30) hg hO1 hZ1 ?_
        have d0 : mm_lda M1 132 0 = some (.ref 133) := DPk (k := 0) hC1 (by decide)
        simp only [u142_15, u142_16, u142_17, u142_26, u142_27, u142_30, u142_31, u142_34, u142_35, u142_36, mw_os, wp_ite, mw_sw, Option.toList_some, Option.toList_none, List.cons_append, List.nil_append, true_and, and_true, if_true, if_false, mw_s_, mw_s_i, mw_s_r, mw_s_ii, mw_s_ir, mw_s_ri, mw_s_rr, mw_s_iii, mw_s_iir, mw_s_iri, mw_s_irr, mw_s_rii, mw_s_rir, mw_s_rri, mw_s_rrr, mw_s_iiii, mw_s_iiir, mw_s_iiri, mw_s_iirr, mw_s_irii, mw_s_irir, mw_s_irri, mw_s_irrr, mw_s_riii, mw_s_riir, mw_s_riri, mw_s_rirr, mw_s_rrii, mw_s_rrir, mw_s_rrri, mw_s_rrrr, mm_sto1, mm_clr, mm_isL, List.getElem?_cons_zero, List.getElem?_cons_succ, List.set_cons_zero, List.set_cons_succ, Bool.false_eq_true, l0, OA_0 hO1, OA_2 hO1, d0]
        refine MT147 (k := 0) (n := n + 38) (M0 := M) hl1 ha1 hC1 (by decide) (fun M2 hm2 => ?_)
        simp only [u142_39, u142_40, u142_41, u142_42, mw_os, wp_ite, mw_sw, Option.toList_some, Option.toList_none, List.cons_append, List.nil_append, true_and, and_true, if_true, if_false, mw_s_, mw_s_i, mw_s_r, mw_s_ii, mw_s_ir, mw_s_ri, mw_s_rr, mw_s_iii, mw_s_iir, mw_s_iri, mw_s_irr, mw_s_rii, mw_s_rir, mw_s_rri, mw_s_rrr, mw_s_iiii, mw_s_iiir, mw_s_iiri, mw_s_iirr, mw_s_irii, mw_s_irir, mw_s_irri, mw_s_irrr, mw_s_riii, mw_s_riir, mw_s_riri, mw_s_rirr, mw_s_rrii, mw_s_rrir, mw_s_rrri, mw_s_rrrr, mm_sto1, mm_clr, mm_isL, List.getElem?_cons_zero, List.getElem?_cons_succ, List.set_cons_zero, List.set_cons_succ, Bool.false_eq_true]
        refine M142l (n := n + 29) (G := gZl g (gZ g) 0) hg rfl (gZn g + 1) 0 (gN g) 0 M2 (by omega) (by omega) ho hg.1 hm2 (fun M3 hm3 hh3 => ?_)
        rw [← hD] at hm3 ⊢
        rw [hq1]
        intro q
        obtain ⟨o3, hO3, _⟩ := MT_o hm3
        obtain ⟨r3, hR3, hA3⟩ := hm3.2.2.2
        obtain ⟨r4, hR4, hA4⟩ := hm3.2.2.1.2.1
        have d3 : mm_lda M3 132 0 = some (.ref 133) := DPk (k := 0) hm3.2.2.1 (by decide)
        simp only [u142_95, u142_96, u142_99, u142_100, u142_101, u142_102, u142_105, u142_108, u142_109, mw_os, wp_ite, mw_sw, Option.toList_some, Option.toList_none, List.cons_append, List.nil_append, true_and, and_true, if_true, if_false, mw_s_, mw_s_i, mw_s_r, mw_s_ii, mw_s_ir, mw_s_ri, mw_s_rr, mw_s_iii, mw_s_iir, mw_s_iri, mw_s_irr, mw_s_rii, mw_s_rir, mw_s_rri, mw_s_rrr, mw_s_iiii, mw_s_iiir, mw_s_iiri, mw_s_iirr, mw_s_irii, mw_s_irir, mw_s_irri, mw_s_irrr, mw_s_riii, mw_s_riir, mw_s_riri, mw_s_rirr, mw_s_rrii, mw_s_rrir, mw_s_rrri, mw_s_rrrr, mm_sto1, mm_clr, mm_isL, List.getElem?_cons_zero, List.getElem?_cons_succ, List.set_cons_zero, List.set_cons_succ, Bool.false_eq_true, OA_0 hO3, OA_2 hO3, d3, W147 (show (133 : Nat) ≠ 130 by decide) hA3 hA4 (rowL_len hR3.1) (rowL_len hR4.1)]
        exact hQ _ (sr_len.trans hm3.1) (Ag_tr hm3.2.1 (Ag_sr (by omega))) (MS_now hm3.2.2.1 hR3)
  · have l0 : (fltV g < 0) ↔ False := iff_false_intro (Int32.not_lt.mpr hf)
    refine ⟨.int (-1000 - fltV g), gZl g (gZ g) 0, hG0 g hg, fun n M Q hC hQ => ?_, fun n M Q hC hQ => ?_⟩
    · simp only [u85_0, u85_1, u85_4, e85, mw_os, wp_ite, mw_sw, Option.toList_some, Option.toList_none, List.cons_append, List.nil_append, true_and, and_true, if_true, if_false, mw_s_, mw_s_i, mw_s_r, mw_s_ii, mw_s_ir, mw_s_ri, mw_s_rr, mw_s_iii, mw_s_iir, mw_s_iri, mw_s_irr, mw_s_rii, mw_s_rir, mw_s_rri, mw_s_rrr, mw_s_iiii, mw_s_iiir, mw_s_iiri, mw_s_iirr, mw_s_irii, mw_s_irir, mw_s_irri, mw_s_irrr, mw_s_riii, mw_s_riir, mw_s_riri, mw_s_rirr, mw_s_rrii, mw_s_rrir, mw_s_rrri, mw_s_rrrr, mm_sto1, mm_clr, mm_isL, List.getElem?_cons_zero, List.getElem?_cons_succ, List.set_cons_zero, List.set_cons_succ, Bool.false_eq_true, CS_4 hC, CZ_x hC]
      refine C45 (n := n + 31) hC hg ?_
      simp only [u85_7, u85_8, u85_9, u85_12, u85_15, u85_16, u85_17, u85_24, u85_25, u85_26, u85_29, e52, u52_0, u52_0b, u52_1, u52_2, u52_5, mw_os, wp_ite, mw_sw, Option.toList_some, Option.toList_none, List.cons_append, List.nil_append, true_and, and_true, if_true, if_false, mw_s_, mw_s_i, mw_s_r, mw_s_ii, mw_s_ir, mw_s_ri, mw_s_rr, mw_s_iii, mw_s_iir, mw_s_iri, mw_s_irr, mw_s_rii, mw_s_rir, mw_s_rri, mw_s_rrr, mw_s_iiii, mw_s_iiir, mw_s_iiri, mw_s_iirr, mw_s_irii, mw_s_irir, mw_s_irri, mw_s_irrr, mw_s_riii, mw_s_riir, mw_s_riri, mw_s_rirr, mw_s_rrii, mw_s_rrir, mw_s_rrri, mw_s_rrrr, mm_sto1, mm_clr, mm_isL, List.getElem?_cons_zero, List.getElem?_cons_succ, List.set_cons_zero, List.set_cons_succ, Bool.false_eq_true, l0, CS_4 hC, CZ_x hC, pf M hC, u85_32, u85_33]
      exact CPf hC hg rfl Ag_rf hQ
    · obtain ⟨o, r, hO, h1, hR, hA⟩ := MSu hC
      have e8 : o.1.2.2 = nI (gZn g) := by rw [h1]
      have hC1 := MS_ltd (ts := gZ g) (c := 0) (o2 := o.2) hC hO h1
      rw [sr_self (MZ hC)] at hC1
      have hO1 : OA (so M ((o.1.1, o.1.2.1, nI 0), o.2)) ((o.1.1, o.1.2.1, nI 0), o.2) := so_OA hO
      have hZ1 : RA (so M ((o.1.1, o.1.2.1, nI 0), o.2)) 141 (gZ g) := RA_so (MZ hC) (by decide)
      have p8 : mm_put mc_fty M (.ref 129) (.int 0) 6 8 = some (so M ((o.1.1, o.1.2.1, nI 0), o.2)) := OA_pu8 hO
      have hl1 : (so M ((o.1.1, o.1.2.1, nI 0), o.2)).length = M.length := so_len
      have ha1 : Ag M (so M ((o.1.1, o.1.2.1, nI 0), o.2)) 0 129 := Ag_so
      generalize so M ((o.1.1, o.1.2.1, nI 0), o.2) = M1 at hC1 hO1 hZ1 p8 hl1 ha1
      simp only [u142_0, u142_1, u142_4, u142_5, u142_6, u142_7, u142_10, u142_11, u142_12, e142, mw_os, wp_ite, mw_sw, Option.toList_some, Option.toList_none, List.cons_append, List.nil_append, true_and, and_true, if_true, if_false, mw_s_, mw_s_i, mw_s_r, mw_s_ii, mw_s_ir, mw_s_ri, mw_s_rr, mw_s_iii, mw_s_iir, mw_s_iri, mw_s_irr, mw_s_rii, mw_s_rir, mw_s_rri, mw_s_rrr, mw_s_iiii, mw_s_iiir, mw_s_iiri, mw_s_iirr, mw_s_irii, mw_s_irir, mw_s_irri, mw_s_irrr, mw_s_riii, mw_s_riir, mw_s_riri, mw_s_rirr, mw_s_rrii, mw_s_rrir, mw_s_rrri, mw_s_rrrr, mm_sto1, mm_clr, mm_isL, List.getElem?_cons_zero, List.getElem?_cons_succ, List.set_cons_zero, List.set_cons_succ, Bool.false_eq_true, OA_8 hO, e8, p8, OA_x hO1]
      refine M143 (n := n + 30) hg hO1 hZ1 ?_
      simp only [u142_15, u142_16, u142_17, u142_20, u142_23, u142_24, u142_25, mw_os, wp_ite, mw_sw, Option.toList_some, Option.toList_none, List.cons_append, List.nil_append, true_and, and_true, if_true, if_false, mw_s_, mw_s_i, mw_s_r, mw_s_ii, mw_s_ir, mw_s_ri, mw_s_rr, mw_s_iii, mw_s_iir, mw_s_iri, mw_s_irr, mw_s_rii, mw_s_rir, mw_s_rri, mw_s_rrr, mw_s_iiii, mw_s_iiir, mw_s_iiri, mw_s_iirr, mw_s_irii, mw_s_irir, mw_s_irri, mw_s_irrr, mw_s_riii, mw_s_riir, mw_s_riri, mw_s_rirr, mw_s_rrii, mw_s_rrir, mw_s_rrri, mw_s_rrrr, mm_sto1, mm_clr, mm_isL, List.getElem?_cons_zero, List.getElem?_cons_succ, List.set_cons_zero, List.set_cons_succ, Bool.false_eq_true, l0]
      exact hQ M1 hl1 ha1 hC1
end MP
