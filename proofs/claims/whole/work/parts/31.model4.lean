/-! the reference's row: copied, kept ahead, opened -/
theorem fs_off {α : Type} (o : Nat) (f : Nat → α) : ∀ (k : Nat) (xs : List α) (j : Nat), ((List.range' 0 k).foldl (fun s i => s.set (o + i) (f i)) xs)[j]? = if o ≤ j ∧ j < o + k ∧ j < xs.length then some (f (j - o)) else xs[j]? := by
  intro k
  induction k with
  | zero => intro xs j; simp only [List.range'_zero, List.foldl_nil]; rw [if_neg (by omega)]
  | succ k ih =>
    intro xs j
    rw [List.range'_concat, List.foldl_append, List.foldl_cons, List.foldl_nil, Nat.zero_add, Nat.one_mul, List.getElem?_set]
    have hl : ((List.range' 0 k).foldl (fun s i => s.set (o + i) (f i)) xs).length = xs.length := by
      have : ∀ (l : List Nat) (t : List α), (l.foldl (fun s i => s.set (o + i) (f i)) t).length = t.length := by
        intro l
        induction l with
        | nil => intro t; rfl
        | cons x l ih => intro t; rw [List.foldl_cons, ih, List.length_set]
      exact this _ _
    rw [hl, ih]
    by_cases hj : o + k = j
    · rw [if_pos hj]
      by_cases hx : j < xs.length
      · rw [if_pos (by omega), if_pos (by omega)]
        congr 2
        omega
      · rw [if_neg (by omega), if_neg (by omega), List.getElem?_eq_none (by omega)]
    · rw [if_neg hj]
      by_cases hx : o ≤ j ∧ j < o + k ∧ j < xs.length
      · rw [if_pos hx, if_pos (by omega)]
      · rw [if_neg hx, if_neg (by omega)]
theorem fs_all {α : Type} {N : Nat} {xs : List α} (h : xs.length = N) (f : Nat → α) : (List.range' 0 N).foldl (fun s i => s.set i (f i)) xs = (List.range N).map f := by
  have e : (fun (s : List α) i => s.set i (f i)) = fun s i => s.set (0 + i) (f i) := by funext s i; rw [Nat.zero_add]
  rw [e]
  apply List.ext_getElem?
  intro j
  rw [fs_off]
  by_cases hj : j < N
  · rw [if_pos (by omega), List.getElem?_map, List.getElem?_range hj]
    simp
  · rw [if_neg (by omega), List.getElem?_eq_none (by omega), List.getElem?_eq_none (by simp; omega)]
theorem map_gi {N : Nat} {l : List Int32} (h : l.length = N) (hN : N < 2 ^ 31) : (List.range N).map (fun i => gi l (nI i)) = l := by
  apply List.ext_getElem?
  intro j
  by_cases hj : j < N
  · rw [List.getElem?_map, List.getElem?_range hj, Option.map_some, gi_n (by omega), List.getD_eq_getElem?_getD, List.getElem?_eq_getElem (by omega)]
    rfl
  · rw [List.getElem?_eq_none (by simp; omega), List.getElem?_eq_none (by omega)]
section MR3
variable {scr : List Int32} {n : Nat} {M : mm_M} {Q : Option Value → mm_M → Prop} {a b : Nat} {v : RV} {i j d : Nat} {w z : List Int32}
theorem nle32 {i : Nat} (h : i < 32) : ((32 : Int32) ≤ nI i) ↔ False := iff_false_intro (nI_ge h (by decide))
theorem nle32e : ((32 : Int32) ≤ nI 32) ↔ True := iff_true_intro (by decide +kernel)
theorem nle206 {i : Nat} (h : i < 206) : ((206 : Int32) ≤ nI i) ↔ False := iff_false_intro (nI_ge h (by decide))
theorem nle206e : ((206 : Int32) ≤ nI 206) ↔ True := iff_true_intro (by decide +kernel)
theorem gi_atN {xs : List Int32} {i : Nat} (h : i < xs.length) (h2 : i < 2 ^ 31) : mm_at xs (nI i) = some (gi xs (nI i)) := at_ix h2 h h2 rfl
theorem W147 (hab : a ≠ b) (ha : RA M a w) (hb : RA M b z) (hw : w.length = 206) (hz : z.length = 206) : Wp scr (n + 1) 147 [.ref a, .ref b] M Q ↔ Q none (sr M b w) := by
  have hbl := RA_lt hb
  have key := nf_loopI (N := 206) (Φ := fun i (s : List Int32) => wp scr n mb_147 2 [some (.ref a), some (.ref b), some (.int (nI i))] [] (sr M b s) Q) (Ψ := fun s => Q none (sr M b s)) (step := fun s i => s.set i (gi w (nI i))) (I := fun _ s => s.length = 206)
    (fun i s _ hs => by rw [List.length_set]; exact hs)
    (fun i s hi hs => u147_2.trans (by
      simp only [e147, u147_0, u147_1, u147_3, u147_6, u147_9, u147_10, u147_11, u147_12, u147_13, u147_14, u147_15, u147_18, u147_21, mw_os, wp_ite, mw_sw, Option.toList_some, Option.toList_none, List.cons_append, List.nil_append, true_and, and_true, if_true, if_false, mw_s_, mw_s_i, mw_s_r, mw_s_ii, mw_s_ir, mw_s_ri, mw_s_rr, mw_s_iii, mw_s_iir, mw_s_iri, mw_s_irr, mw_s_rii, mw_s_rir, mw_s_rri, mw_s_rrr, mw_s_iiii, mw_s_iiir, mw_s_iiri, mw_s_iirr, mw_s_irii, mw_s_irir, mw_s_irri, mw_s_irrr, mw_s_riii, mw_s_riir, mw_s_riri, mw_s_rirr, mw_s_rrii, mw_s_rrir, mw_s_rrri, mw_s_rrrr, mm_sto1, mm_clr, mm_isL, List.getElem?_cons_zero, List.getElem?_cons_succ, List.set_cons_zero, List.set_cons_succ, Bool.false_eq_true, RA_ld (sr_other ha hab.symm), gi_atN (xs := w) (show i < w.length by omega) (by omega), RA_st (sr_RA hbl) (show i < s.length by omega) (by omega), sr_sr, nle206 hi, nI_1]))
    (fun s hs => u147_2.trans (by simp only [e147, u147_0, u147_1, u147_3, u147_6, u147_9, u147_10, u147_11, u147_12, u147_13, u147_14, u147_15, u147_18, u147_21, mw_os, wp_ite, mw_sw, Option.toList_some, Option.toList_none, List.cons_append, List.nil_append, true_and, and_true, if_true, if_false, mw_s_, mw_s_i, mw_s_r, mw_s_ii, mw_s_ir, mw_s_ri, mw_s_rr, mw_s_iii, mw_s_iir, mw_s_iri, mw_s_irr, mw_s_rii, mw_s_rir, mw_s_rri, mw_s_rrr, mw_s_iiii, mw_s_iiir, mw_s_iiri, mw_s_iirr, mw_s_irii, mw_s_irir, mw_s_irri, mw_s_irrr, mw_s_riii, mw_s_riir, mw_s_riri, mw_s_rirr, mw_s_rrii, mw_s_rrir, mw_s_rrri, mw_s_rrrr, nle206e])) 206 0 z rfl hz
  have k1 := key.1
  rw [fs_all hz, map_gi hw (by decide)] at k1
  rw [← k1, sr_self hb]
  simp only [e147, u147_0, u147_1, mw_os, wp_ite, mw_sw, Option.toList_some, Option.toList_none, List.cons_append, List.nil_append, true_and, and_true, if_true, if_false, mw_s_, mw_s_i, mw_s_r, mw_s_ii, mw_s_ir, mw_s_ri, mw_s_rr, mw_s_iii, mw_s_iir, mw_s_iri, mw_s_irr, mw_s_rii, mw_s_rir, mw_s_rri, mw_s_rrr, mw_s_iiii, mw_s_iiir, mw_s_iiri, mw_s_iirr, mw_s_irii, mw_s_irir, mw_s_irri, mw_s_irrr, mw_s_riii, mw_s_riir, mw_s_riri, mw_s_rirr, mw_s_rrii, mw_s_rrir, mw_s_rrri, mw_s_rrrr, mm_sto1, mm_clr, mm_isL, List.getElem?_cons_zero, List.getElem?_cons_succ, List.set_cons_zero, List.set_cons_succ, Bool.false_eq_true]
  exact Iff.rfl
/-- what lay ahead is kept -/
def kaA (A P : List Int32) (d : Nat) (se : Int32) : List Int32 := ((List.range' 0 32).foldl (fun s k => s.set (33 * d + k) (gi P (nI k))) A).set (33 * d + 32) se
theorem ka_len {l : List Nat} {f : Nat → Int32} {o : Nat} : ∀ {t : List Int32}, (l.foldl (fun s i => s.set (o + i) (f i)) t).length = t.length := by
  induction l with
  | nil => intro t; rfl
  | cons x l ih => intro t; rw [List.foldl_cons, ih, List.length_set]
theorem kaA_len {A P : List Int32} {se : Int32} : (kaA A P d se).length = A.length := by
  unfold kaA
  rw [List.length_set]
  exact ka_len
theorem ROK_yA {x : List Int32} (hv : ROK v) (hx : x.length = 132) : ROK (yA v x) := ⟨hv.1, hv.2.1, hv.2.2.1, hv.2.2.2.1, hv.2.2.2.2.1, hx⟩
theorem ROK_yP {x : List Int32} (hv : ROK v) (hx : x.length = 32) : ROK (yP v x) := ⟨hv.1, hv.2.1, hv.2.2.1, hv.2.2.2.1, hx, hv.2.2.2.2.2⟩
theorem ROK_yS {x : List Int32} (hv : ROK v) (hx : x.length = 10) : ROK (yS v x) := ⟨hv.1, hv.2.1, hv.2.2.1, hx, hv.2.2.2.2.1, hv.2.2.2.2.2⟩
theorem ROK_yO {x : List Int32} (hv : ROK v) (hx : x.length = 10) : ROK (yO v x) := ⟨hv.1, hv.2.1, hx, hv.2.2.2.1, hv.2.2.2.2.1, hv.2.2.2.2.2⟩
theorem ROK_yN {x : Int32} (hv : ROK v) : ROK (yN v x) := ⟨hv.1, hv.2.1, hv.2.2.1, hv.2.2.2.1, hv.2.2.2.2.1, hv.2.2.2.2.2⟩
theorem c74 (d k : Nat) : (74 : Int32) + 33 * nI d + nI k = nI (74 + (33 * d + k)) := by
  rw [show (33 : Int32) * nI d = nI (33 * d) from pk_mul 33 d, show (74 : Int32) + nI (33 * d) = nI (74 + 33 * d) from nI_add 74 _, nI_add, Nat.add_assoc]
theorem RA_73 (h : RA M a (rowL v)) (hv : ROK v) {x : Int32} : mm_sti M (.ref a) 73 x = some (sr M a (rowL (yN v x))) := by
  rw [← st_N hv]
  exact RA_st (k := 73) h (by rw [rowL_len hv]; decide) (by decide)
theorem W160 {se : Int32} (hal : a < M.length) (hv : ROK v) (hd : rN v = nI d) (hd4 : d < 4) : Wp scr (n + 1) 160 [.ref a, .int se] (sr M a (rowL v)) Q ↔ Q none (sr M a (rowL (yN (yA v (kaA (rA v) (rP v) d se)) (nI (d + 1))))) := by
  have hR : ∀ w, RA (sr M a w) a w := fun w => sr_RA hal
  have sto : ∀ (A : List Int32) (k : Nat) (x : Int32), A.length = 132 → k < 33 → mm_sti (sr M a (rowL (yA v A))) (.ref a) (nI (74 + (33 * d + k))) x = some (sr M a (rowL (yA v (A.set (33 * d + k) x)))) := fun A k x hA hk => by
    rw [RA_st (hR _) (by rw [rowL_len (ROK_yA hv hA)]; omega) (by omega), sr_sr, st_A (ROK_yA hv hA)]
    rfl
  have key := nf_loopI (N := 32) (Φ := fun k (A : List Int32) => wp scr n mb_160 13 [some (.ref a), some (.int se), some (.int (74 + 33 * nI d)), some (.int (nI k))] [] (sr M a (rowL (yA v A))) Q) (Ψ := fun A => Q none (sr M a (rowL (yN (yA v (A.set (33 * d + 32) se)) (nI (d + 1)))))) (step := fun A k => A.set (33 * d + k) (gi (rP v) (nI k))) (I := fun _ A => A.length = 132)
    (fun i s _ hs => by rw [List.length_set]; exact hs)
    (fun k A hk hA => u160_13.trans (by
      have rdp : mm_at (rowL (yA v A)) (nI (40 + k)) = some (gi (rP v) (nI k)) := rd_P (ROK_yA hv hA) hk
      simp only [e160, u160_0, u160_2, u160_4, u160_5, u160_7, u160_8, u160_9, u160_10, u160_11, u160_12, u160_14, u160_16, u160_19, u160_20, u160_21, u160_22, u160_23, u160_24, u160_26, u160_27, u160_28, u160_29, u160_30, u160_33, u160_36, u160_37, u160_38, u160_40, u160_41, u160_42, u160_43, u160_44, u160_46, u160_47, u160_48, u160_49, u160_50, u160_51, mw_os, wp_ite, mw_sw, Option.toList_some, Option.toList_none, List.cons_append, List.nil_append, true_and, and_true, if_true, if_false, mw_s_, mw_s_i, mw_s_r, mw_s_ii, mw_s_ir, mw_s_ri, mw_s_rr, mw_s_iii, mw_s_iir, mw_s_iri, mw_s_irr, mw_s_rii, mw_s_rir, mw_s_rri, mw_s_rrr, mw_s_iiii, mw_s_iiir, mw_s_iiri, mw_s_iirr, mw_s_irii, mw_s_irir, mw_s_irri, mw_s_irrr, mw_s_riii, mw_s_riir, mw_s_riri, mw_s_rirr, mw_s_rrii, mw_s_rrir, mw_s_rrri, mw_s_rrrr, mm_sto1, mm_clr, mm_isL, List.getElem?_cons_zero, List.getElem?_cons_succ, List.set_cons_zero, List.set_cons_succ, Bool.false_eq_true, RA_ld (hR _), c40, c74, rdp, sto A k _ hA (show k < 33 by omega), nle32 hk, nI_1]))
    (fun A hA => u160_13.trans (by
      have hA2 : (A.set (33 * d + 32) se).length = 132 := by rw [List.length_set]; exact hA
      have c32 : (74 : Int32) + 33 * nI d + 32 = nI (74 + (33 * d + 32)) := c74 d 32
      have rdn : mm_at (rowL (yA v (A.set (33 * d + 32) se))) 73 = some (nI d) := (rd_N (ROK_yA hv hA2)).trans (congrArg some hd)
      simp only [e160, u160_0, u160_2, u160_4, u160_5, u160_7, u160_8, u160_9, u160_10, u160_11, u160_12, u160_14, u160_16, u160_19, u160_20, u160_21, u160_22, u160_23, u160_24, u160_26, u160_27, u160_28, u160_29, u160_30, u160_33, u160_36, u160_37, u160_38, u160_40, u160_41, u160_42, u160_43, u160_44, u160_46, u160_47, u160_48, u160_49, u160_50, u160_51, mw_os, wp_ite, mw_sw, Option.toList_some, Option.toList_none, List.cons_append, List.nil_append, true_and, and_true, if_true, if_false, mw_s_, mw_s_i, mw_s_r, mw_s_ii, mw_s_ir, mw_s_ri, mw_s_rr, mw_s_iii, mw_s_iir, mw_s_iri, mw_s_irr, mw_s_rii, mw_s_rir, mw_s_rri, mw_s_rrr, mw_s_iiii, mw_s_iiir, mw_s_iiri, mw_s_iirr, mw_s_irii, mw_s_irir, mw_s_irri, mw_s_irrr, mw_s_riii, mw_s_riir, mw_s_riri, mw_s_rirr, mw_s_rrii, mw_s_rrir, mw_s_rrri, mw_s_rrrr, mm_sto1, mm_clr, mm_isL, List.getElem?_cons_zero, List.getElem?_cons_succ, List.set_cons_zero, List.set_cons_succ, Bool.false_eq_true, RA_ld (hR _), c32, sto A 32 _ hA (by decide), rdn, RA_73 (hR _) (ROK_yA hv hA2), sr_sr, nle32e, nI_1])) 32 0 (rA v) rfl hv.2.2.2.2.2
  have k1 := key.1
  unfold kaA
  rw [← k1]
  simp only [e160, u160_0, u160_2, u160_4, u160_5, u160_7, u160_8, u160_9, u160_10, u160_11, u160_12, mw_os, wp_ite, mw_sw, Option.toList_some, Option.toList_none, List.cons_append, List.nil_append, true_and, and_true, if_true, if_false, mw_s_, mw_s_i, mw_s_r, mw_s_ii, mw_s_ir, mw_s_ri, mw_s_rr, mw_s_iii, mw_s_iir, mw_s_iri, mw_s_irr, mw_s_rii, mw_s_rir, mw_s_rri, mw_s_rrr, mw_s_iiii, mw_s_iiir, mw_s_iiri, mw_s_iirr, mw_s_irii, mw_s_irir, mw_s_irri, mw_s_irrr, mw_s_riii, mw_s_riir, mw_s_riri, mw_s_rirr, mw_s_rrii, mw_s_rrir, mw_s_rrri, mw_s_rrrr, mm_sto1, mm_clr, mm_isL, List.getElem?_cons_zero, List.getElem?_cons_succ, List.set_cons_zero, List.set_cons_succ, Bool.false_eq_true, RA_ld (hR _), rd_N hv, hd]
  exact Iff.rfl
/-- opened -/
def opP (A : List Int32) (d : Nat) : List Int32 := (List.range 32).map (fun k => gi A (nI (33 * d + k)))
def opS (S : List Int32) (se : Int32) : List Int32 := (List.range 10).map (fun i => if (se >>> (nI i &&& 31)) &&& 1 = 1 then 0 else gi S (nI i))
theorem W164 (hal : a < M.length) (hv : ROK v) (hd : rN v = nI (d + 1)) (hd4 : d < 4) : Wp scr (n + 1) 164 [.ref a] (sr M a (rowL v)) Q ↔ Q none (sr M a (rowL (yS (yP (yN v (nI d)) (opP (rA v) d)) (opS (rS v) (gi (rA v) (nI (33 * d + 32))))))) := by
  have hR : ∀ w, RA (sr M a w) a w := fun w => sr_RA hal
  have stp : ∀ (u : RV) (k : Nat) (x : Int32), ROK u → k < 32 → mm_sti (sr M a (rowL u)) (.ref a) (nI (40 + k)) x = some (sr M a (rowL (yP u ((rP u).set k x)))) := fun u k x hu hk => by
    rw [RA_st (hR _) (by rw [rowL_len hu]; omega) (by omega), sr_sr, st_P hu hk]
  have sts : ∀ (u : RV) (k : Nat) (x : Int32), ROK u → k < 10 → mm_sti (sr M a (rowL u)) (.ref a) (nI (30 + k)) x = some (sr M a (rowL (yS u ((rS u).set k x)))) := fun u k x hu hk => by
    rw [RA_st (hR _) (by rw [rowL_len hu]; omega) (by omega), sr_sr, st_S hu hk]
  have key1 := nf_loopI (N := 32) (Φ := fun k (P : List Int32) => wp scr n mb_164 21 [some (.ref a), some (.int (74 + 33 * nI d)), some (.int (nI k))] [] (sr M a (rowL (yP (yN v (nI d)) P))) Q) (Ψ := fun P => wp scr n mb_164 46 [some (.ref a), some (.int (74 + 33 * nI d)), some (.int (nI 0))] [] (sr M a (rowL (yP (yN v (nI d)) P))) Q) (step := fun P k => P.set k (gi (rA v) (nI (33 * d + k)))) (I := fun _ P => P.length = 32)
    (fun i s _ hs => by rw [List.length_set]; exact hs)
    (fun k P hk hP => u164_21.trans (by
      have hu : ROK (yP (yN v (nI d)) P) := ROK_yP (ROK_yN hv) hP
      have rda : mm_at (rowL (yP (yN v (nI d)) P)) (nI (74 + (33 * d + k))) = some (gi (rA v) (nI (33 * d + k))) := rd_A hu (by omega)
      simp only [e164, u164_0, u164_1, u164_3, u164_4, u164_5, u164_6, u164_7, u164_8, u164_10, u164_12, u164_13, u164_15, u164_16, u164_17, u164_18, u164_19, u164_20, u164_22, u164_24, u164_27, u164_28, u164_30, u164_31, u164_32, u164_33, u164_34, u164_35, u164_36, u164_37, u164_38, u164_41, u164_44, u164_45, u164_47, u164_49, u164_52, u164_53, u164_55, u164_56, u164_57, u164_58, u164_59, u164_61, u164_62, u164_63, u164_64, u164_65, u164_66, u164_67, u164_68, u164_71, u164_72, u164_75, u164_76, u164_78, u164_79, u164_80, u164_81, u164_82, u164_85, u164_88, mw_os, wp_ite, mw_sw, Option.toList_some, Option.toList_none, List.cons_append, List.nil_append, true_and, and_true, if_true, if_false, mw_s_, mw_s_i, mw_s_r, mw_s_ii, mw_s_ir, mw_s_ri, mw_s_rr, mw_s_iii, mw_s_iir, mw_s_iri, mw_s_irr, mw_s_rii, mw_s_rir, mw_s_rri, mw_s_rrr, mw_s_iiii, mw_s_iiir, mw_s_iiri, mw_s_iirr, mw_s_irii, mw_s_irir, mw_s_irri, mw_s_irrr, mw_s_riii, mw_s_riir, mw_s_riri, mw_s_rirr, mw_s_rrii, mw_s_rrir, mw_s_rrri, mw_s_rrrr, mm_sto1, mm_clr, mm_isL, List.getElem?_cons_zero, List.getElem?_cons_succ, List.set_cons_zero, List.set_cons_succ, Bool.false_eq_true, RA_ld (hR _), c40, c74, rda, stp _ k _ hu hk, nle32 hk, nI_1]
      exact Iff.rfl))
    (fun P hP => u164_21.trans (by simp only [u164_22, u164_24, u164_44, u164_45, mw_os, wp_ite, mw_sw, Option.toList_some, Option.toList_none, List.cons_append, List.nil_append, true_and, and_true, if_true, if_false, mw_s_, mw_s_i, mw_s_r, mw_s_ii, mw_s_ir, mw_s_ri, mw_s_rr, mw_s_iii, mw_s_iir, mw_s_iri, mw_s_irr, mw_s_rii, mw_s_rir, mw_s_rri, mw_s_rrr, mw_s_iiii, mw_s_iiir, mw_s_iiri, mw_s_iirr, mw_s_irii, mw_s_irir, mw_s_irri, mw_s_irrr, mw_s_riii, mw_s_riir, mw_s_riri, mw_s_rirr, mw_s_rrii, mw_s_rrir, mw_s_rrri, mw_s_rrrr, mm_sto1, mm_clr, mm_isL, List.getElem?_cons_zero, List.getElem?_cons_succ, List.set_cons_zero, List.set_cons_succ, Bool.false_eq_true, nle32e]; exact Iff.rfl)) 32 0 (rP v) rfl hv.2.2.2.2.1
  have k1 := key1.1
  rw [fs_all hv.2.2.2.2.1] at k1
  have hP1 : ((List.range 32).map (fun k => gi (rA v) (nI (33 * d + k)))).length = 32 := by simp
  have hu1 : ROK (yP (yN v (nI d)) ((List.range 32).map (fun k => gi (rA v) (nI (33 * d + k))))) := ROK_yP (ROK_yN hv) hP1
  have key2 := nf_loopI (N := 10) (Φ := fun k (S : List Int32) => wp scr n mb_164 46 [some (.ref a), some (.int (74 + 33 * nI d)), some (.int (nI k))] [] (sr M a (rowL (yS (yP (yN v (nI d)) (opP (rA v) d)) S))) Q) (Ψ := fun S => Q none (sr M a (rowL (yS (yP (yN v (nI d)) (opP (rA v) d)) S)))) (step := fun S k => S.set k (if (gi (rA v) (nI (33 * d + 32)) >>> (nI k &&& 31)) &&& 1 = 1 then 0 else gi (rS v) (nI k))) (I := fun k S => S.length = 10 ∧ ∀ j, k ≤ j → j < 10 → gi S (nI j) = gi (rS v) (nI j))
    (fun k S hk hs => ⟨by rw [List.length_set]; exact hs.1, fun j h1 h2 => by
      rw [gi_n (by omega), List.getD_eq_getElem?_getD, List.getElem?_set_ne (by omega), ← List.getD_eq_getElem?_getD, ← gi_n (by omega)]
      exact hs.2 j (by omega) h2⟩)
    (fun k S hk hs => u164_46.trans (by
      have hu : ROK (yS (yP (yN v (nI d)) (opP (rA v) d)) S) := ROK_yS hu1 hs.1
      have c32 : (74 : Int32) + 33 * nI d + 32 = nI (74 + (33 * d + 32)) := c74 d 32
      have rda : mm_at (rowL (yS (yP (yN v (nI d)) (opP (rA v) d)) S)) (nI (74 + (33 * d + 32))) = some (gi (rA v) (nI (33 * d + 32))) := rd_A hu (by omega)
      have rds : mm_at (rowL (yS (yP (yN v (nI d)) (opP (rA v) d)) S)) (nI (30 + k)) = some (gi (rS v) (nI k)) := (rd_S hu hk).trans (congrArg some (hs.2 k (Nat.le_refl _) hk))
      by_cases q : (gi (rA v) (nI (33 * d + 32)) >>> (nI k &&& 31)) &&& 1 = 1
      · simp only [e164, u164_0, u164_1, u164_3, u164_4, u164_5, u164_6, u164_7, u164_8, u164_10, u164_12, u164_13, u164_15, u164_16, u164_17, u164_18, u164_19, u164_20, u164_22, u164_24, u164_27, u164_28, u164_30, u164_31, u164_32, u164_33, u164_34, u164_35, u164_36, u164_37, u164_38, u164_41, u164_44, u164_45, u164_47, u164_49, u164_52, u164_53, u164_55, u164_56, u164_57, u164_58, u164_59, u164_61, u164_62, u164_63, u164_64, u164_65, u164_66, u164_67, u164_68, u164_71, u164_72, u164_75, u164_76, u164_78, u164_79, u164_80, u164_81, u164_82, u164_85, u164_88, mw_os, wp_ite, mw_sw, Option.toList_some, Option.toList_none, List.cons_append, List.nil_append, true_and, and_true, if_true, if_false, mw_s_, mw_s_i, mw_s_r, mw_s_ii, mw_s_ir, mw_s_ri, mw_s_rr, mw_s_iii, mw_s_iir, mw_s_iri, mw_s_irr, mw_s_rii, mw_s_rir, mw_s_rri, mw_s_rrr, mw_s_iiii, mw_s_iiir, mw_s_iiri, mw_s_iirr, mw_s_irii, mw_s_irir, mw_s_irri, mw_s_irrr, mw_s_riii, mw_s_riir, mw_s_riri, mw_s_rirr, mw_s_rrii, mw_s_rrir, mw_s_rrri, mw_s_rrrr, mm_sto1, mm_clr, mm_isL, List.getElem?_cons_zero, List.getElem?_cons_succ, List.set_cons_zero, List.set_cons_succ, Bool.false_eq_true, RA_ld (hR _), c30, c32, rda, rds, sts _ k _ hu hk, nle10 hk, nI_1, q, not_true]
        exact Iff.rfl
      · simp only [e164, u164_0, u164_1, u164_3, u164_4, u164_5, u164_6, u164_7, u164_8, u164_10, u164_12, u164_13, u164_15, u164_16, u164_17, u164_18, u164_19, u164_20, u164_22, u164_24, u164_27, u164_28, u164_30, u164_31, u164_32, u164_33, u164_34, u164_35, u164_36, u164_37, u164_38, u164_41, u164_44, u164_45, u164_47, u164_49, u164_52, u164_53, u164_55, u164_56, u164_57, u164_58, u164_59, u164_61, u164_62, u164_63, u164_64, u164_65, u164_66, u164_67, u164_68, u164_71, u164_72, u164_75, u164_76, u164_78, u164_79, u164_80, u164_81, u164_82, u164_85, u164_88, mw_os, wp_ite, mw_sw, Option.toList_some, Option.toList_none, List.cons_append, List.nil_append, true_and, and_true, if_true, if_false, mw_s_, mw_s_i, mw_s_r, mw_s_ii, mw_s_ir, mw_s_ri, mw_s_rr, mw_s_iii, mw_s_iir, mw_s_iri, mw_s_irr, mw_s_rii, mw_s_rir, mw_s_rri, mw_s_rrr, mw_s_iiii, mw_s_iiir, mw_s_iiri, mw_s_iirr, mw_s_irii, mw_s_irir, mw_s_irri, mw_s_irrr, mw_s_riii, mw_s_riir, mw_s_riri, mw_s_rirr, mw_s_rrii, mw_s_rrir, mw_s_rrri, mw_s_rrrr, mm_sto1, mm_clr, mm_isL, List.getElem?_cons_zero, List.getElem?_cons_succ, List.set_cons_zero, List.set_cons_succ, Bool.false_eq_true, RA_ld (hR _), c30, c32, rda, rds, sts _ k _ hu hk, nle10 hk, nI_1, q, not_false_eq_true]
        exact Iff.rfl))
    (fun S hs => u164_46.trans (by simp only [u164_47, u164_49, u164_88, mw_os, wp_ite, mw_sw, Option.toList_some, Option.toList_none, List.cons_append, List.nil_append, true_and, and_true, if_true, if_false, mw_s_, mw_s_i, mw_s_r, mw_s_ii, mw_s_ir, mw_s_ri, mw_s_rr, mw_s_iii, mw_s_iir, mw_s_iri, mw_s_irr, mw_s_rii, mw_s_rir, mw_s_rri, mw_s_rrr, mw_s_iiii, mw_s_iiir, mw_s_iiri, mw_s_iirr, mw_s_irii, mw_s_irir, mw_s_irri, mw_s_irrr, mw_s_riii, mw_s_riir, mw_s_riri, mw_s_rirr, mw_s_rrii, mw_s_rrir, mw_s_rrri, mw_s_rrrr, nle10e])) 10 0 (rS v) rfl ⟨hv.2.2.2.1, fun _ _ _ => rfl⟩
  have k2 := key2.1
  rw [fs_all hv.2.2.2.1] at k2
  unfold opS
  rw [← k2]
  have k1' : wp scr n mb_164 21 [some (.ref a), some (.int (74 + 33 * nI d)), some (.int (nI 0))] [] (sr M a (rowL (yP (yN v (nI d)) (rP v)))) Q ↔ wp scr n mb_164 46 [some (.ref a), some (.int (74 + 33 * nI d)), some (.int (nI 0))] [] (sr M a (rowL (yS (yP (yN v (nI d)) (opP (rA v) d)) (rS v)))) Q := k1
  rw [← k1']
  have rdn : mm_at (rowL (yN v (nI d))) 73 = some (nI d) := rd_N (ROK_yN hv)
  simp only [e164, u164_0, u164_1, u164_3, u164_4, u164_5, u164_6, u164_7, u164_8, u164_10, u164_12, u164_13, u164_15, u164_16, u164_17, u164_18, u164_19, u164_20, mw_os, wp_ite, mw_sw, Option.toList_some, Option.toList_none, List.cons_append, List.nil_append, true_and, and_true, if_true, if_false, mw_s_, mw_s_i, mw_s_r, mw_s_ii, mw_s_ir, mw_s_ri, mw_s_rr, mw_s_iii, mw_s_iir, mw_s_iri, mw_s_irr, mw_s_rii, mw_s_rir, mw_s_rri, mw_s_rrr, mw_s_iiii, mw_s_iiir, mw_s_iiri, mw_s_iirr, mw_s_irii, mw_s_irir, mw_s_irri, mw_s_irrr, mw_s_riii, mw_s_riir, mw_s_riri, mw_s_rirr, mw_s_rrii, mw_s_rrir, mw_s_rrri, mw_s_rrrr, mm_sto1, mm_clr, mm_isL, List.getElem?_cons_zero, List.getElem?_cons_succ, List.set_cons_zero, List.set_cons_succ, Bool.false_eq_true, RA_ld (hR _), rd_N hv, hd, nI_pred, RA_73 (hR _) hv, sr_sr, rdn]
  exact Iff.rfl
end MR3
