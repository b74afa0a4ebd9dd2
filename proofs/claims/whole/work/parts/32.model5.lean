/-! the reference's object -/
abbrev OV : Type := (Int32 × Int32 × Int32) × (Int32 × Int32 × Int32) × (Int32 × Int32 × Int32 × Int32) × Int32
def oo (o : OV) : mm_C := .inr (.inr (6, [.ref 130, .ref 131, .ref 132, .int o.1.1, .ref 139, .ref 140, .int o.1.2.1, .ref 141, .int o.1.2.2, .ref 142, .retAddr 37, .int o.2.1.1, .int o.2.1.2.1, .int o.2.1.2.2, .int o.2.2.1.1, .int o.2.2.1.2.1, .int o.2.2.1.2.2.1, .int o.2.2.1.2.2.2, .int o.2.2.2]))
def OA (M : mm_M) (o : OV) : Prop := M[129]? = some (oo o)
section OVs
variable {scr : List Int32} {M : mm_M} {o : OV} {a : Nat} {w : List Int32} {x : Int32}
theorem OA_sr (h : OA M o) (ha : a ≠ 129) : OA (sr M a w) o := (sr_ne ha).trans h
theorem OA_0 (h : OA M o) : mm_fld (mc_X scr) M (.ref 129) 6 0 = some (.ref 130) := by have h' : M[129]? = some (oo o) := h; simp only [mm_fld, h', oo]; rfl
theorem OA_1 (h : OA M o) : mm_fld (mc_X scr) M (.ref 129) 6 1 = some (.ref 131) := by have h' : M[129]? = some (oo o) := h; simp only [mm_fld, h', oo]; rfl
theorem OA_2 (h : OA M o) : mm_fld (mc_X scr) M (.ref 129) 6 2 = some (.ref 132) := by have h' : M[129]? = some (oo o) := h; simp only [mm_fld, h', oo]; rfl
theorem OA_3 (h : OA M o) : mm_fld (mc_X scr) M (.ref 129) 6 3 = some (.int o.1.1) := by have h' : M[129]? = some (oo o) := h; simp only [mm_fld, h', oo]; rfl
theorem OA_4 (h : OA M o) : mm_fld (mc_X scr) M (.ref 129) 6 4 = some (.ref 139) := by have h' : M[129]? = some (oo o) := h; simp only [mm_fld, h', oo]; rfl
theorem OA_5 (h : OA M o) : mm_fld (mc_X scr) M (.ref 129) 6 5 = some (.ref 140) := by have h' : M[129]? = some (oo o) := h; simp only [mm_fld, h', oo]; rfl
theorem OA_6 (h : OA M o) : mm_fld (mc_X scr) M (.ref 129) 6 6 = some (.int o.1.2.1) := by have h' : M[129]? = some (oo o) := h; simp only [mm_fld, h', oo]; rfl
theorem OA_7 (h : OA M o) : mm_fld (mc_X scr) M (.ref 129) 6 7 = some (.ref 141) := by have h' : M[129]? = some (oo o) := h; simp only [mm_fld, h', oo]; rfl
theorem OA_8 (h : OA M o) : mm_fld (mc_X scr) M (.ref 129) 6 8 = some (.int o.1.2.2) := by have h' : M[129]? = some (oo o) := h; simp only [mm_fld, h', oo]; rfl
theorem OA_9 (h : OA M o) : mm_fld (mc_X scr) M (.ref 129) 6 9 = some (.ref 142) := by have h' : M[129]? = some (oo o) := h; simp only [mm_fld, h', oo]; rfl
theorem OA_10 (h : OA M o) : mm_fld (mc_X scr) M (.ref 129) 6 10 = some (.retAddr 37) := by have h' : M[129]? = some (oo o) := h; simp only [mm_fld, h', oo]; rfl
theorem OA_11 (h : OA M o) : mm_fld (mc_X scr) M (.ref 129) 6 11 = some (.int o.2.1.1) := by have h' : M[129]? = some (oo o) := h; simp only [mm_fld, h', oo]; rfl
theorem OA_12 (h : OA M o) : mm_fld (mc_X scr) M (.ref 129) 6 12 = some (.int o.2.1.2.1) := by have h' : M[129]? = some (oo o) := h; simp only [mm_fld, h', oo]; rfl
theorem OA_13 (h : OA M o) : mm_fld (mc_X scr) M (.ref 129) 6 13 = some (.int o.2.1.2.2) := by have h' : M[129]? = some (oo o) := h; simp only [mm_fld, h', oo]; rfl
theorem OA_14 (h : OA M o) : mm_fld (mc_X scr) M (.ref 129) 6 14 = some (.int o.2.2.1.1) := by have h' : M[129]? = some (oo o) := h; simp only [mm_fld, h', oo]; rfl
theorem OA_15 (h : OA M o) : mm_fld (mc_X scr) M (.ref 129) 6 15 = some (.int o.2.2.1.2.1) := by have h' : M[129]? = some (oo o) := h; simp only [mm_fld, h', oo]; rfl
theorem OA_16 (h : OA M o) : mm_fld (mc_X scr) M (.ref 129) 6 16 = some (.int o.2.2.1.2.2.1) := by have h' : M[129]? = some (oo o) := h; simp only [mm_fld, h', oo]; rfl
theorem OA_17 (h : OA M o) : mm_fld (mc_X scr) M (.ref 129) 6 17 = some (.int o.2.2.1.2.2.2) := by have h' : M[129]? = some (oo o) := h; simp only [mm_fld, h', oo]; rfl
theorem OA_18 (h : OA M o) : mm_fld (mc_X scr) M (.ref 129) 6 18 = some (.int o.2.2.2) := by have h' : M[129]? = some (oo o) := h; simp only [mm_fld, h', oo]; rfl
theorem OA_x (h : OA M o) : mw_r M 129 6 ↔ True := iff_true_intro ⟨_, h⟩
end OVs
def so (M : mm_M) (o : OV) : mm_M := M.set 129 (oo o)
/-! the panels laid anew -/
def lyG (P0 : List Int32) (j : Nat) (cut : Int32) (q : Bool) (p : Nat) : Bool := (!decide (gi P0 (nI (4 * p + j)) < cut)) == q
def ly1 (P0 : List Int32) (j : Nat) (cut : Int32) (q : Bool) (P : List Int32) (p : Nat) : List Int32 := if lyG P0 j cut q p = true then (P.set (4 * p + j) (2 * cut - 1 - gi P0 (nI (4 * p + j)))).set (4 * p + 3) (1 - gi P0 (nI (4 * p + 3))) else P
def lyB (P0 : List Int32) (j : Nat) (cut : Int32) (q o : Bool) (p k : Nat) : Bool := if lyG P0 j cut q p = lyG P0 j cut q k then lyG P0 j cut q p != (!decide (gi P0 (nI (4 * p + 2)) ≤ gi P0 (nI (4 * k + 2)))) else lyG P0 j cut q p == o
def ly2n (P0 : List Int32) (j : Nat) (cut : Int32) (q o : Bool) (P : List Int32) (p : Nat) (s : Int32) (k : Nat) : Int32 := s + (if k ≠ p ∧ mOC P p k = true ∧ lyB P0 j cut q o p k = true then 1 else 0)
def ly2 (P0 : List Int32) (j : Nat) (cut : Int32) (q o : Bool) (P : List Int32) (p : Nat) : List Int32 := P.set (4 * p + 2) ((List.range' 0 8).foldl (ly2n P0 j cut q o P p) 0)
def ly3 (P : List Int32) (j : Nat) : Int32 := (List.range' 0 8).foldl (fun s p => mn s (gi P (nI (4 * p + j)))) 9
def ly4 (j : Nat) (least : Int32) (P : List Int32) (p : Nat) : List Int32 := P.set (4 * p + j) (gi P (nI (4 * p + j)) - least)
def ly34 (P : List Int32) (j : Nat) : List Int32 := (List.range' 0 8).foldl (ly4 j (ly3 P j)) P
def ly12 (P : List Int32) (j : Nat) (cut : Int32) (q o : Bool) : List Int32 := (List.range' 0 8).foldl (ly2 P j cut q o) ((List.range' 0 8).foldl (ly1 P j cut q) P)
def mLy (P : List Int32) (j : Nat) (cut : Int32) (q o : Bool) : List Int32 := ly34 (ly12 P j cut q o) j
theorem ly1_len {P0 P : List Int32} {j p : Nat} {cut : Int32} {q : Bool} : (ly1 P0 j cut q P p).length = P.length := by unfold ly1; split <;> simp
theorem ly2_len {P0 P : List Int32} {j p : Nat} {cut : Int32} {q o : Bool} : (ly2 P0 j cut q o P p).length = P.length := by unfold ly2; simp
theorem ly4_len {P : List Int32} {j p : Nat} {l : Int32} : (ly4 j l P p).length = P.length := by unfold ly4; simp
theorem fold_len {α : Type} {f : List Int32 → α → List Int32} (h : ∀ P p, (f P p).length = P.length) : ∀ (l : List α) (P : List Int32), (l.foldl f P).length = P.length := by
  intro l
  induction l with
  | nil => intro P; rfl
  | cons x l ih => intro P; rw [List.foldl_cons, ih, h]
theorem mLy_len {P : List Int32} {j : Nat} {cut : Int32} {q o : Bool} : (mLy P j cut q o).length = P.length := by
  unfold mLy ly34 ly12
  rw [fold_len (fun P p => ly4_len), fold_len (fun P p => ly2_len), fold_len (fun P p => ly1_len)]
section LY
variable {scr : List Int32} {n : Nat} {M : mm_M} {Q : Option Value → mm_M → Prop} {a : Nat} {v : RV} {j : Nat} {cut : Int32} {q o : Bool} {ob : OV}
theorem stPP {u : RV} {k : Nat} {x : Int32} (hal : a < M.length) (hu : ROK u) (hk : k < 32) : mm_sti (sr M a (rowL u)) (.ref a) (nI (40 + k)) x = some (sr M a (rowL (yP u ((rP u).set k x)))) := by
  rw [RA_st (sr_RA hal) (by rw [rowL_len hu]; omega) (by omega), sr_sr, st_P hu hk]
theorem lays4 {P : List Int32} (hal : a < M.length) (hv : ROK v) (hj : j < 2) (hP : P.length = 32) {least : Int32} (hQ : Q none (sr M a (rowL (yP v ((List.range' 0 8).foldl (ly4 j least) P))))) : ∀ l2 l3 l5 l6 l7 l10 l11 l12 l13, wp scr n mb_162 432 [some (.ref 129), some (.ref a), l2, l3, some (.int (nI j)), l5, l6, l7, some (.int least), some (.int (nI 0)), l10, l11, l12, l13] [] (sr M a (rowL (yP v P))) Q := by
  intro l2 l3 l5 l6 l7 l10 l11 l12 l13
  have key := nf_imp (N := 8) (Φ := fun p (P : List Int32) => wp scr n mb_162 432 [some (.ref 129), some (.ref a), l2, l3, some (.int (nI j)), l5, l6, l7, some (.int least), some (.int (nI p)), l10, l11, l12, l13] [] (sr M a (rowL (yP v P))) Q) (Ψ := fun P => Q none (sr M a (rowL (yP v P)))) (step := ly4 j least) (I := fun _ P => P.length = 32)
    (fun _ P _ h => by rw [ly4_len]; exact h)
    (fun p P hp h hΦ => u162_432.mpr (by
      have hu := ROK_yP hv h
      simp only [u162_434, u162_436, u162_439, u162_440, u162_442, u162_443, u162_445, u162_446, u162_447, u162_449, u162_450, u162_451, u162_452, u162_454, u162_455, u162_456, u162_459, mw_os, wp_ite, mw_sw, Option.toList_some, Option.toList_none, List.cons_append, List.nil_append, true_and, and_true, if_true, if_false, mw_s_, mw_s_i, mw_s_r, mw_s_ii, mw_s_ir, mw_s_ri, mw_s_rr, mw_s_iii, mw_s_iir, mw_s_iri, mw_s_irr, mw_s_rii, mw_s_rir, mw_s_rri, mw_s_rrr, mw_s_iiii, mw_s_iiir, mw_s_iiri, mw_s_iirr, mw_s_irii, mw_s_irir, mw_s_irri, mw_s_irrr, mw_s_riii, mw_s_riir, mw_s_riri, mw_s_rirr, mw_s_rrii, mw_s_rrir, mw_s_rrri, mw_s_rrrr, mm_sto1, mm_clr, mm_isL, List.getElem?_cons_zero, List.getElem?_cons_succ, List.set_cons_zero, List.set_cons_succ, Bool.false_eq_true, RA_ld (sr_RA hal), m4n, c40, nI_add, Nat.add_assoc, rd_P hu (show 4 * p + j < 32 by omega), stPP hal hu (show 4 * p + j < 32 by omega), nle8 hp, nI_1]
      exact hΦ))
    (fun P _ h => u162_432.mpr (by simp only [u162_434, u162_436, u162_462, mw_os, wp_ite, mw_sw, Option.toList_some, Option.toList_none, List.cons_append, List.nil_append, true_and, and_true, if_true, if_false, mw_s_, mw_s_i, mw_s_r, mw_s_ii, mw_s_ir, mw_s_ri, mw_s_rr, mw_s_iii, mw_s_iir, mw_s_iri, mw_s_irr, mw_s_rii, mw_s_rir, mw_s_rri, mw_s_rrr, mw_s_iiii, mw_s_iiir, mw_s_iiri, mw_s_iirr, mw_s_irii, mw_s_irir, mw_s_irri, mw_s_irrr, mw_s_riii, mw_s_riir, mw_s_riri, mw_s_rirr, mw_s_rrii, mw_s_rrir, mw_s_rrri, mw_s_rrrr, nle8e]; exact h)) 8 0 P rfl hP
  exact key.1 hQ
theorem lays3 {P : List Int32} (hal : a < M.length) (hv : ROK v) (hj : j < 2) (hP : P.length = 32) (hQ : Q none (sr M a (rowL (yP v (ly34 P j))))) : ∀ l2 l3 l5 l6 x7 l8 l9 l10 l11 l12 l13, wp scr n mb_162 390 [some (.ref 129), some (.ref a), l2, l3, some (.int (nI j)), l5, l6, some (.int x7), l8, l9, l10, l11, l12, l13] [] (sr M a (rowL (yP v P))) Q := by
  intro l2 l3 l5 l6 x7 l8 l9 l10 l11 l12 l13
  have hu := ROK_yP hv hP
  have key := nf_loop (N := 8) (Φ := fun p (s : Int32) => wp scr n mb_162 397 [some (.ref 129), some (.ref a), l2, l3, some (.int (nI j)), l5, l6, some (.int x7), some (.int s), some (.int (nI p)), l10, l11, l12, l13] [] (sr M a (rowL (yP v P))) Q) (Ψ := fun s => wp scr n mb_162 432 [some (.ref 129), some (.ref a), l2, l3, some (.int (nI j)), l5, l6, some (.int x7), some (.int s), some (.int (nI 0)), l10, l11, l12, l13] [] (sr M a (rowL (yP v P))) Q) (step := fun s p => mn s (gi P (nI (4 * p + j))))
    (fun p s hp => u162_397.trans (by
      have rdp : mm_at (rowL (yP v P)) (nI (40 + (4 * p + j))) = some (gi P (nI (4 * p + j))) := rd_P hu (by omega)
      simp only [u162_399, u162_401, u162_404, u162_406, u162_407, u162_409, u162_410, u162_412, u162_413, u162_414, u162_416, u162_417, u162_418, u162_421, u162_423, u162_426, mw_os, wp_ite, mw_sw, Option.toList_some, Option.toList_none, List.cons_append, List.nil_append, true_and, and_true, if_true, if_false, mw_s_, mw_s_i, mw_s_r, mw_s_ii, mw_s_ir, mw_s_ri, mw_s_rr, mw_s_iii, mw_s_iir, mw_s_iri, mw_s_irr, mw_s_rii, mw_s_rir, mw_s_rri, mw_s_rrr, mw_s_iiii, mw_s_iiir, mw_s_iiri, mw_s_iirr, mw_s_irii, mw_s_irir, mw_s_irri, mw_s_irrr, mw_s_riii, mw_s_riir, mw_s_riri, mw_s_rirr, mw_s_rrii, mw_s_rrir, mw_s_rrri, mw_s_rrrr, mm_sto1, mm_clr, mm_isL, List.getElem?_cons_zero, List.getElem?_cons_succ, List.set_cons_zero, List.set_cons_succ, Bool.false_eq_true, RA_ld (sr_RA hal), m4n, c40, nI_add, Nat.add_assoc, rdp, nle8 hp, nI_1]
      exact Iff.rfl))
    (fun s => u162_397.trans (by simp only [u162_399, u162_401, u162_429, u162_430, mw_os, wp_ite, mw_sw, Option.toList_some, Option.toList_none, List.cons_append, List.nil_append, true_and, and_true, if_true, if_false, mw_s_, mw_s_i, mw_s_r, mw_s_ii, mw_s_ir, mw_s_ri, mw_s_rr, mw_s_iii, mw_s_iir, mw_s_iri, mw_s_irr, mw_s_rii, mw_s_rir, mw_s_rri, mw_s_rrr, mw_s_iiii, mw_s_iiir, mw_s_iiri, mw_s_iirr, mw_s_irii, mw_s_irir, mw_s_irri, mw_s_irrr, mw_s_riii, mw_s_riir, mw_s_riri, mw_s_rirr, mw_s_rrii, mw_s_rrir, mw_s_rrri, mw_s_rrrr, mm_sto1, mm_clr, mm_isL, List.getElem?_cons_zero, List.getElem?_cons_succ, List.set_cons_zero, List.set_cons_succ, Bool.false_eq_true, nle8e]; exact Iff.rfl)) 8 0 9 rfl
  refine u162_390.mpr ?_
  simp only [u162_392, u162_394, u162_395, mw_os, wp_ite, mw_sw, Option.toList_some, Option.toList_none, List.cons_append, List.nil_append, true_and, and_true, if_true, if_false, mw_s_, mw_s_i, mw_s_r, mw_s_ii, mw_s_ir, mw_s_ri, mw_s_rr, mw_s_iii, mw_s_iir, mw_s_iri, mw_s_irr, mw_s_rii, mw_s_rir, mw_s_rri, mw_s_rrr, mw_s_iiii, mw_s_iiir, mw_s_iiri, mw_s_iirr, mw_s_irii, mw_s_irir, mw_s_irri, mw_s_irrr, mw_s_riii, mw_s_riir, mw_s_riri, mw_s_rirr, mw_s_rrii, mw_s_rrir, mw_s_rrri, mw_s_rrrr, mm_sto1, mm_clr, mm_isL, List.getElem?_cons_zero, List.getElem?_cons_succ, List.set_cons_zero, List.set_cons_succ, Bool.false_eq_true]
  exact key.mpr (lays4 hal hv hj hP hQ _ _ _ _ _ _ _ _ _)
/-- the inner count of one panel -/
theorem lays2i {P P0 : List Int32} {p : Nat} (hal : a < M.length) (h129 : a ≠ 129) (h142 : a ≠ 142) (hO : OA M ob) (hW : RA M 142 P0) (hP0 : P0.length = 32) (hv : ROK v) (hj : j < 2) (hP : P.length = 32) (hp : p < 8) : ∀ l2 l3, (∀ l11 l12 l13, wp scr (n + 1) mb_162 371 [some (.ref 129), some (.ref a), l2, l3, some (.int (nI j)), some (.int cut), some (.int (bi q)), some (.int (bi o)), some (.int (nI p)), some (.int (bi (lyG P0 j cut q p))), some (.int ((List.range' 0 8).foldl (ly2n P0 j cut q o P p) 0)), l11, l12, l13] [] (sr M a (rowL (yP v P))) Q) → ∀ l12 l13, wp scr (n + 1) mb_162 227 [some (.ref 129), some (.ref a), l2, l3, some (.int (nI j)), some (.int cut), some (.int (bi q)), some (.int (bi o)), some (.int (nI p)), some (.int (bi (lyG P0 j cut q p))), some (.int 0), some (.int (nI 0)), l12, l13] [] (sr M a (rowL (yP v P))) Q := by
  intro l2 l3 hc
  have hO' : OA (sr M a (rowL (yP v P))) ob := OA_sr hO h129
  have hW' : RA (sr M a (rowL (yP v P))) 142 P0 := sr_other hW h142
  have hu := ROK_yP hv hP
  have key := nf_imp (N := 8) (Φ := fun k (s : Int32) => ∀ l12 l13, wp scr (n + 1) mb_162 227 [some (.ref 129), some (.ref a), l2, l3, some (.int (nI j)), some (.int cut), some (.int (bi q)), some (.int (bi o)), some (.int (nI p)), some (.int (bi (lyG P0 j cut q p))), some (.int s), some (.int (nI k)), l12, l13] [] (sr M a (rowL (yP v P))) Q) (Ψ := fun s => ∀ l11 l12 l13, wp scr (n + 1) mb_162 371 [some (.ref 129), some (.ref a), l2, l3, some (.int (nI j)), some (.int cut), some (.int (bi q)), some (.int (bi o)), some (.int (nI p)), some (.int (bi (lyG P0 j cut q p))), some (.int s), l11, l12, l13] [] (sr M a (rowL (yP v P))) Q) (step := ly2n P0 j cut q o P p) (I := fun _ _ => True)
    (fun _ _ _ _ => trivial)
    (fun k s hk _ hΦ l12 l13 => u162_227.mpr (by
      have r1 : mm_at P0 (nI (4 * k + j)) = some (gi P0 (nI (4 * k + j))) := gi_atN (by omega) (by omega)
      have r2 : mm_at P0 (nI (4 * k + 2)) = some (gi P0 (nI (4 * k + 2))) := gi_atN (by omega) (by omega)
      have r3 : mm_at P0 (nI (4 * p + 2)) = some (gi P0 (nI (4 * p + 2))) := gi_atN (by omega) (by omega)
      have w163 : ∀ Q : Option Value → mm_M → Prop, Wp scr (n + 1) 163 [.ref a, .int (nI p), .int (nI k)] (sr M a (rowL (yP v P))) Q ↔ Q (some (.int (bi (mOC P p k)))) (sr M a (rowL (yP v P))) := fun Q => W163 (sr_RA hal) hu hp hk
      have fin : wp scr (n + 1) mb_162 330 [some (.ref 129), some (.ref a), l2, l3, some (.int (nI j)), some (.int cut), some (.int (bi q)), some (.int (bi o)), some (.int (nI p)), some (.int (bi (lyG P0 j cut q p))), some (.int s), some (.int (nI k)), some (.int (bi (lyG P0 j cut q k))), l13] [.int (bi (lyB P0 j cut q o p k))] (sr M a (rowL (yP v P))) Q := by
        have := hΦ (some (.int (bi (lyG P0 j cut q k)))) (some (.int (bi (lyB P0 j cut q o p k))))
        unfold ly2n at this
        simp only [u162_330, u162_332, u162_334, u162_336, u162_338, u162_341, u162_342, u162_344, u162_346, u162_349, u162_352, u162_354, u162_357, u162_358, u162_361, u162_362, u162_363, u162_365, u162_368, mw_os, wp_ite, mw_sw, Option.toList_some, Option.toList_none, List.cons_append, List.nil_append, true_and, and_true, if_true, if_false, mw_s_, mw_s_i, mw_s_r, mw_s_ii, mw_s_ir, mw_s_ri, mw_s_rr, mw_s_iii, mw_s_iir, mw_s_iri, mw_s_irr, mw_s_rii, mw_s_rir, mw_s_rri, mw_s_rrr, mw_s_iiii, mw_s_iiir, mw_s_iiri, mw_s_iirr, mw_s_irii, mw_s_irir, mw_s_irri, mw_s_irrr, mw_s_riii, mw_s_riir, mw_s_riri, mw_s_rirr, mw_s_rrii, mw_s_rrir, mw_s_rrri, mw_s_rrrr, mm_sto1, mm_clr, mm_isL, List.getElem?_cons_zero, List.getElem?_cons_succ, List.set_cons_zero, List.set_cons_succ, Bool.false_eq_true, w163, bi_eq0, nI_eq8 hk hp, nI_1]
        by_cases q1 : k = p
        · simpa [q1] using this
        · cases q2 : mOC P p k
          · simpa [q1, q2] using this
          · cases q3 : lyB P0 j cut q o p k
            · simpa [q1, q2, q3] using this
            · simpa [q1, q2, q3] using this
      have e1 : (if gi P0 (nI (4 * k + j)) < cut then (if ¬ (0 : Int32) = bi q then (0 : Int32) else 1) else (if ¬ (1 : Int32) = bi q then 0 else 1)) = bi (lyG P0 j cut q k) := by
        unfold lyG
        by_cases z : gi P0 (nI (4 * k + j)) < cut <;> cases q <;> simp [z, bi]
      have mid : wp scr (n + 1) mb_162 266 [some (.ref 129), some (.ref a), l2, l3, some (.int (nI j)), some (.int cut), some (.int (bi q)), some (.int (bi o)), some (.int (nI p)), some (.int (bi (lyG P0 j cut q p))), some (.int s), some (.int (nI k)), l12, l13] [.int (bi (lyG P0 j cut q k))] (sr M a (rowL (yP v P))) Q := by
        unfold lyB at fin
        simp only [u162_266, u162_268, u162_270, u162_272, u162_275, u162_277, u162_278, u162_281, u162_282, u162_284, u162_285, u162_286, u162_287, u162_288, u162_289, u162_292, u162_293, u162_295, u162_296, u162_297, u162_298, u162_299, u162_302, u162_303, u162_306, u162_307, u162_310, u162_311, u162_314, u162_315, u162_318, u162_320, u162_322, u162_325, u162_326, u162_329, mw_os, wp_ite, mw_sw, Option.toList_some, Option.toList_none, List.cons_append, List.nil_append, true_and, and_true, if_true, if_false, mw_s_, mw_s_i, mw_s_r, mw_s_ii, mw_s_ir, mw_s_ri, mw_s_rr, mw_s_iii, mw_s_iir, mw_s_iri, mw_s_irr, mw_s_rii, mw_s_rir, mw_s_rri, mw_s_rrr, mw_s_iiii, mw_s_iiir, mw_s_iiri, mw_s_iirr, mw_s_irii, mw_s_irir, mw_s_irri, mw_s_irrr, mw_s_riii, mw_s_riir, mw_s_riri, mw_s_rirr, mw_s_rrii, mw_s_rrir, mw_s_rrri, mw_s_rrrr, mm_sto1, mm_clr, mm_isL, List.getElem?_cons_zero, List.getElem?_cons_succ, List.set_cons_zero, List.set_cons_succ, Bool.false_eq_true, OA_9 hO', RA_ld hW', m4n, n_2, r2, r3]
        generalize lyG P0 j cut q p = g1 at fin ⊢
        generalize lyG P0 j cut q k = g2 at fin ⊢
        by_cases z : gi P0 (nI (4 * p + 2)) ≤ gi P0 (nI (4 * k + 2))
        · cases g1 <;> cases g2 <;> cases o <;> simp [z, bi] at fin ⊢ <;> exact fin
        · cases g1 <;> cases g2 <;> cases o <;> simp [z, bi] at fin ⊢ <;> exact fin
      rw [← e1] at mid
      simp only [u162_229, u162_231, u162_234, u162_235, u162_238, u162_239, u162_241, u162_242, u162_244, u162_245, u162_246, u162_248, u162_251, u162_252, u162_255, u162_256, u162_258, u162_261, u162_262, u162_265, mw_os, wp_ite, mw_sw, Option.toList_some, Option.toList_none, List.cons_append, List.nil_append, true_and, and_true, if_true, if_false, mw_s_, mw_s_i, mw_s_r, mw_s_ii, mw_s_ir, mw_s_ri, mw_s_rr, mw_s_iii, mw_s_iir, mw_s_iri, mw_s_irr, mw_s_rii, mw_s_rir, mw_s_rri, mw_s_rrr, mw_s_iiii, mw_s_iiir, mw_s_iiri, mw_s_iirr, mw_s_irii, mw_s_irir, mw_s_irri, mw_s_irrr, mw_s_riii, mw_s_riir, mw_s_riri, mw_s_rirr, mw_s_rrii, mw_s_rrir, mw_s_rrri, mw_s_rrrr, mm_sto1, mm_clr, mm_isL, List.getElem?_cons_zero, List.getElem?_cons_succ, List.set_cons_zero, List.set_cons_succ, Bool.false_eq_true, OA_9 hO', RA_ld hW', m4n, nI_add, r1, nle8 hk]
      by_cases z : gi P0 (nI (4 * k + j)) < cut
      · cases q <;> simp [z, bi] at mid ⊢ <;> exact mid
      · cases q <;> simp [z, bi] at mid ⊢ <;> exact mid))
    (fun s _ h l12 l13 => u162_227.mpr (by simp only [u162_229, u162_231, mw_os, wp_ite, mw_sw, Option.toList_some, Option.toList_none, List.cons_append, List.nil_append, true_and, and_true, if_true, if_false, mw_s_, mw_s_i, mw_s_r, mw_s_ii, mw_s_ir, mw_s_ri, mw_s_rr, mw_s_iii, mw_s_iir, mw_s_iri, mw_s_irr, mw_s_rii, mw_s_rir, mw_s_rri, mw_s_rrr, mw_s_iiii, mw_s_iiir, mw_s_iiri, mw_s_iirr, mw_s_irii, mw_s_irir, mw_s_irri, mw_s_irrr, mw_s_riii, mw_s_riir, mw_s_riri, mw_s_rirr, mw_s_rrii, mw_s_rrir, mw_s_rrri, mw_s_rrrr, nle8e]; exact h _ _ _)) 8 0 0 rfl trivial
  exact key.1 hc
/-- every panel's layer -/
theorem lays2 {P P0 : List Int32} (hal : a < M.length) (h129 : a ≠ 129) (h142 : a ≠ 142) (hO : OA M ob) (hW : RA M 142 P0) (hP0 : P0.length = 32) (hv : ROK v) (hj : j < 2) (hP : P.length = 32) (hQ : Q none (sr M a (rowL (yP v (ly34 ((List.range' 0 8).foldl (ly2 P0 j cut q o) P) j))))) : ∀ l2 l3 l9 l10 l11 l12 l13, wp scr (n + 1) mb_162 180 [some (.ref 129), some (.ref a), l2, l3, some (.int (nI j)), some (.int cut), some (.int (bi q)), some (.int (bi o)), some (.int (nI 0)), l9, l10, l11, l12, l13] [] (sr M a (rowL (yP v P))) Q := by
  intro l2 l3
  have key := nf_imp (N := 8) (Φ := fun p (P : List Int32) => ∀ l9 l10 l11 l12 l13, wp scr (n + 1) mb_162 180 [some (.ref 129), some (.ref a), l2, l3, some (.int (nI j)), some (.int cut), some (.int (bi q)), some (.int (bi o)), some (.int (nI p)), l9, l10, l11, l12, l13] [] (sr M a (rowL (yP v P))) Q) (Ψ := fun P => Q none (sr M a (rowL (yP v (ly34 P j))))) (step := ly2 P0 j cut q o) (I := fun _ P => P.length = 32)
    (fun _ P _ h => by rw [ly2_len]; exact h)
    (fun p P hp h hΦ l9 l10 l11 l12 l13 => u162_180.mpr (by
      have hO' : OA (sr M a (rowL (yP v P))) ob := OA_sr hO h129
      have hW' : RA (sr M a (rowL (yP v P))) 142 P0 := sr_other hW h142
      have hu := ROK_yP hv h
      have r1 : mm_at P0 (nI (4 * p + j)) = some (gi P0 (nI (4 * p + j))) := gi_atN (by omega) (by omega)
      have inn := lays2i (scr := scr) (n := n) (Q := Q) (cut := cut) (q := q) (o := o) (p := p) hal h129 h142 hO hW hP0 hv hj h hp l2 l3 (fun l11 l12 l13 => by
        simp only [u162_371, u162_372, u162_374, u162_375, u162_377, u162_378, u162_379, u162_380, u162_381, u162_383, u162_384, u162_387, mw_os, wp_ite, mw_sw, Option.toList_some, Option.toList_none, List.cons_append, List.nil_append, true_and, and_true, if_true, if_false, mw_s_, mw_s_i, mw_s_r, mw_s_ii, mw_s_ir, mw_s_ri, mw_s_rr, mw_s_iii, mw_s_iir, mw_s_iri, mw_s_irr, mw_s_rii, mw_s_rir, mw_s_rri, mw_s_rrr, mw_s_iiii, mw_s_iiir, mw_s_iiri, mw_s_iirr, mw_s_irii, mw_s_irir, mw_s_irri, mw_s_irrr, mw_s_riii, mw_s_riir, mw_s_riri, mw_s_rirr, mw_s_rrii, mw_s_rrir, mw_s_rrri, mw_s_rrrr, mm_sto1, mm_clr, mm_isL, List.getElem?_cons_zero, List.getElem?_cons_succ, List.set_cons_zero, List.set_cons_succ, Bool.false_eq_true, m4n, c40, n_2, Nat.add_assoc, stPP hal hu (show 4 * p + 2 < 32 by omega), nI_1]
        exact hΦ _ _ _ _ _)
      simp only [u162_182, u162_184, u162_187, u162_188, u162_191, u162_192, u162_194, u162_195, u162_197, u162_198, u162_199, u162_201, u162_204, u162_205, u162_208, u162_209, u162_211, u162_214, u162_215, u162_218, u162_219, u162_221, u162_222, u162_224, u162_225, mw_os, wp_ite, mw_sw, Option.toList_some, Option.toList_none, List.cons_append, List.nil_append, true_and, and_true, if_true, if_false, mw_s_, mw_s_i, mw_s_r, mw_s_ii, mw_s_ir, mw_s_ri, mw_s_rr, mw_s_iii, mw_s_iir, mw_s_iri, mw_s_irr, mw_s_rii, mw_s_rir, mw_s_rri, mw_s_rrr, mw_s_iiii, mw_s_iiir, mw_s_iiri, mw_s_iirr, mw_s_irii, mw_s_irir, mw_s_irri, mw_s_irrr, mw_s_riii, mw_s_riir, mw_s_riri, mw_s_rirr, mw_s_rrii, mw_s_rrir, mw_s_rrri, mw_s_rrrr, mm_sto1, mm_clr, mm_isL, List.getElem?_cons_zero, List.getElem?_cons_succ, List.set_cons_zero, List.set_cons_succ, Bool.false_eq_true, OA_9 hO', RA_ld hW', m4n, nI_add, r1, nle8 hp]
      unfold lyG at inn
      simp only [nI_0] at inn
      by_cases z : gi P0 (nI (4 * p + j)) < cut
      · cases q
        · simp [z, bi] at inn ⊢; exact inn _ _
        · simp [z, bi] at inn ⊢; exact inn _ _
      · cases q
        · simp [z, bi] at inn ⊢; exact inn _ _
        · simp [z, bi] at inn ⊢; exact inn _ _))
    (fun P h hq l9 l10 l11 l12 l13 => u162_180.mpr (by
      simp only [u162_182, u162_184, mw_os, wp_ite, mw_sw, Option.toList_some, Option.toList_none, List.cons_append, List.nil_append, true_and, and_true, if_true, if_false, mw_s_, mw_s_i, mw_s_r, mw_s_ii, mw_s_ir, mw_s_ri, mw_s_rr, mw_s_iii, mw_s_iir, mw_s_iri, mw_s_irr, mw_s_rii, mw_s_rir, mw_s_rri, mw_s_rrr, mw_s_iiii, mw_s_iiir, mw_s_iiri, mw_s_iirr, mw_s_irii, mw_s_irir, mw_s_irri, mw_s_irrr, mw_s_riii, mw_s_riir, mw_s_riri, mw_s_rirr, mw_s_rrii, mw_s_rrir, mw_s_rrri, mw_s_rrrr, nle8e]
      exact lays3 hal hv hj h hq _ _ _ _ _ _ _ _ _ _ _)) 8 0 P rfl hP
  exact key.1 hQ
/-- the panels that go -/
theorem lays1 {P P0 : List Int32} (hal : a < M.length) (h129 : a ≠ 129) (h142 : a ≠ 142) (hO : OA M ob) (hW : RA M 142 P0) (hP0 : P0.length = 32) (hv : ROK v) (hj : j < 2) (hP : P.length = 32) (hQ : Q none (sr M a (rowL (yP v (ly34 ((List.range' 0 8).foldl (ly2 P0 j cut q o) ((List.range' 0 8).foldl (ly1 P0 j cut q) P)) j))))) : ∀ l2 l3 l9 l10 l11 l12 l13, wp scr (n + 1) mb_162 82 [some (.ref 129), some (.ref a), l2, l3, some (.int (nI j)), some (.int cut), some (.int (bi q)), some (.int (bi o)), some (.int (nI 0)), l9, l10, l11, l12, l13] [] (sr M a (rowL (yP v P))) Q := by
  intro l2 l3 l9 l10 l11 l12 l13
  have key := nf_imp (N := 8) (Φ := fun p (P : List Int32) => wp scr (n + 1) mb_162 82 [some (.ref 129), some (.ref a), l2, l3, some (.int (nI j)), some (.int cut), some (.int (bi q)), some (.int (bi o)), some (.int (nI p)), l9, l10, l11, l12, l13] [] (sr M a (rowL (yP v P))) Q) (Ψ := fun P => Q none (sr M a (rowL (yP v (ly34 ((List.range' 0 8).foldl (ly2 P0 j cut q o) P) j))))) (step := ly1 P0 j cut q) (I := fun _ P => P.length = 32)
    (fun _ P _ h => by rw [ly1_len]; exact h)
    (fun p P hp h hΦ => u162_82.mpr (by
      have hO' : ∀ w, OA (sr M a w) ob := fun w => OA_sr hO h129
      have hW' : ∀ w, RA (sr M a w) 142 P0 := fun w => sr_other hW h142
      have hu := ROK_yP hv h
      have r1 : mm_at P0 (nI (4 * p + j)) = some (gi P0 (nI (4 * p + j))) := gi_atN (by omega) (by omega)
      have r3 : mm_at P0 (nI (4 * p + 3)) = some (gi P0 (nI (4 * p + 3))) := gi_atN (by omega) (by omega)
      have st1 : ∀ x, mm_sti (sr M a (rowL (yP v P))) (.ref a) (nI (40 + (4 * p + j))) x = some (sr M a (rowL (yP v (P.set (4 * p + j) x)))) := fun x => stPP hal hu (by omega)
      have st2 : ∀ x y, mm_sti (sr M a (rowL (yP v (P.set (4 * p + j) x)))) (.ref a) (nI (40 + (4 * p + 3))) y = some (sr M a (rowL (yP v ((P.set (4 * p + j) x).set (4 * p + 3) y)))) := fun x y => stPP hal (ROK_yP hv (by rw [List.length_set]; exact h)) (by omega)
      unfold ly1 lyG at hΦ
      simp only [u162_84, u162_86, u162_89, u162_90, u162_93, u162_94, u162_96, u162_97, u162_99, u162_100, u162_101, u162_103, u162_106, u162_107, u162_110, u162_111, u162_113, u162_116, u162_117, u162_119, u162_120, u162_122, u162_123, u162_124, u162_126, u162_127, u162_128, u162_130, u162_131, u162_132, u162_133, u162_134, u162_137, u162_138, u162_140, u162_141, u162_143, u162_144, u162_145, u162_146, u162_147, u162_148, u162_150, u162_151, u162_153, u162_154, u162_155, u162_156, u162_157, u162_158, u162_159, u162_162, u162_163, u162_165, u162_166, u162_167, u162_168, u162_169, u162_170, u162_171, u162_174, mw_os, wp_ite, mw_sw, Option.toList_some, Option.toList_none, List.cons_append, List.nil_append, true_and, and_true, if_true, if_false, mw_s_, mw_s_i, mw_s_r, mw_s_ii, mw_s_ir, mw_s_ri, mw_s_rr, mw_s_iii, mw_s_iir, mw_s_iri, mw_s_irr, mw_s_rii, mw_s_rir, mw_s_rri, mw_s_rrr, mw_s_iiii, mw_s_iiir, mw_s_iiri, mw_s_iirr, mw_s_irii, mw_s_irir, mw_s_irri, mw_s_irrr, mw_s_riii, mw_s_riir, mw_s_riri, mw_s_rirr, mw_s_rrii, mw_s_rrir, mw_s_rrri, mw_s_rrrr, mm_sto1, mm_clr, mm_isL, List.getElem?_cons_zero, List.getElem?_cons_succ, List.set_cons_zero, List.set_cons_succ, Bool.false_eq_true, OA_9 (hO' _), RA_ld (hW' _), m4n, c40, nI_add, n_3, Nat.add_assoc, r1, r3, st1, st2, nle8 hp, nI_1]
      by_cases z : gi P0 (nI (4 * p + j)) < cut
      · cases q <;> simp [z, bi] at hΦ ⊢ <;> exact hΦ
      · cases q <;> simp [z, bi] at hΦ ⊢ <;> exact hΦ))
    (fun P h hq => u162_82.mpr (by
      simp only [u162_84, u162_86, u162_177, u162_178, mw_os, wp_ite, mw_sw, Option.toList_some, Option.toList_none, List.cons_append, List.nil_append, true_and, and_true, if_true, if_false, mw_s_, mw_s_i, mw_s_r, mw_s_ii, mw_s_ir, mw_s_ri, mw_s_rr, mw_s_iii, mw_s_iir, mw_s_iri, mw_s_irr, mw_s_rii, mw_s_rir, mw_s_rri, mw_s_rrr, mw_s_iiii, mw_s_iiir, mw_s_iiri, mw_s_iirr, mw_s_irii, mw_s_irir, mw_s_irri, mw_s_irrr, mw_s_riii, mw_s_riir, mw_s_riri, mw_s_rirr, mw_s_rrii, mw_s_rrir, mw_s_rrri, mw_s_rrrr, mm_sto1, mm_clr, mm_isL, List.getElem?_cons_zero, List.getElem?_cons_succ, List.set_cons_zero, List.set_cons_succ, Bool.false_eq_true, nle8e]
      exact lays2 hal h129 h142 hO hW hP0 hv hj h hq _ _ _ _ _ _ _)) 8 0 P rfl hP
  exact key.1 hQ
def jN (r : Bool) : Nat := if r = true then 1 else 0
theorem bi_j {r : Bool} : bi r = nI (jN r) := by cases r <;> rfl
theorem jN2 {r : Bool} : jN r < 2 := by cases r <;> decide
def lyQ (way : Int32) : Bool := decide (¬ way ≤ 1)
def mLays (P : List Int32) (line way : Int32) : List Int32 := mLy P (jN (bfR line)) (bfC line) (lyQ way) (bfO way)
theorem W162m {r : Bool} {w0 : List Int32} (hal : a < M.length) (h129 : a ≠ 129) (h142 : a ≠ 142) (hO : OA M ob) (hW : RA M 142 w0) (hw0 : w0.length = 32) (hv : ROK v) (hA : RA M a (rowL v)) (hQ : Q none (sr (sr M 142 (rP v)) a (rowL (yP v (mLy (rP v) (jN r) cut q o))))) : ∀ l2 l3 l9 l10 l11 l12 l13, wp scr (n + 1) mb_162 52 [some (.ref 129), some (.ref a), l2, l3, some (.int (bi r)), some (.int cut), some (.int (bi q)), some (.int (bi o)), some (.int (nI 0)), l9, l10, l11, l12, l13] [] M Q := by
  intro l2 l3 l9 l10 l11 l12 l13
  have h142l := RA_lt hW
  have key := nf_imp (N := 32) (Φ := fun k (s : List Int32) => wp scr (n + 1) mb_162 52 [some (.ref 129), some (.ref a), l2, l3, some (.int (bi r)), some (.int cut), some (.int (bi q)), some (.int (bi o)), some (.int (nI k)), l9, l10, l11, l12, l13] [] (sr M 142 s) Q) (Ψ := fun s => wp scr (n + 1) mb_162 82 [some (.ref 129), some (.ref a), l2, l3, some (.int (bi r)), some (.int cut), some (.int (bi q)), some (.int (bi o)), some (.int (nI 0)), l9, l10, l11, l12, l13] [] (sr M 142 s) Q) (step := fun s k => s.set k (gi (rP v) (nI k))) (I := fun _ s => s.length = 32)
    (fun _ s _ h => by rw [List.length_set]; exact h)
    (fun k s hk h hΦ => u162_52.mpr (by
      simp only [u162_54, u162_56, u162_59, u162_60, u162_63, u162_65, u162_66, u162_68, u162_70, u162_71, u162_72, u162_73, u162_76, mw_os, wp_ite, mw_sw, Option.toList_some, Option.toList_none, List.cons_append, List.nil_append, true_and, and_true, if_true, if_false, mw_s_, mw_s_i, mw_s_r, mw_s_ii, mw_s_ir, mw_s_ri, mw_s_rr, mw_s_iii, mw_s_iir, mw_s_iri, mw_s_irr, mw_s_rii, mw_s_rir, mw_s_rri, mw_s_rrr, mw_s_iiii, mw_s_iiir, mw_s_iiri, mw_s_iirr, mw_s_irii, mw_s_irir, mw_s_irri, mw_s_irrr, mw_s_riii, mw_s_riir, mw_s_riri, mw_s_rirr, mw_s_rrii, mw_s_rrir, mw_s_rrri, mw_s_rrrr, mm_sto1, mm_clr, mm_isL, List.getElem?_cons_zero, List.getElem?_cons_succ, List.set_cons_zero, List.set_cons_succ, Bool.false_eq_true, OA_9 (OA_sr (w := s) hO (show 142 ≠ 129 by decide)), RA_ld (sr_other (w := s) hA h142.symm), c40, rd_P hv hk, RA_st (sr_RA h142l) (show k < s.length by omega) (by omega), sr_sr, nle32 hk, nI_1]
      exact hΦ))
    (fun s h hq => u162_52.mpr (by
      simp only [u162_54, u162_56, u162_79, u162_80, mw_os, wp_ite, mw_sw, Option.toList_some, Option.toList_none, List.cons_append, List.nil_append, true_and, and_true, if_true, if_false, mw_s_, mw_s_i, mw_s_r, mw_s_ii, mw_s_ir, mw_s_ri, mw_s_rr, mw_s_iii, mw_s_iir, mw_s_iri, mw_s_irr, mw_s_rii, mw_s_rir, mw_s_rri, mw_s_rrr, mw_s_iiii, mw_s_iiir, mw_s_iiri, mw_s_iirr, mw_s_irii, mw_s_irir, mw_s_irri, mw_s_irrr, mw_s_riii, mw_s_riir, mw_s_riri, mw_s_rirr, mw_s_rrii, mw_s_rrir, mw_s_rrri, mw_s_rrrr, mm_sto1, mm_clr, mm_isL, List.getElem?_cons_zero, List.getElem?_cons_succ, List.set_cons_zero, List.set_cons_succ, Bool.false_eq_true, nle32e]
      exact hq)) 32 0 w0 rfl hw0
  have k1 := key.1
  rw [fs_all hw0, map_gi hv.2.2.2.2.1 (by decide), sr_self hW] at k1
  refine k1 ?_
  have hA1 : RA (sr M 142 (rP v)) a (rowL v) := sr_other hA h142.symm
  have e1 : sr (sr M 142 (rP v)) a (rowL (yP v (rP v))) = sr M 142 (rP v) := sr_self hA1
  have := lays1 (scr := scr) (n := n) (M := sr M 142 (rP v)) (Q := Q) (P := rP v) (P0 := rP v) (cut := cut) (q := q) (o := o) (by rw [sr_len]; exact hal) h129 h142 (OA_sr hO (by decide)) (sr_RA h142l) hv.2.2.2.2.1 hv (jN2 (r := r)) hv.2.2.2.2.1 hQ l2 l3 l9 l10 l11 l12 l13
  rw [e1, ← bi_j] at this
  exact this
theorem W162 {l w : Int32} {w0 : List Int32} (hal : a < M.length) (h129 : a ≠ 129) (h142 : a ≠ 142) (hO : OA M ob) (hW : RA M 142 w0) (hw0 : w0.length = 32) (hv : ROK v) (hA : RA M a (rowL v)) : Wp scr (n + 2) 162 [.ref 129, .ref a, .int l, .int w] M Q ↔ Q none (sr (sr M 142 (rP v)) a (rowL (yP v (mLays (rP v) l w)))) := by
  refine Wp_det (fun Q hQ => ?_)
  have m := W162m (scr := scr) (n := n) (Q := Q) (r := bfR l) (cut := bfC l) (q := lyQ w) (o := bfO w) hal h129 h142 hO hW hw0 hv hA hQ (some (.int l)) (some (.int w)) none none none none none
  unfold bfR bfC lyQ bfO at m
  rw [nI_0] at m
  by_cases q1 : l = 4 <;> by_cases q2 : w - w / 2 * 2 = 0 <;> by_cases q3 : w ≤ 1 <;>
    simp only [q1, q2, q3, decide_true, decide_false, if_true, if_false, bi_t, bi_f, not_true, not_false_eq_true] at m <;>
    simp only [e162, u162_0, u162_1, u162_2, u162_5, u162_6, u162_9, u162_10, u162_12, u162_13, u162_14, u162_17, u162_18, u162_21, u162_22, u162_24, u162_25, u162_26, u162_29, u162_30, u162_33, u162_34, u162_36, u162_37, u162_38, u162_39, u162_42, u162_43, u162_46, u162_47, u162_49, u162_50, mw_os, wp_ite, mw_sw, Option.toList_some, Option.toList_none, List.cons_append, List.nil_append, true_and, and_true, if_true, if_false, mw_s_, mw_s_i, mw_s_r, mw_s_ii, mw_s_ir, mw_s_ri, mw_s_rr, mw_s_iii, mw_s_iir, mw_s_iri, mw_s_irr, mw_s_rii, mw_s_rir, mw_s_rri, mw_s_rrr, mw_s_iiii, mw_s_iiir, mw_s_iiri, mw_s_iirr, mw_s_irii, mw_s_irir, mw_s_irri, mw_s_irrr, mw_s_riii, mw_s_riir, mw_s_riri, mw_s_rirr, mw_s_rrii, mw_s_rrir, mw_s_rrri, mw_s_rrrr, mm_sto1, mm_clr, mm_isL, List.getElem?_cons_zero, List.getElem?_cons_succ, List.set_cons_zero, List.set_cons_succ, Bool.false_eq_true, q1, q2, q3, i20, not_true, not_false_eq_true] <;>
    exact m
end LY
