/-! the reference's fold -/
theorem rK_yK {v : RV} {x : List Int32} : rK (yK v x) = x := rfl
theorem rK_yF {v : RV} {x : List Int32} : rK (yF v x) = rK v := rfl
theorem rK_yO {v : RV} {x : List Int32} : rK (yO v x) = rK v := rfl
theorem rK_yS {v : RV} {x : List Int32} : rK (yS v x) = rK v := rfl
theorem rK_yP {v : RV} {x : List Int32} : rK (yP v x) = rK v := rfl
theorem rK_yA {v : RV} {x : List Int32} : rK (yA v x) = rK v := rfl
theorem rK_yC {v : RV} {x : Int32} : rK (yC v x) = rK v := rfl
theorem rK_yN {v : RV} {x : Int32} : rK (yN v x) = rK v := rfl
theorem rF_yK {v : RV} {x : List Int32} : rF (yK v x) = rF v := rfl
theorem rF_yF {v : RV} {x : List Int32} : rF (yF v x) = x := rfl
theorem rF_yO {v : RV} {x : List Int32} : rF (yO v x) = rF v := rfl
theorem rF_yS {v : RV} {x : List Int32} : rF (yS v x) = rF v := rfl
theorem rF_yP {v : RV} {x : List Int32} : rF (yP v x) = rF v := rfl
theorem rF_yA {v : RV} {x : List Int32} : rF (yA v x) = rF v := rfl
theorem rF_yC {v : RV} {x : Int32} : rF (yC v x) = rF v := rfl
theorem rF_yN {v : RV} {x : Int32} : rF (yN v x) = rF v := rfl
theorem rO_yK {v : RV} {x : List Int32} : rO (yK v x) = rO v := rfl
theorem rO_yF {v : RV} {x : List Int32} : rO (yF v x) = rO v := rfl
theorem rO_yO {v : RV} {x : List Int32} : rO (yO v x) = x := rfl
theorem rO_yS {v : RV} {x : List Int32} : rO (yS v x) = rO v := rfl
theorem rO_yP {v : RV} {x : List Int32} : rO (yP v x) = rO v := rfl
theorem rO_yA {v : RV} {x : List Int32} : rO (yA v x) = rO v := rfl
theorem rO_yC {v : RV} {x : Int32} : rO (yC v x) = rO v := rfl
theorem rO_yN {v : RV} {x : Int32} : rO (yN v x) = rO v := rfl
theorem rS_yK {v : RV} {x : List Int32} : rS (yK v x) = rS v := rfl
theorem rS_yF {v : RV} {x : List Int32} : rS (yF v x) = rS v := rfl
theorem rS_yO {v : RV} {x : List Int32} : rS (yO v x) = rS v := rfl
theorem rS_yS {v : RV} {x : List Int32} : rS (yS v x) = x := rfl
theorem rS_yP {v : RV} {x : List Int32} : rS (yP v x) = rS v := rfl
theorem rS_yA {v : RV} {x : List Int32} : rS (yA v x) = rS v := rfl
theorem rS_yC {v : RV} {x : Int32} : rS (yC v x) = rS v := rfl
theorem rS_yN {v : RV} {x : Int32} : rS (yN v x) = rS v := rfl
theorem rP_yK {v : RV} {x : List Int32} : rP (yK v x) = rP v := rfl
theorem rP_yF {v : RV} {x : List Int32} : rP (yF v x) = rP v := rfl
theorem rP_yO {v : RV} {x : List Int32} : rP (yO v x) = rP v := rfl
theorem rP_yS {v : RV} {x : List Int32} : rP (yS v x) = rP v := rfl
theorem rP_yP {v : RV} {x : List Int32} : rP (yP v x) = x := rfl
theorem rP_yA {v : RV} {x : List Int32} : rP (yA v x) = rP v := rfl
theorem rP_yC {v : RV} {x : Int32} : rP (yC v x) = rP v := rfl
theorem rP_yN {v : RV} {x : Int32} : rP (yN v x) = rP v := rfl
theorem rA_yK {v : RV} {x : List Int32} : rA (yK v x) = rA v := rfl
theorem rA_yF {v : RV} {x : List Int32} : rA (yF v x) = rA v := rfl
theorem rA_yO {v : RV} {x : List Int32} : rA (yO v x) = rA v := rfl
theorem rA_yS {v : RV} {x : List Int32} : rA (yS v x) = rA v := rfl
theorem rA_yP {v : RV} {x : List Int32} : rA (yP v x) = rA v := rfl
theorem rA_yA {v : RV} {x : List Int32} : rA (yA v x) = x := rfl
theorem rA_yC {v : RV} {x : Int32} : rA (yC v x) = rA v := rfl
theorem rA_yN {v : RV} {x : Int32} : rA (yN v x) = rA v := rfl
theorem rC_yK {v : RV} {x : List Int32} : rC (yK v x) = rC v := rfl
theorem rC_yF {v : RV} {x : List Int32} : rC (yF v x) = rC v := rfl
theorem rC_yO {v : RV} {x : List Int32} : rC (yO v x) = rC v := rfl
theorem rC_yS {v : RV} {x : List Int32} : rC (yS v x) = rC v := rfl
theorem rC_yP {v : RV} {x : List Int32} : rC (yP v x) = rC v := rfl
theorem rC_yA {v : RV} {x : List Int32} : rC (yA v x) = rC v := rfl
theorem rC_yC {v : RV} {x : Int32} : rC (yC v x) = x := rfl
theorem rC_yN {v : RV} {x : Int32} : rC (yN v x) = rC v := rfl
theorem rN_yK {v : RV} {x : List Int32} : rN (yK v x) = rN v := rfl
theorem rN_yF {v : RV} {x : List Int32} : rN (yF v x) = rN v := rfl
theorem rN_yO {v : RV} {x : List Int32} : rN (yO v x) = rN v := rfl
theorem rN_yS {v : RV} {x : List Int32} : rN (yS v x) = rN v := rfl
theorem rN_yP {v : RV} {x : List Int32} : rN (yP v x) = rN v := rfl
theorem rN_yA {v : RV} {x : List Int32} : rN (yA v x) = rN v := rfl
theorem rN_yC {v : RV} {x : Int32} : rN (yC v x) = rN v := rfl
theorem rN_yN {v : RV} {x : Int32} : rN (yN v x) = x := rfl
def foB (se : Int32) (i : Nat) : Bool := decide ((se >>> (nI i &&& 31)) &&& 1 = 1)
def foX (v : RV) (se : Int32) (o : Bool) (i : Nat) : Int32 := mn 99 (gi (rO v) (nI i) + mWr (gi (rK v) (nI i)) (gi (rO v) (nI i)) (mSd (rP v) i o))
def foS (v : RV) (se : Int32) (o : Bool) : List Int32 := (List.range 10).map (fun i => if foB se i = true then mSd (rP v) i o else gi (rS v) (nI i))
def foO (v : RV) (se : Int32) (o : Bool) : List Int32 := (List.range 10).map (fun i => if foB se i = true then foX v se o i else gi (rO v) (nI i))
def mFo (v : RV) (d : Nat) (l w : Int32) : RV := yP (yO (yS (yN (yA v (kaA (rA v) (rP v) d (mCr (rP v) (rS v) (bfR l) (bfC l)))) (nI (d + 1))) (foS v (mCr (rP v) (rS v) (bfR l) (bfC l)) (bfO w))) (foO v (mCr (rP v) (rS v) (bfR l) (bfC l)) (bfO w))) (mLays (rP v) l w)
def mFe (v : RV) (l w : Int32) : Int32 := mEb v (mCr (rP v) (rS v) (bfR l) (bfC l)) (bfO w)
theorem mFo_ok {v : RV} {d : Nat} {l w : Int32} (hv : ROK v) : ROK (mFo v d l w) := by
  unfold mFo
  refine ROK_yP (ROK_yO (ROK_yS (ROK_yN (ROK_yA hv ?_)) ?_) ?_) ?_
  · rw [kaA_len]; exact hv.2.2.2.2.2
  · unfold foS; simp
  · unfold foO; simp
  · unfold mLays; rw [mLy_len]; exact hv.2.2.2.2.1
section FO
variable {scr : List Int32} {n : Nat} {M : mm_M} {Q : Option Value → mm_M → Prop} {a d : Nat} {v : RV} {ob : OV}
/-- the part of the loop over the creases that is done -/
def foI (v : RV) (se : Int32) (o : Bool) (k : Nat) (f : Nat → Int32) (g : List Int32) : List Int32 := (List.range 10).map (fun i => if i < k ∧ foB se i = true then f i else gi g (nI i))
theorem gi_map {f : Nat → Int32} {i N : Nat} (h : i < N) (hN : N < 2 ^ 31) : gi ((List.range N).map f) (nI i) = f i := by
  rw [gi_n (by omega), List.getD_eq_getElem?_getD, List.getElem?_map, List.getElem?_range h]
  rfl
theorem foI_set {se : Int32} {o : Bool} {k : Nat} {f : Nat → Int32} {g : List Int32} (hk : k < 10) (hb : foB se k = true) : (foI v se o k f g).set k (f k) = foI v se o (k + 1) f g := by
  apply List.ext_getElem?
  intro j
  unfold foI
  rw [List.getElem?_set]
  simp only [List.length_map, List.length_range]
  by_cases hj : j < 10
  · rw [List.getElem?_map, List.getElem?_map, List.getElem?_range hj, Option.map_some, Option.map_some]
    by_cases hkj : k = j
    · subst hkj
      rw [if_pos rfl, if_pos hk, if_pos ⟨by omega, hb⟩]
    · rw [if_neg hkj]
      congr 1
      by_cases h2 : j < k ∧ foB se j = true
      · rw [if_pos h2, if_pos ⟨by omega, h2.2⟩]
      · rw [if_neg h2, if_neg (fun z => h2 ⟨by omega, z.2⟩)]
  · rw [if_neg (by omega), List.getElem?_eq_none (by simp; omega), List.getElem?_eq_none (by simp; omega)]
theorem foI_skip {se : Int32} {o : Bool} {k : Nat} {f : Nat → Int32} {g : List Int32} (hb : ¬ foB se k = true) : foI v se o (k + 1) f g = foI v se o k f g := by
  unfold foI
  congr 1
  funext i
  by_cases h2 : i < k ∧ foB se i = true
  · rw [if_pos h2, if_pos ⟨by omega, h2.2⟩]
  · rw [if_neg h2, if_neg (fun z => h2 ⟨by
      rcases Nat.lt_or_ge i k with h | h
      · exact h
      · have : i = k := by omega
        subst this
        exact absurd z.2 hb, z.2⟩)]
theorem foI_10 {se : Int32} {o : Bool} {f : Nat → Int32} {g : List Int32} : foI v se o 10 f g = (List.range 10).map (fun i => if foB se i = true then f i else gi g (nI i)) := by
  unfold foI
  apply List.map_congr_left
  intro i hi
  rw [List.mem_range] at hi
  by_cases h2 : foB se i = true
  · rw [if_pos ⟨hi, h2⟩, if_pos h2]
  · rw [if_neg (fun z => h2 z.2), if_neg h2]
theorem foI_0 {se : Int32} {o : Bool} {f : Nat → Int32} {g : List Int32} (hg : g.length = 10) : foI v se o 0 f g = g := by
  unfold foI
  rw [← map_gi hg (by decide)]
  apply List.map_congr_left
  intro i hi
  rw [List.mem_range] at hi
  rw [if_neg (by omega), map_gi hg (by decide)]
theorem foI_gi {se : Int32} {o : Bool} {k : Nat} {f : Nat → Int32} {g : List Int32} (hk : k < 10) : gi (foI v se o k f g) (nI k) = gi g (nI k) := by
  unfold foI
  rw [gi_map hk (by decide), if_neg (by omega)]
theorem W152 {l w : Int32} {w0 : List Int32} (hal : a < M.length) (h129 : a ≠ 129) (h142 : a ≠ 142) (hO : OA M ob) (hW : RA M 142 w0) (hw0 : w0.length = 32) (hv : ROK v) (hA : RA M a (rowL v)) (hd : rN v = nI d) (hd4 : d < 4) : Wp scr (n + 4) 152 [.ref 129, .ref a, .int l, .int w] M Q ↔ Q (some (.int (mFe v l w))) (sr (sr M 142 (rP v)) a (rowL (mFo v d l w))) := by
  refine Wp_det (fun Q hQ => ?_)
  unfold mFe mFo at hQ
  generalize hse : mCr (rP v) (rS v) (bfR l) (bfC l) = se at hQ
  generalize ho : bfO w = o at hQ
  have hR : ∀ u, RA (sr M a u) a u := fun u => sr_RA hal
  have hv1 : ROK (yN (yA v (kaA (rA v) (rP v) d se)) (nI (d + 1))) := ROK_yN (ROK_yA hv (by rw [kaA_len]; exact hv.2.2.2.2.2))
  generalize hV1 : yN (yA v (kaA (rA v) (rP v) d se)) (nI (d + 1)) = v1 at hQ hv1
  have eP : rP v1 = rP v := by rw [← hV1]; simp only [rP_yN, rP_yA]
  have eS : rS v1 = rS v := by rw [← hV1]; simp only [rS_yN, rS_yA]
  have eO : rO v1 = rO v := by rw [← hV1]; simp only [rO_yN, rO_yA]
  have eK : rK v1 = rK v := by rw [← hV1]; simp only [rK_yN, rK_yA]
  have hl10 : ∀ k f g, (foI v se o k f g).length = 10 := fun k f g => by unfold foI; simp
  have hvk : ∀ k, ROK (yO (yS v1 (foI v se o k (fun i => mSd (rP v) i o) (rS v))) (foI v se o k (foX v se o) (rO v))) := fun k => ROK_yO (ROK_yS hv1 (hl10 _ _ _)) (hl10 _ _ _)
  have key := nf_imp (N := 10) (Φ := fun k (_ : Unit) => ∀ l7, wp scr (n + 3) mb_152 24 [some (.ref 129), some (.ref a), some (.int l), some (.int w), some (.int se), some (.int (mEb v se o)), some (.int (nI k)), l7] [] (sr M a (rowL (yO (yS v1 (foI v se o k (fun i => mSd (rP v) i o) (rS v))) (foI v se o k (foX v se o) (rO v))))) Q) (Ψ := fun _ => ∀ l7, wp scr (n + 3) mb_152 104 [some (.ref 129), some (.ref a), some (.int l), some (.int w), some (.int se), some (.int (mEb v se o)), some (.int (nI 10)), l7] [] (sr M a (rowL (yO (yS v1 (foS v se o)) (foO v se o)))) Q) (step := fun s _ => s) (I := fun _ _ => True)
    (fun _ _ _ _ => trivial)
    (fun k _ hk _ hΦ l7 => u152_24.mpr (by
      by_cases q : (se >>> (nI k &&& 31)) &&& 1 = 1
      · have hb : foB se k = true := decide_eq_true q
        have u := hvk k
        have w157 : ∀ Q : Option Value → mm_M → Prop, Wp scr (n + 3) 157 [.ref a, .int (nI k), .int w] (sr M a (rowL (yO (yS v1 (foI v se o k (fun i => mSd (rP v) i o) (rS v))) (foI v se o k (foX v se o) (rO v))))) Q ↔ Q (some (.int (mSd (rP v) k o))) (sr M a (rowL (yO (yS v1 (foI v se o k (fun i => mSd (rP v) i o) (rS v))) (foI v se o k (foX v se o) (rO v))))) := fun Q => by
          have := W157 (scr := scr) (n := n + 1) (Q := Q) (w := w) (hR (rowL (yO (yS v1 (foI v se o k (fun i => mSd (rP v) i o) (rS v))) (foI v se o k (foX v se o) (rO v))))) u hk
          rw [ho] at this
          rw [← eP]
          rw [← eP] at this
          exact this
        have st1 : mm_sti (sr M a (rowL (yO (yS v1 (foI v se o k (fun i => mSd (rP v) i o) (rS v))) (foI v se o k (foX v se o) (rO v))))) (.ref a) (nI (30 + k)) (mSd (rP v) k o) = some (sr M a (rowL (yO (yS v1 (foI v se o (k + 1) (fun i => mSd (rP v) i o) (rS v))) (foI v se o k (foX v se o) (rO v))))) := by
          rw [RA_st (hR _) (by rw [rowL_len u]; omega) (by omega), sr_sr, st_S u hk, ← foI_set hk hb]
          rfl
        have u2 : ROK (yO (yS v1 (foI v se o (k + 1) (fun i => mSd (rP v) i o) (rS v))) (foI v se o k (foX v se o) (rO v))) := ROK_yO (ROK_yS hv1 (hl10 _ _ _)) (hl10 _ _ _)
        have rO2 : mm_at (rowL (yO (yS v1 (foI v se o (k + 1) (fun i => mSd (rP v) i o) (rS v))) (foI v se o k (foX v se o) (rO v)))) (nI (20 + k)) = some (gi (rO v) (nI k)) := (rd_O u2 hk).trans (congrArg some (foI_gi (v := v) (o := o) hk))
        have rK2 : mm_at (rowL (yO (yS v1 (foI v se o (k + 1) (fun i => mSd (rP v) i o) (rS v))) (foI v se o k (foX v se o) (rO v)))) (nI k) = some (gi (rK v) (nI k)) := (rd_K u2 hk).trans (by rw [← eK]; rfl)
        have st2 : mm_sti (sr M a (rowL (yO (yS v1 (foI v se o (k + 1) (fun i => mSd (rP v) i o) (rS v))) (foI v se o k (foX v se o) (rO v))))) (.ref a) (nI (20 + k)) (foX v se o k) = some (sr M a (rowL (yO (yS v1 (foI v se o (k + 1) (fun i => mSd (rP v) i o) (rS v))) (foI v se o (k + 1) (foX v se o) (rO v))))) := by
          rw [RA_st (hR _) (by rw [rowL_len u2]; omega) (by omega), sr_sr, st_O u2 hk, ← foI_set (f := foX v se o) hk hb]
          rfl
        have eX : (if gi (rO v) (nI k) + mWr (gi (rK v) (nI k)) (gi (rO v) (nI k)) (mSd (rP v) k o) < 99 then gi (rO v) (nI k) + mWr (gi (rK v) (nI k)) (gi (rO v) (nI k)) (mSd (rP v) k o) else 99) = foX v se o k := rfl
        simp only [e152, u152_0, u152_1, u152_2, u152_5, u152_7, u152_8, u152_9, u152_10, u152_13, u152_15, u152_16, u152_18, u152_21, u152_22, u152_26, u152_28, u152_31, u152_33, u152_35, u152_36, u152_37, u152_38, u152_39, u152_42, u152_43, u152_45, u152_46, u152_49, u152_51, u152_52, u152_54, u152_56, u152_57, u152_59, u152_60, u152_61, u152_63, u152_65, u152_66, u152_68, u152_69, u152_71, u152_73, u152_74, u152_75, u152_76, u152_77, u152_79, u152_80, u152_81, u152_82, u152_84, u152_86, u152_87, u152_88, u152_90, u152_93, u152_94, u152_97, u152_98, u152_101, u152_104, u152_105, u152_106, u152_107, u152_108, u152_111, u152_113, mw_os, wp_ite, mw_sw, Option.toList_some, Option.toList_none, List.cons_append, List.nil_append, true_and, and_true, if_true, if_false, mw_s_, mw_s_i, mw_s_r, mw_s_ii, mw_s_ir, mw_s_ri, mw_s_rr, mw_s_iii, mw_s_iir, mw_s_iri, mw_s_irr, mw_s_rii, mw_s_rir, mw_s_rri, mw_s_rrr, mw_s_iiii, mw_s_iiir, mw_s_iiri, mw_s_iirr, mw_s_irii, mw_s_irir, mw_s_irri, mw_s_irrr, mw_s_riii, mw_s_riir, mw_s_riri, mw_s_rirr, mw_s_rrii, mw_s_rrir, mw_s_rrri, mw_s_rrrr, mm_sto1, mm_clr, mm_isL, List.getElem?_cons_zero, List.getElem?_cons_succ, List.set_cons_zero, List.set_cons_succ, Bool.false_eq_true, q, not_true, nle10 hk, nI_1, w157, c30, c20, c0, st1, RA_ld (hR _), rO2, rK2, W161]
        rw [eX, st2]
        simp only [mw_os]
        exact hΦ _
      · have hb : ¬ foB se k = true := fun z => q (of_decide_eq_true z)
        rw [foI_skip hb, foI_skip hb] at hΦ
        simp only [e152, u152_0, u152_1, u152_2, u152_5, u152_7, u152_8, u152_9, u152_10, u152_13, u152_15, u152_16, u152_18, u152_21, u152_22, u152_26, u152_28, u152_31, u152_33, u152_35, u152_36, u152_37, u152_38, u152_39, u152_42, u152_43, u152_45, u152_46, u152_49, u152_51, u152_52, u152_54, u152_56, u152_57, u152_59, u152_60, u152_61, u152_63, u152_65, u152_66, u152_68, u152_69, u152_71, u152_73, u152_74, u152_75, u152_76, u152_77, u152_79, u152_80, u152_81, u152_82, u152_84, u152_86, u152_87, u152_88, u152_90, u152_93, u152_94, u152_97, u152_98, u152_101, u152_104, u152_105, u152_106, u152_107, u152_108, u152_111, u152_113, mw_os, wp_ite, mw_sw, Option.toList_some, Option.toList_none, List.cons_append, List.nil_append, true_and, and_true, if_true, if_false, mw_s_, mw_s_i, mw_s_r, mw_s_ii, mw_s_ir, mw_s_ri, mw_s_rr, mw_s_iii, mw_s_iir, mw_s_iri, mw_s_irr, mw_s_rii, mw_s_rir, mw_s_rri, mw_s_rrr, mw_s_iiii, mw_s_iiir, mw_s_iiri, mw_s_iirr, mw_s_irii, mw_s_irir, mw_s_irri, mw_s_irrr, mw_s_riii, mw_s_riir, mw_s_riri, mw_s_rirr, mw_s_rrii, mw_s_rrir, mw_s_rrri, mw_s_rrrr, mm_sto1, mm_clr, mm_isL, List.getElem?_cons_zero, List.getElem?_cons_succ, List.set_cons_zero, List.set_cons_succ, Bool.false_eq_true, q, not_false_eq_true, nle10 hk, nI_1]
        exact hΦ l7))
    (fun _ _ h l7 => u152_24.mpr (by
      rw [foI_10, foI_10]
      simp only [u152_26, u152_28, mw_os, wp_ite, mw_sw, Option.toList_some, Option.toList_none, List.cons_append, List.nil_append, true_and, and_true, if_true, if_false, mw_s_, mw_s_i, mw_s_r, mw_s_ii, mw_s_ir, mw_s_ri, mw_s_rr, mw_s_iii, mw_s_iir, mw_s_iri, mw_s_irr, mw_s_rii, mw_s_rir, mw_s_rri, mw_s_rrr, mw_s_iiii, mw_s_iiir, mw_s_iiri, mw_s_iirr, mw_s_irii, mw_s_irir, mw_s_irri, mw_s_irrr, mw_s_riii, mw_s_riir, mw_s_riri, mw_s_rirr, mw_s_rrii, mw_s_rrir, mw_s_rrri, mw_s_rrrr, nle10e]
      exact h l7)) 10 0 () rfl trivial
  have fin := key.1 (fun l7 => by
    have lay := W162 (scr := scr) (n := n + 1) (Q := fun r1 M1 => wp scr (n + 3) mb_152 111 [some (.ref 129), some (.ref a), some (.int l), some (.int w), some (.int se), some (.int (mEb v se o)), some (.int (nI 10)), l7] (r1.toList ++ []) M1 Q) (l := l) (w := w) (M := sr M a (rowL (yO (yS v1 (foS v se o)) (foO v se o)))) (a := a) (by rw [sr_len]; exact hal) h129 h142 (OA_sr hO h129) (sr_other hW h142) hw0 (ROK_yO (ROK_yS hv1 (by unfold foS; simp)) (by unfold foO; simp)) (hR _)
    simp only [u152_104, u152_105, u152_106, u152_107, u152_108, mw_os, wp_ite, mw_sw, Option.toList_some, Option.toList_none, List.cons_append, List.nil_append, true_and, and_true, if_true, if_false, mw_s_, mw_s_i, mw_s_r, mw_s_ii, mw_s_ir, mw_s_ri, mw_s_rr, mw_s_iii, mw_s_iir, mw_s_iri, mw_s_irr, mw_s_rii, mw_s_rir, mw_s_rri, mw_s_rrr, mw_s_iiii, mw_s_iiir, mw_s_iiri, mw_s_iirr, mw_s_irii, mw_s_irir, mw_s_irri, mw_s_irrr, mw_s_riii, mw_s_riir, mw_s_riri, mw_s_rirr, mw_s_rrii, mw_s_rrir, mw_s_rrri, mw_s_rrrr, OA_x (OA_sr hO h129)]
    refine lay.mpr ?_
    have e1 : sr (sr (sr M a (rowL (yO (yS v1 (foS v se o)) (foO v se o)))) 142 (rP (yO (yS v1 (foS v se o)) (foO v se o)))) a (rowL (yP (yO (yS v1 (foS v se o)) (foO v se o)) (mLays (rP (yO (yS v1 (foS v se o)) (foO v se o))) l w))) = sr (sr M 142 (rP v)) a (rowL (yP (yO (yS v1 (foS v se o)) (foO v se o)) (mLays (rP v) l w))) := by
      rw [show rP (yO (yS v1 (foS v se o)) (foO v se o)) = rP v by simp only [rP_yO, rP_yS, eP]]
      unfold sr
      rw [List.set_comm _ _ h142, List.set_set]
    rw [e1]
    simp only [u152_111, u152_113, mw_os, wp_ite, mw_sw, Option.toList_some, Option.toList_none, List.cons_append, List.nil_append, true_and, and_true, if_true, if_false, mw_s_, mw_s_i, mw_s_r, mw_s_ii, mw_s_ir, mw_s_ri, mw_s_rr, mw_s_iii, mw_s_iir, mw_s_iri, mw_s_irr, mw_s_rii, mw_s_rir, mw_s_rri, mw_s_rrr, mw_s_iiii, mw_s_iiir, mw_s_iiri, mw_s_iirr, mw_s_irii, mw_s_irir, mw_s_irri, mw_s_irrr, mw_s_riii, mw_s_riir, mw_s_riri, mw_s_rirr, mw_s_rrii, mw_s_rrir, mw_s_rrri, mw_s_rrrr]
    exact hQ)
  have hw160 : ∀ Q : Option Value → mm_M → Prop, Wp scr (n + 3) 160 [.ref a, .int se] M Q ↔ Q none (sr M a (rowL v1)) := fun Q => by
    have := W160 (scr := scr) (n := n + 2) (Q := Q) (se := se) (M := M) (a := a) hal hv hd hd4
    rw [sr_self hA, hV1] at this
    exact this
  have w153 : ∀ Q : Option Value → mm_M → Prop, Wp scr (n + 3) 153 [.ref a, .int l] M Q ↔ Q (some (.int se)) M := fun Q => by
    rw [← hse]
    exact W153 (n := n + 1) hA hv
  have w156 : ∀ Q : Option Value → mm_M → Prop, Wp scr (n + 3) 156 [.ref a, .int l, .int w] M Q ↔ Q (some (.int (mEb v se o))) M := fun Q => by
    rw [← hse, ← ho]
    exact W156 hA hv
  rw [foI_0 hv.2.2.2.1, foI_0 hv.2.2.1, nI_0] at fin
  have e2 : yO (yS v1 (rS v)) (rO v) = v1 := by
    rw [← eS, ← eO]
    rfl
  rw [e2] at fin
  simp only [e152, u152_0, u152_1, u152_2, u152_5, u152_7, u152_8, u152_9, u152_10, u152_13, u152_15, u152_16, u152_18, u152_21, u152_22, mw_os, wp_ite, mw_sw, Option.toList_some, Option.toList_none, List.cons_append, List.nil_append, true_and, and_true, if_true, if_false, mw_s_, mw_s_i, mw_s_r, mw_s_ii, mw_s_ir, mw_s_ri, mw_s_rr, mw_s_iii, mw_s_iir, mw_s_iri, mw_s_irr, mw_s_rii, mw_s_rir, mw_s_rri, mw_s_rrr, mw_s_iiii, mw_s_iiir, mw_s_iiri, mw_s_iirr, mw_s_irii, mw_s_irir, mw_s_irri, mw_s_irrr, mw_s_riii, mw_s_riir, mw_s_riri, mw_s_rirr, mw_s_rrii, mw_s_rrir, mw_s_rrri, mw_s_rrrr, mm_sto1, mm_clr, mm_isL, List.getElem?_cons_zero, List.getElem?_cons_succ, List.set_cons_zero, List.set_cons_succ, Bool.false_eq_true, w153, w156, hw160]
  exact fin none
end FO
