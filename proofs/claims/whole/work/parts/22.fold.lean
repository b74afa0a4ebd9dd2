section LB4
variable {scr : List Int32} {n : Nat} {M : mm_M} {a b : Nat} {u v : LV}
theorem i20 : ((2 : Int32) = 0) ↔ False := by decide
theorem set8 {α : Type} {l : List α} (h : l.length = 8) (f : Nat → α) : (List.range' 0 8).foldl (fun s i => s.set i (f i)) l = (List.range 8).map f := by
  match l, h with
  | [_, _, _, _, _, _, _, _], _ => rfl
theorem set10 {α : Type} {l : List α} (h : l.length = 10) (f : Nat → α) : (List.range' 0 10).foldl (fun s i => s.set i (f i)) l = (List.range 10).map f := by
  match l, h with
  | [_, _, _, _, _, _, _, _, _, _], _ => rfl
theorem fold_fst {α β γ : Type} {l : List γ} {f : α → γ → α} {g : β → γ → β} {s : α × β} : l.foldl (fun s i => (f s.1 i, g s.2 i)) s = (l.foldl f s.1, l.foldl g s.2) := by
  induction l generalizing s with
  | nil => rfl
  | cons x l ih => rw [List.foldl_cons, ih]; rfl
/-- a fold's new sides, and which creases -/
def fcX (u : LV) (r : Bool) (cut : Int32) (o : Bool) (i : Nat) : Int32 := if gi (vS u) (nI i) = 0 ∧ lAc u r cut i = true then fcV u r cut o i else gi (vS u) (nI i)
def fcB (u : LV) (r : Bool) (cut : Int32) (s : Int32) (i : Nat) : Int32 := if gi (vS u) (nI i) = 0 ∧ lAc u r cut i = true then s ||| ((1 : Int32) <<< (nI i &&& 31)) else s
def fcS (u : LV) (r : Bool) (cut : Int32) (o : Bool) : List Int32 := (List.range 10).map (fcX u r cut o)
def fcF (u : LV) (r : Bool) (cut : Int32) : Int32 := (List.range' 0 10).foldl (fcB u r cut) 0
theorem fcOf_eq {r o : Bool} {cut : Int32} {s : List Int32} (h : s.length = 10) : fcOf u r cut o s = (fcS u r cut o, fcF u r cut) := by
  have e : fcStep u r cut o = fun s i => (s.1.set i (fcX u r cut o i), fcB u r cut s.2 i) := by
    funext s i
    unfold fcStep fcX fcB
    split <;> rfl
  unfold fcOf
  rw [e]
  refine (fold_fst (f := fun (s : List Int32) (i : Nat) => s.set i (fcX u r cut o i)) (g := fcB u r cut)).trans ?_
  rw [set10 h]
  rfl
/-- the panels behind a fold -/
def mvA (u : LV) (r g o : Bool) (cut : Int32) : List Int32 × List Int32 × List Int32 × List Int32 :=
  ((List.range 8).map (fun i => if r = true then mvAs u r i else mvMo u r g cut (mvSt u r g cut) i), (List.range 8).map (fun i => if r = true then mvMo u r g cut (mvSt u r g cut) i else mvAs u r i), (List.range 8).map (mvLa u r g o cut (mvLen u r)), (List.range 8).map (mvDn u r g cut))
theorem mv_fold {r g o : Bool} {cut len start : Int32} (l : List Nat) : ∀ s : LV, l.foldl (mvStep u r g o cut len start) s = ((l.foldl (fun s i => s.set i (if r = true then mvAs u r i else mvMo u r g cut start i)) (vC s), l.foldl (fun s i => s.set i (if r = true then mvMo u r g cut start i else mvAs u r i)) (vR s), l.foldl (fun s i => s.set i (mvLa u r g o cut len i)) (vL s), l.foldl (fun s i => s.set i (mvDn u r g cut i)) (vD s), vS s, vH s), (vW s, vT s, vF s)) := by
  induction l with
  | nil => intro s; rfl
  | cons x l ih => intro s; rw [List.foldl_cons, ih]; rfl
theorem mvOf_eq {r g o : Bool} {cut : Int32} (h : LEN v) : mvOf u r g o cut v = (((mvA u r g o cut).1, (mvA u r g o cut).2.1, (mvA u r g o cut).2.2.1, (mvA u r g o cut).2.2.2, vS v, vH v), (vW v, vT v, vF v)) := by
  unfold mvOf
  rw [mv_fold, set8 h.1, set8 h.2.1, set8 h.2.2.1, set8 h.2.2.2.1]
  rfl
/-- the Layout behind a fold -/
def mk9 (A : List Int32 × List Int32 × List Int32 × List Int32) (sd hp : List Int32) (w t f : Int32) : LV := ((A.1, A.2.1, A.2.2.1, A.2.2.2, sd, hp), (w, t, f))
def fcW (u : LV) (r : Bool) (cut : Int32) : Int32 := if r = true then vW u else mx cut (vW u - cut)
def fcT (u : LV) (r : Bool) : Int32 := if r = true then 1 else vT u
theorem vX_mk9 {A : List Int32 × List Int32 × List Int32 × List Int32} {sd hp : List Int32} {w t f p : Int32} : vX (mk9 A sd hp w t f) p = 4 * gi A.2.1 p + gi A.1 p := rfl
theorem LOK_mk9 {A : List Int32 × List Int32 × List Int32 × List Int32} {sd hp sd' hp' : List Int32} {w t f w' t' f' : Int32} (h : LOK (mk9 A sd hp w t f)) (h1 : sd'.length = 10) (h2 : hp'.length = 8) : LOK (mk9 A sd' hp' w' t' f') := by
  obtain ⟨k1, k2, k3, k4, k5, k6, k7⟩ := h
  exact ⟨k1, k2, k3, k4, h1, h2, k7⟩
theorem hpC_mk9 {A : List Int32 × List Int32 × List Int32 × List Int32} {sd hp sd' hp' : List Int32} {w t f w' t' f' : Int32} {s : List Int32} : hpC (mk9 A sd hp w t f) s = hpC (mk9 A sd' hp' w' t' f') s := rfl
def fCb (u : LV) (r g o : Bool) (cut : Int32) : LV := mk9 (mvA u r g o cut) (fcS u r cut o) (hpC (mk9 (mvA u r g o cut) [] [] 0 0 0) [0, 0, 0, 0, 0, 0, 0, 0]) (fcW u r cut) (fcT u r) (fcF u r cut)
def bfR (line : Int32) : Bool := decide (line = 4)
def bfC (line : Int32) : Int32 := if line = 4 then 1 else line
def bfG (way : Int32) : Bool := decide (¬ 2 ≤ way)
def bfO (way : Int32) : Bool := decide (way - way / 2 * 2 = 0)
def fC (u : LV) (line way : Int32) : LV := fCb u (bfR line) (bfG way) (bfO way) (bfC line)
theorem hpZ_eq {s : List Int32} (h : s.length = 8) : hpZ s = [0, 0, 0, 0, 0, 0, 0, 0] := set8 h (fun _ => 0)
theorem mvOf_mk9 {r g o : Bool} {cut : Int32} (h : LEN v) : mvOf u r g o cut v = mk9 (mvA u r g o cut) (vS v) (vH v) (vW v) (vT v) (vF v) := mvOf_eq h
/-- the middle of becomeFolded, its flags known -/
theorem W24m {r g o : Bool} {cut : Int32} {l2 l3 : Option Value} {Q : Option Value → mm_M → Prop} (hM : a + 6 < M.length) (hb : LA M b u) (hd : b + 7 ≤ a ∨ a + 7 ≤ b) (hu : LOK u) (hm : MOK u r cut) (hs0 : LEN v) (hn : LOK (fCb u r g o cut)) : wp scr (n + 2) mb_24 55 [some (.ref a), some (.ref b), l2, l3, some (.int (bi r)), some (.int cut), some (.int (bi o))] [.int (bi o), .int (bi g), .int cut, .int (bi r), .ref b, .ref a] (pl M a v) Q ↔ Q none (pl M a (fCb u r g o cut)) := by
  have hbM : ∀ w : LV, LA (pl M a w) b u := fun w => pl_other hb hd
  have hn' : LOK (mk9 (mvA u r g o cut) (fcS u r cut o) (hpC (mk9 (mvA u r g o cut) [] [] 0 0 0) [0, 0, 0, 0, 0, 0, 0, 0]) (fcW u r cut) (fcT u r) (fcF u r cut)) := hn
  have s5 := hs0.2.2.2.2.1
  have s6 := hs0.2.2.2.2.2
  have w25 : ∀ Q : Option Value → mm_M → Prop, Wp scr (n + 2) 25 [.ref a, .ref b, .int (bi r), .int cut, .int (bi g), .int (bi o)] (pl M a v) Q ↔ Q none (pl M a (mk9 (mvA u r g o cut) (vS v) (vH v) (vW v) (vT v) (vF v))) := fun Q => by
    rw [← mvOf_mk9 hs0]
    exact W25 hM hb hd hu hm hs0
  unfold fCb
  generalize hA : mvA u r g o cut = A at w25 hn' ⊢
  have hk : ∀ w t f : Int32, LOK (mk9 A (vS v) (vH v) w t f) := fun w t f => LOK_mk9 hn' s5 s6
  have w27 : ∀ (w t f : Int32) (Q : Option Value → mm_M → Prop), Wp scr (n + 2) 27 [.ref a] (pl M a (mk9 A (vS v) (vH v) w t f)) Q ↔ Q none (pl M a (mk9 A (vS v) (hpC (mk9 A [] [] 0 0 0) [0, 0, 0, 0, 0, 0, 0, 0]) w t f)) := fun w t f Q => by
    rw [W27 hM (hk w t f)]
    rw [show vH (mk9 A (vS v) (vH v) w t f) = vH v from rfl, hpZ_eq s6]
    exact Iff.rfl
  generalize hH : hpC (mk9 A [] [] 0 0 0) [0, 0, 0, 0, 0, 0, 0, 0] = hp at w27 ⊢
  have w29 : ∀ (w t f : Int32) (Q : Option Value → mm_M → Prop), Wp scr (n + 2) 29 [.ref a, .ref b, .int (bi r), .int cut, .int (bi o)] (pl M a (mk9 A (vS v) hp w t f)) Q ↔ Q none (pl M a (mk9 A (fcS u r cut o) hp w t (fcF u r cut))) := fun w t f Q => by
    rw [W29 (v := mk9 A (vS v) hp w t f) hM hb hd hu s5]
    rw [show vS (mk9 A (vS v) hp w t f) = vS v from rfl, fcOf_eq s5]
    exact Iff.rfl
  have pW : ∀ (w t f x : Int32), mm_put mc_fty (pl M a (mk9 A (vS v) (vH v) w t f)) (.ref a) (.int x) 1 6 = some (pl M a (mk9 A (vS v) (vH v) x t f)) := fun w t f x => pl_puW hM
  have pT : ∀ (w t f x : Int32), mm_put mc_fty (pl M a (mk9 A (vS v) (vH v) w t f)) (.ref a) (.int x) 1 7 = some (pl M a (mk9 A (vS v) (vH v) w x f)) := fun w t f x => pl_puT hM
  unfold fcW fcT mx
  cases r
  · simp only [u24_55, u24_58, u24_59, u24_61, u24_64, u24_65, u24_68, u24_71, u24_73, u24_74, u24_77, u24_79, u24_80, u24_83, u24_86, u24_87, u24_89, u24_92, u24_93, u24_96, u24_97, u24_100, u24_103, u24_104, u24_107, u24_108, u24_109, u24_111, u24_113, u24_115, u24_118, mw_os, wp_ite, mw_sw, Option.toList_some, Option.toList_none, List.cons_append, List.nil_append, true_and, and_true, if_true, if_false, mw_s_, mw_s_i, mw_s_r, mw_s_ii, mw_s_ir, mw_s_ri, mw_s_rr, mw_s_iii, mw_s_iir, mw_s_iri, mw_s_irr, mw_s_rii, mw_s_rir, mw_s_rri, mw_s_rrr, mw_s_iiii, mw_s_iiir, mw_s_iiri, mw_s_iirr, mw_s_irii, mw_s_irir, mw_s_irri, mw_s_irrr, mw_s_riii, mw_s_riir, mw_s_riri, mw_s_rirr, mw_s_rrii, mw_s_rrir, mw_s_rrri, mw_s_rrrr, LA_x (pl_LA hM), w25, bi_eq0, LA_6 (hbM _), LA_7 (hbM _), pW, pT, w27, w29, reduceCtorEq, Bool.false_eq_true]
  · simp only [u24_55, u24_58, u24_59, u24_61, u24_64, u24_65, u24_68, u24_71, u24_73, u24_74, u24_77, u24_79, u24_80, u24_83, u24_86, u24_87, u24_89, u24_92, u24_93, u24_96, u24_97, u24_100, u24_103, u24_104, u24_107, u24_108, u24_109, u24_111, u24_113, u24_115, u24_118, mw_os, wp_ite, mw_sw, Option.toList_some, Option.toList_none, List.cons_append, List.nil_append, true_and, and_true, if_true, if_false, mw_s_, mw_s_i, mw_s_r, mw_s_ii, mw_s_ir, mw_s_ri, mw_s_rr, mw_s_iii, mw_s_iir, mw_s_iri, mw_s_irr, mw_s_rii, mw_s_rir, mw_s_rri, mw_s_rrr, mw_s_iiii, mw_s_iiir, mw_s_iiri, mw_s_iirr, mw_s_irii, mw_s_irir, mw_s_irri, mw_s_irrr, mw_s_riii, mw_s_riir, mw_s_riri, mw_s_rirr, mw_s_rrii, mw_s_rrir, mw_s_rrri, mw_s_rrrr, LA_x (pl_LA hM), w25, bi_eq0, LA_6 (hbM _), LA_7 (hbM _), pW, pT, w27, w29, reduceCtorEq]
theorem W24 {line way : Int32} {Q : Option Value → mm_M → Prop} (hM : a + 6 < M.length) (hb : LA M b u) (hd : b + 7 ≤ a ∨ a + 7 ≤ b) (hu : LOK u) (hm : MOK u (bfR line) (bfC line)) (hs0 : LEN v) (hn : LOK (fC u line way)) : Wp scr (n + 3) 24 [.ref a, .ref b, .int line, .int way] (pl M a v) Q ↔ Q none (pl M a (fC u line way)) := by
  have hmid : ∀ l2 l3, _ := fun l2 l3 => W24m (scr := scr) (n := n) (Q := Q) (r := bfR line) (g := bfG way) (o := bfO way) (cut := bfC line) (l2 := l2) (l3 := l3) hM hb hd hu hm hs0 hn
  unfold fC
  rw [← hmid (some (.int line)) (some (.int way))]
  unfold bfR bfG bfO bfC
  by_cases q1 : line = 4 <;> by_cases q2 : way - way / 2 * 2 = 0 <;> by_cases q3 : (2 : Int32) ≤ way <;>
    simp only [e24, u24_0, u24_1, u24_2, u24_5, u24_6, u24_9, u24_10, u24_12, u24_14, u24_17, u24_18, u24_21, u24_22, u24_24, u24_25, u24_26, u24_27, u24_30, u24_31, u24_34, u24_35, u24_37, u24_38, u24_39, u24_41, u24_43, u24_44, u24_45, u24_48, u24_49, u24_52, u24_53, mw_os, wp_ite, mw_sw, Option.toList_some, Option.toList_none, List.cons_append, List.nil_append, true_and, and_true, if_true, if_false, mw_s_, mw_s_i, mw_s_r, mw_s_ii, mw_s_ir, mw_s_ri, mw_s_rr, mw_s_iii, mw_s_iir, mw_s_iri, mw_s_irr, mw_s_rii, mw_s_rir, mw_s_rri, mw_s_rrr, mw_s_iiii, mw_s_iiir, mw_s_iiri, mw_s_iirr, mw_s_irii, mw_s_irir, mw_s_irri, mw_s_irrr, mw_s_riii, mw_s_riir, mw_s_riri, mw_s_rirr, mw_s_rrii, mw_s_rrir, mw_s_rrri, mw_s_rrrr, mm_sto1, mm_clr, mm_isL, List.getElem?_cons_zero, List.getElem?_cons_succ, List.set_cons_zero, List.set_cons_succ, Bool.false_eq_true, q1, q2, q3, i10, i20, bi_t, bi_f, decide_true, decide_false, not_true, not_false_eq_true]
end LB4
