def mw_st (st : List Value) : Prop := (st.map Value.category).sum ≤ 8
/-- an object of this kind lies there -/
def mw_r (M : mm_M) (a ci : Nat) : Prop := ∃ fs : List Value, M[a]? = some (.inr (.inr (ci, fs)))
def mw_x (scr : List Int32) (a : Nat) : Prop := ∃ fs : List Value, mc_X scr a = some (.inr fs)
section MW2
variable {scr : List Int32} {n : Nat} {c : mw_B} {pc pc' : Nat} {L L' : mm_L} {st st' : List Value} {M M' : mm_M} {Q : Option Value → mm_M → Prop} {i : mm_I}
theorem wp_iten {p : Prop} {hp : Decidable (¬ p)} {hp2 : Decidable p} {a b : Nat} : wp scr n c (@ite Nat (¬ p) hp a b) L st M Q ↔ @ite Prop p hp2 (wp scr n c b L st M Q) (wp scr n c a L st M Q) := by
  by_cases h : p
  · rw [if_pos h, if_neg (fun z => z h)]
  · rw [if_neg h, if_pos h]
theorem wp_retN {r : Option Value} (hc : mc_co c.2 pc = some i) (h1 : mm_ret c.1 i st = none) (h2 : mm_inv i = none) (h3 : mm_make mc_nf 1 i pc st M = none) (hs : mm_step mc_fty (mc_X scr) i pc L st M = none) : wp scr n c pc L st M Q ↔ False := ⟨wp_none hc h1 h2 h3 hs, fun z => z.elim⟩
theorem wp_retb {t : Nat × Nat × Nat × Value × List Nat} {x : Int32} (hc : mc_co c.2 pc = some (.ireturn, t)) (hr : c.1 = some .boolean) : wp scr n c pc L [.int x] M Q ↔ ((x = 0 ∨ x = 1) ∧ Q (some (.int x)) M) := by
  by_cases h : x = 0 ∨ x = 1
  · refine (wp_ret hc ?_).trans ⟨fun z => ⟨h, z⟩, fun z => z.2⟩
    have h2 : mm_nar .boolean x = true := by simpa [mm_nar] using h
    simp only [mm_ret, hr, h2, if_true]
  · refine (wp_retN (r := none) hc ?_ rfl rfl rfl).trans ⟨fun z => z.elim, fun z => h z.1⟩
    have h2 : ¬ mm_nar .boolean x = true := by simpa [mm_nar] using h
    simp only [mm_ret, hr, if_neg h2]
theorem wp_reti8 {t : Nat × Nat × Nat × Value × List Nat} {x : Int32} (hc : mc_co c.2 pc = some (.ireturn, t)) (hr : c.1 = some .byte) : wp scr n c pc L [.int x] M Q ↔ (x.toInt8.toInt32 = x ∧ Q (some (.int x)) M) := by
  by_cases h : x.toInt8.toInt32 = x
  · refine (wp_ret hc ?_).trans ⟨fun z => ⟨h, z⟩, fun z => z.2⟩
    have h2 : mm_nar .byte x = true := by simpa [mm_nar] using h
    simp only [mm_ret, hr, h2, if_true]
  · refine (wp_retN (r := none) hc ?_ rfl rfl rfl).trans ⟨fun z => z.elim, fun z => h z.1⟩
    have h2 : ¬ mm_nar .byte x = true := by simpa [mm_nar] using h
    simp only [mm_ret, hr, if_neg h2]
theorem wp_retc {t : Nat × Nat × Nat × Value × List Nat} {x : Int32} (hc : mc_co c.2 pc = some (.ireturn, t)) (hr : c.1 = some .char) : wp scr n c pc L [.int x] M Q ↔ ((x.toUInt32 % 65536).toInt32 = x ∧ Q (some (.int x)) M) := by
  by_cases h : (x.toUInt32 % 65536).toInt32 = x
  · refine (wp_ret hc ?_).trans ⟨fun z => ⟨h, z⟩, fun z => z.2⟩
    have h2 : mm_nar .char x = true := by simp only [mm_nar, h, beq_self_eq_true]
    simp only [mm_ret, hr, h2, if_true]
  · refine (wp_retN (r := none) hc ?_ rfl rfl rfl).trans ⟨fun z => z.elim, fun z => h z.1⟩
    have h2 : ¬ mm_nar .char x = true := by
      simp only [mm_nar, beq_iff_eq]
      exact h
    simp only [mm_ret, hr, if_neg h2]
theorem wp_math997 {idx len na : Nat} {v : Value} {p : List Nat} {x y : Int32} (hc : mc_co c.2 pc = some (.invokestatic idx, len, 997, na, v, p)) : wp scr n c pc L (.int y :: .int x :: st) M Q ↔ (mw_st st ∧ wp scr n c (pc + 3) L (.int (if x < y then y else x) :: st) M Q) := by
  by_cases h : mw_st st
  · exact (wp_make hc rfl rfl (by show (if (st.map Value.category).sum ≤ 8 then _ else _) = _; rw [if_pos (show (st.map Value.category).sum ≤ 8 from h)])).trans ⟨fun z => ⟨h, z⟩, fun z => z.2⟩
  · exact (wp_retN (r := none) hc rfl rfl (by show (if (st.map Value.category).sum ≤ 8 then _ else _) = _; rw [if_neg (show ¬ (st.map Value.category).sum ≤ 8 from h)]) rfl).trans ⟨fun z => z.elim, fun z => h z.1⟩
theorem wp_math998 {idx len na : Nat} {v : Value} {p : List Nat} {x y : Int32} (hc : mc_co c.2 pc = some (.invokestatic idx, len, 998, na, v, p)) : wp scr n c pc L (.int y :: .int x :: st) M Q ↔ (mw_st st ∧ wp scr n c (pc + 3) L (.int (if y < x then y else x) :: st) M Q) := by
  by_cases h : mw_st st
  · exact (wp_make hc rfl rfl (by show (if (st.map Value.category).sum ≤ 8 then _ else _) = _; rw [if_pos (show (st.map Value.category).sum ≤ 8 from h)])).trans ⟨fun z => ⟨h, z⟩, fun z => z.2⟩
  · exact (wp_retN (r := none) hc rfl rfl (by show (if (st.map Value.category).sum ≤ 8 then _ else _) = _; rw [if_neg (show ¬ (st.map Value.category).sum ≤ 8 from h)]) rfl).trans ⟨fun z => z.elim, fun z => h z.1⟩
theorem wp_callC {kd k na : Nat} {as stk : List Value} (hc : mc_co c.2 pc = some i) (h1 : mm_ret c.1 i stk = none) (h2 : mm_inv i = some (kd, k, na)) (hs : stk = as.reverse ++ st) (hn : as.length = na) {C : Prop} (hC : mm_rok (mc_X scr) M kd (mm_cls mc_P k) as = true ↔ C) :
    wp scr n c pc L stk M Q ↔ ((C ∧ mw_st st) ∧ Wp scr n k as M (fun r1 M1 => wp scr n c (pc + 3) L (r1.toList ++ st) M1 Q)) := by
  have e1 : (stk.take na).reverse = as := by rw [hs, ← hn, List.take_left' (by simp), List.reverse_reverse]
  have e2 : stk.drop na = st := by rw [hs, ← hn, List.drop_left' (by simp)]
  have e3 : na ≤ stk.length := by rw [hs, ← hn]; simp
  by_cases h : C ∧ mw_st st
  · refine (wp_call hc h1 h2 e3 (by rw [e1]; exact hC.mpr h.1) (by rw [e2]; exact h.2)).trans ?_
    rw [e1, e2]
    exact ⟨fun z => ⟨h, z⟩, fun z => z.2⟩
  · refine ⟨fun z => ?_, fun z => absurd z.1 h⟩
    obtain ⟨F, f, r, M2, hh, hq⟩ := z
    cases f with
    | zero => simp [mm_run] at hh
    | succ f =>
      simp only [mm_run, hc, h1, h2] at hh
      rw [if_neg (fun z => h ⟨hC.mp (by rw [← e1]; exact z.2.1), by unfold mw_st; rw [← e2]; exact z.2.2⟩)] at hh
      cases hh
theorem wp_sta {idx len k na : Nat} {v : Value} {p : List Nat} {as stk : List Value} (hc : mc_co c.2 pc = some (.invokestatic idx, len, k, na, v, p)) (hs : stk = as.reverse ++ st) (hn : as.length = na) (hk : (decide (k = 997 ∨ k = 998)) = false) : wp scr n c pc L stk M Q ↔ (mw_st st ∧ Wp scr n k as M (fun r1 M1 => wp scr n c (pc + 3) L (r1.toList ++ st) M1 Q)) :=
  (wp_callC (kd := 2) (k := k) (C := True) hc rfl (by simp only [mm_inv, if_neg (of_decide_eq_false hk)]) hs hn (by simp [mm_rok])).trans (by simp)
theorem wp_vir {idx len k na ci b : Nat} {v : Value} {p : List Nat} {as stk : List Value} (hc : mc_co c.2 pc = some (.invokevirtual idx, len, k, na, v, p)) (hs : stk = (.ref b :: as).reverse ++ st) (hn : (Value.ref b :: as).length = na) (hk : mm_cls mc_P k = ci) (h99 : (ci == 99) = false) : wp scr n c pc L stk M Q ↔ ((mw_r M b ci ∧ mw_st st) ∧ Wp scr n k (.ref b :: as) M (fun r1 M1 => wp scr n c (pc + 3) L (r1.toList ++ st) M1 Q)) := by
  refine wp_callC hc rfl rfl hs hn ?_
  rw [hk]
  unfold mw_r
  simp only [mm_rok]
  constructor
  · intro h
    split at h
    · rename_i c9 fs hM
      simp only [Bool.and_eq_true, beq_iff_eq] at h
      exact ⟨fs, by rw [hM, h.1]⟩
    · cases h
  · rintro ⟨fs, hM⟩
    rw [hM]
    simp [h99]
theorem wp_virX {idx len k na b : Nat} {v : Value} {p : List Nat} {as stk : List Value} (hc : mc_co c.2 pc = some (.invokevirtual idx, len, k, na, v, p)) (hs : stk = (.retAddr b :: as).reverse ++ st) (hn : (Value.retAddr b :: as).length = na) (hk : mm_cls mc_P k = 99) : wp scr n c pc L stk M Q ↔ ((mw_x scr b ∧ mw_st st) ∧ Wp scr n k (.retAddr b :: as) M (fun r1 M1 => wp scr n c (pc + 3) L (r1.toList ++ st) M1 Q)) := by
  refine wp_callC hc rfl rfl hs hn ?_
  rw [hk]
  unfold mw_x
  simp only [mm_rok]
  constructor
  · intro h
    split at h
    · rename_i fs hM
      exact ⟨fs, hM⟩
    · cases h
  · rintro ⟨fs, hM⟩
    rw [hM]
    rfl
end MW2
