section MM7
variable (base : Nat) (ext : Nat → Option Nat) (cA : Nat → ClassId) (D : va_G) (cl : List vw_C) (tb : List Cond) (X : mm_X) (sf : Nat → String × String) (sts : List (String × String × String × Value)) (sks : List (String × Nat × String × Nat)) (nws : List Cond) (lay : String) (fty : Nat → Nat → FieldType) (nf : Nat → List Value) (li : Nat) (P : Nat → Option mm_Mt)
/-- every method's table is right -/
def mm_okP : Prop := ∀ (k : Nat) (y : MethodName) (b : ByteArray) (mL : Nat) (rt : Option FieldType) (ci : Nat) (co : Nat → Option mm_I), P k = some (y, b, mL, rt, ci, co) →
  plainName y.cls = true ∧ mL ≤ 41 ∧ Cond.code y b mL rt ∈ tb ∧ ∀ (pc : Nat) (i : mm_I), co pc = some i → mm_okI cl tb sf sts sks nws y.cls y.name b pc i ∧ mm_okJ cl tb nws lay fty nf li P y.cls i
theorem mm_run_mono {cls : Nat → Nat} {call : Nat → List Value → mm_M → Option (Option Value × mm_M)} (hc : ∀ (k : Nat) (as : List Value) (M : mm_M) (r : Option Value) (M' : mm_M), call k as M = some (r, M') → M.length ≤ M'.length ∧ mm_sl M ≤ mm_sl M') {ret : Option FieldType} {code : Nat → Option mm_I} {r : Option Value} {M' : mm_M} :
    ∀ (f pc : Nat) (L : mm_L) (st : List Value) (M : mm_M), mm_run fty X nf li cls call ret code f pc L st M = some (r, M') → M.length ≤ M'.length ∧ mm_sl M ≤ mm_sl M' := by
  intro f
  induction f with
  | zero => intro pc L st M h; simp [mm_run] at h
  | succ f ih =>
    intro pc L st M h
    simp only [mm_run] at h
    split at h
    · cases h
    · split at h
      · cases h
        exact ⟨Nat.le_refl _, Nat.le_refl _⟩
      · split at h
        · split at h
          · split at h
            · rename_i hq
              have h1 := hc _ _ _ _ _ hq
              have h2 := ih _ _ _ _ h
              exact ⟨Nat.le_trans h1.1 h2.1, Nat.le_trans h1.2 h2.2⟩
            · cases h
          · cases h
        · split at h
          · rename_i hq
            have h1 := mm_make_len hq
            have h2 := ih _ _ _ _ h
            exact ⟨Nat.le_trans h1.1 h2.1, Nat.le_trans h1.2 h2.2⟩
          · split at h
            · rename_i hq
              have h1 := mm_step_len hq
              have h2 := ih _ _ _ _ h
              rw [h1.2.1, h1.2.2] at h2
              exact h2
            · cases h
theorem mm_ev_mono (F : Nat) : ∀ (d k : Nat) (as : List Value) (M : mm_M) (r : Option Value) (M' : mm_M), mm_ev fty X nf li P F d k as M = some (r, M') → M.length ≤ M'.length ∧ mm_sl M ≤ mm_sl M' := by
  intro d
  induction d with
  | zero => intro k as M r M' h; simp [mm_ev] at h
  | succ d ih =>
    intro k as M r M' h
    simp only [mm_ev] at h
    split at h
    · cases h
    · split at h
      · exact mm_run_mono X fty nf li ih _ _ _ _ _ h
      · cases h
variable {p : Program} {l : Launch} {e : Env} {R : Room} {s : State} {m : MethodId} {args : Array Value} {below : List Frame} {meth : Method} {c : Code} {Q : State → Prop}
theorem mm_cat (st : List Value) : ((st.map (mm_en base ext)).map fun v => v.category).sum = (st.map Value.category).sum := by
  rw [List.map_map]
  have : ((fun v => v.category) ∘ mm_en base ext) = Value.category := by funext z; exact mm_en_cat base ext z
  rw [this]
theorem mm_cut {st as : List Value} {n : Nat} {v : Value} (h : (st.take n).reverse = v :: as) : st.map (mm_en base ext) = (as.map (mm_en base ext)).reverse ++ mm_en base ext v :: (st.drop n).map (mm_en base ext) := by
  have h1 : st.take n = as.reverse ++ [v] := by rw [← List.reverse_reverse (st.take n), h]; simp
  conv => lhs; rw [← List.take_append_drop n st, h1]
  simp
theorem mm_cut0 {st : List Value} {n : Nat} : st.map (mm_en base ext) = (((st.take n).reverse).map (mm_en base ext)).reverse ++ (st.drop n).map (mm_en base ext) := by
  conv => lhs; rw [← List.take_append_drop n st]
  simp
set_option maxHeartbeats 4000000 in
theorem mm_inv_snd (hg : ∀ w ∈ tb, goodWord w = true) (hPk : mm_okP cl tb sf sts sks nws lay fty nf li P) {own nm : String} {cc : ByteArray} (hx : p.tables.exec = Jvm.exec) (hb : c.code = cc) (hown : s.vm.findClass own = some m.cls) (hts : ∀ w ∈ tb, w.before args s = true) (hKs : mm_Ks base ext cA D cl X sf sts sks nws lay s) {d : Nat} (hRf : d + 1 ≤ R.frames) (hRl : 60 * (d + 1) ≤ R.locals)
    {i : mm_I} {kd k n pc : Nat} {st : List Value} {M M1 : mm_M} {r : Option Value} (hinv : mm_inv i = some (kd, k, n)) (hi : mm_okI cl tb sf sts sks nws own nm cc pc i) (hj : mm_okJ cl tb nws lay fty nf li P own i) (hn : n ≤ st.length) (hrok : mm_rok X M kd (mm_cls P k) (st.take n).reverse = true) (hsum : ((st.drop n).map Value.category).sum ≤ 8)
    (hM : ∀ (y : MethodName) (b : ByteArray) (mL : Nat) (rt : Option FieldType) (ci : Nat) (co : Nat → Option mm_I), P k = some (y, b, mL, rt, ci, co) → mm_Met base ext cA D cl tb X sf sts sks nws lay l d (st.take n).reverse M r M1 y b mL rt)
    {H : Heap} {locs : List Loc} {cells slots : Nat} {ls : Array Slot} (hW : mm_Wd base ext cA D cl M H) (hsz : H.size = base + M.length) (hS : va_S (mm_A base) s.heap H locs) (hls : ls.size = c.maxLocals) (hcells : cells + (M1.length - M.length) ≤ R.cells) (hslots : slots + (mm_sl M1 - mm_sl M) ≤ R.slots) :
    va_Run p l e R s m args below meth c H locs cells slots (M1.length - M.length) (mm_sl M1 - mm_sl M) (F0 m pc ls (st.map (mm_en base ext))) ((st.drop n).map (mm_en base ext)) (mm_Qc base ext cA D cl r M1 ((st.take n).reverse.map (mm_en base ext)).toArray) (mm_A base) := by
  obtain ⟨ins, len, a, b9, v, pl⟩ := i
  obtain ⟨hd, hi⟩ := hi
  have hsum' : 2 * (F0 m pc ls (st.map (mm_en base ext))).monitorRoom + (((st.drop n).map (mm_en base ext)).map fun v => v.category).sum ≤ 8 := lv_room (by rw [mm_cat]; exact hsum)
  have hPre : ∀ U : State, U.heap = H → s.WarmedH U.vm → mm_Pc base ext cA D cl X sf sts sks nws lay (st.take n).reverse M (((st.take n).reverse).map (mm_en base ext)).toArray U := fun U hU hWm => ⟨rfl, by rw [hU]; exact hsz, by rw [hU]; exact hW, mm_Ks_moved base ext cA D cl X sf sts sks nws lay hKs hS hU hWm⟩
  have hbl := mm_blind base ext cA D cl X sf sts sks nws lay (st.take n).reverse M
  have hroom : ∀ mL, mL ≤ 41 → (mm_rm d (M1.length - M.length) (mm_sl M1 - mm_sl M)).frames + 1 ≤ R.frames ∧ 8 + (mL + 11) + (mm_rm d (M1.length - M.length) (mm_sl M1 - mm_sl M)).locals ≤ R.locals := fun mL hmL => ⟨hRf, by show 8 + (mL + 11) + 60 * d ≤ R.locals; omega⟩
  have hGood : ∀ (cw : Cond), cw ∈ tb → GoodIn tb (cw :: tb) := fun cw hcw => mm_good tb (fun _ h => h) hg hcw (fun w hw => List.mem_cons.mp hw)
  have hFix : CallFix p m c cc c.maxLocals s args tb own := ⟨hx, hb, rfl, hown, hts⟩
  have htl : ((st.take n).reverse).length = n := by simp; omega
  cases ins with
  | invokevirtual idx =>
    simp only [mm_inv, Option.some.injEq, Prod.mk.injEq] at hinv
    obtain ⟨rfl, rfl, rfl⟩ := hinv
    obtain ⟨rfl, y, b, mL, rt, ci, co, hP1, w1, w2, w3, w4, w5, w6, w7, w8, w9⟩ := hj
    obtain ⟨o1, o2, o3, -⟩ := hPk _ _ _ _ _ _ _ hP1
    have hcls : mm_cls P a = ci := by simp [mm_cls, hP1]
    rw [hcls] at hrok
    have hMet := hM _ _ _ _ _ _ hP1
    have hGV : GoodIn tb (wsV own idx y.cls y (.code y b mL rt :: tb)) := by
      intro w hw
      unfold wsV at hw
      rcases List.mem_append.mp hw with h | h
      · have : w ∈ tb := by
          simp only [List.mem_cons, List.not_mem_nil, or_false] at h
          rcases h with h | h | h | h <;> (subst h; assumption)
        exact ⟨this, good_of_word (hg w this)⟩
      · exact hGood _ o3 w h
    simp only [mm_rok] at hrok
    split at hrok
    · rename_i b0 as0 has
      split at hrok
      · rename_i c9 fs hMb
        simp only [Bool.and_eq_true, beq_iff_eq, Bool.not_eq_true', beq_eq_false_iff_ne] at hrok
        obtain ⟨rfl, h99⟩ := hrok
        rcases w9 with ⟨h9, -⟩ | ⟨q, hq, hqy, -⟩
        · exact absurd h9 h99
        · have hcut := mm_cut base ext has
          rw [has] at hMet hPre hbl ⊢
          exact va_runV (C := y.cls) (As := as0.map (mm_en base ext)) (b := base + b0) hFix hMet (cwV _ hts hGV rfl rfl rfl ⟨rfl, w5, w6, w8⟩ (hroom mL o2)) ⟨hbl, by rw [← hqy]; exact va_recv hKs.1 hW (ci := c9) (q0 := b0) hq (mm_ws_at base ext cA hMb), hPre⟩ rfl (by have := congrArg List.length has; rw [htl] at this; simp at this ⊢; omega) hls hcut hsum' hd ⟨hcells, hslots⟩
      · cases hrok
    · rename_i n0 as0 has
      split at hrok
      · rename_i fs hXn
        have h99 : ci = 99 := by simpa using hrok
        obtain ⟨t, ht, hO, -⟩ := hKs.2.2.1 _ _ hXn
        rcases w9 with ⟨-, hys⟩ | ⟨q, hq, hqy, hn99⟩
        · have hcut := mm_cut base ext has
          have hen : mm_en base ext (.retAddr n0) = .ref t := by simp [mm_en, ht, va_rf]
          rw [has] at hMet hPre hbl ⊢
          rw [List.map_cons, hen] at hPre ⊢
          rw [hen] at hcut
          exact va_runV (C := y.cls) (As := as0.map (mm_en base ext)) (b := t) hFix hMet (cwV _ hts hGV rfl rfl rfl ⟨rfl, w5, w6, w8⟩ (hroom mL o2)) ⟨hbl, by
            rw [hys]
            obtain ⟨cell, z1, z2, z3, -⟩ := hO.kept hS.2.1
            exact ⟨cell, z1, z2, z3⟩, hPre⟩ rfl (by have := congrArg List.length has; rw [htl] at this; simp at this ⊢; omega) hls hcut hsum' hd ⟨hcells, hslots⟩
        · exact absurd h99 hn99
      · cases hrok
    · cases hrok
  | invokespecial idx =>
    simp only [mm_inv] at hinv
    split at hinv
    · cases hinv
    · simp only [Option.some.injEq, Prod.mk.injEq] at hinv
      obtain ⟨rfl, rfl, rfl⟩ := hinv
      obtain ⟨rfl, ⟨h999, -⟩ | ⟨-, y, b, mL, ci, co, hP1, w1, w2, w3, w4, w5, w6, w7, w8⟩⟩ := hj
      · exact absurd h999 ‹_›
      · obtain ⟨o1, o2, o3, -⟩ := hPk _ _ _ _ _ _ _ hP1
        have hMet := hM _ _ _ _ _ _ hP1
        simp only [mm_rok] at hrok
        split at hrok
        · rename_i b0 as0 has
          have hcut := mm_cut base ext has
          rw [has] at hMet hPre hbl ⊢
          rcases w1 with w1 | ⟨host, w1⟩
          · exact va_runI (As := as0.map (mm_en base ext)) (b := base + b0) hFix hMet (cwI _ hts (hGood _ o3) rfl rfl rfl (hts _ w3) (hts _ w1) (hts _ w2) w4 ⟨w5, w6, w8⟩ (hroom mL o2)) ⟨hbl, hPre⟩ rfl (by have := congrArg List.length has; rw [htl] at this; simp at this ⊢; omega) hls hcut hsum' hd ⟨hcells, hslots⟩
          · exact va_runIN (As := as0.map (mm_en base ext)) (b := base + b0) hFix hMet ⟨va_cnB _ hts (hGood _ o3) rfl rfl rfl (hKs.2.2.2.2.2.2.1 _ _ _ _ w1) (hts _ w3) ⟨w5, w6, w8⟩ (hroom mL o2), w4, hts _ w2⟩ ⟨hbl, hPre⟩ rfl (by have := congrArg List.length has; rw [htl] at this; simp at this ⊢; omega) hls hcut hsum' hd ⟨hcells, hslots⟩
        · cases hrok
  | invokestatic idx =>
    simp only [mm_inv] at hinv
    split at hinv
    · cases hinv
    rename_i hk78
    simp only [Option.some.injEq, Prod.mk.injEq] at hinv
    obtain ⟨rfl, rfl, rfl⟩ := hinv
    obtain ⟨rfl, ⟨hk7, -⟩ | ⟨hk8, -⟩ | ⟨-, y, b, mL, rt, ci, co, hP1, w1, w2, w3, w5, w6, w8⟩⟩ := hj
    · exact absurd (Or.inl hk7) hk78
    · exact absurd (Or.inr hk8) hk78
    obtain ⟨o1, o2, o3, -⟩ := hPk _ _ _ _ _ _ _ hP1
    have hMet := hM _ _ _ _ _ _ hP1
    rcases w1 with w1 | ⟨host, w1⟩
    · have hGS : GoodIn tb (va_wsS own idx y (.code y b mL rt :: tb)) := by
        intro w hw
        unfold va_wsS at hw
        rcases List.mem_append.mp hw with h | h
        · have : w ∈ tb := by
            simp only [List.mem_cons, List.not_mem_nil, or_false] at h
            rcases h with h | h | h <;> (subst h; assumption)
          exact ⟨this, good_of_word (hg w this)⟩
        · exact hGood _ o3 w h
      exact va_runS (As := ((st.take _).reverse).map (mm_en base ext)) hFix hMet (va_cwS _ hts hGS rfl rfl rfl ⟨w5, w6, w8⟩ (hroom mL o2)) ⟨hbl, hPre⟩ rfl (by simp; omega) hls (mm_cut0 base ext) hsum' hd ⟨hcells, hslots⟩
    · exact va_runSN (As := ((st.take _).reverse).map (mm_en base ext)) hFix hMet ⟨va_cnB _ hts (hGood _ o3) rfl rfl rfl (hKs.2.2.2.2.2.2.1 _ _ _ _ w1) (hts _ w3) ⟨w5, w6, w8⟩ (hroom mL o2), hts _ w2, trivial⟩ ⟨hbl, hPre⟩ rfl (by simp; omega) hls (mm_cut0 base ext) hsum' hd ⟨hcells, hslots⟩
  | _ => simp [mm_inv] at hinv
end MM7
