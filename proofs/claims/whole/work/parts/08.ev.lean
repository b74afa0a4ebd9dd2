section MM8
variable (base : Nat) (ext : Nat → Option Nat) (cA : Nat → ClassId) (D : va_G) (cl : List vw_C) (tb : List Cond) (X : mm_X) (sf : Nat → String × String) (sts : List (String × String × String × Value)) (sks : List (String × Nat × String × Nat)) (nws : List Cond) (lay : String) (fty : Nat → Nat → FieldType) (nf : Nat → List Value) (li : Nat) (P : Nat → Option mm_Mt)
variable {p : Program} {l : Launch} {e : Env} {R : Room} {s : State} {m : MethodId} {args : Array Value} {below : List Frame} {meth : Method} {c : Code} {Q : State → Prop}
set_option maxHeartbeats 4000000 in
/-- a body's run on the small machine is one of the true machine, up to its return -/
theorem mm_run_snd (hcl : mm_okC cl tb fty) (hg : ∀ w ∈ tb, goodWord w = true) (hPk : mm_okP cl tb sf sts sks nws lay fty nf li P) {own nm : String} {cc : ByteArray} (hx : p.tables.exec = Jvm.exec) (hb : c.code = cc) (hown : s.vm.findClass own = some m.cls) (hts : ∀ w ∈ tb, w.before args s = true) (hname : meth.name = nm) (hKs : mm_Ks base ext cA D cl X sf sts sks nws lay s) {d : Nat} (hRf : d + 1 ≤ R.frames) (hRl : 60 * (d + 1) ≤ R.locals) (hbs : base ≤ s.heap.size)
    {call : Nat → List Value → mm_M → Option (Option Value × mm_M)} (hmono : ∀ (k : Nat) (as : List Value) (M : mm_M) (r : Option Value) (M' : mm_M), call k as M = some (r, M') → M.length ≤ M'.length ∧ mm_sl M ≤ mm_sl M')
    (hcall : ∀ (k : Nat) (as : List Value) (M : mm_M) (r : Option Value) (M' : mm_M), call k as M = some (r, M') → ∀ (y : MethodName) (b : ByteArray) (mL : Nat) (rt : Option FieldType) (ci : Nat) (co : Nat → Option mm_I), P k = some (y, b, mL, rt, ci, co) → mm_Met base ext cA D cl tb X sf sts sks nws lay l d as M r M' y b mL rt)
    {ret : Option FieldType} {code : Nat → Option mm_I} (hcode : ∀ (pc : Nat) (i : mm_I), code pc = some i → mm_okI cl tb sf sts sks nws own nm cc pc i ∧ mm_okJ cl tb nws lay fty nf li P own i) {r : Option Value} {M' : mm_M} {s0 : Nat} (hRc : base + M'.length ≤ s.heap.size + R.cells) (hRs : mm_sl M' ≤ R.slots + s0)
    (hend : ∀ (pc : Nat) (i : mm_I) (ls : Array Slot) (st : List Value) (H : Heap) (locs : List Loc) (cells slots : Nat), code pc = some i → mm_ret ret i st = some r → mm_Wd base ext cA D cl M' H → va_S (mm_A base) s.heap H locs → s.heap.size + cells = base + M'.length → slots + s0 = mm_sl M' → W p l e R s m args below meth c H locs cells slots Q (F0 m pc ls (st.map (mm_en base ext)))) :
    ∀ (f pc : Nat) (L : mm_L) (st : List Value) (M : mm_M), mm_run fty X nf li (mm_cls P) call ret code f pc L st M = some (r, M') → ∀ (H : Heap) (locs : List Loc) (cells slots : Nat) (ls : Array Slot), mm_Wd base ext cA D cl M H → va_S (mm_A base) s.heap H locs → mm_LH base ext ls L → L.length = c.maxLocals → s.heap.size + cells = base + M.length → slots + s0 = mm_sl M →
      W p l e R s m args below meth c H locs cells slots Q (F0 m pc ls (st.map (mm_en base ext))) := by
  intro f
  induction f with
  | zero => intro pc L st M h; simp [mm_run] at h
  | succ f ih =>
    intro pc L st M h H locs cells slots ls hW hS hL hLm hz hs0
    simp only [mm_run] at h
    split at h
    · cases h
    · rename_i i hi
      obtain ⟨hI, hJ⟩ := hcode pc i hi
      split at h
      · rename_i r1 hr
        cases h
        exact hend pc i ls st H locs cells slots hi hr hW hS hz hs0
      · split at h
        · rename_i kd k n hinv
          split at h
          · rename_i hcond
            obtain ⟨c1, c2, c3⟩ := hcond
            split at h
            · rename_i r1 M1 hc1
              have m1 := hmono _ _ _ _ _ hc1
              have m2 := mm_run_mono X fty nf li hmono _ _ _ _ _ h
              refine mm_W_size base ext cA D cl hW (Nat.le_trans hbs hS.1) hz (fun hsz => ?_)
              have hls : ls.size = c.maxLocals := hL.1.trans hLm
              refine mm_callR base ext cA D cl (mm_inv_snd base ext cA D cl tb X sf sts sks nws lay fty nf li P hg hPk hx hb hown hts hKs hRf hRl hinv hI hJ c1 c2 c3 (hcall _ _ _ _ _ hc1) hW hsz hS hls (by omega) (by omega)) hS (fun H1 locs1 hW1 hS1 => ?_)
              have h9 := ih _ _ _ _ h H1 locs1 (cells + (M1.length - M.length)) (slots + (mm_sl M1 - mm_sl M)) ls hW1 hS1 hL hLm (by omega) (by omega)
              rw [List.map_append] at h9
              have e9 : (r1.toList).map (mm_en base ext) = (r1.map (mm_en base ext)).toList := by cases r1 <;> rfl
              rw [e9] at h9
              exact h9
            · cases h
          · cases h
        · split at h
          · rename_i pc1 st1 M1 hmk
            have m1 := mm_make_len hmk
            have m2 := mm_run_mono X fty nf li hmono _ _ _ _ _ h
            refine mm_make_snd base ext cA D cl tb X sf sts sks nws lay fty nf li P hcl hx hb hown hts hKs hI hJ hmk hW hS hz hbs (by omega) (by omega) (hL.1.trans hLm) (by omega) (by omega) (fun H1 locs1 hW1 hS1 => ?_)
            exact ih _ _ _ _ h H1 locs1 _ _ ls hW1 hS1 hL hLm (by omega) (by omega)
          · split at h
            · rename_i pc1 L1 st1 M1 hst
              obtain ⟨q1, q2, q3⟩ := mm_step_len hst
              refine mm_step_snd base ext cA D cl tb X sf sts sks nws lay fty hcl hx hb hown hts hname hKs hI hst hW hS hL (fun H1 locs1 ls1 hW1 hS1 hL1 => ?_)
              exact ih _ _ _ _ h H1 locs1 cells slots ls1 hW1 hS1 hL1 (q1.trans hLm) (by omega) (by omega)
            · cases h
theorem mm_ent_sl (as : List Value) : (lg_sl (as.map (mm_en base ext))).length = (mm_ent as).length := by
  induction as with
  | nil => rfl
  | cons v vs ih =>
    unfold lg_sl at ih ⊢
    rw [List.map_cons, List.flatMap_cons, List.length_append, ih, mm_en_cat]
    cases v <;> simp [Value.category, mm_ent] <;> omega
theorem mm_ent_at (as : List Value) : ∀ (i j : Nat) (u : Value), (mm_ent as)[j]? = some (some u) → (i + j, mm_en base ext u) ∈ lv_args i (as.map (mm_en base ext)) := by
  induction as with
  | nil => intro i j u h; simp [mm_ent] at h
  | cons v vs ih =>
    intro i j u h
    rw [List.map_cons, lv_args, mm_en_cat]
    have one : v.category = 1 → mm_ent (v :: vs) = some v :: mm_ent vs → (i + j, mm_en base ext u) ∈ (i, mm_en base ext v) :: lv_args (if v.category = 2 then i + 2 else i + 1) (vs.map (mm_en base ext)) := by
      intro h1 h2
      rw [h2] at h
      rw [if_neg (by omega)]
      cases j with
      | zero => simp at h; subst h; exact List.mem_cons_self
      | succ j =>
        rw [List.getElem?_cons_succ] at h
        have := ih (i + 1) j u h
        rw [show i + (j + 1) = i + 1 + j by omega]
        exact List.mem_cons_of_mem _ this
    have two : v.category = 2 → mm_ent (v :: vs) = some v :: none :: mm_ent vs → (i + j, mm_en base ext u) ∈ (i, mm_en base ext v) :: lv_args (if v.category = 2 then i + 2 else i + 1) (vs.map (mm_en base ext)) := by
      intro h1 h2
      rw [h2] at h
      rw [if_pos h1]
      cases j with
      | zero => simp at h; subst h; exact List.mem_cons_self
      | succ j =>
        cases j with
        | zero => simp at h
        | succ j =>
          rw [List.getElem?_cons_succ, List.getElem?_cons_succ] at h
          have := ih (i + 2) j u h
          rw [show i + (j + 1 + 1) = i + 2 + j by omega]
          exact List.mem_cons_of_mem _ this
    cases v
    · exact one rfl rfl
    · exact two rfl rfl
    · exact one rfl rfl
    · exact two rfl rfl
    · exact one rfl rfl
    · exact one rfl rfl
    · exact one rfl rfl
theorem mm_entry_LH {as : List Value} {n : Nat} (h : (mm_ent as).length ≤ n) : mm_LH base ext ((lg_sl (as.map (mm_en base ext)) ++ List.replicate (n - (lg_sl (as.map (mm_en base ext))).length) Slot.unset).toArray) (mm_entry as n) := by
  refine mm_LH_mono base ext (lv_entry (as.map (mm_en base ext)) (n := n) (by rw [mm_ent_sl]; exact h)) (by simp [mm_entry]; omega) (fun j u hj => ?_)
  unfold mm_entry at hj
  by_cases hl : j < (mm_ent as).length
  · rw [List.getElem?_append_left hl] at hj
    have := mm_ent_at base ext as 0 j u hj
    rw [Nat.zero_add] at this
    exact this
  · rw [List.getElem?_append_right (by omega), List.getElem?_replicate] at hj
    split at hj <;> cases hj
theorem mm_nar_spec {ty : FieldType} {v : Int32} (h : mm_nar ty v = true) : narrow ty (.int v) = .int v := by
  unfold mm_nar at h
  split at h
  · rfl
  · have hv : v = 0 ∨ v = 1 := by simpa using h
    rcases hv with rfl | rfl <;> decide +kernel
  · have hv : (v.toUInt32 % 65536).toInt32 = v := by simpa using h
    rw [← hv]
    exact pk_nc v
  · have hv : v.toInt8.toInt32 = v := by simpa using h
    rw [← hv]
    exact pk_nb v
  · cases h
set_option maxHeartbeats 4000000 in
theorem mm_ev_snd (hcl : mm_okC cl tb fty) (hg : ∀ w ∈ tb, goodWord w = true) (hPk : mm_okP cl tb sf sts sks nws lay fty nf li P) (l : Launch) (F : Nat) : ∀ (d k : Nat) (as : List Value) (M : mm_M) (r : Option Value) (M' : mm_M), mm_ev fty X nf li P F d k as M = some (r, M') → ∀ (y : MethodName) (b : ByteArray) (mL : Nat) (rt : Option FieldType) (ci : Nat) (co : Nat → Option mm_I), P k = some (y, b, mL, rt, ci, co) → mm_Met base ext cA D cl tb X sf sts sks nws lay l d as M r M' y b mL rt := by
  intro d
  induction d with
  | zero => intro k as M r M' h; simp [mm_ev] at h
  | succ d ih =>
    intro k as M r M' h y b mL rt ci co hP1
    simp only [mm_ev, hP1] at h
    split at h
    · rename_i hent
      obtain ⟨o1, o2, o3, o4⟩ := hPk _ _ _ _ _ _ _ hP1
      have hmono := mm_ev_mono X fty nf li P F d
      have mm := mm_run_mono X fty nf li hmono _ _ _ _ _ h
      refine Met.ofW (cc := b) (maxL := mL) (ret := rt) o1 rfl ?_
      intro p e s m args below meth c s₁ B hml hv
      obtain ⟨rfl, hsz, hW, hKs⟩ := hv
      have hx := B.exec
      have hb := B.bytes
      have hr := B.returns
      have hts := atoms_spec (ws := .code y b mL rt :: tb) B.pre
      have hts' : ∀ w ∈ tb, w.before (as.map (mm_en base ext)).toArray s = true := fun w hw => hts w (List.mem_cons_of_mem _ hw)
      have hown : s.vm.findClass y.cls = some m.cls := findClass_of_methodNamed B.named
      have hlocks := B.notSynchronized
      have hnm : meth.name = y.name := (name_of_methodNamed B.named B.method).1
      have hS : va_S (mm_A base) s.heap s.heap [] := va_S.rf
      rw [lg_entry_eq]
      refine mm_run_snd base ext cA D cl tb X sf sts sks nws lay fty nf li P hcl hg hPk hx hb hown hts' hnm hKs (d := d) (Nat.le_refl _) (Nat.le_refl _) (by omega) hmono ih o4 (s0 := mm_sl M) (by show base + M'.length ≤ s.heap.size + (M'.length - M.length); omega) (by show mm_sl M' ≤ (mm_sl M' - mm_sl M) + mm_sl M; omega) ?_ F 0 (mm_entry as mL) [] M h s.heap [] 0 0 _ hW hS (mm_entry_LH base ext hent) (by rw [hml]; simp [mm_entry]; omega) (by omega) (by omega)
      intro pc i ls st H locs cells slots hi hret hW1 hS1 hz hs0
      have hc1 : cells = M'.length - M.length := by omega
      have hs1 : slots = mm_sl M' - mm_sl M := by omega
      subst hc1
      subst hs1
      obtain ⟨hI, -⟩ := o4 pc i hi
      obtain ⟨ins, n, a9, b9, v9, pl⟩ := i
      obtain ⟨hd, hI⟩ := hI
      have hq : ∀ t : State, t.heap = H → s.WarmedH t.vm → mm_Qc base ext cA D cl r M' (as.map (mm_en base ext)).toArray s (.returned (r.map (mm_en base ext))) t := fun t ht _ => ⟨rfl, by rw [ht]; exact hW1, hS1.F ht⟩
      have hf : ∀ q ∈ locs, mm_A base q.base := hS1.2.2
      cases ins with
      | ireturn =>
        have hn : n = 1 := hI
        subst hn
        simp only [mm_ret] at hret
        split at hret
        · split at hret
          · split at hret
            · rename_i hnar
              cases hret
              exact W.zret hx hb hr (mm_nar_spec hnar) hq hf hd
            · cases hret
          · cases hret
        · cases hret
      | lreturn =>
        have hn : n = 1 := hI
        subst hn
        simp only [mm_ret] at hret
        split at hret
        · split at hret
          · cases hret
            exact W.lret hx hb hr hq hf hd
          · cases hret
        · cases hret
      | areturn =>
        have hn : n = 1 := hI
        subst hn
        have hrt : mm_isRt rt = true → ∃ ty, rt = some ty ∧ ((∃ n, ty = .object n) ∨ ∃ t, ty = .array t) := by
          intro hh
          unfold mm_isRt at hh
          split at hh
          · exact ⟨_, rfl, Or.inl ⟨_, rfl⟩⟩
          · exact ⟨_, rfl, Or.inr ⟨_, rfl⟩⟩
          · cases hh
        simp only [mm_ret] at hret
        split at hret
        · split at hret
          · rename_i hh
            obtain ⟨ty, rfl, hty⟩ := hrt hh
            cases hret
            exact W.aret hx hb hr hty (Or.inr ⟨_, rfl⟩) hq hf hd
          · cases hret
        · split at hret
          · rename_i v8 hh
            obtain ⟨ty, rfl, hty⟩ := hrt hh
            cases hret
            refine W.aret (v := mm_en base ext (.retAddr v8)) hx hb hr hty ?_ hq hf hd
            show va_rf (ext v8) = .null ∨ ∃ a, va_rf (ext v8) = .ref a
            cases ext v8 with
            | none => exact Or.inl rfl
            | some t => exact Or.inr ⟨t, rfl⟩
          · cases hret
        · cases hret
      | return_ =>
        have hn : n = 1 := hI
        subst hn
        simp only [mm_ret] at hret
        split at hret
        · split at hret
          · cases hret
            exact W.vret hx hb hr hq hf hd
          · cases hret
        · cases hret
      | _ => simp [mm_ret] at hret
    · cases h
end MM8
