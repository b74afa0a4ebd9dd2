section MM5
variable (base : Nat) (ext : Nat → Option Nat) (cA : Nat → ClassId) (D : va_G) (cl : List vw_C) (tb : List Cond) (X : mm_X) (sf : Nat → String × String) (sts : List (String × String × String × Value)) (sks : List (String × Nat × String × Nat)) (nws : List Cond) (lay : String) (fty : Nat → Nat → FieldType) (nf : Nat → List Value) (li : Nat) (P : Nat → Option mm_Mt)
/-- what a making or a call needs of the words -/
def mm_okJ (own : String) (i : mm_I) : Prop := match i with
  | (.new idx, n, a, _) => n = 3 ∧ ∃ q : vw_C, cl[a]? = some q ∧ Cond.classLink own idx q.1 ∈ tb ∧ Cond.instantiable q.1 q.2.2 ∈ tb ∧ Cond.initialized q.1 ∈ tb ∧ (nf a).length = q.2.2 ∧ ∀ j, j < q.2.2 → (nf a)[j]? = some (defaultValue (fty a j))
  | (.newarray _, _) => Cond.arrayClass .int ∈ tb
  | (.anewarray idx, _) => Cond.classLink own idx lay ∈ tb
  | (.multianewarray idx _, _) => Cond.classLink own idx ("[" ++ (FieldType.array .int).toString) ∈ tb ∧ Cond.arrayClass .int ∈ tb
  | (.aastore, _) => ∃ q : vw_C, cl[li]? = some q ∧ q.1 = lay
  | (.invokevirtual idx, n, k, na, _) => n = 3 ∧ ∃ (y : MethodName) (b : ByteArray) (mL : Nat) (rt : Option FieldType) (ci : Nat) (co : Nat → Option mm_I), P k = some (y, b, mL, rt, ci, co) ∧ Cond.methodLink own idx y ∈ tb ∧ Cond.instanceMethod y ∈ tb ∧ Cond.selects y.cls y y ∈ tb ∧ Cond.initialized y.cls ∈ tb ∧ y.cls ≠ "java/lang/invoke/MethodHandle" ∧ y.cls ≠ "java/lang/invoke/VarHandle" ∧ 0 < na ∧ (parseMethodDescriptor y.desc).map (fun d => d.parameters.length) = some (na - 1) ∧ ((ci = 99 ∧ y.cls = "java/lang/String") ∨ ∃ q : vw_C, cl[ci]? = some q ∧ q.1 = y.cls ∧ ¬ ci = 99)
  | (.invokespecial idx, n, k, na, _) => n = 3 ∧ ((k = 999 ∧ Cond.methodLink own idx Lib.objectInit ∈ tb ∧ Cond.instanceMethod Lib.objectInit ∈ tb ∧ Cond.code Lib.objectInit ⟨#[0xb1]⟩ 1 none ∈ tb) ∨ (¬ k = 999 ∧ ∃ (y : MethodName) (b : ByteArray) (mL : Nat) (ci : Nat) (co : Nat → Option mm_I), P k = some (y, b, mL, none, ci, co) ∧ (Cond.methodLink own idx y ∈ tb ∨ ∃ host : String, Cond.methodLinkNest own idx y host ∈ nws) ∧ Cond.instanceMethod y ∈ tb ∧ Cond.initialized y.cls ∈ tb ∧ y.name = "<init>" ∧ y.cls ≠ "java/lang/invoke/MethodHandle" ∧ y.cls ≠ "java/lang/invoke/VarHandle" ∧ 0 < na ∧ (parseMethodDescriptor y.desc).map (fun d => d.parameters.length) = some (na - 1)))
  | (.invokestatic idx, n, k, na, _) => n = 3 ∧ ((k = 997 ∧ Cond.methodLink own idx Lib.Math.max.name ∈ tb ∧ Cond.static Lib.Math.max.name ∈ tb ∧ Cond.initialized "java/lang/Math" ∈ tb ∧ Cond.code Lib.Math.max.name Lib.Math.max.code 2 (some .int) ∈ tb) ∨ (k = 998 ∧ Cond.methodLink own idx Lib.Math.min.name ∈ tb ∧ Cond.static Lib.Math.min.name ∈ tb ∧ Cond.initialized "java/lang/Math" ∈ tb ∧ Cond.code Lib.Math.min.name Lib.Math.min.code 2 (some .int) ∈ tb) ∨ (¬ (k = 997 ∨ k = 998) ∧ ∃ (y : MethodName) (b : ByteArray) (mL : Nat) (rt : Option FieldType) (ci : Nat) (co : Nat → Option mm_I), P k = some (y, b, mL, rt, ci, co) ∧ (Cond.methodLink own idx y ∈ tb ∨ ∃ host : String, Cond.methodLinkNest own idx y host ∈ nws) ∧ Cond.static y ∈ tb ∧ Cond.initialized y.cls ∈ tb ∧ y.cls ≠ "java/lang/invoke/MethodHandle" ∧ y.cls ≠ "java/lang/invoke/VarHandle" ∧ (parseMethodDescriptor y.desc).map (fun d => d.parameters.length) = some na))
  | _ => True
variable {p : Program} {l : Launch} {e : Env} {R : Room} {s : State} {m : MethodId} {args : Array Value} {below : List Frame} {meth : Method} {c : Code} {Q : State → Prop}
theorem mm_Wd_lo {M : mm_M} {H : Heap} (hW : mm_Wd base ext cA D cl M H) (hb : base ≤ H.size) : base + M.length ≤ H.size := by
  cases hM : M.length with
  | zero => omega
  | succ n =>
    have hl : n < M.length := by omega
    have h1 := hW n _ (mm_ws_at base ext cA (List.getElem?_eq_getElem hl))
    have h2 : base + n < H.size := h1.lt
    omega
theorem mm_W_size {M : mm_M} {H : Heap} {locs : List Loc} {cells slots : Nat} {g : JFrame} (hW : mm_Wd base ext cA D cl M H) (hb : base ≤ H.size) (hz : s.heap.size + cells = base + M.length) (kk : H.size = base + M.length → W p l e R s m args below meth c H locs cells slots Q g) : W p l e R s m args below meth c H locs cells slots Q g := by
  intro T hT Xs
  have h1 := Xs.heapSize
  rw [hT] at h1
  have h2 := mm_Wd_lo base ext cA D cl hW hb
  exact kk (by omega) T hT Xs
theorem mm_W_new {M : mm_M} {H : Heap} {locs : List Loc} {cells slots q : Nat} {ce : va_E} {g : JFrame} (hP : va_P D cl (mm_ws base ext cA M ++ [(q, ce)]) H) (hD : va_D (mm_A base) (mm_ws base ext cA M ++ [(q, ce)])) (hz : s.heap.size + cells = base + M.length + 1) (kk : q = base + M.length → W p l e R s m args below meth c H locs cells slots Q g) : W p l e R s m args below meth c H locs cells slots Q g := by
  intro T hT Xs
  have h1 := Xs.heapSize
  rw [hT] at h1
  have hlen : (mm_ws base ext cA M).length = M.length := by simp [mm_ws]
  have hq : (mm_ws base ext cA M ++ [(q, ce)])[M.length]? = some (q, ce) := by
    rw [List.getElem?_append_right (by omega), hlen, Nat.sub_self]; rfl
  have h2 : q < H.size := (hP _ _ hq).lt
  have h3 : base ≤ q := hD.2 _ _ hq
  have h4 : ¬ q < base + M.length := by
    intro hlt
    have hl : q - base < M.length := by omega
    have hk : (mm_ws base ext cA M ++ [(q, ce)])[q - base]? = some (base + (q - base), mm_ec base ext cA M[q - base]) := by
      rw [List.getElem?_append_left (by omega)]
      exact mm_ws_at base ext cA (List.getElem?_eq_getElem hl)
    have := hD.1 _ _ _ _ hk hq (by show base + (q - base) = q; omega)
    omega
  exact kk (by omega) T hT Xs
theorem mm_en_def (ty : FieldType) : mm_en base ext (defaultValue ty) = defaultValue ty := by
  cases ty <;> rfl
set_option maxHeartbeats 4000000 in
theorem mm_make_snd (hcl : mm_okC cl tb fty) {own nm : String} {cc : ByteArray} (hx : p.tables.exec = Jvm.exec) (hb : c.code = cc) (hown : s.vm.findClass own = some m.cls) (hts : ∀ w ∈ tb, w.before args s = true) (hKs : mm_Ks base ext cA D cl X sf sts sks nws lay s)
    {i : mm_I} {pc pc' : Nat} {st st' : List Value} {M M' : mm_M} (hi : mm_okI cl tb sf sts sks nws own nm cc pc i) (hj : mm_okJ cl tb nws lay fty nf li P own i) (h : mm_make nf li i pc st M = some (pc', st', M')) {H : Heap} {locs : List Loc} {cells slots : Nat} {ls : Array Slot} (hW : mm_Wd base ext cA D cl M H) (hS : va_S (mm_A base) s.heap H locs)
    (hz : s.heap.size + cells = base + M.length) (hbs : base ≤ s.heap.size) (hcells : cells + (M'.length - M.length) ≤ R.cells) (hslots : slots + (mm_sl M' - mm_sl M) ≤ R.slots) (hls : ls.size = c.maxLocals) (hfr : 1 ≤ R.frames) (hlo : 30 ≤ R.locals)
    (kk : ∀ (H' : Heap) (locs' : List Loc), mm_Wd base ext cA D cl M' H' → va_S (mm_A base) s.heap H' locs' → W p l e R s m args below meth c H' locs' (cells + (M'.length - M.length)) (slots + (mm_sl M' - mm_sl M)) Q (F0 m pc' ls (st'.map (mm_en base ext)))) :
    W p l e R s m args below meth c H locs cells slots Q (F0 m pc ls (st.map (mm_en base ext))) := by
  obtain ⟨ins, n, a, b, v, pl⟩ := i
  obtain ⟨hd, hi⟩ := hi
  have hA : ∀ q, s.heap.size ≤ q → mm_A base q := fun q h => Nat.le_trans hbs h
  cases ins with
  | new idx =>
    simp only [mm_make] at h
    obtain ⟨rfl, q, hq, w1, w2, w3, hlen, hdf⟩ := hj
    obtain ⟨g1, g2, g3⟩ := hcl _ q hq
    cases h
    have e1 : (M ++ [(.inr (.inr (a, nf a)) : mm_C)]).length - M.length = 1 := by simp
    have e2 : mm_sl (M ++ [(.inr (.inr (a, nf a)) : mm_C)]) - mm_sl M = q.2.2 := by
      rw [mm_sl_app]
      simp [mm_sl, mm_size, hlen]
    rw [e1] at hcells kk
    rw [e2] at hslots kk
    refine va_new (C := q.1) (T := q.2.1) (N := q.2.2) (fs := (nf a).map (mm_en base ext)) hx hb hts g1 (fty a) g2 hown (hts _ w1) (hts _ w2) (hts _ w3) hKs.1 hW (mm_D base ext cA M) hS hA hq (fun j hj => ?_) hcells hslots hd (fun q0 H1 hP1 hD1 hS1 => ?_)
    · rw [vp_V, List.getD_eq_getElem?_getD, List.getElem?_map, hdf j hj]
      exact (mm_en_def base ext _).symm
    · refine mm_W_new base ext cA D cl hP1 hD1 (by omega) (fun hq0 => ?_)
      subst hq0
      refine kk H1 locs ?_ hS1
      unfold mm_Wd
      rw [mm_ws_app]
      exact hP1
  | newarray t =>
    cases t with
    | int =>
      simp only [mm_make] at h
      have hn2 : n = 2 := hi
      subst hn2
      split at h
      · rename_i k st0
        split at h
        · cases h
        · rename_i hk
          cases h
          have hk1 : ¬ k < 0 := fun z => hk (Or.inl z)
          have hk2 : k.toNatClampNeg ≤ 1000 := Nat.not_lt.mp fun z => hk (Or.inr z)
          have e1 : (M ++ [(.inl (List.replicate k.toNatClampNeg 0) : mm_C)]).length - M.length = 1 := by simp
          have e2 : mm_sl (M ++ [(.inl (List.replicate k.toNatClampNeg 0) : mm_C)]) - mm_sl M = k.toNatClampNeg := by
            rw [mm_sl_app]
            simp [mm_sl, mm_size]
          rw [e1] at hcells kk
          rw [e2] at hslots kk
          refine va_newa (atype := .int) (ty := .int) (a0 := (k.toNatClampNeg, .inl (fun j => (List.replicate k.toNatClampNeg (0 : Int32)).getD j 0))) hx hb (hts _ hj) rfl hKs.1 hW (mm_D base ext cA M) hS hA (fun cB => ?_) hk1 rfl (by show _ * 4 ≤ _; omega) hcells hslots hd (fun q0 cB H1 hK1 hP1 hD1 hS1 => ?_)
          · rw [vp_cell_i]
            congr 1
            funext j9
            by_cases h9 : j9 < k.toNatClampNeg
            · simp [List.getD_eq_getElem?_getD, h9, defaultValue]
            · simp [List.getD_eq_getElem?_getD, h9, defaultValue]
          · have ecB : cB = cA 0 := Option.some.inj ((hK1.2 3 _ rfl).2.symm.trans (hKs.1.2 0 _ rfl).2)
            subst ecB
            refine mm_W_new base ext cA D cl hP1 hD1 (by omega) (fun hq0 => ?_)
            subst hq0
            refine kk H1 locs ?_ hS1
            unfold mm_Wd
            rw [mm_ws_app]
            simpa [mm_ec] using hP1
      · cases h
    | _ => simp [mm_make] at h
  | anewarray idx =>
    simp only [mm_make] at h
    have hn3 : n = 3 := hi
    subst hn3
    have w1 := hj
    split at h
    · rename_i k st0
      split at h
      · cases h
      · rename_i hk
        cases h
        have hk1 : ¬ k < 0 := fun z => hk (Or.inl z)
        have hk2 : k.toNatClampNeg ≤ 1000 := Nat.not_lt.mp fun z => hk (Or.inr z)
        have e1 : (M ++ [(.inr (.inl (1, List.replicate k.toNatClampNeg none)) : mm_C)]).length - M.length = 1 := by simp
        have e2 : mm_sl (M ++ [(.inr (.inl (1, List.replicate k.toNatClampNeg none)) : mm_C)]) - mm_sl M = k.toNatClampNeg := by
          rw [mm_sl_app]
          simp [mm_sl, mm_size]
        rw [e1] at hcells kk
        rw [e2] at hslots kk
        refine va_newq hx hb hown (hts _ w1) hKs.2.2.2.2.2.2.2.1 hKs.1 hW (mm_D base ext cA M) hS hA hk1 rfl (by omega) hcells hslots hd (fun q0 cB H1 hK1 hP1 hD1 hS1 => ?_)
        have ecB : cB = cA 1 := by
          obtain ⟨_, _, _, _, _, z1⟩ := (hK1.2 3 _ rfl).2
          obtain ⟨_, _, _, _, _, z2⟩ := (hKs.1.2 1 _ rfl).2
          exact Option.some.inj (z1.symm.trans z2)
        subst ecB
        refine mm_W_new base ext cA D cl hP1 hD1 (by omega) (fun hq0 => ?_)
        subst hq0
        refine kk H1 locs ?_ hS1
        unfold mm_Wd
        rw [mm_ws_app]
        have e3 : mm_ec base ext cA (.inr (.inl (1, List.replicate k.toNatClampNeg none))) = .inl (cA 1, k.toNatClampNeg, .inr (.inr (.inr (.inr (fun _ => none))))) := by
          simp only [mm_ec, List.length_replicate]
          have e4 : (fun j => Option.map (fun k => base + k) ((List.replicate k.toNatClampNeg (none : Option Nat)).getD j none)) = fun _ => none := by
            funext j9
            by_cases h9 : j9 < k.toNatClampNeg <;> simp [List.getD_eq_getElem?_getD, h9]
          rw [e4]
        rw [e3]
        exact hP1
    · cases h
  | multianewarray idx dd =>
    have hn4 : n = 4 := hi
    subst hn4
    by_cases h2 : dd = 2
    · subst h2
      simp only [mm_make] at h
      obtain ⟨w1, w3⟩ := hj
      split at h
      · rename_i k j st0
        split at h
        · cases h
        · rename_i hk
          cases h
          have hk1 : ¬ j < 0 := fun z => hk (Or.inl (Or.inl z))
          have hk2 : ¬ k < 0 := fun z => hk (Or.inl (Or.inr z))
          have hk3 : j.toNatClampNeg ≤ 1000 := Nat.not_lt.mp fun z => hk (Or.inr (Or.inl z))
          have hk4 : k.toNatClampNeg ≤ 1000 := Nat.not_lt.mp fun z => hk (Or.inr (Or.inr z))
          have e1 : (mm_multi M j.toNatClampNeg k.toNatClampNeg).length - M.length = 1 + j.toNatClampNeg := by simp [mm_multi]; omega
          have e2 : mm_sl (mm_multi M j.toNatClampNeg k.toNatClampNeg) - mm_sl M = j.toNatClampNeg + j.toNatClampNeg * k.toNatClampNeg := by
            unfold mm_multi
            rw [mm_sl_app]
            simp [mm_sl, mm_size]
          rw [e1] at hcells kk
          rw [e2] at hslots kk
          refine mm_W_size base ext cA D cl hW (Nat.le_trans hbs hS.1) hz (fun hsz => ?_)
          refine mm_mna base ext cA D cl lay hx hb hown (hts _ w1) hKs.2.2.2.2.2.2.2.2 (hts _ w3) hKs.1 hW hsz hS hk1 hk2 (by omega) (by omega) hcells hslots hd (fun H1 hW1 hS1 => ?_)
          have h9 := kk H1 locs hW1 hS1
          rw [show cells + 1 + j.toNatClampNeg = cells + (1 + j.toNatClampNeg) by omega, show slots + j.toNatClampNeg + j.toNatClampNeg * k.toNatClampNeg = slots + (j.toNatClampNeg + j.toNatClampNeg * k.toNatClampNeg) by omega]
          exact h9
      · cases h
    · unfold mm_make at h
      split at h <;> simp_all
  | aastore =>
    simp only [mm_make] at h
    have hn1 : n = 1 := hi
    subst hn1
    obtain ⟨q, hq, hql⟩ := hj
    split at h
    · rename_i v9 j a9 st0
      split at h
      · rename_i rs hM
        split at h
        · rename_i ci fs hV
          split at h
          · rename_i hc
            obtain ⟨rfl, hj0, hjl⟩ := hc
            cases h
            have hin : vp_in j rs.length := fun z => by
              rcases z with z | z
              · exact hj0 z
              · omega
            have e1 : (M.set a9 (.inr (.inl (1, rs.set j.toNatClampNeg (some v9))))).length - M.length = 0 := by simp
            have e2 : mm_sl (M.set a9 (.inr (.inl (1, rs.set j.toNatClampNeg (some v9))))) - mm_sl M = 0 := by
              rw [mm_sl_set hM (by simp [mm_size])]; omega
            rw [e1] at kk
            rw [e2] at kk
            subst hql
            refine va_astq (r := q) (vs := fs.map (mm_en base ext)) hx hb hKs.1 hW (mm_D base ext cA M) hS a9 1 v9 ci (mm_ws_at base ext cA hM) rfl (mm_ws_at base ext cA hV) hq hin hd (fun H1 locs1 hP1 hD1 hS1 => ?_)
            refine kk H1 locs1 ?_ hS1
            unfold mm_Wd
            rw [mm_ws_set]
            have e3 : mm_ec base ext cA (.inr (.inl (1, rs.set j.toNatClampNeg (some v9)))) = .inl (cA 1, rs.length, .inr (.inr (.inr (.inr (va_up (fun j => Option.map (fun k => base + k) (rs.getD j none)) j.toNatClampNeg (some (base + v9))))))) := by
              simp only [mm_ec, List.length_set]
              have e4 : (fun j9 => Option.map (fun k => base + k) ((rs.set j.toNatClampNeg (some v9)).getD j9 none)) = va_up (fun j => Option.map (fun k => base + k) (rs.getD j none)) j.toNatClampNeg (some (base + v9)) := by
                funext j9
                show Option.map (fun k => base + k) ((rs.set j.toNatClampNeg (some v9)).getD j9 none) = if j9 = j.toNatClampNeg then some (base + v9) else Option.map (fun k => base + k) (rs.getD j9 none)
                rw [List.getD_eq_getElem?_getD, List.getD_eq_getElem?_getD]
                by_cases h9 : j9 = j.toNatClampNeg
                · subst h9
                  rw [List.getElem?_set_self hjl, if_pos rfl]; rfl
                · rw [List.getElem?_set_ne (Ne.symm h9), if_neg h9]
              rw [e4]
            rw [e3]
            exact hP1
          · cases h
        · cases h
      · cases h
    · cases h
  | invokespecial idx =>
    simp only [mm_make] at h
    obtain ⟨rfl, hj⟩ := hj
    split at h
    · rename_i hk
      rcases hj with ⟨-, w1, w2, w3⟩ | ⟨hk2, -⟩
      · split at h
        · rename_i v9 st0
          split at h
          · rename_i hsum
            cases h
            rw [Nat.sub_self, Nat.sub_self] at kk
            have hcat : ((List.map (mm_en base ext) st').map fun v => v.category).sum ≤ 8 := by
              rw [List.map_map]
              have : ((fun v => v.category) ∘ mm_en base ext) = Value.category := by funext z; exact mm_en_cat base ext z
              rw [this]
              exact hsum
            exact W.objInit hx hb hown (hts _ w1) (hts _ w2) (hts _ w3) rfl hls rfl hd hfr (by have h8 := hcat; show 2 * 0 + _ + 12 ≤ _; omega) (kk H locs hW hS)
          · cases h
        · cases h
      · exact absurd hk hk2
    · cases h
  | invokestatic idx =>
    simp only [mm_make] at h
    obtain ⟨rfl, hj⟩ := hj
    have hcat : ∀ st9 : List Value, (st9.map Value.category).sum ≤ 8 → ((List.map (mm_en base ext) st9).map fun v => v.category).sum + 13 ≤ R.locals := by
      intro st9 hsum
      rw [List.map_map]
      have : ((fun v => v.category) ∘ mm_en base ext) = Value.category := by funext z; exact mm_en_cat base ext z
      rw [this]
      omega
    split at h
    · rename_i hk
      rcases hj with ⟨-, w1, w2, w3, w4⟩ | ⟨hk2, -⟩ | ⟨hk2, -⟩
      · split at h
        · split at h
          · rename_i hsum
            cases h
            rw [Nat.sub_self, Nat.sub_self] at kk
            exact va_mmax hx hb hls.symm hown (hts _ w1) (hts _ w2) (hts _ w3) (hts _ w4) hfr (hcat _ hsum) (by omega) (by omega) hd (kk H locs hW hS)
          · cases h
        · cases h
      · omega
      · exact absurd (Or.inl hk) hk2
    · rename_i hk7
      split at h
      · rename_i hk
        rcases hj with ⟨hk2, -⟩ | ⟨-, w1, w2, w3, w4⟩ | ⟨hk2, -⟩
        · exact absurd hk2 hk7
        · split at h
          · split at h
            · rename_i hsum
              cases h
              rw [Nat.sub_self, Nat.sub_self] at kk
              exact va_mmin hx hb hls.symm hown (hts _ w1) (hts _ w2) (hts _ w3) (hts _ w4) hfr (hcat _ hsum) (by omega) (by omega) hd (kk H locs hW hS)
            · cases h
          · cases h
        · exact absurd (Or.inr hk) hk2
      · cases h
  | _ => simp [mm_make] at h
end MM5
