section MM2
variable (base : Nat) (ext : Nat → Option Nat) (cA : Nat → ClassId) (D : va_G) (cl : List vw_C) (tb : List Cond) (X : mm_X) (sf : Nat → String × String) (sts : List (String × String × String × Value)) (sks : List (String × Nat × String × Nat)) (nws : List Cond) (lay : String) (fty : Nat → Nat → FieldType)
/-- what a state must hold beside the memory: the tables, and what lies outside -/
def mm_Ks (U : State) : Prop :=
  va_K D cl [(cA 0, .int), (cA 1, .object lay), (cA 2, .array .int)] U ∧
  (∀ (n : Nat) (xs : List Int32), X n = some (.inl xs) → ∃ t : Nat, ext n = some t ∧ va_T (mm_xt n) t xs.length (fun j => .int (xs.getD j 0)) (mm_A base) U U.heap) ∧
  (∀ (n : Nat) (fs : List Value), X n = some (.inr fs) → ∃ t : Nat, ext n = some t ∧ va_O "java/lang/String" t (mm_A base) U U.heap ∧ ∀ (k : Nat) (v : Value), fs[k]? = some v → va_OF "java/lang/String" (sf k).1 (sf k).2 (mm_en base ext v) t (mm_A base) U U.heap) ∧
  (∀ w ∈ sts, va_Z w.1 w.2.1 w.2.2.1 (mm_en base ext w.2.2.2) (mm_A base) U U.heap) ∧
  (∀ w ∈ sks, ∃ t : Nat, ext w.2.2.2 = some t ∧ vk_R w.1 w.2.1 w.2.2.1 t U) ∧
  (∀ (own : String) (i : Nat) (C f d host : String), Cond.fieldLinkNest own i C f d host ∈ nws → va_Nw (.fieldLinkNest own i C f d host) U) ∧
  (∀ (own : String) (i : Nat) (y : MethodName) (host : String), Cond.methodLinkNest own i y host ∈ nws → va_Nw (.methodLinkNest own i y host) U) ∧
  va_AO lay U ∧ (Cond.arrayOver (.array .int)).before #[] U = true
def mm_len (i : Instr) : Nat := match i with
  | .iconst _ | .lconst _ | .iload_n _ | .lload_n _ | .aload_n _ | .istore_n _ | .lstore_n _ | .astore_n _ => 1
  | .iadd | .isub | .imul | .iand | .ior | .ixor | .ishl | .ishr | .iushr | .idiv | .irem | .ineg | .i2l | .i2c | .i2b | .ladd | .lsub | .lmul | .ldiv | .lrem | .lcmp | .dup | .dup2 | .pop => 1
  | .iaload | .baload | .aaload | .iastore | .aastore | .arraylength | .ireturn | .lreturn | .areturn | .return_ => 1
  | .bipush _ | .ldc _ | .iload _ | .lload _ | .aload _ | .istore _ | .lstore _ | .astore _ | .newarray _ => 2
  | .multianewarray _ _ => 4
  | _ => 3
/-- that an entry of a method's table is what its bytes say, and what it needs of the words -/
def mm_okI (own nm : String) (cc : ByteArray) (pc : Nat) (i : mm_I) : Prop :=
  decode cc pc = .ok (i.1, i.2.1) ∧ match i with
  | (.ldc idx, n, _, _, v, _) => n = 2 ∧ ((∃ x : Int32, v = .int x ∧ Cond.constant own idx x ∈ tb) ∨ (∃ (tx : String) (k : Nat), v = .retAddr k ∧ (own, idx, tx, k) ∈ sks))
  | (.ldc_w idx, n, _, _, v, _) => n = 3 ∧ ∃ x : Int32, v = .int x ∧ Cond.constant own idx x ∈ tb
  | (.ldc2_w idx, n, _, _, v, _) => n = 3 ∧ ∃ x : Int64, v = .long x ∧ Cond.constantLong own idx x ∈ tb
  | (.getstatic idx, n, _, _, v, _) => n = 3 ∧ ∃ C f d : String, (C, f, d, v) ∈ sts ∧ (Cond.fieldLink own idx C f d ∈ tb ∨ ∃ host : String, Cond.fieldLinkNest own idx C f d host ∈ nws)
  | (.goto off, n, a, _) => n = 3 ∧ (pc : Int) + off = (a : Int)
  | (.ifCond _ off, n, a, _) => n = 3 ∧ (pc : Int) + off = (a : Int)
  | (.if_icmp _ off, n, a, _) => n = 3 ∧ (pc : Int) + off = (a : Int)
  | (.tableswitch d _ _ os, _) => 0 ≤ (pc : Int) + d ∧ ∀ o ∈ os.toList, 0 ≤ (pc : Int) + o
  | (.lookupswitch d ps, _) => (∀ x : Int, 0 ≤ (pc : Int) + Op.lookupswitch.offset ps.toList d x) ∧ (ps.toList.zip (ps.toList.drop 1)).all (fun (a, next) => a.1 < next.1) = true
  | (.getfield idx, n, a, b, _) => n = 3 ∧ ((a = 99 ∧ cl[a]? = none ∧ Cond.fieldLink own idx "java/lang/String" (sf b).1 (sf b).2 ∈ tb) ∨ ∃ q : vw_C, cl[a]? = some q ∧ ¬ a = 99 ∧ b < q.2.2 ∧ (Cond.fieldLink own idx (q.2.1 b).1 (q.2.1 b).2.1 (q.2.1 b).2.2.1 ∈ tb ∨ ∃ host : String, Cond.fieldLinkNest own idx (q.2.1 b).1 (q.2.1 b).2.1 (q.2.1 b).2.2.1 host ∈ nws))
  | (.putfield idx, n, a, b, _) => n = 3 ∧ ∃ q : vw_C, cl[a]? = some q ∧ b < q.2.2 ∧ (((q.2.1 b).2.2.2 = false ∧ (Cond.fieldLink own idx (q.2.1 b).1 (q.2.1 b).2.1 (q.2.1 b).2.2.1 ∈ tb ∨ ∃ host : String, Cond.fieldLinkNest own idx (q.2.1 b).1 (q.2.1 b).2.1 (q.2.1 b).2.2.1 host ∈ nws)) ∨ ((q.2.1 b).2.2.2 = true ∧ Cond.fieldLink own idx (q.2.1 b).1 (q.2.1 b).2.1 (q.2.1 b).2.2.1 ∈ tb ∧ nm = "<init>" ∧ (q.2.1 b).1 = own))
  | (ins, n, _) => n = mm_len ins
/-- the words of the kinds of objects -/
def mm_okC : Prop := ∀ (ci : Nat) (q : vw_C), cl[ci]? = some q → (∀ w ∈ u_ws q.1 q.2.1 q.2.2, w ∈ tb) ∧ (∀ k, k < q.2.2 → parseFieldDescriptor (q.2.1 k).2.2.1 = some (fty ci k)) ∧ (∀ a, a < q.2.2 → ∀ b, b < q.2.2 → a ≠ b → (q.2.1 a).2.1 ≠ (q.2.1 b).2.1)
theorem mm_okf_spec {ty : FieldType} {v : Value} (h : mm_okf ty v = true) : narrow ty (mm_en base ext v) = mm_en base ext v ∧ fits ty (mm_en base ext v) = true := by
  unfold mm_okf at h
  split at h
  · exact ⟨rfl, rfl⟩
  · rename_i x
    have hx : x = 0 ∨ x = 1 := by simpa using h
    rcases hx with rfl | rfl
    · show narrow .boolean (.int 0) = .int 0 ∧ fits .boolean (.int 0) = true
      decide +kernel
    · show narrow .boolean (.int 1) = .int 1 ∧ fits .boolean (.int 1) = true
      decide +kernel
  · exact ⟨rfl, rfl⟩
  · rename_i n
    show narrow _ (va_rf (ext n)) = va_rf (ext n) ∧ fits _ (va_rf (ext n)) = true
    cases ext n <;> exact ⟨rfl, rfl⟩
  · exact ⟨rfl, rfl⟩
  · cases h
theorem mm_at_spec {xs : List Int32} {i x : Int32} (h : mm_at xs i = some x) : vp_in i xs.length ∧ xs.getD i.toNatClampNeg 0 = x := by
  unfold mm_at at h
  split at h
  · cases h
  · rename_i hn
    obtain ⟨hl, he⟩ := List.getElem?_eq_some_iff.mp h
    refine ⟨fun q => ?_, ?_⟩
    · rcases q with q | q
      · exact hn q
      · omega
    · rw [List.getD_eq_getElem?_getD, h]; rfl
theorem mm_atq_spec {rs : List (Option Nat)} {i : Int32} {r : Option Nat} (h : mm_atq rs i = some r) : vp_in i rs.length ∧ rs.getD i.toNatClampNeg none = r := by
  unfold mm_atq at h
  split at h
  · cases h
  · rename_i hn
    obtain ⟨hl, he⟩ := List.getElem?_eq_some_iff.mp h
    refine ⟨fun q => ?_, ?_⟩
    · rcases q with q | q
      · exact hn q
      · omega
    · rw [List.getD_eq_getElem?_getD, h]; rfl
theorem mm_upd {xs : List Int32} {i : Nat} {x : Int32} (h : i < xs.length) : (fun j => (xs.set i x).getD j 0) = upd (fun j => xs.getD j 0) i x := by
  funext j
  show (xs.set i x).getD j 0 = if j = i then x else xs.getD j 0
  rw [List.getD_eq_getElem?_getD, List.getD_eq_getElem?_getD]
  by_cases hj : j = i
  · subst hj
    rw [List.getElem?_set_self h, if_pos rfl]; rfl
  · rw [List.getElem?_set_ne (Ne.symm hj), if_neg hj]
variable {p : Program} {l : Launch} {e : Env} {R : Room} {s : State} {m : MethodId} {args : Array Value} {below : List Frame} {meth : Method} {c : Code} {Q : State → Prop}
set_option maxHeartbeats 4000000 in
theorem mm_step_snd (hcl : mm_okC cl tb fty) {own nm : String} {cc : ByteArray} (hx : p.tables.exec = Jvm.exec) (hb : c.code = cc) (hown : s.vm.findClass own = some m.cls) (hts : ∀ w ∈ tb, w.before args s = true) (hname : meth.name = nm) (hKs : mm_Ks base ext cA D cl X sf sts sks nws lay s)
    {i : mm_I} {pc pc' : Nat} {L L' : mm_L} {st st' : List Value} {M M' : mm_M} (hi : mm_okI cl tb sf sts sks nws own nm cc pc i) (h : mm_step fty X i pc L st M = some (pc', L', st', M')) {H : Heap} {locs : List Loc} {cells slots : Nat} {ls : Array Slot} (hW : mm_Wd base ext cA D cl M H) (hS : va_S (mm_A base) s.heap H locs) (hL : mm_LH base ext ls L)
    (kk : ∀ (H' : Heap) (locs' : List Loc) (ls' : Array Slot), mm_Wd base ext cA D cl M' H' → va_S (mm_A base) s.heap H' locs' → mm_LH base ext ls' L' → W p l e R s m args below meth c H' locs' cells slots Q (F0 m pc' ls' (st'.map (mm_en base ext)))) :
    W p l e R s m args below meth c H locs cells slots Q (F0 m pc ls (st.map (mm_en base ext))) := by
  obtain ⟨ins, n, a, b, v, pl⟩ := i
  obtain ⟨hd, hi⟩ := hi
  cases ins with
  | iconst k =>
    simp only [mm_okI, mm_len] at hi
    subst hi
    simp only [mm_step] at h
    cases h
    exact lv_iconst hx hb hd rfl (kk _ _ _ hW hS hL)
  | bipush k =>
    simp only [mm_okI, mm_len] at hi
    subst hi
    simp only [mm_step] at h
    cases h
    exact lv_bipush hx hb hd rfl (kk _ _ _ hW hS hL)
  | sipush k =>
    simp only [mm_okI, mm_len] at hi
    subst hi
    simp only [mm_step] at h
    cases h
    exact lv_sipush hx hb hd rfl (kk _ _ _ hW hS hL)
  | lconst k =>
    simp only [mm_okI, mm_len] at hi
    subst hi
    simp only [mm_step] at h
    cases h
    exact lv_lconst hx hb hd rfl (kk _ _ _ hW hS hL)
  | ldc idx =>
    obtain ⟨rfl, hi⟩ := hi
    simp only [mm_step] at h
    cases h
    rcases hi with ⟨x, rfl, hw⟩ | ⟨tx, k, rfl, hw⟩
    · exact lv_ldc hx hb hown (hts _ hw) hd (kk _ _ _ hW hS hL)
    · obtain ⟨t, ht, hR⟩ := hKs.2.2.2.2.1 _ hw
      have hk := kk _ _ _ hW hS hL
      simp only [List.map_cons, mm_en, ht, va_rf] at hk
      exact va_ldcS hx hb hown hR hd hk
  | ldc_w idx =>
    obtain ⟨rfl, x, rfl, hw⟩ := hi
    simp only [mm_step] at h
    cases h
    exact lv_ldcw hx hb hown (hts _ hw) hd (kk _ _ _ hW hS hL)
  | ldc2_w idx =>
    obtain ⟨rfl, x, rfl, hw⟩ := hi
    simp only [mm_step] at h
    cases h
    exact lv_ldc2 hx hb hown (hts _ hw) hd (kk _ _ _ hW hS hL)
  | getstatic idx =>
    obtain ⟨rfl, C, f, d, hw, hl⟩ := hi
    simp only [mm_step] at h
    cases h
    rcases hl with hl | ⟨host, hl⟩
    · exact va_gets hx hb (hKs.2.2.2.1 _ hw) hS hown (hts _ hl) (fun _ q => q) hd (kk _ _ _ hW hS hL)
    · exact va_getsN hx hb (hKs.2.2.2.1 _ hw) hS hown (va_Nw.use rfl (hKs.2.2.2.2.2.1 _ _ _ _ _ _ hl)) (fun _ q => q) hd (kk _ _ _ hW hS hL)
  | iload k =>
    simp only [mm_okI, mm_len] at hi
    subst hi
    simp only [mm_step] at h
    split at h
    · rename_i x hk
      cases h
      exact lv_iload hx hb hd (mm_LH_at base ext hL hk) (kk _ _ _ hW hS hL)
    · cases h
  | iload_n k =>
    simp only [mm_okI, mm_len] at hi
    subst hi
    simp only [mm_step] at h
    split at h
    · rename_i x hk
      cases h
      exact lv_iload_n hx hb hd rfl (mm_LH_at base ext hL hk) (kk _ _ _ hW hS hL)
    · cases h
  | lload k =>
    simp only [mm_okI, mm_len] at hi
    subst hi
    simp only [mm_step] at h
    split at h
    · rename_i x hk
      cases h
      exact lv_lload hx hb hd (mm_LH_at base ext hL hk) (kk _ _ _ hW hS hL)
    · cases h
  | lload_n k =>
    simp only [mm_okI, mm_len] at hi
    subst hi
    simp only [mm_step] at h
    split at h
    · rename_i x hk
      cases h
      exact lv_lload_n hx hb hd rfl (mm_LH_at base ext hL hk) (kk _ _ _ hW hS hL)
    · cases h
  | aload k =>
    simp only [mm_okI, mm_len] at hi
    subst hi
    simp only [mm_step] at h
    split at h
    · rename_i x hk
      cases h
      exact lv_aload hx hb hd (mm_LH_at base ext hL hk) (kk _ _ _ hW hS hL)
    · rename_i x hk
      cases h
      have hk2 := mm_LH_at base ext hL hk
      have hkk := kk _ _ _ hW hS hL
      simp only [List.map_cons, mm_en] at hkk hk2
      cases hx9 : ext x with
      | none => rw [hx9] at hkk hk2; exact lv_aloadN hx hb hd hk2 hkk
      | some t => rw [hx9] at hkk hk2; exact lv_aload hx hb hd hk2 hkk
    · cases h
  | aload_n k =>
    simp only [mm_okI, mm_len] at hi
    subst hi
    simp only [mm_step] at h
    split at h
    · rename_i x hk
      cases h
      exact lv_aload_n hx hb hd rfl (mm_LH_at base ext hL hk) (kk _ _ _ hW hS hL)
    · rename_i x hk
      cases h
      have hk2 := mm_LH_at base ext hL hk
      have hkk := kk _ _ _ hW hS hL
      simp only [List.map_cons, mm_en] at hkk hk2
      cases hx9 : ext x with
      | none => rw [hx9] at hkk hk2; exact lv_aload_nN hx hb hd rfl hk2 hkk
      | some t => rw [hx9] at hkk hk2; exact lv_aload_n hx hb hd rfl hk2 hkk
    · cases h
  | istore k =>
    simp only [mm_okI, mm_len] at hi
    subst hi
    simp only [mm_step] at h
    split at h
    · split at h
      · rename_i hk
        cases h
        exact lv_istore hx hb hd hL hk rfl (fun ls' hl' => kk _ _ _ hW hS (mm_LH_sto1 base ext hk hl'))
      · cases h
    · cases h
  | istore_n k =>
    simp only [mm_okI, mm_len] at hi
    subst hi
    simp only [mm_step] at h
    split at h
    · split at h
      · rename_i hk
        cases h
        exact lv_istore_n hx hb hd rfl hL hk rfl (fun ls' hl' => kk _ _ _ hW hS (mm_LH_sto1 base ext hk hl'))
      · cases h
    · cases h
  | lstore k =>
    simp only [mm_okI, mm_len] at hi
    subst hi
    simp only [mm_step] at h
    split at h
    · split at h
      · rename_i hk
        cases h
        exact lv_lstore hx hb hd hL hk rfl (fun ls' hl' => kk _ _ _ hW hS (mm_LH_sto2 base ext hk hl'))
      · cases h
    · cases h
  | lstore_n k =>
    simp only [mm_okI, mm_len] at hi
    subst hi
    simp only [mm_step] at h
    split at h
    · split at h
      · rename_i hk
        cases h
        exact lv_lstore_n hx hb hd rfl hL hk rfl (fun ls' hl' => kk _ _ _ hW hS (mm_LH_sto2 base ext hk hl'))
      · cases h
    · cases h
  | astore k =>
    simp only [mm_okI, mm_len] at hi
    subst hi
    simp only [mm_step] at h
    split at h
    · split at h
      · rename_i hk
        cases h
        exact lv_astore hx hb hd hL hk rfl (fun ls' hl' => kk _ _ _ hW hS (mm_LH_sto1 base ext hk hl'))
      · cases h
    · split at h
      · rename_i x st0 hk
        cases h
        have kk2 : ∀ ls', lv_has ls' L.length ((_, mm_en base ext (.retAddr x)) :: (mm_asc base ext L 0).filter (fun q => !(q.1 == _) && !(q.1 + 1 == _ && q.2.category == 2))) → _ := fun ls' hl' => kk _ _ ls' hW hS (mm_LH_sto1 base ext hk hl')
        simp only [List.map_cons, mm_en] at kk2 ⊢
        cases hx9 : ext x with
        | none => rw [hx9] at kk2; exact lv_astoreN hx hb hd hL hk rfl kk2
        | some t => rw [hx9] at kk2; exact lv_astore hx hb hd hL hk rfl kk2
      · cases h
    · cases h
  | astore_n k =>
    simp only [mm_okI, mm_len] at hi
    subst hi
    simp only [mm_step] at h
    split at h
    · split at h
      · rename_i hk
        cases h
        exact lv_astore_n hx hb hd rfl hL hk rfl (fun ls' hl' => kk _ _ _ hW hS (mm_LH_sto1 base ext hk hl'))
      · cases h
    · split at h
      · rename_i x st0 hk
        cases h
        have kk2 : ∀ ls', lv_has ls' L.length ((_, mm_en base ext (.retAddr x)) :: (mm_asc base ext L 0).filter (fun q => !(q.1 == _) && !(q.1 + 1 == _ && q.2.category == 2))) → _ := fun ls' hl' => kk _ _ ls' hW hS (mm_LH_sto1 base ext hk hl')
        simp only [List.map_cons, mm_en] at kk2 ⊢
        cases hx9 : ext x with
        | none => rw [hx9] at kk2; exact lv_astore_nN hx hb hd rfl hL hk rfl kk2
        | some t => rw [hx9] at kk2; exact lv_astore_n hx hb hd rfl hL hk rfl kk2
      · cases h
    · cases h
  | iinc k n9 =>
    simp only [mm_okI, mm_len] at hi
    subst hi
    simp only [mm_step] at h
    split at h
    · rename_i x hk
      split at h
      · rename_i hk2
        cases h
        obtain ⟨j, hj⟩ := List.getElem?_of_mem ((mm_asc_mem base ext L 0 k (.int x)).mpr ⟨.int x, Nat.zero_le _, by simpa using hk, rfl⟩)
        exact lv_iinc hx hb hd hL hj rfl hk2 rfl (fun ls' hl' => kk _ _ _ hW hS (mm_LH_sto1 base ext (v := .int (x + Int32.ofInt n9)) hk2 hl'))
      · cases h
    · cases h
  | iadd =>
    simp only [mm_okI, mm_len] at hi
    subst hi
    simp only [mm_step] at h
    split at h
    · cases h
      exact lv_iadd hx hb hd (kk _ _ _ hW hS hL)
    · cases h
  | isub =>
    simp only [mm_okI, mm_len] at hi
    subst hi
    simp only [mm_step] at h
    split at h
    · cases h
      exact lv_isub hx hb hd (kk _ _ _ hW hS hL)
    · cases h
  | imul =>
    simp only [mm_okI, mm_len] at hi
    subst hi
    simp only [mm_step] at h
    split at h
    · cases h
      exact lv_imul hx hb hd (kk _ _ _ hW hS hL)
    · cases h
  | iand =>
    simp only [mm_okI, mm_len] at hi
    subst hi
    simp only [mm_step] at h
    split at h
    · cases h
      exact lv_iand hx hb hd (kk _ _ _ hW hS hL)
    · cases h
  | ior =>
    simp only [mm_okI, mm_len] at hi
    subst hi
    simp only [mm_step] at h
    split at h
    · cases h
      exact lv_ior hx hb hd (kk _ _ _ hW hS hL)
    · cases h
  | ixor =>
    simp only [mm_okI, mm_len] at hi
    subst hi
    simp only [mm_step] at h
    split at h
    · cases h
      exact lv_ixor hx hb hd (kk _ _ _ hW hS hL)
    · cases h
  | ishl =>
    simp only [mm_okI, mm_len] at hi
    subst hi
    simp only [mm_step] at h
    split at h
    · cases h
      exact lv_ishl hx hb hd (kk _ _ _ hW hS hL)
    · cases h
  | ishr =>
    simp only [mm_okI, mm_len] at hi
    subst hi
    simp only [mm_step] at h
    split at h
    · cases h
      exact lv_ishr hx hb hd (kk _ _ _ hW hS hL)
    · cases h
  | ladd =>
    simp only [mm_okI, mm_len] at hi
    subst hi
    simp only [mm_step] at h
    split at h
    · cases h
      exact lv_ladd hx hb hd (kk _ _ _ hW hS hL)
    · cases h
  | lsub =>
    simp only [mm_okI, mm_len] at hi
    subst hi
    simp only [mm_step] at h
    split at h
    · cases h
      exact lv_lsub hx hb hd (kk _ _ _ hW hS hL)
    · cases h
  | lmul =>
    simp only [mm_okI, mm_len] at hi
    subst hi
    simp only [mm_step] at h
    split at h
    · cases h
      exact lv_lmul hx hb hd (kk _ _ _ hW hS hL)
    · cases h
  | ineg =>
    simp only [mm_okI, mm_len] at hi
    subst hi
    simp only [mm_step] at h
    split at h
    · cases h
      exact lv_ineg hx hb hd (kk _ _ _ hW hS hL)
    · cases h
  | lcmp =>
    simp only [mm_okI, mm_len] at hi
    subst hi
    simp only [mm_step] at h
    split at h
    · cases h
      exact W.lcmp hx hb hd (kk _ _ _ hW hS hL)
    · cases h
  | i2l =>
    simp only [mm_okI, mm_len] at hi
    subst hi
    simp only [mm_step] at h
    split at h
    · cases h
      exact lv_i2l hx hb hd rfl (kk _ _ _ hW hS hL)
    · cases h
  | i2c =>
    simp only [mm_okI, mm_len] at hi
    subst hi
    simp only [mm_step] at h
    split at h
    · cases h
      exact lv_i2c hx hb hd rfl (kk _ _ _ hW hS hL)
    · cases h
  | i2b =>
    simp only [mm_okI, mm_len] at hi
    subst hi
    simp only [mm_step] at h
    split at h
    · cases h
      exact lv_i2b hx hb hd rfl (kk _ _ _ hW hS hL)
    · cases h
  | iushr =>
    simp only [mm_okI, mm_len] at hi
    subst hi
    simp only [mm_step] at h
    split at h
    · cases h
      exact lv_iushr hx hb hd rfl (kk _ _ _ hW hS hL)
    · cases h
  | idiv =>
    simp only [mm_okI, mm_len] at hi
    subst hi
    simp only [mm_step] at h
    split at h
    · split at h
      · cases h
      · rename_i hne
        cases h
        exact lv_idiv hx hb hd hne (kk _ _ _ hW hS hL)
    · cases h
  | irem =>
    simp only [mm_okI, mm_len] at hi
    subst hi
    simp only [mm_step] at h
    split at h
    · split at h
      · cases h
      · rename_i hne
        cases h
        exact lv_irem hx hb hd hne (kk _ _ _ hW hS hL)
    · cases h
  | ldiv =>
    simp only [mm_okI, mm_len] at hi
    subst hi
    simp only [mm_step] at h
    split at h
    · split at h
      · cases h
      · rename_i hne
        cases h
        exact lv_ldiv hx hb hd hne (kk _ _ _ hW hS hL)
    · cases h
  | lrem =>
    simp only [mm_okI, mm_len] at hi
    subst hi
    simp only [mm_step] at h
    split at h
    · split at h
      · cases h
      · rename_i hne
        cases h
        exact lv_lrem hx hb hd hne (kk _ _ _ hW hS hL)
    · cases h
  | dup =>
    simp only [mm_okI, mm_len] at hi
    subst hi
    simp only [mm_step] at h
    split at h
    · cases h
      exact lv_dup hx hb hd rfl (kk _ _ _ hW hS hL)
    · cases h
      exact lv_dup hx hb hd rfl (kk _ _ _ hW hS hL)
    · cases h
  | dup2 =>
    simp only [mm_okI, mm_len] at hi
    subst hi
    simp only [mm_step] at h
    split at h
    · cases h
      exact lv_dup2_11 hx hb hd rfl rfl (kk _ _ _ hW hS hL)
    · cases h
  | pop =>
    simp only [mm_okI, mm_len] at hi
    subst hi
    simp only [mm_step] at h
    split at h
    · cases h
      exact lv_pop hx hb hd rfl (kk _ _ _ hW hS hL)
    · cases h
  | goto off =>
    obtain ⟨rfl, hi⟩ := hi
    simp only [mm_step] at h
    cases h
    exact lv_goto hx hb hd hi (kk _ _ _ hW hS hL)
  | ifCond cnd off =>
    obtain ⟨rfl, hi⟩ := hi
    cases cnd with
    | eq =>
      simp only [mm_step] at h
      split at h
      · cases h
        refine lv_if_eq hx hb hd hi (fun q => ?_) (fun q => ?_)
        · have hk := kk _ _ _ hW hS hL
          rw [if_pos q] at hk
          exact hk
        · have hk := kk _ _ _ hW hS hL
          rw [if_neg q] at hk
          exact hk
      · cases h
    | ne =>
      simp only [mm_step] at h
      split at h
      · cases h
        refine lv_if_ne hx hb hd hi (fun q => ?_) (fun q => ?_)
        · have hk := kk _ _ _ hW hS hL
          rw [if_pos q] at hk
          exact hk
        · have hk := kk _ _ _ hW hS hL
          rw [if_neg (fun z => z q)] at hk
          exact hk
      · cases h
    | lt =>
      simp only [mm_step] at h
      split at h
      · cases h
        refine lv_if_lt hx hb hd hi (fun q => ?_) (fun q => ?_)
        · have hk := kk _ _ _ hW hS hL
          rw [if_pos q] at hk
          exact hk
        · have hk := kk _ _ _ hW hS hL
          rw [if_neg q] at hk
          exact hk
      · cases h
    | ge =>
      simp only [mm_step] at h
      split at h
      · cases h
        refine lv_if_ge hx hb hd hi (fun q => ?_) (fun q => ?_)
        · have hk := kk _ _ _ hW hS hL
          rw [if_pos q] at hk
          exact hk
        · have hk := kk _ _ _ hW hS hL
          rw [if_neg q] at hk
          exact hk
      · cases h
    | gt =>
      simp only [mm_step] at h
      split at h
      · cases h
        refine lv_if_gt hx hb hd hi (fun q => ?_) (fun q => ?_)
        · have hk := kk _ _ _ hW hS hL
          rw [if_pos q] at hk
          exact hk
        · have hk := kk _ _ _ hW hS hL
          rw [if_neg q] at hk
          exact hk
      · cases h
    | le =>
      simp only [mm_step] at h
      split at h
      · cases h
        refine lv_if_le hx hb hd hi (fun q => ?_) (fun q => ?_)
        · have hk := kk _ _ _ hW hS hL
          rw [if_pos q] at hk
          exact hk
        · have hk := kk _ _ _ hW hS hL
          rw [if_neg q] at hk
          exact hk
      · cases h
  | if_icmp cnd off =>
    obtain ⟨rfl, hi⟩ := hi
    cases cnd with
    | eq =>
      simp only [mm_step] at h
      split at h
      · cases h
        refine lv_icmp_eq hx hb hd hi (fun q => ?_) (fun q => ?_)
        · have hk := kk _ _ _ hW hS hL
          rw [if_pos q] at hk
          exact hk
        · have hk := kk _ _ _ hW hS hL
          rw [if_neg q] at hk
          exact hk
      · cases h
    | ne =>
      simp only [mm_step] at h
      split at h
      · cases h
        refine lv_icmp_ne hx hb hd hi (fun q => ?_) (fun q => ?_)
        · have hk := kk _ _ _ hW hS hL
          rw [if_pos q] at hk
          exact hk
        · have hk := kk _ _ _ hW hS hL
          rw [if_neg (fun z => z q)] at hk
          exact hk
      · cases h
    | lt =>
      simp only [mm_step] at h
      split at h
      · cases h
        refine lv_icmp_lt hx hb hd hi (fun q => ?_) (fun q => ?_)
        · have hk := kk _ _ _ hW hS hL
          rw [if_pos q] at hk
          exact hk
        · have hk := kk _ _ _ hW hS hL
          rw [if_neg q] at hk
          exact hk
      · cases h
    | ge =>
      simp only [mm_step] at h
      split at h
      · cases h
        refine lv_icmp_ge hx hb hd hi (fun q => ?_) (fun q => ?_)
        · have hk := kk _ _ _ hW hS hL
          rw [if_pos q] at hk
          exact hk
        · have hk := kk _ _ _ hW hS hL
          rw [if_neg q] at hk
          exact hk
      · cases h
    | gt =>
      simp only [mm_step] at h
      split at h
      · cases h
        refine lv_icmp_gt hx hb hd hi (fun q => ?_) (fun q => ?_)
        · have hk := kk _ _ _ hW hS hL
          rw [if_pos q] at hk
          exact hk
        · have hk := kk _ _ _ hW hS hL
          rw [if_neg q] at hk
          exact hk
      · cases h
    | le =>
      simp only [mm_step] at h
      split at h
      · cases h
        refine lv_icmp_le hx hb hd hi (fun q => ?_) (fun q => ?_)
        · have hk := kk _ _ _ hW hS hL
          rw [if_pos q] at hk
          exact hk
        · have hk := kk _ _ _ hW hS hL
          rw [if_neg q] at hk
          exact hk
      · cases h
  | tableswitch d lo hi9 os =>
    simp only [mm_step] at h
    obtain ⟨hi1, hi2⟩ := hi
    split at h
    · rename_i x st0
      split at h
      · rename_i hq
        cases h
        exact lv_tableOut hx hb hd hq (Int.toNat_of_nonneg hi1).symm (kk _ _ _ hW hS hL)
      · rename_i hq
        split at h
        · rename_i off ho
          cases h
          exact lv_tableIn hx hb hd (fun z => hq (Or.inl z)) (fun z => hq (Or.inr z)) ho (Int.toNat_of_nonneg (hi2 off (Array.mem_toList_iff.mpr (Array.mem_of_getElem? ho)))).symm (kk _ _ _ hW hS hL)
        · cases h
    · cases h
  | lookupswitch d ps =>
    simp only [mm_step] at h
    obtain ⟨hi1, hi2⟩ := hi
    split at h
    · rename_i x st0
      cases h
      exact lv_lookup hx hb hd hi2 rfl (Int.toNat_of_nonneg (hi1 x.toInt)).symm (kk _ _ _ hW hS hL)
    · cases h
  | getfield idx =>
    obtain ⟨rfl, hi⟩ := hi
    simp only [mm_step] at h
    split at h
    · rename_i o st0
      split at h
      · rename_i v9 hf
        cases h
        have hkk := kk _ _ _ hW hS hL
        unfold mm_fld at hf
        split at hf
        · rename_i k
          split at hf
          · rename_i c9 fs hM
            split at hf
            · rename_i hc9
              subst hc9
              have hg := hW k _ (mm_ws_at base ext cA hM)
              have hg' := hg
              obtain ⟨r, hr, -⟩ := hg'
              rcases hi with ⟨h99, hno, hl⟩ | ⟨q, hq, h99, hbq, hl⟩
              · rw [hno] at hr; cases hr
              · obtain ⟨g1, g2, g3⟩ := hcl _ q hq
                have hv : (fs.map (mm_en base ext))[b]? = some (mm_en base ext v9) := by rw [List.getElem?_map, hf]; rfl
                rcases hl with hl | ⟨host, hl⟩
                · exact va_get (C := q.1) (T := q.2.1) (N := q.2.2) hx hb hts g1 hown hKs.1 hW k (mm_ws_at base ext cA hM) hq b hbq (hts _ hl) (fun _ z => z) hv hd hkk
                · exact va_getN (C := q.1) (T := q.2.1) (N := q.2.2) hx hb hts g1 hown hKs.1 hW k (mm_ws_at base ext cA hM) hq b hbq (va_Nw.use rfl (hKs.2.2.2.2.2.1 _ _ _ _ _ _ hl)) (fun _ z => z) hv hd hkk
            · cases hf
          · cases hf
        · rename_i n9
          split at hf
          · rename_i fs hX9
            split at hf
            · rename_i h99
              obtain ⟨t, ht, -, hOF⟩ := hKs.2.2.1 _ _ hX9
              rcases hi with ⟨-, -, hl⟩ | ⟨q, hq, hn99, -⟩
              · simp only [List.map_cons, mm_en, ht, va_rf]
                exact vk_getf hx hb (hOF b v9 hf) hS hown (hts _ hl) (fun _ z => z) hd hkk
              · exact absurd h99 hn99
            · cases hf
          · cases hf
        · cases hf
      · cases h
    · cases h
  | putfield idx =>
    obtain ⟨rfl, q, hq, hbq, hi⟩ := hi
    simp only [mm_step] at h
    split at h
    · rename_i v9 o st0
      split at h
      · rename_i M1 hf
        cases h
        unfold mm_put at hf
        split at hf
        · rename_i k
          split at hf
          · rename_i c9 fs hM
            split at hf
            · rename_i hc9
              obtain ⟨rfl, hlen, hok⟩ := hc9
              cases hf
              obtain ⟨g1, g2, g3⟩ := hcl _ q hq
              obtain ⟨n1, n2⟩ := mm_okf_spec base ext hok
              have hlen' : b < (fs.map (mm_en base ext)).length := by simpa using hlen
              have key : ∀ (H1 : Heap) (locs1 : List Loc), va_P D cl ((mm_ws base ext cA M).set k (base + k, .inr (c9, (fs.map (mm_en base ext)).set b (mm_en base ext v9)))) H1 → va_D (mm_A base) ((mm_ws base ext cA M).set k (base + k, .inr (c9, (fs.map (mm_en base ext)).set b (mm_en base ext v9)))) → va_S (mm_A base) s.heap H1 locs1 → W p l e R s m args below meth c H1 locs1 cells slots Q (F0 m (pc + 3) ls (st'.map (mm_en base ext))) := by
                intro H1 locs1 hP1 _ hS1
                refine kk H1 locs1 ls ?_ hS1 hL
                unfold mm_Wd
                rw [mm_ws_set]
                simpa [mm_ec, List.map_set] using hP1
              rcases hi with ⟨hfin, hl | ⟨host, hl⟩⟩ | ⟨hfin, hl, hini, hdecl⟩
              · exact va_put (C := q.1) (T := q.2.1) (N := q.2.2) hx hb hts g1 (fty c9) g2 g3 hown hKs.1 hW (mm_D base ext cA M) hS k (mm_ws_at base ext cA hM) hq b hbq (hts _ hl) (fun _ z => z) hfin (g2 b hbq) n1 n2 hlen' hd key
              · exact va_putN (C := q.1) (T := q.2.1) (N := q.2.2) hx hb hts g1 (fty c9) g2 g3 hown hKs.1 hW (mm_D base ext cA M) hS k (mm_ws_at base ext cA hM) hq b hbq (va_Nw.use rfl (hKs.2.2.2.2.2.1 _ _ _ _ _ _ hl)) (fun _ z => z) hfin (g2 b hbq) n1 n2 hlen' hd key
              · exact va_putF (C := q.1) (T := q.2.1) (N := q.2.2) hx hb hts g1 (fty c9) g2 g3 hown hKs.1 hW (mm_D base ext cA M) hS k (mm_ws_at base ext cA hM) hq b hbq (hts _ hl) (fun _ z => z) hfin (hname.trans hini) hdecl (g2 b hbq) n1 n2 hlen' hd key
            · cases hf
          · cases hf
        · cases hf
      · cases h
    · cases h
  | iaload =>
    simp only [mm_okI, mm_len] at hi
    subst hi
    simp only [mm_step] at h
    split at h
    · rename_i j o st0
      split at h
      · rename_i xs hr
        split at h
        · rename_i x hxj
          cases h
          obtain ⟨a1, a2⟩ := mm_at_spec hxj
          have hkk := kk _ _ _ hW hS hL
          unfold mm_row at hr
          split at hr
          · rename_i k
            split at hr
            · rename_i xs9 hM
              cases hr
              refine va_iald hx hb hKs.1 hW k 0 (mm_ws_at base ext cA hM) rfl a1 hd ?_
              rw [a2]
              exact hkk
            · cases hr
          · rename_i n9
            split at hr
            · rename_i h50
              split at hr
              · rename_i xs9 hX9
                cases hr
                obtain ⟨t, ht, cell, t1, t2, t3, t4, t5, t6, t7⟩ := hKs.2.1 _ _ hX9
                simp only [List.map_cons, mm_en, ht, va_rf]
                have hlt : j.toNatClampNeg < xs.length := Nat.not_le.mp fun q => a1 (Or.inr q)
                have hty : mm_xt n9 = .int := if_pos h50
                rw [hty] at t2
                exact W.iald (v := .int x) hx hb (by rw [hS.2.1 t (Array.getElem?_eq_some_iff.mp t1).1 t7]; exact t1) t2 t3 (fun q => by rcases q with q | q; exact a1 (Or.inl q); omega) (by rw [t6 _ hlt]; show some (Value.int (xs.getD _ 0)) = _; rw [a2]) rfl rfl hd hkk
              · cases hr
            · cases hr
          · cases hr
        · cases h
      · cases h
    · cases h
  | baload =>
    simp only [mm_okI, mm_len] at hi
    subst hi
    simp only [mm_step] at h
    split at h
    · rename_i j n9 st0
      split at h
      · cases h
      · rename_i h50
        split at h
        · rename_i xs hX9
          split at h
          · rename_i x hxj
            cases h
            obtain ⟨a1, a2⟩ := mm_at_spec hxj
            have hkk := kk _ _ _ hW hS hL
            obtain ⟨t, ht, cell, t1, t2, t3, t4, t5, t6, t7⟩ := hKs.2.1 _ _ hX9
            simp only [List.map_cons, mm_en, ht, va_rf]
            have hlt : j.toNatClampNeg < xs.length := Nat.not_le.mp fun q => a1 (Or.inr q)
            have hty : mm_xt n9 = .byte := if_neg h50
            rw [hty] at t2
            exact W.bald (v := .int x) hx hb (by rw [hS.2.1 t (Array.getElem?_eq_some_iff.mp t1).1 t7]; exact t1) t2 t3 (fun q => by rcases q with q | q; exact a1 (Or.inl q); omega) (by rw [t6 _ hlt]; show some (Value.int (xs.getD _ 0)) = _; rw [a2]) rfl rfl hd hkk
          · cases h
        · cases h
    · cases h
  | iastore =>
    simp only [mm_okI, mm_len] at hi
    subst hi
    simp only [mm_step] at h
    split at h
    · rename_i x j o st0
      split at h
      · rename_i M1 hf
        cases h
        unfold mm_sti at hf
        split at hf
        · rename_i k
          split at hf
          · rename_i xs hM
            split at hf
            · cases hf
            · rename_i hn
              split at hf
              · rename_i hlt
                cases hf
                have a1 : vp_in j xs.length := fun q => by
                  rcases q with q | q
                  · exact hn q
                  · omega
                refine va_iast hx hb hKs.1 hW (mm_D base ext cA M) hS k 0 (mm_ws_at base ext cA hM) rfl a1 hd (fun H1 locs1 hP1 _ hS1 => ?_)
                refine kk H1 locs1 ls ?_ hS1 hL
                · unfold mm_Wd
                  rw [mm_ws_set]
                  have e1 : mm_ec base ext cA (.inl (xs.set j.toNatClampNeg x)) = .inl (cA 0, xs.length, .inl (upd (fun j => xs.getD j 0) j.toNatClampNeg x)) := by
                    simp only [mm_ec, List.length_set, mm_upd hlt]
                  rw [e1]
                  exact hP1
              · cases hf
          · cases hf
        · cases hf
      · cases h
    · cases h
  | aaload =>
    simp only [mm_okI, mm_len] at hi
    subst hi
    simp only [mm_step] at h
    split at h
    · rename_i j k st0
      split at h
      · rename_i t9 rs hM
        split at h
        · rename_i ht9
          split at h
          · rename_i r hxj
            cases h
            obtain ⟨a1, a2⟩ := mm_atq_spec hxj
            have hkk := kk _ _ _ hW hS hL
            have e9 : mm_en base ext (mm_rf r) = va_rf (r.map (fun k => base + k)) := by cases r <;> rfl
            rw [List.map_cons, e9, ← a2] at hkk
            have hlt : j.toNatClampNeg < rs.length := Nat.not_le.mp fun q => a1 (Or.inr q)
            rcases ht9 with rfl | rfl
            · exact W.aald (ty := .object lay) (v := va_rf ((rs.getD j.toNatClampNeg none).map (fun k => base + k))) hx hb (hW k _ (mm_ws_at base ext cA hM)) ((hKs.1.2 1 _ rfl).1 rs.length (fun j => va_rf ((rs.getD j none).map (fun k => base + k)))) rfl (fun q => by cases q) (by show ¬ (j < 0 ∨ (arrV _ _ _).slots.size ≤ _); rw [arrV_size]; exact a1) (by show (arrV _ _ _).slots[_]? = _; rw [arrV_read _ _ hlt]) rfl rfl hd hkk
            · exact W.aald (ty := .array .int) (v := va_rf ((rs.getD j.toNatClampNeg none).map (fun k => base + k))) hx hb (hW k _ (mm_ws_at base ext cA hM)) ((hKs.1.2 2 _ rfl).1 rs.length (fun j => va_rf ((rs.getD j none).map (fun k => base + k)))) rfl (fun q => by cases q) (by show ¬ (j < 0 ∨ (arrV _ _ _).slots.size ≤ _); rw [arrV_size]; exact a1) (by show (arrV _ _ _).slots[_]? = _; rw [arrV_read _ _ hlt]) rfl rfl hd hkk
          · cases h
        · cases h
      · cases h
    · cases h
  | arraylength =>
    simp only [mm_okI, mm_len] at hi
    subst hi
    simp only [mm_step] at h
    split at h
    · rename_i n9 st0
      split at h
      · rename_i xs hX9
        cases h
        have hkk := kk _ _ _ hW hS hL
        obtain ⟨t, ht, cell, t1, t2, t3, t4, t5, t6, t7⟩ := hKs.2.1 _ _ hX9
        simp only [List.map_cons, mm_en, ht, va_rf]
        exact W.alen (n := Int32.ofNat xs.length) hx hb (by rw [hS.2.1 t (Array.getElem?_eq_some_iff.mp t1).1 t7]; exact t1) t2 t5 rfl rfl hd hkk
      · cases h
    · cases h
  | _ => simp [mm_step] at h
end MM2
