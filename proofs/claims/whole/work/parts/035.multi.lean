section MM3
variable (base : Nat) (ext : Nat → Option Nat) (cA : Nat → ClassId) (D : va_G) (cl : List vw_C) (lay : String)
theorem mm_outer (c : ClassId) (N h0 : Nat) : ∀ i : Nat, Jvm.Free.Multi.outerC c N h0 i = arrV c N (fun j => va_rf (if j < i then some (h0 + 1 + j) else none)) := by
  intro i
  induction i with
  | zero =>
    show ({ cls := c, slots := Array.replicate N .null, vm := .none } : Cell) = _
    rw [arrV_new]
    refine congrArg (arrV c N) (funext fun j => ?_)
    simp [va_rf]
  | succ i ih =>
    show (Jvm.Free.Multi.outerC c N h0 i).setSlot i (.ref (h0 + 1 + i)) = _
    rw [ih, arrV_store]
    refine congrArg (arrV c N) (funext fun j => ?_)
    by_cases e : j = i
    · subst e
      simp [updV, va_rf]
    · by_cases h : j < i
      · simp [updV, e, h, Nat.lt_succ_of_lt h]
      · simp [updV, e, h, show ¬ j < i + 1 by omega]
def mm_multi (M : mm_M) (N K : Nat) : mm_M := M ++ (.inr (.inl (2, (List.range N).map (fun j => some (M.length + 1 + j)))) :: List.replicate N (.inl (List.replicate K 0)))
variable {p : Program} {l : Launch} {e : Env} {R : Room} {s : State} {m : MethodId} {args : Array Value} {below : List Frame} {meth : Method} {c : Code} {Q : State → Prop}
theorem mm_mna {cc : ByteArray} (hx : p.tables.exec = Jvm.exec) (hb : c.code = cc) {own : String} {index : Nat} (hown : s.vm.findClass own = some m.cls) (hclink : (Cond.classLink own index ("[" ++ (FieldType.array .int).toString)).before args s = true) (hover : (Cond.arrayOver (.array .int)).before args s = true) (harr : (Cond.arrayClass .int).before args s = true)
    (hK : va_K D cl [(cA 0, .int), (cA 1, .object lay), (cA 2, .array .int)] s) {M : mm_M} {H : Heap} {locs : List Loc} {cells slots pc : Nat} {ls : Array Slot} {rest : List Value} (hW : mm_Wd base ext cA D cl M H) (hsz : H.size = base + M.length) (hS : va_S (mm_A base) s.heap H locs) {n k : Int32} (hn : ¬ n < 0) (hk : ¬ k < 0) (hb1 : n.toNatClampNeg * 4 ≤ 536870912) (hb2 : k.toNatClampNeg * 4 ≤ 536870912)
    (hcells : cells + (1 + n.toNatClampNeg) ≤ R.cells) (hslots : slots + (n.toNatClampNeg + n.toNatClampNeg * k.toNatClampNeg) ≤ R.slots) (hdg : decode cc pc = .ok (.multianewarray index 2, 4))
    (kk : ∀ H1 : Heap, mm_Wd base ext cA D cl (mm_multi M n.toNatClampNeg k.toNatClampNeg) H1 → va_S (mm_A base) s.heap H1 locs → W p l e R s m args below meth c H1 locs (cells + 1 + n.toNatClampNeg) (slots + n.toNatClampNeg + n.toNatClampNeg * k.toNatClampNeg) Q (F0 m (pc + 4) ls (.ref (base + M.length) :: rest))) : W p l e R s m args below meth c H locs cells slots Q (F0 m pc ls (.int k :: .int n :: rest)) := by
  intro T hT Xs
  obtain ⟨vm₁, cB, comp, -, fA, fC, hO, -, X', step⟩ := Xs.multianewarray2F hx hown hclink hover harr (g := F0 m pc ls (.int k :: .int n :: rest)) rfl (by rw [hb]; exact hdg) rfl hn hk hb1 hb2 (by omega) rfl rfl hcells hslots
  have e2 : cB = cA 2 := Option.some.inj (fA.symm.trans (hK.2 2 _ rfl).2)
  have e0 : comp = cA 0 := Option.some.inj (fC.symm.trans (hK.2 0 _ rfl).2)
  subst e2
  subst e0
  generalize hF : Jvm.Free.Multi.fill (T.setVm vm₁) (cA 2) (cA 0) n.toNatClampNeg k.toNatClampNeg (defaultValue .int) n.toNatClampNeg = F at X' step
  have hTh : (T.setVm vm₁).heap = H := hT
  obtain ⟨f1, f2, -, -⟩ := Jvm.Free.Multi.fill_facts (T.setVm vm₁) (cA 2) (cA 0) n.toNatClampNeg k.toNatClampNeg (defaultValue .int) n.toNatClampNeg
  rw [hF, hTh] at f1 f2
  have hold : ∀ x : Nat, x < H.size → F.heap[x]? = H[x]? := fun x hx => by
    have := Jvm.Free.Multi.fill_old (T.setVm vm₁) (cA 2) (cA 0) n.toNatClampNeg k.toNatClampNeg (defaultValue .int) (a := x) (by rw [hTh]; exact hx) n.toNatClampNeg
    rw [hF, hTh] at this
    exact this
  have hrow : ∀ j : Nat, j < n.toNatClampNeg → F.heap[H.size + 1 + j]? = some (Jvm.Free.Multi.innerC (cA 0) k.toNatClampNeg (defaultValue .int)) := fun j hj => by
    have := Jvm.Free.Multi.fill_inner (T.setVm vm₁) (cA 2) (cA 0) n.toNatClampNeg k.toNatClampNeg (defaultValue .int) n.toNatClampNeg j hj
    rw [hF, hTh] at this
    exact this
  have hWn : mm_Wd base ext cA D cl (mm_multi M n.toNatClampNeg k.toNatClampNeg) F.heap := by
    intro i q hq
    rw [mm_ws_get] at hq
    unfold mm_multi at hq
    by_cases h1 : i < M.length
    · rw [List.getElem?_append_left h1] at hq
      have hq' : (mm_ws base ext cA M)[i]? = some q := by rw [mm_ws_get]; exact hq
      have h3 := hW i q hq'
      exact h3.kept (hold q.1 h3.lt)
    · rw [List.getElem?_append_right (by omega)] at hq
      cases h2 : i - M.length with
      | zero =>
        rw [h2] at hq
        simp only [List.getElem?_cons_zero, Option.map_some, Option.some.injEq] at hq
        subst hq
        have hi : base + i = H.size := by omega
        show F.heap[base + i]? = some (vp_cell _ _)
        rw [hi, f2, mm_outer]
        simp only [mm_ec, vp_cell, List.length_map, List.length_range]
        congr 2
        funext j
        by_cases hj : j < n.toNatClampNeg
        · have e8 : H.size + 1 + j = base + (M.length + 1 + j) := by omega
          simp [hj, List.getD_eq_getElem?_getD, e8]
        · simp [hj, List.getD_eq_getElem?_getD]
      | succ j =>
        rw [h2] at hq
        simp only [List.getElem?_cons_succ] at hq
        by_cases hj : j < n.toNatClampNeg
        · rw [List.getElem?_replicate_of_lt hj] at hq
          simp only [Option.map_some, Option.some.injEq] at hq
          subst hq
          have hi : base + i = H.size + 1 + j := by omega
          show F.heap[base + i]? = some (vp_cell _ _)
          rw [hi, hrow j hj]
          simp only [mm_ec, vp_cell, List.length_replicate]
          congr 1
          have e9 : (fun j => Value.int ((List.replicate k.toNatClampNeg (0 : Int32)).getD j 0)) = fun _ => defaultValue .int := by
            funext j9
            by_cases h9 : j9 < k.toNatClampNeg
            · simp [List.getD_eq_getElem?_getD, h9, defaultValue]
            · simp [List.getD_eq_getElem?_getD, h9, defaultValue]
          rw [e9]
          exact arrV_new _ _ _
        · rw [List.getElem?_eq_none (by simp; omega)] at hq
          cases hq
  obtain ⟨t, a1, b1⟩ := kk F.heap hWn ⟨by rw [f1]; have := hS.1; omega, fun x h1 h2 => (hold x (Nat.lt_of_lt_of_le h1 hS.1)).trans (hS.2.1 x h1 h2), hS.2.2⟩ F rfl X'
  refine ⟨t, step t ?_, b1⟩
  have e : T.heap.size = base + M.length := by rw [hT, hsz]
  rw [e]
  exact a1
end MM3
