section MM6
variable (base : Nat) (ext : Nat → Option Nat) (cA : Nat → ClassId) (D : va_G) (cl : List vw_C) (tb : List Cond) (X : mm_X) (sf : Nat → String × String) (sts : List (String × String × String × Value)) (sks : List (String × Nat × String × Nat)) (nws : List Cond) (lay : String) (fty : Nat → Nat → FieldType) (nf : Nat → List Value) (li : Nat) (P : Nat → Option mm_Mt)
def mm_Pc (as : List Value) (M : mm_M) : Array Value → State → Prop := fun v U => v = (as.map (mm_en base ext)).toArray ∧ U.heap.size = base + M.length ∧ mm_Wd base ext cA D cl M U.heap ∧ mm_Ks base ext cA D cl X sf sts sks nws lay U
def mm_Qc (r : Option Value) (M' : mm_M) : Array Value → State → Outcome → State → Prop := fun _ st oc t => oc = .returned (r.map (mm_en base ext)) ∧ mm_Wd base ext cA D cl M' t.heap ∧ va_F (mm_A base) st t
def mm_rm (d mc ms : Nat) : Room := { frames := d, cells := mc, slots := ms, locals := 60 * d }
/-- a method's contract at depth d for these arguments and this memory -/
def mm_Met (l : Launch) (d : Nat) (as : List Value) (M : mm_M) (r : Option Value) (M' : mm_M) (y : MethodName) (b : ByteArray) (mL : Nat) (rt : Option FieldType) : Prop :=
  Met l y (.code y b mL rt :: tb) (mm_rm d (M'.length - M.length) (mm_sl M' - mm_sl M)) (mm_Pc base ext cA D cl X sf sts sks nws lay as M) (mm_Qc base ext cA D cl r M') (M'.length - M.length) (mm_sl M' - mm_sl M) (mm_A base)
theorem mm_Ks_moved {s U : State} {H : Heap} {locs : List Loc} (h : mm_Ks base ext cA D cl X sf sts sks nws lay s) (hS : va_S (mm_A base) s.heap H locs) (hH : U.heap = H) (hW : s.WarmedH U.vm) : mm_Ks base ext cA D cl X sf sts sks nws lay U := by
  subst hH
  refine ⟨va_K.moved hW.alike h.1, fun n xs hX => ?_, fun n fs hX => ?_, fun w hw => ?_, fun w hw => ?_, fun a b c d e f hw => (h.2.2.2.2.2.1 _ _ _ _ _ _ hw).warmF hW, fun a b c d hw => (h.2.2.2.2.2.2.1 _ _ _ _ hw).warmM hW, h.2.2.2.2.2.2.2.1.moved hW.alike, arrayOver_alikeB hW.alike h.2.2.2.2.2.2.2.2⟩
  · obtain ⟨t, ht, hT⟩ := h.2.1 n xs hX
    exact ⟨t, ht, (hT.moved hW.alike).kept hS.2.1⟩
  · obtain ⟨t, ht, hO, hF⟩ := h.2.2.1 n fs hX
    exact ⟨t, ht, (hO.moved hW.alike).kept hS.2.1, fun k v hv => ((hF k v hv).moved hW.alike).kept hS.2.1⟩
  · exact ((h.2.2.2.1 w hw).moved hW.alike).kept hS.2.1
  · obtain ⟨t, ht, hR⟩ := h.2.2.2.2.1 w hw
    exact ⟨t, ht, hR.warm hW⟩
theorem mm_Ks_calling {U : State} {g : JFrame} {mk : MethodId} {a : Array Value} (h : mm_Ks base ext cA D cl X sf sts sks nws lay U) : mm_Ks base ext cA D cl X sf sts sks nws lay (U.calling g mk a) := by
  refine ⟨va_K.moved (u := U) (Vm.Alike.refl U.vm) h.1, fun n xs hX => ?_, fun n fs hX => ?_, fun w hw => ?_, fun w hw => ?_, fun a b c d e f hw => va_Nw.same (u := U) rfl rfl (h.2.2.2.2.2.1 _ _ _ _ _ _ hw), fun a b c d hw => va_Nw.same (u := U) rfl rfl (h.2.2.2.2.2.2.1 _ _ _ _ hw), va_AO.moved (u := U) (Vm.Alike.refl U.vm) h.2.2.2.2.2.2.2.1, arrayOver_alikeB (s := U) (Vm.Alike.refl U.vm) h.2.2.2.2.2.2.2.2⟩
  · obtain ⟨t, ht, hT⟩ := h.2.1 n xs hX
    exact ⟨t, ht, va_T.moved (u := U) (Vm.Alike.refl U.vm) hT⟩
  · obtain ⟨t, ht, hO, hF⟩ := h.2.2.1 n fs hX
    exact ⟨t, ht, va_O.moved (u := U) (Vm.Alike.refl U.vm) hO, fun k v hv => va_OF.moved (u := U) (Vm.Alike.refl U.vm) (hF k v hv)⟩
  · exact va_Z.moved (u := U) (Vm.Alike.refl U.vm) (h.2.2.2.1 w hw)
  · obtain ⟨t, ht, hR⟩ := h.2.2.2.2.1 w hw
    exact ⟨t, ht, vk_R.same (u := U) rfl hR⟩
theorem mm_blind (as : List Value) (M : mm_M) : FrameBlind (mm_Pc base ext cA D cl X sf sts sks nws lay as M) := by
  intro a U g mk h
  obtain ⟨h1, h2, h3, h4⟩ := h
  exact ⟨h1, h2, h3, mm_Ks_calling base ext cA D cl X sf sts sks nws lay h4⟩
variable {p : Program} {l : Launch} {e : Env} {R : Room} {s : State} {m : MethodId} {args : Array Value} {below : List Frame} {meth : Method} {c : Code} {Q : State → Prop}
theorem mm_callR {H : Heap} {locs : List Loc} {cells slots mc ms pc : Nat} {ls : Array Slot} {st0 rest : List Value} {a : Array Value} {r : Option Value} {M' : mm_M} (hr : va_Run p l e R s m args below meth c H locs cells slots mc ms (F0 m pc ls st0) rest (mm_Qc base ext cA D cl r M' a) (mm_A base)) (hS : va_S (mm_A base) s.heap H locs)
    (kk : ∀ (H1 : Heap) (locs1 : List Loc), mm_Wd base ext cA D cl M' H1 → va_S (mm_A base) s.heap H1 locs1 → W p l e R s m args below meth c H1 locs1 (cells + mc) (slots + ms) Q (F0 m (pc + 3) ls ((r.map (mm_en base ext)).toList ++ rest))) : W p l e R s m args below meth c H locs cells slots Q (F0 m pc ls st0) := by
  intro T hT Xs
  obtain ⟨v, st₀, t, T', L, h0, X', hL, e1, e2, ⟨hv, hw, hz, hk⟩, st⟩ := hr T hT Xs
  cases hv
  rw [h0] at hz hk
  obtain ⟨t2, a1, b1⟩ := kk T'.heap (locs ++ L) (by rw [e1]; exact hw)
    ⟨Nat.le_trans hS.1 (by rw [e1]; exact hz), fun q h1 h2 => by rw [e1, hk q (Nat.lt_of_lt_of_le h1 hS.1) h2]; exact hS.2.1 q h1 h2, fun q hq => by
      rcases List.mem_append.mp hq with h | h
      · exact hS.2.2 q h
      · exact hL q h⟩ T' rfl X'
  exact ⟨t2, st t2 a1, b1⟩
theorem mm_good {Ts ws : List Cond} {cw : Cond} (hT : ∀ w ∈ tb, w ∈ Ts) (hg : ∀ w ∈ tb, goodWord w = true) (hc : cw ∈ tb) (hws : ∀ w ∈ ws, w = cw ∨ w ∈ tb) : GoodIn Ts ws := by
  intro w hw
  have : w ∈ tb := by
    rcases hws w hw with h | h
    · rw [h]; exact hc
    · exact h
  exact ⟨hT w this, good_of_word (hg w this)⟩
end MM6
