/-! what the start gives -/
theorem mc_good : ∀ w ∈ mc_tb, goodWord w = true := fun w hw => (List.mem_filter.mp hw).2
theorem mc_tb_in {w : Cond} (h1 : w ∈ lw_tbl) (h2 : goodWord w = true) : w ∈ mc_tb := List.mem_filter.mpr ⟨h1, h2⟩
set_option maxRecDepth 100000 in
theorem mc_cl_ws : ∀ q ∈ mc_cl, ∀ w ∈ u_ws q.1 q.2.1 q.2.2, w ∈ lw_tbl ∧ goodWord w = true := by decide +kernel
set_option maxRecDepth 100000 in
theorem mc_cl_ty : (List.range 7).all (fun ci => match mc_cl[ci]? with | some q => (List.range q.2.2).all (fun k => decide (parseFieldDescriptor (q.2.1 k).2.2.1 = some (mc_fty ci k))) | none => false) = true := by decide +kernel
set_option maxRecDepth 100000 in
theorem mc_cl_nm : (List.range 7).all (fun ci => match mc_cl[ci]? with | some q => (List.range q.2.2).all (fun a => (List.range q.2.2).all (fun b => decide (a ≠ b → (q.2.1 a).2.1 ≠ (q.2.1 b).2.1))) | none => false) = true := by decide +kernel
theorem mc_cl_len : mc_cl.length = 7 := rfl
theorem mc_okC : mm_okC mc_cl mc_tb mc_fty := by
  intro ci q h
  have hlt : ci < 7 := by have := (List.getElem?_eq_some_iff.mp h).1; rw [mc_cl_len] at this; exact this
  have h2 := List.all_eq_true.mp mc_cl_ty ci (List.mem_range.mpr hlt)
  have h3 := List.all_eq_true.mp mc_cl_nm ci (List.mem_range.mpr hlt)
  rw [h] at h2 h3
  dsimp only at h2 h3
  refine ⟨fun w hw => ?_, fun k hk => ?_, fun a ha b hb hab => ?_⟩
  · have := mc_cl_ws q (List.mem_of_getElem? h) w hw
    exact mc_tb_in this.1 this.2
  · exact of_decide_eq_true (List.all_eq_true.mp h2 k (List.mem_range.mpr hk))
  · have := List.all_eq_true.mp h3 a (List.mem_range.mpr ha)
    exact of_decide_eq_true (List.all_eq_true.mp this b (List.mem_range.mpr hb)) hab
def ls_R : String := "SmallerInTheShopLaw"
theorem ls_sp {l : List (Nat × mm_I)} (k : Nat) (h1 : mk_T ls_R "" code (l.take k) = true) (h2 : mk_T ls_R "" code (l.drop k) = true) : mk_T ls_R "" code l = true := by
  rw [← List.take_append_drop k l]
  unfold mk_T at h1 h2 ⊢
  rw [List.all_append, h1, h2]
  rfl
set_option maxRecDepth 100000 in
theorem ls_T0 : mk_T ls_R "" code ((mp_law).take 32) = true := by decide +kernel
set_option maxRecDepth 100000 in
theorem ls_T1 : mk_T ls_R "" code ((mp_law.drop 32).take 32) = true := by decide +kernel
set_option maxRecDepth 100000 in
theorem ls_T2 : mk_T ls_R "" code ((mp_law.drop 64).take 32) = true := by decide +kernel
set_option maxRecDepth 100000 in
theorem ls_T3 : mk_T ls_R "" code ((mp_law.drop 96).take 32) = true := by decide +kernel
set_option maxRecDepth 100000 in
theorem ls_T4 : mk_T ls_R "" code ((mp_law.drop 128).take 32) = true := by decide +kernel
set_option maxRecDepth 100000 in
theorem ls_T5 : mk_T ls_R "" code ((mp_law.drop 160).take 32) = true := by decide +kernel
set_option maxRecDepth 100000 in
theorem ls_T6 : mk_T ls_R "" code ((mp_law.drop 192).take 32) = true := by decide +kernel
set_option maxRecDepth 100000 in
theorem ls_T7 : mk_T ls_R "" code ((mp_law.drop 224).take 32) = true := by decide +kernel
set_option maxRecDepth 100000 in
theorem ls_T8 : mk_T ls_R "" code ((mp_law.drop 256).take 32) = true := by decide +kernel
set_option maxRecDepth 100000 in
theorem ls_T9 : mk_T ls_R "" code ((mp_law.drop 288).take 32) = true := by decide +kernel
set_option maxRecDepth 100000 in
theorem ls_T10 : mk_T ls_R "" code ((mp_law.drop 320).take 32) = true := by decide +kernel
set_option maxRecDepth 100000 in
theorem ls_T11 : mk_T ls_R "" code ((mp_law.drop 352).take 32) = true := by decide +kernel
set_option maxRecDepth 100000 in
theorem ls_T12 : mk_T ls_R "" code ((mp_law.drop 384).take 32) = true := by decide +kernel
set_option maxRecDepth 100000 in
theorem ls_T13 : mk_T ls_R "" code ((mp_law.drop 416).take 32) = true := by decide +kernel
set_option maxRecDepth 100000 in
theorem ls_T14 : mk_T ls_R "" code ((mp_law.drop 448).take 32) = true := by decide +kernel
set_option maxRecDepth 100000 in
theorem ls_T15 : mk_T ls_R "" code ((mp_law.drop 480).take 32) = true := by decide +kernel
set_option maxRecDepth 100000 in
theorem ls_T16 : mk_T ls_R "" code ((mp_law.drop 512).take 32) = true := by decide +kernel
set_option maxRecDepth 100000 in
theorem ls_T17 : mk_T ls_R "" code ((mp_law.drop 544).take 32) = true := by decide +kernel
set_option maxRecDepth 100000 in
theorem ls_T18 : mk_T ls_R "" code ((mp_law.drop 576).take 32) = true := by decide +kernel
set_option maxRecDepth 100000 in
theorem ls_T19 : mk_T ls_R "" code ((mp_law.drop 608).take 32) = true := by decide +kernel
set_option maxRecDepth 100000 in
theorem ls_T20 : mk_T ls_R "" code ((mp_law.drop 640).take 32) = true := by decide +kernel
set_option maxRecDepth 100000 in
theorem ls_T21 : mk_T ls_R "" code ((mp_law.drop 672).take 32) = true := by decide +kernel
set_option maxRecDepth 100000 in
theorem ls_T22 : mk_T ls_R "" code ((mp_law.drop 704).take 32) = true := by decide +kernel
set_option maxRecDepth 100000 in
theorem ls_T23 : mk_T ls_R "" code (mp_law.drop 736) = true := by decide +kernel
theorem ls_T : mk_T ls_R "" code mp_law = true := by
  refine ls_sp 32 ls_T0 ?_
  refine ls_sp 32 ls_T1 ?_
  rw [List.drop_drop]
  refine ls_sp 32 ls_T2 ?_
  rw [List.drop_drop]
  refine ls_sp 32 ls_T3 ?_
  rw [List.drop_drop]
  refine ls_sp 32 ls_T4 ?_
  rw [List.drop_drop]
  refine ls_sp 32 ls_T5 ?_
  rw [List.drop_drop]
  refine ls_sp 32 ls_T6 ?_
  rw [List.drop_drop]
  refine ls_sp 32 ls_T7 ?_
  rw [List.drop_drop]
  refine ls_sp 32 ls_T8 ?_
  rw [List.drop_drop]
  refine ls_sp 32 ls_T9 ?_
  rw [List.drop_drop]
  refine ls_sp 32 ls_T10 ?_
  rw [List.drop_drop]
  refine ls_sp 32 ls_T11 ?_
  rw [List.drop_drop]
  refine ls_sp 32 ls_T12 ?_
  rw [List.drop_drop]
  refine ls_sp 32 ls_T13 ?_
  rw [List.drop_drop]
  refine ls_sp 32 ls_T14 ?_
  rw [List.drop_drop]
  refine ls_sp 32 ls_T15 ?_
  rw [List.drop_drop]
  refine ls_sp 32 ls_T16 ?_
  rw [List.drop_drop]
  refine ls_sp 32 ls_T17 ?_
  rw [List.drop_drop]
  refine ls_sp 32 ls_T18 ?_
  rw [List.drop_drop]
  refine ls_sp 32 ls_T19 ?_
  rw [List.drop_drop]
  refine ls_sp 32 ls_T20 ?_
  rw [List.drop_drop]
  refine ls_sp 32 ls_T21 ?_
  rw [List.drop_drop]
  refine ls_sp 32 ls_T22 ?_
  rw [List.drop_drop]
  exact ls_T23
set_option maxRecDepth 100000 in
theorem ls_np : mp_law.all (fun q => match q.2.1 with | .putfield _ => false | _ => true) = true := by decide +kernel
theorem mm_okI_nm {cl : List vw_C} {tb : List Cond} {sf : Nat → String × String} {sts : List (String × String × String × Value)} {sks : List (String × Nat × String × Nat)} {nws : List Cond} {own nm nm' : String} {cc : ByteArray} {pc : Nat} {i : mm_I} (hp : (match i.1 with | .putfield _ => false | _ => true) = true) (h : mm_okI cl tb sf sts sks nws own nm cc pc i) : mm_okI cl tb sf sts sks nws own nm' cc pc i := by
  obtain ⟨ins, t⟩ := i
  cases ins <;> first | exact h | (cases hp)
theorem ls_ok (nm : String) (pc : Nat) (i : mm_I) (h : mc_co mp_law pc = some i) : mm_okI mc_cl mc_tb mc_sf mc_sts mc_sks mc_nws ls_R nm code pc i ∧ mm_okJ mc_cl mc_tb mc_nws mc_lay mc_fty mc_nf 1 mc_P ls_R i := by
  obtain ⟨h1, h2⟩ := mk_T_ok ls_T pc i h
  exact ⟨mm_okI_nm (List.all_eq_true.mp ls_np _ (mk_lookup h)) h1, h2⟩
