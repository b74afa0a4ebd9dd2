/-! the law's loop -/
theorem mm_run_ret {fty : Nat → Nat → FieldType} {X : mm_X} {nf : Nat → List Value} {li : Nat} {cls : Nat → Nat} {call : Nat → List Value → mm_M → Option (Option Value × mm_M)} {ret : Option FieldType} {code : Nat → Option mm_I} {r : Option Value} {M' : mm_M} :
    ∀ (f pc : Nat) (L : mm_L) (st : List Value) (M : mm_M), mm_run fty X nf li cls call ret code f pc L st M = some (r, M') → ∃ i st', mm_ret ret i st' = some r := by
  intro f
  induction f with
  | zero => intro pc L st M h; simp [mm_run] at h
  | succ f ih =>
    intro pc L st M h
    simp only [mm_run] at h
    split at h
    · cases h
    · split at h
      · rename_i hr
        cases h
        exact ⟨_, _, hr⟩
      · split at h
        · split at h
          · split at h
            · exact ih _ _ _ _ h
            · cases h
          · cases h
        · split at h
          · exact ih _ _ _ _ h
          · split at h
            · exact ih _ _ _ _ h
            · cases h
theorem mm_ret_int {i : mm_I} {st : List Value} {r : Option Value} (h : mm_ret (some .int) i st = some r) : ∃ v, r = some (.int v) := by
  obtain ⟨ins, t⟩ := i
  unfold mm_ret at h
  split at h
  · split at h
    · split at h
      · split at h
        · cases h; exact ⟨_, rfl⟩
        · cases h
      · cases h
    · cases h
  · split at h
    · cases h
    · cases h
  · split at h
    · cases h
    · cases h
    · cases h
  · split at h
    · cases h
    · cases h
  · cases h
theorem mm_ret_long {i : mm_I} {st : List Value} {r : Option Value} (h : mm_ret (some .long) i st = some r) : ∃ v, r = some (.long v) := by
  obtain ⟨ins, t⟩ := i
  unfold mm_ret at h
  split at h
  · split at h
    · split at h
      · split at h
        · rename_i heq hn
          cases heq
          exact absurd hn Bool.false_ne_true
        · cases h
      · cases h
    · cases h
  · split at h
    · cases h; exact ⟨_, rfl⟩
    · cases h
  · split at h
    · cases h
    · cases h
    · cases h
  · split at h
    · cases h
    · cases h
  · cases h
theorem mm_ev_ret {fty : Nat → Nat → FieldType} {X : mm_X} {nf : Nat → List Value} {li : Nat} {P : Nat → Option mm_Mt} {F d k : Nat} {as : List Value} {M M' : mm_M} {r : Option Value} {rt : Option FieldType} (hr : (P k).map (fun q => q.2.2.2.1) = some rt) (h : mm_ev fty X nf li P F d k as M = some (r, M')) : ∃ i st', mm_ret rt i st' = some r := by
  cases d with
  | zero => simp [mm_ev] at h
  | succ d =>
    simp only [mm_ev] at h
    split at h
    · cases h
    · rename_i hP
      rw [hP] at hr
      cases hr
      split at h
      · exact mm_run_ret _ _ _ _ _ h
      · cases h
section LW
variable {scr : List Int32} {n k1 k2 : Nat} {M : mm_M} {Q : Option Value → mm_M → Prop} {g : SG} {as : List Value}
theorem jo_int (hJ : JO scr k1 k2 as g) (hr : (mc_P k1).map (fun q => q.2.2.2.1) = some (some .int)) (hC : CS M g) : ∃ v g', SGOK g' ∧ (∀ n M Q, CS M g → CPost M g' (.int v) Q → Wp scr (n + 40) k1 (.ref 0 :: as) M Q) ∧ (∀ n M Q, MS M g → MPost M g' (.int v) Q → Wp scr (n + 40) k2 (.ref 129 :: as) M Q) := by
  obtain ⟨r, g', h1, h2, h3⟩ := hJ
  obtain ⟨F, r2, M2, he, hq⟩ := h2 0 M (fun r' _ => r' = some r) hC (fun _ _ _ _ => rfl)
  subst hq
  obtain ⟨i, st, hi⟩ := mm_ev_ret hr he
  obtain ⟨v, hv⟩ := mm_ret_int hi
  cases hv
  exact ⟨v, g', h1, h2, h3⟩
theorem jo_long (hJ : JO scr k1 k2 as g) (hr : (mc_P k1).map (fun q => q.2.2.2.1) = some (some .long)) (hC : CS M g) : ∃ v g', SGOK g' ∧ (∀ n M Q, CS M g → CPost M g' (.long v) Q → Wp scr (n + 40) k1 (.ref 0 :: as) M Q) ∧ (∀ n M Q, MS M g → MPost M g' (.long v) Q → Wp scr (n + 40) k2 (.ref 129 :: as) M Q) := by
  obtain ⟨r, g', h1, h2, h3⟩ := hJ
  obtain ⟨F, r2, M2, he, hq⟩ := h2 0 M (fun r' _ => r' = some r) hC (fun _ _ _ _ => rfl)
  subst hq
  obtain ⟨i, st, hi⟩ := mm_ev_ret hr he
  obtain ⟨v, hv⟩ := mm_ret_long hi
  cases hv
  exact ⟨v, g', h1, h2, h3⟩
theorem MS_x (h : MS M g) : mw_r M 129 6 ↔ True := by
  obtain ⟨o, r, hO, _⟩ := MSu h
  exact OA_x hO
theorem mw_s_l {v0 : Int64} : mw_st [.long v0] ↔ True := iff_true_intro (Nat.le_of_ble_eq_true rfl)
theorem lg_same (v : Int64) : lg_cmp v v = 0 := by simp [lg_cmp]
variable {x y1 y2 y3 y4 : Int32}
abbrev lwL (x : Int32) : mm_L := [some (.retAddr 0), some (.ref 0), some (.ref 129), some (.int x)]
def lwR (scr : List Int32) (x y : Int32) : Prop := ∀ M : mm_M, mm_ld (mc_X scr) M (.retAddr 0) x = some y

theorem law_letter (hg : SGOK g) (hC : CS M g) (hM : MS M g) (r1 : lwR scr (x + 1) y1) (hK : ∀ M' g', SGOK g' → CS M' g' → MS M' g' → wp scr (n + 40) mb_law 1084 (lwL x) [] M' Q) : wp scr (n + 40) mb_law 176 (lwL x) [] M Q := by
  obtain ⟨v, g', hg', hc, hm⟩ := jo_int (J_letter (scr := scr) hg y1) (by decide +kernel) hC
  simp only [lwL, ulaw_176, ulaw_176b, ulaw_177, ulaw_177b, ulaw_178, ulaw_179, ulaw_180, ulaw_181, ulaw_182, mw_os, mw_s_, true_and, CS_x hC, r1 _]
  refine hc n M _ hC (fun M1 l1 a1 c1 => ?_)
  have hM1 := MS_kp hM l1 a1
  simp only [ulaw_185, ulaw_185b, ulaw_186, ulaw_186b, ulaw_187, ulaw_188, ulaw_189, ulaw_190, ulaw_191, mw_os, mw_s_i, mw_s_l, true_and, Option.toList_some, List.cons_append, List.nil_append, List.append_nil, MS_x hM1, r1 _]
  refine hm n M1 _ hM1 (fun M2 l2 a2 m2 => ?_)
  simp only [ulaw_194, Option.toList_some, List.cons_append, List.nil_append, List.append_nil, if_true, eq_self_iff_true]
  exact hK M2 g' hg' (CS_kp c1 hg' l2 a2) m2
theorem law_map (hg : SGOK g) (hC : CS M g) (hM : MS M g) (hK : ∀ M' g', SGOK g' → CS M' g' → MS M' g' → wp scr (n + 40) mb_law 1084 (lwL x) [] M' Q) : wp scr (n + 40) mb_law 199 (lwL x) [] M Q := by
  obtain ⟨v, g', hg', hc, hm⟩ := jo_int (J_map (scr := scr) hg ) (by decide +kernel) hC
  simp only [lwL, ulaw_199, ulaw_199b, ulaw_200, mw_os, mw_s_, true_and, CS_x hC]
  refine hc n M _ hC (fun M1 l1 a1 c1 => ?_)
  have hM1 := MS_kp hM l1 a1
  simp only [ulaw_203, ulaw_203b, ulaw_204, mw_os, mw_s_i, mw_s_l, true_and, Option.toList_some, List.cons_append, List.nil_append, List.append_nil, MS_x hM1]
  refine hm n M1 _ hM1 (fun M2 l2 a2 m2 => ?_)
  simp only [ulaw_207, Option.toList_some, List.cons_append, List.nil_append, List.append_nil, if_true, eq_self_iff_true]
  exact hK M2 g' hg' (CS_kp c1 hg' l2 a2) m2
theorem law_crease (hg : SGOK g) (hC : CS M g) (hM : MS M g) (r1 : lwR scr (x + 1) y1) (r2 : lwR scr (x + 2) y2) (hK : ∀ M' g', SGOK g' → CS M' g' → MS M' g' → wp scr (n + 40) mb_law 1084 (lwL x) [] M' Q) : wp scr (n + 40) mb_law 212 (lwL x) [] M Q := by
  obtain ⟨v, g', hg', hc, hm⟩ := jo_int (J_crease (scr := scr) hg y1 y2) (by decide +kernel) hC
  simp only [lwL, ulaw_212, ulaw_212b, ulaw_213, ulaw_213b, ulaw_214, ulaw_215, ulaw_216, ulaw_217, ulaw_218, ulaw_218b, ulaw_219, ulaw_220, ulaw_221, ulaw_222, ulaw_223, mw_os, mw_s_, true_and, CS_x hC, r1 _, r2 _]
  refine hc n M _ hC (fun M1 l1 a1 c1 => ?_)
  have hM1 := MS_kp hM l1 a1
  simp only [ulaw_226, ulaw_226b, ulaw_227, ulaw_227b, ulaw_228, ulaw_229, ulaw_230, ulaw_231, ulaw_232, ulaw_232b, ulaw_233, ulaw_234, ulaw_235, ulaw_236, ulaw_237, mw_os, mw_s_i, mw_s_l, true_and, Option.toList_some, List.cons_append, List.nil_append, List.append_nil, MS_x hM1, r1 _, r2 _]
  refine hm n M1 _ hM1 (fun M2 l2 a2 m2 => ?_)
  simp only [ulaw_240, Option.toList_some, List.cons_append, List.nil_append, List.append_nil, if_true, eq_self_iff_true]
  exact hK M2 g' hg' (CS_kp c1 hg' l2 a2) m2
theorem law_panel (hg : SGOK g) (hC : CS M g) (hM : MS M g) (r1 : lwR scr (x + 1) y1) (r2 : lwR scr (x + 2) y2) (hK : ∀ M' g', SGOK g' → CS M' g' → MS M' g' → wp scr (n + 40) mb_law 1084 (lwL x) [] M' Q) : wp scr (n + 40) mb_law 245 (lwL x) [] M Q := by
  obtain ⟨v, g', hg', hc, hm⟩ := jo_int (J_panel (scr := scr) hg y1 y2) (by decide +kernel) hC
  simp only [lwL, ulaw_245, ulaw_245b, ulaw_246, ulaw_246b, ulaw_247, ulaw_248, ulaw_249, ulaw_250, ulaw_251, ulaw_251b, ulaw_252, ulaw_253, ulaw_254, ulaw_255, ulaw_256, mw_os, mw_s_, true_and, CS_x hC, r1 _, r2 _]
  refine hc n M _ hC (fun M1 l1 a1 c1 => ?_)
  have hM1 := MS_kp hM l1 a1
  simp only [ulaw_259, ulaw_259b, ulaw_260, ulaw_260b, ulaw_261, ulaw_262, ulaw_263, ulaw_264, ulaw_265, ulaw_265b, ulaw_266, ulaw_267, ulaw_268, ulaw_269, ulaw_270, mw_os, mw_s_i, mw_s_l, true_and, Option.toList_some, List.cons_append, List.nil_append, List.append_nil, MS_x hM1, r1 _, r2 _]
  refine hm n M1 _ hM1 (fun M2 l2 a2 m2 => ?_)
  simp only [ulaw_273, Option.toList_some, List.cons_append, List.nil_append, List.append_nil, if_true, eq_self_iff_true]
  exact hK M2 g' hg' (CS_kp c1 hg' l2 a2) m2
theorem law_fold (hg : SGOK g) (hC : CS M g) (hM : MS M g) (r1 : lwR scr (x + 1) y1) (r2 : lwR scr (x + 2) y2) (hK : ∀ M' g', SGOK g' → CS M' g' → MS M' g' → wp scr (n + 40) mb_law 1084 (lwL x) [] M' Q) : wp scr (n + 40) mb_law 278 (lwL x) [] M Q := by
  obtain ⟨v, g', hg', hc, hm⟩ := jo_int (J_fold (scr := scr) hg y1 y2) (by decide +kernel) hC
  simp only [lwL, ulaw_278, ulaw_278b, ulaw_279, ulaw_279b, ulaw_280, ulaw_281, ulaw_282, ulaw_283, ulaw_284, ulaw_284b, ulaw_285, ulaw_286, ulaw_287, ulaw_288, ulaw_289, mw_os, mw_s_, true_and, CS_x hC, r1 _, r2 _]
  refine hc n M _ hC (fun M1 l1 a1 c1 => ?_)
  have hM1 := MS_kp hM l1 a1
  simp only [ulaw_292, ulaw_292b, ulaw_293, ulaw_293b, ulaw_294, ulaw_295, ulaw_296, ulaw_297, ulaw_298, ulaw_298b, ulaw_299, ulaw_300, ulaw_301, ulaw_302, ulaw_303, mw_os, mw_s_i, mw_s_l, true_and, Option.toList_some, List.cons_append, List.nil_append, List.append_nil, MS_x hM1, r1 _, r2 _]
  refine hm n M1 _ hM1 (fun M2 l2 a2 m2 => ?_)
  simp only [ulaw_306, Option.toList_some, List.cons_append, List.nil_append, List.append_nil, if_true, eq_self_iff_true]
  exact hK M2 g' hg' (CS_kp c1 hg' l2 a2) m2
theorem law_opens (hg : SGOK g) (hC : CS M g) (hM : MS M g) (hK : ∀ M' g', SGOK g' → CS M' g' → MS M' g' → wp scr (n + 40) mb_law 1084 (lwL x) [] M' Q) : wp scr (n + 40) mb_law 311 (lwL x) [] M Q := by
  obtain ⟨v, g', hg', hc, hm⟩ := jo_int (J_opens (scr := scr) hg ) (by decide +kernel) hC
  simp only [lwL, ulaw_311, ulaw_311b, ulaw_312, mw_os, mw_s_, true_and, CS_x hC]
  refine hc n M _ hC (fun M1 l1 a1 c1 => ?_)
  have hM1 := MS_kp hM l1 a1
  simp only [ulaw_315, ulaw_315b, ulaw_316, mw_os, mw_s_i, mw_s_l, true_and, Option.toList_some, List.cons_append, List.nil_append, List.append_nil, MS_x hM1]
  refine hm n M1 _ hM1 (fun M2 l2 a2 m2 => ?_)
  simp only [ulaw_319, Option.toList_some, List.cons_append, List.nil_append, List.append_nil, if_true, eq_self_iff_true]
  exact hK M2 g' hg' (CS_kp c1 hg' l2 a2) m2
theorem law_wears (hg : SGOK g) (hC : CS M g) (hM : MS M g) (r1 : lwR scr (x + 1) y1) (r2 : lwR scr (x + 2) y2) (hK : ∀ M' g', SGOK g' → CS M' g' → MS M' g' → wp scr (n + 40) mb_law 1084 (lwL x) [] M' Q) : wp scr (n + 40) mb_law 324 (lwL x) [] M Q := by
  obtain ⟨v, g', hg', hc, hm⟩ := jo_int (J_wears (scr := scr) hg y1 y2) (by decide +kernel) hC
  simp only [lwL, ulaw_324, ulaw_324b, ulaw_325, ulaw_325b, ulaw_326, ulaw_327, ulaw_328, ulaw_329, ulaw_330, ulaw_330b, ulaw_331, ulaw_332, ulaw_333, ulaw_334, ulaw_335, mw_os, mw_s_, true_and, CS_x hC, r1 _, r2 _]
  refine hc n M _ hC (fun M1 l1 a1 c1 => ?_)
  have hM1 := MS_kp hM l1 a1
  simp only [ulaw_338, ulaw_338b, ulaw_339, ulaw_339b, ulaw_340, ulaw_341, ulaw_342, ulaw_343, ulaw_344, ulaw_344b, ulaw_345, ulaw_346, ulaw_347, ulaw_348, ulaw_349, mw_os, mw_s_i, mw_s_l, true_and, Option.toList_some, List.cons_append, List.nil_append, List.append_nil, MS_x hM1, r1 _, r2 _]
  refine hm n M1 _ hM1 (fun M2 l2 a2 m2 => ?_)
  simp only [ulaw_352, Option.toList_some, List.cons_append, List.nil_append, List.append_nil, if_true, eq_self_iff_true]
  exact hK M2 g' hg' (CS_kp c1 hg' l2 a2) m2
theorem law_turn (hg : SGOK g) (hC : CS M g) (hM : MS M g) (r1 : lwR scr (x + 1) y1) (r2 : lwR scr (x + 2) y2) (r3 : lwR scr (x + 3) y3) (hK : ∀ M' g', SGOK g' → CS M' g' → MS M' g' → wp scr (n + 40) mb_law 1084 (lwL x) [] M' Q) : wp scr (n + 40) mb_law 357 (lwL x) [] M Q := by
  obtain ⟨v, g', hg', hc, hm⟩ := jo_int (J_turn (scr := scr) hg y1 y2 y3) (by decide +kernel) hC
  simp only [lwL, ulaw_357, ulaw_357b, ulaw_358, ulaw_358b, ulaw_359, ulaw_360, ulaw_361, ulaw_362, ulaw_363, ulaw_363b, ulaw_364, ulaw_365, ulaw_366, ulaw_367, ulaw_368, ulaw_368b, ulaw_369, ulaw_370, ulaw_371, ulaw_372, ulaw_373, mw_os, mw_s_, true_and, CS_x hC, r1 _, r2 _, r3 _]
  refine hc n M _ hC (fun M1 l1 a1 c1 => ?_)
  have hM1 := MS_kp hM l1 a1
  simp only [ulaw_376, ulaw_376b, ulaw_377, ulaw_377b, ulaw_378, ulaw_379, ulaw_380, ulaw_381, ulaw_382, ulaw_382b, ulaw_383, ulaw_384, ulaw_385, ulaw_386, ulaw_387, ulaw_387b, ulaw_388, ulaw_389, ulaw_390, ulaw_391, ulaw_392, mw_os, mw_s_i, mw_s_l, true_and, Option.toList_some, List.cons_append, List.nil_append, List.append_nil, MS_x hM1, r1 _, r2 _, r3 _]
  refine hm n M1 _ hM1 (fun M2 l2 a2 m2 => ?_)
  simp only [ulaw_395, Option.toList_some, List.cons_append, List.nil_append, List.append_nil, if_true, eq_self_iff_true]
  exact hK M2 g' hg' (CS_kp c1 hg' l2 a2) m2
theorem law_cover (hg : SGOK g) (hC : CS M g) (hM : MS M g) (r1 : lwR scr (x + 1) y1) (hK : ∀ M' g', SGOK g' → CS M' g' → MS M' g' → wp scr (n + 40) mb_law 1084 (lwL x) [] M' Q) : wp scr (n + 40) mb_law 400 (lwL x) [] M Q := by
  obtain ⟨v, g', hg', hc, hm⟩ := jo_int (J_cover (scr := scr) hg y1) (by decide +kernel) hC
  simp only [lwL, ulaw_400, ulaw_400b, ulaw_401, ulaw_401b, ulaw_402, ulaw_403, ulaw_404, ulaw_405, ulaw_406, mw_os, mw_s_, true_and, CS_x hC, r1 _]
  refine hc n M _ hC (fun M1 l1 a1 c1 => ?_)
  have hM1 := MS_kp hM l1 a1
  simp only [ulaw_409, ulaw_409b, ulaw_410, ulaw_410b, ulaw_411, ulaw_412, ulaw_413, ulaw_414, ulaw_415, mw_os, mw_s_i, mw_s_l, true_and, Option.toList_some, List.cons_append, List.nil_append, List.append_nil, MS_x hM1, r1 _]
  refine hm n M1 _ hM1 (fun M2 l2 a2 m2 => ?_)
  simp only [ulaw_418, Option.toList_some, List.cons_append, List.nil_append, List.append_nil, if_true, eq_self_iff_true]
  exact hK M2 g' hg' (CS_kp c1 hg' l2 a2) m2
theorem law_hurts (hg : SGOK g) (hC : CS M g) (hM : MS M g) (r1 : lwR scr (x + 1) y1) (r2 : lwR scr (x + 2) y2) (r3 : lwR scr (x + 3) y3) (hK : ∀ M' g', SGOK g' → CS M' g' → MS M' g' → wp scr (n + 40) mb_law 1084 (lwL x) [] M' Q) : wp scr (n + 40) mb_law 423 (lwL x) [] M Q := by
  obtain ⟨v, g', hg', hc, hm⟩ := jo_int (J_hurts (scr := scr) hg y1 y2 y3) (by decide +kernel) hC
  simp only [lwL, ulaw_423, ulaw_423b, ulaw_424, ulaw_424b, ulaw_425, ulaw_426, ulaw_427, ulaw_428, ulaw_429, ulaw_429b, ulaw_430, ulaw_431, ulaw_432, ulaw_433, ulaw_434, ulaw_434b, ulaw_435, ulaw_436, ulaw_437, ulaw_438, ulaw_439, mw_os, mw_s_, true_and, CS_x hC, r1 _, r2 _, r3 _]
  refine hc n M _ hC (fun M1 l1 a1 c1 => ?_)
  have hM1 := MS_kp hM l1 a1
  simp only [ulaw_442, ulaw_442b, ulaw_443, ulaw_443b, ulaw_444, ulaw_445, ulaw_446, ulaw_447, ulaw_448, ulaw_448b, ulaw_449, ulaw_450, ulaw_451, ulaw_452, ulaw_453, ulaw_453b, ulaw_454, ulaw_455, ulaw_456, ulaw_457, ulaw_458, mw_os, mw_s_i, mw_s_l, true_and, Option.toList_some, List.cons_append, List.nil_append, List.append_nil, MS_x hM1, r1 _, r2 _, r3 _]
  refine hm n M1 _ hM1 (fun M2 l2 a2 m2 => ?_)
  simp only [ulaw_461, Option.toList_some, List.cons_append, List.nil_append, List.append_nil, if_true, eq_self_iff_true]
  exact hK M2 g' hg' (CS_kp c1 hg' l2 a2) m2
theorem law_over (hg : SGOK g) (hC : CS M g) (hM : MS M g) (r1 : lwR scr (x + 1) y1) (r2 : lwR scr (x + 2) y2) (hK : ∀ M' g', SGOK g' → CS M' g' → MS M' g' → wp scr (n + 40) mb_law 1084 (lwL x) [] M' Q) : wp scr (n + 40) mb_law 466 (lwL x) [] M Q := by
  obtain ⟨v, g', hg', hc, hm⟩ := jo_int (J_over (scr := scr) hg y1 y2) (by decide +kernel) hC
  simp only [lwL, ulaw_466, ulaw_466b, ulaw_467, ulaw_467b, ulaw_468, ulaw_469, ulaw_470, ulaw_471, ulaw_472, ulaw_472b, ulaw_473, ulaw_474, ulaw_475, ulaw_476, ulaw_477, mw_os, mw_s_, true_and, CS_x hC, r1 _, r2 _]
  refine hc n M _ hC (fun M1 l1 a1 c1 => ?_)
  have hM1 := MS_kp hM l1 a1
  simp only [ulaw_480, ulaw_480b, ulaw_481, ulaw_481b, ulaw_482, ulaw_483, ulaw_484, ulaw_485, ulaw_486, ulaw_486b, ulaw_487, ulaw_488, ulaw_489, ulaw_490, ulaw_491, mw_os, mw_s_i, mw_s_l, true_and, Option.toList_some, List.cons_append, List.nil_append, List.append_nil, MS_x hM1, r1 _, r2 _]
  refine hm n M1 _ hM1 (fun M2 l2 a2 m2 => ?_)
  simp only [ulaw_494, Option.toList_some, List.cons_append, List.nil_append, List.append_nil, if_true, eq_self_iff_true]
  exact hK M2 g' hg' (CS_kp c1 hg' l2 a2) m2
theorem law_wad (hg : SGOK g) (hC : CS M g) (hM : MS M g) (r1 : lwR scr (x + 1) y1) (hK : ∀ M' g', SGOK g' → CS M' g' → MS M' g' → wp scr (n + 40) mb_law 1084 (lwL x) [] M' Q) : wp scr (n + 40) mb_law 499 (lwL x) [] M Q := by
  obtain ⟨v, g', hg', hc, hm⟩ := jo_int (J_wad (scr := scr) hg y1) (by decide +kernel) hC
  simp only [lwL, ulaw_499, ulaw_499b, ulaw_500, ulaw_500b, ulaw_501, ulaw_502, ulaw_503, ulaw_504, ulaw_505, mw_os, mw_s_, true_and, CS_x hC, r1 _]
  refine hc n M _ hC (fun M1 l1 a1 c1 => ?_)
  have hM1 := MS_kp hM l1 a1
  simp only [ulaw_508, ulaw_508b, ulaw_509, ulaw_509b, ulaw_510, ulaw_511, ulaw_512, ulaw_513, ulaw_514, mw_os, mw_s_i, mw_s_l, true_and, Option.toList_some, List.cons_append, List.nil_append, List.append_nil, MS_x hM1, r1 _]
  refine hm n M1 _ hM1 (fun M2 l2 a2 m2 => ?_)
  simp only [ulaw_517, Option.toList_some, List.cons_append, List.nil_append, List.append_nil, if_true, eq_self_iff_true]
  exact hK M2 g' hg' (CS_kp c1 hg' l2 a2) m2
theorem law_shut (hg : SGOK g) (hC : CS M g) (hM : MS M g) (r1 : lwR scr (x + 1) y1) (hK : ∀ M' g', SGOK g' → CS M' g' → MS M' g' → wp scr (n + 40) mb_law 1084 (lwL x) [] M' Q) : wp scr (n + 40) mb_law 522 (lwL x) [] M Q := by
  obtain ⟨v, g', hg', hc, hm⟩ := jo_int (J_shut (scr := scr) hg y1) (by decide +kernel) hC
  simp only [lwL, ulaw_522, ulaw_522b, ulaw_523, ulaw_523b, ulaw_524, ulaw_525, ulaw_526, ulaw_527, ulaw_528, mw_os, mw_s_, true_and, CS_x hC, r1 _]
  refine hc n M _ hC (fun M1 l1 a1 c1 => ?_)
  have hM1 := MS_kp hM l1 a1
  simp only [ulaw_531, ulaw_531b, ulaw_532, ulaw_532b, ulaw_533, ulaw_534, ulaw_535, ulaw_536, ulaw_537, mw_os, mw_s_i, mw_s_l, true_and, Option.toList_some, List.cons_append, List.nil_append, List.append_nil, MS_x hM1, r1 _]
  refine hm n M1 _ hM1 (fun M2 l2 a2 m2 => ?_)
  simp only [ulaw_540, Option.toList_some, List.cons_append, List.nil_append, List.append_nil, if_true, eq_self_iff_true]
  exact hK M2 g' hg' (CS_kp c1 hg' l2 a2) m2
theorem law_ways (hg : SGOK g) (hC : CS M g) (hM : MS M g) (r1 : lwR scr (x + 1) y1) (hK : ∀ M' g', SGOK g' → CS M' g' → MS M' g' → wp scr (n + 40) mb_law 1084 (lwL x) [] M' Q) : wp scr (n + 40) mb_law 545 (lwL x) [] M Q := by
  obtain ⟨v, g', hg', hc, hm⟩ := jo_int (J_ways (scr := scr) hg y1) (by decide +kernel) hC
  simp only [lwL, ulaw_545, ulaw_545b, ulaw_546, ulaw_546b, ulaw_547, ulaw_548, ulaw_549, ulaw_550, ulaw_551, mw_os, mw_s_, true_and, CS_x hC, r1 _]
  refine hc n M _ hC (fun M1 l1 a1 c1 => ?_)
  have hM1 := MS_kp hM l1 a1
  simp only [ulaw_554, ulaw_554b, ulaw_555, ulaw_555b, ulaw_556, ulaw_557, ulaw_558, ulaw_559, ulaw_560, mw_os, mw_s_i, mw_s_l, true_and, Option.toList_some, List.cons_append, List.nil_append, List.append_nil, MS_x hM1, r1 _]
  refine hm n M1 _ hM1 (fun M2 l2 a2 m2 => ?_)
  simp only [ulaw_563, Option.toList_some, List.cons_append, List.nil_append, List.append_nil, if_true, eq_self_iff_true]
  exact hK M2 g' hg' (CS_kp c1 hg' l2 a2) m2
theorem law_up (hg : SGOK g) (hC : CS M g) (hM : MS M g) (r1 : lwR scr (x + 1) y1) (r2 : lwR scr (x + 2) y2) (r3 : lwR scr (x + 3) y3) (r4 : lwR scr (x + 4) y4) (hK : ∀ M' g', SGOK g' → CS M' g' → MS M' g' → wp scr (n + 40) mb_law 1084 (lwL x) [] M' Q) : wp scr (n + 40) mb_law 568 (lwL x) [] M Q := by
  obtain ⟨v, g', hg', hc, hm⟩ := jo_int (J_up (scr := scr) hg y1 y2 y3 y4) (by decide +kernel) hC
  simp only [lwL, ulaw_568, ulaw_568b, ulaw_569, ulaw_569b, ulaw_570, ulaw_571, ulaw_572, ulaw_573, ulaw_574, ulaw_574b, ulaw_575, ulaw_576, ulaw_577, ulaw_578, ulaw_579, ulaw_579b, ulaw_580, ulaw_581, ulaw_582, ulaw_583, ulaw_584, ulaw_584b, ulaw_585, ulaw_586, ulaw_587, ulaw_588, ulaw_589, mw_os, mw_s_, true_and, CS_x hC, r1 _, r2 _, r3 _, r4 _]
  refine hc n M _ hC (fun M1 l1 a1 c1 => ?_)
  have hM1 := MS_kp hM l1 a1
  simp only [ulaw_592, ulaw_592b, ulaw_593, ulaw_593b, ulaw_594, ulaw_595, ulaw_596, ulaw_597, ulaw_598, ulaw_598b, ulaw_599, ulaw_600, ulaw_601, ulaw_602, ulaw_603, ulaw_603b, ulaw_604, ulaw_605, ulaw_606, ulaw_607, ulaw_608, ulaw_608b, ulaw_609, ulaw_610, ulaw_611, ulaw_612, ulaw_613, mw_os, mw_s_i, mw_s_l, true_and, Option.toList_some, List.cons_append, List.nil_append, List.append_nil, MS_x hM1, r1 _, r2 _, r3 _, r4 _]
  refine hm n M1 _ hM1 (fun M2 l2 a2 m2 => ?_)
  simp only [ulaw_616, Option.toList_some, List.cons_append, List.nil_append, List.append_nil, if_true, eq_self_iff_true]
  exact hK M2 g' hg' (CS_kp c1 hg' l2 a2) m2
theorem law_most (hg : SGOK g) (hC : CS M g) (hM : MS M g) (r1 : lwR scr (x + 1) y1) (r2 : lwR scr (x + 2) y2) (r3 : lwR scr (x + 3) y3) (hK : ∀ M' g', SGOK g' → CS M' g' → MS M' g' → wp scr (n + 40) mb_law 1084 (lwL x) [] M' Q) : wp scr (n + 40) mb_law 621 (lwL x) [] M Q := by
  obtain ⟨v, g', hg', hc, hm⟩ := jo_int (J_most (scr := scr) hg y1 y2 y3) (by decide +kernel) hC
  simp only [lwL, ulaw_621, ulaw_621b, ulaw_622, ulaw_622b, ulaw_623, ulaw_624, ulaw_625, ulaw_626, ulaw_627, ulaw_627b, ulaw_628, ulaw_629, ulaw_630, ulaw_631, ulaw_632, ulaw_632b, ulaw_633, ulaw_634, ulaw_635, ulaw_636, ulaw_637, mw_os, mw_s_, true_and, CS_x hC, r1 _, r2 _, r3 _]
  refine hc n M _ hC (fun M1 l1 a1 c1 => ?_)
  have hM1 := MS_kp hM l1 a1
  simp only [ulaw_640, ulaw_640b, ulaw_641, ulaw_641b, ulaw_642, ulaw_643, ulaw_644, ulaw_645, ulaw_646, ulaw_646b, ulaw_647, ulaw_648, ulaw_649, ulaw_650, ulaw_651, ulaw_651b, ulaw_652, ulaw_653, ulaw_654, ulaw_655, ulaw_656, mw_os, mw_s_i, mw_s_l, true_and, Option.toList_some, List.cons_append, List.nil_append, List.append_nil, MS_x hM1, r1 _, r2 _, r3 _]
  refine hm n M1 _ hM1 (fun M2 l2 a2 m2 => ?_)
  simp only [ulaw_659, Option.toList_some, List.cons_append, List.nil_append, List.append_nil, if_true, eq_self_iff_true]
  exact hK M2 g' hg' (CS_kp c1 hg' l2 a2) m2
theorem law_layers (hg : SGOK g) (hC : CS M g) (hM : MS M g) (hK : ∀ M' g', SGOK g' → CS M' g' → MS M' g' → wp scr (n + 40) mb_law 1084 (lwL x) [] M' Q) : wp scr (n + 40) mb_law 664 (lwL x) [] M Q := by
  obtain ⟨v, g', hg', hc, hm⟩ := jo_int (J_layers (scr := scr) hg ) (by decide +kernel) hC
  simp only [lwL, ulaw_664, ulaw_664b, ulaw_665, mw_os, mw_s_, true_and, CS_x hC]
  refine hc n M _ hC (fun M1 l1 a1 c1 => ?_)
  have hM1 := MS_kp hM l1 a1
  simp only [ulaw_668, ulaw_668b, ulaw_669, mw_os, mw_s_i, mw_s_l, true_and, Option.toList_some, List.cons_append, List.nil_append, List.append_nil, MS_x hM1]
  refine hm n M1 _ hM1 (fun M2 l2 a2 m2 => ?_)
  simp only [ulaw_672, Option.toList_some, List.cons_append, List.nil_append, List.append_nil, if_true, eq_self_iff_true]
  exact hK M2 g' hg' (CS_kp c1 hg' l2 a2) m2
theorem law_lasts (hg : SGOK g) (hC : CS M g) (hM : MS M g) (r1 : lwR scr (x + 1) y1) (r2 : lwR scr (x + 2) y2) (hK : ∀ M' g', SGOK g' → CS M' g' → MS M' g' → wp scr (n + 40) mb_law 1084 (lwL x) [] M' Q) : wp scr (n + 40) mb_law 677 (lwL x) [] M Q := by
  obtain ⟨v, g', hg', hc, hm⟩ := jo_int (J_lasts (scr := scr) hg y1 y2) (by decide +kernel) hC
  simp only [lwL, ulaw_677, ulaw_677b, ulaw_678, ulaw_678b, ulaw_679, ulaw_680, ulaw_681, ulaw_682, ulaw_683, ulaw_683b, ulaw_684, ulaw_685, ulaw_686, ulaw_687, ulaw_688, mw_os, mw_s_, true_and, CS_x hC, r1 _, r2 _]
  refine hc n M _ hC (fun M1 l1 a1 c1 => ?_)
  have hM1 := MS_kp hM l1 a1
  simp only [ulaw_691, ulaw_691b, ulaw_692, ulaw_692b, ulaw_693, ulaw_694, ulaw_695, ulaw_696, ulaw_697, ulaw_697b, ulaw_698, ulaw_699, ulaw_700, ulaw_701, ulaw_702, mw_os, mw_s_i, mw_s_l, true_and, Option.toList_some, List.cons_append, List.nil_append, List.append_nil, MS_x hM1, r1 _, r2 _]
  refine hm n M1 _ hM1 (fun M2 l2 a2 m2 => ?_)
  simp only [ulaw_705, Option.toList_some, List.cons_append, List.nil_append, List.append_nil, if_true, eq_self_iff_true]
  exact hK M2 g' hg' (CS_kp c1 hg' l2 a2) m2
theorem law_tape (hg : SGOK g) (hC : CS M g) (hM : MS M g) (r1 : lwR scr (x + 1) y1) (r2 : lwR scr (x + 2) y2) (hK : ∀ M' g', SGOK g' → CS M' g' → MS M' g' → wp scr (n + 40) mb_law 1084 (lwL x) [] M' Q) : wp scr (n + 40) mb_law 710 (lwL x) [] M Q := by
  obtain ⟨v, g', hg', hc, hm⟩ := jo_int (J_tape (scr := scr) hg y1 y2) (by decide +kernel) hC
  simp only [lwL, ulaw_710, ulaw_710b, ulaw_711, ulaw_711b, ulaw_712, ulaw_713, ulaw_714, ulaw_715, ulaw_716, ulaw_716b, ulaw_717, ulaw_718, ulaw_719, ulaw_720, ulaw_721, mw_os, mw_s_, true_and, CS_x hC, r1 _, r2 _]
  refine hc n M _ hC (fun M1 l1 a1 c1 => ?_)
  have hM1 := MS_kp hM l1 a1
  simp only [ulaw_724, ulaw_724b, ulaw_725, ulaw_725b, ulaw_726, ulaw_727, ulaw_728, ulaw_729, ulaw_730, ulaw_730b, ulaw_731, ulaw_732, ulaw_733, ulaw_734, ulaw_735, mw_os, mw_s_i, mw_s_l, true_and, Option.toList_some, List.cons_append, List.nil_append, List.append_nil, MS_x hM1, r1 _, r2 _]
  refine hm n M1 _ hM1 (fun M2 l2 a2 m2 => ?_)
  simp only [ulaw_738, Option.toList_some, List.cons_append, List.nil_append, List.append_nil, if_true, eq_self_iff_true]
  exact hK M2 g' hg' (CS_kp c1 hg' l2 a2) m2
theorem law_first (hg : SGOK g) (hC : CS M g) (hM : MS M g) (r1 : lwR scr (x + 1) y1) (r2 : lwR scr (x + 2) y2) (r3 : lwR scr (x + 3) y3) (r4 : lwR scr (x + 4) y4) (hK : ∀ M' g', SGOK g' → CS M' g' → MS M' g' → wp scr (n + 40) mb_law 1084 (lwL x) [] M' Q) : wp scr (n + 40) mb_law 743 (lwL x) [] M Q := by
  obtain ⟨v, g', hg', hc, hm⟩ := jo_int (J_first (scr := scr) hg y1 y2 y3 y4) (by decide +kernel) hC
  simp only [lwL, ulaw_743, ulaw_743b, ulaw_744, ulaw_744b, ulaw_745, ulaw_746, ulaw_747, ulaw_748, ulaw_749, ulaw_749b, ulaw_750, ulaw_751, ulaw_752, ulaw_753, ulaw_754, ulaw_754b, ulaw_755, ulaw_756, ulaw_757, ulaw_758, ulaw_759, ulaw_759b, ulaw_760, ulaw_761, ulaw_762, ulaw_763, ulaw_764, mw_os, mw_s_, true_and, CS_x hC, r1 _, r2 _, r3 _, r4 _]
  refine hc n M _ hC (fun M1 l1 a1 c1 => ?_)
  have hM1 := MS_kp hM l1 a1
  simp only [ulaw_767, ulaw_767b, ulaw_768, ulaw_768b, ulaw_769, ulaw_770, ulaw_771, ulaw_772, ulaw_773, ulaw_773b, ulaw_774, ulaw_775, ulaw_776, ulaw_777, ulaw_778, ulaw_778b, ulaw_779, ulaw_780, ulaw_781, ulaw_782, ulaw_783, ulaw_783b, ulaw_784, ulaw_785, ulaw_786, ulaw_787, ulaw_788, mw_os, mw_s_i, mw_s_l, true_and, Option.toList_some, List.cons_append, List.nil_append, List.append_nil, MS_x hM1, r1 _, r2 _, r3 _, r4 _]
  refine hm n M1 _ hM1 (fun M2 l2 a2 m2 => ?_)
  simp only [ulaw_791, Option.toList_some, List.cons_append, List.nil_append, List.append_nil, if_true, eq_self_iff_true]
  exact hK M2 g' hg' (CS_kp c1 hg' l2 a2) m2
theorem law_hole (hg : SGOK g) (hC : CS M g) (hM : MS M g) (r1 : lwR scr (x + 1) y1) (r2 : lwR scr (x + 2) y2) (hK : ∀ M' g', SGOK g' → CS M' g' → MS M' g' → wp scr (n + 40) mb_law 1084 (lwL x) [] M' Q) : wp scr (n + 40) mb_law 796 (lwL x) [] M Q := by
  obtain ⟨v, g', hg', hc, hm⟩ := jo_int (J_hole (scr := scr) hg y1 y2) (by decide +kernel) hC
  simp only [lwL, ulaw_796, ulaw_796b, ulaw_797, ulaw_797b, ulaw_798, ulaw_799, ulaw_800, ulaw_801, ulaw_802, ulaw_802b, ulaw_803, ulaw_804, ulaw_805, ulaw_806, ulaw_807, mw_os, mw_s_, true_and, CS_x hC, r1 _, r2 _]
  refine hc n M _ hC (fun M1 l1 a1 c1 => ?_)
  have hM1 := MS_kp hM l1 a1
  simp only [ulaw_810, ulaw_810b, ulaw_811, ulaw_811b, ulaw_812, ulaw_813, ulaw_814, ulaw_815, ulaw_816, ulaw_816b, ulaw_817, ulaw_818, ulaw_819, ulaw_820, ulaw_821, mw_os, mw_s_i, mw_s_l, true_and, Option.toList_some, List.cons_append, List.nil_append, List.append_nil, MS_x hM1, r1 _, r2 _]
  refine hm n M1 _ hM1 (fun M2 l2 a2 m2 => ?_)
  simp only [ulaw_824, Option.toList_some, List.cons_append, List.nil_append, List.append_nil, if_true, eq_self_iff_true]
  exact hK M2 g' hg' (CS_kp c1 hg' l2 a2) m2
theorem law_weakest (hg : SGOK g) (hC : CS M g) (hM : MS M g) (r1 : lwR scr (x + 1) y1) (hK : ∀ M' g', SGOK g' → CS M' g' → MS M' g' → wp scr (n + 40) mb_law 1084 (lwL x) [] M' Q) : wp scr (n + 40) mb_law 829 (lwL x) [] M Q := by
  obtain ⟨v, g', hg', hc, hm⟩ := jo_int (J_weakest (scr := scr) hg y1) (by decide +kernel) hC
  simp only [lwL, ulaw_829, ulaw_829b, ulaw_830, ulaw_830b, ulaw_831, ulaw_832, ulaw_833, ulaw_834, ulaw_835, mw_os, mw_s_, true_and, CS_x hC, r1 _]
  refine hc n M _ hC (fun M1 l1 a1 c1 => ?_)
  have hM1 := MS_kp hM l1 a1
  simp only [ulaw_838, ulaw_838b, ulaw_839, ulaw_839b, ulaw_840, ulaw_841, ulaw_842, ulaw_843, ulaw_844, mw_os, mw_s_i, mw_s_l, true_and, Option.toList_some, List.cons_append, List.nil_append, List.append_nil, MS_x hM1, r1 _]
  refine hm n M1 _ hM1 (fun M2 l2 a2 m2 => ?_)
  simp only [ulaw_847, Option.toList_some, List.cons_append, List.nil_append, List.append_nil, if_true, eq_self_iff_true]
  exact hK M2 g' hg' (CS_kp c1 hg' l2 a2) m2
theorem law_wind (hg : SGOK g) (hC : CS M g) (hM : MS M g) (r1 : lwR scr (x + 1) y1) (r2 : lwR scr (x + 2) y2) (hK : ∀ M' g', SGOK g' → CS M' g' → MS M' g' → wp scr (n + 40) mb_law 1084 (lwL x) [] M' Q) : wp scr (n + 40) mb_law 852 (lwL x) [] M Q := by
  obtain ⟨v, g', hg', hc, hm⟩ := jo_long (J_wind (scr := scr) hg y1 y2) (by decide +kernel) hC
  simp only [lwL, ulaw_852, ulaw_852b, ulaw_853, ulaw_853b, ulaw_854, ulaw_855, ulaw_856, ulaw_857, ulaw_858, ulaw_858b, ulaw_859, ulaw_860, ulaw_861, ulaw_862, ulaw_863, mw_os, mw_s_, true_and, CS_x hC, r1 _, r2 _]
  refine hc n M _ hC (fun M1 l1 a1 c1 => ?_)
  have hM1 := MS_kp hM l1 a1
  simp only [ulaw_866, ulaw_866b, ulaw_867, ulaw_867b, ulaw_868, ulaw_869, ulaw_870, ulaw_871, ulaw_872, ulaw_872b, ulaw_873, ulaw_874, ulaw_875, ulaw_876, ulaw_877, mw_os, mw_s_i, mw_s_l, true_and, Option.toList_some, List.cons_append, List.nil_append, List.append_nil, MS_x hM1, r1 _, r2 _]
  refine hm n M1 _ hM1 (fun M2 l2 a2 m2 => ?_)
  simp only [ulaw_880, ulaw_881, Option.toList_some, List.cons_append, List.nil_append, List.append_nil, if_true, eq_self_iff_true, lg_same]
  exact hK M2 g' hg' (CS_kp c1 hg' l2 a2) m2
theorem law_mean (hg : SGOK g) (hC : CS M g) (hM : MS M g) (r1 : lwR scr (x + 1) y1) (hK : ∀ M' g', SGOK g' → CS M' g' → MS M' g' → wp scr (n + 40) mb_law 1084 (lwL x) [] M' Q) : wp scr (n + 40) mb_law 886 (lwL x) [] M Q := by
  obtain ⟨v, g', hg', hc, hm⟩ := jo_long (J_mean (scr := scr) hg y1) (by decide +kernel) hC
  simp only [lwL, ulaw_886, ulaw_886b, ulaw_887, ulaw_887b, ulaw_888, ulaw_889, ulaw_890, ulaw_891, ulaw_892, mw_os, mw_s_, true_and, CS_x hC, r1 _]
  refine hc n M _ hC (fun M1 l1 a1 c1 => ?_)
  have hM1 := MS_kp hM l1 a1
  simp only [ulaw_895, ulaw_895b, ulaw_896, ulaw_896b, ulaw_897, ulaw_898, ulaw_899, ulaw_900, ulaw_901, mw_os, mw_s_i, mw_s_l, true_and, Option.toList_some, List.cons_append, List.nil_append, List.append_nil, MS_x hM1, r1 _]
  refine hm n M1 _ hM1 (fun M2 l2 a2 m2 => ?_)
  simp only [ulaw_904, ulaw_905, Option.toList_some, List.cons_append, List.nil_append, List.append_nil, if_true, eq_self_iff_true, lg_same]
  exact hK M2 g' hg' (CS_kp c1 hg' l2 a2) m2
theorem law_whatIs (hg : SGOK g) (hC : CS M g) (hM : MS M g) (r1 : lwR scr (x + 1) y1) (r2 : lwR scr (x + 2) y2) (hK : ∀ M' g', SGOK g' → CS M' g' → MS M' g' → wp scr (n + 40) mb_law 1084 (lwL x) [] M' Q) : wp scr (n + 40) mb_law 910 (lwL x) [] M Q := by
  obtain ⟨v, g', hg', hc, hm⟩ := jo_int (J_whatIs (scr := scr) hg y1 y2) (by decide +kernel) hC
  simp only [lwL, ulaw_910, ulaw_910b, ulaw_911, ulaw_911b, ulaw_912, ulaw_913, ulaw_914, ulaw_915, ulaw_916, ulaw_916b, ulaw_917, ulaw_918, ulaw_919, ulaw_920, ulaw_921, mw_os, mw_s_, true_and, CS_x hC, r1 _, r2 _]
  refine hc n M _ hC (fun M1 l1 a1 c1 => ?_)
  have hM1 := MS_kp hM l1 a1
  simp only [ulaw_924, ulaw_924b, ulaw_925, ulaw_925b, ulaw_926, ulaw_927, ulaw_928, ulaw_929, ulaw_930, ulaw_930b, ulaw_931, ulaw_932, ulaw_933, ulaw_934, ulaw_935, mw_os, mw_s_i, mw_s_l, true_and, Option.toList_some, List.cons_append, List.nil_append, List.append_nil, MS_x hM1, r1 _, r2 _]
  refine hm n M1 _ hM1 (fun M2 l2 a2 m2 => ?_)
  simp only [ulaw_938, Option.toList_some, List.cons_append, List.nil_append, List.append_nil, if_true, eq_self_iff_true]
  exact hK M2 g' hg' (CS_kp c1 hg' l2 a2) m2
theorem law_row (hg : SGOK g) (hC : CS M g) (hM : MS M g) (r1 : lwR scr (x + 1) y1) (hK : ∀ M' g', SGOK g' → CS M' g' → MS M' g' → wp scr (n + 40) mb_law 1084 (lwL x) [] M' Q) : wp scr (n + 40) mb_law 943 (lwL x) [] M Q := by
  obtain ⟨v, g', hg', hc, hm⟩ := jo_int (J_row (scr := scr) hg y1) (by decide +kernel) hC
  simp only [lwL, ulaw_943, ulaw_943b, ulaw_944, ulaw_944b, ulaw_945, ulaw_946, ulaw_947, ulaw_948, ulaw_949, mw_os, mw_s_, true_and, CS_x hC, r1 _]
  refine hc n M _ hC (fun M1 l1 a1 c1 => ?_)
  have hM1 := MS_kp hM l1 a1
  simp only [ulaw_952, ulaw_952b, ulaw_953, ulaw_953b, ulaw_954, ulaw_955, ulaw_956, ulaw_957, ulaw_958, mw_os, mw_s_i, mw_s_l, true_and, Option.toList_some, List.cons_append, List.nil_append, List.append_nil, MS_x hM1, r1 _]
  refine hm n M1 _ hM1 (fun M2 l2 a2 m2 => ?_)
  simp only [ulaw_961, Option.toList_some, List.cons_append, List.nil_append, List.append_nil, if_true, eq_self_iff_true]
  exact hK M2 g' hg' (CS_kp c1 hg' l2 a2) m2
theorem law_judge (hg : SGOK g) (hC : CS M g) (hM : MS M g) (hK : ∀ M' g', SGOK g' → CS M' g' → MS M' g' → wp scr (n + 40) mb_law 1084 (lwL x) [] M' Q) : wp scr (n + 40) mb_law 966 (lwL x) [] M Q := by
  obtain ⟨v, g', hg', hc, hm⟩ := jo_int (J_judge (scr := scr) hg ) (by decide +kernel) hC
  simp only [lwL, ulaw_966, ulaw_966b, ulaw_967, mw_os, mw_s_, true_and, CS_x hC]
  refine hc n M _ hC (fun M1 l1 a1 c1 => ?_)
  have hM1 := MS_kp hM l1 a1
  simp only [ulaw_970, ulaw_970b, ulaw_971, mw_os, mw_s_i, mw_s_l, true_and, Option.toList_some, List.cons_append, List.nil_append, List.append_nil, MS_x hM1]
  refine hm n M1 _ hM1 (fun M2 l2 a2 m2 => ?_)
  simp only [ulaw_974, Option.toList_some, List.cons_append, List.nil_append, List.append_nil, if_true, eq_self_iff_true]
  exact hK M2 g' hg' (CS_kp c1 hg' l2 a2) m2
theorem law_clear (hg : SGOK g) (hC : CS M g) (hM : MS M g) (hK : ∀ M' g', SGOK g' → CS M' g' → MS M' g' → wp scr (n + 40) mb_law 1084 (lwL x) [] M' Q) : wp scr (n + 40) mb_law 979 (lwL x) [] M Q := by
  obtain ⟨v, g', hg', hc, hm⟩ := jo_int (J_clear (scr := scr) hg ) (by decide +kernel) hC
  simp only [lwL, ulaw_979, ulaw_979b, ulaw_980, mw_os, mw_s_, true_and, CS_x hC]
  refine hc n M _ hC (fun M1 l1 a1 c1 => ?_)
  have hM1 := MS_kp hM l1 a1
  simp only [ulaw_983, ulaw_983b, ulaw_984, mw_os, mw_s_i, mw_s_l, true_and, Option.toList_some, List.cons_append, List.nil_append, List.append_nil, MS_x hM1]
  refine hm n M1 _ hM1 (fun M2 l2 a2 m2 => ?_)
  simp only [ulaw_987, Option.toList_some, List.cons_append, List.nil_append, List.append_nil, if_true, eq_self_iff_true]
  exact hK M2 g' hg' (CS_kp c1 hg' l2 a2) m2
theorem law_lots (hg : SGOK g) (hC : CS M g) (hM : MS M g) (r1 : lwR scr (x + 1) y1) (r2 : lwR scr (x + 2) y2) (r3 : lwR scr (x + 3) y3) (hK : ∀ M' g', SGOK g' → CS M' g' → MS M' g' → wp scr (n + 40) mb_law 1084 (lwL x) [] M' Q) : wp scr (n + 40) mb_law 992 (lwL x) [] M Q := by
  obtain ⟨v, g', hg', hc, hm⟩ := jo_int (J_lots (scr := scr) hg y1 y2 y3) (by decide +kernel) hC
  simp only [lwL, ulaw_992, ulaw_992b, ulaw_993, ulaw_993b, ulaw_994, ulaw_995, ulaw_996, ulaw_997, ulaw_998, ulaw_998b, ulaw_999, ulaw_1000, ulaw_1001, ulaw_1002, ulaw_1003, ulaw_1003b, ulaw_1004, ulaw_1005, ulaw_1006, ulaw_1007, ulaw_1008, mw_os, mw_s_, true_and, CS_x hC, r1 _, r2 _, r3 _]
  refine hc n M _ hC (fun M1 l1 a1 c1 => ?_)
  have hM1 := MS_kp hM l1 a1
  simp only [ulaw_1011, ulaw_1011b, ulaw_1012, ulaw_1012b, ulaw_1013, ulaw_1014, ulaw_1015, ulaw_1016, ulaw_1017, ulaw_1017b, ulaw_1018, ulaw_1019, ulaw_1020, ulaw_1021, ulaw_1022, ulaw_1022b, ulaw_1023, ulaw_1024, ulaw_1025, ulaw_1026, ulaw_1027, mw_os, mw_s_i, mw_s_l, true_and, Option.toList_some, List.cons_append, List.nil_append, List.append_nil, MS_x hM1, r1 _, r2 _, r3 _]
  refine hm n M1 _ hM1 (fun M2 l2 a2 m2 => ?_)
  simp only [ulaw_1030, Option.toList_some, List.cons_append, List.nil_append, List.append_nil, if_true, eq_self_iff_true]
  exact hK M2 g' hg' (CS_kp c1 hg' l2 a2) m2
theorem law_image (hg : SGOK g) (hC : CS M g) (hM : MS M g) (hK : ∀ M' g', SGOK g' → CS M' g' → MS M' g' → wp scr (n + 40) mb_law 1084 (lwL x) [] M' Q) : wp scr (n + 40) mb_law 1035 (lwL x) [] M Q := by
  obtain ⟨v, g', hg', hc, hm⟩ := jo_int (J_image (scr := scr) hg ) (by decide +kernel) hC
  simp only [lwL, ulaw_1035, ulaw_1035b, ulaw_1036, mw_os, mw_s_, true_and, CS_x hC]
  refine hc n M _ hC (fun M1 l1 a1 c1 => ?_)
  have hM1 := MS_kp hM l1 a1
  simp only [ulaw_1039, ulaw_1039b, ulaw_1040, mw_os, mw_s_i, mw_s_l, true_and, Option.toList_some, List.cons_append, List.nil_append, List.append_nil, MS_x hM1]
  refine hm n M1 _ hM1 (fun M2 l2 a2 m2 => ?_)
  simp only [ulaw_1043, Option.toList_some, List.cons_append, List.nil_append, List.append_nil, if_true, eq_self_iff_true]
  exact hK M2 g' hg' (CS_kp c1 hg' l2 a2) m2
theorem law_on (hg : SGOK g) (hC : CS M g) (hM : MS M g) (hK : ∀ M' g', SGOK g' → CS M' g' → MS M' g' → wp scr (n + 40) mb_law 1084 (lwL x) [] M' Q) : wp scr (n + 40) mb_law 1048 (lwL x) [] M Q := by
  obtain ⟨v, g', hg', hc, hm⟩ := jo_int (J_on (scr := scr) hg ) (by decide +kernel) hC
  simp only [lwL, ulaw_1048, ulaw_1048b, ulaw_1049, mw_os, mw_s_, true_and, CS_x hC]
  refine hc n M _ hC (fun M1 l1 a1 c1 => ?_)
  have hM1 := MS_kp hM l1 a1
  simp only [ulaw_1052, ulaw_1052b, ulaw_1053, mw_os, mw_s_i, mw_s_l, true_and, Option.toList_some, List.cons_append, List.nil_append, List.append_nil, MS_x hM1]
  refine hm n M1 _ hM1 (fun M2 l2 a2 m2 => ?_)
  simp only [ulaw_1056, Option.toList_some, List.cons_append, List.nil_append, List.append_nil, if_true, eq_self_iff_true]
  exact hK M2 g' hg' (CS_kp c1 hg' l2 a2) m2
theorem law_count (hg : SGOK g) (hC : CS M g) (hM : MS M g) (r1 : lwR scr (x + 1) y1) (hK : ∀ M' g', SGOK g' → CS M' g' → MS M' g' → wp scr (n + 40) mb_law 1084 (lwL x) [] M' Q) : wp scr (n + 40) mb_law 1061 (lwL x) [] M Q := by
  obtain ⟨v, g', hg', hc, hm⟩ := jo_int (J_count (scr := scr) hg y1) (by decide +kernel) hC
  simp only [lwL, ulaw_1061, ulaw_1061b, ulaw_1062, ulaw_1062b, ulaw_1063, ulaw_1064, ulaw_1065, ulaw_1066, ulaw_1067, mw_os, mw_s_, true_and, CS_x hC, r1 _]
  refine hc n M _ hC (fun M1 l1 a1 c1 => ?_)
  have hM1 := MS_kp hM l1 a1
  simp only [ulaw_1070, ulaw_1070b, ulaw_1071, ulaw_1071b, ulaw_1072, ulaw_1073, ulaw_1074, ulaw_1075, ulaw_1076, mw_os, mw_s_i, mw_s_l, true_and, Option.toList_some, List.cons_append, List.nil_append, List.append_nil, MS_x hM1, r1 _]
  refine hm n M1 _ hM1 (fun M2 l2 a2 m2 => ?_)
  simp only [ulaw_1079, Option.toList_some, List.cons_append, List.nil_append, List.append_nil, if_true, eq_self_iff_true]
  exact hK M2 g' hg' (CS_kp c1 hg' l2 a2) m2
end LW
