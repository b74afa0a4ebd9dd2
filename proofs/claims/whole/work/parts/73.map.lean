section RS
variable {scr : List Int32} {n : Nat} {M M0 M' : mm_M} {Q : Option Value → mm_M → Prop} {g G : SG} {h h' : HV} {p k : Nat} {o : OV}
theorem W149 (hg : SGOK g) (hO : OA M o) (hZ : RA M 141 (gZ g)) (hk : k < gZn g) : Wp scr (n + 1) 149 [.ref 129, .int (nI k)] M Q ↔ Q (some (.int (nI (zN g k) - 48))) M := by
  simp only [e149, u149_0, u149_1, u149_4, u149_5, u149_6, u149_8, u149_9, mw_os, wp_ite, mw_sw, Option.toList_some, Option.toList_none, List.cons_append, List.nil_append, true_and, and_true, if_true, if_false, mw_s_, mw_s_i, mw_s_r, mw_s_ii, mw_s_ir, mw_s_ri, mw_s_rr, mw_s_iii, mw_s_iir, mw_s_iri, mw_s_irr, mw_s_rii, mw_s_rir, mw_s_rri, mw_s_rrr, mw_s_iiii, mw_s_iiir, mw_s_iiri, mw_s_iirr, mw_s_irii, mw_s_irir, mw_s_irri, mw_s_irrr, mw_s_riii, mw_s_riir, mw_s_riri, mw_s_rirr, mw_s_rrii, mw_s_rrir, mw_s_rrri, mw_s_rrrr, OA_7 hO, RA_ld hZ, at_z hg hk]
theorem MTh_row {r : RV} (hm : MTh M0 M G 0 h) (hR : MR r h') : MTh M0 (sr M 133 (rowL r)) G 0 h' := by
  obtain ⟨c1, c2, c3, r0, c4, c5⟩ := hm
  exact ⟨sr_len.trans c1, Ag_tr c2 (Ag_sr (by omega)), MS_deep (k := 0) c3 (by decide) (rowL_len hR.1), r, hR, sr_RA (RA_lt c5)⟩
theorem M148 (hg : SGOK g) (hm : MTh M0 M G 0 h) (hZ : RA M 141 (gZ g)) (hh : HOK h) (hS : GS g p) (hQ : match stp g p h with | some h' => ∀ M', MTh M0 M' G 0 h' → Q (some (.int 1)) M' | none => Q (some (.int 0)) M) : Wp scr (n + 10) 148 [.ref 129, .ref 133, .int (nI p)] M Q := by
  obtain ⟨o, hO', _⟩ := MT_o hm
  obtain ⟨r, hR, hA⟩ := hm.2.2.2
  have hz := hg.2.2.2.1
  have hd4 := hh.2.2.1
  have hp := hS.1
  have hl : 133 < M.length := RA_lt hA
  have w149 := fun (k : Nat) (hk : k < gZn g) (Q : Option Value → mm_M → Prop) => W149 (scr := scr) (n := n + 8) (Q := Q) hg hO' hZ hk
  have ap := at_z hg hp
  have f2 : nI p + 2 = nI (p + 2) := nI_add p 2
  have f3 : nI p + 3 = nI (p + 3) := nI_add p 3
  unfold stp at hQ
  rcases GS_hd hS with k | k | k | k | k
  · obtain ⟨⟨g1, a1, a2⟩, ⟨g2, b⟩, ⟨g3, c1, c2⟩⟩ := GS_k hS k
    rw [if_pos k] at hQ
    have d1 : dgN g (p + 1) < 10 := by unfold dgN; omega
    have e107 : nI (zN g p) = 107 := by rw [k]; rfl
    have z2 : ((107 : Int32) = 102) ↔ False := by decide
    have st1 : mm_sti M (.ref 133) (nI (dgN g (p + 1))) (kdV (zN g (p + 2))) = some (sr M 133 (rowL (yK r ((rK r).set (dgN g (p + 1)) (kdV (zN g (p + 2))))))) := by
      have := RA_st (x := kdV (zN g (p + 2))) (k := dgN g (p + 1)) hA (by rw [rowL_len hR.1]; omega) (by omega)
      rw [st_K hR.1 d1] at this
      exact this
    have hR1 : MR (yK r ((rK r).set (dgN g (p + 1)) (kdV (zN g (p + 2))))) (xK h.1 ((sK h.1).set (dgN g (p + 1)) (kdV (zN g (p + 2)))), h.2) := by
      rw [hR.2.1]
      exact MR_K hR (by rw [List.length_set]; exact hh.1.1)
    have st2 : mm_sti (sr M 133 (rowL (yK r ((rK r).set (dgN g (p + 1)) (kdV (zN g (p + 2))))))) (.ref 133) (nI (10 + dgN g (p + 1))) (nI (dgN g (p + 3))) = some (sr M 133 (rowL (yF (yK r ((rK r).set (dgN g (p + 1)) (kdV (zN g (p + 2))))) ((rF r).set (dgN g (p + 1)) (nI (dgN g (p + 3))))))) := by
      have := RA_st (x := nI (dgN g (p + 3))) (k := 10 + dgN g (p + 1)) (sr_RA (w := rowL (yK r ((rK r).set (dgN g (p + 1)) (kdV (zN g (p + 2)))))) hl) (by rw [rowL_len hR1.1]; omega) (by omega)
      rw [st_F hR1.1 d1, sr_sr] at this
      exact this
    have hR2 : MR (yF (yK r ((rK r).set (dgN g (p + 1)) (kdV (zN g (p + 2))))) ((rF r).set (dgN g (p + 1)) (nI (dgN g (p + 3))))) (xF (xK h.1 ((sK h.1).set (dgN g (p + 1)) (kdV (zN g (p + 2))))) ((sF h.1).set (dgN g (p + 1)) (nI (dgN g (p + 3)))), h.2) := by
      rw [hR.2.2.1]
      exact MR_F hR1 (by rw [List.length_set]; exact hh.1.2.1)
    have hO1 := OA_sr (a := 133) (w := rowL (yK r ((rK r).set (dgN g (p + 1)) (kdV (zN g (p + 2)))))) hO' (by decide)
    have hZ1 : RA (sr M 133 (rowL (yK r ((rK r).set (dgN g (p + 1)) (kdV (zN g (p + 2))))))) 141 (gZ g) := sr_other hZ (by decide)
    have w149' := fun (k : Nat) (hk : k < gZn g) (Q : Option Value → mm_M → Prop) => W149 (scr := scr) (n := n + 8) (Q := Q) hg hO1 hZ1 hk
    simp only [or_true, true_or, e148, u148_0, u148_0b, u148_1, u148_4, u148_5, u148_6, u148_48, u148_48b, u148_49, u148_50, u148_50b, u148_51, u148_52, u148_53, u148_54, u148_57, u148_58, u148_60, u148_60b, u148_61, u148_64, u148_65, u148_66, u148_67, u148_68, u148_71, u148_72, u148_72b, u148_73, u148_75, u148_75b, u148_76, u148_77, u148_78, u148_79, u148_82, u148_83, u148_83b, u148_84, u148_85, u148_86, u148_87, u148_90, u148_91, u148_92, u148_93, u148_93b, u148_94, u148_96, u148_96b, u148_97, u148_98, u148_99, u148_100, u148_103, u148_104, u148_106, u148_106b, u148_107, u148_108, u148_109, u148_110, u148_113, u148_114, u148_114b, u148_115, u148_116, u148_117, u148_118, u148_121, u148_122, u148_123, u148_124, u148_125, u148_125b, u148_126, u148_126b, u148_127, u148_128, u148_129, u148_130, u148_133, u148_136, u148_139, u148_139b, u148_140, u148_141, u148_142, u148_143, u148_146, u148_147, u148_150, u148_151, u148_152, u148_152b, u148_153, u148_153b, u148_154, u148_154b, u148_155, u148_156, u148_157, u148_158, u148_161, u148_161b, u148_162, u148_163, u148_164, u148_165, u148_168, u148_171, u148_172, u148_173, u148_174, u148_174b, u148_175, u148_177, u148_178, u148_181, u148_182, u148_183, u148_183b, u148_184, u148_187, u148_188, u148_189, u148_189b, u148_190, u148_191, u148_192, u148_193, u148_196, u148_198, u148_201, u148_202, u148_203, u148_203b, u148_204, u148_206, u148_206b, u148_207, u148_208, u148_209, u148_210, u148_213, u148_214, u148_215, mw_os, wp_ite, mw_sw, Option.toList_some, Option.toList_none, List.cons_append, List.nil_append, true_and, and_true, if_true, if_false, mw_s_, mw_s_i, mw_s_r, mw_s_ii, mw_s_ir, mw_s_ri, mw_s_rr, mw_s_iii, mw_s_iir, mw_s_iri, mw_s_irr, mw_s_rii, mw_s_rir, mw_s_rri, mw_s_rrr, mw_s_iiii, mw_s_iiir, mw_s_iiri, mw_s_iirr, mw_s_irii, mw_s_irir, mw_s_irri, mw_s_irrr, mw_s_riii, mw_s_riir, mw_s_riri, mw_s_rirr, mw_s_rrii, mw_s_rrir, mw_s_rrri, mw_s_rrrr, mm_sto1, mm_clr, mm_isL, List.getElem?_cons_zero, List.getElem?_cons_succ, List.set_cons_zero, List.set_cons_succ, Bool.false_eq_true, OA_7 hO', RA_ld hZ, ap, e107, z2, OA_x hO', nI_1, w149 _ g1, s48 a1, c0, f2, at_z hg g2, x_37, W7_37 (zN_eq hg g2).2, st1, OA_x hO1, w149' _ g1, c10, f3, w149' _ g3, s48 c1, st2]
    exact hQ _ (MTh_row hm hR2)
  · obtain ⟨⟨g1, a1, a2⟩, ⟨g2, b1, b2⟩, ⟨g3, c1, c2⟩⟩ := GS_w hS k
    rw [if_neg (by omega), if_pos k] at hQ
    have d1 : dgN g (p + 1) < 10 := by unfold dgN; omega
    have e119 : nI (zN g p) = 119 := by rw [k]; rfl
    have z2 : ((119 : Int32) = 102) ↔ False := by decide
    have z3 : ((119 : Int32) = 107) ↔ False := by decide
    have z4 : ((119 : Int32) = 111) ↔ False := by decide
    have ew : (10 : Int32) * nI (dgN g (p + 2)) + nI (dgN g (p + 3)) = nI (10 * dgN g (p + 2) + dgN g (p + 3)) := by
      rw [show (10 : Int32) * nI (dgN g (p + 2)) = nI (10 * dgN g (p + 2)) from pk_mul 10 _, nI_add]
    have st1 : mm_sti M (.ref 133) (nI (20 + dgN g (p + 1))) (nI (10 * dgN g (p + 2) + dgN g (p + 3))) = some (sr M 133 (rowL (yO r ((rO r).set (dgN g (p + 1)) (nI (10 * dgN g (p + 2) + dgN g (p + 3))))))) := by
      have := RA_st (x := nI (10 * dgN g (p + 2) + dgN g (p + 3))) (k := 20 + dgN g (p + 1)) hA (by rw [rowL_len hR.1]; omega) (by omega)
      rw [st_O hR.1 d1] at this
      exact this
    have hR1 : MR (yO r ((rO r).set (dgN g (p + 1)) (nI (10 * dgN g (p + 2) + dgN g (p + 3))))) (xW h.1 ((sWo h.1).set (dgN g (p + 1)) (nI (10 * dgN g (p + 2) + dgN g (p + 3)))), h.2) := by
      rw [hR.2.2.2.1]
      exact MR_O hR (by rw [List.length_set]; exact hh.1.2.2)
    simp only [or_true, true_or, e148, u148_0, u148_0b, u148_1, u148_4, u148_5, u148_6, u148_48, u148_48b, u148_49, u148_50, u148_50b, u148_51, u148_52, u148_53, u148_54, u148_57, u148_58, u148_60, u148_60b, u148_61, u148_64, u148_65, u148_66, u148_67, u148_68, u148_71, u148_72, u148_72b, u148_73, u148_75, u148_75b, u148_76, u148_77, u148_78, u148_79, u148_82, u148_83, u148_83b, u148_84, u148_85, u148_86, u148_87, u148_90, u148_91, u148_92, u148_93, u148_93b, u148_94, u148_96, u148_96b, u148_97, u148_98, u148_99, u148_100, u148_103, u148_104, u148_106, u148_106b, u148_107, u148_108, u148_109, u148_110, u148_113, u148_114, u148_114b, u148_115, u148_116, u148_117, u148_118, u148_121, u148_122, u148_123, u148_124, u148_125, u148_125b, u148_126, u148_126b, u148_127, u148_128, u148_129, u148_130, u148_133, u148_136, u148_139, u148_139b, u148_140, u148_141, u148_142, u148_143, u148_146, u148_147, u148_150, u148_151, u148_152, u148_152b, u148_153, u148_153b, u148_154, u148_154b, u148_155, u148_156, u148_157, u148_158, u148_161, u148_161b, u148_162, u148_163, u148_164, u148_165, u148_168, u148_171, u148_172, u148_173, u148_174, u148_174b, u148_175, u148_177, u148_178, u148_181, u148_182, u148_183, u148_183b, u148_184, u148_187, u148_188, u148_189, u148_189b, u148_190, u148_191, u148_192, u148_193, u148_196, u148_198, u148_201, u148_202, u148_203, u148_203b, u148_204, u148_206, u148_206b, u148_207, u148_208, u148_209, u148_210, u148_213, u148_214, u148_215, mw_os, wp_ite, mw_sw, Option.toList_some, Option.toList_none, List.cons_append, List.nil_append, true_and, and_true, if_true, if_false, mw_s_, mw_s_i, mw_s_r, mw_s_ii, mw_s_ir, mw_s_ri, mw_s_rr, mw_s_iii, mw_s_iir, mw_s_iri, mw_s_irr, mw_s_rii, mw_s_rir, mw_s_rri, mw_s_rrr, mw_s_iiii, mw_s_iiir, mw_s_iiri, mw_s_iirr, mw_s_irii, mw_s_irir, mw_s_irri, mw_s_irrr, mw_s_riii, mw_s_riir, mw_s_riri, mw_s_rirr, mw_s_rrii, mw_s_rrir, mw_s_rrri, mw_s_rrrr, mm_sto1, mm_clr, mm_isL, List.getElem?_cons_zero, List.getElem?_cons_succ, List.set_cons_zero, List.set_cons_succ, Bool.false_eq_true, OA_7 hO', RA_ld hZ, ap, e119, z2, z3, z4, OA_x hO', nI_1, w149 _ g1, s48 a1, c20, f2, w149 _ g2, s48 b1, f3, w149 _ g3, s48 c1, ew, st1]
    exact hQ _ (MTh_row hm hR1)
  · obtain ⟨⟨g1, a1, a2⟩, ⟨g2, b1, b2⟩⟩ := GS_f hS k
    rw [if_neg (by omega), if_neg (by omega), if_pos k] at hQ
    have e102 : nI (zN g p) = 102 := by rw [k]; rfl
    have dd2 : dgN g (p + 2) ≤ 9 := by unfold dgN; omega
    have w150 : ∀ Q : Option Value → mm_M → Prop, Wp scr (n + 9) 150 [.ref 133, .int (nI (dgN g (p + 1)))] M Q ↔ Q (some (.int (bi (hasL (hU h) (nI (dgN g (p + 1))))))) M := fun Q => MT150 (k := 0) (n := n + 7) hm hh
    cases hl : hasL (hU h) (nI (dgN g (p + 1)))
    · rw [if_neg (fun z => absurd z.1 (by rw [hl]; decide))] at hQ
      simp only [or_true, true_or, e148, u148_0, u148_0b, u148_1, u148_4, u148_5, u148_6, u148_48, u148_48b, u148_49, u148_50, u148_50b, u148_51, u148_52, u148_53, u148_54, u148_57, u148_58, u148_60, u148_60b, u148_61, u148_64, u148_65, u148_66, u148_67, u148_68, u148_71, u148_72, u148_72b, u148_73, u148_75, u148_75b, u148_76, u148_77, u148_78, u148_79, u148_82, u148_83, u148_83b, u148_84, u148_85, u148_86, u148_87, u148_90, u148_91, u148_92, u148_93, u148_93b, u148_94, u148_96, u148_96b, u148_97, u148_98, u148_99, u148_100, u148_103, u148_104, u148_106, u148_106b, u148_107, u148_108, u148_109, u148_110, u148_113, u148_114, u148_114b, u148_115, u148_116, u148_117, u148_118, u148_121, u148_122, u148_123, u148_124, u148_125, u148_125b, u148_126, u148_126b, u148_127, u148_128, u148_129, u148_130, u148_133, u148_136, u148_139, u148_139b, u148_140, u148_141, u148_142, u148_143, u148_146, u148_147, u148_150, u148_151, u148_152, u148_152b, u148_153, u148_153b, u148_154, u148_154b, u148_155, u148_156, u148_157, u148_158, u148_161, u148_161b, u148_162, u148_163, u148_164, u148_165, u148_168, u148_171, u148_172, u148_173, u148_174, u148_174b, u148_175, u148_177, u148_178, u148_181, u148_182, u148_183, u148_183b, u148_184, u148_187, u148_188, u148_189, u148_189b, u148_190, u148_191, u148_192, u148_193, u148_196, u148_198, u148_201, u148_202, u148_203, u148_203b, u148_204, u148_206, u148_206b, u148_207, u148_208, u148_209, u148_210, u148_213, u148_214, u148_215, mw_os, wp_ite, mw_sw, Option.toList_some, Option.toList_none, List.cons_append, List.nil_append, true_and, and_true, if_true, if_false, mw_s_, mw_s_i, mw_s_r, mw_s_ii, mw_s_ir, mw_s_ri, mw_s_rr, mw_s_iii, mw_s_iir, mw_s_iri, mw_s_irr, mw_s_rii, mw_s_rir, mw_s_rri, mw_s_rrr, mw_s_iiii, mw_s_iiir, mw_s_iiri, mw_s_iirr, mw_s_irii, mw_s_irir, mw_s_irri, mw_s_irrr, mw_s_riii, mw_s_riir, mw_s_riri, mw_s_rirr, mw_s_rrii, mw_s_rrir, mw_s_rrri, mw_s_rrrr, mm_sto1, mm_clr, mm_isL, List.getElem?_cons_zero, List.getElem?_cons_succ, List.set_cons_zero, List.set_cons_succ, Bool.false_eq_true, OA_7 hO', RA_ld hZ, ap, e102, OA_x hO', nI_1, w149 _ g1, s48 a1, w150, hl, bi_eq0]
      exact hQ
    · by_cases h4 : dgN g (p + 2) < 4
      · rw [if_pos ⟨hl, h4⟩] at hQ
        obtain ⟨q1, q2⟩ := lt4_ok hh (show dgN g (p + 1) ≤ 9 by unfold dgN; omega) hl
        have c4 : (nI (dgN g (p + 2)) ≤ 3) ↔ True := iff_true_intro (nI_le (b := 3) (by omega) (by decide))
        simp only [u148_0, u148_1, u148_4, u148_5, u148_6, u148_125, u148_126, u148_127, u148_128, u148_129, u148_130, u148_133, u148_136, u148_139, u148_140, u148_141, u148_142, u148_143, u148_146, u148_147, u148_152, u148_153, u148_154, u148_155, u148_156, u148_157, u148_158, u148_161, u148_162, u148_163, u148_164, u148_165, u148_168, e148, mw_os, wp_ite, mw_sw, Option.toList_some, Option.toList_none, List.cons_append, List.nil_append, true_and, and_true, if_true, if_false, mw_s_, mw_s_i, mw_s_r, mw_s_ii, mw_s_ir, mw_s_ri, mw_s_rr, mw_s_iii, mw_s_iir, mw_s_iri, mw_s_irr, mw_s_rii, mw_s_rir, mw_s_rri, mw_s_rrr, mw_s_iiii, mw_s_iiir, mw_s_iiri, mw_s_iirr, mw_s_irii, mw_s_irir, mw_s_irri, mw_s_irrr, mw_s_riii, mw_s_riir, mw_s_riri, mw_s_rirr, mw_s_rrii, mw_s_rrir, mw_s_rrri, mw_s_rrrr, mm_sto1, mm_clr, mm_isL, List.getElem?_cons_zero, List.getElem?_cons_succ, List.set_cons_zero, List.set_cons_succ, Bool.false_eq_true, OA_7 hO', RA_ld hZ, ap, e102, OA_x hO', nI_1, w149 _ g1, s48 a1, w150, hl, bi_eq0, reduceCtorEq, f2, w149 _ g2, s48 b1, c4]
        refine MT152 (k := 0) (n := n + 5) hm (by decide) hh q1 q2 hl h4 (fun M2 hm2 _ _ => ?_)
        simp only [or_true, true_or, u148_171, u148_172, u148_173, mw_os, wp_ite, mw_sw, Option.toList_some, Option.toList_none, List.cons_append, List.nil_append, true_and, and_true, if_true, if_false, mw_s_, mw_s_i, mw_s_r, mw_s_ii, mw_s_ir, mw_s_ri, mw_s_rr, mw_s_iii, mw_s_iir, mw_s_iri, mw_s_irr, mw_s_rii, mw_s_rir, mw_s_rri, mw_s_rrr, mw_s_iiii, mw_s_iiir, mw_s_iiri, mw_s_iirr, mw_s_irii, mw_s_irir, mw_s_irri, mw_s_irrr, mw_s_riii, mw_s_riir, mw_s_riri, mw_s_rirr, mw_s_rrii, mw_s_rrir, mw_s_rrri, mw_s_rrrr, mm_sto1, mm_clr, mm_isL, List.getElem?_cons_zero, List.getElem?_cons_succ, List.set_cons_zero, List.set_cons_succ, Bool.false_eq_true]
        exact hQ _ hm2
      · rw [if_neg (fun z => h4 z.2)] at hQ
        have c4 : (nI (dgN g (p + 2)) ≤ 3) ↔ False := iff_false_intro (fun z => h4 (by have := (nI_leI (b := 3) (by omega) (by decide)).mp z; omega))
        simp only [or_true, true_or, e148, u148_0, u148_0b, u148_1, u148_4, u148_5, u148_6, u148_48, u148_48b, u148_49, u148_50, u148_50b, u148_51, u148_52, u148_53, u148_54, u148_57, u148_58, u148_60, u148_60b, u148_61, u148_64, u148_65, u148_66, u148_67, u148_68, u148_71, u148_72, u148_72b, u148_73, u148_75, u148_75b, u148_76, u148_77, u148_78, u148_79, u148_82, u148_83, u148_83b, u148_84, u148_85, u148_86, u148_87, u148_90, u148_91, u148_92, u148_93, u148_93b, u148_94, u148_96, u148_96b, u148_97, u148_98, u148_99, u148_100, u148_103, u148_104, u148_106, u148_106b, u148_107, u148_108, u148_109, u148_110, u148_113, u148_114, u148_114b, u148_115, u148_116, u148_117, u148_118, u148_121, u148_122, u148_123, u148_124, u148_125, u148_125b, u148_126, u148_126b, u148_127, u148_128, u148_129, u148_130, u148_133, u148_136, u148_139, u148_139b, u148_140, u148_141, u148_142, u148_143, u148_146, u148_147, u148_150, u148_151, u148_152, u148_152b, u148_153, u148_153b, u148_154, u148_154b, u148_155, u148_156, u148_157, u148_158, u148_161, u148_161b, u148_162, u148_163, u148_164, u148_165, u148_168, u148_171, u148_172, u148_173, u148_174, u148_174b, u148_175, u148_177, u148_178, u148_181, u148_182, u148_183, u148_183b, u148_184, u148_187, u148_188, u148_189, u148_189b, u148_190, u148_191, u148_192, u148_193, u148_196, u148_198, u148_201, u148_202, u148_203, u148_203b, u148_204, u148_206, u148_206b, u148_207, u148_208, u148_209, u148_210, u148_213, u148_214, u148_215, mw_os, wp_ite, mw_sw, Option.toList_some, Option.toList_none, List.cons_append, List.nil_append, true_and, and_true, if_true, if_false, mw_s_, mw_s_i, mw_s_r, mw_s_ii, mw_s_ir, mw_s_ri, mw_s_rr, mw_s_iii, mw_s_iir, mw_s_iri, mw_s_irr, mw_s_rii, mw_s_rir, mw_s_rri, mw_s_rrr, mw_s_iiii, mw_s_iiir, mw_s_iiri, mw_s_iirr, mw_s_irii, mw_s_irir, mw_s_irri, mw_s_irrr, mw_s_riii, mw_s_riir, mw_s_riri, mw_s_rirr, mw_s_rrii, mw_s_rrir, mw_s_rrri, mw_s_rrrr, mm_sto1, mm_clr, mm_isL, List.getElem?_cons_zero, List.getElem?_cons_succ, List.set_cons_zero, List.set_cons_succ, Bool.false_eq_true, OA_7 hO', RA_ld hZ, ap, e102, OA_x hO', nI_1, w149 _ g1, s48 a1, w150, hl, bi_eq0, reduceCtorEq, f2, w149 _ g2, s48 b1, c4]
        exact hQ
  · rw [if_neg (by omega), if_neg (by omega), if_neg (by omega), if_pos k] at hQ
    have e111 : nI (zN g p) = 111 := by rw [k]; rfl
    have z2 : ((111 : Int32) = 102) ↔ False := by decide
    have z3 : ((111 : Int32) = 107) ↔ False := by decide
    have r5 : mm_at (rowL r) 73 = some (nI h.2.1) := (rd_N hR.1).trans (by rw [hR.2.2.2.2.2.2.2.1])
    by_cases hd0 : h.2.1 = 0
    · rw [if_pos hd0] at hQ
      have e0 : (nI h.2.1 = 0) ↔ True := by rw [hd0]; exact iff_true_intro rfl
      simp only [or_true, true_or, e148, u148_0, u148_0b, u148_1, u148_4, u148_5, u148_6, u148_48, u148_48b, u148_49, u148_50, u148_50b, u148_51, u148_52, u148_53, u148_54, u148_57, u148_58, u148_60, u148_60b, u148_61, u148_64, u148_65, u148_66, u148_67, u148_68, u148_71, u148_72, u148_72b, u148_73, u148_75, u148_75b, u148_76, u148_77, u148_78, u148_79, u148_82, u148_83, u148_83b, u148_84, u148_85, u148_86, u148_87, u148_90, u148_91, u148_92, u148_93, u148_93b, u148_94, u148_96, u148_96b, u148_97, u148_98, u148_99, u148_100, u148_103, u148_104, u148_106, u148_106b, u148_107, u148_108, u148_109, u148_110, u148_113, u148_114, u148_114b, u148_115, u148_116, u148_117, u148_118, u148_121, u148_122, u148_123, u148_124, u148_125, u148_125b, u148_126, u148_126b, u148_127, u148_128, u148_129, u148_130, u148_133, u148_136, u148_139, u148_139b, u148_140, u148_141, u148_142, u148_143, u148_146, u148_147, u148_150, u148_151, u148_152, u148_152b, u148_153, u148_153b, u148_154, u148_154b, u148_155, u148_156, u148_157, u148_158, u148_161, u148_161b, u148_162, u148_163, u148_164, u148_165, u148_168, u148_171, u148_172, u148_173, u148_174, u148_174b, u148_175, u148_177, u148_178, u148_181, u148_182, u148_183, u148_183b, u148_184, u148_187, u148_188, u148_189, u148_189b, u148_190, u148_191, u148_192, u148_193, u148_196, u148_198, u148_201, u148_202, u148_203, u148_203b, u148_204, u148_206, u148_206b, u148_207, u148_208, u148_209, u148_210, u148_213, u148_214, u148_215, mw_os, wp_ite, mw_sw, Option.toList_some, Option.toList_none, List.cons_append, List.nil_append, true_and, and_true, if_true, if_false, mw_s_, mw_s_i, mw_s_r, mw_s_ii, mw_s_ir, mw_s_ri, mw_s_rr, mw_s_iii, mw_s_iir, mw_s_iri, mw_s_irr, mw_s_rii, mw_s_rir, mw_s_rri, mw_s_rrr, mw_s_iiii, mw_s_iiir, mw_s_iiri, mw_s_iirr, mw_s_irii, mw_s_irir, mw_s_irri, mw_s_irrr, mw_s_riii, mw_s_riir, mw_s_riri, mw_s_rirr, mw_s_rrii, mw_s_rrir, mw_s_rrri, mw_s_rrrr, mm_sto1, mm_clr, mm_isL, List.getElem?_cons_zero, List.getElem?_cons_succ, List.set_cons_zero, List.set_cons_succ, Bool.false_eq_true, OA_7 hO', RA_ld hZ, RA_ld hA, ap, e111, z2, z3, r5, e0, not_true]
      exact hQ
    · rw [if_neg hd0] at hQ
      obtain ⟨e, he⟩ : ∃ e, h.2.1 = e + 1 := ⟨h.2.1 - 1, by omega⟩
      rw [show h.2.1 - 1 = e by omega] at hQ
      have e0 : (nI h.2.1 = 0) ↔ False := iff_false_intro (nI_ne0 (by omega) (by omega))
      simp only [u148_0, u148_1, u148_4, u148_5, u148_6, u148_174, u148_175, u148_177, u148_178, u148_183, u148_184, e148, mw_os, wp_ite, mw_sw, Option.toList_some, Option.toList_none, List.cons_append, List.nil_append, true_and, and_true, if_true, if_false, mw_s_, mw_s_i, mw_s_r, mw_s_ii, mw_s_ir, mw_s_ri, mw_s_rr, mw_s_iii, mw_s_iir, mw_s_iri, mw_s_irr, mw_s_rii, mw_s_rir, mw_s_rri, mw_s_rrr, mw_s_iiii, mw_s_iiir, mw_s_iiri, mw_s_iirr, mw_s_irii, mw_s_irir, mw_s_irri, mw_s_irrr, mw_s_riii, mw_s_riir, mw_s_riri, mw_s_rirr, mw_s_rrii, mw_s_rrir, mw_s_rrri, mw_s_rrrr, mm_sto1, mm_clr, mm_isL, List.getElem?_cons_zero, List.getElem?_cons_succ, List.set_cons_zero, List.set_cons_succ, Bool.false_eq_true, OA_7 hO', RA_ld hZ, RA_ld hA, ap, e111, z2, z3, r5, e0, not_false_eq_true]
      refine MT164 (k := 0) (n := n + 8) hm (by decide) hh he (fun M2 hm2 => ?_)
      simp only [or_true, true_or, u148_187, u148_188, mw_os, wp_ite, mw_sw, Option.toList_some, Option.toList_none, List.cons_append, List.nil_append, true_and, and_true, if_true, if_false, mw_s_, mw_s_i, mw_s_r, mw_s_ii, mw_s_ir, mw_s_ri, mw_s_rr, mw_s_iii, mw_s_iir, mw_s_iri, mw_s_irr, mw_s_rii, mw_s_rir, mw_s_rri, mw_s_rrr, mw_s_iiii, mw_s_iiir, mw_s_iiri, mw_s_iirr, mw_s_irii, mw_s_irir, mw_s_irri, mw_s_irrr, mw_s_riii, mw_s_riir, mw_s_riri, mw_s_rirr, mw_s_rrii, mw_s_rrir, mw_s_rrri, mw_s_rrrr, mm_sto1, mm_clr, mm_isL, List.getElem?_cons_zero, List.getElem?_cons_succ, List.set_cons_zero, List.set_cons_succ, Bool.false_eq_true]
      exact hQ _ hm2
  · obtain ⟨g1, a1, a2⟩ := GS_c hS k
    rw [if_neg (by omega), if_neg (by omega), if_neg (by omega), if_neg (by omega)] at hQ
    have e99 : nI (zN g p) = 99 := by rw [k]; rfl
    have z2 : ((99 : Int32) = 102) ↔ False := by decide
    have z3 : ((99 : Int32) = 107) ↔ False := by decide
    have z4 : ((99 : Int32) = 111) ↔ False := by decide
    have z5 : ((99 : Int32) = 119) ↔ False := by decide
    by_cases h8 : dgN g (p + 1) < 8
    · rw [if_pos h8] at hQ
      have c7 : (nI (dgN g (p + 1)) ≤ 7) ↔ True := iff_true_intro (nI_le (b := 7) (by omega) (by decide))
      have st : mm_sti M (.ref 133) 72 (nI (dgN g (p + 1))) = some (sr M 133 (rowL (yC r (nI (dgN g (p + 1)))))) := by
        have := RA_st (x := nI (dgN g (p + 1))) (k := 72) hA (by rw [rowL_len hR.1]; decide) (by decide)
        rw [st_C hR.1] at this
        exact this
      simp only [or_true, true_or, e148, u148_0, u148_0b, u148_1, u148_4, u148_5, u148_6, u148_48, u148_48b, u148_49, u148_50, u148_50b, u148_51, u148_52, u148_53, u148_54, u148_57, u148_58, u148_60, u148_60b, u148_61, u148_64, u148_65, u148_66, u148_67, u148_68, u148_71, u148_72, u148_72b, u148_73, u148_75, u148_75b, u148_76, u148_77, u148_78, u148_79, u148_82, u148_83, u148_83b, u148_84, u148_85, u148_86, u148_87, u148_90, u148_91, u148_92, u148_93, u148_93b, u148_94, u148_96, u148_96b, u148_97, u148_98, u148_99, u148_100, u148_103, u148_104, u148_106, u148_106b, u148_107, u148_108, u148_109, u148_110, u148_113, u148_114, u148_114b, u148_115, u148_116, u148_117, u148_118, u148_121, u148_122, u148_123, u148_124, u148_125, u148_125b, u148_126, u148_126b, u148_127, u148_128, u148_129, u148_130, u148_133, u148_136, u148_139, u148_139b, u148_140, u148_141, u148_142, u148_143, u148_146, u148_147, u148_150, u148_151, u148_152, u148_152b, u148_153, u148_153b, u148_154, u148_154b, u148_155, u148_156, u148_157, u148_158, u148_161, u148_161b, u148_162, u148_163, u148_164, u148_165, u148_168, u148_171, u148_172, u148_173, u148_174, u148_174b, u148_175, u148_177, u148_178, u148_181, u148_182, u148_183, u148_183b, u148_184, u148_187, u148_188, u148_189, u148_189b, u148_190, u148_191, u148_192, u148_193, u148_196, u148_198, u148_201, u148_202, u148_203, u148_203b, u148_204, u148_206, u148_206b, u148_207, u148_208, u148_209, u148_210, u148_213, u148_214, u148_215, mw_os, wp_ite, mw_sw, Option.toList_some, Option.toList_none, List.cons_append, List.nil_append, true_and, and_true, if_true, if_false, mw_s_, mw_s_i, mw_s_r, mw_s_ii, mw_s_ir, mw_s_ri, mw_s_rr, mw_s_iii, mw_s_iir, mw_s_iri, mw_s_irr, mw_s_rii, mw_s_rir, mw_s_rri, mw_s_rrr, mw_s_iiii, mw_s_iiir, mw_s_iiri, mw_s_iirr, mw_s_irii, mw_s_irir, mw_s_irri, mw_s_irrr, mw_s_riii, mw_s_riir, mw_s_riri, mw_s_rirr, mw_s_rrii, mw_s_rrir, mw_s_rrri, mw_s_rrrr, mm_sto1, mm_clr, mm_isL, List.getElem?_cons_zero, List.getElem?_cons_succ, List.set_cons_zero, List.set_cons_succ, Bool.false_eq_true, OA_7 hO', RA_ld hZ, ap, e99, z2, z3, z4, z5, OA_x hO', nI_1, w149 _ g1, s48 a1, c7, st]
      exact hQ _ (MTh_row hm (MR_C hR))
    · rw [if_neg h8] at hQ
      have c7 : (nI (dgN g (p + 1)) ≤ 7) ↔ False := iff_false_intro (fun z => h8 (by have := (nI_leI (b := 7) (by unfold dgN; omega) (by decide)).mp z; omega))
      simp only [or_true, true_or, e148, u148_0, u148_0b, u148_1, u148_4, u148_5, u148_6, u148_48, u148_48b, u148_49, u148_50, u148_50b, u148_51, u148_52, u148_53, u148_54, u148_57, u148_58, u148_60, u148_60b, u148_61, u148_64, u148_65, u148_66, u148_67, u148_68, u148_71, u148_72, u148_72b, u148_73, u148_75, u148_75b, u148_76, u148_77, u148_78, u148_79, u148_82, u148_83, u148_83b, u148_84, u148_85, u148_86, u148_87, u148_90, u148_91, u148_92, u148_93, u148_93b, u148_94, u148_96, u148_96b, u148_97, u148_98, u148_99, u148_100, u148_103, u148_104, u148_106, u148_106b, u148_107, u148_108, u148_109, u148_110, u148_113, u148_114, u148_114b, u148_115, u148_116, u148_117, u148_118, u148_121, u148_122, u148_123, u148_124, u148_125, u148_125b, u148_126, u148_126b, u148_127, u148_128, u148_129, u148_130, u148_133, u148_136, u148_139, u148_139b, u148_140, u148_141, u148_142, u148_143, u148_146, u148_147, u148_150, u148_151, u148_152, u148_152b, u148_153, u148_153b, u148_154, u148_154b, u148_155, u148_156, u148_157, u148_158, u148_161, u148_161b, u148_162, u148_163, u148_164, u148_165, u148_168, u148_171, u148_172, u148_173, u148_174, u148_174b, u148_175, u148_177, u148_178, u148_181, u148_182, u148_183, u148_183b, u148_184, u148_187, u148_188, u148_189, u148_189b, u148_190, u148_191, u148_192, u148_193, u148_196, u148_198, u148_201, u148_202, u148_203, u148_203b, u148_204, u148_206, u148_206b, u148_207, u148_208, u148_209, u148_210, u148_213, u148_214, u148_215, mw_os, wp_ite, mw_sw, Option.toList_some, Option.toList_none, List.cons_append, List.nil_append, true_and, and_true, if_true, if_false, mw_s_, mw_s_i, mw_s_r, mw_s_ii, mw_s_ir, mw_s_ri, mw_s_rr, mw_s_iii, mw_s_iir, mw_s_iri, mw_s_irr, mw_s_rii, mw_s_rir, mw_s_rri, mw_s_rrr, mw_s_iiii, mw_s_iiir, mw_s_iiri, mw_s_iirr, mw_s_irii, mw_s_irir, mw_s_irri, mw_s_irrr, mw_s_riii, mw_s_riir, mw_s_riri, mw_s_rirr, mw_s_rrii, mw_s_rrir, mw_s_rrri, mw_s_rrrr, mm_sto1, mm_clr, mm_isL, List.getElem?_cons_zero, List.getElem?_cons_succ, List.set_cons_zero, List.set_cons_succ, Bool.false_eq_true, OA_7 hO', RA_ld hZ, ap, e99, z2, z3, z4, z5, OA_x hO', nI_1, w149 _ g1, s48 a1, c7]
      exact hQ
/-! all statements -/
def dF (g : SG) : Nat → Nat → HV → Nat → Option Nat × Nat × HV
  | 0, _, h, c => (none, c, h)
  | f + 1, p, h, c => if p < gZn g then (match stp g p h with
      | none => (some p, c, h)
      | some h' => dF g f (p + 1 + (shp (zN g p)).length) h' (c + 1)) else (none, c, h)
theorem outL_GS {f : Nat} (h : outL g (f + 1) p = none) (hp : p < gZn g) : GS g p ∧ outL g f (p + 1 + (shp (zN g p)).length) = none := by
  rw [outL, if_pos hp] at h
  by_cases he : shp (zN g p) = []
  · rw [if_pos he] at h; cases h
  · rw [if_neg he] at h
    cases hi : inL g p (shp (zN g p)) (shp (zN g p)).length 0 with
    | some q => rw [hi] at h; cases h
    | none =>
      rw [hi] at h
      exact ⟨⟨hp, he, fun j hj => inL_none _ _ hi j (by omega) (by omega)⟩, h⟩
theorem C86l (hg : SGOK g) : ∀ (f p : Nat) (h : HV) (c : Nat) (M : mm_M), gZn g + 1 ≤ p + f → p ≤ 200 → c ≤ p → outL g f p = none → HOK h → CTt M0 M g h → (∀ M', CTt M0 M' g (dF g f p h c).2.2 → HOK (dF g f p h c).2.2 → match (dF g f p h c).1 with | some q => Q (some (.int (-2000 - nI q))) M' | none => wp scr (n + 9) mb_86 59 [some (.ref 0), some (.int (nI (dF g f p h c).2.1)), some (.int (nI (gZn g)))] [] M' Q ∧ ∀ q, wp scr (n + 9) mb_86 59 [some (.ref 0), some (.int (nI (dF g f p h c).2.1)), some (.int (nI q))] [] M' Q) → wp scr (n + 9) mb_86 15 [some (.ref 0), some (.int (nI c)), some (.int (nI p))] [] M Q := by
  have hz := hg.2.2.2.1
  intro f
  induction f with
  | zero =>
    intro p h c M hf hp hcp ho hh hc hQ
    have hC := hc.2.2.1
    have hle : (nI (gZn g) ≤ nI p) ↔ True := iff_true_intro (nI_le (by omega) (by omega))
    refine u86_15.mpr ?_
    simp only [u86_16, u86_17, u86_20, u86_23, mw_os, wp_ite, mw_sw, Option.toList_some, Option.toList_none, List.cons_append, List.nil_append, true_and, and_true, if_true, if_false, mw_s_, mw_s_i, mw_s_r, mw_s_ii, mw_s_ir, mw_s_ri, mw_s_rr, mw_s_iii, mw_s_iir, mw_s_iri, mw_s_irr, mw_s_rii, mw_s_rir, mw_s_rri, mw_s_rrr, mw_s_iiii, mw_s_iiir, mw_s_iiri, mw_s_iirr, mw_s_irii, mw_s_irir, mw_s_irri, mw_s_irrr, mw_s_riii, mw_s_riir, mw_s_riri, mw_s_rirr, mw_s_rrii, mw_s_rrir, mw_s_rrri, mw_s_rrrr, mm_sto1, mm_clr, mm_isL, List.getElem?_cons_zero, List.getElem?_cons_succ, List.set_cons_zero, List.set_cons_succ, Bool.false_eq_true, CS_4 hC, CZ_1 hC, hle]
    exact (hQ M hc hh).2 p
  | succ f ih =>
    intro p h c M hf hp hcp ho hh hc hQ
    have hC := hc.2.2.1
    rw [dF] at hQ
    refine u86_15.mpr ?_
    by_cases hpz : p < gZn g
    · rw [if_pos hpz] at hQ
      have hle : (nI (gZn g) ≤ nI p) ↔ False := iff_false_intro (nI_ge hpz (by omega))
      obtain ⟨hS, ho'⟩ := outL_GS ho hpz
      have hl4 := shp_len (zN g p)
      simp only [u86_16, u86_17, u86_20, u86_23, u86_26, u86_27, u86_28, mw_os, wp_ite, mw_sw, Option.toList_some, Option.toList_none, List.cons_append, List.nil_append, true_and, and_true, if_true, if_false, mw_s_, mw_s_i, mw_s_r, mw_s_ii, mw_s_ir, mw_s_ri, mw_s_rr, mw_s_iii, mw_s_iir, mw_s_iri, mw_s_irr, mw_s_rii, mw_s_rir, mw_s_rri, mw_s_rrr, mw_s_iiii, mw_s_iiir, mw_s_iiri, mw_s_iirr, mw_s_irii, mw_s_irir, mw_s_irri, mw_s_irrr, mw_s_riii, mw_s_riir, mw_s_riri, mw_s_rirr, mw_s_rrii, mw_s_rrir, mw_s_rrri, mw_s_rrrr, mm_sto1, mm_clr, mm_isL, List.getElem?_cons_zero, List.getElem?_cons_succ, List.set_cons_zero, List.set_cons_succ, Bool.false_eq_true, CS_4 hC, CZ_1 hC, hle, CS_x hC]
      refine C87 (n := n) hg hc hh hS ?_
      cases hs : stp g p h with
      | none =>
        rw [hs] at hQ
        simp only [u86_31, u86_34, u86_37, u86_38, u86_39, mw_os, wp_ite, mw_sw, Option.toList_some, Option.toList_none, List.cons_append, List.nil_append, true_and, and_true, if_true, if_false, mw_s_, mw_s_i, mw_s_r, mw_s_ii, mw_s_ir, mw_s_ri, mw_s_rr, mw_s_iii, mw_s_iir, mw_s_iri, mw_s_irr, mw_s_rii, mw_s_rir, mw_s_rri, mw_s_rrr, mw_s_iiii, mw_s_iiir, mw_s_iiri, mw_s_iirr, mw_s_irii, mw_s_irir, mw_s_irri, mw_s_irrr, mw_s_riii, mw_s_riir, mw_s_riri, mw_s_rirr, mw_s_rrii, mw_s_rrir, mw_s_rrri, mw_s_rrrr, mm_sto1, mm_clr, mm_isL, List.getElem?_cons_zero, List.getElem?_cons_succ, List.set_cons_zero, List.set_cons_succ, Bool.false_eq_true, not_true]
        exact hQ M hc hh
      | some h' =>
        rw [hs] at hQ
        intro M2 hc2
        have hC2 := hc2.2.2.1
        have z1 : ((1 : Int32) = 0) ↔ False := by decide
        have e2 : nI p + (1 + nI (shp (zN g p)).length) = nI (p + 1 + (shp (zN g p)).length) := by
          rw [show (1 : Int32) + nI (shp (zN g p)).length = nI (1 + (shp (zN g p)).length) from nI_add 1 _, nI_add, Nat.add_assoc]
        simp only [u86_31, u86_40, u86_43, u86_44, u86_45, u86_46, u86_49, u86_50, u86_53, u86_54, u86_55, u86_56, mw_os, wp_ite, mw_sw, Option.toList_some, Option.toList_none, List.cons_append, List.nil_append, true_and, and_true, if_true, if_false, mw_s_, mw_s_i, mw_s_r, mw_s_ii, mw_s_ir, mw_s_ri, mw_s_rr, mw_s_iii, mw_s_iir, mw_s_iri, mw_s_irr, mw_s_rii, mw_s_rir, mw_s_rri, mw_s_rrr, mw_s_iiii, mw_s_iiir, mw_s_iiri, mw_s_iirr, mw_s_irii, mw_s_irir, mw_s_irri, mw_s_irrr, mw_s_riii, mw_s_riir, mw_s_riri, mw_s_rirr, mw_s_rrii, mw_s_rrir, mw_s_rrri, mw_s_rrrr, mm_sto1, mm_clr, mm_isL, List.getElem?_cons_zero, List.getElem?_cons_succ, List.set_cons_zero, List.set_cons_succ, Bool.false_eq_true, z1, not_false_eq_true, nI_1, CS_4 hC2, CZ_x hC2, W49 hC2 hg hpz, e2]
        exact ih _ h' (c + 1) M2 (by omega) (by omega) (by omega) ho' (stp_ok hS hh hs) hc2 hQ
    · rw [if_neg hpz] at hQ
      have hle : (nI (gZn g) ≤ nI p) ↔ True := iff_true_intro (nI_le (by omega) (by omega))
      simp only [u86_16, u86_17, u86_20, u86_23, mw_os, wp_ite, mw_sw, Option.toList_some, Option.toList_none, List.cons_append, List.nil_append, true_and, and_true, if_true, if_false, mw_s_, mw_s_i, mw_s_r, mw_s_ii, mw_s_ir, mw_s_ri, mw_s_rr, mw_s_iii, mw_s_iir, mw_s_iri, mw_s_irr, mw_s_rii, mw_s_rir, mw_s_rri, mw_s_rrr, mw_s_iiii, mw_s_iiir, mw_s_iiri, mw_s_iirr, mw_s_irii, mw_s_irir, mw_s_irri, mw_s_irrr, mw_s_riii, mw_s_riir, mw_s_riri, mw_s_rirr, mw_s_rrii, mw_s_rrir, mw_s_rrri, mw_s_rrrr, mm_sto1, mm_clr, mm_isL, List.getElem?_cons_zero, List.getElem?_cons_succ, List.set_cons_zero, List.set_cons_succ, Bool.false_eq_true, CS_4 hC, CZ_1 hC, hle]
      exact (hQ M hc hh).2 p
theorem M142l (hg : SGOK g) (hGZ : gZ G = gZ g) {x2 : Int32} : ∀ (f p : Nat) (h : HV) (c : Nat) (M : mm_M), gZn g + 1 ≤ p + f → p ≤ 200 → outL g f p = none → HOK h → MTh M0 M G 0 h → (∀ M', MTh M0 M' G 0 (dF g f p h c).2.2 → HOK (dF g f p h c).2.2 → match (dF g f p h c).1 with | some q => Q (some (.int (-2000 - nI q))) M' | none => ∀ q, wp scr (n + 10) mb_142 95 [some (.ref 129), some (.int (nI (gZn g))), some (.int x2), some (.int (nI (dF g f p h c).2.1)), some (.int (nI q))] [] M' Q) → wp scr (n + 10) mb_142 44 [some (.ref 129), some (.int (nI (gZn g))), some (.int x2), some (.int (nI c)), some (.int (nI p))] [] M Q := by
  have hz := hg.2.2.2.1
  intro f
  induction f with
  | zero =>
    intro p h c M hf hp ho hh hm hQ
    have hle : (nI (gZn g) ≤ nI p) ↔ True := iff_true_intro (nI_le (by omega) (by omega))
    refine u142_44.mpr ?_
    simp only [u142_46, u142_47, mw_os, wp_ite, mw_sw, Option.toList_some, Option.toList_none, List.cons_append, List.nil_append, true_and, and_true, if_true, if_false, mw_s_, mw_s_i, mw_s_r, mw_s_ii, mw_s_ir, mw_s_ri, mw_s_rr, mw_s_iii, mw_s_iir, mw_s_iri, mw_s_irr, mw_s_rii, mw_s_rir, mw_s_rri, mw_s_rrr, mw_s_iiii, mw_s_iiir, mw_s_iiri, mw_s_iirr, mw_s_irii, mw_s_irir, mw_s_irri, mw_s_irrr, mw_s_riii, mw_s_riir, mw_s_riri, mw_s_rirr, mw_s_rrii, mw_s_rrir, mw_s_rrri, mw_s_rrrr, mm_sto1, mm_clr, mm_isL, List.getElem?_cons_zero, List.getElem?_cons_succ, List.set_cons_zero, List.set_cons_succ, Bool.false_eq_true, hle]
    exact hQ M hm hh p
  | succ f ih =>
    intro p h c M hf hp ho hh hm hQ
    rw [dF] at hQ
    refine u142_44.mpr ?_
    by_cases hpz : p < gZn g
    · rw [if_pos hpz] at hQ
      have hle : (nI (gZn g) ≤ nI p) ↔ False := iff_false_intro (nI_ge hpz (by omega))
      obtain ⟨hS, ho'⟩ := outL_GS ho hpz
      have hl4 := shp_len (zN g p)
      obtain ⟨o, hO', _⟩ := MT_o hm
      have hZ : RA M 141 (gZ g) := by rw [← hGZ]; exact MZ hm.2.2.1
      have d0 : mm_lda M 132 0 = some (.ref 133) := DPk (k := 0) hm.2.2.1 (by decide)
      simp only [u142_46, u142_47, u142_50, u142_51, u142_52, u142_55, u142_56, u142_57, u142_59, mw_os, wp_ite, mw_sw, Option.toList_some, Option.toList_none, List.cons_append, List.nil_append, true_and, and_true, if_true, if_false, mw_s_, mw_s_i, mw_s_r, mw_s_ii, mw_s_ir, mw_s_ri, mw_s_rr, mw_s_iii, mw_s_iir, mw_s_iri, mw_s_irr, mw_s_rii, mw_s_rir, mw_s_rri, mw_s_rrr, mw_s_iiii, mw_s_iiir, mw_s_iiri, mw_s_iirr, mw_s_irii, mw_s_irir, mw_s_irri, mw_s_irrr, mw_s_riii, mw_s_riir, mw_s_riri, mw_s_rirr, mw_s_rrii, mw_s_rrir, mw_s_rrri, mw_s_rrrr, mm_sto1, mm_clr, mm_isL, List.getElem?_cons_zero, List.getElem?_cons_succ, List.set_cons_zero, List.set_cons_succ, Bool.false_eq_true, hle, OA_2 hO', OA_x hO', d0]
      refine M148 (n := n) hg hm hZ hh hS ?_
      cases hs : stp g p h with
      | none =>
        rw [hs] at hQ
        simp only [u142_62, u142_65, u142_68, u142_70, u142_71, mw_os, wp_ite, mw_sw, Option.toList_some, Option.toList_none, List.cons_append, List.nil_append, true_and, and_true, if_true, if_false, mw_s_, mw_s_i, mw_s_r, mw_s_ii, mw_s_ir, mw_s_ri, mw_s_rr, mw_s_iii, mw_s_iir, mw_s_iri, mw_s_irr, mw_s_rii, mw_s_rir, mw_s_rri, mw_s_rrr, mw_s_iiii, mw_s_iiir, mw_s_iiri, mw_s_iirr, mw_s_irii, mw_s_irir, mw_s_irri, mw_s_irrr, mw_s_riii, mw_s_riir, mw_s_riri, mw_s_rirr, mw_s_rrii, mw_s_rrir, mw_s_rrri, mw_s_rrrr, mm_sto1, mm_clr, mm_isL, List.getElem?_cons_zero, List.getElem?_cons_succ, List.set_cons_zero, List.set_cons_succ, Bool.false_eq_true, not_true]
        exact hQ M hm hh
      | some h' =>
        rw [hs] at hQ
        intro M2 hm2
        obtain ⟨o2, hO2, _⟩ := MT_o hm2
        have hZ2 : RA M2 141 (gZ g) := by rw [← hGZ]; exact MZ hm2.2.2.1
        have z1 : ((1 : Int32) = 0) ↔ False := by decide
        have e2 : nI p + nI ((shp (zN g p)).length + 1) = nI (p + 1 + (shp (zN g p)).length) := by rw [nI_add]; congr 1; omega
        have w144 : ∀ Q : Option Value → mm_M → Prop, Wp scr (n + 10) 144 [.int (nI (zN g p))] M2 Q ↔ Q (some (.int (nI (shp (zN g p)).length))) M2 := fun Q => by
          rw [← szN_shp hS.2.1]
          exact W144 (zN_eq hg hpz).2
        simp only [u142_62, u142_72, u142_74, u142_75, u142_78, u142_80, u142_81, u142_84, u142_85, u142_86, u142_87, u142_89, u142_92, mw_os, wp_ite, mw_sw, Option.toList_some, Option.toList_none, List.cons_append, List.nil_append, true_and, and_true, if_true, if_false, mw_s_, mw_s_i, mw_s_r, mw_s_ii, mw_s_ir, mw_s_ri, mw_s_rr, mw_s_iii, mw_s_iir, mw_s_iri, mw_s_irr, mw_s_rii, mw_s_rir, mw_s_rri, mw_s_rrr, mw_s_iiii, mw_s_iiir, mw_s_iiri, mw_s_iirr, mw_s_irii, mw_s_irir, mw_s_irri, mw_s_irrr, mw_s_riii, mw_s_riir, mw_s_riri, mw_s_rirr, mw_s_rrii, mw_s_rrir, mw_s_rrri, mw_s_rrrr, mm_sto1, mm_clr, mm_isL, List.getElem?_cons_zero, List.getElem?_cons_succ, List.set_cons_zero, List.set_cons_succ, Bool.false_eq_true, z1, not_false_eq_true, OA_7 hO2, RA_ld hZ2, at_z hg hpz, w144, nI_1, e2]
        exact ih _ h' (c + 1) M2 (by omega) (by omega) ho' (stp_ok hS hh hs) hm2 hQ
    · rw [if_neg hpz] at hQ
      have hle : (nI (gZn g) ≤ nI p) ↔ True := iff_true_intro (nI_le (by omega) (by omega))
      simp only [u142_46, u142_47, mw_os, wp_ite, mw_sw, Option.toList_some, Option.toList_none, List.cons_append, List.nil_append, true_and, and_true, if_true, if_false, mw_s_, mw_s_i, mw_s_r, mw_s_ii, mw_s_ir, mw_s_ri, mw_s_rr, mw_s_iii, mw_s_iir, mw_s_iri, mw_s_irr, mw_s_rii, mw_s_rir, mw_s_rri, mw_s_rrr, mw_s_iiii, mw_s_iiir, mw_s_iiri, mw_s_iirr, mw_s_irii, mw_s_irir, mw_s_irri, mw_s_irrr, mw_s_riii, mw_s_riir, mw_s_riri, mw_s_rirr, mw_s_rrii, mw_s_rrir, mw_s_rrri, mw_s_rrrr, mm_sto1, mm_clr, mm_isL, List.getElem?_cons_zero, List.getElem?_cons_succ, List.set_cons_zero, List.set_cons_succ, Bool.false_eq_true, hle]
      exact hQ M hm hh p
end RS
