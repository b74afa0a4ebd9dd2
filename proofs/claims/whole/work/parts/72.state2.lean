/-! statements -/
theorem inL_none {g : SG} {place : Nat} {l : List Nat} : ∀ (k i : Nat), inL g place l k i = none → ∀ j, i ≤ j → j < i + k → place + 1 + j < gZn g ∧ fitN (zN g (place + 1 + j)) (l.getD j 0) = true := by
  intro k
  induction k with
  | zero => intro i _ j h1 h2; omega
  | succ k ih =>
    intro i h j h1 h2
    rw [inL] at h
    by_cases c : place + 1 + i < gZn g ∧ fitN (zN g (place + 1 + i)) (l.getD i 0) = true
    · rw [if_pos c] at h
      by_cases he : j = i
      · subst he; exact c
      · exact ih (i + 1) h j (by omega) (by omega)
    · rw [if_neg c] at h; cases h
def dgN (g : SG) (k : Nat) : Nat := zN g k - 48
theorem fit48 {c : Nat} (h : fitN c 48 = true) : 48 ≤ c ∧ c ≤ 57 := of_decide_eq_true h
theorem kdV_rg {c : Nat} (h : fitN c 107 = true) : rgI (kdV c) 5 := by
  have h : (0 : Int32) ≤ kdV c := of_decide_eq_true h
  unfold kdV at h ⊢
  by_cases a1 : c = 99
  · rw [if_pos a1]; exact ⟨0, by omega, rfl⟩
  · rw [if_neg a1] at h ⊢
    by_cases a2 : c = 109
    · rw [if_pos a2]; exact ⟨1, by omega, rfl⟩
    · rw [if_neg a2] at h ⊢
      by_cases a3 : c = 118
      · rw [if_pos a3]; exact ⟨2, by omega, rfl⟩
      · rw [if_neg a3] at h ⊢
        by_cases a4 : c = 115
        · rw [if_pos a4]; exact ⟨3, by omega, rfl⟩
        · rw [if_neg a4] at h ⊢
          by_cases a5 : c = 116
          · rw [if_pos a5]; exact ⟨4, by omega, rfl⟩
          · rw [if_neg a5] at h ⊢
            by_cases a6 : c = 111
            · rw [if_pos a6]; exact ⟨5, by omega, rfl⟩
            · rw [if_neg a6] at h
              exact absurd h (by decide)
def stp (g : SG) (p : Nat) (h : HV) : Option HV :=
  if zN g p = 107 then some (xF (xK h.1 ((sK h.1).set (dgN g (p + 1)) (kdV (zN g (p + 2))))) ((sF h.1).set (dgN g (p + 1)) (nI (dgN g (p + 3)))), h.2)
  else if zN g p = 119 then some (xW h.1 ((sWo h.1).set (dgN g (p + 1)) (nI (10 * dgN g (p + 2) + dgN g (p + 3)))), h.2)
  else if zN g p = 102 then (if hasL (hU h) (nI (dgN g (p + 1))) = true ∧ dgN g (p + 2) < 4 then some (hF h (nI (dgN g (p + 1))) (nI (dgN g (p + 2)))) else none)
  else if zN g p = 111 then (if h.2.1 = 0 then none else some (hO h (h.2.1 - 1)))
  else (if dgN g (p + 1) < 8 then some (xC h.1 (nI (dgN g (p + 1))), h.2) else none)
/-- a statement of good form at a place -/
def GS (g : SG) (p : Nat) : Prop := p < gZn g ∧ ¬ shp (zN g p) = [] ∧ ∀ j, j < (shp (zN g p)).length → p + 1 + j < gZn g ∧ fitN (zN g (p + 1 + j)) ((shp (zN g p)).getD j 0) = true
theorem GS_k {g : SG} {p : Nat} (h : GS g p) (hk : zN g p = 107) : (p + 1 < gZn g ∧ 48 ≤ zN g (p + 1) ∧ zN g (p + 1) ≤ 57) ∧ (p + 2 < gZn g ∧ rgI (kdV (zN g (p + 2))) 5) ∧ (p + 3 < gZn g ∧ 48 ≤ zN g (p + 3) ∧ zN g (p + 3) ≤ 57) := by
  have hs : shp (zN g p) = [48, 107, 48, 59] := by rw [hk]; rfl
  have h2 := h.2.2
  rw [hs] at h2
  have a := h2 0 (by decide)
  have b := h2 1 (by decide)
  have c := h2 2 (by decide)
  exact ⟨⟨a.1, fit48 a.2⟩, ⟨b.1, kdV_rg b.2⟩, ⟨c.1, fit48 c.2⟩⟩
theorem GS_w {g : SG} {p : Nat} (h : GS g p) (hk : zN g p = 119) : (p + 1 < gZn g ∧ 48 ≤ zN g (p + 1) ∧ zN g (p + 1) ≤ 57) ∧ (p + 2 < gZn g ∧ 48 ≤ zN g (p + 2) ∧ zN g (p + 2) ≤ 57) ∧ (p + 3 < gZn g ∧ 48 ≤ zN g (p + 3) ∧ zN g (p + 3) ≤ 57) := by
  have hs : shp (zN g p) = [48, 48, 48, 59] := by rw [hk]; rfl
  have h2 := h.2.2
  rw [hs] at h2
  have a := h2 0 (by decide)
  have b := h2 1 (by decide)
  have c := h2 2 (by decide)
  exact ⟨⟨a.1, fit48 a.2⟩, ⟨b.1, fit48 b.2⟩, ⟨c.1, fit48 c.2⟩⟩
theorem GS_f {g : SG} {p : Nat} (h : GS g p) (hk : zN g p = 102) : (p + 1 < gZn g ∧ 48 ≤ zN g (p + 1) ∧ zN g (p + 1) ≤ 57) ∧ (p + 2 < gZn g ∧ 48 ≤ zN g (p + 2) ∧ zN g (p + 2) ≤ 57) := by
  have hs : shp (zN g p) = [48, 48, 59] := by rw [hk]; rfl
  have h2 := h.2.2
  rw [hs] at h2
  have a := h2 0 (by decide)
  have b := h2 1 (by decide)
  exact ⟨⟨a.1, fit48 a.2⟩, ⟨b.1, fit48 b.2⟩⟩
theorem GS_o {g : SG} {p : Nat} (h : GS g p) (hk : zN g p = 111) : p + 1 < gZn g := by
  have hs : shp (zN g p) = [59] := by rw [hk]; rfl
  have h2 := h.2.2
  rw [hs] at h2
  exact (h2 0 (by decide)).1
theorem GS_c {g : SG} {p : Nat} (h : GS g p) (hk : zN g p = 99) : p + 1 < gZn g ∧ 48 ≤ zN g (p + 1) ∧ zN g (p + 1) ≤ 57 := by
  have hs : shp (zN g p) = [48, 59] := by rw [hk]; rfl
  have h2 := h.2.2
  rw [hs] at h2
  have a := h2 0 (by decide)
  exact ⟨a.1, fit48 a.2⟩
theorem GS_hd {g : SG} {p : Nat} (h : GS g p) : zN g p = 107 ∨ zN g p = 119 ∨ zN g p = 102 ∨ zN g p = 111 ∨ zN g p = 99 := Decidable.byContradiction (fun z => h.2.1 (shp_nil.mpr z))
theorem lt4_ok {h : HV} {d : Nat} (hh : HOK h) (hd : d ≤ 9) (hl : hasL (hU h) (nI d) = true) : 1 ≤ d ∧ d ≤ 4 := by
  obtain ⟨y, hG, _⟩ := hU_GT hh
  obtain ⟨l, h1, h4, he⟩ := hasL_n hG hl
  have := (nI_eq (by omega) (by omega)).mp he
  omega
theorem stp_ok {g : SG} {p : Nat} {h h' : HV} (hS : GS g p) (hh : HOK h) (he : stp g p h = some h') : HOK h' := by
  unfold stp dgN at he
  rcases GS_hd hS with k | k | k | k | k
  · obtain ⟨⟨_, a1, a2⟩, ⟨_, b⟩, ⟨_, c1, c2⟩⟩ := GS_k hS k
    rw [if_pos k] at he
    cases he
    exact HOK_F (h := (xK h.1 _, h.2)) (HOK_K hh (by rw [List.length_set]; exact hh.1.1) (rgI_set hh.1.1 (fun i hi => (hh.2.2.2.2.2.2 i hi).1) b (by decide))) (by rw [List.length_set]; exact hh.1.2.1) (rgI_set hh.1.2.1 (fun i hi => (hh.2.2.2.2.2.2 i hi).2.1) ⟨_, by omega, rfl⟩ (by decide))
  · obtain ⟨⟨_, a1, a2⟩, ⟨_, b1, b2⟩, ⟨_, c1, c2⟩⟩ := GS_w hS k
    rw [if_neg (by omega), if_pos k] at he
    cases he
    exact HOK_W hh (by rw [List.length_set]; exact hh.1.2.2) (rgI_set hh.1.2.2 (fun i hi => (hh.2.2.2.2.2.2 i hi).2.2) ⟨_, by omega, rfl⟩ (by decide))
  · obtain ⟨⟨_, a1, a2⟩, ⟨_, b1, b2⟩⟩ := GS_f hS k
    rw [if_neg (by omega), if_neg (by omega), if_pos k] at he
    split at he
    · rename_i hc
      cases he
      obtain ⟨q1, q2⟩ := lt4_ok hh (by omega) hc.1
      exact HOK_hF hh q1 q2 hc.1 hc.2
    · cases he
  · rw [if_neg (by omega), if_neg (by omega), if_neg (by omega), if_pos k] at he
    split at he
    · cases he
    · cases he
      exact HOK_hO hh (by omega)
  · rw [if_neg (by omega), if_neg (by omega), if_neg (by omega), if_neg (by omega)] at he
    split at he
    · cases he
      exact HOK_C hh ⟨_, by omega, rfl⟩
    · cases he
def CTt (M0 M : mm_M) (g : SG) (h : HV) : Prop := M.length = M0.length ∧ Ag M0 M 129 143 ∧ CS M g ∧ SH M 81 h
section ST
variable {scr : List Int32} {n : Nat} {M M0 M' : mm_M} {Q : Option Value → mm_M → Prop} {g : SG} {h h' : HV} {p k : Nat} {x1 : Int32}
theorem CTt_mk (hc : CTt M0 M g h) (hg : SGOK g) (hl : M'.length = M.length) (h1 : Ag M M' 0 81) (h2 : Ag M M' 121 143) (hs : SH M' 81 h') (hh : HOK h') : CTt M0 M' g h' := by
  obtain ⟨c1, c2, ⟨⟨a1, a2⟩, a3, a4, _, ⟨τ, a6, a7⟩, ⟨a8, a9⟩, ⟨x, y, a10⟩, a11, a12⟩, _⟩ := hc
  refine ⟨hl.trans c1, Ag_tr c2 (Ag_sub h2 (by omega) (by omega)), ⟨⟨hl.trans a1, (h1 0 (by omega) (by omega)).trans a2⟩, SH_kp a3 (Ag_sub h1 (by omega) (by omega)) hg.1.2.2.1, SH_kp a4 (Ag_sub h1 (by omega) (by omega)) hg.2.1.2.2.1, ?_, ⟨τ, a6, QA_keep a7 (fun j hj => h2 _ (by omega) (by omega))⟩, ⟨(h2 124 (by omega) (by omega)).trans a8, (h2 125 (by omega) (by omega)).trans a9⟩, ⟨x, y, (h2 126 (by omega) (by omega)).trans a10⟩, (h2 127 (by omega) (by omega)).trans a11, (h2 128 (by omega) (by omega)).trans a12⟩, hs⟩
  obtain ⟨Y, hY, _⟩ := SH_all hs hh
  exact ⟨⟨h'.1, hh.1, hs.1, fun i hi => ⟨Y i, (hY i hi).1, (hY i hi).2⟩⟩, by have := hs.2.1 0 (Nat.zero_le _); rw [hh.2.2.2.2.1] at this; exact this⟩
theorem CTt_ph {v : SV} (hc : CTt M0 M g h) (hg : SGOK g) (hd : h.2.1 ≤ 4) (hh : HOK (v, h.2)) : CTt M0 (ph M 81 v) g (v, h.2) := CTt_mk hc hg (ph_len ..) (Ag_ph (by omega)) (Ag_ph (by omega)) (SH_ph hc.2.2.2 hd) hh
theorem W50 (hC : CS M g) (hg : SGOK g) (hk : k < gZn g) : Wp scr (n + 2) 50 [.ref 124, .int (nI k)] M Q ↔ Q (some (.int (nI (zN g k) - 48))) M := by
  have hz := hg.2.2.2.1
  have w46 : ∀ Q : Option Value → mm_M → Prop, Wp scr (n + 1) 46 [.ref 124, .int (nI k)] M Q ↔ Q (some (.int (nI (zN g k)))) M := fun Q => by
    have := W46 (scr := scr) (n := n) (Q := Q) (k := k) hC hg (by omega)
    rw [if_pos hk] at this
    exact this
  simp only [e50, u50_0, u50_0b, u50_1, u50_2, u50_5, u50_7, u50_8, mw_os, wp_ite, mw_sw, Option.toList_some, Option.toList_none, List.cons_append, List.nil_append, true_and, and_true, if_true, if_false, mw_s_, mw_s_i, mw_s_r, mw_s_ii, mw_s_ir, mw_s_ri, mw_s_rr, mw_s_iii, mw_s_iir, mw_s_iri, mw_s_irr, mw_s_rii, mw_s_rir, mw_s_rri, mw_s_rrr, mw_s_iiii, mw_s_iiir, mw_s_iiri, mw_s_iirr, mw_s_irii, mw_s_irir, mw_s_irri, mw_s_irrr, mw_s_riii, mw_s_riir, mw_s_riri, mw_s_rirr, mw_s_rrii, mw_s_rrir, mw_s_rrri, mw_s_rrrr, CZ_x hC, w46]
theorem W51 (hC : CS M g) (hg : SGOK g) (hk : k < gZn g) : Wp scr (n + 7) 51 [.ref 124, .int (nI k)] M Q ↔ Q (some (.int (kdV (zN g k)))) M := by
  have hz := hg.2.2.2.1
  have w46 : ∀ Q : Option Value → mm_M → Prop, Wp scr (n + 6) 46 [.ref 124, .int (nI k)] M Q ↔ Q (some (.int (nI (zN g k)))) M := fun Q => by
    have := W46 (scr := scr) (n := n + 5) (Q := Q) (k := k) hC hg (by omega)
    rw [if_pos hk] at this
    exact this
  simp only [e51, u51_0, u51_2, u51_2b, u51_3, u51_4, u51_7, u51_8, u51_11, mw_os, wp_ite, mw_sw, Option.toList_some, Option.toList_none, List.cons_append, List.nil_append, true_and, and_true, if_true, if_false, mw_s_, mw_s_i, mw_s_r, mw_s_ii, mw_s_ir, mw_s_ri, mw_s_rr, mw_s_iii, mw_s_iir, mw_s_iri, mw_s_irr, mw_s_rii, mw_s_rir, mw_s_rri, mw_s_rrr, mw_s_iiii, mw_s_iiir, mw_s_iiri, mw_s_iirr, mw_s_irii, mw_s_irir, mw_s_irri, mw_s_irrr, mw_s_riii, mw_s_riir, mw_s_riri, mw_s_rirr, mw_s_rrii, mw_s_rrir, mw_s_rrri, mw_s_rrrr, CZ_x hC, w46, mw_x1, i2c_eq (zN_eq hg hk).2, x_30, W7_30 (zN_eq hg hk).2]
theorem s48 (h1 : 48 ≤ zN g k) : nI (zN g k) - 48 = nI (dgN g k) := pk_sub (b := 48) h1
theorem C69t (hc : SH M 81 h) (hh : HOK h) : Wp scr (n + 2) 69 [.ref 81, .int (nI h.2.1), .int x1] M Q ↔ Q (some (.int (bi (hasL (hU h) x1)))) M := by
  by_cases hd : h.2.1 = 4
  · rw [hasL_4 hh hd, hd]
    exact W69n
  · exact W69 hc.1 (hc.2.1 _ (Nat.le_refl _)) (by have := hh.2.2.1; omega)
theorem C87 (hg : SGOK g) (hc : CTt M0 M g h) (hh : HOK h) (hS : GS g p) (hQ : match stp g p h with | some h' => ∀ M', CTt M0 M' g h' → Q (some (.int 1)) M' | none => Q (some (.int 0)) M) : Wp scr (n + 9) 87 [.ref 0, .int (nI p)] M Q := by
  have hC := hc.2.2.1
  have hs := hc.2.2.2
  have hz := hg.2.2.2.1
  have hd4 := hh.2.2.1
  have hp := hS.1
  have hp1 : p + 1 < gZn g := by
    have h0 := hS.2.2 0 (by
      have := hS.2.1
      cases hl : shp (zN g p) with
      | nil => exact absurd hl this
      | cons a b => simp)
    exact h0.1
  have w46 : ∀ Q : Option Value → mm_M → Prop, Wp scr (n + 8) 46 [.ref 124, .int (nI p)] M Q ↔ Q (some (.int (nI (zN g p)))) M := fun Q => by
    have := W46 (scr := scr) (n := n + 7) (Q := Q) (k := p) hC hg (by omega)
    rw [if_pos hp] at this
    exact this
  have w50 := fun (k : Nat) (hk : k < gZn g) (Q : Option Value → mm_M → Prop) => W50 (scr := scr) (n := n + 6) (Q := Q) hC hg hk
  have f2 : nI p + 2 = nI (p + 2) := nI_add p 2
  have f3 : nI p + 3 = nI (p + 3) := nI_add p 3
  have tS := SA_x hs.1
  have t1 : mm_fld (mc_X scr) M (.ref 81) 4 1 = some (.ref 83) := SA_1 hs.1
  have t2 : mm_fld (mc_X scr) M (.ref 81) 4 2 = some (.ref 84) := SA_2 hs.1
  have t3 : mm_fld (mc_X scr) M (.ref 81) 4 3 = some (.ref 85) := SA_3 hs.1
  have t4 : mm_fld (mc_X scr) M (.ref 81) 4 4 = some (.int (nI h.2.1)) := (SA_4 hs.1).trans (by rw [hh.2.1])
  unfold stp at hQ
  rcases GS_hd hS with k | k | k | k | k
  · obtain ⟨⟨g1, a1, a2⟩, ⟨g2, b⟩, ⟨g3, c1, c2⟩⟩ := GS_k hS k
    rw [if_pos k] at hQ
    have d1 : dgN g (p + 1) < 10 := by unfold dgN; omega
    have b1 : decide ((0 : Int32) ≤ nI (dgN g (p + 1)) ∧ nI (dgN g (p + 1)) < 10) = true := ib_t d1 (by decide)
    have e107 : nI (zN g p) = 107 := by rw [k]; rfl
    have z1 : ((107 : Int32) = 99) ↔ False := by decide
    have z2 : ((107 : Int32) = 102) ↔ False := by decide
    have st1 : mm_sti M (.ref 83) (nI (dgN g (p + 1))) (kdV (zN g (p + 2))) = some (ph M 81 (xK h.1 ((sK h.1).set (dgN g (p + 1)) (kdV (zN g (p + 2)))))) := (SA_stK hs.1 (by rw [hh.1.1]; exact nI_in10 d1)).trans (by rw [clN d1])
    have hok1 : HOK (xK h.1 ((sK h.1).set (dgN g (p + 1)) (kdV (zN g (p + 2)))), h.2) := HOK_K hh (by rw [List.length_set]; exact hh.1.1) (rgI_set hh.1.1 (fun i hi => (hh.2.2.2.2.2.2 i hi).1) b (by decide))
    have hc1 := CTt_ph hc hg hd4 hok1
    have hC1 := hc1.2.2.1
    have t2' : mm_fld (mc_X scr) (ph M 81 (xK h.1 ((sK h.1).set (dgN g (p + 1)) (kdV (zN g (p + 2)))))) (.ref 81) 4 2 = some (.ref 84) := SA_2 hc1.2.2.2.1
    have st2 : mm_sti (ph M 81 (xK h.1 ((sK h.1).set (dgN g (p + 1)) (kdV (zN g (p + 2)))))) (.ref 84) (nI (dgN g (p + 1))) (nI (dgN g (p + 3))) = some (ph M 81 (xF (xK h.1 ((sK h.1).set (dgN g (p + 1)) (kdV (zN g (p + 2))))) ((sF h.1).set (dgN g (p + 1)) (nI (dgN g (p + 3)))))) := (ph_stF (SA_len hs.1) (by show vp_in _ (sF h.1).length; rw [hh.1.2.1]; exact nI_in10 d1)).trans (by rw [clN d1]; rfl)
    have hok2 : HOK (xF (xK h.1 ((sK h.1).set (dgN g (p + 1)) (kdV (zN g (p + 2))))) ((sF h.1).set (dgN g (p + 1)) (nI (dgN g (p + 3)))), h.2) := HOK_F (h := (xK h.1 _, h.2)) hok1 (by rw [List.length_set]; exact hh.1.2.1) (rgI_set hh.1.2.1 (fun i hi => (hh.2.2.2.2.2.2 i hi).2.1) ⟨_, by unfold dgN; omega, rfl⟩ (by decide))
    simp only [or_true, true_or, e87, u87_0, u87_1, u87_4, u87_5, u87_6, u87_7, u87_10, u87_11, u87_12, u87_15, u87_16, u87_19, u87_68, u87_69, u87_70, u87_71, u87_74, u87_75, u87_76, u87_77, u87_80, u87_81, u87_84, u87_85, u87_86, u87_87, u87_90, u87_93, u87_94, u87_95, u87_96, u87_98, u87_99, u87_102, u87_103, u87_104, u87_105, u87_108, u87_109, u87_110, u87_113, u87_114, u87_115, u87_116, u87_119, u87_120, u87_123, u87_124, u87_125, u87_126, u87_127, u87_130, u87_131, u87_132, u87_133, u87_136, u87_139, u87_140, u87_141, u87_144, u87_147, u87_148, u87_149, u87_150, u87_153, u87_154, u87_155, e88, u88_0, u88_1, u88_3, u88_6, u88_9, u88_10, u88_11, u88_12, u88_15, u88_18, u88_19, u88_20, u88_21, u88_22, u88_25, u88_28, u88_29, u88_30, u88_31, u88_32, mw_os, wp_ite, mw_sw, Option.toList_some, Option.toList_none, List.cons_append, List.nil_append, true_and, and_true, if_true, if_false, mw_s_, mw_s_i, mw_s_r, mw_s_ii, mw_s_ir, mw_s_ri, mw_s_rr, mw_s_iii, mw_s_iir, mw_s_iri, mw_s_irr, mw_s_rii, mw_s_rir, mw_s_rri, mw_s_rrr, mw_s_iiii, mw_s_iiir, mw_s_iiri, mw_s_iirr, mw_s_irii, mw_s_irir, mw_s_irri, mw_s_irrr, mw_s_riii, mw_s_riir, mw_s_riri, mw_s_rirr, mw_s_rrii, mw_s_rrir, mw_s_rrri, mw_s_rrrr, mm_sto1, mm_clr, mm_isL, List.getElem?_cons_zero, List.getElem?_cons_succ, List.set_cons_zero, List.set_cons_succ, Bool.false_eq_true, CS_4 hC, CZ_x hC, nI_1, w50 _ g1, s48 a1, w46, e107, z1, z2, CS_x hC, f2, f3, W51 hC hg g2, w50 _ g3, s48 c1, W89, b1, bi_eq0, reduceCtorEq, not_false_eq_true, CS_2 hC, t1, st1, CS_2 hC1, t2', st2]
    exact hQ _ (CTt_ph hc hg hd4 hok2)
  · obtain ⟨⟨g1, a1, a2⟩, ⟨g2, b1, b2⟩, ⟨g3, c1, c2⟩⟩ := GS_w hS k
    rw [if_neg (by omega), if_pos k] at hQ
    have d1 : dgN g (p + 1) < 10 := by unfold dgN; omega
    have bb : decide ((0 : Int32) ≤ nI (dgN g (p + 1)) ∧ nI (dgN g (p + 1)) < 10) = true := ib_t d1 (by decide)
    have e119 : nI (zN g p) = 119 := by rw [k]; rfl
    have z1 : ((119 : Int32) = 99) ↔ False := by decide
    have z2 : ((119 : Int32) = 102) ↔ False := by decide
    have z3 : ((119 : Int32) = 107) ↔ False := by decide
    have z4 : ((119 : Int32) = 111) ↔ False := by decide
    have ew : (10 : Int32) * nI (dgN g (p + 2)) + nI (dgN g (p + 3)) = nI (10 * dgN g (p + 2) + dgN g (p + 3)) := by
      rw [show (10 : Int32) * nI (dgN g (p + 2)) = nI (10 * dgN g (p + 2)) from pk_mul 10 _, nI_add]
    have st1 : mm_sti M (.ref 85) (nI (dgN g (p + 1))) (nI (10 * dgN g (p + 2) + dgN g (p + 3))) = some (ph M 81 (xW h.1 ((sWo h.1).set (dgN g (p + 1)) (nI (10 * dgN g (p + 2) + dgN g (p + 3)))))) := (SA_stW hs.1 (by rw [hh.1.2.2]; exact nI_in10 d1)).trans (by rw [clN d1])
    have hok1 : HOK (xW h.1 ((sWo h.1).set (dgN g (p + 1)) (nI (10 * dgN g (p + 2) + dgN g (p + 3)))), h.2) := HOK_W hh (by rw [List.length_set]; exact hh.1.2.2) (rgI_set hh.1.2.2 (fun i hi => (hh.2.2.2.2.2.2 i hi).2.2) ⟨_, by unfold dgN; omega, rfl⟩ (by decide))
    simp only [or_true, true_or, e87, u87_0, u87_1, u87_4, u87_5, u87_6, u87_7, u87_10, u87_11, u87_12, u87_15, u87_16, u87_19, u87_68, u87_69, u87_70, u87_71, u87_74, u87_75, u87_76, u87_77, u87_80, u87_81, u87_84, u87_85, u87_86, u87_87, u87_90, u87_93, u87_94, u87_95, u87_96, u87_98, u87_99, u87_102, u87_103, u87_104, u87_105, u87_108, u87_109, u87_110, u87_113, u87_114, u87_115, u87_116, u87_119, u87_120, u87_123, u87_124, u87_125, u87_126, u87_127, u87_130, u87_131, u87_132, u87_133, u87_136, u87_139, u87_140, u87_141, u87_144, u87_147, u87_148, u87_149, u87_150, u87_153, u87_154, u87_155, e90, u90_0, u90_1, u90_3, u90_6, u90_9, u90_10, u90_11, u90_12, u90_15, u90_18, u90_19, u90_20, u90_21, u90_22, mw_os, wp_ite, mw_sw, Option.toList_some, Option.toList_none, List.cons_append, List.nil_append, true_and, and_true, if_true, if_false, mw_s_, mw_s_i, mw_s_r, mw_s_ii, mw_s_ir, mw_s_ri, mw_s_rr, mw_s_iii, mw_s_iir, mw_s_iri, mw_s_irr, mw_s_rii, mw_s_rir, mw_s_rri, mw_s_rrr, mw_s_iiii, mw_s_iiir, mw_s_iiri, mw_s_iirr, mw_s_irii, mw_s_irir, mw_s_irri, mw_s_irrr, mw_s_riii, mw_s_riir, mw_s_riri, mw_s_rirr, mw_s_rrii, mw_s_rrir, mw_s_rrri, mw_s_rrrr, mm_sto1, mm_clr, mm_isL, List.getElem?_cons_zero, List.getElem?_cons_succ, List.set_cons_zero, List.set_cons_succ, Bool.false_eq_true, CS_4 hC, CZ_x hC, nI_1, w50 _ g1, s48 a1, w46, e119, z1, z2, z3, z4, CS_x hC, f2, f3, w50 _ g2, s48 b1, w50 _ g3, s48 c1, ew, W89, bb, bi_eq0, reduceCtorEq, not_false_eq_true, CS_2 hC, t3, st1]
    exact hQ _ (CTt_ph hc hg hd4 hok1)
  · obtain ⟨⟨g1, a1, a2⟩, ⟨g2, b1, b2⟩⟩ := GS_f hS k
    rw [if_neg (by omega), if_neg (by omega), if_pos k] at hQ
    have e102 : nI (zN g p) = 102 := by rw [k]; rfl
    have z1 : ((102 : Int32) = 99) ↔ False := by decide
    have dd2 : dgN g (p + 2) ≤ 9 := by unfold dgN; omega
    cases hl : hasL (hU h) (nI (dgN g (p + 1)))
    · rw [if_neg (fun z => absurd z.1 (by rw [hl]; decide))] at hQ
      simp only [or_true, true_or, e87, u87_0, u87_1, u87_4, u87_5, u87_6, u87_7, u87_10, u87_11, u87_12, u87_15, u87_16, u87_19, u87_68, u87_69, u87_70, u87_71, u87_74, u87_75, u87_76, u87_77, u87_80, u87_81, u87_84, u87_85, u87_86, u87_87, u87_90, u87_93, u87_94, u87_95, u87_96, u87_98, u87_99, u87_102, u87_103, u87_104, u87_105, u87_108, u87_109, u87_110, u87_113, u87_114, u87_115, u87_116, u87_119, u87_120, u87_123, u87_124, u87_125, u87_126, u87_127, u87_130, u87_131, u87_132, u87_133, u87_136, u87_139, u87_140, u87_141, u87_144, u87_147, u87_148, u87_149, u87_150, u87_153, u87_154, u87_155, e91, u91_0, u91_1, u91_4, u91_5, u91_8, u91_11, u91_12, u91_15, u91_18, u91_19, u91_20, u91_23, u91_26, u91_27, u91_28, u91_29, u91_32, u91_33, u91_34, u91_37, u91_38, u91_39, mw_os, wp_ite, mw_sw, Option.toList_some, Option.toList_none, List.cons_append, List.nil_append, true_and, and_true, if_true, if_false, mw_s_, mw_s_i, mw_s_r, mw_s_ii, mw_s_ir, mw_s_ri, mw_s_rr, mw_s_iii, mw_s_iir, mw_s_iri, mw_s_irr, mw_s_rii, mw_s_rir, mw_s_rri, mw_s_rrr, mw_s_iiii, mw_s_iiir, mw_s_iiri, mw_s_iirr, mw_s_irii, mw_s_irir, mw_s_irri, mw_s_irrr, mw_s_riii, mw_s_riir, mw_s_riri, mw_s_rirr, mw_s_rrii, mw_s_rrir, mw_s_rrri, mw_s_rrrr, mm_sto1, mm_clr, mm_isL, List.getElem?_cons_zero, List.getElem?_cons_succ, List.set_cons_zero, List.set_cons_succ, Bool.false_eq_true, CS_4 hC, CZ_x hC, nI_1, w50 _ g1, s48 a1, w46, e102, z1, CS_x hC, f2, w50 _ g2, s48 b1, CS_2 hC, t4, tS, C69t hs hh, hl, bi_eq0]
      exact hQ
    · by_cases h4 : dgN g (p + 2) < 4
      · rw [if_pos ⟨hl, h4⟩] at hQ
        have bb : decide ((0 : Int32) ≤ nI (dgN g (p + 2)) ∧ nI (dgN g (p + 2)) < 4) = true := ib_t h4 (by decide)
        obtain ⟨q1, q2⟩ := lt4_ok hh (show dgN g (p + 1) ≤ 9 by unfold dgN; omega) hl
        obtain ⟨hd, hm, hu, hn, _⟩ := fold_at hh q1 q2 hl h4
        obtain ⟨zz, zl, za⟩ := hs.2.2 (h.2.1 + 1) (by omega) (by omega)
        have w70 : ∀ Q : Option Value → mm_M → Prop, Wp scr (n + 7) 70 [.ref 81, .int (nI (dgN g (p + 1))), .int (nI (dgN g (p + 2)))] M Q ↔ Q (some (.int (tfE h.1 (fC (hU h) (nI (dgN g (p + 1))) (nI (dgN g (p + 2))))))) (ph (pl M (la 81 (h.2.1 + 1)) (fC (hU h) (nI (dgN g (p + 1))) (nI (dgN g (p + 2))))) 81 (xW (xN h.1 (nI (h.2.1 + 1))) (wdOf h.1 (fC (hU h) (nI (dgN g (p + 1))) (nI (dgN g (p + 2))))))) := fun Q => W70 (n := n + 2) hs.1 hh.1 hd hh.2.1 (hs.2.1 _ (Nat.le_refl _)) za hu hm zl hn
        have hA1 : Ag M (ph (pl M (la 81 (h.2.1 + 1)) (fC (hU h) (nI (dgN g (p + 1))) (nI (dgN g (p + 2))))) 81 (xW (xN h.1 (nI (h.2.1 + 1))) (wdOf h.1 (fC (hU h) (nI (dgN g (p + 1))) (nI (dgN g (p + 2))))))) 0 81 := Ag_tr (M' := pl M (la 81 (h.2.1 + 1)) (fC (hU h) (nI (dgN g (p + 1))) (nI (dgN g (p + 2))))) (Ag_pl (by unfold la; omega)) (Ag_ph (by omega))
        have hA2 : Ag M (ph (pl M (la 81 (h.2.1 + 1)) (fC (hU h) (nI (dgN g (p + 1))) (nI (dgN g (p + 2))))) 81 (xW (xN h.1 (nI (h.2.1 + 1))) (wdOf h.1 (fC (hU h) (nI (dgN g (p + 1))) (nI (dgN g (p + 2))))))) 121 143 := Ag_tr (M' := pl M (la 81 (h.2.1 + 1)) (fC (hU h) (nI (dgN g (p + 1))) (nI (dgN g (p + 2))))) (Ag_pl (by unfold la; omega)) (Ag_ph (by omega))
        simp only [or_true, true_or, e87, u87_0, u87_1, u87_4, u87_5, u87_6, u87_7, u87_10, u87_11, u87_12, u87_15, u87_16, u87_19, u87_68, u87_69, u87_70, u87_71, u87_74, u87_75, u87_76, u87_77, u87_80, u87_81, u87_84, u87_85, u87_86, u87_87, u87_90, u87_93, u87_94, u87_95, u87_96, u87_98, u87_99, u87_102, u87_103, u87_104, u87_105, u87_108, u87_109, u87_110, u87_113, u87_114, u87_115, u87_116, u87_119, u87_120, u87_123, u87_124, u87_125, u87_126, u87_127, u87_130, u87_131, u87_132, u87_133, u87_136, u87_139, u87_140, u87_141, u87_144, u87_147, u87_148, u87_149, u87_150, u87_153, u87_154, u87_155, e91, u91_0, u91_1, u91_4, u91_5, u91_8, u91_11, u91_12, u91_15, u91_18, u91_19, u91_20, u91_23, u91_26, u91_27, u91_28, u91_29, u91_32, u91_33, u91_34, u91_37, u91_38, u91_39, mw_os, wp_ite, mw_sw, Option.toList_some, Option.toList_none, List.cons_append, List.nil_append, true_and, and_true, if_true, if_false, mw_s_, mw_s_i, mw_s_r, mw_s_ii, mw_s_ir, mw_s_ri, mw_s_rr, mw_s_iii, mw_s_iir, mw_s_iri, mw_s_irr, mw_s_rii, mw_s_rir, mw_s_rri, mw_s_rrr, mw_s_iiii, mw_s_iiir, mw_s_iiri, mw_s_iirr, mw_s_irii, mw_s_irir, mw_s_irri, mw_s_irrr, mw_s_riii, mw_s_riir, mw_s_riri, mw_s_rirr, mw_s_rrii, mw_s_rrir, mw_s_rrri, mw_s_rrrr, mm_sto1, mm_clr, mm_isL, List.getElem?_cons_zero, List.getElem?_cons_succ, List.set_cons_zero, List.set_cons_succ, Bool.false_eq_true, CS_4 hC, CZ_x hC, nI_1, w50 _ g1, s48 a1, w46, e102, z1, CS_x hC, f2, w50 _ g2, s48 b1, CS_2 hC, t4, tS, C69t hs hh, hl, bi_eq0, reduceCtorEq, W89, bb, not_false_eq_true, w70]
        exact hQ _ (CTt_mk hc hg ((ph_len ..).trans (pl_len ..)) hA1 hA2 (SH_fold hs hd) (HOK_hF hh q1 q2 hl h4))
      · rw [if_neg (fun z => h4 z.2)] at hQ
        have bb : decide ((0 : Int32) ≤ nI (dgN g (p + 2)) ∧ nI (dgN g (p + 2)) < 4) = false := decide_eq_false (fun z => h4 ((nI_ltI (b := 4) (by omega) (by decide)).mp z.2))
        simp only [or_true, true_or, e87, u87_0, u87_1, u87_4, u87_5, u87_6, u87_7, u87_10, u87_11, u87_12, u87_15, u87_16, u87_19, u87_68, u87_69, u87_70, u87_71, u87_74, u87_75, u87_76, u87_77, u87_80, u87_81, u87_84, u87_85, u87_86, u87_87, u87_90, u87_93, u87_94, u87_95, u87_96, u87_98, u87_99, u87_102, u87_103, u87_104, u87_105, u87_108, u87_109, u87_110, u87_113, u87_114, u87_115, u87_116, u87_119, u87_120, u87_123, u87_124, u87_125, u87_126, u87_127, u87_130, u87_131, u87_132, u87_133, u87_136, u87_139, u87_140, u87_141, u87_144, u87_147, u87_148, u87_149, u87_150, u87_153, u87_154, u87_155, e91, u91_0, u91_1, u91_4, u91_5, u91_8, u91_11, u91_12, u91_15, u91_18, u91_19, u91_20, u91_23, u91_26, u91_27, u91_28, u91_29, u91_32, u91_33, u91_34, u91_37, u91_38, u91_39, mw_os, wp_ite, mw_sw, Option.toList_some, Option.toList_none, List.cons_append, List.nil_append, true_and, and_true, if_true, if_false, mw_s_, mw_s_i, mw_s_r, mw_s_ii, mw_s_ir, mw_s_ri, mw_s_rr, mw_s_iii, mw_s_iir, mw_s_iri, mw_s_irr, mw_s_rii, mw_s_rir, mw_s_rri, mw_s_rrr, mw_s_iiii, mw_s_iiir, mw_s_iiri, mw_s_iirr, mw_s_irii, mw_s_irir, mw_s_irri, mw_s_irrr, mw_s_riii, mw_s_riir, mw_s_riri, mw_s_rirr, mw_s_rrii, mw_s_rrir, mw_s_rrri, mw_s_rrrr, mm_sto1, mm_clr, mm_isL, List.getElem?_cons_zero, List.getElem?_cons_succ, List.set_cons_zero, List.set_cons_succ, Bool.false_eq_true, CS_4 hC, CZ_x hC, nI_1, w50 _ g1, s48 a1, w46, e102, z1, CS_x hC, f2, w50 _ g2, s48 b1, CS_2 hC, t4, tS, C69t hs hh, hl, bi_eq0, reduceCtorEq, W89, bb, not_true]
        exact hQ
  · have g1 := GS_o hS k
    rw [if_neg (by omega), if_neg (by omega), if_neg (by omega), if_pos k] at hQ
    have e111 : nI (zN g p) = 111 := by rw [k]; rfl
    have z1 : ((111 : Int32) = 99) ↔ False := by decide
    have z2 : ((111 : Int32) = 102) ↔ False := by decide
    have z3 : ((111 : Int32) = 107) ↔ False := by decide
    by_cases hd0 : h.2.1 = 0
    · rw [if_pos hd0] at hQ
      have w76 : ∀ Q : Option Value → mm_M → Prop, Wp scr (n + 8) 76 [.ref 81] M Q ↔ Q (some (.int 0)) M := fun Q => by
        have := W76 (scr := scr) (n := n + 7) (Q := Q) (M := M) (s := 81) (v := h.1) (SA_len hs.1)
        rw [ph_self hs.1, if_pos (by rw [hh.2.1, hd0]; rfl)] at this
        exact this
      simp only [or_true, true_or, e87, u87_0, u87_1, u87_4, u87_5, u87_6, u87_7, u87_10, u87_11, u87_12, u87_15, u87_16, u87_19, u87_68, u87_69, u87_70, u87_71, u87_74, u87_75, u87_76, u87_77, u87_80, u87_81, u87_84, u87_85, u87_86, u87_87, u87_90, u87_93, u87_94, u87_95, u87_96, u87_98, u87_99, u87_102, u87_103, u87_104, u87_105, u87_108, u87_109, u87_110, u87_113, u87_114, u87_115, u87_116, u87_119, u87_120, u87_123, u87_124, u87_125, u87_126, u87_127, u87_130, u87_131, u87_132, u87_133, u87_136, u87_139, u87_140, u87_141, u87_144, u87_147, u87_148, u87_149, u87_150, u87_153, u87_154, u87_155, mw_os, wp_ite, mw_sw, Option.toList_some, Option.toList_none, List.cons_append, List.nil_append, true_and, and_true, if_true, if_false, mw_s_, mw_s_i, mw_s_r, mw_s_ii, mw_s_ir, mw_s_ri, mw_s_rr, mw_s_iii, mw_s_iir, mw_s_iri, mw_s_irr, mw_s_rii, mw_s_rir, mw_s_rri, mw_s_rrr, mw_s_iiii, mw_s_iiir, mw_s_iiri, mw_s_iirr, mw_s_irii, mw_s_irir, mw_s_irri, mw_s_irrr, mw_s_riii, mw_s_riir, mw_s_riri, mw_s_rirr, mw_s_rrii, mw_s_rrir, mw_s_rrri, mw_s_rrrr, mm_sto1, mm_clr, mm_isL, List.getElem?_cons_zero, List.getElem?_cons_succ, List.set_cons_zero, List.set_cons_succ, Bool.false_eq_true, CS_4 hC, CZ_x hC, nI_1, w50 _ g1, w46, e111, z1, z2, z3, CS_2 hC, tS, w76]
      exact hQ
    · rw [if_neg hd0] at hQ
      obtain ⟨e, he⟩ : ∃ e, h.2.1 = e + 1 := ⟨h.2.1 - 1, by omega⟩
      rw [show h.2.1 - 1 = e by omega] at hQ
      have w76 : ∀ Q : Option Value → mm_M → Prop, Wp scr (n + 8) 76 [.ref 81] M Q ↔ Q (some (.int 1)) (ph M 81 (xN h.1 (nI e))) := fun Q => by
        have := W76 (scr := scr) (n := n + 7) (Q := Q) (M := M) (s := 81) (v := h.1) (SA_len hs.1)
        rw [ph_self hs.1, if_neg (by rw [hh.2.1, he]; exact nI_ne0 (by omega) (by omega)), show sN h.1 - 1 = nI e by rw [hh.2.1, he, nI_pred]] at this
        exact this
      have hs1 : SH (ph M 81 (xN h.1 (nI e))) 81 (hO h e) := by
        have h1 := SH_ph (v := xN h.1 (nI e)) hs hd4
        refine ⟨h1.1, fun i hi => h1.2.1 i (by show i ≤ h.2.1; have : i ≤ e := hi; omega), fun i h2 h3 => ?_⟩
        have h2' : e < i := h2
        by_cases hei : i = e + 1
        · obtain ⟨x, hx, _⟩ := HOK_GT hh i (by omega)
          exact ⟨_, LOK_LEN (GT_N hx).1, h1.2.1 i (by show i ≤ h.2.1; omega)⟩
        · exact h1.2.2 i (by show h.2.1 < i; omega) h3
      simp only [or_true, true_or, e87, u87_0, u87_1, u87_4, u87_5, u87_6, u87_7, u87_10, u87_11, u87_12, u87_15, u87_16, u87_19, u87_68, u87_69, u87_70, u87_71, u87_74, u87_75, u87_76, u87_77, u87_80, u87_81, u87_84, u87_85, u87_86, u87_87, u87_90, u87_93, u87_94, u87_95, u87_96, u87_98, u87_99, u87_102, u87_103, u87_104, u87_105, u87_108, u87_109, u87_110, u87_113, u87_114, u87_115, u87_116, u87_119, u87_120, u87_123, u87_124, u87_125, u87_126, u87_127, u87_130, u87_131, u87_132, u87_133, u87_136, u87_139, u87_140, u87_141, u87_144, u87_147, u87_148, u87_149, u87_150, u87_153, u87_154, u87_155, mw_os, wp_ite, mw_sw, Option.toList_some, Option.toList_none, List.cons_append, List.nil_append, true_and, and_true, if_true, if_false, mw_s_, mw_s_i, mw_s_r, mw_s_ii, mw_s_ir, mw_s_ri, mw_s_rr, mw_s_iii, mw_s_iir, mw_s_iri, mw_s_irr, mw_s_rii, mw_s_rir, mw_s_rri, mw_s_rrr, mw_s_iiii, mw_s_iiir, mw_s_iiri, mw_s_iirr, mw_s_irii, mw_s_irir, mw_s_irri, mw_s_irrr, mw_s_riii, mw_s_riir, mw_s_riri, mw_s_rirr, mw_s_rrii, mw_s_rrir, mw_s_rrri, mw_s_rrrr, mm_sto1, mm_clr, mm_isL, List.getElem?_cons_zero, List.getElem?_cons_succ, List.set_cons_zero, List.set_cons_succ, Bool.false_eq_true, CS_4 hC, CZ_x hC, nI_1, w50 _ g1, w46, e111, z1, z2, z3, CS_2 hC, tS, w76]
      exact hQ _ (CTt_mk hc hg (ph_len ..) (Ag_ph (by omega)) (Ag_ph (by omega)) hs1 (HOK_hO hh he))
  · obtain ⟨g1, a1, a2⟩ := GS_c hS k
    rw [if_neg (by omega), if_neg (by omega), if_neg (by omega), if_neg (by omega)] at hQ
    have e99 : nI (zN g p) = 99 := by rw [k]; rfl
    by_cases h8 : dgN g (p + 1) < 8
    · rw [if_pos h8] at hQ
      have bb : decide ((0 : Int32) ≤ nI (dgN g (p + 1)) ∧ nI (dgN g (p + 1)) < 8) = true := ib_t h8 (by decide)
      have pu : mm_put mc_fty M (.ref 81) (.int (nI (dgN g (p + 1)))) 4 5 = some (ph M 81 (xC h.1 (nI (dgN g (p + 1))))) := SA_puC hs.1
      simp only [or_true, true_or, e87, u87_0, u87_1, u87_4, u87_5, u87_6, u87_7, u87_10, u87_11, u87_12, u87_15, u87_16, u87_19, u87_68, u87_69, u87_70, u87_71, u87_74, u87_75, u87_76, u87_77, u87_80, u87_81, u87_84, u87_85, u87_86, u87_87, u87_90, u87_93, u87_94, u87_95, u87_96, u87_98, u87_99, u87_102, u87_103, u87_104, u87_105, u87_108, u87_109, u87_110, u87_113, u87_114, u87_115, u87_116, u87_119, u87_120, u87_123, u87_124, u87_125, u87_126, u87_127, u87_130, u87_131, u87_132, u87_133, u87_136, u87_139, u87_140, u87_141, u87_144, u87_147, u87_148, u87_149, u87_150, u87_153, u87_154, u87_155, e92, u92_0, u92_1, u92_3, u92_6, u92_9, u92_10, u92_11, u92_12, u92_15, u92_16, u92_19, u92_20, mw_os, wp_ite, mw_sw, Option.toList_some, Option.toList_none, List.cons_append, List.nil_append, true_and, and_true, if_true, if_false, mw_s_, mw_s_i, mw_s_r, mw_s_ii, mw_s_ir, mw_s_ri, mw_s_rr, mw_s_iii, mw_s_iir, mw_s_iri, mw_s_irr, mw_s_rii, mw_s_rir, mw_s_rri, mw_s_rrr, mw_s_iiii, mw_s_iiir, mw_s_iiri, mw_s_iirr, mw_s_irii, mw_s_irir, mw_s_irri, mw_s_irrr, mw_s_riii, mw_s_riir, mw_s_riri, mw_s_rirr, mw_s_rrii, mw_s_rrir, mw_s_rrri, mw_s_rrrr, mm_sto1, mm_clr, mm_isL, List.getElem?_cons_zero, List.getElem?_cons_succ, List.set_cons_zero, List.set_cons_succ, Bool.false_eq_true, CS_4 hC, CZ_x hC, nI_1, w50 _ g1, s48 a1, w46, e99, CS_x hC, W89, bb, bi_eq0, reduceCtorEq, not_false_eq_true, CS_2 hC, pu]
      exact hQ _ (CTt_ph hc hg hd4 (HOK_C hh ⟨_, by omega, rfl⟩))
    · rw [if_neg h8] at hQ
      have bb : decide ((0 : Int32) ≤ nI (dgN g (p + 1)) ∧ nI (dgN g (p + 1)) < 8) = false := decide_eq_false (fun z => h8 ((nI_ltI (b := 8) (by unfold dgN; omega) (by decide)).mp z.2))
      simp only [or_true, true_or, e87, u87_0, u87_1, u87_4, u87_5, u87_6, u87_7, u87_10, u87_11, u87_12, u87_15, u87_16, u87_19, u87_68, u87_69, u87_70, u87_71, u87_74, u87_75, u87_76, u87_77, u87_80, u87_81, u87_84, u87_85, u87_86, u87_87, u87_90, u87_93, u87_94, u87_95, u87_96, u87_98, u87_99, u87_102, u87_103, u87_104, u87_105, u87_108, u87_109, u87_110, u87_113, u87_114, u87_115, u87_116, u87_119, u87_120, u87_123, u87_124, u87_125, u87_126, u87_127, u87_130, u87_131, u87_132, u87_133, u87_136, u87_139, u87_140, u87_141, u87_144, u87_147, u87_148, u87_149, u87_150, u87_153, u87_154, u87_155, e92, u92_0, u92_1, u92_3, u92_6, u92_9, u92_10, u92_11, u92_12, u92_15, u92_16, u92_19, u92_20, mw_os, wp_ite, mw_sw, Option.toList_some, Option.toList_none, List.cons_append, List.nil_append, true_and, and_true, if_true, if_false, mw_s_, mw_s_i, mw_s_r, mw_s_ii, mw_s_ir, mw_s_ri, mw_s_rr, mw_s_iii, mw_s_iir, mw_s_iri, mw_s_irr, mw_s_rii, mw_s_rir, mw_s_rri, mw_s_rrr, mw_s_iiii, mw_s_iiir, mw_s_iiri, mw_s_iirr, mw_s_irii, mw_s_irir, mw_s_irri, mw_s_irrr, mw_s_riii, mw_s_riir, mw_s_riri, mw_s_rirr, mw_s_rrii, mw_s_rrir, mw_s_rrri, mw_s_rrrr, mm_sto1, mm_clr, mm_isL, List.getElem?_cons_zero, List.getElem?_cons_succ, List.set_cons_zero, List.set_cons_succ, Bool.false_eq_true, CS_4 hC, CZ_x hC, nI_1, w50 _ g1, s48 a1, w46, e99, CS_x hC, W89, bb, bi_eq0, not_true]
      exact hQ
end ST
