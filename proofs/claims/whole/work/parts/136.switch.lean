def mw_sw (x : Int32) (ks : List (Int32 × Nat)) (d : Nat) : Nat := match ks with
  | [] => d
  | q :: ks => if x = q.1 then q.2 else mw_sw x ks d
def mw_up (lo : Int) (pc : Int) : List Int → List (Int × Int)
  | [] => []
  | o :: os => (lo, pc + o) :: mw_up (lo + 1) pc os
theorem mw_tab_eq (Φ : Nat → Prop) (x : Int32) (pc : Int) (d : Nat) : ∀ (l : List Int) (lo hi : Int) (ks : List (Int32 × Nat)), hi = lo + l.length - 1 → ks.map (fun q => (q.1.toInt, (q.2 : Int))) = mw_up lo pc l → ((if x.toInt < lo ∨ hi < x.toInt then Φ d else mw_o l[(x.toInt - lo).toNat]? (fun o => Φ (pc + o).toNat)) ↔ Φ (mw_sw x ks d)) := by
  intro l
  induction l with
  | nil =>
    intro lo hi ks h hk
    have : ks = [] := by simpa [mw_up] using hk
    subst this
    rw [if_pos (by simp at h; omega)]
    exact Iff.rfl
  | cons o l ih =>
    intro lo hi ks h hk
    cases ks with
    | nil => simp [mw_up] at hk
    | cons q ks =>
      simp only [mw_up, List.map_cons, List.cons.injEq, Prod.mk.injEq] at hk
      obtain ⟨⟨h1, h2⟩, h3⟩ := hk
      have h4 := ih (lo + 1) hi ks (by simp at h; omega) h3
      simp only [mw_sw]
      by_cases hx : x = q.1
      · rw [if_pos hx]
        have hx2 : x.toInt = lo := by rw [hx]; exact h1
        have hlen : (0 : Int) ≤ l.length := Int.natCast_nonneg _
        rw [if_neg (by simp at h; omega), hx2, Int.sub_self]
        show Φ (pc + o).toNat ↔ Φ q.2
        rw [← h2, Int.toNat_natCast]
      · rw [if_neg hx, ← h4]
        have hx2 : ¬ x.toInt = lo := fun z => hx (Int32.toInt_inj.mp (z.trans h1.symm))
        by_cases hr : x.toInt < lo ∨ hi < x.toInt
        · rw [if_pos hr, if_pos (by omega)]
        · rw [if_neg hr, if_neg (by omega)]
          have e1 : (x.toInt - lo).toNat = (x.toInt - (lo + 1)).toNat + 1 := by omega
          rw [e1, List.getElem?_cons_succ]
theorem mw_look_eq (x : Int32) (pc d : Int) (d' : Nat) (hd : pc + d = (d' : Int)) : ∀ (ps : List (Int × Int)) (ks : List (Int32 × Nat)), ks.map (fun q => (q.1.toInt, (q.2 : Int))) = ps.map (fun q => (q.1, pc + q.2)) → (pc + Op.lookupswitch.offset ps d x.toInt).toNat = mw_sw x ks d' := by
  intro ps
  induction ps with
  | nil =>
    intro ks hk
    have : ks = [] := by simpa using hk
    subst this
    simp only [Op.lookupswitch.offset, mw_sw, hd, Int.toNat_natCast]
  | cons p ps ih =>
    intro ks hk
    cases ks with
    | nil => simp at hk
    | cons q ks =>
      obtain ⟨k, o⟩ := p
      simp only [List.map_cons, List.cons.injEq, Prod.mk.injEq] at hk
      obtain ⟨⟨h1, h2⟩, h3⟩ := hk
      simp only [mw_sw, ← ih ks h3, Op.lookupswitch.offset]
      by_cases hx : x = q.1
      · have hx2 : x.toInt = k := by rw [hx]; exact h1
        simp [hx, hx2, ← h1, ← h2]
      · have hx2 : ¬ x.toInt = k := fun z => hx (Int32.toInt_inj.mp (z.trans h1.symm))
        have hx3 : ¬ k = x.toInt := fun z => hx2 z.symm
        simp [hx, hx2, hx3]
section MW3
variable {scr : List Int32} {n : Nat} {c : mw_B} {pc : Nat} {L : mm_L} {st : List Value} {M : mm_M} {Q : Option Value → mm_M → Prop}
theorem wp_tabS {d lo hi : Int} {os : Array Int} {t : Nat × Nat × Nat × Value × List Nat} {x : Int32} {ks : List (Int32 × Nat)} {d' : Nat} (hc : mc_co c.2 pc = some (.tableswitch d lo hi os, t)) (h1 : decide (hi = lo + os.toList.length - 1) = true) (h2 : decide (ks.map (fun q => (q.1.toInt, (q.2 : Int))) = mw_up lo pc os.toList) = true) (h3 : decide (((pc : Int) + d).toNat = d') = true) : wp scr n c pc L (.int x :: st) M Q ↔ wp scr n c (mw_sw x ks d') L st M Q := by
  refine (wp_tab hc).trans ?_
  rw [of_decide_eq_true h3]
  have := mw_tab_eq (fun q => wp scr n c q L st M Q) x pc d' os.toList lo hi ks (of_decide_eq_true h1) (of_decide_eq_true h2)
  rw [← this]
  rw [Array.getElem?_toList]
theorem wp_lookS {d : Int} {ps : Array (Int × Int)} {t : Nat × Nat × Nat × Value × List Nat} {x : Int32} {ks : List (Int32 × Nat)} {d' : Nat} (hc : mc_co c.2 pc = some (.lookupswitch d ps, t)) (h1 : decide ((pc : Int) + d = (d' : Int)) = true) (h2 : decide (ks.map (fun q => (q.1.toInt, (q.2 : Int))) = ps.toList.map (fun q => (q.1, (pc : Int) + q.2))) = true) : wp scr n c pc L (.int x :: st) M Q ↔ wp scr n c (mw_sw x ks d') L st M Q := by
  rw [← mw_look_eq x pc d d' (of_decide_eq_true h1) ps.toList ks (of_decide_eq_true h2)]
  exact wp_step hc rfl rfl rfl rfl
end MW3
theorem Wp_to {scr : List Int32} {n k : Nat} {as : List Value} {M : mm_M} {Q : Option Value → mm_M → Prop} {c : mw_B} {y : MethodName} {b : ByteArray} {mL ci : Nat} {L : mm_L} (hP : mc_P k = some (y, b, mL, c.1, ci, mc_co c.2)) (he : decide ((mm_ent as).length ≤ mL) = true) (hL : mm_entry as mL = L) : Wp scr (n + 1) k as M Q ↔ wp scr n c 0 L [] M Q := by
  rw [← hL]
  exact Wp_body hP (of_decide_eq_true he)
