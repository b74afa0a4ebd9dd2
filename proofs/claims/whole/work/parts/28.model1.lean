/-! the reference's row of 206 ints as a value: kinds, figures, worn, sides, panels, ahead; cover, folds -/
abbrev RV : Type := (List Int32 × List Int32 × List Int32 × List Int32 × List Int32 × List Int32) × (Int32 × Int32)
def rK (v : RV) : List Int32 := v.1.1
def rF (v : RV) : List Int32 := v.1.2.1
def rO (v : RV) : List Int32 := v.1.2.2.1
def rS (v : RV) : List Int32 := v.1.2.2.2.1
def rP (v : RV) : List Int32 := v.1.2.2.2.2.1
def rA (v : RV) : List Int32 := v.1.2.2.2.2.2
def rC (v : RV) : Int32 := v.2.1
def rN (v : RV) : Int32 := v.2.2
def yK (v : RV) (x : List Int32) : RV := ((x, rF v, rO v, rS v, rP v, rA v), (rC v, rN v))
def yF (v : RV) (x : List Int32) : RV := ((rK v, x, rO v, rS v, rP v, rA v), (rC v, rN v))
def yO (v : RV) (x : List Int32) : RV := ((rK v, rF v, x, rS v, rP v, rA v), (rC v, rN v))
def yS (v : RV) (x : List Int32) : RV := ((rK v, rF v, rO v, x, rP v, rA v), (rC v, rN v))
def yP (v : RV) (x : List Int32) : RV := ((rK v, rF v, rO v, rS v, x, rA v), (rC v, rN v))
def yA (v : RV) (x : List Int32) : RV := ((rK v, rF v, rO v, rS v, rP v, x), (rC v, rN v))
def yC (v : RV) (x : Int32) : RV := ((rK v, rF v, rO v, rS v, rP v, rA v), (x, rN v))
def yN (v : RV) (x : Int32) : RV := ((rK v, rF v, rO v, rS v, rP v, rA v), (rC v, x))
def ROK (v : RV) : Prop := (rK v).length = 10 ∧ (rF v).length = 10 ∧ (rO v).length = 10 ∧ (rS v).length = 10 ∧ (rP v).length = 32 ∧ (rA v).length = 132
def rowL (v : RV) : List Int32 := rK v ++ (rF v ++ (rO v ++ (rS v ++ (rP v ++ ([rC v, rN v] ++ rA v)))))
theorem app_l {a b : List Int32} {i n : Nat} (ha : a.length = n) (h : i < n) : (a ++ b)[i]? = a[i]? := List.getElem?_append_left (by omega)
theorem app_r {a b : List Int32} {i n : Nat} (ha : a.length = n) : (a ++ b)[n + i]? = b[i]? := by
  rw [List.getElem?_append_right (by omega)]
  congr 1
  omega
theorem aps_l {a b : List Int32} {i n : Nat} {x : Int32} (ha : a.length = n) (h : i < n) : (a ++ b).set i x = a.set i x ++ b := by
  rw [List.set_append, if_pos (by omega)]
theorem aps_r {a b : List Int32} {i n : Nat} {x : Int32} (ha : a.length = n) : (a ++ b).set (n + i) x = a ++ b.set i x := by
  rw [List.set_append, if_neg (by omega)]
  congr 2
  omega
section RVa
variable {v : RV} {i : Nat} {x : Int32}
theorem ix_K (h : ROK v) (hi : i < 10) : (rowL v)[i]? = (rK v)[i]? := app_l h.1 hi
theorem ix_F (h : ROK v) (hi : i < 10) : (rowL v)[10 + i]? = (rF v)[i]? := (app_r h.1).trans (app_l h.2.1 hi)
theorem ix_O (h : ROK v) (hi : i < 10) : (rowL v)[20 + i]? = (rO v)[i]? := by
  rw [show 20 + i = 10 + (10 + i) by omega]
  exact (app_r h.1).trans ((app_r h.2.1).trans (app_l h.2.2.1 hi))
theorem ix_S (h : ROK v) (hi : i < 10) : (rowL v)[30 + i]? = (rS v)[i]? := by
  rw [show 30 + i = 10 + (10 + (10 + i)) by omega]
  exact (app_r h.1).trans ((app_r h.2.1).trans ((app_r h.2.2.1).trans (app_l h.2.2.2.1 hi)))
theorem ix_P (h : ROK v) (hi : i < 32) : (rowL v)[40 + i]? = (rP v)[i]? := by
  rw [show 40 + i = 10 + (10 + (10 + (10 + i))) by omega]
  exact (app_r h.1).trans ((app_r h.2.1).trans ((app_r h.2.2.1).trans ((app_r h.2.2.2.1).trans (app_l h.2.2.2.2.1 hi))))
theorem ix_CN (h : ROK v) : (rowL v)[72 + i]? = ([rC v, rN v] ++ rA v)[i]? := by
  rw [show 72 + i = 10 + (10 + (10 + (10 + (32 + i)))) by omega]
  exact (app_r h.1).trans ((app_r h.2.1).trans ((app_r h.2.2.1).trans ((app_r h.2.2.2.1).trans (app_r h.2.2.2.2.1))))
theorem ix_A (h : ROK v) : (rowL v)[74 + i]? = (rA v)[i]? := by
  rw [show 74 + i = 72 + (2 + i) by omega, ix_CN h]
  exact app_r rfl
theorem st_K (h : ROK v) (hi : i < 10) : (rowL v).set i x = rowL (yK v ((rK v).set i x)) := aps_l h.1 hi
theorem st_F (h : ROK v) (hi : i < 10) : (rowL v).set (10 + i) x = rowL (yF v ((rF v).set i x)) := (aps_r h.1).trans (congrArg (rK v ++ ·) (aps_l h.2.1 hi))
theorem st_O (h : ROK v) (hi : i < 10) : (rowL v).set (20 + i) x = rowL (yO v ((rO v).set i x)) := by
  rw [show 20 + i = 10 + (10 + i) by omega]
  exact (aps_r h.1).trans (congrArg (rK v ++ ·) ((aps_r h.2.1).trans (congrArg (rF v ++ ·) (aps_l h.2.2.1 hi))))
theorem st_S (h : ROK v) (hi : i < 10) : (rowL v).set (30 + i) x = rowL (yS v ((rS v).set i x)) := by
  rw [show 30 + i = 10 + (10 + (10 + i)) by omega]
  exact (aps_r h.1).trans (congrArg (rK v ++ ·) ((aps_r h.2.1).trans (congrArg (rF v ++ ·) ((aps_r h.2.2.1).trans (congrArg (rO v ++ ·) (aps_l h.2.2.2.1 hi))))))
theorem st_P (h : ROK v) (hi : i < 32) : (rowL v).set (40 + i) x = rowL (yP v ((rP v).set i x)) := by
  rw [show 40 + i = 10 + (10 + (10 + (10 + i))) by omega]
  exact (aps_r h.1).trans (congrArg (rK v ++ ·) ((aps_r h.2.1).trans (congrArg (rF v ++ ·) ((aps_r h.2.2.1).trans (congrArg (rO v ++ ·) ((aps_r h.2.2.2.1).trans (congrArg (rS v ++ ·) (aps_l h.2.2.2.2.1 hi))))))))
theorem st_CN (h : ROK v) : (rowL v).set (72 + i) x = rK v ++ (rF v ++ (rO v ++ (rS v ++ (rP v ++ ([rC v, rN v] ++ rA v).set i x)))) := by
  rw [show 72 + i = 10 + (10 + (10 + (10 + (32 + i)))) by omega]
  exact (aps_r h.1).trans (congrArg (rK v ++ ·) ((aps_r h.2.1).trans (congrArg (rF v ++ ·) ((aps_r h.2.2.1).trans (congrArg (rO v ++ ·) ((aps_r h.2.2.2.1).trans (congrArg (rS v ++ ·) (aps_r h.2.2.2.2.1))))))))
theorem st_A (h : ROK v) : (rowL v).set (74 + i) x = rowL (yA v ((rA v).set i x)) := by
  rw [show 74 + i = 72 + (2 + i) by omega, st_CN h]
  rw [aps_r (a := [rC v, rN v]) (n := 2) rfl]
  rfl
theorem st_C (h : ROK v) : (rowL v).set 72 x = rowL (yC v x) := st_CN (i := 0) h
theorem st_N (h : ROK v) : (rowL v).set 73 x = rowL (yN v x) := st_CN (i := 1) h
theorem rowL_len (h : ROK v) : (rowL v).length = 206 := by
  obtain ⟨h1, h2, h3, h4, h5, h6⟩ := h
  simp only [rowL, List.length_append, h1, h2, h3, h4, h5, h6, List.length_cons, List.length_nil]
theorem at_ix {xs ys : List Int32} {i j : Nat} (hi : i < 2 ^ 31) (hj : j < ys.length) (hj2 : j < 2 ^ 31) (h : xs[i]? = ys[j]?) : mm_at xs (nI i) = some (gi ys (nI j)) := by
  unfold mm_at
  rw [if_neg (nI_pos hi), nI_clamp hi, h, gi_n hj2, List.getD_eq_getElem?_getD, List.getElem?_eq_getElem hj]
  rfl
theorem rd_K (h : ROK v) (hi : i < 10) : mm_at (rowL v) (nI i) = some (gi (rK v) (nI i)) := at_ix (by omega) (by rw [h.1]; exact hi) (by omega) (ix_K h hi)
theorem rd_F (h : ROK v) (hi : i < 10) : mm_at (rowL v) (nI (10 + i)) = some (gi (rF v) (nI i)) := at_ix (by omega) (by rw [h.2.1]; exact hi) (by omega) (ix_F h hi)
theorem rd_O (h : ROK v) (hi : i < 10) : mm_at (rowL v) (nI (20 + i)) = some (gi (rO v) (nI i)) := at_ix (by omega) (by rw [h.2.2.1]; exact hi) (by omega) (ix_O h hi)
theorem rd_S (h : ROK v) (hi : i < 10) : mm_at (rowL v) (nI (30 + i)) = some (gi (rS v) (nI i)) := at_ix (by omega) (by rw [h.2.2.2.1]; exact hi) (by omega) (ix_S h hi)
theorem rd_P (h : ROK v) (hi : i < 32) : mm_at (rowL v) (nI (40 + i)) = some (gi (rP v) (nI i)) := at_ix (by omega) (by rw [h.2.2.2.2.1]; exact hi) (by omega) (ix_P h hi)
theorem rd_A (h : ROK v) (hi : i < 132) : mm_at (rowL v) (nI (74 + i)) = some (gi (rA v) (nI i)) := at_ix (by omega) (by rw [h.2.2.2.2.2]; exact hi) (by omega) (ix_A h)
theorem rd_C (h : ROK v) : mm_at (rowL v) 72 = some (rC v) := at_ix (i := 72) (j := 0) (ys := [rC v]) (by decide) (Nat.zero_lt_one) (by decide) (ix_CN (i := 0) h)
theorem rd_N (h : ROK v) : mm_at (rowL v) 73 = some (rN v) := at_ix (i := 73) (j := 0) (ys := [rN v]) (by decide) (Nat.zero_lt_one) (by decide) (ix_CN (i := 1) h)
end RVa
/-- a row laid into a cell -/
def sr (M : mm_M) (a : Nat) (w : List Int32) : mm_M := M.set a (.inl w)
def RA (M : mm_M) (a : Nat) (w : List Int32) : Prop := M[a]? = some (.inl w)
section SRr
variable {scr : List Int32} {M : mm_M} {a b : Nat} {w w' : List Int32} {j x : Int32}
theorem sr_RA (h : a < M.length) : RA (sr M a w) a w := List.getElem?_set_self h
theorem sr_ne (h : a ≠ b) : (sr M a w)[b]? = M[b]? := List.getElem?_set_ne h
theorem sr_other (h : RA M b w') (hn : a ≠ b) : RA (sr M a w) b w' := (sr_ne hn).trans h
theorem sr_len : (sr M a w).length = M.length := List.length_set
theorem sr_sr : sr (sr M a w) a w' = sr M a w' := List.set_set ..
theorem RA_lt (h : RA M a w) : a < M.length := (List.getElem?_eq_some_iff.mp h).1
theorem sr_self (h : RA M a w) : sr M a w = M := by
  apply List.ext_getElem?
  intro i
  by_cases hi : a = i
  · subst hi
    exact (sr_RA (RA_lt h)).trans h.symm
  · exact sr_ne hi
theorem RA_ld (h : RA M a w) : mm_ld (mc_X scr) M (.ref a) j = mm_at w j := by have h' : M[a]? = some (.inl w) := h; simp only [mm_ld, mm_row, h']; rfl
theorem RA_st {k : Nat} (h : RA M a w) (hk : k < w.length) (hk2 : k < 2 ^ 31) : mm_sti M (.ref a) (nI k) x = some (sr M a (w.set k x)) := by
  have h' : M[a]? = some (.inl w) := h
  simp only [mm_sti, h', if_neg (nI_pos hk2), nI_clamp hk2, if_pos hk]
  rfl
theorem RA_stI (h : RA M a w) (hj : vp_in j w.length) : mm_sti M (.ref a) j x = some (sr M a (w.set j.toNatClampNeg x)) := by
  have h' : M[a]? = some (.inl w) := h
  have h0 : ¬ j < 0 := fun z => hj (Or.inl z)
  have h1 : j.toNatClampNeg < w.length := Nat.not_le.mp fun z => hj (Or.inr z)
  simp only [mm_sti, h', if_neg h0, if_pos h1]
  rfl
end SRr
theorem m4n (i : Nat) : (4 : Int32) * nI i = nI (4 * i) := pk_mul 4 i
theorem c40 (i : Nat) : (40 : Int32) + nI i = nI (40 + i) := nI_add 40 i
theorem c30 (i : Nat) : (30 : Int32) + nI i = nI (30 + i) := nI_add 30 i
theorem c20 (i : Nat) : (20 : Int32) + nI i = nI (20 + i) := nI_add 20 i
theorem c10 (i : Nat) : (10 : Int32) + nI i = nI (10 + i) := nI_add 10 i
theorem c0 (i : Nat) : (0 : Int32) + nI i = nI i := by rw [← nI_0, nI_add, Nat.zero_add]
theorem n_2 (i : Nat) : nI i + 2 = nI (i + 2) := nI_add i 2
