/-! every map that can be folded, looked at one by one -/
def panL (u : LV) : List Int32 := ((List.range 8).map (fun p => [gi (vC u) (nI p), gi (vR u) (nI p), gi (vL u) (nI p), gi (vD u) (nI p)])).flatten
def L0 : LV := (([0, 1, 2, 3, 0, 1, 2, 3], [0, 0, 0, 0, 1, 1, 1, 1], [0, 0, 0, 0, 0, 0, 0, 0], [0, 0, 0, 0, 0, 0, 0, 0], [0, 0, 0, 0, 0, 0, 0, 0, 0, 0], [1, 1, 1, 1, 1, 1, 1, 1]), (4, 2, 0))
def inQ (x : Int32) (n : Nat) : Bool := (!decide (x < 0)) && decide (x.toNatClampNeg < n)
def lokQ (u : LV) : Bool := (vC u).length == 8 && (vR u).length == 8 && (vL u).length == 8 && (vD u).length == 8 && (vS u).length == 10 && (vH u).length == 8 && (List.range 8).all (fun i => inQ (vX u (nI i)) 8)
def okN (u : LV) : Bool :=
  let P := panL u
  lokQ u && decide (mWd P 0 = vW u) && decide (mWd P 1 = vT u) && decide (mTh P = vTh u) && (List.range 8).all (fun p => decide (mAb P p = vU u (nI p)) && (decide (gi (vD u) (nI p) = 0) || decide (gi (vD u) (nI p) = 1)))
def okM (u : LV) (l : Int32) : Bool := (List.range 8).all (fun i => inQ (hIx (bfR l) (mvPl u (bfR l) i) (mvAs u (bfR l) i)) 8 && (!decide (0 ≤ mvMi u (bfR l) (bfC l) i ∧ mvMi u (bfR l) (bfC l) i < mvLen u (bfR l)) || inQ (hIx (bfR l) (mvMi u (bfR l) (bfC l) i) (mvAs u (bfR l) i)) 8))
def dg (c i : Nat) : Int32 := nI (c / 16 ^ i % 16)
def drow (c o n : Nat) : List Int32 := (List.range n).map (fun i => dg c (o + i))
def dec (c : Nat) : LV := ((drow c 0 8, drow c 8 8, drow c 16 8, drow c 24 8, drow c 32 10, drow c 42 8), (dg c 50, dg c 51, 0))
def eqV (u v : LV) : Bool := decide (vC u = vC v) && decide (vR u = vR v) && decide (vL u = vL v) && decide (vD u = vD v) && decide (vS u = vS v) && decide (vH u = vH v) && decide (vW u = vW v) && decide (vT u = vT v)
/-- code, panels read, panels out, the creases along each line, the maps behind each fold -/
abbrev tbE : Type := Nat × Nat × Nat × List Nat × List Nat
def okS (u v : LV) (fr : Int32) (l w : Int32) : Bool := eqV (fC u l w) v && decide (mLays (panL u) l w = panL v) && decide ((List.range 10).map (fun i => if foB fr i = true then mSd (panL u) i (bfO w) else gi (vS u) (nI i)) = vS v)
def okL (u : LV) (fr : Nat) (l : Nat) (ss : List Nat) : Bool := okM u (nI l) && decide (mCr (panL u) (vS u) (bfR (nI l)) (bfC (nI l)) = nI fr) && decide (fcF u (bfR (nI l)) (bfC (nI l)) = nI fr) && (List.range 4).all (fun w => okS u (dec (ss.getD (4 * (l - 1) + w) 0)) (nI fr) (nI l) (nI w))
def okD (x : tbE) : Bool :=
  let u := dec x.1
  okN u && decide (vRs u = nI x.2.1) && (List.range 8).all (fun p => vSb u (nI p) == x.2.2.1.testBit p) && (List.range' 1 4).all (fun l => !hasL u (nI l) || okL u (x.2.2.2.1.getD (l - 1) 0) l x.2.2.2.2)
