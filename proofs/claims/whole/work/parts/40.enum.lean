/-! every map that can be folded, looked at one by one -/
def panL (u : LV) : List Int32 := ((List.range 8).map (fun p => [gi (vC u) (nI p), gi (vR u) (nI p), gi (vL u) (nI p), gi (vD u) (nI p)])).flatten
def L0 : LV := (([0, 1, 2, 3, 0, 1, 2, 3], [0, 0, 0, 0, 1, 1, 1, 1], [0, 0, 0, 0, 0, 0, 0, 0], [0, 0, 0, 0, 0, 0, 0, 0], [0, 0, 0, 0, 0, 0, 0, 0, 0, 0], [1, 1, 1, 1, 1, 1, 1, 1]), (4, 2, 0))
def inQ (x : Int32) (n : Nat) : Bool := (!decide (x < 0)) && decide (x.toNatClampNeg < n)
def lokQ (u : LV) : Bool := (vC u).length == 8 && (vR u).length == 8 && (vL u).length == 8 && (vD u).length == 8 && (vS u).length == 10 && (vH u).length == 8 && (List.range 8).all (fun i => inQ (vX u (nI i)) 8)
def okN (u : LV) : Bool :=
  let P := panL u
  lokQ u && decide (mWd P 0 = vW u) && decide (mWd P 1 = vT u) && decide (mTh P = vTh u) && (List.range 8).all (fun p => decide (mAb P p = vU u (nI p)) && (decide (gi (vD u) (nI p) = 0) || decide (gi (vD u) (nI p) = 1)))
def okM (u : LV) (l : Int32) : Bool := (List.range 8).all (fun i => inQ (hIx (bfR l) (mvPl u (bfR l) i) (mvAs u (bfR l) i)) 8 && (!decide (0 ≤ mvMi u (bfR l) (bfC l) i ∧ mvMi u (bfR l) (bfC l) i < mvLen u (bfR l)) || inQ (hIx (bfR l) (mvMi u (bfR l) (bfC l) i) (mvAs u (bfR l) i)) 8))
def okE (u u' : LV) (l w : Int32) : Bool :=
  let P := panL u
  let se := mCr P (vS u) (bfR l) (bfC l)
  decide (mLays P l w = panL u') && decide (se = vF u') && decide ((List.range 10).map (fun i => if foB se i = true then mSd P i (bfO w) else gi (vS u) (nI i)) = vS u')
def gdB : Nat → LV → Bool
  | 0, u => okN u && (List.range' 1 4).all (fun l => !hasL u (nI l))
  | f + 1, u => okN u && (List.range' 1 4).all (fun l => !hasL u (nI l) || (okM u (nI l) && (List.range 4).all (fun w => let u' := fC u (nI l) (nI w); okE u u' (nI l) (nI w) && gdB f u')))
set_option maxRecDepth 100000 in
theorem tst1 : (okN L0 && (List.range' 1 4).all (fun l => !hasL L0 (nI l) || (okM L0 (nI l) && (List.range 1).all (fun w => let u' := fC L0 (nI l) (nI w); okE L0 u' (nI l) (nI w))))) = true := by decide +kernel
