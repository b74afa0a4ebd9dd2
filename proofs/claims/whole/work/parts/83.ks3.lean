/-! the start, as the small machine needs it -/
section KS3
variable {s : State} {b L : Nat} {xs : Nat → Int32}
theorem ls_cls (hts : ∀ w ∈ lw_tbl, w.before #[Value.ref b] s = true) : ∃ D : va_G, ∀ (k : Nat) (q : vw_C), mc_cl[k]? = some q → u_Kn s q.1 q.2.1 q.2.2 (D.1 k) (D.2 k) := by
  have h0 : ∀ k : Nat, ∃ d : ClassId × (Nat → Nat), ∀ q, mc_cl[k]? = some q → u_Kn s q.1 q.2.1 q.2.2 d.1 d.2 := by
    intro k
    cases hq : mc_cl[k]? with
    | none => exact ⟨(0, fun _ => 0), fun q h => by cases h⟩
    | some q =>
      have hm := List.mem_of_getElem? hq
      obtain ⟨c, i, h⟩ := u_known (C := q.1) (T := q.2.1) (N := q.2.2) (n := q.2.2) hts (fun w hw => (mc_cl_ws q hm w hw).1) (hts _ (ls_w4 q hm))
      exact ⟨(c, i), fun q' h' => by cases h'; exact h⟩
  obtain ⟨f, hf⟩ := Classical.axiomOfChoice h0
  exact ⟨(fun k => (f k).1, fun k => (f k).2), fun k q h => hf k q h⟩
theorem ls_arr (hts : ∀ w ∈ lw_tbl, w.before #[Value.ref b] s = true) : ∃ cA : Nat → ClassId, ∀ (k : Nat) (q : ClassId × FieldType), [(cA 0, FieldType.int), (cA 1, .object mc_lay), (cA 2, .array .int)][k]? = some q → ArrOfT s q.1 q.2 ∧ va_RA s q.1 q.2 := by
  obtain ⟨c0, k0, p0, f1, f2, f3⟩ := Cond.arrayClass_spec (hts _ ls_w3.1.1)
  obtain ⟨p1, c1, k1, g1, g2, g3, g4, g5⟩ := Cond.arrayOver_spec (hts _ ls_w3.1.2)
  obtain ⟨p2, c2, k2, h1, h2, h3, h4, h5⟩ := arrayOver_specB (hts _ ls_w3.2)
  refine ⟨fun k => if k = 0 then c0 else if k = 1 then c1 else c2, fun k q hq => ?_⟩
  match k, hq with
  | 0, hq =>
    cases hq
    exact ⟨fun n z => ⟨fun k h => (by cases h), k0, f2, p0, f3⟩, f1⟩
  | 1, hq =>
    cases hq
    exact ⟨fun n z => ⟨fun k h => (by cases h), k1, g3, p1, g4⟩, k1, p1, g3, g4, g1, g5⟩
  | 2, hq =>
    cases hq
    exact ⟨fun n z => ⟨fun k h => (by cases h), k2, h3, p2, h4⟩, h5⟩
  | k + 3, hq => simp at hq
theorem ls_Ks (hts : ∀ w ∈ lw_tbl, w.before #[Value.ref b] s = true) (hX : va_X b L xs s s.heap) (hbl : b < s.heap.size) (hL : L ≤ 2560) (hgv : (Jvm.Cond.and given_1 narrow_1).before #[Value.ref b] s = true) : ∃ ext cA D, ext 0 = some b ∧ mm_Ks s.heap.size ext cA D mc_cl (mc_X ((List.range L).map xs)) mc_sf mc_sts mc_sks mc_nws mc_lay s := by
  have hs : ∀ w ∈ ls_F, w.before #[Value.ref b] s = true := flat_of_before _ hgv
  have hA : ∀ a : Nat, a < s.heap.size → ¬ mm_A s.heap.size a := fun a h z => absurd h (Nat.not_lt.mpr z)
  obtain ⟨K, V, hKV⟩ := ls_str hgv hA
  obtain ⟨D, hD⟩ := ls_cls hts
  obtain ⟨cA, hcA⟩ := ls_arr hts
  obtain ⟨t1, ht1, hT1⟩ := va_Tof (f := fun j => .int (([0, 1, 2, 4, 5, 6, 0, 1, 2, 3] : List Int32).getD j 0)) (N := 10) (by decide) (hs _ ls_mCREASE_START.1) (va_eqt (hs _ ls_mCREASE_START.2)) (fun j hj => va_eqt (hs _ (ls_eCREASE_START j hj))) hA
  obtain ⟨t2, ht2, hT2⟩ := va_Tof (f := fun j => .int (([1, 2, 3, 5, 6, 7, 4, 5, 6, 7] : List Int32).getD j 0)) (N := 10) (by decide) (hs _ ls_mCREASE_END.1) (va_eqt (hs _ ls_mCREASE_END.2)) (fun j hj => va_eqt (hs _ (ls_eCREASE_END j hj))) hA
  obtain ⟨q, hq⟩ : ∃ q : Option Nat, va_Z "jdk/internal/util/Preconditions" "SIOOBE_FORMATTER" "Ljava/util/function/BiFunction;" (va_rf q) (mm_A s.heap.size) s s.heap := by
    rcases va_Zqof (hts _ ls_w1.2.2) (hts _ ls_w2.2) (hs _ ls_mc.2) hA with h | ⟨t, h⟩
    · exact ⟨none, h⟩
    · exact ⟨some t, h⟩
  have hstr : ∀ i, i < 8 → va_O "java/lang/String" (K i) (mm_A s.heap.size) s s.heap ∧ ∀ (k : Nat) (v : Value), ([.retAddr (60 + i), .int 0] : List Value)[k]? = some v → va_OF "java/lang/String" (mc_sf k).1 (mc_sf k).2 (mm_en s.heap.size (lw_ext b t1 t2 q K V) v) (K i) (mm_A s.heap.size) s s.heap := by
    intro i hi
    obtain ⟨_, a2, a3, a4, _⟩ := hKV i hi
    refine ⟨a2, fun k v hv => ?_⟩
    match k, hv with
    | 0, hv =>
      cases hv
      have e : lw_ext b t1 t2 q K V (60 + i) = some (V i) := by
        unfold lw_ext
        rw [if_neg (by omega), if_neg (by omega), if_neg (by omega), if_neg (by omega), if_neg (by omega), if_pos (by omega), show 60 + i - 60 = i by omega]
      show va_OF "java/lang/String" "value" "[B" (va_rf (lw_ext b t1 t2 q K V (60 + i))) (K i) _ s s.heap
      rw [e]
      exact a4
    | 1, hv => cases hv; exact a3
    | k + 2, hv => simp at hv
  refine ⟨lw_ext b t1 t2 q K V, cA, D, rfl, ⟨hD, hcA⟩, fun n ys hn => ?_, fun n fs hn => ?_, fun w hw => ?_, fun w hw => ?_, fun a i C f d h hw => ?_, fun a i y h hw => ?_, hts _ ls_w3.1.2, hts _ ls_w3.2⟩
  · unfold mc_X at hn
    split at hn
    · cases hn; exact ⟨b, rfl, sc_of hX hL (hA b hbl)⟩
    · cases hn; exact ⟨t1, rfl, hT1⟩
    · cases hn; exact ⟨t2, rfl, hT2⟩
    · cases hn
    · cases hn
    · cases hn
    · cases hn
    · cases hn
    · cases hn
    · cases hn
    · cases hn
    · cases hn; exact ⟨V 0, rfl, (hKV 0 (by decide)).2.2.2.2⟩
    · cases hn; exact ⟨V 1, rfl, (hKV 1 (by decide)).2.2.2.2⟩
    · cases hn; exact ⟨V 2, rfl, (hKV 2 (by decide)).2.2.2.2⟩
    · cases hn; exact ⟨V 3, rfl, (hKV 3 (by decide)).2.2.2.2⟩
    · cases hn; exact ⟨V 4, rfl, (hKV 4 (by decide)).2.2.2.2⟩
    · cases hn; exact ⟨V 5, rfl, (hKV 5 (by decide)).2.2.2.2⟩
    · cases hn; exact ⟨V 6, rfl, (hKV 6 (by decide)).2.2.2.2⟩
    · cases hn; exact ⟨V 7, rfl, (hKV 7 (by decide)).2.2.2.2⟩
    · cases hn
  · unfold mc_X at hn
    split at hn
    · cases hn
    · cases hn
    · cases hn
    · cases hn; exact ⟨K 0, rfl, (hstr 0 (by decide)).1, (hstr 0 (by decide)).2⟩
    · cases hn; exact ⟨K 1, rfl, (hstr 1 (by decide)).1, (hstr 1 (by decide)).2⟩
    · cases hn; exact ⟨K 2, rfl, (hstr 2 (by decide)).1, (hstr 2 (by decide)).2⟩
    · cases hn; exact ⟨K 3, rfl, (hstr 3 (by decide)).1, (hstr 3 (by decide)).2⟩
    · cases hn; exact ⟨K 4, rfl, (hstr 4 (by decide)).1, (hstr 4 (by decide)).2⟩
    · cases hn; exact ⟨K 5, rfl, (hstr 5 (by decide)).1, (hstr 5 (by decide)).2⟩
    · cases hn; exact ⟨K 6, rfl, (hstr 6 (by decide)).1, (hstr 6 (by decide)).2⟩
    · cases hn; exact ⟨K 7, rfl, (hstr 7 (by decide)).1, (hstr 7 (by decide)).2⟩
    · cases hn
    · cases hn
    · cases hn
    · cases hn
    · cases hn
    · cases hn
    · cases hn
    · cases hn
    · cases hn
  · simp only [mc_sts, List.mem_cons, List.not_mem_nil, or_false] at hw
    rcases hw with rfl | rfl | rfl | rfl
    · exact va_Zref (hts _ ls_w1.1.1) (hts _ ls_w2.1.1) ht1 hA
    · exact va_Zref (hts _ ls_w1.1.2) (hts _ ls_w2.1.1) ht2 hA
    · exact va_Zof (hts _ ls_w1.2.1) (hts _ ls_w2.1.2) (va_eqt (hs _ ls_mc.1)) hA
    · exact hq
  · have hr := hts _ (ls_w5 w hw)
    simp only [mc_sks, List.mem_cons, List.not_mem_nil, or_false] at hw
    rcases hw with rfl | rfl | rfl | rfl | rfl | rfl | rfl | rfl
    · exact ⟨K 0, rfl, vk_R.of hr (hKV 0 (by decide)).1⟩
    · exact ⟨K 1, rfl, vk_R.of hr (hKV 1 (by decide)).1⟩
    · exact ⟨K 2, rfl, vk_R.of hr (hKV 2 (by decide)).1⟩
    · exact ⟨K 3, rfl, vk_R.of hr (hKV 3 (by decide)).1⟩
    · exact ⟨K 4, rfl, vk_R.of hr (hKV 4 (by decide)).1⟩
    · exact ⟨K 5, rfl, vk_R.of hr (hKV 5 (by decide)).1⟩
    · exact ⟨K 6, rfl, vk_R.of hr (hKV 6 (by decide)).1⟩
    · exact ⟨K 7, rfl, vk_R.of hr (hKV 7 (by decide)).1⟩
  · exact va_Nw.of rfl (hts _ (List.mem_filter.mp hw).1)
  · exact va_Nw.of rfl (hts _ (List.mem_filter.mp hw).1)
end KS3
