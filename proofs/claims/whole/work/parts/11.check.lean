/-! the tables' entries checked by a program, and what that gives -/
def mc_tb : List Cond := lw_tbl.filter goodWord
def mk_w (j : Nat) (w : Cond) : Bool := decide (lw_tbl[j]? = some w) && goodWord w
theorem mk_w_in {j : Nat} {w : Cond} (h : mk_w j w = true) : w ∈ mc_tb := by
  unfold mk_w at h
  rw [Bool.and_eq_true, decide_eq_true_eq] at h
  exact List.mem_filter.mpr ⟨List.mem_of_getElem? h.1, h.2⟩
def mc_isN (w : Cond) : Bool := match w with
  | .fieldLinkNest .. => true
  | .methodLinkNest .. => true
  | _ => false
def mc_nws : List Cond := lw_tbl.filter mc_isN
def mk_n (j : Nat) (w : Cond) : Bool := decide (lw_tbl[j]? = some w) && mc_isN w
theorem mk_n_in {j : Nat} {w : Cond} (h : mk_n j w = true) : w ∈ mc_nws := by
  unfold mk_n at h
  rw [Bool.and_eq_true, decide_eq_true_eq] at h
  exact List.mem_filter.mpr ⟨List.mem_of_getElem? h.1, h.2⟩
def mk_p (p : List Nat) (i : Nat) : Nat := p.getD i 0
def mk_host : String := "SmallerInTheShop"
/-- a field's link, plain or of a nest mate -/
def mk_f (own : String) (idx : Nat) (p : List Nat) (C f d : String) : Bool := if mk_p p 1 = 0 then mk_w (mk_p p 0) (.fieldLink own idx C f d) else mk_n (mk_p p 0) (.fieldLinkNest own idx C f d mk_host)
theorem mk_f_in {own : String} {idx : Nat} {p : List Nat} {C f d : String} (h : mk_f own idx p C f d = true) : Cond.fieldLink own idx C f d ∈ mc_tb ∨ ∃ host : String, Cond.fieldLinkNest own idx C f d host ∈ mc_nws := by
  unfold mk_f at h
  split at h
  · exact Or.inl (mk_w_in h)
  · exact Or.inr ⟨_, mk_n_in h⟩
def mk_m (own : String) (idx : Nat) (p : List Nat) (y : MethodName) : Bool := if mk_p p 1 = 0 then mk_w (mk_p p 0) (.methodLink own idx y) else mk_n (mk_p p 0) (.methodLinkNest own idx y mk_host)
theorem mk_m_in {own : String} {idx : Nat} {p : List Nat} {y : MethodName} (h : mk_m own idx p y = true) : Cond.methodLink own idx y ∈ mc_tb ∨ ∃ host : String, Cond.methodLinkNest own idx y host ∈ mc_nws := by
  unfold mk_m at h
  split at h
  · exact Or.inl (mk_w_in h)
  · exact Or.inr ⟨_, mk_n_in h⟩
def mk_I (own nm : String) (cc : ByteArray) (pc : Nat) (i : mm_I) : Bool := decide (decode cc pc = .ok (i.1, i.2.1)) && match i with
  | (.ldc idx, n, _, _, v, p) => n == 2 && (match v with
    | .int x => mk_w (mk_p p 0) (.constant own idx x)
    | .retAddr k => mc_sks.any (fun w => w.1 == own && w.2.1 == idx && w.2.2.2 == k)
    | _ => false)
  | (.ldc_w idx, n, _, _, v, p) => n == 3 && (match v with | .int x => mk_w (mk_p p 0) (.constant own idx x) | _ => false)
  | (.ldc2_w idx, n, _, _, v, p) => n == 3 && (match v with | .long x => mk_w (mk_p p 0) (.constantLong own idx x) | _ => false)
  | (.getstatic idx, n, _, _, v, p) => n == 3 && (match mc_sts[mk_p p 2]? with | some (C, f, d, v1) => decide (v1 = v) && mk_f own idx p C f d | none => false)
  | (.goto off, n, a, _) => n == 3 && decide ((pc : Int) + off = (a : Int))
  | (.ifCond _ off, n, a, _) => n == 3 && decide ((pc : Int) + off = (a : Int))
  | (.if_icmp _ off, n, a, _) => n == 3 && decide ((pc : Int) + off = (a : Int))
  | (.tableswitch d _ _ os, _) => decide (0 ≤ (pc : Int) + d) && os.toList.all (fun o => decide (0 ≤ (pc : Int) + o))
  | (.lookupswitch d ps, _) => decide (0 ≤ (pc : Int) + d) && ps.toList.all (fun o => decide (0 ≤ (pc : Int) + o.2)) && (ps.toList.zip (ps.toList.drop 1)).all (fun (a, next) => a.1 < next.1)
  | (.getfield idx, n, a, b, _, p) => n == 3 && (if a = 99 then mk_w (mk_p p 0) (.fieldLink own idx "java/lang/String" (mc_sf b).1 (mc_sf b).2) else (match mc_cl[a]? with | some q => decide (b < q.2.2) && mk_f own idx p (q.2.1 b).1 (q.2.1 b).2.1 (q.2.1 b).2.2.1 | none => false))
  | (.putfield idx, n, a, b, _, p) => n == 3 && (match mc_cl[a]? with | some q => decide (b < q.2.2) && (if (q.2.1 b).2.2.2 = false then mk_f own idx p (q.2.1 b).1 (q.2.1 b).2.1 (q.2.1 b).2.2.1 else mk_w (mk_p p 0) (.fieldLink own idx (q.2.1 b).1 (q.2.1 b).2.1 (q.2.1 b).2.2.1) && decide (nm = "<init>") && decide ((q.2.1 b).1 = own)) | none => false)
  | (ins, n, _) => n == mm_len ins
theorem mk_off {ps : List (Int × Int)} {d x pc : Int} (h0 : 0 ≤ pc + d) (h : ps.all (fun o => decide (0 ≤ pc + o.2)) = true) : 0 ≤ pc + Op.lookupswitch.offset ps d x := by
  induction ps with
  | nil => simpa [Op.lookupswitch.offset] using h0
  | cons q ps ih =>
    simp only [List.all_cons, Bool.and_eq_true, decide_eq_true_eq] at h
    have h2 := ih h.2
    obtain ⟨a, b⟩ := q
    simp only [Op.lookupswitch.offset] at h2 ⊢
    split <;> simp_all
set_option maxHeartbeats 4000000 in
theorem mk_I_ok {own nm : String} {cc : ByteArray} {pc : Nat} {i : mm_I} (h : mk_I own nm cc pc i = true) : mm_okI mc_cl mc_tb mc_sf mc_sts mc_sks mc_nws own nm cc pc i := by
  obtain ⟨ins, n, a, b, v, p⟩ := i
  unfold mk_I at h
  rw [Bool.and_eq_true, decide_eq_true_eq] at h
  obtain ⟨hd, h⟩ := h
  refine ⟨hd, ?_⟩
  cases ins with
  | ldc idx =>
    simp only [Bool.and_eq_true, beq_iff_eq] at h
    obtain ⟨h1, h2⟩ := h
    refine ⟨h1, ?_⟩
    split at h2
    · exact Or.inl ⟨_, rfl, mk_w_in h2⟩
    · rename_i k
      right
      obtain ⟨w, hw, h3⟩ := List.any_eq_true.mp h2
      simp only [Bool.and_eq_true, beq_iff_eq] at h3
      obtain ⟨w1, w2, w3, w4⟩ := w
      obtain ⟨⟨rfl, rfl⟩, rfl⟩ := h3
      exact ⟨w3, _, rfl, hw⟩
    · cases h2
  | ldc_w idx =>
    simp only [Bool.and_eq_true, beq_iff_eq] at h
    obtain ⟨h1, h2⟩ := h
    refine ⟨h1, ?_⟩
    split at h2
    · exact ⟨_, rfl, mk_w_in h2⟩
    · cases h2
  | ldc2_w idx =>
    simp only [Bool.and_eq_true, beq_iff_eq] at h
    obtain ⟨h1, h2⟩ := h
    refine ⟨h1, ?_⟩
    split at h2
    · exact ⟨_, rfl, mk_w_in h2⟩
    · cases h2
  | getstatic idx =>
    simp only [Bool.and_eq_true, beq_iff_eq] at h
    obtain ⟨h1, h2⟩ := h
    refine ⟨h1, ?_⟩
    split at h2
    · rename_i C f d v1 hs
      simp only [Bool.and_eq_true, decide_eq_true_eq] at h2
      obtain ⟨rfl, h3⟩ := h2
      exact ⟨C, f, d, List.mem_of_getElem? hs, mk_f_in h3⟩
    · cases h2
  | goto off =>
    simp only [Bool.and_eq_true, beq_iff_eq, decide_eq_true_eq] at h
    exact h
  | ifCond cnd off =>
    simp only [Bool.and_eq_true, beq_iff_eq, decide_eq_true_eq] at h
    exact h
  | if_icmp cnd off =>
    simp only [Bool.and_eq_true, beq_iff_eq, decide_eq_true_eq] at h
    exact h
  | tableswitch d lo hi os =>
    simp only [Bool.and_eq_true, decide_eq_true_eq, List.all_eq_true] at h
    exact h
  | lookupswitch d ps =>
    rw [Bool.and_eq_true, Bool.and_eq_true, decide_eq_true_eq] at h
    exact ⟨fun x => mk_off h.1.1 h.1.2, h.2⟩
  | getfield idx =>
    simp only [Bool.and_eq_true, beq_iff_eq] at h
    obtain ⟨h1, h2⟩ := h
    refine ⟨h1, ?_⟩
    split at h2
    · rename_i h99
      exact Or.inl ⟨h99, by rw [h99]; rfl, mk_w_in h2⟩
    · rename_i h99
      split at h2
      · rename_i q hq
        simp only [Bool.and_eq_true, decide_eq_true_eq] at h2
        exact Or.inr ⟨q, hq, h99, h2.1, mk_f_in h2.2⟩
      · cases h2
  | putfield idx =>
    simp only [Bool.and_eq_true, beq_iff_eq] at h
    obtain ⟨h1, h2⟩ := h
    refine ⟨h1, ?_⟩
    split at h2
    · rename_i q hq
      simp only [Bool.and_eq_true, decide_eq_true_eq] at h2
      obtain ⟨h3, h4⟩ := h2
      refine ⟨q, hq, h3, ?_⟩
      split at h4
      · rename_i hf
        exact Or.inl ⟨hf, mk_f_in h4⟩
      · rename_i hf
        simp only [Bool.and_eq_true, decide_eq_true_eq] at h4
        exact Or.inr ⟨by simpa using hf, mk_w_in h4.1.1, h4.1.2, h4.2⟩
    · cases h2
  | _ => exact (beq_iff_eq.mp h)
def mk_par (y : MethodName) (n : Nat) : Bool := decide ((parseMethodDescriptor y.desc).map (fun d => d.parameters.length) = some n)
def mk_y (y : MethodName) : Bool := decide (y.cls ≠ "java/lang/invoke/MethodHandle") && decide (y.cls ≠ "java/lang/invoke/VarHandle")
def mk_J (own : String) (i : mm_I) : Bool := match i with
  | (.new idx, n, a, _, _, p) => n == 3 && (match mc_cl[a]? with | some q => mk_w (mk_p p 0) (.classLink own idx q.1) && mk_w (mk_p p 1) (.instantiable q.1 q.2.2) && mk_w (mk_p p 2) (.initialized q.1) && decide ((mc_nf a).length = q.2.2) && (List.range q.2.2).all (fun j => decide ((mc_nf a)[j]? = some (defaultValue (mc_fty a j)))) | none => false)
  | (.newarray _, _, _, _, _, p) => mk_w (mk_p p 0) (.arrayClass .int)
  | (.anewarray idx, _, _, _, _, p) => mk_w (mk_p p 0) (.classLink own idx mc_lay)
  | (.multianewarray idx _, _, _, _, _, p) => mk_w (mk_p p 0) (.classLink own idx ("[" ++ (FieldType.array .int).toString)) && mk_w (mk_p p 2) (.arrayClass .int)
  | (.invokevirtual idx, n, k, na, _, p) => n == 3 && (match mc_P k with
    | some (y, _, _, _, ci, _) => mk_w (mk_p p 0) (.methodLink own idx y) && mk_w (mk_p p 2) (.instanceMethod y) && mk_w (mk_p p 4) (.selects y.cls y y) && mk_w (mk_p p 3) (.initialized y.cls) && mk_y y && decide (0 < na) && mk_par y (na - 1) && (if ci = 99 then decide (y.cls = "java/lang/String") else (match mc_cl[ci]? with | some q => decide (q.1 = y.cls) | none => false))
    | none => false)
  | (.invokespecial idx, n, k, na, _, p) => n == 3 && (if k = 999 then mk_w (mk_p p 0) (.methodLink own idx Lib.objectInit) && mk_w (mk_p p 1) (.instanceMethod Lib.objectInit) && mk_w (mk_p p 2) (.code Lib.objectInit ⟨#[0xb1]⟩ 1 none) else (match mc_P k with
    | some (y, _, _, rt, _, _) => decide (rt = none) && mk_m own idx p y && mk_w (mk_p p 2) (.instanceMethod y) && mk_w (mk_p p 3) (.initialized y.cls) && decide (y.name = "<init>") && mk_y y && decide (0 < na) && mk_par y (na - 1)
    | none => false))
  | (.invokestatic idx, n, k, na, _, p) => n == 3 && (if k = 997 then mk_w (mk_p p 0) (.methodLink own idx Lib.Math.max.name) && mk_w (mk_p p 2) (.static Lib.Math.max.name) && mk_w (mk_p p 3) (.initialized "java/lang/Math") && mk_w (mk_p p 4) (.code Lib.Math.max.name Lib.Math.max.code 2 (some .int)) else if k = 998 then mk_w (mk_p p 0) (.methodLink own idx Lib.Math.min.name) && mk_w (mk_p p 2) (.static Lib.Math.min.name) && mk_w (mk_p p 3) (.initialized "java/lang/Math") && mk_w (mk_p p 4) (.code Lib.Math.min.name Lib.Math.min.code 2 (some .int)) else match mc_P k with
    | some (y, _, _, _, _, _) => mk_m own idx p y && mk_w (mk_p p 2) (.static y) && mk_w (mk_p p 3) (.initialized y.cls) && mk_y y && mk_par y na
    | none => false)
  | _ => true
theorem mk_y_ok {y : MethodName} (h : mk_y y = true) : y.cls ≠ "java/lang/invoke/MethodHandle" ∧ y.cls ≠ "java/lang/invoke/VarHandle" := by
  unfold mk_y at h
  simpa only [Bool.and_eq_true, decide_eq_true_eq] using h
set_option maxHeartbeats 4000000 in
theorem mk_J_ok {own : String} {i : mm_I} (h : mk_J own i = true) : mm_okJ mc_cl mc_tb mc_nws mc_lay mc_fty mc_nf 1 mc_P own i := by
  obtain ⟨ins, n, a, b, v, p⟩ := i
  unfold mk_J at h
  cases ins with
  | new idx =>
    simp only [Bool.and_eq_true, beq_iff_eq] at h
    obtain ⟨h1, h2⟩ := h
    refine ⟨h1, ?_⟩
    split at h2
    · rename_i q hq
      simp only [Bool.and_eq_true, decide_eq_true_eq, List.all_eq_true, List.mem_range] at h2
      exact ⟨q, hq, mk_w_in h2.1.1.1.1, mk_w_in h2.1.1.1.2, mk_w_in h2.1.1.2, h2.1.2, h2.2⟩
    · cases h2
  | newarray t => exact mk_w_in h
  | anewarray idx => exact mk_w_in h
  | multianewarray idx dd =>
    simp only [Bool.and_eq_true] at h
    exact ⟨mk_w_in h.1, mk_w_in h.2⟩
  | aastore => exact ⟨_, rfl, rfl⟩
  | invokevirtual idx =>
    simp only [Bool.and_eq_true, beq_iff_eq] at h
    obtain ⟨h1, h2⟩ := h
    refine ⟨h1, ?_⟩
    split at h2
    · rename_i y b9 mL rt ci co hP
      simp only [Bool.and_eq_true, decide_eq_true_eq] at h2
      obtain ⟨⟨⟨⟨⟨⟨⟨g1, g2⟩, g3⟩, g4⟩, g5⟩, g6⟩, g7⟩, g8⟩ := h2
      refine ⟨y, b9, mL, rt, ci, co, hP, mk_w_in g1, mk_w_in g2, mk_w_in g3, mk_w_in g4, (mk_y_ok g5).1, (mk_y_ok g5).2, g6, of_decide_eq_true g7, ?_⟩
      split at g8
      · rename_i h99
        exact Or.inl ⟨h99, of_decide_eq_true g8⟩
      · rename_i h99
        split at g8
        · rename_i q hq
          exact Or.inr ⟨q, hq, of_decide_eq_true g8, h99⟩
        · cases g8
    · cases h2
  | invokespecial idx =>
    simp only [Bool.and_eq_true, beq_iff_eq] at h
    obtain ⟨h1, h2⟩ := h
    refine ⟨h1, ?_⟩
    split at h2
    · rename_i h999
      simp only [Bool.and_eq_true] at h2
      exact Or.inl ⟨h999, mk_w_in h2.1.1, mk_w_in h2.1.2, mk_w_in h2.2⟩
    · rename_i h999
      split at h2
      · rename_i y b9 mL rt ci co hP
        simp only [Bool.and_eq_true, decide_eq_true_eq] at h2
        obtain ⟨⟨⟨⟨⟨⟨⟨g0, g1⟩, g2⟩, g3⟩, g4⟩, g5⟩, g6⟩, g7⟩ := h2
        subst g0
        exact Or.inr ⟨h999, y, b9, mL, ci, co, hP, mk_m_in g1, mk_w_in g2, mk_w_in g3, g4, (mk_y_ok g5).1, (mk_y_ok g5).2, g6, of_decide_eq_true g7⟩
      · cases h2
  | invokestatic idx =>
    simp only [Bool.and_eq_true, beq_iff_eq] at h
    obtain ⟨h1, h2⟩ := h
    refine ⟨h1, ?_⟩
    split at h2
    · rename_i hk7
      simp only [Bool.and_eq_true] at h2
      exact Or.inl ⟨hk7, mk_w_in h2.1.1.1, mk_w_in h2.1.1.2, mk_w_in h2.1.2, mk_w_in h2.2⟩
    rename_i hk7
    split at h2
    · rename_i hk8
      simp only [Bool.and_eq_true] at h2
      exact Or.inr (Or.inl ⟨hk8, mk_w_in h2.1.1.1, mk_w_in h2.1.1.2, mk_w_in h2.1.2, mk_w_in h2.2⟩)
    rename_i hk8
    split at h2
    · rename_i y b9 mL rt ci co hP
      simp only [Bool.and_eq_true, decide_eq_true_eq] at h2
      obtain ⟨⟨⟨⟨g1, g2⟩, g3⟩, g5⟩, g7⟩ := h2
      refine Or.inr (Or.inr ⟨fun z => z.elim hk7 hk8, ?_⟩)
      exact ⟨y, b9, mL, rt, ci, co, hP, mk_m_in g1, mk_w_in g2, mk_w_in g3, (mk_y_ok g5).1, (mk_y_ok g5).2, of_decide_eq_true g7⟩
    · cases h2
  | _ => trivial
/-- a method's table, entry by entry -/
def mk_T (own nm : String) (cc : ByteArray) (l : List (Nat × mm_I)) : Bool := l.all (fun q => mk_I own nm cc q.1 q.2 && mk_J own q.2)
theorem mk_lookup {l : List (Nat × mm_I)} {pc : Nat} {i : mm_I} (h : l.lookup pc = some i) : (pc, i) ∈ l := by
  induction l with
  | nil => simp at h
  | cons q l ih =>
    obtain ⟨k, v⟩ := q
    rw [List.lookup_cons] at h
    split at h
    · rename_i hk
      have : pc = k := by simpa using hk
      subst this
      cases h
      exact List.mem_cons_self
    · exact List.mem_cons_of_mem _ (ih h)
theorem mk_T_ok {own nm : String} {cc : ByteArray} {l : List (Nat × mm_I)} (h : mk_T own nm cc l = true) : ∀ (pc : Nat) (i : mm_I), mc_co l pc = some i → mm_okI mc_cl mc_tb mc_sf mc_sts mc_sks mc_nws own nm cc pc i ∧ mm_okJ mc_cl mc_tb mc_nws mc_lay mc_fty mc_nf 1 mc_P own i := by
  intro pc i hi
  have h1 := List.all_eq_true.mp h _ (mk_lookup hi)
  rw [Bool.and_eq_true] at h1
  exact ⟨mk_I_ok h1.1, mk_J_ok h1.2⟩
/-- a whole method -/
def mk_Mt (q : mm_Mt) : Prop := plainName q.1.cls = true ∧ q.2.2.1 ≤ 41 ∧ Cond.code q.1 q.2.1 q.2.2.1 q.2.2.2.1 ∈ mc_tb ∧ ∀ (pc : Nat) (i : mm_I), q.2.2.2.2.2 pc = some i → mm_okI mc_cl mc_tb mc_sf mc_sts mc_sks mc_nws q.1.cls q.1.name q.2.1 pc i ∧ mm_okJ mc_cl mc_tb mc_nws mc_lay mc_fty mc_nf 1 mc_P q.1.cls i
theorem mk_Mt_ok {y : MethodName} {b : ByteArray} {mL : Nat} {rt : Option FieldType} {ci j : Nat} {l : List (Nat × mm_I)} (h1 : plainName y.cls = true) (h2 : decide (mL ≤ 41) = true) (h3 : mk_w j (.code y b mL rt) = true) (h4 : mk_T y.cls y.name b l = true) : mk_Mt (y, b, mL, rt, ci, mc_co l) := ⟨h1, of_decide_eq_true h2, mk_w_in h3, mk_T_ok h4⟩
