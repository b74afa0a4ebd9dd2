/-! what lies outside, at the start -/
def lw_ext (b t1 t2 : Nat) (q : Option Nat) (K V : Nat → Nat) (n : Nat) : Option Nat := if n = 0 then some b else if n = 1 then some t1 else if n = 2 then some t2 else if n = 20 then q else if 30 ≤ n ∧ n < 38 then some (K (n - 30)) else if 60 ≤ n ∧ n < 68 then some (V (n - 60)) else none
section KS
variable {s : State} {args : Array Value} {A : Nat → Prop}
def st_at (s : State) (args : Array Value) (A : Nat → Prop) (own : String) (k : Nat) (bs : List Int32) (a v : Nat) : Prop := (Term.string own k).eval args s none [] s = some (.ref a) ∧ va_O "java/lang/String" a A s s.heap ∧ va_OF "java/lang/String" "coder" "B" (.int 0) a A s s.heap ∧ va_OF "java/lang/String" "value" "[B" (.ref v) a A s s.heap ∧ va_T .byte v bs.length (fun j => .int (bs.getD j 0)) A s s.heap
theorem st_of {own : String} {k : Nat} {bs : List Int32} (hl : bs.length < 2 ^ 31) (hex : (Cond.exactly (.string own k) "java/lang/String").before args s = true) (hco : (Cond.eq (.field (.string own k) "java/lang/String" "coder" "B") (.int 0)).before args s = true) (har : (Cond.arrayOf (.field (.string own k) "java/lang/String" "value" "[B") .byte).before args s = true) (hle : (Cond.eq (.length (.field (.string own k) "java/lang/String" "value" "[B")) (.int (Int32.ofNat bs.length))).before args s = true)
    (hel : ∀ j : Nat, j < bs.length → (Cond.eq (.elem (.field (.string own k) "java/lang/String" "value" "[B") (.int (Int32.ofNat j))) (.int (bs.getD j 0))).before args s = true) (hA : ∀ a : Nat, a < s.heap.size → ¬ A a) : ∃ a v, st_at s args A own k bs a v := by
  obtain ⟨adK, adV, h, he⟩ := vk_Sof (N := 1) (tm := fun _ => .string own k) (len := [bs.length]) (byt := [bs]) (A := A) (args := args) (s := s) (fun i hi => by rw [show i = 0 by omega]; exact hl) (fun _ _ => hex) (fun _ _ => hco) (fun _ _ => har) (fun i hi => by rw [show i = 0 by omega]; exact hle) (fun i hi j hj => by rw [show i = 0 by omega] at hj ⊢; exact hel j hj) (fun i j hi hj h => absurd (show i = j by omega) h) hA
  obtain ⟨a1, a2, a3, a4⟩ := h.1 0 (by omega)
  exact ⟨adK 0, adV 0, he 0 (by omega), a1, a2, a3, a4⟩
variable {b L : Nat} {xs : Nat → Int32}
theorem sc_of (hX : va_X b L xs s s.heap) (hL : L ≤ 2560) (hA : ¬ A b) : va_T .int b ((List.range L).map xs).length (fun j => .int (((List.range L).map xs).getD j 0)) A s s.heap := by
  obtain ⟨cell, h1, h2, h3, h4, h5⟩ := hX
  have hl : ((List.range L).map xs).length = L := by simp
  rw [hl]
  refine ⟨cell, h1, h2, h3, by omega, by rw [h4], fun j hj => ?_, hA⟩
  rw [h5 j hj]
  simp [hj]
end KS
