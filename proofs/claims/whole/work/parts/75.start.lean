/-! what the Statement gives of the start -/
def flN : List Cond := flatC narrow_1
theorem st_arr {args : Array Value} {s : State} (hn : ∀ w ∈ flN, w.before args s = true) (hts : ∀ w ∈ lw_tbl, w.before args s = true) {A : Nat → Prop} (hA : ∀ a : Nat, a < s.heap.size → ¬ A a) {C n : String} {vs : List Int} (hl : Cond.laysStatic C n "[I" ∈ lw_tbl) (hi : Cond.initialized C ∈ lw_tbl) (ha : Cond.arrayOf (.static C n "[I") .int ∈ flN) (hlen : Cond.eq (.length (.static C n "[I")) (.int (Int32.ofNat vs.length)) ∈ flN) (hlt : vs.length < 2 ^ 31)
    (he : ∀ j : Nat, j < vs.length → Cond.eq (.elem (.static C n "[I") (.int (Int32.ofNat j))) (.int (zI (vs.getD j 0))) ∈ flN) : ∃ t : Nat, va_Z C n "[I" (.ref t) A s s.heap ∧ va_T .int t vs.length (fun k => .int (zI (vs.getD k 0))) A s s.heap := by
  obtain ⟨t, h1, h2⟩ := va_Tof (f := fun k => .int (zI (vs.getD k 0))) (A := A) hlt (hn _ ha) (va_eqt (hn _ hlen)) (fun j hj => va_eqt (hn _ (he j hj))) hA
  exact ⟨t, va_Zref (hts _ hl) (hts _ hi) h1 hA, h2⟩
theorem st_str {args : Array Value} {s : State} (hn : ∀ w ∈ flN, w.before args s = true) (hts : ∀ w ∈ lw_tbl, w.before args s = true) {k : Nat} {tx : String} (h1 : Cond.stringRef RX2 k tx ∈ lw_tbl) (h2 : Cond.exactly (.string RX2 k) "java/lang/String" ∈ flN) : ∃ a : Nat, vk_R RX2 k tx a s := by
  obtain ⟨a, c, cA, kA, q1, -⟩ := Cond.exactly_spec (args := args) (first := s) (o := none) (s := s) (idx := []) (t := .string RX2 k) (cls := "java/lang/String") (hn _ h2)
  exact ⟨a, vk_R.of (A := args) (hts _ h1) q1⟩
theorem st_strs : ∀ q ∈ strT, Cond.stringRef RX2 q.1 q.2 ∈ lw_tbl ∧ Cond.exactly (.string RX2 q.1) "java/lang/String" ∈ flN := by decide +kernel
theorem st_arrs : ∀ q ∈ statT, Cond.laysStatic q.1 q.2.1 "[I" ∈ lw_tbl ∧ Cond.initialized q.1 ∈ lw_tbl ∧ Cond.arrayOf (.static q.1 q.2.1 "[I") .int ∈ flN ∧ Cond.eq (.length (.static q.1 q.2.1 "[I")) (.int (Int32.ofNat q.2.2.length)) ∈ flN ∧ q.2.2.length < 2 ^ 31 ∧ ∀ j : Nat, j < q.2.2.length → Cond.eq (.elem (.static q.1 q.2.1 "[I") (.int (Int32.ofNat j))) (.int (zI (q.2.2.getD j 0))) ∈ flN := by decide +kernel
