/-- the casts of the exceptions -/
def CT (U : State) : Prop := (va_Nw (.castable xIA xIA) U ∧ va_Nw (.castable xIS xIS) U ∧ va_Nw (.castable xIO xIO) U) ∧ va_Nc xIA xIS U ∧ va_Nc xIA xIO U ∧ va_Nc xIS xIA U ∧ va_Nc xIS xIO U ∧ va_Nc xIO xIA U ∧ va_Nc xIO xIS U
theorem CT.warm {s U : State} (h : CT s) (hW : s.WarmedH U.vm) : CT U := ⟨⟨va_Nw.warmC hW h.1.1, va_Nw.warmC hW h.1.2.1, va_Nw.warmC hW h.1.2.2⟩, h.2.1.moved hW.alike, h.2.2.1.moved hW.alike, h.2.2.2.1.moved hW.alike, h.2.2.2.2.1.moved hW.alike, h.2.2.2.2.2.1.moved hW.alike, h.2.2.2.2.2.2.moved hW.alike⟩
theorem st_cast : (Cond.castable xIA xIA ∈ lw_tbl ∧ Cond.castable xIS xIS ∈ lw_tbl ∧ Cond.castable xIO xIO ∈ lw_tbl) ∧ Cond.not (.castable xIA xIS) ∈ flN ∧ Cond.not (.castable xIA xIO) ∈ flN ∧ Cond.not (.castable xIS xIA) ∈ flN ∧ Cond.not (.castable xIS xIO) ∈ flN ∧ Cond.not (.castable xIO xIA) ∈ flN ∧ Cond.not (.castable xIO xIS) ∈ flN := by decide +kernel
theorem st_thr : (Cond.laysStatic Bundle.tN "UNASSIGNED_STACK" Bundle.steD ∈ lw_tbl ∧ Cond.laysStatic Bundle.tN "SUPPRESSED_SENTINEL" Bundle.listD ∈ lw_tbl ∧ Cond.initialized Bundle.tN ∈ lw_tbl) ∧ Cond.isRef (.static Bundle.tN "UNASSIGNED_STACK" Bundle.steD) ∈ flN ∧ Cond.isRef (.static Bundle.tN "SUPPRESSED_SENTINEL" Bundle.listD) ∈ flN := by decide +kernel
theorem st_nest : (∀ q ∈ nestM, Cond.methodLinkNest q.1 q.2.1 q.2.2.1 q.2.2.2 ∈ lw_tbl) ∧ ∀ q ∈ nestF, Cond.fieldLinkNest q.1 q.2.1 q.2.2.1 q.2.2.2.1 q.2.2.2.2.1 q.2.2.2.2.2 ∈ lw_tbl := by decide +kernel
theorem st_over : Cond.arrayOver (.array .int) ∈ lw_tbl ∧ Cond.arrayOver (.object RX1) ∈ lw_tbl := by decide +kernel
theorem st_in : (∀ w ∈ u_ws RX2 TX2 8, w ∈ lw_all) ∧ ∀ w ∈ u_ws RX3 TX3 12, w ∈ lw_all := by decide +kernel
theorem st_GK {args : Array Value} {s : State} (hn : ∀ w ∈ flN, w.before args s = true) (hts : ∀ w ∈ lw_tbl, w.before args s = true) : ∃ G : zG, GK G s ∧ OV s ∧ CT s ∧ G.2.2 = s.heap.size := by
  have hta : ∀ w ∈ lw_all, w.before args s = true := fun w h => hts w (lw_all_tbl h)
  obtain ⟨c0, i0, k0⟩ := u_known (T := TX0) (N := 2) hta u_in_X0 (hta _ q_inst_RX0)
  obtain ⟨c1, i1, k1⟩ := u_known (T := TX1) (N := 12) hta u_in_X1 (hta _ q_inst_RX1)
  obtain ⟨c2, i2, k2⟩ := u_known (T := TX2) (N := 8) hta st_in.1 (hta _ q_inst_RX2)
  obtain ⟨c3, i3, k3⟩ := u_known (T := TX3) (N := 12) hta st_in.2 (hta _ q_inst_RX3)
  have hov : OV s := ⟨hts _ st_over.1, va_AO.of (hts _ st_over.2)⟩
  obtain ⟨a0, b0, d0, e0, f0, g0⟩ := Cond.arrayClass_spec (hta _ q_arr_int)
  obtain ⟨a3, b3, d3, e3, f3, g3⟩ := Cond.arrayClass_spec (hta _ q_arr_long)
  obtain ⟨d1, a1, b1, e1, f1, g1, h1, j1⟩ := Jvm.Stand.arrayOver_specB hov.1
  obtain ⟨d2, a2, b2, e2, f2, g2, h2, j2⟩ := Cond.arrayOver_spec hov.2
  refine ⟨((fun c => if c = 0 then c0 else if c = 1 then c1 else if c = 2 then c2 else c3, fun c => if c = 0 then i0 else if c = 1 then i1 else if c = 2 then i2 else i3), (fun k => if k = 0 then a0 else if k = 1 then a1 else if k = 2 then a2 else a3), s.heap.size), ?_, hov, ?_, rfl⟩
  · have hA : ∀ a : Nat, a < s.heap.size → ¬ (fun a => s.heap.size ≤ a) a := fun a h q => absurd q (Nat.not_le.mpr h)
    refine ⟨⟨fun c q hq => ?_, fun k q hq => ?_⟩, Nat.le_refl _, fun q hq => va_Nw.of rfl (hts _ (st_nest.1 q hq)), fun q hq => va_Nw.of rfl (hts _ (st_nest.2 q hq)), fun q hq => ?_, vx_Zqof (hts _ st_thr.1.1) (hts _ st_thr.1.2.2) (hn _ st_thr.2.1) hA, vx_Zqof (hts _ st_thr.1.2.1) (hts _ st_thr.1.2.2) (hn _ st_thr.2.2) hA, fun q hq => ?_, fun w hw => va_Nw.of (thrW_k w hw).2 (hts _ (thrW_t w hw))⟩
    · rcases (by have := (List.getElem?_eq_some_iff.mp hq).1; simp only [List.length_cons, List.length_nil] at this; omega : c = 0 ∨ c = 1 ∨ c = 2 ∨ c = 3) with h | h | h | h <;> subst h <;> cases hq
      · exact k0
      · exact k1
      · exact k2
      · exact k3
    · rcases (by have := (List.getElem?_eq_some_iff.mp hq).1; simp only [zT, List.length_cons, List.length_nil] at this; omega : k = 0 ∨ k = 1 ∨ k = 2 ∨ k = 3) with h | h | h | h <;> subst h <;> cases hq
      · exact ⟨fun n z => ⟨fun k h => (by cases h), b0, f0, d0, g0⟩, e0⟩
      · exact ⟨fun n z => ⟨fun k h => (by cases h), b1, g1, d1, h1⟩, j1⟩
      · exact ⟨fun n z => ⟨fun k h => (by cases h), b2, g2, d2, h2⟩, b2, d2, g2, h2, e2, j2⟩
      · exact ⟨fun n z => ⟨fun k h => (by cases h), b3, f3, d3, g3⟩, e3⟩
    · obtain ⟨q1, q2, q3, q4, q5, q6⟩ := st_arrs q hq
      exact st_arr hn hts hA q1 q2 q3 q4 q5 q6
    · exact st_str hn hts (st_strs q hq).1 (st_strs q hq).2
  · obtain ⟨⟨q1, q2, q3⟩, q4, q5, q6, q7, q8, q9⟩ := st_cast
    exact ⟨⟨va_Nw.of rfl (hts _ q1), va_Nw.of rfl (hts _ q2), va_Nw.of rfl (hts _ q3)⟩, va_Nc.of (hn _ q4), va_Nc.of (hn _ q5), va_Nc.of (hn _ q6), va_Nc.of (hn _ q7), va_Nc.of (hn _ q8), va_Nc.of (hn _ q9)⟩
