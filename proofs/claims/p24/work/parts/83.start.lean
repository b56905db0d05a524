/-! what the Statement gives of the start -/
def flN : List Cond := flatC narrow_1
theorem st_arr {args : Array Value} {s : State} (hn : ∀ w ∈ flN, w.before args s = true) (hts : ∀ w ∈ lw_tbl, w.before args s = true) {A : Nat → Prop} (hA : ∀ a : Nat, a < s.heap.size → ¬ A a) {C n : String} {vs : List Int} (hl : Cond.laysStatic C n "[I" ∈ lw_tbl) (hi : Cond.initialized C ∈ lw_tbl) (ha : Cond.arrayOf (.static C n "[I") .int ∈ flN) (hlen : Cond.eq (.length (.static C n "[I")) (.int (Int32.ofNat vs.length)) ∈ flN) (hlt : vs.length < 2 ^ 31)
    (he : ∀ j : Nat, j < vs.length → Cond.eq (.elem (.static C n "[I") (.int (Int32.ofNat j))) (.int (zI (vs.getD j 0))) ∈ flN) : ∃ t : Nat, va_Z C n "[I" (.ref t) A s s.heap ∧ va_T .int t vs.length (fun k => .int (zI (vs.getD k 0))) A s s.heap := by
  obtain ⟨t, h1, h2⟩ := va_Tof (f := fun k => .int (zI (vs.getD k 0))) (A := A) hlt (hn _ ha) (va_eqt (hn _ hlen)) (fun j hj => va_eqt (hn _ (he j hj))) hA
  exact ⟨t, va_Zref (hts _ hl) (hts _ hi) h1 hA, h2⟩
theorem st_str {args : Array Value} {s : State} (hn : ∀ w ∈ flN, w.before args s = true) (hts : ∀ w ∈ lw_tbl, w.before args s = true) {k : Nat} {tx : String} (h1 : Cond.stringRef RX2 k tx ∈ lw_tbl) (h2 : Cond.exactly (.string RX2 k) "java/lang/String" ∈ flN) : ∃ a : Nat, vk_R RX2 k tx a s := by
  obtain ⟨a, c, cA, kA, q1, -⟩ := Cond.exactly_spec (args := args) (first := s) (o := none) (s := s) (idx := []) (t := .string RX2 k) (cls := "java/lang/String") (hn _ h2)
  exact ⟨a, vk_R.of (A := args) (hts _ h1) q1⟩
theorem st_strs : ∀ q ∈ strT, Cond.stringRef RX2 q.1 q.2 ∈ lw_tbl ∧ Cond.exactly (.string RX2 q.1) "java/lang/String" ∈ flN := by decide +kernel
theorem st_arrs : ∀ q ∈ statT, Cond.laysStatic q.1 q.2.1 "[I" ∈ lw_tbl ∧ Cond.initialized q.1 ∈ lw_tbl ∧ Cond.arrayOf (.static q.1 q.2.1 "[I") .int ∈ flN ∧ Cond.eq (.length (.static q.1 q.2.1 "[I")) (.int (Int32.ofNat q.2.2.length)) ∈ flN ∧ q.2.2.length < 2 ^ 31 ∧ ∀ j : Nat, j < q.2.2.length → Cond.eq (.elem (.static q.1 q.2.1 "[I") (.int (Int32.ofNat j))) (.int (zI (q.2.2.getD j 0))) ∈ flN := by decide +kernel
theorem st_thr : (Cond.laysStatic Bundle.tN "UNASSIGNED_STACK" Bundle.steD ∈ lw_tbl ∧ Cond.laysStatic Bundle.tN "SUPPRESSED_SENTINEL" Bundle.listD ∈ lw_tbl ∧ Cond.initialized Bundle.tN ∈ lw_tbl) ∧ Cond.isRef (.static Bundle.tN "UNASSIGNED_STACK" Bundle.steD) ∈ flN ∧ Cond.isRef (.static Bundle.tN "SUPPRESSED_SENTINEL" Bundle.listD) ∈ flN := by decide +kernel
theorem st_nest : (∀ q ∈ nestM, Cond.methodLinkNest q.1 q.2.1 q.2.2.1 q.2.2.2 ∈ lw_tbl) ∧ ∀ q ∈ nestF, Cond.fieldLinkNest q.1 q.2.1 q.2.2.1 q.2.2.2.1 q.2.2.2.2.1 q.2.2.2.2.2 ∈ lw_tbl := by decide +kernel
theorem st_over : Cond.arrayOver (.array .int) ∈ lw_tbl ∧ Cond.arrayOver (.array (.array .int)) ∈ lw_tbl ∧ Cond.arrayOver (.object RX1) ∈ lw_tbl := by decide +kernel
/-- the text of keySign -/
abbrev tmH : Term := .string RX3 57
abbrev bytH : List Int32 := [51, 48, 52, 49, 53, 50, 54]
theorem st_text : Cond.stringRef RX3 57 "3041526" ∈ lw_tbl ∧ Cond.exactly tmH "java/lang/String" ∈ flN ∧ Cond.eq (.field tmH "java/lang/String" "coder" "B") (.int 0) ∈ flN ∧ Cond.arrayOf (.field tmH "java/lang/String" "value" "[B") .byte ∈ flN ∧ Cond.eq (.length (.field tmH "java/lang/String" "value" "[B")) (.int (Int32.ofNat 7)) ∈ flN ∧ ∀ j : Nat, j < 7 → Cond.eq (.elem (.field tmH "java/lang/String" "value" "[B") (.int (Int32.ofNat j))) (.int (bytH.getD j 0)) ∈ flN := by decide +kernel
theorem st_comp : Cond.laysStatic "java/lang/String" "COMPACT_STRINGS" "Z" ∈ lw_tbl ∧ Cond.initialized "java/lang/String" ∈ lw_tbl ∧ Cond.eq (.static "java/lang/String" "COMPACT_STRINGS" "Z") (.int 1) ∈ flN := by decide +kernel
theorem st_tx {args : Array Value} {s : State} (hn : ∀ w ∈ flN, w.before args s = true) (hts : ∀ w ∈ lw_tbl, w.before args s = true) {A : Nat → Prop} (hA : ∀ a : Nat, a < s.heap.size → ¬ A a) : ∃ kA vA : Nat, vk_S 1 [7] [bytH] (fun _ => kA) (fun _ => vA) A s s.heap ∧ vk_R RX3 57 "3041526" kA s := by
  obtain ⟨t1, t2, t3, t4, t5, t6⟩ := st_text
  have i0 : ∀ i : Nat, i < 1 → i = 0 := fun i hi => by omega
  obtain ⟨adK, adV, h1, h2⟩ := vk_Sof (args := args) (s := s) (N := 1) (tm := fun _ => tmH) (len := [7]) (byt := [bytH]) (A := A) (fun i hi => by rw [i0 i hi]; decide) (fun i _ => hn _ t2) (fun i _ => hn _ t3) (fun i _ => hn _ t4) (fun i hi => by rw [i0 i hi]; exact hn _ t5) (fun i hi j hj => by rw [i0 i hi] at hj ⊢; exact hn _ (t6 j hj)) (fun i j hi hj hne => absurd ((i0 i hi).trans (i0 j hj).symm) hne) hA
  refine ⟨adK 0, adV 0, ⟨fun i hi => ?_, fun i j hi hj _ => (i0 i hi).trans (i0 j hj).symm⟩, vk_R.of (A := args) (hts _ t1) (h2 0 (by decide))⟩
  have q := h1.1 0 (by decide)
  rw [i0 i hi]
  exact q
theorem st_GK {args : Array Value} {s : State} (hn : ∀ w ∈ flN, w.before args s = true) (hts : ∀ w ∈ lw_tbl, w.before args s = true) {b L : Nat} {xs : Nat → Int32} (hX : va_X b L xs s s.heap) (hbl : b < s.heap.size) (hL : L ≤ 260) : ∃ G : zG, GK G s ∧ G.2.2 = s.heap.size ∧ G.2.1 10 = b := by
  have hta : ∀ w ∈ lw_all, w.before args s = true := fun w h => hts w (lw_all_tbl h)
  obtain ⟨c0, i0, k0⟩ := u_known (T := TX0) (N := 2) hta u_in_X0 (hta _ q_inst_RX0)
  obtain ⟨c1, i1, k1⟩ := u_known (T := TX1) (N := 12) hta u_in_X1 (hta _ q_inst_RX1)
  obtain ⟨c2, i2, k2⟩ := u_known (T := TX2) (N := 8) hta u_in_X2 (hta _ q_inst_RX2)
  obtain ⟨c3, i3, k3⟩ := u_known (T := TX3) (N := 4) hta u_in_X3 (hta _ q_inst_RX3)
  have ho1 : va_Nw (.arrayOver (.array .int)) s := hts _ st_over.1
  have ho2 : va_Nw (.arrayOver (.array (.array .int))) s := hts _ st_over.2.1
  have ho3 : va_AO RX1 s := va_AO.of (hts _ st_over.2.2)
  obtain ⟨a0, b0, d0, e0, f0, g0⟩ := Cond.arrayClass_spec (hta _ q_arr_int)
  obtain ⟨d1, a1, b1, e1, f1, g1, h1, j1⟩ := Jvm.Stand.arrayOver_specB ho1
  obtain ⟨d3, a3, b3, e3, f3, g3, h3, j3⟩ := Jvm.Stand.arrayOver_specB ho2
  obtain ⟨d2, a2, b2, e2, f2, g2, h2, j2⟩ := Cond.arrayOver_spec ho3
  have hA : ∀ a : Nat, a < s.heap.size → ¬ (fun a => s.heap.size ≤ a) a := fun a h q => absurd q (Nat.not_le.mpr h)
  obtain ⟨kA, vA, ht1, ht2⟩ := st_tx hn hts hA
  refine ⟨((fun c => if c = 0 then c0 else if c = 1 then c1 else if c = 2 then c2 else c3, fun c => if c = 0 then i0 else if c = 1 then i1 else if c = 2 then i2 else i3), (fun k => if k = 0 then a0 else if k = 1 then a1 else if k = 2 then a2 else if k = 3 then a3 else if k = 10 then b else if k = 11 then L else if k = 12 then kA else vA), s.heap.size), ?_, rfl, rfl⟩
  refine ⟨⟨fun c q hq => ?_, fun k q hq => ?_⟩, Nat.le_refl _, fun q hq => va_Nw.of rfl (hts _ (st_nest.1 q hq)), fun q hq => va_Nw.of rfl (hts _ (st_nest.2 q hq)), fun q hq => ?_, vx_Zqof (hts _ st_thr.1.1) (hts _ st_thr.1.2.2) (hn _ st_thr.2.1) hA, vx_Zqof (hts _ st_thr.1.2.1) (hts _ st_thr.1.2.2) (hn _ st_thr.2.2) hA, fun q hq => ?_, fun w hw => va_Nw.of (thrW_k w hw).2 (hts _ (thrW_t w hw)), ?_⟩
  · rcases (by have := (List.getElem?_eq_some_iff.mp hq).1; simp only [List.length_cons, List.length_nil] at this; omega : c = 0 ∨ c = 1 ∨ c = 2 ∨ c = 3) with h | h | h | h <;> subst h <;> cases hq
    · exact k0
    · exact k1
    · exact k2
    · exact k3
  · rcases (by have := (List.getElem?_eq_some_iff.mp hq).1; simp only [zT, List.length_cons, List.length_nil] at this; omega : k = 0 ∨ k = 1 ∨ k = 2 ∨ k = 3) with h | h | h | h <;> subst h <;> cases hq
    · exact ⟨fun n z => ⟨fun k h => (by cases h), b0, f0, d0, g0⟩, e0⟩
    · exact ⟨fun n z => ⟨fun k h => (by cases h), b1, g1, d1, h1⟩, j1⟩
    · exact ⟨fun n z => ⟨fun k h => (by cases h), b2, g2, d2, h2⟩, b2, d2, g2, h2, e2, j2⟩
    · exact ⟨fun n z => ⟨fun k h => (by cases h), b3, g3, d3, h3⟩, j3⟩
  · obtain ⟨q1, q2, q3, q4, q5, q6⟩ := st_arrs q hq
    exact st_arr hn hts hA q1 q2 q3 q4 q5 q6
  · exact st_str hn hts (st_strs q hq).1 (st_strs q hq).2
  · exact ⟨⟨ho1, ho2, ho3⟩, ⟨hbl, hL, xs, hX⟩, ⟨ht1, ht2⟩, va_Zof (hts _ st_comp.1) (hts _ st_comp.2.1) (va_eqi (hn _ st_comp.2.2)) hA⟩
/-! THE CLAIM OUT OF ONE WALK OF THE LAW'S BODY. Your part is whole_start (and what it stands on); all else here is the same for every law, but numbers. -/
def R_law : String := "ScorePressLaw"
def lw_P (b : Addr) (xs : List Int32) (args : Array Value) (s : State) : Prop := args = #[.ref b] ∧ s.IntsAt b xs ∧ xs.length ≤ 260 ∧ (Jvm.Cond.and given_1 narrow_1).before args s = true
def lw_Q (_ : Array Value) (s : State) (o : Outcome) (t : State) : Prop := o = .returned (some (.int 1)) ∧ Framed s o t [] 600064 7301640
def lw_Z (below : List Frame) (a : Array Value) (s : State) : State → Prop := fun t => ∃ o, t.status = .running ∧ Ended t below o ∧ lw_Q a s o t
/-- the law's own end, with 1 on the stack, nothing written that was there before, its room as the claim has it -/
theorem lw_ret {p : Program} {l : Launch} {e : Env} {s : State} {m : MethodId} {below : List Frame} {meth : Method} {c : Code} {b : Nat} (hx : p.tables.exec = Jvm.exec) (hb : c.code = code) (hr : meth.sig.returnType = ret) (hlocks : meth.locks = false) {pc : Nat} {H : Heap} {ls : Array Slot} (hdg : decode code pc = .ok (.ireturn, 1)) : W p l e room_1 s m #[Value.ref b] below meth c H [] 600064 7301640 (lw_Z below #[Value.ref b] s) (F0 m pc ls [.int 1]) := by
  intro T hT X
  obtain ⟨fs, hret, hrun, hended, hW, hframe⟩ := X.leave (v := some (.int 1)) (hlocks := hlocks) (fun h => by rw [hr] at h; cases h)
  have hmeth' : T.vm.method? m = some meth := X.method'
  refine ⟨T.setFrames fs, ?_, .returned (some (.int 1)), hrun, hended, rfl, ⟨_, rfl⟩, hW, hframe⟩
  jvm_step X.here [X.here.top, hx, hb, hdg, hmeth', hr, ret, narrow_b1]
  (try refine ⟨rfl, ?_⟩); (try refine ⟨rfl, ?_⟩)
  first | (intro acts; rw [hret _ acts rfl rfl rfl]) | rw [hret _ _ rfl rfl rfl]
  exact Steps.refl _
/-- what holds at the law's entry: the machine, the code, the tables' words (any of lw_tbl by 'hts w (by decide +kernel)'), the script of L ints xs at the cell b, what the Statement gives of the start (any of its parts by flat_of_before) -/
def lw_At (p : Program) (s : State) (m : MethodId) (meth : Method) (c : Code) (b L : Nat) (xs : Nat → Int32) : Prop :=
  p.tables.exec = Jvm.exec ∧ c.code = code ∧ meth.sig.returnType = ret ∧ c.maxLocals = 19 ∧ s.vm.findClass R_law = some m.cls ∧ (∀ w ∈ lw_tbl, w.before #[Value.ref b] s = true) ∧ va_X b L xs s s.heap ∧ b < s.heap.size ∧ meth.locks = false ∧ (Jvm.Cond.and given_1 narrow_1).before #[Value.ref b] s = true
set_option maxHeartbeats 4000000 in
/-- YOUR PART: from the entry, for every script of at most 260 ints, the law comes to its end with true ('hflags': the launch's flags, for a law that throws: no stack traces) -/
theorem whole_start {p : Program} {e : Env} {s : State} {m : MethodId} {below : List Frame} {meth : Method} {c : Code} (l : Launch) (hflags : l.flags = flags0) {b L : Nat} {xs : Nat → Int32} (hL : L ≤ 260) (C0 : lw_At p s m meth c b L xs) : W p l e room_1 s m #[Value.ref b] below meth c s.heap [] 0 0 (lw_Z below #[Value.ref b] s) (entryFrame m ([Value.ref b] : List Value).toArray 19) := by
  obtain ⟨hx, hb, hret, hml, hown, htl, hX, hbl, hlk, hgv⟩ := C0
  have hts : ∀ w ∈ lw_all, w.before #[Value.ref b] s = true := fun w h => htl w (lw_all_tbl h)
  have hst : l.stackTraces = false := by
    show (!l.flags.contains noTraceFlag) = false
    rw [hflags]
    decide
  have hn : ∀ w ∈ flN, w.before #[Value.ref b] s = true := fun w hw => flat_of_before _ hgv w (List.mem_append_right _ hw)
  obtain ⟨G, hG, hgz, hgb⟩ := st_GK hn htl hX hbl hL
  have hK := hG.1
  have hov : OV s := ⟨hG.2.2.2.2.2.2.2.2.2.1.1, hG.2.2.2.2.2.2.2.2.2.1.2.2⟩
  have hb : c.code = cL_law := hb
  obtain ⟨Z, hZ⟩ : ∃ Z, Z = s.heap.size := ⟨_, rfl⟩
  have hA : ∀ q, AL s q → G.2.2 ≤ q := fun q h => by rw [hgz]; exact h
  have hS : va_S (AL s) s.heap s.heap [] := va_S.rf
  have hl := lv_entry ([Value.ref b] : List Value) (n := 19) (Nat.le_of_ble_eq_true rfl)
  rw [lg_entry_eq]
  generalize ((lg_sl ([Value.ref b] : List Value) ++ List.replicate (19 - (lg_sl ([Value.ref b] : List Value)).length) Slot.unset).toArray) = ls at hl
  have hl : lv_has ls 19 [(0, .ref b)] := hl
  refine z_new (C := RX2) (T := TX2) (N := 8) (ci := 2) (fs := [.null, .null, .null, .int 0, .int 0, .int 0, .int 0, .int 0]) hx hb hts u_in_X2 tyX2 tyX2_ok hown q_cl_RL_30 q_inst_RX2 q_ini_RX2 hK hS rfl (by decide +kernel) (by show 0 + 1 ≤ 600064; decide) (by show 0 + 8 ≤ 7301640; decide) dL_law_0 (fun H1 g1 z1 o1 hS => ?_)
  refine lv_dup hx hb dL_law_3 rfl ?_
  refine k_Wv (c_I (own := RL) (rest := [.ref s.heap.size]) ⟨hx, hb, hml, hown, hts⟩ hG hov hS hA (c_X2_init l G s.heap.size H1.size (by omega)) ⟨q_ml_RL_75, q_im_X2_init, q_ini_RX2, q_code_X2_init⟩ rfl hs_X2_init g1 ⟨Nat.le_of_ble_eq_true rfl, Nat.le_of_ble_eq_true rfl⟩ ⟨(by show 0 + 1 + 93 ≤ 600064; decide), (by show 0 + 8 + 19087 ≤ 7301640; decide)⟩ hl.1 (Nat.le_of_ble_eq_true rfl) dL_law_4) hS (fun q h => h.elim (fun e => (by show s.heap.size ≤ q; omega)) (fun h => (by show s.heap.size ≤ q; omega))) (fun H2 locs2 hq2 hz2 hk2 hS => ?_)
  rw [z1] at hq2
  obtain ⟨hC2, z2⟩ := hq2
  rw [← hZ] at hC2 z2
  have hpg : GI G (adS Z (Z + 1)) 4 4 0 0 n00 gb0 H2 := ⟨_, _, _, _, _, _, _, _, hC2, REL_00 gb0⟩
  refine lv_astore_n (lv' := [(1, .ref s.heap.size), (0, .ref b)]) hx hb dL_law_7 rfl hl (by decide) rfl (fun ls hl => ?_)
  rw [← hZ] at hl
  have hl : lv_has ls 19 [(1, .ref (adS Z (Z + 1) 0)), (0, .ref (G.2.1 10))] := by rw [hgb]; exact hl
  have hlo : ∀ k, k < 94 → Z ≤ adS Z (Z + 1) k := fun k _ => adS_lo (Nat.le_refl Z) (by omega) k
  refine lv_aload_n hx hb dL_law_8 rfl (lv_at hl 0 rfl) ?_
  refine lv_aload_n hx hb dL_law_9 rfl (lv_at hl 1 rfl) ?_
  refine z_bipush hx hb dL_law_10 (by decide) ?_
  refine k_Wa (c_SW (As := [.ref (adS Z (Z + 1) 0), .ref (G.2.1 10), .int (zI 40)]) (rest := []) ⟨hx, hb, hml, hown, hts⟩ hG hS hA (c_L_build l G (adS Z (Z + 1)) H2.size hst (fun k hk => by have := hlo k hk; omega)) ⟨q_ml_RL_76, q_st_L_build, q_ini_RL, q_code_L_build⟩ hs_L_build hpg ⟨Nat.le_of_ble_eq_true rfl, Nat.le_of_ble_eq_true rfl⟩ ⟨(by show 0 + 1 + 93 + 46600 ≤ 600064; decide), (by show 0 + 8 + 19087 + 705000 ≤ 7301640; decide)⟩ rfl hl.1 rfl (Nat.le_of_ble_eq_true rfl) dL_law_12) hS (fun q hq => (by show s.heap.size ≤ q; rw [← hZ]; exact fA_lo hlo (by omega) q hq)) (fun h H3 locs3 hq hz3 hk3 hS => ?_)
  obtain ⟨hge, vs, bt, pt, ky, nv, n, B, hnv, hO, hpg, hRZ⟩ := hq
  have hO : va_at G.1 vwCl _ H3 := hO
  refine lv_astore_n (lv' := [(2, .ref h), (1, .ref (adS Z (Z + 1) 0)), (0, .ref (G.2.1 10))]) hx hb dL_law_15 rfl hl (by decide) rfl (fun ls hl => ?_)
  refine lv_aload_n hx hb dL_law_16 rfl (lv_at hl 0 rfl) ?_
  refine lv_ifnonnull (tgt := 22) hx hb dL_law_17 (by decide) ?_
  refine z_new (C := RX2) (T := TX2) (N := 8) (ci := 2) (fs := [.null, .null, .null, .int 0, .int 0, .int 0, .int 0, .int 0]) hx hb hts u_in_X2 tyX2 tyX2_ok hown q_cl_RL_30 q_inst_RX2 q_ini_RX2 hK hS rfl (by decide +kernel) (by show 0 + 1 + 93 + 46600 + 1 ≤ 600064; decide) (by show 0 + 8 + 19087 + 705000 + 8 ≤ 7301640; decide) dL_law_22 (fun H4 g4 z4 o4 hS => ?_)
  refine lv_dup hx hb dL_law_25 rfl ?_
  refine k_Wv (c_I (own := RL) (rest := [.ref H3.size]) ⟨hx, hb, hml, hown, hts⟩ hG hov hS hA (c_X2_init l G H3.size H4.size (by omega)) ⟨q_ml_RL_75, q_im_X2_init, q_ini_RX2, q_code_X2_init⟩ rfl hs_X2_init g4 ⟨Nat.le_of_ble_eq_true rfl, Nat.le_of_ble_eq_true rfl⟩ ⟨(by show 0 + 1 + 93 + 46600 + 1 + 93 ≤ 600064; decide), (by show 0 + 8 + 19087 + 705000 + 8 + 19087 ≤ 7301640; decide)⟩ hl.1 (Nat.le_of_ble_eq_true rfl) dL_law_26) hS (fun q h => h.elim (fun e => (by show s.heap.size ≤ q; omega)) (fun h => (by show s.heap.size ≤ q; omega))) (fun H5 locs5 hq5 hz5 hk5 hS => ?_)
  rw [z4] at hq5
  obtain ⟨hC5, z5⟩ := hq5
  have hq9 : GI G (adS H3.size (H3.size + 1)) 4 4 0 0 n00 B H5 := ⟨_, _, _, _, _, _, _, _, hC5, REL_00 B⟩
  refine lv_astore_n (lv' := [(3, .ref H3.size), (2, .ref h), (1, .ref (adS Z (Z + 1) 0)), (0, .ref (G.2.1 10))]) hx hb dL_law_29 rfl hl (by decide) rfl (fun ls hl => ?_)
  have hl : lv_has ls 19 [(3, .ref (adS H3.size (H3.size + 1) 0)), (2, .ref h), (1, .ref (adS Z (Z + 1) 0)), (0, .ref (G.2.1 10))] := hl
  have old : ∀ q : Nat, q < H3.size → H5[q]? = H3[q]? := fun q hq => (hk5 q (by omega) (fun z => by rcases z with z | z <;> omega)).trans (o4 q hq)
  have hp5 := hpg.kept (fun k hk => old _ (hpg.lt hk))
  have hO5 := va_at.kept hO (old _ (va_at.lt hO))
  have hlt := va_at.lt hO
  have hup : ∀ k, k < 94 → adS Z (Z + 1) k < Z + 94 := fun k hk => by
    have := PP.lt hC2 hk
    omega
  have X : LX9 p l s m #[Value.ref b] c G (adS Z (Z + 1)) (adS H3.size (H3.size + 1)) h := ⟨⟨hx, hb, hml, hown, hts⟩, hG, hst, hgz, fun k hk => ⟨by rw [← hZ]; exact hlo k hk, by have := hup k hk; omega⟩, fun k hk => Nat.lt_of_lt_of_le hlt (adS_lo (Nat.le_refl _) (by omega) k)⟩
  refine W.widen (k := 46800) (n := 744000) (by decide) (by decide) (law_run (CB := 46800) (SB := 744000) X hpg.pure hRZ hnv (by decide) (by decide) (fun H locs hS9 ls => ?_) ⟨hp5, hq9, hO5⟩ hS (lv_sub hl [0, 1, 2] rfl))
  refine va_forget (fun q hq => hS9.2.2 q hq) ?_
  refine W.widen (k := 600064) (n := 7301640) (by decide) (by decide) ?_
  exact lw_ret hx hb hret hlk dL_law_637
set_option maxHeartbeats 4000000 in
theorem lw_walk (l : Launch) (hflags : l.flags = flags0) (b : Addr) (xs : List Int32) : MetFree l x (headSpec (Jvm.Cond.code x code maxLocals ret :: tables_1) room_1) (lw_P b xs) (fun _ _ _ _ _ => True) lw_Q := by
  refine MetFree.of_bodyS (code := code) (maxLocals := maxLocals) (ret := ret) (by decide) ?_ ?_
  · intro args s m h hn
    obtain ⟨meth, c, h1, h2, h3, h4, h5, h6, -, -⟩ := Cond.code_spec hn (atoms_spec (ws := Jvm.Cond.code x code maxLocals ret :: tables_1) h _ List.mem_cons_self)
    exact ⟨meth, c, h1, h2, h3, h4, h5, h6⟩
  · intro p e s m args below meth c s₁ B hml0 hP _
    obtain ⟨rfl, hx, hbd, hgv⟩ := hP
    obtain ⟨scr, harrAt, hlist, hof, hsmall⟩ := hx
    obtain ⟨hcb, hkn, -, -⟩ := State.arrayAt?_spec harrAt
    have hown : s.vm.findClass R_law = some m.cls := findClass_of_methodNamed B.named
    have hts0 : ∀ c ∈ (Jvm.Cond.code x code maxLocals ret :: tables_1), c.before #[Value.ref b] s = true := atoms_spec (ws := Jvm.Cond.code x code maxLocals ret :: tables_1) B.pre
    have hts : ∀ w ∈ lw_tbl, w.before #[Value.ref b] s = true := k2_hts_sels lw_privs (fun w hw => hts0 w (List.mem_cons_of_mem _ hw)) lw_privs_ok
    have hml : c.maxLocals = 19 := B.maxLocals_eq (hts0 _ List.mem_cons_self)
    have X₀ : Stand p l e room_1 s m #[Value.ref b] below meth c s₁ [] 0 0 := Stand.of_body B
    have hh0 : s₁.heap = s.heap := by rw [B.state]; rfl
    have hsz : scr.slots.size = xs.length := by rw [← Array.length_toList, hlist, List.length_map]
    have hval : ∀ j : Nat, j < xs.length → scr.slots[j]? = some (.int (xs.getD j 0)) := fun j hj => by
      rw [← Array.getElem?_toList, hlist]
      simp [hj]
    have hbl : b < s.heap.size := (Array.getElem?_eq_some_iff.mp hcb).1
    have hX : va_X b xs.length (fun j => xs.getD j 0) s s.heap := ⟨scr, hcb, hof, hkn, hsz, hval⟩
    have K : W p l e room_1 s m #[Value.ref b] below meth c s₁.heap [] 0 0 (lw_Z below #[Value.ref b] s) (entryFrame m ([Value.ref b] : List Value).toArray 19) := by
      rw [hh0]
      exact whole_start l hflags hbd ⟨B.exec, B.bytes, B.returns, hml, hown, hts, hX, hbl, B.notSynchronized, hgv⟩
    obtain ⟨t, a1, o, b1, b2, b3⟩ := K s₁ rfl X₀
    exact ⟨t, o, a1, b1, b2, b3⟩
theorem lw_pre_spec {args : Array Value} {s : State} (h : (Jvm.Cond.and given_1 narrow_1).before args s = true) (hr : rest_1_c.before args s = true) : ∃ (b : Addr) (xs : List Int32), lw_P b xs args s := by
  have hs := flat_of_before _ h
  have hq := flat_of_before _ hr
  have hc : (Cond.count 1).before args s = true := hs _ (by decide +kernel)
  have harr : (Cond.arrayOf (.arg 0) .int).before args s = true := hs _ (by decide +kernel)
  have hle : (Cond.le (.length (.arg 0)) (.int 260)).before args s = true := hs _ (by decide +kernel)
  have hlen : (Cond.isInt (.length (.arg 0))).before args s = true := hq _ (by decide +kernel)
  have hall : (Cond.all (.arg 0) (.isInt (.elem (.arg 0) (.index 0)))).before args s = true := hq _ (by decide +kernel)
  obtain ⟨b, xs, hb, hx⟩ := State.ints_of_pre rfl harr hlen hall
  have hsm : xs.length < 2 ^ 31 := hx.choose_spec.2.2.2
  have hev : (Term.length (.arg 0)).eval args s none [] s = some (.int xs.length.toInt32) := hx.length_eval hb
  have hv := Cond.le_ints hev (show (Term.int 260).eval args s none [] s = some (.int 260) from rfl)
  have hd : xs.length.toInt32 ≤ 260 := by
    simpa [Cond.before, Cond.holds, hv] using hle
  have hN : xs.length ≤ 260 := (Int32.ofNat_le_ofNat hsm (by decide)).mp (show Int32.ofNat xs.length ≤ Int32.ofNat 260 from hd)
  exact ⟨b, xs, Cond.one_arg hc (show args[0]? = some (.ref b) from hb), hx, hN, h⟩
theorem lw_comes (l : Launch) (hflags : l.flags = flags0) : Comes l x (Jvm.Cond.code x code maxLocals ret :: tables_1) room_1 (fun tb e args s => Calls_1 tb e args s ∧ rest_1 tb e args s ∧ Pre_1 tb e args s)
    (fun _ _ args s o t => lw_Q args s o t) := by
  intro p e ha hc hk s m args below hf hfit hheap happ hpre
  obtain ⟨b, xs, hP⟩ := lw_pre_spec hpre.2.2 hpre.2.1
  obtain ⟨k, o, h1, h2, h3, hQ⟩ := lw_walk l hflags b xs p e ha hc hk s m args below hf ((Spec.applies_iff_loose hf).mp happ).1 hP trivial
  exact ⟨k, o, h1, h2, h3, hQ⟩
theorem lw_frame {s t : State} {o : Outcome} {args : Array Value} (h : Framed s o t [] 600064 7301640) :
    Framed s o t (fieldLocs frame_1_writes args s ++ arrayLocs frame_1_arrays args s ++ staticLocs frame_1_statics s) 600064 7301640 := h
theorem lw_limb (L : Cond) (hL : ∀ (args : Array Value) (s t : State), L.after args s (.returned (some (.int 1))) t = true) :
    ArmFor flags0 classFile x code maxLocals ret World_1 tables_1 room_1 Calls_1 rest_1 Pre_1
      (fun tb e a s o t => postC L tb e a s o t ∧ Framed s o t (fieldLocs frame_1_writes a s ++ arrayLocs frame_1_arrays a s ++ staticLocs frame_1_statics s) 600064 7301640) := by
  intro l hflags _ _ p e ha hc hk s m args below hf hfit hheap happ hpre
  obtain ⟨k, o, h1, h2, h3, rfl, hF⟩ := lw_comes l hflags p e ha hc hk s m args below hf hfit hheap happ hpre
  exact ⟨k, _, h1, h2, h3, hL args s _, lw_frame hF⟩
theorem i_vc : Claimed_1_1 ∧ Claimed_1_2 := ⟨lw_limb limb_1_1 (fun args s t => by simp [limb_1_1, Cond.after, Cond.holds, Cond.value]), lw_limb limb_1_2 (fun args s t => Cond.after_iff.mpr (by
  first | (rw [show limb_1_2 = Cond.eq .result (.int 1) from rfl, Cond.eq_ints (x := 1) (y := 1) rfl rfl]; simp; done) | (simp [limb_1_2, Cond.value, Term.eval]; done)))⟩

