/-! contracts: a reader (the heap stays), a writer (N places and new cells change), and what may throw -/
abbrev rmz (f lo mc ms : Nat) : Room := { frames := f, cells := mc, slots := ms, locals := lo }
/-- what holds at a walk's start -/
def BF (p : Program) (s : State) (m : MethodId) (args : Array Value) (meth : Method) (c : Code) (cc : ByteArray) (n : Nat) (ret : Option FieldType) (own : String) (G : zG) : Prop :=
  p.tables.exec = Jvm.exec ∧ c.code = cc ∧ c.maxLocals = n ∧ meth.sig.returnType = ret ∧ meth.locks = false ∧ s.vm.findClass own = some m.cls ∧ (∀ w ∈ lw_all, w.before args s = true) ∧ GK G s
theorem zm_of {l : Launch} {y : MethodName} {cc : ByteArray} {n f lo mc ms : Nat} {ret : Option FieldType} {G : zG} {av : List Value} {Pic : Heap → Prop} {Qc : Array Value → State → Outcome → State → Prop} {free : Addr → Prop} (hy : plainName y.cls = true) (hlen : (lg_sl av).length ≤ n)
    (body : ∀ (p : Program) (e : Env) (s : State) (m : MethodId) (below : List Frame) (meth : Method) (c : Code) (ls : Array Slot), BF p s m av.toArray meth c cc n ret y.cls G → Pic s.heap → lv_has ls n (lv_args 0 av) → W p l e (rmz f lo mc ms) s m av.toArray below meth c s.heap [] 0 0 (MQ below Qc av.toArray s mc ms free) (F0 m 0 ls [])) :
    Met l y (lw_m y cc n ret) (rmz f lo mc ms) (va_Pc av (fun U => GK G U ∧ Pic U.heap)) Qc mc ms free := by
  refine Met.ofW (cc := cc) (maxL := n) (ret := ret) hy rfl ?_
  intro p e s m args below meth c s₁ B hml hv
  obtain ⟨rfl, hG, hP⟩ := hv
  have hts := atoms_spec (ws := lw_m y cc n ret) B.pre
  have hl := lv_entry av (n := n) hlen
  rw [lg_entry_eq]
  exact body p e s m below meth c _ ⟨B.exec, B.bytes, hml, B.returns, B.notSynchronized, findClass_of_methodNamed B.named, fun w hw => hts w (List.mem_cons_of_mem _ hw), hG⟩ hP hl
theorem zx_of {l : Launch} {y : MethodName} {cc : ByteArray} {n f lo mc ms : Nat} {ret : Option FieldType} {G : zG} {av : List Value} {Pic : Heap → Prop} {Qc : Array Value → State → Outcome → State → Prop} {XC : String → State → State → Prop} {free : Addr → Prop} (hy : plainName y.cls = true) (hlen : (lg_sl av).length ≤ n)
    (body : ∀ (p : Program) (e : Env) (s : State) (m : MethodId) (below : List Frame) (meth : Method) (c : Code) (ls : Array Slot), BF p s m av.toArray meth c cc n ret y.cls G → (∀ (x : ExceptionTableEntry), x ∈ c.exceptionTable.toList → False) → Pic s.heap → lv_has ls n (lv_args 0 av) → W p l e (rmz f lo mc ms) s m av.toArray below meth c s.heap [] 0 0 (vx_MQ below Qc XC av.toArray s mc ms free) (F0 m 0 ls [])) :
    vx_Met l y (lw_m y cc n ret) (rmz f lo mc ms) (va_Pc av (fun U => GK G U ∧ Pic U.heap)) Qc XC mc ms free := by
  refine vx_ofW (cc := cc) (maxL := n) (ret := ret) hy rfl ?_
  intro p e s m args below meth c s₁ B hml hnt hv
  obtain ⟨rfl, hG, hP⟩ := hv
  have hts := atoms_spec (ws := lw_m y cc n ret) B.pre
  have hl := lv_entry av (n := n) hlen
  rw [lg_entry_eq]
  exact body p e s m below meth c _ ⟨B.exec, B.bytes, hml, B.returns, B.notSynchronized, findClass_of_methodNamed B.named, fun w hw => hts w (List.mem_cons_of_mem _ hw), hG⟩ hnt hP hl
def QR (v : Value) : Array Value → State → Outcome → State → Prop := fun _ st o t => o = .returned (some v) ∧ t.heap = st.heap
/-- a reader: answers v, the heap stays -/
def MR (l : Launch) (y : MethodName) (cc : ByteArray) (n : Nat) (ret : Option FieldType) (f lo : Nat) (G : zG) (av : List Value) (Pic : Heap → Prop) (v : Value) : Prop :=
  Met l y (lw_m y cc n ret) (rmz f lo 0 0) (va_Pc av (fun U => GK G U ∧ Pic U.heap)) (QR v) 0 0 (fun _ => False)
def QW (A : Nat → Prop) (Post : Int → Heap → Prop) : Array Value → State → Outcome → State → Prop := fun _ st o t => ∃ r : Int, o = .returned (some (.int (zI r))) ∧ Post r t.heap ∧ va_F A st t
def QL (A : Nat → Prop) (Post : Int64 → Heap → Prop) : Array Value → State → Outcome → State → Prop := fun _ st o t => ∃ r : Int64, o = .returned (some (.long r)) ∧ Post r t.heap ∧ va_F A st t
def QD (A : Nat → Prop) (Post : UInt64 → Heap → Prop) : Array Value → State → Outcome → State → Prop := fun _ st o t => ∃ r : UInt64, o = .returned (some (.double r)) ∧ Post r t.heap ∧ va_F A st t
def QV (A : Nat → Prop) (Post : Heap → Prop) : Array Value → State → Outcome → State → Prop := fun _ st o t => o = .returned none ∧ Post t.heap ∧ va_F A st t
def XQ (A : Nat → Prop) (PX : String → Heap → Prop) : String → State → State → Prop := fun E st t => PX E t.heap ∧ va_F A st t
/-- a writer: Qc is one of QW, QL, QD, QV at the places ad, N of them, and sz the heap's size at the start -/
def MW (l : Launch) (y : MethodName) (cc : ByteArray) (n : Nat) (ret : Option FieldType) (f lo mc ms : Nat) (G : zG) (av : List Value) (A : Nat → Prop) (sz : Nat) (Pic : Heap → Prop) (Qc : Array Value → State → Outcome → State → Prop) : Prop :=
  Met l y (lw_m y cc n ret) (rmz f lo mc ms) (va_Pc av (fun U => GK G U ∧ (U.heap.size = sz ∧ Pic U.heap))) Qc mc ms A
/-- .. that may throw -/
def MX (l : Launch) (y : MethodName) (cc : ByteArray) (n : Nat) (ret : Option FieldType) (f lo mc ms : Nat) (G : zG) (av : List Value) (A : Nat → Prop) (sz : Nat) (Pic : Heap → Prop) (Qc : Array Value → State → Outcome → State → Prop) (PX : String → Heap → Prop) : Prop :=
  vx_Met l y (lw_m y cc n ret) (rmz f lo mc ms) (va_Pc av (fun U => GK G U ∧ (U.heap.size = sz ∧ Pic U.heap))) Qc (XQ A PX) mc ms A
theorem Pc_blind (G : zG) (av : List Value) (Pic : Heap → Prop) : FrameBlind (va_Pc av (fun U => GK G U ∧ Pic U.heap)) := fun a U g mk h => ⟨h.1, GK_blind g mk a h.2.1, h.2.2⟩
theorem good_V {own C : String} {idx n : Nat} {y : MethodName} {cc : ByteArray} {ret : Option FieldType} (h : Cond.methodLink own idx y ∈ lw_all ∧ Cond.instanceMethod y ∈ lw_all ∧ Cond.selects C y y ∈ lw_all ∧ Cond.initialized C ∈ lw_all ∧ Cond.code y cc n ret ∈ lw_all) : GoodIn lw_all (wsV own idx C y (lw_m y cc n ret)) := by
  intro w hw
  unfold wsV at hw
  rcases List.mem_append.mp hw with q | q
  · simp only [List.mem_cons, List.not_mem_nil, or_false] at q
    rcases q with rfl | rfl | rfl | rfl
    · exact ⟨h.1, lw_good h.1⟩
    · exact ⟨h.2.1, lw_good h.2.1⟩
    · exact ⟨h.2.2.1, lw_good h.2.2.1⟩
    · exact ⟨h.2.2.2.1, lw_good h.2.2.2.1⟩
  · exact lw_inm h.2.2.2.2 w q
theorem good_S {own : String} {idx n : Nat} {y : MethodName} {cc : ByteArray} {ret : Option FieldType} (h : Cond.methodLink own idx y ∈ lw_all ∧ Cond.static y ∈ lw_all ∧ Cond.initialized y.cls ∈ lw_all ∧ Cond.code y cc n ret ∈ lw_all) : GoodIn lw_all (va_wsS own idx y (lw_m y cc n ret)) := by
  intro w hw
  unfold va_wsS at hw
  rcases List.mem_append.mp hw with q | q
  · simp only [List.mem_cons, List.not_mem_nil, or_false] at q
    rcases q with rfl | rfl | rfl
    · exact ⟨h.1, lw_good h.1⟩
    · exact ⟨h.2.1, lw_good h.2.1⟩
    · exact ⟨h.2.2.1, lw_good h.2.2.1⟩
  · exact lw_inm h.2.2.2 w q
section ZC
variable {p : Program} {l : Launch} {e : Env} {R : Room} {s : State} {m : MethodId} {args : Array Value} {below : List Frame} {meth : Method} {c : Code} {H : Heap} {locs : List Loc} {cells slots : Nat} {Q : State → Prop}
variable {cc : ByteArray} {pc : Nat} {ls : Array Slot} {rest st0 : List Value} {A A1 : Nat → Prop} {H0 : Heap} {G : zG} {v : Value} {mc ms : Nat} {free : Addr → Prop} {a : Array Value}
/-! the ends -/
theorem e_R {r r' : Int} {ty : FieldType} (hexec : p.tables.exec = Jvm.exec) (hb : c.code = cc) (hr : meth.sig.returnType = some ty) (hlk : meth.locks = false) (hn : narrow ty (.int (zI r')) = .int (zI r')) (hq : r' = r) (hdg : decode cc pc = .ok (.ireturn, 1)) : W p l e R s m args below meth c s.heap [] 0 0 (MQ below (QR (.int (zI r))) args s 0 0 (fun _ => False)) (F0 m pc ls [.int (zI r')]) := by
  subst hq
  exact W.zret hexec hb hr hn (fun t ht hW => ⟨rfl, ht⟩) (fun q h => nomatch h) hdg hlk
theorem n_i (x : Int) : narrow .int (.int (zI x)) = .int (zI x) := rfl
theorem n_z {x : Int} (h : x = 0 ∨ x = 1) : narrow .boolean (.int (zI x)) = .int (zI x) := by rcases h with rfl | rfl <;> rfl
theorem e_Wi {r : Int} {Post : Int → Heap → Prop} {ty : FieldType} (hexec : p.tables.exec = Jvm.exec) (hb : c.code = cc) (hr : meth.sig.returnType = some ty) (hlk : meth.locks = false) (hn : narrow ty (.int (zI r)) = .int (zI r)) (hS : va_S A s.heap H locs) (hc : cells ≤ mc) (hs : slots ≤ ms) (hq : Post r H) (hdg : decode cc pc = .ok (.ireturn, 1)) : W p l e R s m args below meth c H locs cells slots (MQ below (QW A Post) args s mc ms A) (F0 m pc ls [.int (zI r)]) :=
  W.widen hc hs (W.zret hexec hb hr hn (fun t ht hW => ⟨r, rfl, by rw [ht]; exact hq, hS.F ht⟩) hS.2.2 hdg hlk)
theorem e_Wv {Post : Heap → Prop} (hexec : p.tables.exec = Jvm.exec) (hb : c.code = cc) (hr : meth.sig.returnType = none) (hlk : meth.locks = false) (hS : va_S A s.heap H locs) (hc : cells ≤ mc) (hs : slots ≤ ms) (hq : Post H) (hdg : decode cc pc = .ok (.return_, 1)) : W p l e R s m args below meth c H locs cells slots (MQ below (QV A Post) args s mc ms A) (F0 m pc ls []) :=
  W.widen hc hs (W.vret hexec hb hr (fun t ht hW => ⟨rfl, by rw [ht]; exact hq, hS.F ht⟩) hS.2.2 hdg hlk)
theorem e_Wl {r : Int64} {Post : Int64 → Heap → Prop} (hexec : p.tables.exec = Jvm.exec) (hb : c.code = cc) (hr : meth.sig.returnType = some .long) (hlk : meth.locks = false) (hS : va_S A s.heap H locs) (hc : cells ≤ mc) (hs : slots ≤ ms) (hq : Post r H) (hdg : decode cc pc = .ok (.lreturn, 1)) : W p l e R s m args below meth c H locs cells slots (MQ below (QL A Post) args s mc ms A) (F0 m pc ls [.long r]) :=
  W.widen hc hs (W.lret hexec hb hr (fun t ht hW => ⟨r, rfl, by rw [ht]; exact hq, hS.F ht⟩) hS.2.2 hdg hlk)
theorem e_Wd {r : UInt64} {Post : UInt64 → Heap → Prop} (hexec : p.tables.exec = Jvm.exec) (hb : c.code = cc) (hr : meth.sig.returnType = some .double) (hlk : meth.locks = false) (hS : va_S A s.heap H locs) (hc : cells ≤ mc) (hs : slots ≤ ms) (hq : Post r H) (hdg : decode cc pc = .ok (.dreturn, 1)) : W p l e R s m args below meth c H locs cells slots (MQ below (QD A Post) args s mc ms A) (F0 m pc ls [.double r]) :=
  W.widen hc hs (W.dret hexec hb hr (fun t ht hW => ⟨r, rfl, by rw [ht]; exact hq, hS.F ht⟩) hS.2.2 hdg hlk)
/-! the calls' continuations -/
theorem k_R (hr : va_Run p l e R s m args below meth c H locs cells slots 0 0 (F0 m pc ls st0) rest (QR v a) (fun _ => False)) (kk : W p l e R s m args below meth c H locs cells slots Q (F0 m (pc + 3) ls (v :: rest))) : W p l e R s m args below meth c H locs cells slots Q (F0 m pc ls st0) := by
  intro T hT X
  obtain ⟨v9, st₀, t, T', L, h0, X', hL, e1, e2, ⟨hv, hh⟩, st⟩ := hr T hT X
  cases hv
  have hLn : L = [] := by
    cases L with
    | nil => rfl
    | cons z L => exact absurd (hL z List.mem_cons_self) id
  subst hLn
  rw [List.append_nil] at X'
  obtain ⟨t2, a1, b1⟩ := kk T' (by rw [e1, hh, h0]) X'
  exact ⟨t2, st t2 a1, b1⟩
theorem k_keep {st₀ t T' : State} {L : List Loc} (h0 : st₀.heap = H) (e1 : T'.heap = t.heap) (hS : va_S A H0 H locs) (hA : ∀ q, A1 q → A q) (hL : ∀ q ∈ L, A1 q.base) (hF : va_F A1 st₀ t) : H.size ≤ T'.heap.size ∧ (∀ q : Nat, q < H.size → ¬ A1 q → T'.heap[q]? = H[q]?) ∧ va_S A H0 T'.heap (locs ++ L) := by
  exact vx_keep h0 e1 hS (fun q _ h => hA q h) hA hL hF
theorem k_Wi {Post : Int → Heap → Prop} (hr : va_Run p l e R s m args below meth c H locs cells slots mc ms (F0 m pc ls st0) rest (QW A1 Post a) A1) (hS : va_S A H0 H locs) (hA : ∀ q, A1 q → A q)
    (kk : ∀ (r : Int) (H1 : Heap) (locs1 : List Loc), Post r H1 → H.size ≤ H1.size → (∀ q : Nat, q < H.size → ¬ A1 q → H1[q]? = H[q]?) → va_S A H0 H1 locs1 → W p l e R s m args below meth c H1 locs1 (cells + mc) (slots + ms) Q (F0 m (pc + 3) ls (.int (zI r) :: rest))) : W p l e R s m args below meth c H locs cells slots Q (F0 m pc ls st0) := by
  intro T hT X
  obtain ⟨v9, st₀, t, T', L, h0, X', hL, e1, e2, ⟨r, hv, hp, hF⟩, st⟩ := hr T hT X
  cases hv
  obtain ⟨k1, k2, k3⟩ := k_keep h0 e1 hS hA hL hF
  obtain ⟨t2, a1, b1⟩ := kk r T'.heap _ (by rw [e1]; exact hp) k1 k2 k3 T' rfl X'
  exact ⟨t2, st t2 a1, b1⟩
theorem k_Wl {Post : Int64 → Heap → Prop} (hr : va_Run p l e R s m args below meth c H locs cells slots mc ms (F0 m pc ls st0) rest (QL A1 Post a) A1) (hS : va_S A H0 H locs) (hA : ∀ q, A1 q → A q)
    (kk : ∀ (r : Int64) (H1 : Heap) (locs1 : List Loc), Post r H1 → H.size ≤ H1.size → (∀ q : Nat, q < H.size → ¬ A1 q → H1[q]? = H[q]?) → va_S A H0 H1 locs1 → W p l e R s m args below meth c H1 locs1 (cells + mc) (slots + ms) Q (F0 m (pc + 3) ls (.long r :: rest))) : W p l e R s m args below meth c H locs cells slots Q (F0 m pc ls st0) := by
  intro T hT X
  obtain ⟨v9, st₀, t, T', L, h0, X', hL, e1, e2, ⟨r, hv, hp, hF⟩, st⟩ := hr T hT X
  cases hv
  obtain ⟨k1, k2, k3⟩ := k_keep h0 e1 hS hA hL hF
  obtain ⟨t2, a1, b1⟩ := kk r T'.heap _ (by rw [e1]; exact hp) k1 k2 k3 T' rfl X'
  exact ⟨t2, st t2 a1, b1⟩
theorem k_Wd {Post : UInt64 → Heap → Prop} (hr : va_Run p l e R s m args below meth c H locs cells slots mc ms (F0 m pc ls st0) rest (QD A1 Post a) A1) (hS : va_S A H0 H locs) (hA : ∀ q, A1 q → A q)
    (kk : ∀ (r : UInt64) (H1 : Heap) (locs1 : List Loc), Post r H1 → H.size ≤ H1.size → (∀ q : Nat, q < H.size → ¬ A1 q → H1[q]? = H[q]?) → va_S A H0 H1 locs1 → W p l e R s m args below meth c H1 locs1 (cells + mc) (slots + ms) Q (F0 m (pc + 3) ls (.double r :: rest))) : W p l e R s m args below meth c H locs cells slots Q (F0 m pc ls st0) := by
  intro T hT X
  obtain ⟨v9, st₀, t, T', L, h0, X', hL, e1, e2, ⟨r, hv, hp, hF⟩, st⟩ := hr T hT X
  cases hv
  obtain ⟨k1, k2, k3⟩ := k_keep h0 e1 hS hA hL hF
  obtain ⟨t2, a1, b1⟩ := kk r T'.heap _ (by rw [e1]; exact hp) k1 k2 k3 T' rfl X'
  exact ⟨t2, st t2 a1, b1⟩
theorem k_Wv {Post : Heap → Prop} (hr : va_Run p l e R s m args below meth c H locs cells slots mc ms (F0 m pc ls st0) rest (QV A1 Post a) A1) (hS : va_S A H0 H locs) (hA : ∀ q, A1 q → A q)
    (kk : ∀ (H1 : Heap) (locs1 : List Loc), Post H1 → H.size ≤ H1.size → (∀ q : Nat, q < H.size → ¬ A1 q → H1[q]? = H[q]?) → va_S A H0 H1 locs1 → W p l e R s m args below meth c H1 locs1 (cells + mc) (slots + ms) Q (F0 m (pc + 3) ls rest)) : W p l e R s m args below meth c H locs cells slots Q (F0 m pc ls st0) := by
  intro T hT X
  obtain ⟨v9, st₀, t, T', L, h0, X', hL, e1, e2, ⟨hv, hp, hF⟩, st⟩ := hr T hT X
  cases hv
  obtain ⟨k1, k2, k3⟩ := k_keep h0 e1 hS hA hL hF
  obtain ⟨t2, a1, b1⟩ := kk T'.heap _ (by rw [e1]; exact hp) k1 k2 k3 T' rfl X'
  exact ⟨t2, st t2 a1, b1⟩
/-! the calls: of an instance method, a static one, a private static one of a nest mate -/
theorem c_V {y : MethodName} {bytes : ByteArray} {maxL nL n f lo idx : Nat} {ret : Option FieldType} {own C : String} {b : Nat} {As : List Value} {Pic : Heap → Prop} {Qc : Array Value → State → Outcome → State → Prop}
    (S : p.tables.exec = Jvm.exec ∧ c.code = cc ∧ c.maxLocals = nL ∧ s.vm.findClass own = some m.cls ∧ ∀ w ∈ lw_all, w.before args s = true) (hG : GK G s) (hS : va_S A s.heap H locs) (hA : ∀ q, A q → G.2.2 ≤ q)
    (hM : Met l y (lw_m y bytes maxL ret) (rmz f lo mc ms) (va_Pc (.ref b :: As) (fun U => GK G U ∧ Pic U.heap)) Qc mc ms free)
    (hw : Cond.methodLink own idx y ∈ lw_all ∧ Cond.instanceMethod y ∈ lw_all ∧ Cond.selects C y y ∈ lw_all ∧ Cond.initialized C ∈ lw_all ∧ Cond.code y bytes maxL ret ∈ lw_all)
    (hd : y.cls = C ∧ y.cls ≠ "java/lang/invoke/MethodHandle" ∧ y.cls ≠ "java/lang/invoke/VarHandle" ∧ (parseMethodDescriptor y.desc).map (fun d => d.parameters.length) = some n)
    (hrec : ∃ cell : Cell, H[b]? = some cell ∧ cell.vm.isStatics = false ∧ s.vm.findClass C = some cell.cls) (hP : Pic H) (hR : f + 1 ≤ R.frames ∧ 8 + (maxL + 11) + lo ≤ R.locals) (hfit : cells + mc ≤ R.cells ∧ slots + ms ≤ R.slots)
    (hn : As.length = n) (hsize : ls.size = nL) (hstack : st0 = As.reverse ++ .ref b :: rest) (hcat : (rest.map fun v => v.category).sum ≤ 8) (hdg : decode cc pc = .ok (.invokevirtual idx, 3)) :
    va_Run p l e R s m args below meth c H locs cells slots mc ms (F0 m pc ls st0) rest (Qc (Value.ref b :: As).toArray) free := by
  obtain ⟨hx, hb, hml, hown, hts⟩ := S
  exact va_runV (As := As) (rest := rest) (Ts := lw_all) (own := own) ⟨hx, hb, hml, hown, hts⟩ hM (cwV n hts (good_V hw) rfl rfl rfl hd hR) ⟨Pc_blind G _ Pic, hrec, fun U hU hW => ⟨rfl, GK_call hG hS hA hU hW, by rw [hU]; exact hP⟩⟩ rfl hn hsize hstack (lv_room hcat) hdg hfit
theorem c_S {y : MethodName} {bytes : ByteArray} {maxL nL n f lo idx : Nat} {ret : Option FieldType} {own : String} {As : List Value} {Pic : Heap → Prop} {Qc : Array Value → State → Outcome → State → Prop}
    (S : p.tables.exec = Jvm.exec ∧ c.code = cc ∧ c.maxLocals = nL ∧ s.vm.findClass own = some m.cls ∧ ∀ w ∈ lw_all, w.before args s = true) (hG : GK G s) (hS : va_S A s.heap H locs) (hA : ∀ q, A q → G.2.2 ≤ q)
    (hM : Met l y (lw_m y bytes maxL ret) (rmz f lo mc ms) (va_Pc As (fun U => GK G U ∧ Pic U.heap)) Qc mc ms free)
    (hw : Cond.methodLink own idx y ∈ lw_all ∧ Cond.static y ∈ lw_all ∧ Cond.initialized y.cls ∈ lw_all ∧ Cond.code y bytes maxL ret ∈ lw_all)
    (hd : y.cls ≠ "java/lang/invoke/MethodHandle" ∧ y.cls ≠ "java/lang/invoke/VarHandle" ∧ (parseMethodDescriptor y.desc).map (fun d => d.parameters.length) = some n)
    (hP : Pic H) (hR : f + 1 ≤ R.frames ∧ 8 + (maxL + 11) + lo ≤ R.locals) (hfit : cells + mc ≤ R.cells ∧ slots + ms ≤ R.slots)
    (hn : As.length = n) (hsize : ls.size = nL) (hstack : st0 = As.reverse ++ rest) (hcat : (rest.map fun v => v.category).sum ≤ 8) (hdg : decode cc pc = .ok (.invokestatic idx, 3)) :
    va_Run p l e R s m args below meth c H locs cells slots mc ms (F0 m pc ls st0) rest (Qc As.toArray) free := by
  obtain ⟨hx, hb, hml, hown, hts⟩ := S
  exact va_runS (As := As) (rest := rest) (Ts := lw_all) (own := own) ⟨hx, hb, hml, hown, hts⟩ hM (va_cwS n hts (good_S hw) rfl rfl rfl hd hR) ⟨Pc_blind G _ Pic, fun U hU hW => ⟨rfl, GK_call hG hS hA hU hW, by rw [hU]; exact hP⟩⟩ rfl hn hsize hstack (lv_room hcat) hdg hfit
theorem c_N {y : MethodName} {bytes : ByteArray} {maxL nL n f lo idx : Nat} {ret : Option FieldType} {own host : String} {As : List Value} {Pic : Heap → Prop} {Qc : Array Value → State → Outcome → State → Prop}
    (S : p.tables.exec = Jvm.exec ∧ c.code = cc ∧ c.maxLocals = nL ∧ s.vm.findClass own = some m.cls ∧ ∀ w ∈ lw_all, w.before args s = true) (hG : GK G s) (hS : va_S A s.heap H locs) (hA : ∀ q, A q → G.2.2 ≤ q)
    (hM : Met l y (lw_m y bytes maxL ret) (rmz f lo mc ms) (va_Pc As (fun U => GK G U ∧ Pic U.heap)) Qc mc ms free)
    (hw : (own, idx, y, host) ∈ nestM ∧ Cond.static y ∈ lw_all ∧ Cond.initialized y.cls ∈ lw_all ∧ Cond.code y bytes maxL ret ∈ lw_all)
    (hd : y.cls ≠ "java/lang/invoke/MethodHandle" ∧ y.cls ≠ "java/lang/invoke/VarHandle" ∧ (parseMethodDescriptor y.desc).map (fun d => d.parameters.length) = some n)
    (hP : Pic H) (hR : f + 1 ≤ R.frames ∧ 8 + (maxL + 11) + lo ≤ R.locals) (hfit : cells + mc ≤ R.cells ∧ slots + ms ≤ R.slots)
    (hn : As.length = n) (hsize : ls.size = nL) (hstack : st0 = As.reverse ++ rest) (hcat : (rest.map fun v => v.category).sum ≤ 8) (hdg : decode cc pc = .ok (.invokestatic idx, 3)) :
    va_Run p l e R s m args below meth c H locs cells slots mc ms (F0 m pc ls st0) rest (Qc As.toArray) free := by
  obtain ⟨hx, hb, hml, hown, hts⟩ := S
  exact va_runSN (As := As) (rest := rest) (Ts := lw_all) (own := own) (host := host) ⟨hx, hb, hml, hown, hts⟩ hM ⟨va_cnB n hts (lw_inm hw.2.2.2) rfl rfl rfl (hG.2.2.1 _ hw.1) (hts _ hw.2.2.1) hd hR, hts _ hw.2.1, trivial⟩ ⟨Pc_blind G _ Pic, fun U hU hW => ⟨rfl, GK_call hG hS hA hU hW, by rw [hU]; exact hP⟩⟩ rfl hn hsize hstack (lv_room hcat) hdg hfit
theorem c_VR {y : MethodName} {bytes : ByteArray} {maxL nL n f lo idx : Nat} {ret : Option FieldType} {own C : String} {b : Nat} {As : List Value} {Pic : Heap → Prop} 
    (S : p.tables.exec = Jvm.exec ∧ c.code = cc ∧ c.maxLocals = nL ∧ s.vm.findClass own = some m.cls ∧ ∀ w ∈ lw_all, w.before args s = true) (hG : GK G s) (hS : va_S A s.heap H locs) (hA : ∀ q, A q → G.2.2 ≤ q)
    (hM : MR l y bytes maxL ret f lo G (.ref b :: As) Pic v)
    (hw : Cond.methodLink own idx y ∈ lw_all ∧ Cond.instanceMethod y ∈ lw_all ∧ Cond.selects C y y ∈ lw_all ∧ Cond.initialized C ∈ lw_all ∧ Cond.code y bytes maxL ret ∈ lw_all)
    (hd : y.cls = C ∧ y.cls ≠ "java/lang/invoke/MethodHandle" ∧ y.cls ≠ "java/lang/invoke/VarHandle" ∧ (parseMethodDescriptor y.desc).map (fun d => d.parameters.length) = some n)
    (hrec : ∃ cell : Cell, H[b]? = some cell ∧ cell.vm.isStatics = false ∧ s.vm.findClass C = some cell.cls) (hP : Pic H) (hR : f + 1 ≤ R.frames ∧ 8 + (maxL + 11) + lo ≤ R.locals) (hfit : cells ≤ R.cells ∧ slots ≤ R.slots)
    (hn : As.length = n) (hsize : ls.size = nL) (hstack : st0 = As.reverse ++ .ref b :: rest) (hcat : (rest.map fun v => v.category).sum ≤ 8) (hdg : decode cc pc = .ok (.invokevirtual idx, 3)) :
    va_Run p l e R s m args below meth c H locs cells slots 0 0 (F0 m pc ls st0) rest (QR v (Value.ref b :: As).toArray) (fun _ => False) := c_V S hG hS hA hM hw hd hrec hP hR hfit hn hsize hstack hcat hdg
theorem c_VW {y : MethodName} {bytes : ByteArray} {maxL nL n f lo idx : Nat} {ret : Option FieldType} {own C : String} {b : Nat} {As : List Value} {Pic : Heap → Prop} {Qc : Array Value → State → Outcome → State → Prop}
    (S : p.tables.exec = Jvm.exec ∧ c.code = cc ∧ c.maxLocals = nL ∧ s.vm.findClass own = some m.cls ∧ ∀ w ∈ lw_all, w.before args s = true) (hG : GK G s) (hS : va_S A s.heap H locs) (hA : ∀ q, A q → G.2.2 ≤ q)
    (hM : MW l y bytes maxL ret f lo mc ms G (.ref b :: As) A1 H.size Pic Qc)
    (hw : Cond.methodLink own idx y ∈ lw_all ∧ Cond.instanceMethod y ∈ lw_all ∧ Cond.selects C y y ∈ lw_all ∧ Cond.initialized C ∈ lw_all ∧ Cond.code y bytes maxL ret ∈ lw_all)
    (hd : y.cls = C ∧ y.cls ≠ "java/lang/invoke/MethodHandle" ∧ y.cls ≠ "java/lang/invoke/VarHandle" ∧ (parseMethodDescriptor y.desc).map (fun d => d.parameters.length) = some n)
    (hrec : ∃ cell : Cell, H[b]? = some cell ∧ cell.vm.isStatics = false ∧ s.vm.findClass C = some cell.cls) (hP : Pic H) (hR : f + 1 ≤ R.frames ∧ 8 + (maxL + 11) + lo ≤ R.locals) (hfit : cells + mc ≤ R.cells ∧ slots + ms ≤ R.slots)
    (hn : As.length = n) (hsize : ls.size = nL) (hstack : st0 = As.reverse ++ .ref b :: rest) (hcat : (rest.map fun v => v.category).sum ≤ 8) (hdg : decode cc pc = .ok (.invokevirtual idx, 3)) :
    va_Run p l e R s m args below meth c H locs cells slots mc ms (F0 m pc ls st0) rest (Qc (Value.ref b :: As).toArray) A1 := c_V (Pic := fun X => X.size = H.size ∧ Pic X) S hG hS hA hM hw hd hrec ⟨rfl, hP⟩ hR hfit hn hsize hstack hcat hdg
theorem c_SR {y : MethodName} {bytes : ByteArray} {maxL nL n f lo idx : Nat} {ret : Option FieldType} {own : String} {As : List Value} {Pic : Heap → Prop} 
    (S : p.tables.exec = Jvm.exec ∧ c.code = cc ∧ c.maxLocals = nL ∧ s.vm.findClass own = some m.cls ∧ ∀ w ∈ lw_all, w.before args s = true) (hG : GK G s) (hS : va_S A s.heap H locs) (hA : ∀ q, A q → G.2.2 ≤ q)
    (hM : MR l y bytes maxL ret f lo G (As) Pic v)
    (hw : Cond.methodLink own idx y ∈ lw_all ∧ Cond.static y ∈ lw_all ∧ Cond.initialized y.cls ∈ lw_all ∧ Cond.code y bytes maxL ret ∈ lw_all)
    (hd : y.cls ≠ "java/lang/invoke/MethodHandle" ∧ y.cls ≠ "java/lang/invoke/VarHandle" ∧ (parseMethodDescriptor y.desc).map (fun d => d.parameters.length) = some n)
    (hP : Pic H) (hR : f + 1 ≤ R.frames ∧ 8 + (maxL + 11) + lo ≤ R.locals) (hfit : cells ≤ R.cells ∧ slots ≤ R.slots)
    (hn : As.length = n) (hsize : ls.size = nL) (hstack : st0 = As.reverse ++ rest) (hcat : (rest.map fun v => v.category).sum ≤ 8) (hdg : decode cc pc = .ok (.invokestatic idx, 3)) :
    va_Run p l e R s m args below meth c H locs cells slots 0 0 (F0 m pc ls st0) rest (QR v As.toArray) (fun _ => False) := c_S S hG hS hA hM hw hd hP hR hfit hn hsize hstack hcat hdg
theorem c_SW {y : MethodName} {bytes : ByteArray} {maxL nL n f lo idx : Nat} {ret : Option FieldType} {own : String} {As : List Value} {Pic : Heap → Prop} {Qc : Array Value → State → Outcome → State → Prop}
    (S : p.tables.exec = Jvm.exec ∧ c.code = cc ∧ c.maxLocals = nL ∧ s.vm.findClass own = some m.cls ∧ ∀ w ∈ lw_all, w.before args s = true) (hG : GK G s) (hS : va_S A s.heap H locs) (hA : ∀ q, A q → G.2.2 ≤ q)
    (hM : MW l y bytes maxL ret f lo mc ms G (As) A1 H.size Pic Qc)
    (hw : Cond.methodLink own idx y ∈ lw_all ∧ Cond.static y ∈ lw_all ∧ Cond.initialized y.cls ∈ lw_all ∧ Cond.code y bytes maxL ret ∈ lw_all)
    (hd : y.cls ≠ "java/lang/invoke/MethodHandle" ∧ y.cls ≠ "java/lang/invoke/VarHandle" ∧ (parseMethodDescriptor y.desc).map (fun d => d.parameters.length) = some n)
    (hP : Pic H) (hR : f + 1 ≤ R.frames ∧ 8 + (maxL + 11) + lo ≤ R.locals) (hfit : cells + mc ≤ R.cells ∧ slots + ms ≤ R.slots)
    (hn : As.length = n) (hsize : ls.size = nL) (hstack : st0 = As.reverse ++ rest) (hcat : (rest.map fun v => v.category).sum ≤ 8) (hdg : decode cc pc = .ok (.invokestatic idx, 3)) :
    va_Run p l e R s m args below meth c H locs cells slots mc ms (F0 m pc ls st0) rest (Qc As.toArray) A1 := c_S (Pic := fun X => X.size = H.size ∧ Pic X) S hG hS hA hM hw hd ⟨rfl, hP⟩ hR hfit hn hsize hstack hcat hdg
theorem c_NR {y : MethodName} {bytes : ByteArray} {maxL nL n f lo idx : Nat} {ret : Option FieldType} {own host : String} {As : List Value} {Pic : Heap → Prop} 
    (S : p.tables.exec = Jvm.exec ∧ c.code = cc ∧ c.maxLocals = nL ∧ s.vm.findClass own = some m.cls ∧ ∀ w ∈ lw_all, w.before args s = true) (hG : GK G s) (hS : va_S A s.heap H locs) (hA : ∀ q, A q → G.2.2 ≤ q)
    (hM : MR l y bytes maxL ret f lo G (As) Pic v)
    (hw : (own, idx, y, host) ∈ nestM ∧ Cond.static y ∈ lw_all ∧ Cond.initialized y.cls ∈ lw_all ∧ Cond.code y bytes maxL ret ∈ lw_all)
    (hd : y.cls ≠ "java/lang/invoke/MethodHandle" ∧ y.cls ≠ "java/lang/invoke/VarHandle" ∧ (parseMethodDescriptor y.desc).map (fun d => d.parameters.length) = some n)
    (hP : Pic H) (hR : f + 1 ≤ R.frames ∧ 8 + (maxL + 11) + lo ≤ R.locals) (hfit : cells ≤ R.cells ∧ slots ≤ R.slots)
    (hn : As.length = n) (hsize : ls.size = nL) (hstack : st0 = As.reverse ++ rest) (hcat : (rest.map fun v => v.category).sum ≤ 8) (hdg : decode cc pc = .ok (.invokestatic idx, 3)) :
    va_Run p l e R s m args below meth c H locs cells slots 0 0 (F0 m pc ls st0) rest (QR v As.toArray) (fun _ => False) := c_N S hG hS hA hM hw hd hP hR hfit hn hsize hstack hcat hdg
theorem c_NW {y : MethodName} {bytes : ByteArray} {maxL nL n f lo idx : Nat} {ret : Option FieldType} {own host : String} {As : List Value} {Pic : Heap → Prop} {Qc : Array Value → State → Outcome → State → Prop}
    (S : p.tables.exec = Jvm.exec ∧ c.code = cc ∧ c.maxLocals = nL ∧ s.vm.findClass own = some m.cls ∧ ∀ w ∈ lw_all, w.before args s = true) (hG : GK G s) (hS : va_S A s.heap H locs) (hA : ∀ q, A q → G.2.2 ≤ q)
    (hM : MW l y bytes maxL ret f lo mc ms G (As) A1 H.size Pic Qc)
    (hw : (own, idx, y, host) ∈ nestM ∧ Cond.static y ∈ lw_all ∧ Cond.initialized y.cls ∈ lw_all ∧ Cond.code y bytes maxL ret ∈ lw_all)
    (hd : y.cls ≠ "java/lang/invoke/MethodHandle" ∧ y.cls ≠ "java/lang/invoke/VarHandle" ∧ (parseMethodDescriptor y.desc).map (fun d => d.parameters.length) = some n)
    (hP : Pic H) (hR : f + 1 ≤ R.frames ∧ 8 + (maxL + 11) + lo ≤ R.locals) (hfit : cells + mc ≤ R.cells ∧ slots + ms ≤ R.slots)
    (hn : As.length = n) (hsize : ls.size = nL) (hstack : st0 = As.reverse ++ rest) (hcat : (rest.map fun v => v.category).sum ≤ 8) (hdg : decode cc pc = .ok (.invokestatic idx, 3)) :
    va_Run p l e R s m args below meth c H locs cells slots mc ms (F0 m pc ls st0) rest (Qc As.toArray) A1 := c_N (Pic := fun X => X.size = H.size ∧ Pic X) S hG hS hA hM hw hd ⟨rfl, hP⟩ hR hfit hn hsize hstack hcat hdg
end ZC
