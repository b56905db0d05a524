theorem CP.grow {G : zG} {ad : Nat → Nat} {F : Nat → Int} {A E : Nat → Int → Int} {T P S Av : Int → Nat → Int → Int} {Fv : Int → Nat → Int} {H H1 : Heap} (h : CP G ad F A E T P S Av Fv H) (h2 : ∀ q : Nat, q < H.size → H1[q]? = H[q]?) : CP G ad F A E T P S Av Fv H1 := PP.kept h (fun k hk => h2 _ (PP.lt h hk))
abbrev thrA : List Cond := vx_atS RX2 75 xIO xNm ++ (vx_atS RX2 48 xIA xNm ++ vx_atS RX2 59 xIS xNm)
theorem thrA_b {args : Array Value} {s : State} (hts : ∀ w ∈ lw_all, w.before args s = true) (h9 : ∀ w ∈ thrW, va_Nw w s) : ∀ w ∈ thrA, w.before args s = true ∧ vx_ot w = true := by
  intro w hw
  by_cases hg : goodWord w = true
  · exact ⟨hts _ (lw_all_of (thrA_t w hw) hg), by unfold vx_ot; rw [hg, Bool.or_true]⟩
  · have hm : w ∈ thrW := List.mem_filter.mpr ⟨hw, by rw [Bool.not_eq_true] at hg; rw [hg]; rfl⟩
    exact ⟨va_Nw.use (thrW_k w hm).2 (h9 w hm), by unfold vx_ot; rw [(thrW_k w hm).2, Bool.true_or]⟩
section ZX
variable {p : Program} {l : Launch} {e : Env} {R : Room} {s : State} {m : MethodId} {args : Array Value} {below : List Frame} {meth : Method} {c : Code} {H : Heap} {locs : List Loc} {cells slots : Nat} {Q : State → Prop}
variable {cc : ByteArray} {pc : Nat} {ls : Array Slot} {rest st0 : List Value} {A A1 : Nat → Prop} {H0 : Heap} {G : zG} {mc ms : Nat} {a : Array Value} {Qc : Array Value → State → Outcome → State → Prop} {PX PX1 : String → Heap → Prop}
theorem z_thr {E : String} {ik ic : Nat} (hE : Bundle.fit E = true) (hk : Cond.classLink RX2 ik E ∈ lw_all) (hi : Cond.initialized E ∈ lw_all) (hg2 : vx_ot (Cond.classLink RX2 ik E) = true ∧ vx_ot (Cond.initialized E) = true) (hsub : ∀ w ∈ vx_atS RX2 ic E xNm, w ∈ thrA)
    (hexec : p.tables.exec = Jvm.exec) (hb : c.code = cc) (hl : l.stackTraces = false) (hown : s.vm.findClass RX2 = some m.cls) (hts : ∀ w ∈ lw_all, w.before args s = true) (hG : GK G s) (hnt : ∀ (x : ExceptionTableEntry), x ∈ c.exceptionTable.toList → False) (hS : va_S A s.heap H locs) (hA : ∀ q, A q → G.2.2 ≤ q) {text : String} {is : Nat} (hstr : (is, text) ∈ strT)
    (d0 : decode cc pc = .ok (.new ik, 3)) (d3 : decode cc (pc + 3) = .ok (.dup, 1)) (d4 : decode cc (pc + 4) = .ok (.ldc is, 2)) (d6 : decode cc (pc + 6) = .ok (.invokespecial ic, 3)) (d9 : decode cc (pc + 9) = .ok (.athrow, 1)) (hsize : ls.size = c.maxLocals)
    (hR : 6 ≤ R.frames ∧ 82 ≤ R.locals ∧ cells + 1 ≤ R.cells ∧ slots + 6 ≤ R.slots) (hlocks : meth.locks = false) (hx : ∀ H1 : Heap, H.size ≤ H1.size → (∀ q : Nat, q < H.size → H1[q]? = H[q]?) → PX E H1) (hc : cells + 1 ≤ mc) (hs : slots + 6 ≤ ms) :
    W p l e R s m args below meth c H locs cells slots (vx_MQ below Qc (XQ A PX) args s mc ms A) (F0 m pc ls []) := by
  obtain ⟨sa, hsa⟩ := hG.2.2.2.2.2.2.2.1 _ hstr
  have hb9 := thrA_b hts hG.2.2.2.2.2.2.2.2.1
  refine vx_throwS (own := RX2) (cls := E) (names := xNm) (text := text) (sa := sa) (A := A) hexec hb hl hown hE (by decide) (hts _ hk) (hts _ hi) hsa (fun w hw => (hb9 w (hsub w hw)).1) ?_ (hG.2.2.2.2.2.1.narrow hA) (hG.2.2.2.2.2.2.1.narrow hA) hS hsize d0 d3 d4 d6 d9 (fun x hx => (hnt x hx).elim) (by show 2 + 3 < R.frames; omega) (by show 0 + (13 * (2 + 1) + 43) ≤ R.locals; omega) hR.2.2.1 hR.2.2.2 hlocks (fun t _ h1 h2 => ⟨hx t.heap h1 h2, Nat.le_trans hS.1 h1, fun q g1 g2 => (h2 q (Nat.lt_of_lt_of_le g1 hS.1)).trans (hS.2.1 q g1 g2)⟩) hS.2.2 hc hs
  intro w hw
  rcases List.mem_cons.mp hw with rfl | hw
  · exact hg2.1
  rcases List.mem_cons.mp hw with rfl | hw
  · exact hg2.2
  exact (hb9 w (hsub w hw)).2
theorem z_thrIO (hexec : p.tables.exec = Jvm.exec) (hb : c.code = cc) (hl : l.stackTraces = false) (hown : s.vm.findClass RX2 = some m.cls) (hts : ∀ w ∈ lw_all, w.before args s = true) (hG : GK G s) (hnt : ∀ (x : ExceptionTableEntry), x ∈ c.exceptionTable.toList → False) (hS : va_S A s.heap H locs) (hA : ∀ q, A q → G.2.2 ≤ q) {text : String} {is : Nat} (hstr : (is, text) ∈ strT)
    (d0 : decode cc pc = .ok (.new 71, 3)) (d3 : decode cc (pc + 3) = .ok (.dup, 1)) (d4 : decode cc (pc + 4) = .ok (.ldc is, 2)) (d6 : decode cc (pc + 6) = .ok (.invokespecial 75, 3)) (d9 : decode cc (pc + 9) = .ok (.athrow, 1)) (hsize : ls.size = c.maxLocals)
    (hR : 6 ≤ R.frames ∧ 82 ≤ R.locals ∧ cells + 1 ≤ R.cells ∧ slots + 6 ≤ R.slots) (hlocks : meth.locks = false) (hx : ∀ H1 : Heap, H.size ≤ H1.size → (∀ q : Nat, q < H.size → H1[q]? = H[q]?) → PX xIO H1) (hc : cells + 1 ≤ mc) (hs : slots + 6 ≤ ms) :
    W p l e R s m args below meth c H locs cells slots (vx_MQ below Qc (XQ A PX) args s mc ms A) (F0 m pc ls []) :=
  z_thr (by decide) q_cl_RX2_71 q_ini_java_lang_IndexOutOfBoundsException ⟨by decide +kernel, by decide +kernel⟩ (fun w h => List.mem_append_left _ h) hexec hb hl hown hts hG hnt hS hA hstr d0 d3 d4 d6 d9 hsize hR hlocks hx hc hs
theorem z_thrIA (hexec : p.tables.exec = Jvm.exec) (hb : c.code = cc) (hl : l.stackTraces = false) (hown : s.vm.findClass RX2 = some m.cls) (hts : ∀ w ∈ lw_all, w.before args s = true) (hG : GK G s) (hnt : ∀ (x : ExceptionTableEntry), x ∈ c.exceptionTable.toList → False) (hS : va_S A s.heap H locs) (hA : ∀ q, A q → G.2.2 ≤ q) {text : String} {is : Nat} (hstr : (is, text) ∈ strT)
    (d0 : decode cc pc = .ok (.new 44, 3)) (d3 : decode cc (pc + 3) = .ok (.dup, 1)) (d4 : decode cc (pc + 4) = .ok (.ldc is, 2)) (d6 : decode cc (pc + 6) = .ok (.invokespecial 48, 3)) (d9 : decode cc (pc + 9) = .ok (.athrow, 1)) (hsize : ls.size = c.maxLocals)
    (hR : 6 ≤ R.frames ∧ 82 ≤ R.locals ∧ cells + 1 ≤ R.cells ∧ slots + 6 ≤ R.slots) (hlocks : meth.locks = false) (hx : ∀ H1 : Heap, H.size ≤ H1.size → (∀ q : Nat, q < H.size → H1[q]? = H[q]?) → PX xIA H1) (hc : cells + 1 ≤ mc) (hs : slots + 6 ≤ ms) :
    W p l e R s m args below meth c H locs cells slots (vx_MQ below Qc (XQ A PX) args s mc ms A) (F0 m pc ls []) :=
  z_thr (by decide) q_cl_RX2_44 q_ini_java_lang_IllegalArgumentException ⟨by decide +kernel, by decide +kernel⟩ (fun w h => List.mem_append_right _ (List.mem_append_left _ h)) hexec hb hl hown hts hG hnt hS hA hstr d0 d3 d4 d6 d9 hsize hR hlocks hx hc hs
theorem z_thrIS (hexec : p.tables.exec = Jvm.exec) (hb : c.code = cc) (hl : l.stackTraces = false) (hown : s.vm.findClass RX2 = some m.cls) (hts : ∀ w ∈ lw_all, w.before args s = true) (hG : GK G s) (hnt : ∀ (x : ExceptionTableEntry), x ∈ c.exceptionTable.toList → False) (hS : va_S A s.heap H locs) (hA : ∀ q, A q → G.2.2 ≤ q) {text : String} {is : Nat} (hstr : (is, text) ∈ strT)
    (d0 : decode cc pc = .ok (.new 55, 3)) (d3 : decode cc (pc + 3) = .ok (.dup, 1)) (d4 : decode cc (pc + 4) = .ok (.ldc is, 2)) (d6 : decode cc (pc + 6) = .ok (.invokespecial 59, 3)) (d9 : decode cc (pc + 9) = .ok (.athrow, 1)) (hsize : ls.size = c.maxLocals)
    (hR : 6 ≤ R.frames ∧ 82 ≤ R.locals ∧ cells + 1 ≤ R.cells ∧ slots + 6 ≤ R.slots) (hlocks : meth.locks = false) (hx : ∀ H1 : Heap, H.size ≤ H1.size → (∀ q : Nat, q < H.size → H1[q]? = H[q]?) → PX xIS H1) (hc : cells + 1 ≤ mc) (hs : slots + 6 ≤ ms) :
    W p l e R s m args below meth c H locs cells slots (vx_MQ below Qc (XQ A PX) args s mc ms A) (F0 m pc ls []) :=
  z_thr (by decide) q_cl_RX2_55 q_ini_java_lang_IllegalStateException ⟨by decide +kernel, by decide +kernel⟩ (fun w h => List.mem_append_right _ (List.mem_append_right _ h)) hexec hb hl hown hts hG hnt hS hA hstr d0 d3 d4 d6 d9 hsize hR hlocks hx hc hs
theorem x_out {E : String} {ce : Cell} {q : Addr} (hnt : ∀ (x : ExceptionTableEntry), x ∈ c.exceptionTable.toList → False) (hlk : meth.locks = false) (hce : H[q]? = some ce) (hcv : ce.vm = .none) (hcl : s.vm.findClass E = some ce.cls) (hS : va_S A s.heap H locs) (hx : PX E H) (hc : cells ≤ mc) (hs : slots ≤ ms) :
    vx_W p l e R s m args below meth c H locs cells slots (vx_MQ below Qc (XQ A PX) args s mc ms A) (F0 m pc ls rest) q := vx_out (fun x hx => (hnt x hx).elim) hlk hce hcv hcl (fun t ht _ => ⟨by rw [ht]; exact hx, hS.F ht⟩) hS.2.2 hc hs
theorem c_VX {y : MethodName} {bytes : ByteArray} {maxL nL n f lo idx : Nat} {ret : Option FieldType} {own C : String} {b : Nat} {As : List Value} {Pic : Heap → Prop} 
    (S : p.tables.exec = Jvm.exec ∧ c.code = cc ∧ c.maxLocals = nL ∧ s.vm.findClass own = some m.cls ∧ ∀ w ∈ lw_all, w.before args s = true) (hG : GK G s) (hS : va_S A s.heap H locs) (hA : ∀ q, A q → G.2.2 ≤ q)
    (hM : MX l y bytes maxL ret f lo mc ms G (.ref b :: As) A1 H.size Pic Qc PX1)
    (hw : Cond.methodLink own idx y ∈ lw_all ∧ Cond.instanceMethod y ∈ lw_all ∧ Cond.selects C y y ∈ lw_all ∧ Cond.initialized C ∈ lw_all ∧ Cond.code y bytes maxL ret ∈ lw_all)
    (hd : y.cls = C ∧ y.cls ≠ "java/lang/invoke/MethodHandle" ∧ y.cls ≠ "java/lang/invoke/VarHandle" ∧ (parseMethodDescriptor y.desc).map (fun d => d.parameters.length) = some n)
    (hrec : ∃ cell : Cell, H[b]? = some cell ∧ cell.vm.isStatics = false ∧ s.vm.findClass C = some cell.cls) (hP : Pic H) (hR : f + 1 ≤ R.frames ∧ 8 + (maxL + 11) + lo ≤ R.locals) (hfit : cells + mc ≤ R.cells ∧ slots + ms ≤ R.slots)
    (hn : As.length = n) (hsize : ls.size = nL) (hstack : st0 = As.reverse ++ .ref b :: rest) (hcat : (rest.map fun v => v.category).sum ≤ 8) (hdg : decode cc pc = .ok (.invokevirtual idx, 3)) :
    vx_Run p l e R s m args below meth c H locs cells slots mc ms (F0 m pc ls st0) rest (Qc (Value.ref b :: As).toArray) (XQ A1 PX1) A1 := by
  obtain ⟨hx, hb, hml, hown, hts⟩ := S
  exact vx_runV (As := As) (rest := rest) (Ts := lw_all) (own := own) ⟨hx, hb, hml, hown, hts⟩ hM (cwV n hts (good_V hw) rfl rfl rfl hd hR) ⟨Pc_blind G _ (fun X => X.size = H.size ∧ Pic X), hrec, fun U hU hW => ⟨rfl, GK_call hG hS hA hU hW, by rw [hU]; exact ⟨rfl, hP⟩⟩⟩ rfl hn hsize hstack (lv_room hcat) hdg hfit
theorem k_Xv {Post : Heap → Prop} (hr : vx_Run p l e R s m args below meth c H locs cells slots mc ms (F0 m pc ls st0) rest (QV A1 Post a) (XQ A1 PX1) A1) (hS : va_S A H0 H locs) (hA : ∀ q, A1 q → A q)
    (kk : ∀ (H1 : Heap) (locs1 : List Loc), Post H1 → H.size ≤ H1.size → (∀ q : Nat, q < H.size → ¬ A1 q → H1[q]? = H[q]?) → va_S A H0 H1 locs1 → W p l e R s m args below meth c H1 locs1 (cells + mc) (slots + ms) Q (F0 m (pc + 3) ls rest))
    (kx : ∀ (E9 : String) (H1 : Heap) (locs1 : List Loc) (q9 : Addr) (ce : Cell), PX1 E9 H1 → H.size ≤ H1.size → (∀ q : Nat, q < H.size → ¬ A1 q → H1[q]? = H[q]?) → va_S A H0 H1 locs1 → H1[q9]? = some ce → ce.vm = .none → s.vm.findClass E9 = some ce.cls → vx_W p l e R s m args below meth c H1 locs1 (cells + mc) (slots + ms) Q (F0 m pc ls rest) q9) : W p l e R s m args below meth c H locs cells slots Q (F0 m pc ls st0) := by
  intro T hT X
  rcases hr T hT X with ⟨v9, st₀, t, T', L, h0, X', hL, e1, e2, ⟨hv, hp, hF⟩, st⟩ | ⟨q9, st₀, t, T', L, E9, ce, h0, X', hL, e1, e2, ⟨hp, hF⟩, hce, hcv, hcl, st⟩
  · cases hv
    obtain ⟨k1, k2, k3⟩ := k_keep h0 e1 hS hA hL hF
    obtain ⟨t2, a1, b1⟩ := kk T'.heap _ (by rw [e1]; exact hp) k1 k2 k3 T' rfl X'
    exact ⟨t2, st t2 a1, b1⟩
  · obtain ⟨k1, k2, k3⟩ := k_keep h0 e1 hS hA hL hF
    obtain ⟨t2, a1, b1⟩ := kx E9 T'.heap _ q9 ce (by rw [e1]; exact hp) k1 k2 k3 (by rw [e1]; exact hce) hcv hcl T' rfl X'
    exact ⟨t2, Steps.trans st a1, b1⟩
theorem k_Xi {Post : Int → Heap → Prop} (hr : vx_Run p l e R s m args below meth c H locs cells slots mc ms (F0 m pc ls st0) rest (QW A1 Post a) (XQ A1 PX1) A1) (hS : va_S A H0 H locs) (hA : ∀ q, A1 q → A q)
    (kk : ∀ (r : Int) (H1 : Heap) (locs1 : List Loc), Post r H1 → H.size ≤ H1.size → (∀ q : Nat, q < H.size → ¬ A1 q → H1[q]? = H[q]?) → va_S A H0 H1 locs1 → W p l e R s m args below meth c H1 locs1 (cells + mc) (slots + ms) Q (F0 m (pc + 3) ls (.int (zI r) :: rest)))
    (kx : ∀ (E9 : String) (H1 : Heap) (locs1 : List Loc) (q9 : Addr) (ce : Cell), PX1 E9 H1 → H.size ≤ H1.size → (∀ q : Nat, q < H.size → ¬ A1 q → H1[q]? = H[q]?) → va_S A H0 H1 locs1 → H1[q9]? = some ce → ce.vm = .none → s.vm.findClass E9 = some ce.cls → vx_W p l e R s m args below meth c H1 locs1 (cells + mc) (slots + ms) Q (F0 m pc ls rest) q9) : W p l e R s m args below meth c H locs cells slots Q (F0 m pc ls st0) := by
  intro T hT X
  rcases hr T hT X with ⟨v9, st₀, t, T', L, h0, X', hL, e1, e2, ⟨r, hv, hp, hF⟩, st⟩ | ⟨q9, st₀, t, T', L, E9, ce, h0, X', hL, e1, e2, ⟨hp, hF⟩, hce, hcv, hcl, st⟩
  · cases hv
    obtain ⟨k1, k2, k3⟩ := k_keep h0 e1 hS hA hL hF
    obtain ⟨t2, a1, b1⟩ := kk r T'.heap _ (by rw [e1]; exact hp) k1 k2 k3 T' rfl X'
    exact ⟨t2, st t2 a1, b1⟩
  · obtain ⟨k1, k2, k3⟩ := k_keep h0 e1 hS hA hL hF
    obtain ⟨t2, a1, b1⟩ := kx E9 T'.heap _ q9 ce (by rw [e1]; exact hp) k1 k2 k3 (by rw [e1]; exact hce) hcv hcl T' rfl X'
    exact ⟨t2, Steps.trans st a1, b1⟩
theorem k_Xl {Post : Int64 → Heap → Prop} (hr : vx_Run p l e R s m args below meth c H locs cells slots mc ms (F0 m pc ls st0) rest (QL A1 Post a) (XQ A1 PX1) A1) (hS : va_S A H0 H locs) (hA : ∀ q, A1 q → A q)
    (kk : ∀ (r : Int64) (H1 : Heap) (locs1 : List Loc), Post r H1 → H.size ≤ H1.size → (∀ q : Nat, q < H.size → ¬ A1 q → H1[q]? = H[q]?) → va_S A H0 H1 locs1 → W p l e R s m args below meth c H1 locs1 (cells + mc) (slots + ms) Q (F0 m (pc + 3) ls (.long r :: rest)))
    (kx : ∀ (E9 : String) (H1 : Heap) (locs1 : List Loc) (q9 : Addr) (ce : Cell), PX1 E9 H1 → H.size ≤ H1.size → (∀ q : Nat, q < H.size → ¬ A1 q → H1[q]? = H[q]?) → va_S A H0 H1 locs1 → H1[q9]? = some ce → ce.vm = .none → s.vm.findClass E9 = some ce.cls → vx_W p l e R s m args below meth c H1 locs1 (cells + mc) (slots + ms) Q (F0 m pc ls rest) q9) : W p l e R s m args below meth c H locs cells slots Q (F0 m pc ls st0) := by
  intro T hT X
  rcases hr T hT X with ⟨v9, st₀, t, T', L, h0, X', hL, e1, e2, ⟨r, hv, hp, hF⟩, st⟩ | ⟨q9, st₀, t, T', L, E9, ce, h0, X', hL, e1, e2, ⟨hp, hF⟩, hce, hcv, hcl, st⟩
  · cases hv
    obtain ⟨k1, k2, k3⟩ := k_keep h0 e1 hS hA hL hF
    obtain ⟨t2, a1, b1⟩ := kk r T'.heap _ (by rw [e1]; exact hp) k1 k2 k3 T' rfl X'
    exact ⟨t2, st t2 a1, b1⟩
  · obtain ⟨k1, k2, k3⟩ := k_keep h0 e1 hS hA hL hF
    obtain ⟨t2, a1, b1⟩ := kx E9 T'.heap _ q9 ce (by rw [e1]; exact hp) k1 k2 k3 (by rw [e1]; exact hce) hcv hcl T' rfl X'
    exact ⟨t2, Steps.trans st a1, b1⟩
theorem k_Xd {Post : UInt64 → Heap → Prop} (hr : vx_Run p l e R s m args below meth c H locs cells slots mc ms (F0 m pc ls st0) rest (QD A1 Post a) (XQ A1 PX1) A1) (hS : va_S A H0 H locs) (hA : ∀ q, A1 q → A q)
    (kk : ∀ (r : UInt64) (H1 : Heap) (locs1 : List Loc), Post r H1 → H.size ≤ H1.size → (∀ q : Nat, q < H.size → ¬ A1 q → H1[q]? = H[q]?) → va_S A H0 H1 locs1 → W p l e R s m args below meth c H1 locs1 (cells + mc) (slots + ms) Q (F0 m (pc + 3) ls (.double r :: rest)))
    (kx : ∀ (E9 : String) (H1 : Heap) (locs1 : List Loc) (q9 : Addr) (ce : Cell), PX1 E9 H1 → H.size ≤ H1.size → (∀ q : Nat, q < H.size → ¬ A1 q → H1[q]? = H[q]?) → va_S A H0 H1 locs1 → H1[q9]? = some ce → ce.vm = .none → s.vm.findClass E9 = some ce.cls → vx_W p l e R s m args below meth c H1 locs1 (cells + mc) (slots + ms) Q (F0 m pc ls rest) q9) : W p l e R s m args below meth c H locs cells slots Q (F0 m pc ls st0) := by
  intro T hT X
  rcases hr T hT X with ⟨v9, st₀, t, T', L, h0, X', hL, e1, e2, ⟨r, hv, hp, hF⟩, st⟩ | ⟨q9, st₀, t, T', L, E9, ce, h0, X', hL, e1, e2, ⟨hp, hF⟩, hce, hcv, hcl, st⟩
  · cases hv
    obtain ⟨k1, k2, k3⟩ := k_keep h0 e1 hS hA hL hF
    obtain ⟨t2, a1, b1⟩ := kk r T'.heap _ (by rw [e1]; exact hp) k1 k2 k3 T' rfl X'
    exact ⟨t2, st t2 a1, b1⟩
  · obtain ⟨k1, k2, k3⟩ := k_keep h0 e1 hS hA hL hF
    obtain ⟨t2, a1, b1⟩ := kx E9 T'.heap _ q9 ce (by rw [e1]; exact hp) k1 k2 k3 (by rw [e1]; exact hce) hcv hcl T' rfl X'
    exact ⟨t2, Steps.trans st a1, b1⟩
def lC (x y : Int64) : Int := (lg_cmp x y).toInt
theorem z_lcmp (hexec : p.tables.exec = Jvm.exec) (hb : c.code = cc) {x y : Int64} (hdg : decode cc pc = .ok (.lcmp, 1))
    (k : W p l e R s m args below meth c H locs cells slots Q (F0 m (pc + 1) ls (.int (zI (lC x y)) :: rest))) : W p l e R s m args below meth c H locs cells slots Q (F0 m pc ls (.long y :: .long x :: rest)) := W.lcmp hexec hb hdg (by rw [← zI_of (lg_cmp x y)]; exact k)
theorem lC_rng (x y : Int64) : -2147483648 ≤ lC x y ∧ lC x y ≤ 2147483647 := zI_rng _
theorem lC_le {x y : Int64} : lC x y ≤ 0 ↔ ¬ y < x := by
  unfold lC lg_cmp
  split
  · constructor
    · intro h; exact absurd h (by decide)
    · intro h; contradiction
  · split <;> constructor <;> intro h <;> first | assumption | decide
end ZX
