/-! the law's helpers: a class call, its exceptions caught, the answer laid into out -/
abbrev CC : Type := (Nat → Int) × (Nat → Int → Int) × (Nat → Int → Int) × (Int → Nat → Int → Int) × (Int → Nat → Int → Int) × (Int → Nat → Int → Int) × (Int → Nat → Int → Int) × (Int → Nat → Int)
def CPc (G : zG) (ad : Nat → Nat) (c : CC) (H : Heap) : Prop := CP G ad c.1 c.2.1 c.2.2.1 c.2.2.2.1 c.2.2.2.2.1 c.2.2.2.2.2.1 c.2.2.2.2.2.2.1 c.2.2.2.2.2.2.2 H
def OP (G : zG) (oa : Nat) (O : Int64) (H : Heap) : Prop := va_at G.1 vwCl (oa, .inl (G.2.1 3, 1, .inr (.inl (fun _ => O)))) H
theorem CPc.kept {G : zG} {ad : Nat → Nat} {c : CC} {H H1 : Heap} (h : CPc G ad c H) (ho : ∀ k, k < 94 → H1[ad k]? = H[ad k]?) : CPc G ad c H1 := PP.kept h ho
/-- what may change: the score's places, out, what is made -/
def hA9 (ad : Nat → Nat) (oa sz : Nat) : Nat → Prop := fun q => fA 94 ad sz q ∨ q = oa
def HM (l : Launch) (y : MethodName) (cc : ByteArray) (n : Nat) (hh : List (Nat × Nat × Nat × Nat)) (f lo mc ms : Nat) (G : zG) (av : List Value) (A : Nat → Prop) (sz : Nat) (Pic : Heap → Prop) (Post : Int → Heap → Prop) : Prop :=
  Met l y (lw_mw y cc n (some .int) hh) (rmz f lo mc ms) (va_Pc av (fun U => (GK G U ∧ CT U) ∧ (U.heap.size = sz ∧ Pic U.heap))) (QW A Post) mc ms A
theorem Ph_blind (G : zG) (av : List Value) (sz : Nat) (Pic : Heap → Prop) : FrameBlind (va_Pc av (fun U => (GK G U ∧ CT U) ∧ (U.heap.size = sz ∧ Pic U.heap))) := fun b U g mk h => ⟨h.1, ⟨GK_blind g mk b h.2.1.1, h.2.1.2.warm (State.WarmedH.refl U)⟩, h.2.2⟩
theorem hm_of {l : Launch} {y : MethodName} {cc : ByteArray} {n f lo mc ms : Nat} {hh : List (Nat × Nat × Nat × Nat)} {G : zG} {av : List Value} {A : Nat → Prop} {sz : Nat} {Pic : Heap → Prop} {Post : Int → Heap → Prop} (hy : plainName y.cls = true) (hlen : (lg_sl av).length ≤ n)
    (body : ∀ (p : Program) (e : Env) (s : State) (m : MethodId) (below : List Frame) (meth : Method) (c : Code) (ls : Array Slot), BF p s m av.toArray meth c cc n (some .int) y.cls G → c.exceptionTable.toList = tableOf hh → CT s → s.heap.size = sz → Pic s.heap → lv_has ls n (lv_args 0 av) → W p l e (rmz f lo mc ms) s m av.toArray below meth c s.heap [] 0 0 (MQ below (QW A Post) av.toArray s mc ms A) (F0 m 0 ls [])) :
    HM l y cc n hh f lo mc ms G av A sz Pic Post := by
  unfold HM
  refine MetFree.of_bodyS (code := cc) (maxLocals := n) (ret := some .int) hy ?_ ?_
  · intro args s m h hn
    obtain ⟨m9, meth, c, hn9, h1, h2, h3, h4, -, h5, h6, -⟩ := Cond.codeWith_spec (atoms_spec (ws := lw_mw y cc n (some .int) hh) h _ List.mem_cons_self)
    cases hn.symm.trans hn9
    exact ⟨meth, c, h1, h2, h3, h4, h5, h6⟩
  · intro p e s m args below meth c s₁ B hml hP _
    obtain ⟨rfl, ⟨hG, hC⟩, hsz, hPic⟩ := hP
    have hts := atoms_spec (ws := lw_mw y cc n (some .int) hh) B.pre
    have ht := vx_table (x := y) B (hts _ List.mem_cons_self)
    have hl := lv_entry av (n := n) hlen
    have hh0 : s₁.heap = s.heap := by rw [B.state]; rfl
    have K := body p e s m below meth c _ ⟨B.exec, B.bytes, hml, B.returns, B.notSynchronized, findClass_of_methodNamed B.named, fun w hw => hts w (List.mem_cons_of_mem _ hw), hG⟩ ht hC hsz hPic hl
    rw [← lg_entry_eq] at K
    obtain ⟨t, a1, o, b1, b2, b3⟩ := K s₁ hh0 (Stand.of_body B)
    exact ⟨t, o, a1, b1, b2, b3.1, b3.2⟩
section ZH9
variable {p : Program} {l : Launch} {e : Env} {R : Room} {s : State} {m : MethodId} {args : Array Value} {below : List Frame} {meth : Method} {c : Code} {H : Heap} {locs : List Loc} {cells slots : Nat} {Q : State → Prop}
variable {cc : ByteArray} {pc : Nat} {ls : Array Slot} {rest st0 : List Value} {A A1 : Nat → Prop} {H0 : Heap} {G : zG} {mc ms : Nat}
theorem z_last (hexec : p.tables.exec = Jvm.exec) (hb : c.code = cc) (hK : va_K G.1 vwCl (zT G) s) (hS : va_S A H0 H locs) {oa : Nat} (hD : A oa) {O x : Int64} (hO : OP G oa O H) (hdg : decode cc pc = .ok (.lastore, 1))
    (kk : ∀ (H1 : Heap) (locs1 : List Loc), OP G oa x H1 → H1.size = H.size → (∀ q : Nat, q ≠ oa → H1[q]? = H[q]?) → va_S A H0 H1 locs1 → W p l e R s m args below meth c H1 locs1 cells slots Q (F0 m (pc + 1) ls rest)) : W p l e R s m args below meth c H locs cells slots Q (F0 m pc ls (.long x :: .int (zI 0) :: .ref oa :: rest)) := by
  refine W.last hexec hb hO ((hK.2 3 _ rfl).1 1 (fun _ => .long O)) (fun q => by cases q) (by show ¬ (zI 0 < 0 ∨ (1:Nat) ≤ (zI 0).toNatClampNeg); decide) rfl rfl hdg fun H1 e z oq => ?_
  refine kk H1 _ ?_ z oq (hS.put z oq hD)
  show H1[oa]? = some (vp_cell _ _)
  rw [e]
  refine congrArg some ?_
  rw [vp_cell_l, vp_cell_l, arrV_store]
  refine arrV_congr fun j hj => ?_
  unfold updV
  have hj0 : j = (zI 0).toNatClampNeg := by
    have : (zI 0).toNatClampNeg = 0 := by decide
    omega
  rw [if_pos hj0]
theorem z_lald (hexec : p.tables.exec = Jvm.exec) (hb : c.code = cc) (hK : va_K G.1 vwCl (zT G) s) {oa : Nat} {O : Int64} (hO : OP G oa O H) (hdg : decode cc pc = .ok (.laload, 1))
    (kk : W p l e R s m args below meth c H locs cells slots Q (F0 m (pc + 1) ls (.long O :: rest))) : W p l e R s m args below meth c H locs cells slots Q (F0 m pc ls (.int (zI 0) :: .ref oa :: rest)) := by
  have hP : va_P G.1 vwCl [(oa, .inl (G.2.1 3, 1, .inr (.inl (fun _ => O))))] H := P1 hO
  exact va_lald (D := G.1) (cl := vwCl) (tys := zT G) hexec hb hK hP 0 3 rfl rfl (i := zI 0) (by unfold vp_in; decide) hdg kk
theorem catch9 (hown : s.vm.findClass RL = some m.cls) (hts : ∀ w ∈ lw_all, w.before args s = true) {hh : List (Nat × Nat × Nat × Nat)} (htab : c.exceptionTable.toList = tableOf hh) {E : String} {ce : Cell} {q : Addr} {tg ct : Nat} (pre : List ExceptionTableEntry) (x : ExceptionTableEntry) (suf : List ExceptionTableEntry) (hsplit : tableOf hh = pre ++ x :: suf)
    (hpass : ∀ z ∈ pre, z.catchType ≠ 0 ∧ ∃ nm : String, Cond.classLink RL z.catchType nm ∈ lw_all ∧ va_Nc E nm s) (hx : covers x pc = true) (h0 : x.catchType = ct ∧ ct ≠ 0 ∧ x.handlerPc = tg) (hlink : Cond.classLink RL ct E ∈ lw_all) (hcast : va_Nw (.castable E E) s) (hcell : H[q]? = some ce) (hv : ce.vm = .none) (hcl : s.vm.findClass E = some ce.cls)
    (kk : W p l e R s m args below meth c H locs cells slots Q (F0 m tg ls [.ref q])) : vx_W p l e R s m args below meth c H locs cells slots Q (F0 m pc ls rest) q := by
  obtain ⟨h1, h2, h3⟩ := h0
  subst h1
  subst h3
  exact vx_catch (own := RL) (name := E) hown pre x suf (htab.trans hsplit) (fun z hz => Or.inr ⟨(hpass z hz).1, by obtain ⟨nm, a, b⟩ := (hpass z hz).2; exact ⟨nm, hts _ a, b⟩⟩) hx h2 (hts _ hlink) (va_Nw.use rfl hcast) hcell hv hcl kk
end ZH9
