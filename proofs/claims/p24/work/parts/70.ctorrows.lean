/-! rows for what is made: arrays of arrays, objects, constructors -/
def OV (U : State) : Prop := va_Nw (.arrayOver (.array .int)) U ∧ va_AO RX1 U
theorem OV.moved {u U : State} (h : OV u) (hvm : u.vm.Alike U.vm) : OV U := ⟨Jvm.Stand.arrayOver_alikeB hvm h.1, h.2.moved hvm⟩
theorem va_at.push {G : zG} {q : Nat × va_E} {H H1 : Heap} (h : va_at G.1 vwCl q H) (ho : ∀ x : Nat, x < H.size → H1[x]? = H[x]?) : va_at G.1 vwCl q H1 := h.kept (ho _ h.lt)
/-- an object, and cells beside it -/
def OL (G : zG) (a : Nat) (e : va_E) (l : List (Nat × va_E)) (H : Heap) : Prop := va_at G.1 vwCl (a, e) H ∧ ∀ q ∈ l, q.1 ≠ a ∧ va_at G.1 vwCl q H
theorem OL.push {G : zG} {a : Nat} {e e1 : va_E} {l : List (Nat × va_E)} {H H1 : Heap} (h : OL G a e l H) (hn : va_at G.1 vwCl (H.size, e1) H1) (ho : ∀ x : Nat, x < H.size → H1[x]? = H[x]?) : OL G a e ((H.size, e1) :: l) H1 := by
  refine ⟨h.1.push ho, fun q hq => ?_⟩
  rcases List.mem_cons.mp hq with rfl | hq
  · exact ⟨fun z => absurd h.1.lt (by have z : H.size = a := z; show ¬ a < H.size; omega), hn⟩
  · exact ⟨(h.2 q hq).1, (h.2 q hq).2.push ho⟩
theorem OL.put {G : zG} {a : Nat} {e e1 : va_E} {l : List (Nat × va_E)} {H H1 : Heap} (h : OL G a e l H) (hn : va_at G.1 vwCl (a, e1) H1) (ho : ∀ x : Nat, x ≠ a → H1[x]? = H[x]?) : OL G a e1 l H1 := ⟨hn, fun q hq => ⟨(h.2 q hq).1, (h.2 q hq).2.kept (ho _ (h.2 q hq).1)⟩⟩
theorem OL.app {G : zG} {a : Nat} {e : va_E} {l l2 : List (Nat × va_E)} {H H1 : Heap} (h : OL G a e l H) (hn : ∀ q ∈ l2, H.size ≤ q.1 ∧ va_at G.1 vwCl q H1) (ho : ∀ x : Nat, x < H.size → H1[x]? = H[x]?) : OL G a e (l2 ++ l) H1 := by
  refine ⟨h.1.push ho, fun q hq => ?_⟩
  rcases List.mem_append.mp hq with hq | hq
  · exact ⟨fun z => absurd h.1.lt (by have := (hn q hq).1; show ¬ a < H.size; omega), (hn q hq).2⟩
  · exact ⟨(h.2 q hq).1, (h.2 q hq).2.push ho⟩
section ZM9
variable {p : Program} {l : Launch} {e : Env} {R : Room} {s : State} {m : MethodId} {args : Array Value} {below : List Frame} {meth : Method} {c : Code} {H : Heap} {locs : List Loc} {cells slots : Nat} {Q : State → Prop}
variable {cc : ByteArray} {pc : Nat} {ls : Array Slot} {rest : List Value} {D : Nat → Prop} {H0 : Heap} {G : zG}
theorem arrV_congr {c : ClassId} {n : Nat} {f g : Nat → Value} (h : ∀ j, j < n → f j = g j) : arrV c n f = arrV c n g := by
  unfold arrV
  rw [show (fun j : Fin n => f j.val) = (fun j : Fin n => g j.val) from funext fun j => h j.val j.isLt]
theorem outer9 (c : ClassId) (N h0 : Nat) : ∀ i, i ≤ N → Jvm.Free.Multi.outerC c N h0 i = arrV c N (fun j => if j < i then .ref (h0 + 1 + j) else .null) := by
  intro i
  induction i with
  | zero =>
    intro _
    show ({ cls := c, slots := Array.replicate N .null, vm := .none } : Cell) = _
    rw [arrV_new]
    exact arrV_congr fun j _ => by rw [if_neg (by omega)]
  | succ i ih =>
    intro hi
    show (Jvm.Free.Multi.outerC c N h0 i).setSlot i (.ref (h0 + 1 + i)) = _
    rw [ih (by omega), arrV_store]
    refine arrV_congr fun j _ => ?_
    unfold updV
    dsimp only
    by_cases q : j = i
    · rw [if_pos q, if_pos (by omega), q]
    · rw [if_neg q]
      by_cases w : j < i
      · rw [if_pos w, if_pos (by omega)]
      · rw [if_neg w, if_neg (by omega)]
theorem z_mna (hexec : p.tables.exec = Jvm.exec) (hb : c.code = cc) (hts : ∀ w ∈ lw_all, w.before args s = true) (hov : OV s) {own : String} {index : Nat} (hown : s.vm.findClass own = some m.cls) (hcl : Cond.classLink own index "[[I" ∈ lw_all) (hK : va_K G.1 vwCl (zT G) s) (hS : va_S D H0 H locs) {n k : Nat} (hn : n ≤ 10) (hk : k ≤ 2000)
    (hcells : cells + (1 + n) ≤ R.cells) (hslots : slots + (n + n * k) ≤ R.slots) (hdg : decode cc pc = .ok (.multianewarray index 2, 4))
    (kk : ∀ H1 : Heap, va_at G.1 vwCl (H.size, .inl (G.2.1 1, n, .inr (.inr (.inr (.inr (fun j => some (H.size + 1 + j))))))) H1 → (∀ j, j < n → va_at G.1 vwCl (H.size + 1 + j, .inl (G.2.1 0, k, .inl (zA (fun _ => 0)))) H1) → H1.size = H.size + (1 + n) → (∀ q : Nat, q < H.size → H1[q]? = H[q]?) → va_S D H0 H1 locs →
      W p l e R s m args below meth c H1 locs (cells + (1 + n)) (slots + (n + n * k)) Q (F0 m (pc + 4) ls (.ref H.size :: rest))) : W p l e R s m args below meth c H locs cells slots Q (F0 m pc ls (.int (zI (k : Int)) :: .int (zI (n : Int)) :: rest)) := by
  have hcn : (zI (n : Int)).toNatClampNeg = n := by rw [zI_cl (by omega) (by omega)]; omega
  have hck : (zI (k : Int)).toNatClampNeg = k := by rw [zI_cl (by omega) (by omega)]; omega
  have hpn : ∀ x : Nat, x ≤ 2000 → ¬ zI (x : Int) < 0 := fun x hx => by
    rw [← zI_0, zI_lt ⟨by omega, by omega⟩ ⟨by omega, by omega⟩]; omega
  intro T hT Xs
  obtain ⟨vm₁, cA, comp, -, fA, fC, -, -, X', step⟩ := Xs.multianewarray2F hexec (own := own) (index := index) (ty := .int) hown (hts _ hcl) hov.1 (hts _ q_arr_int) (g := F0 m pc ls (.int (zI (k : Int)) :: .int (zI (n : Int)) :: rest)) rfl (by rw [hb]; exact hdg) rfl (hpn n (by omega)) (hpn k hk) (by rw [hcn]; omega) (by rw [hck]; show k * 4 ≤ _; omega) (by rw [hck]; omega) rfl rfl (by rw [hcn]; exact hcells) (by rw [hcn, hck]; exact hslots)
  have hTh : (T.setVm vm₁).heap = H := hT
  have eA : G.2.1 1 = cA := Option.some.inj ((hK.2 1 _ rfl).2.symm.trans fA)
  have eC : G.2.1 0 = comp := Option.some.inj ((hK.2 0 _ rfl).2.symm.trans fC)
  rw [hcn, hck] at X' step
  obtain ⟨f1, f2, -, -⟩ := Jvm.Free.Multi.fill_facts (T.setVm vm₁) cA comp n k (defaultValue .int) n
  have f3 := fun j hj => Jvm.Free.Multi.fill_inner (T.setVm vm₁) cA comp n k (defaultValue .int) n j hj
  have f4 := fun (a : Nat) (ha : a < (T.setVm vm₁).heap.size) => Jvm.Free.Multi.fill_old (T.setVm vm₁) cA comp n k (defaultValue .int) (a := a) ha n
  generalize Jvm.Free.Multi.fill (T.setVm vm₁) cA comp n k (defaultValue .int) n = U at X' step f1 f2 f3 f4
  rw [hTh] at f1 f2 f3 f4
  have k1 : va_at G.1 vwCl (H.size, .inl (G.2.1 1, n, .inr (.inr (.inr (.inr (fun j => some (H.size + 1 + j))))))) U.heap := by
    show U.heap[H.size]? = some (vp_cell (G.2.1 1) _)
    rw [f2, outer9 cA n H.size n (Nat.le_refl n), vp_cell_q, eA]
    exact congrArg some (arrV_congr fun j hj => by rw [if_pos hj]; rfl)
  have k2 : ∀ j, j < n → va_at G.1 vwCl (H.size + 1 + j, .inl (G.2.1 0, k, .inl (zA (fun _ => 0)))) U.heap := by
    intro j hj
    show U.heap[H.size + 1 + j]? = some (vp_cell (G.2.1 0) _)
    rw [f3 j hj, vp_cell_i, eC]
    show some ({ cls := comp, slots := Array.replicate k (defaultValue .int), vm := .none } : Cell) = _
    rw [arrV_new]
    rfl
  obtain ⟨t, a1, b1⟩ := kk U.heap k1 k2 (by rw [f1]; omega) f4 ⟨Nat.le_trans hS.1 (by rw [f1]; omega), fun q h1 h2 => (f4 q (Nat.lt_of_lt_of_le h1 hS.1)).trans (hS.2.1 q h1 h2), hS.2.2⟩ U rfl (by rw [show cells + (1 + n) = cells + 1 + n by omega, show slots + (n + n * k) = slots + n + n * k by omega]; exact X')
  exact ⟨t, step t (by rw [hT]; exact a1), b1⟩
/-- a new object -/
theorem z_new (hexec : p.tables.exec = Jvm.exec) (hb : c.code = cc) (hts : ∀ w ∈ lw_all, w.before args s = true) {own C : String} {T : u_T} {N ci index : Nat} (hin : ∀ w ∈ u_ws C T N, w ∈ lw_all) (ty : Nat → FieldType) (hty : ∀ k, k < N → parseFieldDescriptor (T k).2.2.1 = some (ty k)) (hown : s.vm.findClass own = some m.cls) (hcl : Cond.classLink own index C ∈ lw_all) (hinst : Cond.instantiable C N ∈ lw_all) (hini : Cond.initialized C ∈ lw_all)
    (hK : va_K G.1 vwCl (zT G) s) (hS : va_S D H0 H locs) (hc : vwCl[ci]? = some (C, T, N)) {fs : List Value} (hfs : ∀ j, j < N → defaultValue (ty j) = vp_V fs j) (hcells : cells + 1 ≤ R.cells) (hslots : slots + N ≤ R.slots) (hdg : decode cc pc = .ok (.new index, 3))
    (kk : ∀ H1 : Heap, va_at G.1 vwCl (H.size, .inr (ci, fs)) H1 → H1.size = H.size + 1 → (∀ q : Nat, q < H.size → H1[q]? = H[q]?) → va_S D H0 H1 locs → W p l e R s m args below meth c H1 locs (cells + 1) (slots + N) Q (F0 m (pc + 3) ls (.ref H.size :: rest))) : W p l e R s m args below meth c H locs cells slots Q (F0 m pc ls rest) := by
  have hKn := hK.1 ci _ hc
  refine W.newcK hexec hb hown (hts _ hcl) (hts _ hinst) (hts _ hini) rfl hdg hcells hslots hKn.2.1 rfl fun H1 kC hkC e1 z1 o1 => ?_
  exact kk H1 ⟨_, hc, (u_born ty hts hin hKn hkC e1 hty).to hfs⟩ z1 o1 ⟨Nat.le_trans hS.1 (by omega), fun x h1 h2 => (o1 x (Nat.lt_of_lt_of_le h1 hS.1)).trans (hS.2.1 x h1 h2), hS.2.2⟩
theorem z_obj (hexec : p.tables.exec = Jvm.exec) (hb : c.code = cc) (hts : ∀ w ∈ lw_all, w.before args s = true) {own : String} {idx a : Nat} (hown : s.vm.findClass own = some m.cls) (hlink : Cond.methodLink own idx Lib.objectInit ∈ lw_all) (hinst : Cond.instanceMethod Lib.objectInit ∈ lw_all) (hcode : Cond.code Lib.objectInit ⟨#[0xb1]⟩ 1 none ∈ lw_all) (hsize : ls.size = c.maxLocals) (hR : 1 ≤ R.frames ∧ 12 ≤ R.locals) (hd : decode cc pc = .ok (.invokespecial idx, 3))
    (kk : W p l e R s m args below meth c H locs cells slots Q (F0 m (pc + 3) ls [])) : W p l e R s m args below meth c H locs cells slots Q (F0 m pc ls [.ref a]) :=
  W.objInit hexec hb hown (hts _ hlink) (hts _ hinst) (hts _ hcode) (g := F0 m pc ls [.ref a]) rfl hsize rfl hd hR.1 (by show 2 * 0 + 0 + 12 ≤ R.locals; omega) kk
end ZM9
/-- constructors: what is asked at the start -/
def CI (l : Launch) (y : MethodName) (cc : ByteArray) (n f lo mc ms : Nat) (G : zG) (a : Nat) (A : Nat → Prop) (sz : Nat) (Pic Post : Heap → Prop) : Prop :=
  Met l y (lw_m y cc n none) (rmz f lo mc ms) (va_Pc [.ref a] (fun U => (GK G U ∧ OV U) ∧ (U.heap.size = sz ∧ Pic U.heap))) (QV A Post) mc ms A
theorem mi_of {l : Launch} {y : MethodName} {cc : ByteArray} {n f lo mc ms : Nat} {G : zG} {a : Nat} {A : Nat → Prop} {sz : Nat} {Pic Post : Heap → Prop} (hy : plainName y.cls = true) (hlen : 1 ≤ n)
    (body : ∀ (p : Program) (e : Env) (s : State) (m : MethodId) (below : List Frame) (meth : Method) (c : Code) (ls : Array Slot), BF p s m ([.ref a] : List Value).toArray meth c cc n none y.cls G → OV s → s.heap.size = sz → Pic s.heap → lv_has ls n [(0, .ref a)] → W p l e (rmz f lo mc ms) s m ([.ref a] : List Value).toArray below meth c s.heap [] 0 0 (MQ below (QV A Post) ([.ref a] : List Value).toArray s mc ms A) (F0 m 0 ls [])) :
    CI l y cc n f lo mc ms G a A sz Pic Post := by
  refine Met.ofW (cc := cc) (maxL := n) (ret := none) hy rfl ?_
  intro p e s m args below meth c s₁ B hml hv
  obtain ⟨rfl, ⟨hG, hO⟩, hsz, hP⟩ := hv
  have hts := atoms_spec (ws := lw_m y cc n none) B.pre
  have hl := lv_entry [Value.ref a] (n := n) hlen
  rw [lg_entry_eq]
  exact body p e s m below meth c _ ⟨B.exec, B.bytes, hml, B.returns, B.notSynchronized, findClass_of_methodNamed B.named, fun w hw => hts w (List.mem_cons_of_mem _ hw), hG⟩ hO hsz hP hl
theorem OV_call {G : zG} {s U : State} (h : OV s) (hW : s.WarmedH U.vm) : OV U := h.moved hW.alike
theorem Pi_blind (G : zG) (a : Nat) (sz : Nat) (Pic : Heap → Prop) : FrameBlind (va_Pc [.ref a] (fun U => (GK G U ∧ OV U) ∧ (U.heap.size = sz ∧ Pic U.heap))) := fun b U g mk h => ⟨h.1, ⟨GK_blind g mk b h.2.1.1, h.2.1.2.moved (State.WarmedH.refl U).alike⟩, h.2.2⟩

