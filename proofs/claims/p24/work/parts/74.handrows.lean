/-! rows for the Hand: arrays of references made, read, written; answers that are only bounded; answers that are references; shifts, masks -/
def QRB (P : Int → Prop) : Array Value → State → Outcome → State → Prop := fun _ st o t => ∃ r : Int, P r ∧ o = .returned (some (.int (zI r))) ∧ t.heap = st.heap
/-- a reader whose answer is bounded -/
def MRB (l : Launch) (y : MethodName) (cc : ByteArray) (n : Nat) (ret : Option FieldType) (f lo : Nat) (G : zG) (av : List Value) (Pic : Heap → Prop) (P : Int → Prop) : Prop :=
  Met l y (lw_m y cc n ret) (rmz f lo 0 0) (va_Pc av (fun U => GK G U ∧ Pic U.heap)) (QRB P) 0 0 (fun _ => False)
def QWA (A : Nat → Prop) (Post : Nat → Heap → Prop) : Array Value → State → Outcome → State → Prop := fun _ st o t => ∃ r : Nat, o = .returned (some (.ref r)) ∧ Post r t.heap ∧ va_F A st t
theorem mrb_of {l : Launch} {y : MethodName} {cc : ByteArray} {n f lo : Nat} {ret : Option FieldType} {G : zG} {av : List Value} {Pic : Heap → Prop} {P : Int → Prop} (hy : plainName y.cls = true) (hlen : (lg_sl av).length ≤ n) (body : ∀ (p : Program) (e : Env) (s : State) (m : MethodId) (below : List Frame) (meth : Method) (c : Code) (ls : Array Slot), BF p s m av.toArray meth c cc n ret y.cls G → Pic s.heap → lv_has ls n (lv_args 0 av) → W p l e (rmz f lo 0 0) s m av.toArray below meth c s.heap [] 0 0 (MQ below (QRB P) av.toArray s 0 0 (fun _ => False)) (F0 m 0 ls [])) : MRB l y cc n ret f lo G av Pic P := zm_of hy hlen body
theorem mrb_ofF {l : Launch} {y : MethodName} {cc : ByteArray} {n f lo : Nat} {ret : Option FieldType} {G : zG} {av : List Value} {Pic : Heap → Prop} {P : Int → Prop} (hy : plainFor y = true) (hlen : (lg_sl av).length ≤ n) (body : ∀ (p : Program) (e : Env) (s : State) (m : MethodId) (below : List Frame) (meth : Method) (c : Code) (ls : Array Slot), BF p s m av.toArray meth c cc n ret y.cls G → Pic s.heap → lv_has ls n (lv_args 0 av) → W p l e (rmz f lo 0 0) s m av.toArray below meth c s.heap [] 0 0 (MQ below (QRB P) av.toArray s 0 0 (fun _ => False)) (F0 m 0 ls [])) : MRB l y cc n ret f lo G av Pic P := zm_ofF hy hlen body
section ZHR
variable {p : Program} {l : Launch} {e : Env} {R : Room} {s : State} {m : MethodId} {args : Array Value} {below : List Frame} {meth : Method} {c : Code} {H : Heap} {locs : List Loc} {cells slots : Nat} {Q : State → Prop}
variable {cc : ByteArray} {pc : Nat} {ls : Array Slot} {rest st0 : List Value} {A A1 : Nat → Prop} {H0 : Heap} {G : zG} {v : Value} {mc ms : Nat} {free : Addr → Prop} {a : Array Value} {D : Nat → Prop}
theorem k_RB {P : Int → Prop} (hr : va_Run p l e R s m args below meth c H locs cells slots 0 0 (F0 m pc ls st0) rest (QRB P a) (fun _ => False)) (kk : ∀ r : Int, P r → W p l e R s m args below meth c H locs cells slots Q (F0 m (pc + 3) ls (.int (zI r) :: rest))) : W p l e R s m args below meth c H locs cells slots Q (F0 m pc ls st0) := by
  intro T hT X
  obtain ⟨v9, st₀, t, T', L, h0, X', hL, e1, e2, ⟨r, hp, hv, hh⟩, st⟩ := hr T hT X
  cases hv
  have hLn : L = [] := by
    cases L with
    | nil => rfl
    | cons z L => exact absurd (hL z List.mem_cons_self) id
  subst hLn
  rw [List.append_nil] at X'
  obtain ⟨t2, a1, b1⟩ := kk r hp T' (by rw [e1, hh, h0]) X'
  exact ⟨t2, st t2 a1, b1⟩
theorem e_RB {r : Int} {P : Int → Prop} {ty : FieldType} (hexec : p.tables.exec = Jvm.exec) (hb : c.code = cc) (hr : meth.sig.returnType = some ty) (hlk : meth.locks = false) (hn : narrow ty (.int (zI r)) = .int (zI r)) (hq : P r) (hdg : decode cc pc = .ok (.ireturn, 1)) : W p l e R s m args below meth c s.heap [] 0 0 (MQ below (QRB P) args s 0 0 (fun _ => False)) (F0 m pc ls [.int (zI r)]) :=
  W.zret hexec hb hr hn (fun t ht hW => ⟨r, hq, rfl, ht⟩) (fun q h => nomatch h) hdg hlk
theorem k_Wa {Post : Nat → Heap → Prop} (hr : va_Run p l e R s m args below meth c H locs cells slots mc ms (F0 m pc ls st0) rest (QWA A1 Post a) A1) (hS : va_S A H0 H locs) (hA : ∀ q, A1 q → A q)
    (kk : ∀ (r : Nat) (H1 : Heap) (locs1 : List Loc), Post r H1 → H.size ≤ H1.size → (∀ q : Nat, q < H.size → ¬ A1 q → H1[q]? = H[q]?) → va_S A H0 H1 locs1 → W p l e R s m args below meth c H1 locs1 (cells + mc) (slots + ms) Q (F0 m (pc + 3) ls (.ref r :: rest))) : W p l e R s m args below meth c H locs cells slots Q (F0 m pc ls st0) := by
  intro T hT X
  obtain ⟨v9, st₀, t, T', L, h0, X', hL, e1, e2, ⟨r, hv, hp, hF⟩, st⟩ := hr T hT X
  cases hv
  obtain ⟨k1, k2, k3⟩ := k_keep h0 e1 hS hA hL hF
  obtain ⟨t2, a1, b1⟩ := kk r T'.heap _ (by rw [e1]; exact hp) k1 k2 k3 T' rfl X'
  exact ⟨t2, st t2 a1, b1⟩
theorem e_Wa {r : Nat} {Post : Nat → Heap → Prop} {ty : FieldType} (hexec : p.tables.exec = Jvm.exec) (hb : c.code = cc) (hr : meth.sig.returnType = some ty) (hty : (∃ n, ty = .object n) ∨ ∃ t, ty = .array t) (hlk : meth.locks = false) (hS : va_S A s.heap H locs) (hc : cells ≤ mc) (hs : slots ≤ ms) (hq : Post r H) (hdg : decode cc pc = .ok (.areturn, 1)) : W p l e R s m args below meth c H locs cells slots (MQ below (QWA A Post) args s mc ms A) (F0 m pc ls [.ref r]) :=
  W.widen hc hs (W.aret hexec hb hr hty (Or.inr ⟨_, rfl⟩) (fun t ht hW => ⟨r, rfl, by rw [ht]; exact hq, hS.F ht⟩) hS.2.2 hdg hlk)
theorem c_VB {y : MethodName} {bytes : ByteArray} {maxL nL n f lo idx : Nat} {ret : Option FieldType} {own C : String} {b : Nat} {As : List Value} {Pic : Heap → Prop} {P : Int → Prop}
    (S : p.tables.exec = Jvm.exec ∧ c.code = cc ∧ c.maxLocals = nL ∧ s.vm.findClass own = some m.cls ∧ ∀ w ∈ lw_all, w.before args s = true) (hG : GK G s) (hS : va_S A s.heap H locs) (hA : ∀ q, A q → G.2.2 ≤ q)
    (hM : MRB l y bytes maxL ret f lo G (.ref b :: As) Pic P)
    (hw : Cond.methodLink own idx y ∈ lw_all ∧ Cond.instanceMethod y ∈ lw_all ∧ Cond.selects C y y ∈ lw_all ∧ Cond.initialized C ∈ lw_all ∧ Cond.code y bytes maxL ret ∈ lw_all)
    (hd : y.cls = C ∧ y.cls ≠ "java/lang/invoke/MethodHandle" ∧ y.cls ≠ "java/lang/invoke/VarHandle" ∧ (parseMethodDescriptor y.desc).map (fun d => d.parameters.length) = some n)
    (hrec : ∃ cell : Cell, H[b]? = some cell ∧ cell.vm.isStatics = false ∧ s.vm.findClass C = some cell.cls) (hP : Pic H) (hR : f + 1 ≤ R.frames ∧ 8 + (maxL + 11) + lo ≤ R.locals) (hfit : cells ≤ R.cells ∧ slots ≤ R.slots)
    (hn : As.length = n) (hsize : ls.size = nL) (hstack : st0 = As.reverse ++ .ref b :: rest) (hcat : (rest.map fun v => v.category).sum ≤ 8) (hdg : decode cc pc = .ok (.invokevirtual idx, 3)) :
    va_Run p l e R s m args below meth c H locs cells slots 0 0 (F0 m pc ls st0) rest (QRB P (Value.ref b :: As).toArray) (fun _ => False) := c_V S hG hS hA hM hw hd hrec hP hR hfit hn hsize hstack hcat hdg
theorem c_SB {y : MethodName} {bytes : ByteArray} {maxL nL n f lo idx : Nat} {ret : Option FieldType} {own : String} {As : List Value} {Pic : Heap → Prop} {P : Int → Prop}
    (S : p.tables.exec = Jvm.exec ∧ c.code = cc ∧ c.maxLocals = nL ∧ s.vm.findClass own = some m.cls ∧ ∀ w ∈ lw_all, w.before args s = true) (hG : GK G s) (hS : va_S A s.heap H locs) (hA : ∀ q, A q → G.2.2 ≤ q)
    (hM : MRB l y bytes maxL ret f lo G (As) Pic P)
    (hw : Cond.methodLink own idx y ∈ lw_all ∧ Cond.static y ∈ lw_all ∧ Cond.initialized y.cls ∈ lw_all ∧ Cond.code y bytes maxL ret ∈ lw_all)
    (hd : y.cls ≠ "java/lang/invoke/MethodHandle" ∧ y.cls ≠ "java/lang/invoke/VarHandle" ∧ (parseMethodDescriptor y.desc).map (fun d => d.parameters.length) = some n)
    (hP : Pic H) (hR : f + 1 ≤ R.frames ∧ 8 + (maxL + 11) + lo ≤ R.locals) (hfit : cells ≤ R.cells ∧ slots ≤ R.slots)
    (hn : As.length = n) (hsize : ls.size = nL) (hstack : st0 = As.reverse ++ rest) (hcat : (rest.map fun v => v.category).sum ≤ 8) (hdg : decode cc pc = .ok (.invokestatic idx, 3)) :
    va_Run p l e R s m args below meth c H locs cells slots 0 0 (F0 m pc ls st0) rest (QRB P As.toArray) (fun _ => False) := c_S S hG hS hA hM hw hd hP hR hfit hn hsize hstack hcat hdg
/-! arrays of references -/
abbrev va_refs (G : zG) (t n : Nat) (f : Nat → Option Nat) : va_E := .inl (G.2.1 t, n, .inr (.inr (.inr (.inr f))))
theorem z_alenA (hexec : p.tables.exec = Jvm.exec) (hb : c.code = cc) (hK : va_K G.1 vwCl (zT G) s) {t0 n x : Nat} {ty : FieldType} {f : Nat → Option Nat} (ht : (zT G)[t0]? = some (G.2.1 t0, ty)) (hc : va_at G.1 vwCl (x, va_refs G t0 n f) H) (hdg : decode cc pc = .ok (.arraylength, 1))
    (k : W p l e R s m args below meth c H locs cells slots Q (F0 m (pc + 1) ls (.int (zI (n : Int)) :: rest))) : W p l e R s m args below meth c H locs cells slots Q (F0 m pc ls (.ref x :: rest)) :=
  va_alen hexec hb hK (P1 hc) 0 t0 rfl ht (v := zI (n : Int)) (zI_nat n).symm hdg k
theorem z_anewA (hexec : p.tables.exec = Jvm.exec) (hb : c.code = cc) (hts : ∀ w ∈ lw_all, w.before args s = true) {own : String} {index t0 : Nat} {t : FieldType} (hov : va_Nw (.arrayOver (.array t)) s) (hown : s.vm.findClass own = some m.cls) (hcl : Cond.classLink own index (FieldType.array t).toString ∈ lw_all) (hK : va_K G.1 vwCl (zT G) s) (ht : (zT G)[t0]? = some (G.2.1 t0, .array t)) (hS : va_S D H0 H locs) {n : Nat} (hn : n ≤ 1000)
    (hcells : cells + 1 ≤ R.cells) (hslots : slots + n ≤ R.slots) (hdg : decode cc pc = .ok (.anewarray index, 3))
    (kk : ∀ H1 : Heap, va_at G.1 vwCl (H.size, va_refs G t0 n (fun _ => none)) H1 → H1.size = H.size + 1 → (∀ q : Nat, q < H.size → H1[q]? = H[q]?) → va_S D H0 H1 locs →
      W p l e R s m args below meth c H1 locs (cells + 1) (slots + n) Q (F0 m (pc + 3) ls (.ref H.size :: rest))) : W p l e R s m args below meth c H locs cells slots Q (F0 m pc ls (.int (zI (n : Int)) :: rest)) := by
  have hcn : (zI (n : Int)).toNatClampNeg = n := by rw [zI_cl (by omega) (by omega)]; omega
  have hpn : ¬ zI (n : Int) < 0 := by
    rw [← zI_0, zI_lt ⟨by omega, by omega⟩ ⟨by omega, by omega⟩]; omega
  refine W.anewA (t := t) hexec hb hown (hts _ hcl) hov rfl hdg rfl hpn (by rw [hcn]; omega) hcells (by rw [hcn]; exact hslots) fun cA kA comp f1 f2 f3 f4 => ?_
  have eA : G.2.1 t0 = cA := Option.some.inj ((hK.2 t0 _ ht).2.symm.trans f1)
  rw [hcn]
  generalize hH1 : H.push ({ cls := cA, slots := Array.replicate n .null, vm := .none } : Cell) = H1
  have z1 : H1.size = H.size + 1 := by rw [← hH1, Array.size_push]
  have o1 : ∀ q : Nat, q < H.size → H1[q]? = H[q]? := fun q hq => by rw [← hH1, Array.getElem?_push, if_neg (Nat.ne_of_lt hq)]
  refine kk H1 ?_ z1 o1 ⟨Nat.le_trans hS.1 (by omega), fun x h1 h2 => (o1 x (Nat.lt_of_lt_of_le h1 hS.1)).trans (hS.2.1 x h1 h2), hS.2.2⟩
  show H1[H.size]? = some (vp_cell (G.2.1 t0) _)
  rw [← hH1, Array.getElem?_push_size, eA, vp_cell_q, arrV_new]
  rfl
theorem z_aastA (hexec : p.tables.exec = Jvm.exec) (hb : c.code = cc) (hK : va_K G.1 vwCl (zT G) s) {t0 t1 : Nat} {t : FieldType} (hov : va_Nw (.arrayOver (.array t)) s) (h0 : s.vm.findClass ("[" ++ (FieldType.array t).toString) = some (G.2.1 t0)) (h1 : s.vm.findClass (FieldType.array t).toString = some (G.2.1 t1)) (hS : va_S D H0 H locs) {x v n : Nat} (hD : D x) {f : Nat → Option Nat} {n1 : Nat} {y : vp_A} (hy : y.1 = n1) (ha : va_at G.1 vwCl (x, va_refs G t0 n f) H) (hv : va_at G.1 vwCl (v, .inl (G.2.1 t1, y)) H) {i : Int} (hi : 0 ≤ i ∧ i < n) (hn : n ≤ 1000) (hdg : decode cc pc = .ok (.aastore, 1))
    (kk : ∀ (H1 : Heap) (locs1 : List Loc), va_at G.1 vwCl (x, va_refs G t0 n (fun j => if j = i.toNat then some v else f j)) H1 → H1.size = H.size → (∀ q : Nat, q ≠ x → H1[q]? = H[q]?) → va_S D H0 H1 locs1 → W p l e R s m args below meth c H1 locs1 cells slots Q (F0 m (pc + 1) ls rest)) : W p l e R s m args below meth c H locs cells slots Q (F0 m pc ls (.ref v :: .int (zI i) :: .ref x :: rest)) := by
  have hcl := zI_cl hi.1 (by omega : i ≤ 2147483647)
  have hin := zI_in hi.1 hi.2 (by omega)
  have hlt : (zI i).toNatClampNeg < n := Nat.not_le.mp fun q => hin (Or.inr q)
  have hn0 : ¬ zI i < 0 := fun q => hin (Or.inl q)
  obtain ⟨comp, cA, kA, hcomp, hidx, hkA, hkindA, hnameA⟩ := arrayOverA_spec hov
  have ec : G.2.1 t1 = comp := Option.some.inj (h1.symm.trans hcomp)
  have eA : G.2.1 t0 = cA := Option.some.inj (h0.symm.trans hnameA)
  obtain ⟨kC, hkC, -⟩ := Vm.findClass_spec hcomp
  subst ec
  subst eA
  have hkv : (vp_cell (G.2.1 t1) y).cls = G.2.1 t1 := by obtain ⟨a9, b9⟩ := y; rcases b9 with b9 | b9 | b9 | b9 | b9 <;> rfl
  have hvo : ∀ q, (vp_cell (G.2.1 t1) y).vm ≠ .statics q := by obtain ⟨a9, b9⟩ := y; rcases b9 with b9 | b9 | b9 | b9 | b9 <;> (intro q h; cases h)
  refine W.aast hexec hb ha (fun q h => by cases h) (fun h => by cases h) hkA hkindA rfl hkC ⟨hn0, by show _ < (arrV _ _ _).slots.size; rw [arrV_size]; exact hlt⟩ (cv := vp_cell (G.2.1 t1) y) hv hvo (by rw [hkv]; exact hkC) (by rw [hkv]; exact va_asg _ _) rfl rfl hdg fun H1 e z oq => ?_
  refine kk H1 _ ?_ z oq (hS.put z oq hD)
  show H1[x]? = some (vp_cell _ _)
  rw [e, vp_cell_q, vp_cell_q, arrV_store]
  refine congrArg some (arrV_congr fun j _ => ?_)
  unfold updV
  rw [hcl]
  by_cases q : j = i.toNat
  · rw [if_pos q]; show _ = va_rf (if j = i.toNat then some v else f j); rw [if_pos q]; rfl
  · rw [if_neg q]; show _ = va_rf (if j = i.toNat then some v else f j); rw [if_neg q]
/-! numbers of which only bounds are wanted -/
theorem z_ishrB (hexec : p.tables.exec = Jvm.exec) (hb : c.code = cc) {x y : Int} (hdg : decode cc pc = .ok (.ishr, 1)) (k : ∀ r : Int, -2147483648 ≤ r ∧ r ≤ 2147483647 → W p l e R s m args below meth c H locs cells slots Q (F0 m (pc + 1) ls (.int (zI r) :: rest))) : W p l e R s m args below meth c H locs cells slots Q (F0 m pc ls (.int (zI y) :: .int (zI x) :: rest)) :=
  lv_ishr hexec hb hdg (by
    generalize zI x >>> (zI y &&& 31) = w
    have q := k w.toInt (zI_rng w)
    rw [zI_of] at q
    exact q)
theorem z_i2cB (hexec : p.tables.exec = Jvm.exec) (hb : c.code = cc) {x : Int} (hdg : decode cc pc = .ok (.i2c, 1)) (k : ∀ r : Int, -2147483648 ≤ r ∧ r ≤ 2147483647 → W p l e R s m args below meth c H locs cells slots Q (F0 m (pc + 1) ls (.int (zI r) :: rest))) : W p l e R s m args below meth c H locs cells slots Q (F0 m pc ls (.int (zI x) :: rest)) :=
  lv_i2c hexec hb hdg rfl (by
    generalize ((zI x).toUInt32 % 65536).toInt32 = w
    have q := k w.toInt (zI_rng w)
    rw [zI_of] at q
    exact q)
theorem z_i2bB (hexec : p.tables.exec = Jvm.exec) (hb : c.code = cc) {x : Int} (hdg : decode cc pc = .ok (.i2b, 1)) (k : ∀ r : Int, -2147483648 ≤ r ∧ r ≤ 2147483647 → W p l e R s m args below meth c H locs cells slots Q (F0 m (pc + 1) ls (.int (zI r) :: rest))) : W p l e R s m args below meth c H locs cells slots Q (F0 m pc ls (.int (zI x) :: rest)) :=
  lv_i2b hexec hb hdg rfl (by
    generalize (zI x).toInt8.toInt32 = w
    have q := k w.toInt (zI_rng w)
    rw [zI_of] at q
    exact q)
theorem z_iandM (hexec : p.tables.exec = Jvm.exec) (hb : c.code = cc) {x : Int} (hdg : decode cc pc = .ok (.iand, 1)) (k : ∀ r : Int, 0 ≤ r ∧ r ≤ 2147483647 → W p l e R s m args below meth c H locs cells slots Q (F0 m (pc + 1) ls (.int (zI r) :: rest))) : W p l e R s m args below meth c H locs cells slots Q (F0 m pc ls (.int (zI 2147483647) :: .int (zI x) :: rest)) :=
  lv_iand hexec hb hdg (by
    have hge : 0 ≤ (zI x &&& zI 2147483647).toInt := by
      obtain ⟨j, hj, e2⟩ := pk_andE (zI x) (m := 2147483647) 31 (by decide)
      rw [show zI 2147483647 = (2147483647 : Int32) from rfl, e2, nI_toInt (by omega)]
      omega
    generalize zI x &&& zI 2147483647 = w at hge
    have q := k w.toInt ⟨hge, (zI_rng w).2⟩
    rw [zI_of] at q
    exact q)
def sh2 (r : Int) : Int := if r = 0 then 1 else if r = 1 then 2 else if r = 2 then 4 else if r = 3 then 8 else if r = 4 then 16 else 32
theorem z_ishl (hexec : p.tables.exec = Jvm.exec) (hb : c.code = cc) {x r : Int} (hx : x = 1 ∨ x = 2) (hr : 0 ≤ r ∧ r ≤ 5) (hdg : decode cc pc = .ok (.ishl, 1)) (k : W p l e R s m args below meth c H locs cells slots Q (F0 m (pc + 1) ls (.int (zI (x * sh2 r)) :: rest))) : W p l e R s m args below meth c H locs cells slots Q (F0 m pc ls (.int (zI r) :: .int (zI x) :: rest)) :=
  lv_ishl hexec hb hdg (by
    have e9 : zI x <<< (zI r &&& 31) = zI (x * sh2 r) := by
      rcases hx with rfl | rfl <;> rcases (by omega : r = 0 ∨ r = 1 ∨ r = 2 ∨ r = 3 ∨ r = 4 ∨ r = 5) with rfl | rfl | rfl | rfl | rfl | rfl <;> decide
    rw [e9]
    exact k)
end ZHR
