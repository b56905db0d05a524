/-! the score's constructor -/
section ZS9
variable {p : Program} {l : Launch} {e : Env} {R : Room} {s : State} {m : MethodId} {args : Array Value} {below : List Frame} {meth : Method} {c : Code} {H : Heap} {locs : List Loc} {cells slots : Nat} {Q : State → Prop}
variable {cc : ByteArray} {pc : Nat} {ls : Array Slot} {rest st0 : List Value} {D : Nat → Prop} {H0 : Heap} {G : zG} {A A1 : Nat → Prop} {mc ms : Nat}
theorem z_anew (hexec : p.tables.exec = Jvm.exec) (hb : c.code = cc) (hts : ∀ w ∈ lw_all, w.before args s = true) (hov : OV s) {own : String} {index : Nat} (hown : s.vm.findClass own = some m.cls) (hcl : Cond.classLink own index RX1 ∈ lw_all) (hK : va_K G.1 vwCl (zT G) s) (hS : va_S D H0 H locs) {n : Nat} (hn : n ≤ 10)
    (hcells : cells + 1 ≤ R.cells) (hslots : slots + n ≤ R.slots) (hdg : decode cc pc = .ok (.anewarray index, 3))
    (kk : ∀ H1 : Heap, va_at G.1 vwCl (H.size, .inl (G.2.1 2, n, .inr (.inr (.inr (.inr (fun _ => none)))))) H1 → H1.size = H.size + 1 → (∀ q : Nat, q < H.size → H1[q]? = H[q]?) → va_S D H0 H1 locs →
      W p l e R s m args below meth c H1 locs (cells + 1) (slots + n) Q (F0 m (pc + 3) ls (.ref H.size :: rest))) : W p l e R s m args below meth c H locs cells slots Q (F0 m pc ls (.int (zI (n : Int)) :: rest)) := by
  have hcn : (zI (n : Int)).toNatClampNeg = n := by rw [zI_cl (by omega) (by omega)]; omega
  have hpn : ¬ zI (n : Int) < 0 := by
    rw [← zI_0, zI_lt ⟨by omega, by omega⟩ ⟨by omega, by omega⟩]; omega
  refine W.anew (C := RX1) hexec hb hown (hts _ hcl) (va_AO.use hov.2) rfl hdg rfl hpn (by rw [hcn]; omega) hcells (by rw [hcn]; exact hslots) fun cA kA comp f1 f2 f3 f4 => ?_
  obtain ⟨_, _, _, _, _, f9⟩ := (hK.2 2 _ rfl).2
  have eA : G.2.1 2 = cA := Option.some.inj (f9.symm.trans f1)
  rw [hcn]
  generalize hH1 : H.push ({ cls := cA, slots := Array.replicate n .null, vm := .none } : Cell) = H1
  have z1 : H1.size = H.size + 1 := by rw [← hH1, Array.size_push]
  have o1 : ∀ q : Nat, q < H.size → H1[q]? = H[q]? := fun q hq => by rw [← hH1, Array.getElem?_push, if_neg (Nat.ne_of_lt hq)]
  refine kk H1 ?_ z1 o1 ⟨Nat.le_trans hS.1 (by omega), fun x h1 h2 => (o1 x (Nat.lt_of_lt_of_le h1 hS.1)).trans (hS.2.1 x h1 h2), hS.2.2⟩
  show H1[H.size]? = some (vp_cell (G.2.1 2) _)
  rw [← hH1, Array.getElem?_push_size, eA, vp_cell_q, arrV_new]
  rfl
theorem z_aast (hexec : p.tables.exec = Jvm.exec) (hb : c.code = cc) (hK : va_K G.1 vwCl (zT G) s) (hS : va_S D H0 H locs) {a v n : Nat} (hD : D a) {f : Nat → Option Nat} {vs : List Value} (ha : va_at G.1 vwCl (a, .inl (G.2.1 2, n, .inr (.inr (.inr (.inr f))))) H) (hv : va_at G.1 vwCl (v, .inr (1, vs)) H) {i : Int} (hi : 0 ≤ i ∧ i < n) (hn : n ≤ 10) (hdg : decode cc pc = .ok (.aastore, 1))
    (kk : ∀ (H1 : Heap) (locs1 : List Loc), va_at G.1 vwCl (a, .inl (G.2.1 2, n, .inr (.inr (.inr (.inr (fun j => if j = i.toNat then some v else f j)))))) H1 → H1.size = H.size → (∀ q : Nat, q ≠ a → H1[q]? = H[q]?) → va_S D H0 H1 locs1 → W p l e R s m args below meth c H1 locs1 cells slots Q (F0 m (pc + 1) ls rest)) : W p l e R s m args below meth c H locs cells slots Q (F0 m pc ls (.ref v :: .int (zI i) :: .ref a :: rest)) := by
  have hcl := zI_cl hi.1 (by omega : i ≤ 2147483647)
  have hin := zI_in hi.1 hi.2 (by omega)
  have hlt : (zI i).toNatClampNeg < n := Nat.not_le.mp fun q => hin (Or.inr q)
  have h0 : ¬ zI i < 0 := fun q => hin (Or.inl q)
  obtain ⟨r', hr', cellV, g1, g2, g3, -⟩ := hv
  have hr : r' = (RX1, TX1, 12) := (Option.some.inj hr').symm
  subst hr
  have hcls := (hK.1 1 _ rfl).2
  obtain ⟨kA, comp, k1, k2, k3, -⟩ := (hK.2 2 _ rfl).2
  have hcomp : comp = G.1.1 1 := Option.some.inj (k3.symm.trans hcls.1)
  subst hcomp
  obtain ⟨kC, hkC, -⟩ := hcls.2
  refine W.aast hexec hb ha (fun q h => by cases h) (fun h => by cases h) k1 k2 rfl hkC ⟨h0, by show _ < (arrV _ _ _).slots.size; rw [arrV_size]; exact hlt⟩ g1 (fun q h => by rw [g3] at h; cases h) (by rw [g2]; exact hkC) (by rw [g2]; exact va_assign hcls) rfl rfl hdg fun H1 e z oq => ?_
  refine kk H1 _ ?_ z oq (hS.put z oq hD)
  show H1[a]? = some (vp_cell _ _)
  rw [e, vp_cell_q, vp_cell_q, arrV_store]
  refine congrArg some (arrV_congr fun j _ => ?_)
  unfold updV
  rw [hcl]
  by_cases q : j = i.toNat
  · rw [if_pos q]; show _ = va_rf (if j = i.toNat then some v else f j); rw [if_pos q]; rfl
  · rw [if_neg q]; show _ = va_rf (if j = i.toNat then some v else f j); rw [if_neg q]
theorem c_IN {y : MethodName} {bytes : ByteArray} {maxL nL f lo idx b : Nat} {own host : String} {Pic Post : Heap → Prop}
    (S : p.tables.exec = Jvm.exec ∧ c.code = cc ∧ c.maxLocals = nL ∧ s.vm.findClass own = some m.cls ∧ ∀ w ∈ lw_all, w.before args s = true) (hG : GK G s) (hov : OV s) (hS : va_S A s.heap H locs) (hA : ∀ q, A q → G.2.2 ≤ q)
    (hM : CI l y bytes maxL f lo mc ms G b A1 H.size Pic Post) (hw : (own, idx, y, host) ∈ nestM ∧ Cond.instanceMethod y ∈ lw_all ∧ Cond.initialized y.cls ∈ lw_all ∧ Cond.code y bytes maxL none ∈ lw_all) (hyn : y.name = "<init>")
    (hd : y.cls ≠ "java/lang/invoke/MethodHandle" ∧ y.cls ≠ "java/lang/invoke/VarHandle" ∧ (parseMethodDescriptor y.desc).map (fun d => d.parameters.length) = some 0)
    (hP : Pic H) (hR : f + 1 ≤ R.frames ∧ 8 + (maxL + 11) + lo ≤ R.locals) (hfit : cells + mc ≤ R.cells ∧ slots + ms ≤ R.slots) (hsize : ls.size = nL) (hcat : (rest.map fun v => v.category).sum ≤ 8) (hdg : decode cc pc = .ok (.invokespecial idx, 3)) :
    va_Run p l e R s m args below meth c H locs cells slots mc ms (F0 m pc ls (.ref b :: rest)) rest (QV A1 Post ([.ref b] : List Value).toArray) A1 := by
  obtain ⟨hx, hb, hml, hown, hts⟩ := S
  exact va_runIN (As := []) (rest := rest) (Ts := lw_all) (own := own) (host := host) ⟨hx, hb, hml, hown, hts⟩ hM ⟨va_cnB 0 hts (lw_inm hw.2.2.2) rfl rfl rfl (hG.2.2.1 _ hw.1) (hts _ hw.2.2.1) hd hR, hyn, hts _ hw.2.1⟩ ⟨Pi_blind G b H.size Pic, fun U hU hW => ⟨rfl, ⟨GK_call hG hS hA hU hW, OV_call (G := G) hov hW⟩, by rw [hU]; exact ⟨rfl, hP⟩⟩⟩ rfl rfl hsize rfl (lv_room hcat) hdg hfit
theorem c_I {y : MethodName} {bytes : ByteArray} {maxL nL f lo idx b : Nat} {own : String} {Pic Post : Heap → Prop}
    (S : p.tables.exec = Jvm.exec ∧ c.code = cc ∧ c.maxLocals = nL ∧ s.vm.findClass own = some m.cls ∧ ∀ w ∈ lw_all, w.before args s = true) (hG : GK G s) (hov : OV s) (hS : va_S A s.heap H locs) (hA : ∀ q, A q → G.2.2 ≤ q)
    (hM : CI l y bytes maxL f lo mc ms G b A1 H.size Pic Post) (hw : Cond.methodLink own idx y ∈ lw_all ∧ Cond.instanceMethod y ∈ lw_all ∧ Cond.initialized y.cls ∈ lw_all ∧ Cond.code y bytes maxL none ∈ lw_all) (hyn : y.name = "<init>")
    (hd : y.cls ≠ "java/lang/invoke/MethodHandle" ∧ y.cls ≠ "java/lang/invoke/VarHandle" ∧ (parseMethodDescriptor y.desc).map (fun d => d.parameters.length) = some 0)
    (hP : Pic H) (hR : f + 1 ≤ R.frames ∧ 8 + (maxL + 11) + lo ≤ R.locals) (hfit : cells + mc ≤ R.cells ∧ slots + ms ≤ R.slots) (hsize : ls.size = nL) (hcat : (rest.map fun v => v.category).sum ≤ 8) (hdg : decode cc pc = .ok (.invokespecial idx, 3)) :
    va_Run p l e R s m args below meth c H locs cells slots mc ms (F0 m pc ls (.ref b :: rest)) rest (QV A1 Post ([.ref b] : List Value).toArray) A1 := by
  obtain ⟨hx, hb, hml, hown, hts⟩ := S
  exact va_runI (As := []) (rest := rest) (Ts := lw_all) (own := own) ⟨hx, hb, hml, hown, hts⟩ hM (cwI 0 hts (lw_inm hw.2.2.2) rfl rfl rfl (hts _ hw.2.2.1) (hts _ hw.1) (hts _ hw.2.1) hyn hd hR) ⟨Pi_blind G b H.size Pic, fun U hU hW => ⟨rfl, ⟨GK_call hG hS hA hU hW, OV_call (G := G) hov hW⟩, by rw [hU]; exact ⟨rfl, hP⟩⟩⟩ rfl rfl hsize rfl (lv_room hcat) hdg hfit
end ZS9
/-- the places of the score: this at a, its cells from z on -/
def adS (a z : Nat) : Nat → Nat := fun k => if k = 0 then a else if k = 1 then z else if k = 2 then z + 1 else if k = 3 then z + 2 else if k = 4 then z + 7 else if k < 9 then z + k - 2 else z + k - 1
theorem adS_in {a z N : Nat} (ha : a < z) : ∀ i j, i < N → j < N → adS a z i = adS a z j → i = j := by
  intro i j _ _ h
  unfold adS at h
  repeat' split at h
  all_goals omega
theorem adS_lo {a z g : Nat} (h1 : g ≤ a) (h2 : g ≤ z) : ∀ k, g ≤ adS a z k := fun k => by
  unfold adS
  repeat' split
  all_goals omega
def gs0 : Nat → Int := fun k => if k = 1 then 96 else if k = 2 then 384 else 0
