section ZF9
variable {p : Program} {l : Launch} {e : Env} {R : Room} {s : State} {m : MethodId} {args : Array Value} {below : List Frame} {meth : Method} {c : Code} {H : Heap} {locs : List Loc} {cells slots : Nat} {Q : State → Prop}
variable {cc : ByteArray} {pc : Nat} {ls : Array Slot} {rest : List Value} {A : Nat → Prop} {H0 : Heap} {a : Nat}
theorem z_putF (hexec : p.tables.exec = Jvm.exec) (hb : c.code = cc) {G : zG} (hK : va_K G.1 vwCl (zT G) s) (hts : ∀ w ∈ lw_all, w.before args s = true) {own C : String} {T : u_T} {N ci index : Nat} (hin : ∀ w ∈ u_ws C T N, w ∈ lw_all) (ty0 : Nat → FieldType) (hty : ∀ k, k < N → parseFieldDescriptor (T k).2.2.1 = some (ty0 k)) (hnm : ∀ a, a < N → ∀ b, b < N → a ≠ b → (T a).2.1 ≠ (T b).2.1) (hown : s.vm.findClass own = some m.cls) (hS0 : va_S A H0 H locs) (hA : A a) {fs : List Value} (he : va_at G.1 vwCl (a, .inr (ci, fs)) H) (hc : vwCl[ci]? = some (C, T, N)) (k : Nat) (hk : k < N) (hlink : Cond.fieldLink own index (T k).1 (T k).2.1 (T k).2.2.1 ∈ lw_all) (hfin : (T k).2.2.2 = true) (hin2 : meth.name = "<init>") (hdecl : (T k).1 = own) {v : Value} (hn : narrow (ty0 k) v = v) (hfit : fits (ty0 k) v = true) (hl : k < fs.length)
    (hdg : decode cc pc = .ok (.putfield index, 3)) (kk : ∀ (H1 : Heap) (locs1 : List Loc), va_at G.1 vwCl (a, .inr (ci, fs.set k v)) H1 → H1.size = H.size → (∀ q : Nat, q ≠ a → H1[q]? = H[q]?) → va_S A H0 H1 locs1 → W p l e R s m args below meth c H1 locs1 cells slots Q (F0 m (pc + 3) ls rest)) : W p l e R s m args below meth c H locs cells slots Q (F0 m pc ls (v :: .ref a :: rest)) := by
  have hap := va_apart (own := own) hts hin ty0 hty hnm hK hc
  obtain ⟨r, h1, cell, q1, q2, q3, q4⟩ := he
  have hr : r = (C, T, N) := Option.some.inj (h1.symm.trans hc)
  subst hr
  obtain ⟨hS, hfc, kC, hkC, hkind⟩ := hK.1 ci _ hc
  obtain ⟨cf, kf, fi, f, hi, hsl⟩ := hS k hk
  have hlay := hts _ (hin _ (u_in_lay hk))
  unfold u_lay at hlay
  rw [if_pos hfin] at hlay
  have hst := (u_facts hfc hkC (u_lays hts hin hk) hi).1
  have hcf : m.cls = cf := by
    obtain ⟨_, _, c', _, _, _, -, -, hf', -, -, -, hown2, -⟩ := Cond.laysFinal_spec hlay
    have e1 : c' = cf := by have := hi.symm.trans hf'; simp at this; exact this.1.symm
    rw [hdecl] at hown2
    rw [← e1]; exact Option.some.inj (hown.symm.trans hown2)
  have h6 := u_fits hfc hkC hkind (Or.inr hlay) hi (hty k hk) hn hfit
  refine W.putFinK hexec hb hown (hts _ hlink) hi hst hcf hin2 (by rw [q2]; exact h6) q1 q3 (by rw [hsl]; exact k2_hasslot (q4 k hk)) rfl rfl hdg fun H' e1 e2 e3 => ?_
  rw [hsl] at e1 ⊢
  exact kk H' _ ⟨_, hc, t_OB.to (V := updV (vp_V fs) k v) ⟨_, e1, q2, q3, t_set q4 hap hk v⟩ (fun j _ => vp_updV_set hl v j)⟩ e2 e3 (hS0.put e2 e3 hA)
end ZF9
theorem ci_of {l : Launch} {y : MethodName} {cc : ByteArray} {n f lo mc ms : Nat} {G : zG} {a : Nat} {A : Nat → Prop} {sz : Nat} {Pic Post : Heap → Prop} (hy : plainName y.cls = true) (hlen : 1 ≤ n) (hyn : y.name = "<init>")
    (body : ∀ (p : Program) (e : Env) (s : State) (m : MethodId) (below : List Frame) (meth : Method) (c : Code) (ls : Array Slot), BF p s m ([.ref a] : List Value).toArray meth c cc n none y.cls G → meth.name = "<init>" → OV s → s.heap.size = sz → Pic s.heap → lv_has ls n [(0, .ref a)] → W p l e (rmz f lo mc ms) s m ([.ref a] : List Value).toArray below meth c s.heap [] 0 0 (MQ below (QV A Post) ([.ref a] : List Value).toArray s mc ms A) (F0 m 0 ls [])) :
    CI l y cc n f lo mc ms G a A sz Pic Post := by
  refine Met.ofW (cc := cc) (maxL := n) (ret := none) hy rfl ?_
  intro p e s m args below meth c s₁ B hml hv
  obtain ⟨rfl, ⟨hG, hO⟩, hsz, hP⟩ := hv
  have hts := atoms_spec (ws := lw_m y cc n none) B.pre
  have hl := lv_entry [Value.ref a] (n := n) hlen
  rw [lg_entry_eq]
  exact body p e s m below meth c _ ⟨B.exec, B.bytes, hml, B.returns, B.notSynchronized, findClass_of_methodNamed B.named, fun w hw => hts w (List.mem_cons_of_mem _ hw), hG⟩ ((name_of_methodNamed B.named B.method).1.trans hyn) hO hsz hP hl
theorem q_o_RX0 : Cond.methodLink RX0 3 Lib.objectInit ∈ lw_all := by decide +kernel
theorem q_o_RX1 : Cond.methodLink RX1 3 Lib.objectInit ∈ lw_all := by decide +kernel
theorem q_o_RX2 : Cond.methodLink RX2 1 Lib.objectInit ∈ lw_all := by decide +kernel
theorem q_o_RX3 : Cond.methodLink RX3 1 Lib.objectInit ∈ lw_all := by decide +kernel
theorem q_o_im : Cond.instanceMethod Lib.objectInit ∈ lw_all := by decide +kernel
theorem q_o_code : Cond.code Lib.objectInit ⟨#[0xb1]⟩ 1 none ∈ lw_all := by decide +kernel
/-- this at a, the cells made from z on -/
def adI (a z : Nat) : Nat → Nat := fun k => if k = 0 then a else z + k - 1
theorem adI_in {a z N : Nat} (ha : a < z) : ∀ i j, i < N → j < N → adI a z i = adI a z j → i = j := by
  intro i j _ _ h
  unfold adI at h
  split at h <;> split at h <;> omega
theorem adI_lo {a z g : Nat} (h1 : g ≤ a) (h2 : g ≤ z) : ∀ k, g ≤ adI a z k := fun k => by
  unfold adI
  split <;> omega
abbrev AI (a z : Nat) : Nat → Prop := fun q => q = a ∨ z ≤ q
def f0 : Nat → Int → Int := fun _ _ => 0
def fv1 : Nat → Int := fun k => if k < 5 then 0 else -1
theorem adI_at {a z k m : Nat} (h : k = m + 1) : adI a z k = z + m := by
  unfold adI
  rw [if_neg (by omega)]
  omega
theorem adI_fn (a z b c : Nat) (h : b = c + 1) : (fun j => some (adI a z (b + j))) = (fun j => some (z + c + j)) := funext fun j => congrArg some (by rw [adI_at (m := c + j) (by omega)]; omega)
set_option maxHeartbeats 2000000 in
theorem c_X1_init (l : Launch) (G : zG) (a sz : Nat) (ha : G.2.2 ≤ a) : CI l yX1_init cX1_init 1 1 20 20 3141 G a (AI a sz) sz (fun H => va_at G.1 vwCl (a, .inr (1, [.null, .null, .null, .null, .null, .int 0, .int 0, .int 0, .int 0, .int 0, .int 0, .int 0])) H) (fun H => VP G (adI a sz) f0 f0 f0 f0 fv1 H ∧ H.size = sz + 20) := by
  refine ci_of hp_X1_init (Nat.le_of_ble_eq_true rfl) rfl ?_
  intro p env s m below meth c ls hB hin2 hov hsz hT hl
  obtain ⟨hx, hb, hml, hr, hlk, hown, hts, hG⟩ := hB
  have hK := hG.1
  have hz : s.heap.size = sz := hsz
  have haz : a < sz := by rw [← hsz]; exact hT.lt
  have hgz : G.2.2 ≤ sz := by rw [← hsz]; exact hG.2.1
  have hS : va_S (AI a sz) s.heap s.heap [] := va_S.rf
  refine lv_aload_n hx hb dX1_init_0 rfl (lv_at hl 0 rfl) ?_
  refine z_obj hx hb hts hown q_o_RX1 q_o_im q_o_code (hl.1.trans hml.symm) ⟨by decide, by decide⟩ dX1_init_1 ?_
  refine lv_aload_n hx hb dX1_init_4 rfl (lv_at hl 0 rfl) ?_
  refine z_bipush hx hb dX1_init_5 (by decide) ?_
  refine z_sipush hx hb dX1_init_7 (by decide) ?_
  refine z_mna hx hb hts hov hown q_cl_RX1_9 hK hS (n := 9) (k := 200) (by decide) (by decide) (by show 0 + _ ≤ _; exact Nat.le_of_ble_eq_true rfl) (by show 0 + _ ≤ _; exact Nat.le_of_ble_eq_true rfl) dX1_init_10 (fun H2 g10 g10r hz2 ho hS => ?_)
  rw [hz] at g10 g10r hz2 ⊢
  have hT := hT.push ho
  have hz := hz2
  have hz : H2.size = sz + 10 := by rw [hz]
  refine z_putF (C := RX1) (T := TX1) (N := 12) (v := .ref (sz + 0)) hx hb hK hts u_in_X1 tyX1 tyX1_ok nmX1 hown hS (Or.inl rfl) hT rfl 0 (by decide) q_fl_RX1_11 rfl hin2 rfl rfl rfl (by show 0 < 12; decide) dX1_init_14 (fun H2 locs hT hz2 ho hS => ?_)
  have g10 := g10.kept (ho _ (by show sz + 0 ≠ a; omega))
  have g10r := fun j hj => (g10r j hj).kept (ho _ (by show sz + 0 + 1 + j ≠ a; omega))
  have hz := hz2.trans hz
  refine lv_aload_n hx hb dX1_init_17 rfl (lv_at hl 0 rfl) ?_
  refine z_iconst hx hb dX1_init_18 ?_
  refine z_sipush hx hb dX1_init_19 (by decide) ?_
  refine z_mna hx hb hts hov hown q_cl_RX1_9 hK hS (n := 3) (k := 200) (by decide) (by decide) (by show 0 + (1 + 9) + _ ≤ _; exact Nat.le_of_ble_eq_true rfl) (by show 0 + (9 + 9 * 200) + _ ≤ _; exact Nat.le_of_ble_eq_true rfl) dX1_init_22 (fun H2 g22 g22r hz2 ho hS => ?_)
  rw [hz] at g22 g22r hz2 ⊢
  have hT := hT.push ho
  have g10 := g10.push ho
  have g10r := fun j hj => (g10r j hj).push ho
  have hz := hz2
  have hz : H2.size = sz + 14 := by rw [hz]
  refine z_putF (C := RX1) (T := TX1) (N := 12) (v := .ref (sz + 10)) hx hb hK hts u_in_X1 tyX1 tyX1_ok nmX1 hown hS (Or.inl rfl) hT rfl 1 (by decide) q_fl_RX1_16 rfl hin2 rfl rfl rfl (by show 1 < 12; decide) dX1_init_26 (fun H2 locs hT hz2 ho hS => ?_)
  have g10 := g10.kept (ho _ (by show sz + 0 ≠ a; omega))
  have g10r := fun j hj => (g10r j hj).kept (ho _ (by show sz + 0 + 1 + j ≠ a; omega))
  have g22 := g22.kept (ho _ (by show sz + 10 ≠ a; omega))
  have g22r := fun j hj => (g22r j hj).kept (ho _ (by show sz + 10 + 1 + j ≠ a; omega))
  have hz := hz2.trans hz
  refine lv_aload_n hx hb dX1_init_29 rfl (lv_at hl 0 rfl) ?_
  refine z_iconst hx hb dX1_init_30 ?_
  refine z_sipush hx hb dX1_init_31 (by decide) ?_
  refine z_mna hx hb hts hov hown q_cl_RX1_9 hK hS (n := 3) (k := 200) (by decide) (by decide) (by show 0 + (1 + 9) + (1 + 3) + _ ≤ _; exact Nat.le_of_ble_eq_true rfl) (by show 0 + (9 + 9 * 200) + (3 + 3 * 200) + _ ≤ _; exact Nat.le_of_ble_eq_true rfl) dX1_init_34 (fun H2 g34 g34r hz2 ho hS => ?_)
  rw [hz] at g34 g34r hz2 ⊢
  have hT := hT.push ho
  have g10 := g10.push ho
  have g10r := fun j hj => (g10r j hj).push ho
  have g22 := g22.push ho
  have g22r := fun j hj => (g22r j hj).push ho
  have hz := hz2
  have hz : H2.size = sz + 18 := by rw [hz]
  refine z_putF (C := RX1) (T := TX1) (N := 12) (v := .ref (sz + 14)) hx hb hK hts u_in_X1 tyX1 tyX1_ok nmX1 hown hS (Or.inl rfl) hT rfl 2 (by decide) q_fl_RX1_19 rfl hin2 rfl rfl rfl (by show 2 < 12; decide) dX1_init_38 (fun H2 locs hT hz2 ho hS => ?_)
  have g10 := g10.kept (ho _ (by show sz + 0 ≠ a; omega))
  have g10r := fun j hj => (g10r j hj).kept (ho _ (by show sz + 0 + 1 + j ≠ a; omega))
  have g22 := g22.kept (ho _ (by show sz + 10 ≠ a; omega))
  have g22r := fun j hj => (g22r j hj).kept (ho _ (by show sz + 10 + 1 + j ≠ a; omega))
  have g34 := g34.kept (ho _ (by show sz + 14 ≠ a; omega))
  have g34r := fun j hj => (g34r j hj).kept (ho _ (by show sz + 14 + 1 + j ≠ a; omega))
  have hz := hz2.trans hz
  refine lv_aload_n hx hb dX1_init_41 rfl (lv_at hl 0 rfl) ?_
  refine z_bipush hx hb dX1_init_42 (by decide) ?_
  refine z_newI hx hb hts hK hS (n := 63) (by decide) (by show 0 + (1 + 9) + (1 + 3) + (1 + 3) + 1 ≤ _; exact Nat.le_of_ble_eq_true rfl) (by show 0 + (9 + 9 * 200) + (3 + 3 * 200) + (3 + 3 * 200) + _ ≤ _; exact Nat.le_of_ble_eq_true rfl) dX1_init_44 (fun H2 g44 hz2 ho hS => ?_)
  rw [hz] at g44 hz2 ⊢
  have hT := hT.push ho
  have g10 := g10.push ho
  have g10r := fun j hj => (g10r j hj).push ho
  have g22 := g22.push ho
  have g22r := fun j hj => (g22r j hj).push ho
  have g34 := g34.push ho
  have g34r := fun j hj => (g34r j hj).push ho
  have hz : H2.size = sz + 19 := hz2
  refine z_putF (C := RX1) (T := TX1) (N := 12) (v := .ref (sz + 18)) hx hb hK hts u_in_X1 tyX1 tyX1_ok nmX1 hown hS (Or.inl rfl) hT rfl 3 (by decide) q_fl_RX1_22 rfl hin2 rfl rfl rfl (by show 3 < 12; decide) dX1_init_46 (fun H2 locs hT hz2 ho hS => ?_)
  have g10 := g10.kept (ho _ (by show sz + 0 ≠ a; omega))
  have g10r := fun j hj => (g10r j hj).kept (ho _ (by show sz + 0 + 1 + j ≠ a; omega))
  have g22 := g22.kept (ho _ (by show sz + 10 ≠ a; omega))
  have g22r := fun j hj => (g22r j hj).kept (ho _ (by show sz + 10 + 1 + j ≠ a; omega))
  have g34 := g34.kept (ho _ (by show sz + 14 ≠ a; omega))
  have g34r := fun j hj => (g34r j hj).kept (ho _ (by show sz + 14 + 1 + j ≠ a; omega))
  have g44 := g44.kept (ho _ (by show sz + 18 ≠ a; omega))
  have hz := hz2.trans hz
  refine lv_aload_n hx hb dX1_init_49 rfl (lv_at hl 0 rfl) ?_
  refine z_bipush hx hb dX1_init_50 (by decide) ?_
  refine z_newI hx hb hts hK hS (n := 63) (by decide) (by show 0 + (1 + 9) + (1 + 3) + (1 + 3) + 1 + 1 ≤ _; exact Nat.le_of_ble_eq_true rfl) (by show 0 + (9 + 9 * 200) + (3 + 3 * 200) + (3 + 3 * 200) + 63 + _ ≤ _; exact Nat.le_of_ble_eq_true rfl) dX1_init_52 (fun H2 g52 hz2 ho hS => ?_)
  rw [hz] at g52 hz2 ⊢
  have hT := hT.push ho
  have g10 := g10.push ho
  have g10r := fun j hj => (g10r j hj).push ho
  have g22 := g22.push ho
  have g22r := fun j hj => (g22r j hj).push ho
  have g34 := g34.push ho
  have g34r := fun j hj => (g34r j hj).push ho
  have g44 := g44.push ho
  have hz : H2.size = sz + 20 := hz2
  refine z_putF (C := RX1) (T := TX1) (N := 12) (v := .ref (sz + 19)) hx hb hK hts u_in_X1 tyX1 tyX1_ok nmX1 hown hS (Or.inl rfl) hT rfl 4 (by decide) q_fl_RX1_26 rfl hin2 rfl rfl rfl (by show 4 < 12; decide) dX1_init_54 (fun H2 locs hT hz2 ho hS => ?_)
  have g10 := g10.kept (ho _ (by show sz + 0 ≠ a; omega))
  have g10r := fun j hj => (g10r j hj).kept (ho _ (by show sz + 0 + 1 + j ≠ a; omega))
  have g22 := g22.kept (ho _ (by show sz + 10 ≠ a; omega))
  have g22r := fun j hj => (g22r j hj).kept (ho _ (by show sz + 10 + 1 + j ≠ a; omega))
  have g34 := g34.kept (ho _ (by show sz + 14 ≠ a; omega))
  have g34r := fun j hj => (g34r j hj).kept (ho _ (by show sz + 14 + 1 + j ≠ a; omega))
  have g44 := g44.kept (ho _ (by show sz + 18 ≠ a; omega))
  have g52 := g52.kept (ho _ (by show sz + 19 ≠ a; omega))
  have hz := hz2.trans hz
  refine lv_aload_n hx hb dX1_init_57 rfl (lv_at hl 0 rfl) ?_
  refine z_iconst hx hb dX1_init_58 ?_
  refine z_put (C := RX1) (T := TX1) (N := 12) (v := .int (zI (0))) hx hb hK hts u_in_X1 tyX1 tyX1_ok nmX1 hown hS (Or.inl rfl) hT rfl 5 (by decide) q_fl_RX1_29 rfl rfl rfl (by show 5 < 12; decide) dX1_init_59 (fun H2 locs hT hz2 ho hS => ?_)
  have g10 := g10.kept (ho _ (by show sz + 0 ≠ a; omega))
  have g10r := fun j hj => (g10r j hj).kept (ho _ (by show sz + 0 + 1 + j ≠ a; omega))
  have g22 := g22.kept (ho _ (by show sz + 10 ≠ a; omega))
  have g22r := fun j hj => (g22r j hj).kept (ho _ (by show sz + 10 + 1 + j ≠ a; omega))
  have g34 := g34.kept (ho _ (by show sz + 14 ≠ a; omega))
  have g34r := fun j hj => (g34r j hj).kept (ho _ (by show sz + 14 + 1 + j ≠ a; omega))
  have g44 := g44.kept (ho _ (by show sz + 18 ≠ a; omega))
  have g52 := g52.kept (ho _ (by show sz + 19 ≠ a; omega))
  have hz := hz2.trans hz
  refine lv_aload_n hx hb dX1_init_62 rfl (lv_at hl 0 rfl) ?_
  refine z_iconst hx hb dX1_init_63 ?_
  refine z_put (C := RX1) (T := TX1) (N := 12) (v := .int (zI (0))) hx hb hK hts u_in_X1 tyX1 tyX1_ok nmX1 hown hS (Or.inl rfl) hT rfl 6 (by decide) q_fl_RX1_33 rfl rfl rfl (by show 6 < 12; decide) dX1_init_64 (fun H2 locs hT hz2 ho hS => ?_)
  have g10 := g10.kept (ho _ (by show sz + 0 ≠ a; omega))
  have g10r := fun j hj => (g10r j hj).kept (ho _ (by show sz + 0 + 1 + j ≠ a; omega))
  have g22 := g22.kept (ho _ (by show sz + 10 ≠ a; omega))
  have g22r := fun j hj => (g22r j hj).kept (ho _ (by show sz + 10 + 1 + j ≠ a; omega))
  have g34 := g34.kept (ho _ (by show sz + 14 ≠ a; omega))
  have g34r := fun j hj => (g34r j hj).kept (ho _ (by show sz + 14 + 1 + j ≠ a; omega))
  have g44 := g44.kept (ho _ (by show sz + 18 ≠ a; omega))
  have g52 := g52.kept (ho _ (by show sz + 19 ≠ a; omega))
  have hz := hz2.trans hz
  refine lv_aload_n hx hb dX1_init_67 rfl (lv_at hl 0 rfl) ?_
  refine z_iconst hx hb dX1_init_68 ?_
  refine z_put (C := RX1) (T := TX1) (N := 12) (v := .int (zI (0))) hx hb hK hts u_in_X1 tyX1 tyX1_ok nmX1 hown hS (Or.inl rfl) hT rfl 7 (by decide) q_fl_RX1_36 rfl rfl rfl (by show 7 < 12; decide) dX1_init_69 (fun H2 locs hT hz2 ho hS => ?_)
  have g10 := g10.kept (ho _ (by show sz + 0 ≠ a; omega))
  have g10r := fun j hj => (g10r j hj).kept (ho _ (by show sz + 0 + 1 + j ≠ a; omega))
  have g22 := g22.kept (ho _ (by show sz + 10 ≠ a; omega))
  have g22r := fun j hj => (g22r j hj).kept (ho _ (by show sz + 10 + 1 + j ≠ a; omega))
  have g34 := g34.kept (ho _ (by show sz + 14 ≠ a; omega))
  have g34r := fun j hj => (g34r j hj).kept (ho _ (by show sz + 14 + 1 + j ≠ a; omega))
  have g44 := g44.kept (ho _ (by show sz + 18 ≠ a; omega))
  have g52 := g52.kept (ho _ (by show sz + 19 ≠ a; omega))
  have hz := hz2.trans hz
  refine lv_aload_n hx hb dX1_init_72 rfl (lv_at hl 0 rfl) ?_
  refine z_iconst hx hb dX1_init_73 ?_
  refine z_put (C := RX1) (T := TX1) (N := 12) (v := .int (zI (0))) hx hb hK hts u_in_X1 tyX1 tyX1_ok nmX1 hown hS (Or.inl rfl) hT rfl 8 (by decide) q_fl_RX1_39 rfl rfl rfl (by show 8 < 12; decide) dX1_init_74 (fun H2 locs hT hz2 ho hS => ?_)
  have g10 := g10.kept (ho _ (by show sz + 0 ≠ a; omega))
  have g10r := fun j hj => (g10r j hj).kept (ho _ (by show sz + 0 + 1 + j ≠ a; omega))
  have g22 := g22.kept (ho _ (by show sz + 10 ≠ a; omega))
  have g22r := fun j hj => (g22r j hj).kept (ho _ (by show sz + 10 + 1 + j ≠ a; omega))
  have g34 := g34.kept (ho _ (by show sz + 14 ≠ a; omega))
  have g34r := fun j hj => (g34r j hj).kept (ho _ (by show sz + 14 + 1 + j ≠ a; omega))
  have g44 := g44.kept (ho _ (by show sz + 18 ≠ a; omega))
  have g52 := g52.kept (ho _ (by show sz + 19 ≠ a; omega))
  have hz := hz2.trans hz
  refine lv_aload_n hx hb dX1_init_77 rfl (lv_at hl 0 rfl) ?_
  refine z_iconst hx hb dX1_init_78 ?_
  refine z_put (C := RX1) (T := TX1) (N := 12) (v := .int (zI (0))) hx hb hK hts u_in_X1 tyX1 tyX1_ok nmX1 hown hS (Or.inl rfl) hT rfl 9 (by decide) q_fl_RX1_42 rfl rfl rfl (by show 9 < 12; decide) dX1_init_79 (fun H2 locs hT hz2 ho hS => ?_)
  have g10 := g10.kept (ho _ (by show sz + 0 ≠ a; omega))
  have g10r := fun j hj => (g10r j hj).kept (ho _ (by show sz + 0 + 1 + j ≠ a; omega))
  have g22 := g22.kept (ho _ (by show sz + 10 ≠ a; omega))
  have g22r := fun j hj => (g22r j hj).kept (ho _ (by show sz + 10 + 1 + j ≠ a; omega))
  have g34 := g34.kept (ho _ (by show sz + 14 ≠ a; omega))
  have g34r := fun j hj => (g34r j hj).kept (ho _ (by show sz + 14 + 1 + j ≠ a; omega))
  have g44 := g44.kept (ho _ (by show sz + 18 ≠ a; omega))
  have g52 := g52.kept (ho _ (by show sz + 19 ≠ a; omega))
  have hz := hz2.trans hz
  refine lv_aload_n hx hb dX1_init_82 rfl (lv_at hl 0 rfl) ?_
  refine z_iconst hx hb dX1_init_83 ?_
  refine z_put (C := RX1) (T := TX1) (N := 12) (v := .int (zI (-1))) hx hb hK hts u_in_X1 tyX1 tyX1_ok nmX1 hown hS (Or.inl rfl) hT rfl 10 (by decide) q_fl_RX1_45 rfl rfl rfl (by show 10 < 12; decide) dX1_init_84 (fun H2 locs hT hz2 ho hS => ?_)
  have g10 := g10.kept (ho _ (by show sz + 0 ≠ a; omega))
  have g10r := fun j hj => (g10r j hj).kept (ho _ (by show sz + 0 + 1 + j ≠ a; omega))
  have g22 := g22.kept (ho _ (by show sz + 10 ≠ a; omega))
  have g22r := fun j hj => (g22r j hj).kept (ho _ (by show sz + 10 + 1 + j ≠ a; omega))
  have g34 := g34.kept (ho _ (by show sz + 14 ≠ a; omega))
  have g34r := fun j hj => (g34r j hj).kept (ho _ (by show sz + 14 + 1 + j ≠ a; omega))
  have g44 := g44.kept (ho _ (by show sz + 18 ≠ a; omega))
  have g52 := g52.kept (ho _ (by show sz + 19 ≠ a; omega))
  have hz := hz2.trans hz
  refine lv_aload_n hx hb dX1_init_87 rfl (lv_at hl 0 rfl) ?_
  refine z_iconst hx hb dX1_init_88 ?_
  refine z_put (C := RX1) (T := TX1) (N := 12) (v := .int (zI (-1))) hx hb hK hts u_in_X1 tyX1 tyX1_ok nmX1 hown hS (Or.inl rfl) hT rfl 11 (by decide) q_fl_RX1_48 rfl rfl rfl (by show 11 < 12; decide) dX1_init_89 (fun H2 locs hT hz2 ho hS => ?_)
  have g10 := g10.kept (ho _ (by show sz + 0 ≠ a; omega))
  have g10r := fun j hj => (g10r j hj).kept (ho _ (by show sz + 0 + 1 + j ≠ a; omega))
  have g22 := g22.kept (ho _ (by show sz + 10 ≠ a; omega))
  have g22r := fun j hj => (g22r j hj).kept (ho _ (by show sz + 10 + 1 + j ≠ a; omega))
  have g34 := g34.kept (ho _ (by show sz + 14 ≠ a; omega))
  have g34r := fun j hj => (g34r j hj).kept (ho _ (by show sz + 14 + 1 + j ≠ a; omega))
  have g44 := g44.kept (ho _ (by show sz + 18 ≠ a; omega))
  have g52 := g52.kept (ho _ (by show sz + 19 ≠ a; omega))
  have hz := hz2.trans hz
  refine e_Wv hx hb hr hlk hS (by show 0 + (1 + 9) + (1 + 3) + (1 + 3) + 1 + 1 ≤ _; exact Nat.le_of_ble_eq_true rfl) (by show 0 + (9 + 9 * 200) + (3 + 3 * 200) + (3 + 3 * 200) + 63 + 63 ≤ _; exact Nat.le_of_ble_eq_true rfl) ?_ dX1_init_92
  refine ⟨⟨⟨adI_in (N := 21) haz, fun k _ => adI_lo ha hgz k⟩, fun k hk => ?_⟩, hz⟩
  rcases (by omega : k = 0 ∨ k = 1 ∨ (2 ≤ k ∧ k < 11) ∨ k = 11 ∨ (12 ≤ k ∧ k < 15) ∨ k = 15 ∨ (16 ≤ k ∧ k < 19) ∨ k = 19 ∨ k = 20) with h | h | h | h | h | h | h | h | h
  · subst h; exact hT
  · subst h
    show va_at G.1 vwCl (adI a sz 1, .inl (G.2.1 1, 9, .inr (.inr (.inr (.inr (fun j => some (adI a sz (2 + j)))))))) H2
    rw [adI_fn a sz 2 1 rfl, adI_at (m := 0) rfl]
    exact g10
  · obtain ⟨j, rfl⟩ : ∃ j, k = 2 + j := ⟨k - 2, by omega⟩
    have hj : j < 9 := by omega
    rw [vE_T G (adI a sz) f0 f0 f0 f0 fv1 hj, adI_at (a := a) (z := sz) (m := 1 + j) (by omega), show sz + (1 + j) = sz + 0 + 1 + j by omega]
    exact g10r j hj
  · subst h
    show va_at G.1 vwCl (adI a sz 11, .inl (G.2.1 1, 3, .inr (.inr (.inr (.inr (fun j => some (adI a sz (12 + j)))))))) H2
    rw [adI_fn a sz 12 11 rfl, adI_at (m := 10) rfl]
    exact g22
  · obtain ⟨j, rfl⟩ : ∃ j, k = 12 + j := ⟨k - 12, by omega⟩
    have hj : j < 3 := by omega
    rw [vE_P G (adI a sz) f0 f0 f0 f0 fv1 hj, adI_at (a := a) (z := sz) (m := 11 + j) (by omega), show sz + (11 + j) = sz + 10 + 1 + j by omega]
    exact g22r j hj
  · subst h
    show va_at G.1 vwCl (adI a sz 15, .inl (G.2.1 1, 3, .inr (.inr (.inr (.inr (fun j => some (adI a sz (16 + j)))))))) H2
    rw [adI_fn a sz 16 15 rfl, adI_at (m := 14) rfl]
    exact g34
  · obtain ⟨j, rfl⟩ : ∃ j, k = 16 + j := ⟨k - 16, by omega⟩
    have hj : j < 3 := by omega
    rw [vE_S G (adI a sz) f0 f0 f0 f0 fv1 hj, adI_at (a := a) (z := sz) (m := 15 + j) (by omega), show sz + (15 + j) = sz + 14 + 1 + j by omega]
    exact g34r j hj
  · subst h
    rw [adI_at (a := a) (z := sz) (m := 18) rfl]
    exact g44
  · subst h
    rw [adI_at (a := a) (z := sz) (m := 19) rfl]
    exact g52
def gm0 : Nat → Int := fun k => if k = 1 ∨ k = 2 then 4 else 0
def gb0 : Int → Int → Int := fun _ _ => 0
set_option maxHeartbeats 2000000 in
theorem c_X0_init (l : Launch) (G : zG) (a sz : Nat) (ha : G.2.2 ≤ a) : CI l yX0_init cX0_init 1 1 20 6 6408 G a (AI a sz) sz (fun H => va_at G.1 vwCl (a, .inr (0, [.null, .null])) H) (fun H => va_at G.1 vwCl (a, .inr (0, [.ref (sz + 0), .ref (sz + 5)])) H ∧ va_at G.1 vwCl (sz + 0, .inl (G.2.1 1, 4, .inr (.inr (.inr (.inr (fun j => some (sz + 0 + 1 + j))))))) H ∧ (∀ j, j < 4 → va_at G.1 vwCl (sz + 0 + 1 + j, .inl (G.2.1 0, 1600, .inl (zA (fun _ => 0)))) H) ∧ va_at G.1 vwCl (sz + 5, .inl (G.2.1 0, 4, .inl (zA (fun _ => 0)))) H ∧ H.size = sz + 6) := by
  refine ci_of hp_X0_init (Nat.le_of_ble_eq_true rfl) rfl ?_
  intro p env s m below meth c ls hB hin2 hov hsz hT hl
  obtain ⟨hx, hb, hml, hr, hlk, hown, hts, hG⟩ := hB
  have hK := hG.1
  have hz : s.heap.size = sz := hsz
  have haz : a < sz := by rw [← hsz]; exact hT.lt
  have hgz : G.2.2 ≤ sz := by rw [← hsz]; exact hG.2.1
  have hS : va_S (AI a sz) s.heap s.heap [] := va_S.rf
  refine lv_aload_n hx hb dX0_init_0 rfl (lv_at hl 0 rfl) ?_
  refine z_obj hx hb hts hown q_o_RX0 q_o_im q_o_code (hl.1.trans hml.symm) ⟨by decide, by decide⟩ dX0_init_1 ?_
  refine lv_aload_n hx hb dX0_init_4 rfl (lv_at hl 0 rfl) ?_
  refine z_iconst hx hb dX0_init_5 ?_
  refine z_sipush hx hb dX0_init_6 (by decide) ?_
  refine z_mna hx hb hts hov hown q_cl_RX0_9 hK hS (n := 4) (k := 1600) (by decide) (by decide) (by show 0 + _ ≤ _; exact Nat.le_of_ble_eq_true rfl) (by show 0 + _ ≤ _; exact Nat.le_of_ble_eq_true rfl) dX0_init_9 (fun H2 g9 g9r hz2 ho hS => ?_)
  rw [hz] at g9 g9r hz2 ⊢
  have hT := hT.push ho
  have hz := hz2
  have hz : H2.size = sz + 5 := by rw [hz]
  refine z_putF (C := RX0) (T := TX0) (N := 2) (v := .ref (sz + 0)) hx hb hK hts u_in_X0 tyX0 tyX0_ok nmX0 hown hS (Or.inl rfl) hT rfl 0 (by decide) q_fl_RX0_11 rfl hin2 rfl rfl rfl (by show 0 < 2; decide) dX0_init_13 (fun H2 locs hT hz2 ho hS => ?_)
  have g9 := g9.kept (ho _ (by show sz + 0 ≠ a; omega))
  have g9r := fun j hj => (g9r j hj).kept (ho _ (by show sz + 0 + 1 + j ≠ a; omega))
  have hz := hz2.trans hz
  refine lv_aload_n hx hb dX0_init_16 rfl (lv_at hl 0 rfl) ?_
  refine z_iconst hx hb dX0_init_17 ?_
  refine z_newI hx hb hts hK hS (n := 4) (by decide) (by show 0 + (1 + 4) + 1 ≤ _; exact Nat.le_of_ble_eq_true rfl) (by show 0 + (4 + 4 * 1600) + _ ≤ _; exact Nat.le_of_ble_eq_true rfl) dX0_init_18 (fun H2 g18 hz2 ho hS => ?_)
  rw [hz] at g18 hz2 ⊢
  have hT := hT.push ho
  have g9 := g9.push ho
  have g9r := fun j hj => (g9r j hj).push ho
  have hz : H2.size = sz + 6 := hz2
  refine z_putF (C := RX0) (T := TX0) (N := 2) (v := .ref (sz + 5)) hx hb hK hts u_in_X0 tyX0 tyX0_ok nmX0 hown hS (Or.inl rfl) hT rfl 1 (by decide) q_fl_RX0_16 rfl hin2 rfl rfl rfl (by show 1 < 2; decide) dX0_init_20 (fun H2 locs hT hz2 ho hS => ?_)
  have g9 := g9.kept (ho _ (by show sz + 0 ≠ a; omega))
  have g9r := fun j hj => (g9r j hj).kept (ho _ (by show sz + 0 + 1 + j ≠ a; omega))
  have g18 := g18.kept (ho _ (by show sz + 5 ≠ a; omega))
  have hz := hz2.trans hz
  refine e_Wv hx hb hr hlk hS (by show 0 + (1 + 4) + 1 ≤ _; exact Nat.le_of_ble_eq_true rfl) (by show 0 + (4 + 4 * 1600) + 4 ≤ _; exact Nat.le_of_ble_eq_true rfl) ?_ dX0_init_23
  exact ⟨hT, g9, g9r, g18, hz⟩
