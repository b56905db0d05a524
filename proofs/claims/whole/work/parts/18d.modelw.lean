def zBw (B : Int → Int → Int) (v : Int) (f : Int → Int) : Int → Int → Int := fun u => if u = v then f else B u
theorem zBw_s (B : Int → Int → Int) (v : Int) (f : Int → Int) : zBw B v f v = f := if_pos rfl
theorem zBw_n {B : Int → Int → Int} {v u : Int} (f : Int → Int) (h : u ≠ v) : zBw B v f u = B u := if_neg h
section ZD
variable {p : Program} {l : Launch} {e : Env} {R : Room} {s : State} {m : MethodId} {args : Array Value} {below : List Frame} {meth : Method} {c : Code} {H : Heap} {locs : List Loc} {cells slots : Nat} {Q : State → Prop}
variable {cc : ByteArray} {pc : Nat} {ls : Array Slot} {rest : List Value} {D : Nat → Prop} {H0 : Heap}
variable {G : zG} {ad : Nat → Nat} {F : Nat → Int} {A : Nat → Int → Int} {B : Int → Int → Int}
theorem zm_newI (hexec : p.tables.exec = Jvm.exec) (hb : c.code = cc) (hts : ∀ w ∈ lw_all, w.before args s = true) (hK : va_K G.1 vwCl (zT G) s) (hP : MP G ad F A B H) (hS : va_S D H0 H locs) (hDn : ∀ q, H0.size ≤ q → D q) {n : Int} (hn : 0 ≤ n ∧ n ≤ 10000) (hcells : cells + 1 ≤ R.cells) (hslots : slots + n.toNat ≤ R.slots) (hdg : decode cc pc = .ok (.newarray .int, 2))
    (kk : ∀ (na : Nat) (H1 : Heap), va_at G.1 vwCl (na, .inl (G.2.1 0, n.toNat, .inl (zA (fun _ => 0)))) H1 → MP G ad F A B H1 → D na → (∀ k, k < 11 → ad k ≠ na) → na = H.size → H1.size = H.size + 1 → va_S D H0 H1 locs → W p l e R s m args below meth c H1 locs (cells + 1) (slots + n.toNat) Q (F0 m (pc + 2) ls (.ref na :: rest))) : W p l e R s m args below meth c H locs cells slots Q (F0 m pc ls (.int (zI n) :: rest)) :=
  z_newI hexec hb hts hK hS hn hcells hslots hdg fun H1 h1 h2 h3 h4 => kk H.size H1 h1 (PP.kept hP (fun k hk => h3 _ (PP.lt hP hk))) (hDn _ hS.1) (fun k hk => Nat.ne_of_lt (PP.lt hP hk)) rfl h2 h4
theorem zm_sN (hexec : p.tables.exec = Jvm.exec) (hb : c.code = cc) (hK : va_K G.1 vwCl (zT G) s) (hP : MP G ad F A B H) (hS : va_S D H0 H locs) {na n : Nat} (hD : D na) (hne : ∀ k, k < 11 → ad k ≠ na) {f : Int → Int} (hN : va_at G.1 vwCl (na, .inl (G.2.1 0, n, .inl (zA f))) H) {i x : Int} (h0 : 0 ≤ i ∧ i < n) (hn : n ≤ 2147483647) (hdg : decode cc pc = .ok (.iastore, 1))
    (kk : ∀ (H1 : Heap) (locs1 : List Loc), va_at G.1 vwCl (na, .inl (G.2.1 0, n, .inl (zA (zU f i x)))) H1 → MP G ad F A B H1 → H1.size = H.size → va_S D H0 H1 locs1 → W p l e R s m args below meth c H1 locs1 cells slots Q (F0 m (pc + 1) ls rest)) : W p l e R s m args below meth c H locs cells slots Q (F0 m pc ls (.int (zI x) :: .int (zI i) :: .ref na :: rest)) :=
  z_ast hexec hb hK hS hD hN h0 hn hdg fun H1 locs1 h1 h2 h3 h4 => kk H1 locs1 h1 (PP.kept hP (fun k hk => h3 _ (hne k hk))) h2 h4
theorem mE_uW4 (f : Int → Int) (j : Nat) (hj : j ≠ 10) (hl : j < 11) : mE G ad F (zW A 4 f) B j = mE G ad F A B j := by
  unfold mE
  repeat' split
  all_goals first | rfl | rw [zW_n f (by decide)] | omega
theorem zm_cpE (hexec : p.tables.exec = Jvm.exec) (hb : c.code = cc) (hml : c.maxLocals = ls.size) (hown : s.vm.findClass RX3 = some m.cls) (hts : ∀ w ∈ lw_all, w.before args s = true)
    (hK : va_K G.1 vwCl (zT G) s) (hP : MP G ad F A B H) (hS : va_S D H0 H locs) (hD : D (ad 10)) {sp dp n : Int} (h1 : 0 ≤ sp) (h2 : 0 ≤ dp) (h3 : 0 ≤ n) (h4 : sp + n ≤ 6400) (h5 : dp + n ≤ 6400)
    (hframes : 1 ≤ R.frames) (hlocals : (rest.map fun v => v.category).sum + 18 ≤ R.locals) (hdg : decode cc pc = .ok (.invokestatic 113, 3))
    (kk : ∀ (H1 : Heap) (locs1 : List Loc), MP G ad F (zW A 4 (zcp (A 4) (A 4) sp dp n)) B H1 → H1.size = H.size → va_S D H0 H1 locs1 → W p l e R s m args below meth c H1 locs1 cells slots Q (F0 m (pc + 3) ls rest)) : W p l e R s m args below meth c H locs cells slots Q (F0 m pc ls (.int (zI n) :: .int (zI dp) :: .ref (ad 10) :: .int (zI sp) :: .ref (ad 10) :: rest)) :=
  z_copy (n0 := 6400) (n1 := 6400) hexec hb hml hown hts (hts _ q_ini_sys) hK hS hD (hP.2 10 (by decide)) (hP.2 10 (by decide)) h1 h2 h3 h4 h5 (by decide) hframes hlocals hdg fun H1 locs1 g1 g2 g3 g4 => kk H1 locs1 (PP.upd hP (by decide) g1 g3 (by show mE G ad F (zW A 4 _) B 10 = _; unfold mE; simp [zW_s]) (fun j hl hj => mE_uW4 _ j hj hl)) g2 g4
theorem zm_cpN (hexec : p.tables.exec = Jvm.exec) (hb : c.code = cc) (hml : c.maxLocals = ls.size) (hown : s.vm.findClass RX3 = some m.cls) (hts : ∀ w ∈ lw_all, w.before args s = true)
    (hK : va_K G.1 vwCl (zT G) s) (hP : MP G ad F A B H) (hS : va_S D H0 H locs) (hD : D (ad 10)) {na n0 : Nat} {f : Int → Int} (hN : va_at G.1 vwCl (na, .inl (G.2.1 0, n0, .inl (zA f))) H) {sp dp n : Int} (h1 : 0 ≤ sp) (h2 : 0 ≤ dp) (h3 : 0 ≤ n) (h4 : sp + n ≤ n0) (h5 : dp + n ≤ 6400) (h6 : n0 ≤ 1000000)
    (hframes : 1 ≤ R.frames) (hlocals : (rest.map fun v => v.category).sum + 18 ≤ R.locals) (hdg : decode cc pc = .ok (.invokestatic 113, 3))
    (kk : ∀ (H1 : Heap) (locs1 : List Loc), MP G ad F (zW A 4 (zcp f (A 4) sp dp n)) B H1 → H1.size = H.size → va_S D H0 H1 locs1 → W p l e R s m args below meth c H1 locs1 cells slots Q (F0 m (pc + 3) ls rest)) : W p l e R s m args below meth c H locs cells slots Q (F0 m pc ls (.int (zI n) :: .int (zI dp) :: .ref (ad 10) :: .int (zI sp) :: .ref na :: rest)) :=
  z_copy (n1 := 6400) hexec hb hml hown hts (hts _ q_ini_sys) hK hS hD hN (hP.2 10 (by decide)) h1 h2 h3 h4 h5 ⟨h6, by decide⟩ hframes hlocals hdg fun H1 locs1 g1 g2 g3 g4 => kk H1 locs1 (PP.upd hP (by decide) g1 g3 (by show mE G ad F (zW A 4 _) B 10 = _; unfold mE; simp [zW_s]) (fun j hl hj => mE_uW4 _ j hj hl)) g2 g4
theorem zm_cpB (hexec : p.tables.exec = Jvm.exec) (hb : c.code = cc) (hml : c.maxLocals = ls.size) (hown : s.vm.findClass RX3 = some m.cls) (hts : ∀ w ∈ lw_all, w.before args s = true)
    (hK : va_K G.1 vwCl (zT G) s) (hP : MP G ad F A B H) (hS : va_S D H0 H locs) {v : Int} (hv : 0 ≤ v ∧ v < 4) (hD : D (ad (3 + v.toNat))) {na n0 : Nat} {f : Int → Int} (hN : va_at G.1 vwCl (na, .inl (G.2.1 0, n0, .inl (zA f))) H) {sp dp n : Int} (h1 : 0 ≤ sp) (h2 : 0 ≤ dp) (h3 : 0 ≤ n) (h4 : sp + n ≤ n0) (h5 : dp + n ≤ 2000) (h6 : n0 ≤ 1000000)
    (hframes : 1 ≤ R.frames) (hlocals : (rest.map fun v => v.category).sum + 18 ≤ R.locals) (hdg : decode cc pc = .ok (.invokestatic 113, 3))
    (kk : ∀ (H1 : Heap) (locs1 : List Loc), MP G ad F A (zBw B v (zcp f (B v) sp dp n)) H1 → H1.size = H.size → va_S D H0 H1 locs1 → W p l e R s m args below meth c H1 locs1 cells slots Q (F0 m (pc + 3) ls rest)) : W p l e R s m args below meth c H locs cells slots Q (F0 m pc ls (.int (zI n) :: .int (zI dp) :: .ref (ad (3 + v.toNat)) :: .int (zI sp) :: .ref na :: rest)) :=
  z_copy (n1 := 2000) hexec hb hml hown hts (hts _ q_ini_sys) hK hS hD hN (mE_B (G := G) (ad := ad) (F := F) (A := A) (B := B) hv ▸ hP.2 (3 + v.toNat) (by omega)) h1 h2 h3 h4 h5 ⟨h6, by decide⟩ hframes hlocals hdg fun H1 locs1 g1 g2 g3 g4 => kk H1 locs1 (PP.upd hP (by omega) g1 g3 (by rw [mE_B hv, zBw_s]) (fun j _ hj => by
    unfold mE
    repeat' split
    all_goals first | rfl | rw [zBw_n _ (by omega)])) g2 g4
end ZD
theorem fA_new {N : Nat} {ad : Nat → Nat} {sz : Nat} : ∀ q, sz ≤ q → fA N ad sz q := fun _ h => Or.inr h
theorem zW_W (T : Nat → Int → Int) (w : Nat) (f g : Int → Int) : zW (zW T w f) w g = zW T w g := by
  funext u
  unfold zW
  split <;> rfl
/-- downward: the greatest place whose lower neighbour isn't p -/
def pdN (p : Int → Prop) [DecidablePred p] : Nat → Nat
  | 0 => 0
  | k + 1 => if p (k : Int) then pdN p k else k + 1
def pd (p : Int → Prop) [DecidablePred p] (m : Int) : Int := (pdN p m.toNat : Int)
theorem pd_0 (p : Int → Prop) [DecidablePred p] : pd p 0 = 0 := rfl
theorem pd_s {p : Int → Prop} [DecidablePred p] {m : Int} (h : 0 < m) : pd p m = if p (m - 1) then pd p (m - 1) else m := by
  unfold pd
  obtain ⟨k, rfl⟩ : ∃ k : Nat, m = ((k + 1 : Nat) : Int) := ⟨(m - 1).toNat, by omega⟩
  rw [Int.toNat_natCast, show ((k + 1 : Nat) : Int) - 1 = (k : Int) by omega, Int.toNat_natCast]
  show ((if p (k : Int) then pdN p k else k + 1 : Nat) : Int) = _
  split <;> rfl
theorem pd_le {p : Int → Prop} [DecidablePred p] {m : Int} (h : 0 ≤ m) : 0 ≤ pd p m ∧ pd p m ≤ m := by
  obtain ⟨k, rfl⟩ : ∃ k : Nat, m = (k : Int) := ⟨m.toNat, by omega⟩
  induction k with
  | zero => exact ⟨Int.le_refl 0, Int.le_refl 0⟩
  | succ k ih =>
    rw [pd_s (by omega), show ((k + 1 : Nat) : Int) - 1 = (k : Int) by omega]
    have := ih (by omega)
    split <;> omega
abbrev laE (g : Int → Int) (x v b i : Int) : Prop := if ¬ g i = x then x < g i else if ¬ g (i + 3) = b then b < g (i + 3) else v < g (i + 1)
def ptQ (g : Int → Int) (x v b m : Int) : Int := pd (fun k => laE g x v b (4 * k)) m
def n4 (x v t b : Int) : Int → Int := zU (zU (zU (zU (fun _ => 0) 0 x) 1 v) 2 t) 3 b
def ptE (g : Int → Int) (m x v t b : Int) : Int → Int := zcp (n4 x v t b) (zcp g g (4 * ptQ g x v b m) (4 * (ptQ g x v b m + 1)) (4 * (m - ptQ g x v b m))) 0 (4 * ptQ g x v b m) 4
set_option maxHeartbeats 2000000 in
theorem c_X3_put (l : Launch) (G : zG) (ad : Nat → Nat) (F : Nat → Int) (A : Nat → Int → Int) (B : Int → Int → Int) (x v t b : Int) (sz : Nat) (r1 : -2147483648 ≤ x ∧ x ≤ 2147483647) (r2 : -2147483648 ≤ v ∧ v ≤ 2147483647) (r3 : -2147483648 ≤ b ∧ b ≤ 2147483647) (h5 : 0 ≤ F 5 ∧ F 5 ≤ 1599) (hVe : ∀ k, 0 ≤ k → k < 6400 → -2147483648 ≤ A 4 k ∧ A 4 k ≤ 2147483647) : MW l yX3_put cX3_put 7 none 1 37 (1) (4) G [.ref (ad 0), .int (zI (x)), .int (zI (v)), .int (zI (t)), .int (zI (b))] (fA 11 ad sz) sz (MP G ad F A B) (QV (fA 11 ad sz) (fun H => MP G ad (zN F 5 (F 5 + 1)) (zW A 4 (ptE (A 4) (F 5) x v t b)) B H)) := by
  refine mw_of hp_X3_put (Nat.le_of_ble_eq_true rfl) ?_
  intro p env s m below meth c ls hB hsz hP hl
  obtain ⟨hx, hb, hml, hr, hlk, hown, hts, hG⟩ := hB
  subst hsz
  have hK := hG.1
  have hS : va_S (fA 11 ad s.heap.size) s.heap s.heap [] := va_S.rf
  have hA : ∀ q : Nat, (fA 11 ad s.heap.size) q → G.2.2 ≤ q := fA_lo hP.1.2 hG.2.1
  have hD : ∀ k, k < 11 → (fA 11 ad s.heap.size) (ad k) := fun k hk => fA_in hk
  have hl : lv_has ls 7 [(0, .ref (ad 0)), (1, .int (zI (x))), (2, .int (zI (v))), (3, .int (zI (t))), (4, .int (zI (b)))] := hl
  have hqr : 0 ≤ ptQ (A 4) x v b (F 5) ∧ ptQ (A 4) x v b (F 5) ≤ F 5 := pd_le h5.1
  refine lv_aload_n hx hb dX3_put_0 rfl (lv_at hl 0 rfl) ?_
  refine zm_get hx hb hK hts hown hP 10 (by decide) q_fl_RX3_175 (v := .int (zI (F 5))) rfl dX3_put_1 ?_
  refine lv_istore (lv' := [(5, .int (zI (F 5))), (0, .ref (ad 0)), (1, .int (zI (x))), (2, .int (zI (v))), (3, .int (zI (t))), (4, .int (zI (b)))]) hx hb dX3_put_4 hl (by decide) rfl (fun ls hl => ?_)
  have lp_6 : ∀ (n : Nat) (q : Int), 0 ≤ q → q ≤ F 5 → ptQ (A 4) x v b q = ptQ (A 4) x v b (F 5) → q < n → ∀ (ls : Array Slot), lv_has ls 7 [(5, .int (zI (q))), (0, .ref (ad 0)), (1, .int (zI (x))), (2, .int (zI (v))), (3, .int (zI (t))), (4, .int (zI (b)))] → W p l env (rmz 1 37 1 4) s m (([.ref (ad 0), .int (zI (x)), .int (zI (v)), .int (zI (t)), .int (zI (b))] : List Value).toArray) below meth c s.heap [] 0 0 (MQ below (QV (fA 11 ad s.heap.size) (fun H => MP G ad (zN F 5 (F 5 + 1)) (zW A 4 (ptE (A 4) (F 5) x v t b)) B H)) (([.ref (ad 0), .int (zI (x)), .int (zI (v)), .int (zI (t)), .int (zI (b))] : List Value).toArray) s 1 4 (fA 11 ad s.heap.size)) (F0 m 6 ls []) := by
    intro n
    induction n with
    | zero => intro q h0 h1 h2 hm ls hl; exact absurd hm (by omega)
    | succ n ih =>
      intro q h0 h1 h2 hm ls hl
      refine lv_iload hx hb dX3_put_6 (lv_at hl 0 rfl) ?_
      refine z_if_le (a := q) (tgt := 34) hx hb dX3_put_8 (by decide) (by omega) (fun h_8 => ?_) (fun h_8 => ?_)
      · skip
        have h9 : ptQ (A 4) x v b (F 5) = q := by rw [← h2]; unfold ptQ; first | rw [show q = 0 by omega]; rfl | rw [pd_s (m := q) (by omega), if_neg (by assumption)]
        have hqr := hqr
        refine lv_aload_n hx hb dX3_put_34 rfl (lv_at hl 1 rfl) ?_
        refine zm_get hx hb hK hts hown hP 11 (by decide) q_fl_RX3_34 (v := .ref (ad 10)) rfl dX3_put_35 ?_
        refine z_iconst hx hb dX3_put_38 ?_
        refine lv_iload hx hb dX3_put_39 (lv_at hl 0 rfl) ?_
        refine z_imul (x := 4) (y := q) hx hb dX3_put_41 ?_
        refine lv_aload_n hx hb dX3_put_42 rfl (lv_at hl 1 rfl) ?_
        refine zm_get hx hb hK hts hown hP 11 (by decide) q_fl_RX3_34 (v := .ref (ad 10)) rfl dX3_put_43 ?_
        refine z_iconst hx hb dX3_put_46 ?_
        refine lv_iload hx hb dX3_put_47 (lv_at hl 0 rfl) ?_
        refine z_iconst hx hb dX3_put_49 ?_
        refine z_iadd (x := q) (y := 1) hx hb dX3_put_50 ?_
        refine z_imul (x := 4) (y := (q) + (1)) hx hb dX3_put_51 ?_
        refine z_iconst hx hb dX3_put_52 ?_
        refine lv_aload_n hx hb dX3_put_53 rfl (lv_at hl 1 rfl) ?_
        refine zm_get hx hb hK hts hown hP 10 (by decide) q_fl_RX3_175 (v := .int (zI (F 5))) rfl dX3_put_54 ?_
        refine lv_iload hx hb dX3_put_57 (lv_at hl 0 rfl) ?_
        refine z_isub (x := F 5) (y := q) hx hb dX3_put_59 ?_
        refine z_imul (x := 4) (y := (F 5) - (q)) hx hb dX3_put_60 ?_
        refine zm_cpE hx hb (hml.trans hl.1.symm) hown hts hK hP hS (hD 10 (by decide)) (sp := (4) * (q)) (dp := (4) * ((q) + (1))) (n := (4) * ((F 5) - (q))) (by omega) (by omega) (by omega) (by omega) (by omega) (Nat.le_of_ble_eq_true rfl) (Nat.le_of_ble_eq_true rfl) dX3_put_61 (fun H locs hP hz hS => ?_)
        refine z_iconst hx hb dX3_put_64 ?_
        refine zm_newI hx hb hts hK hP hS fA_new (n := 4) (by decide) (by show 0 + 1 ≤ _; exact Nat.le_of_ble_eq_true rfl) (by show 0 + _ ≤ _; exact Nat.le_of_ble_eq_true rfl) dX3_put_65 (fun na H hN hP hDn hne hna hz hS => ?_)
        refine lv_dup hx hb dX3_put_67 rfl ?_
        refine z_iconst hx hb dX3_put_68 ?_
        refine lv_iload_n hx hb dX3_put_69 rfl (lv_at hl 2 rfl) ?_
        refine zm_sN (x := x) hx hb hK hP hS hDn hne hN (i := 0) (by decide) (by decide) dX3_put_70 (fun H locs hN hP hz hS => ?_)
        refine lv_dup hx hb dX3_put_71 rfl ?_
        refine z_iconst hx hb dX3_put_72 ?_
        refine lv_iload_n hx hb dX3_put_73 rfl (lv_at hl 3 rfl) ?_
        refine zm_sN (x := v) hx hb hK hP hS hDn hne hN (i := 1) (by decide) (by decide) dX3_put_74 (fun H locs hN hP hz hS => ?_)
        refine lv_dup hx hb dX3_put_75 rfl ?_
        refine z_iconst hx hb dX3_put_76 ?_
        refine lv_iload_n hx hb dX3_put_77 rfl (lv_at hl 4 rfl) ?_
        refine zm_sN (x := t) hx hb hK hP hS hDn hne hN (i := 2) (by decide) (by decide) dX3_put_78 (fun H locs hN hP hz hS => ?_)
        refine lv_dup hx hb dX3_put_79 rfl ?_
        refine z_iconst hx hb dX3_put_80 ?_
        refine lv_iload hx hb dX3_put_81 (lv_at hl 5 rfl) ?_
        refine zm_sN (x := b) hx hb hK hP hS hDn hne hN (i := 3) (by decide) (by decide) dX3_put_83 (fun H locs hN hP hz hS => ?_)
        refine lv_astore (lv' := [(6, .ref (na)), (5, .int (zI (q))), (0, .ref (ad 0)), (1, .int (zI (x))), (2, .int (zI (v))), (3, .int (zI (t))), (4, .int (zI (b)))]) hx hb dX3_put_84 hl (by decide) rfl (fun ls hl => ?_)
        refine lv_aload hx hb dX3_put_86 (lv_at hl 0 rfl) ?_
        refine z_iconst hx hb dX3_put_88 ?_
        refine lv_aload_n hx hb dX3_put_89 rfl (lv_at hl 2 rfl) ?_
        refine zm_get hx hb hK hts hown hP 11 (by decide) q_fl_RX3_34 (v := .ref (ad 10)) rfl dX3_put_90 ?_
        refine z_iconst hx hb dX3_put_93 ?_
        refine lv_iload hx hb dX3_put_94 (lv_at hl 1 rfl) ?_
        refine z_imul (x := 4) (y := q) hx hb dX3_put_96 ?_
        refine z_iconst hx hb dX3_put_97 ?_
        refine zm_cpN hx hb (hml.trans hl.1.symm) hown hts hK hP hS (hD 10 (by decide)) hN (sp := 0) (dp := (4) * (q)) (n := 4) (by omega) (by omega) (by omega) (by omega) (by omega) (by decide) (Nat.le_of_ble_eq_true rfl) (Nat.le_of_ble_eq_true rfl) dX3_put_98 (fun H locs hP hz hS => ?_)
        rw [zW_s, zW_W] at hP
        refine lv_aload_n hx hb dX3_put_101 rfl (lv_at hl 2 rfl) ?_
        refine lv_dup hx hb dX3_put_102 rfl ?_
        refine zm_get hx hb hK hts hown hP 10 (by decide) q_fl_RX3_175 (v := .int (zI (F 5))) rfl dX3_put_103 ?_
        refine z_iconst hx hb dX3_put_106 ?_
        refine z_iadd (x := F 5) (y := 1) hx hb dX3_put_107 ?_
        refine zm_put (x := (F 5) + (1)) hx hb hK hts hown hP hS (hD 0 (by decide)) 5 (by decide) q_fl_RX3_175 dX3_put_108 (fun H locs hP hz ho hS => ?_)
        exact e_Wv hx hb hr hlk hS (by omega) (by omega) (by unfold ptE; rw [h9]; exact hP) dX3_put_111
      · skip
        refine lv_aload_n hx hb dX3_put_11 rfl (lv_at hl 1 rfl) ?_
        refine z_iconst hx hb dX3_put_12 ?_
        refine lv_iload hx hb dX3_put_13 (lv_at hl 0 rfl) ?_
        refine z_iconst hx hb dX3_put_15 ?_
        refine z_isub (x := q) (y := 1) hx hb dX3_put_16 ?_
        refine z_imul (x := 4) (y := (q) - (1)) hx hb dX3_put_17 ?_
        refine lv_iload_n hx hb dX3_put_18 rfl (lv_at hl 2 rfl) ?_
        refine lv_iload_n hx hb dX3_put_19 rfl (lv_at hl 3 rfl) ?_
        refine lv_iload hx hb dX3_put_20 (lv_at hl 5 rfl) ?_
        refine k_R (c_VR (As := [.int (zI ((4) * ((q) - (1)))), .int (zI (x)), .int (zI (v)), .int (zI (b))]) (rest := []) ⟨hx, hb, hml, hown, hts⟩ hG hS hA (c_X3_isLater l G ad F A B ((4) * ((q) - (1))) x v b (show 0 ≤ ((4) * ((q) - (1))) ∧ ((4) * ((q) - (1))) + 3 < 6400 by omega) (show -2147483648 ≤ x ∧ x ≤ 2147483647 by omega) (show -2147483648 ≤ v ∧ v ≤ 2147483647 by omega) (show -2147483648 ≤ b ∧ b ≤ 2147483647 by omega) hVe) ⟨q_ml_RX3_178, q_im_X3_isLater, q_sel_X3_isLater, q_ini_RX3, q_code_X3_isLater⟩ hv_X3_isLater (MP.rec hK hP) hP ⟨by decide, by decide⟩ ⟨by omega, by omega⟩ rfl hl.1 rfl (Nat.le_of_ble_eq_true rfl) dX3_put_22) ?_
        refine z_bif_eq (q := if ¬ A 4 ((4) * ((q) - (1))) = x then x < A 4 ((4) * ((q) - (1))) else if ¬ A 4 (((4) * ((q) - (1))) + 3) = b then b < A 4 (((4) * ((q) - (1))) + 3) else v < A 4 (((4) * ((q) - (1))) + 1)) (tgt := 34) hx hb dX3_put_25 (by decide) (fun h_25 => ?_) (fun h_25 => ?_)
        · skip
          have h9 : ptQ (A 4) x v b (F 5) = q := by rw [← h2]; unfold ptQ; first | rw [show q = 0 by omega]; rfl | rw [pd_s (m := q) (by omega), if_neg (by assumption)]
          have hqr := hqr
          refine lv_aload_n hx hb dX3_put_34 rfl (lv_at hl 1 rfl) ?_
          refine zm_get hx hb hK hts hown hP 11 (by decide) q_fl_RX3_34 (v := .ref (ad 10)) rfl dX3_put_35 ?_
          refine z_iconst hx hb dX3_put_38 ?_
          refine lv_iload hx hb dX3_put_39 (lv_at hl 0 rfl) ?_
          refine z_imul (x := 4) (y := q) hx hb dX3_put_41 ?_
          refine lv_aload_n hx hb dX3_put_42 rfl (lv_at hl 1 rfl) ?_
          refine zm_get hx hb hK hts hown hP 11 (by decide) q_fl_RX3_34 (v := .ref (ad 10)) rfl dX3_put_43 ?_
          refine z_iconst hx hb dX3_put_46 ?_
          refine lv_iload hx hb dX3_put_47 (lv_at hl 0 rfl) ?_
          refine z_iconst hx hb dX3_put_49 ?_
          refine z_iadd (x := q) (y := 1) hx hb dX3_put_50 ?_
          refine z_imul (x := 4) (y := (q) + (1)) hx hb dX3_put_51 ?_
          refine z_iconst hx hb dX3_put_52 ?_
          refine lv_aload_n hx hb dX3_put_53 rfl (lv_at hl 1 rfl) ?_
          refine zm_get hx hb hK hts hown hP 10 (by decide) q_fl_RX3_175 (v := .int (zI (F 5))) rfl dX3_put_54 ?_
          refine lv_iload hx hb dX3_put_57 (lv_at hl 0 rfl) ?_
          refine z_isub (x := F 5) (y := q) hx hb dX3_put_59 ?_
          refine z_imul (x := 4) (y := (F 5) - (q)) hx hb dX3_put_60 ?_
          refine zm_cpE hx hb (hml.trans hl.1.symm) hown hts hK hP hS (hD 10 (by decide)) (sp := (4) * (q)) (dp := (4) * ((q) + (1))) (n := (4) * ((F 5) - (q))) (by omega) (by omega) (by omega) (by omega) (by omega) (Nat.le_of_ble_eq_true rfl) (Nat.le_of_ble_eq_true rfl) dX3_put_61 (fun H locs hP hz hS => ?_)
          refine z_iconst hx hb dX3_put_64 ?_
          refine zm_newI hx hb hts hK hP hS fA_new (n := 4) (by decide) (by show 0 + 1 ≤ _; exact Nat.le_of_ble_eq_true rfl) (by show 0 + _ ≤ _; exact Nat.le_of_ble_eq_true rfl) dX3_put_65 (fun na H hN hP hDn hne hna hz hS => ?_)
          refine lv_dup hx hb dX3_put_67 rfl ?_
          refine z_iconst hx hb dX3_put_68 ?_
          refine lv_iload_n hx hb dX3_put_69 rfl (lv_at hl 2 rfl) ?_
          refine zm_sN (x := x) hx hb hK hP hS hDn hne hN (i := 0) (by decide) (by decide) dX3_put_70 (fun H locs hN hP hz hS => ?_)
          refine lv_dup hx hb dX3_put_71 rfl ?_
          refine z_iconst hx hb dX3_put_72 ?_
          refine lv_iload_n hx hb dX3_put_73 rfl (lv_at hl 3 rfl) ?_
          refine zm_sN (x := v) hx hb hK hP hS hDn hne hN (i := 1) (by decide) (by decide) dX3_put_74 (fun H locs hN hP hz hS => ?_)
          refine lv_dup hx hb dX3_put_75 rfl ?_
          refine z_iconst hx hb dX3_put_76 ?_
          refine lv_iload_n hx hb dX3_put_77 rfl (lv_at hl 4 rfl) ?_
          refine zm_sN (x := t) hx hb hK hP hS hDn hne hN (i := 2) (by decide) (by decide) dX3_put_78 (fun H locs hN hP hz hS => ?_)
          refine lv_dup hx hb dX3_put_79 rfl ?_
          refine z_iconst hx hb dX3_put_80 ?_
          refine lv_iload hx hb dX3_put_81 (lv_at hl 5 rfl) ?_
          refine zm_sN (x := b) hx hb hK hP hS hDn hne hN (i := 3) (by decide) (by decide) dX3_put_83 (fun H locs hN hP hz hS => ?_)
          refine lv_astore (lv' := [(6, .ref (na)), (5, .int (zI (q))), (0, .ref (ad 0)), (1, .int (zI (x))), (2, .int (zI (v))), (3, .int (zI (t))), (4, .int (zI (b)))]) hx hb dX3_put_84 hl (by decide) rfl (fun ls hl => ?_)
          refine lv_aload hx hb dX3_put_86 (lv_at hl 0 rfl) ?_
          refine z_iconst hx hb dX3_put_88 ?_
          refine lv_aload_n hx hb dX3_put_89 rfl (lv_at hl 2 rfl) ?_
          refine zm_get hx hb hK hts hown hP 11 (by decide) q_fl_RX3_34 (v := .ref (ad 10)) rfl dX3_put_90 ?_
          refine z_iconst hx hb dX3_put_93 ?_
          refine lv_iload hx hb dX3_put_94 (lv_at hl 1 rfl) ?_
          refine z_imul (x := 4) (y := q) hx hb dX3_put_96 ?_
          refine z_iconst hx hb dX3_put_97 ?_
          refine zm_cpN hx hb (hml.trans hl.1.symm) hown hts hK hP hS (hD 10 (by decide)) hN (sp := 0) (dp := (4) * (q)) (n := 4) (by omega) (by omega) (by omega) (by omega) (by omega) (by decide) (Nat.le_of_ble_eq_true rfl) (Nat.le_of_ble_eq_true rfl) dX3_put_98 (fun H locs hP hz hS => ?_)
          rw [zW_s, zW_W] at hP
          refine lv_aload_n hx hb dX3_put_101 rfl (lv_at hl 2 rfl) ?_
          refine lv_dup hx hb dX3_put_102 rfl ?_
          refine zm_get hx hb hK hts hown hP 10 (by decide) q_fl_RX3_175 (v := .int (zI (F 5))) rfl dX3_put_103 ?_
          refine z_iconst hx hb dX3_put_106 ?_
          refine z_iadd (x := F 5) (y := 1) hx hb dX3_put_107 ?_
          refine zm_put (x := (F 5) + (1)) hx hb hK hts hown hP hS (hD 0 (by decide)) 5 (by decide) q_fl_RX3_175 dX3_put_108 (fun H locs hP hz ho hS => ?_)
          exact e_Wv hx hb hr hlk hS (by omega) (by omega) (by unfold ptE; rw [h9]; exact hP) dX3_put_111
        · skip
          refine z_iinc (lv' := [(5, .int (zI (q + (-1)))), (0, .ref (ad 0)), (1, .int (zI (x))), (2, .int (zI (v))), (3, .int (zI (t))), (4, .int (zI (b)))]) hx hb dX3_put_28 hl (k := 0) rfl (by decide) rfl (fun ls hl => ?_)
          refine lv_goto (tgt := 6) hx hb dX3_put_31 (by decide) ?_
          exact ih (q + (-1)) (by omega) (by omega) (by rw [← h2]; unfold ptQ; rw [pd_s (m := q) (by omega), if_pos (by assumption)]; rfl) (by omega) _ (lv_sub hl [0, 1, 2, 3, 4, 5] rfl)
  exact lp_6 1600 (F 5) (by omega) (by omega) rfl (by omega) _ (lv_sub hl [0, 1, 2, 3, 4, 5] rfl)
