/-! the model: F thrown beats part key voices eventMany, A many ends beams holding events, B the tables -/
abbrev mF (ad : Nat → Nat) (F : Nat → Int) : List Value := [.int (zI (F 0)), .int (zI (F 1)), .int (zI (F 2)), .int (zI (F 3)), .int (zI (F 4)), .ref (ad 1), .ref (ad 2), .ref (ad 7), .ref (ad 8), .ref (ad 9), .int (zI (F 5)), .ref (ad 10)]
def mE (G : zG) (ad : Nat → Nat) (F : Nat → Int) (A : Nat → Int → Int) (B : Int → Int → Int) (k : Nat) : va_E :=
  if k = 0 then .inr (3, mF ad F)
  else if k = 1 then .inl (G.2.1 0, 4, .inl (zA (A 0)))
  else if k = 2 then .inl (G.2.1 1, 4, .inr (.inr (.inr (.inr (fun j => some (ad (3 + j)))))))
  else if k < 7 then .inl (G.2.1 0, 2000, .inl (zA (B ((k : Int) - 3))))
  else if k = 7 then .inl (G.2.1 0, 4, .inl (zA (A 1)))
  else if k = 8 then .inl (G.2.1 0, 4, .inl (zA (A 2)))
  else if k = 9 then .inl (G.2.1 0, 63, .inl (zA (A 3)))
  else .inl (G.2.1 0, 6400, .inl (zA (A 4)))
def MP (G : zG) (ad : Nat → Nat) (F : Nat → Int) (A : Nat → Int → Int) (B : Int → Int → Int) (H : Heap) : Prop := PP G 11 ad (mE G ad F A B) H
def zB (B : Int → Int → Int) (v i x : Int) : Int → Int → Int := fun u j => if u = v ∧ j = i then x else B u j
theorem zB_row (B : Int → Int → Int) (v i x : Int) : zB B v i x v = zU (B v) i x := by
  funext j
  unfold zB zU
  simp
theorem zB_off {B : Int → Int → Int} {v u : Int} (i x : Int) (h : u ≠ v) : zB B v i x u = B u := by
  funext j
  unfold zB
  simp [h]
section MPS
variable {G : zG} {ad : Nat → Nat} {F : Nat → Int} {A : Nat → Int → Int} {B : Int → Int → Int} {H : Heap}
theorem MP.rec {s : State} (hK : va_K G.1 vwCl (zT G) s) (h : MP G ad F A B H) : ∃ cell : Cell, H[ad 0]? = some cell ∧ cell.vm.isStatics = false ∧ s.vm.findClass RX3 = some cell.cls := va_at_rec hK (h.2 0 (by decide)) (C := RX3) (T := TX3) (N := 12) rfl
def mFi (j : Nat) : Nat := if j = 5 then 10 else j
theorem mF_set (ad : Nat → Nat) (F : Nat → Int) (x : Int) : ∀ j, j < 6 → (mF ad F).set (mFi j) (.int (zI x)) = mF ad (zN F j x) := by
  intro j hj
  rcases (by omega : j = 0 ∨ j = 1 ∨ j = 2 ∨ j = 3 ∨ j = 4 ∨ j = 5) with h | h | h | h | h | h <;> subst h <;> rfl
theorem mF_ty : ∀ j, j < 6 → (TX3 (mFi j)).2.2.2 = false ∧ tyX3 (mFi j) = .int ∧ mFi j < 12 := by decide +kernel
theorem mE_uF (F' : Nat → Int) (j : Nat) (hj : j ≠ 0) : mE G ad F' A B j = mE G ad F A B j := by
  unfold mE
  rw [if_neg hj, if_neg hj]
theorem mE_B {v : Int} (h : 0 ≤ v ∧ v < 4) : mE G ad F A B (3 + v.toNat) = .inl (G.2.1 0, 2000, .inl (zA (B v))) := by
  unfold mE
  rw [if_neg (by omega), if_neg (by omega), if_neg (by omega), if_pos (by omega), show (((3 + v.toNat : Nat) : Int) - 3) = v by omega]
theorem mE_uB {v : Int} (h : 0 ≤ v ∧ v < 4) (i x : Int) (j : Nat) (hj : j ≠ 3 + v.toNat) : mE G ad F A (zB B v i x) j = mE G ad F A B j := by
  unfold mE
  repeat' split
  all_goals first | rfl | rw [zB_off i x (by omega)]
end MPS
section ZM
variable {p : Program} {l : Launch} {e : Env} {R : Room} {s : State} {m : MethodId} {args : Array Value} {below : List Frame} {meth : Method} {c : Code} {H : Heap} {locs : List Loc} {cells slots : Nat} {Q : State → Prop}
variable {cc : ByteArray} {pc : Nat} {ls : Array Slot} {rest : List Value} {D : Nat → Prop} {H0 : Heap}
variable {G : zG} {ad : Nat → Nat} {F : Nat → Int} {A : Nat → Int → Int} {B : Int → Int → Int}
theorem zm_get (hexec : p.tables.exec = Jvm.exec) (hb : c.code = cc) (hK : va_K G.1 vwCl (zT G) s) (hts : ∀ w ∈ lw_all, w.before args s = true) {own : String} {index : Nat} (hown : s.vm.findClass own = some m.cls) (hP : MP G ad F A B H) (k : Nat) (hk : k < 12) (hlink : Cond.fieldLink own index (TX3 k).1 (TX3 k).2.1 (TX3 k).2.2.1 ∈ lw_all) {v : Value} (hv : (mF ad F)[k]? = some v) (hdg : decode cc pc = .ok (.getfield index, 3))
    (kk : W p l e R s m args below meth c H locs cells slots Q (F0 m (pc + 3) ls (v :: rest))) : W p l e R s m args below meth c H locs cells slots Q (F0 m pc ls (.ref (ad 0) :: rest)) :=
  z_get (C := RX3) (T := TX3) (N := 12) hexec hb hK hts u_in_X3 hown (hP.2 0 (by decide)) rfl k hk hlink hv hdg kk
theorem zm_put (hexec : p.tables.exec = Jvm.exec) (hb : c.code = cc) (hK : va_K G.1 vwCl (zT G) s) (hts : ∀ w ∈ lw_all, w.before args s = true) {own : String} {index : Nat} (hown : s.vm.findClass own = some m.cls) (hP : MP G ad F A B H) (hS : va_S D H0 H locs) (hD : D (ad 0)) (j : Nat) (hj : j < 6) (hlink : Cond.fieldLink own index (TX3 (mFi j)).1 (TX3 (mFi j)).2.1 (TX3 (mFi j)).2.2.1 ∈ lw_all) {x : Int} (hdg : decode cc pc = .ok (.putfield index, 3))
    (kk : ∀ (H1 : Heap) (locs1 : List Loc), MP G ad (zN F j x) A B H1 → H1.size = H.size → (∀ q : Nat, q ≠ ad 0 → H1[q]? = H[q]?) → va_S D H0 H1 locs1 → W p l e R s m args below meth c H1 locs1 cells slots Q (F0 m (pc + 3) ls rest)) : W p l e R s m args below meth c H locs cells slots Q (F0 m pc ls (.int (zI x) :: .ref (ad 0) :: rest)) :=
  z_put (C := RX3) (T := TX3) (N := 12) hexec hb hK hts u_in_X3 tyX3 tyX3_ok nmX3 hown hS hD (hP.2 0 (by decide)) rfl (mFi j) (mF_ty j hj).2.2 hlink (mF_ty j hj).1 (by rw [(mF_ty j hj).2.1]; rfl) (by rw [(mF_ty j hj).2.1]; rfl) (mF_ty j hj).2.2 hdg
    (fun H1 locs1 h1 h2 h3 h4 => kk H1 locs1 (hP.upd (by decide) h1 h3 (by show mE G ad (zN F j x) A B 0 = _; rw [mF_set ad F x j hj]; rfl) (fun i _ hi => mE_uF _ i hi)) h2 h3 h4)
theorem zm_aB (hexec : p.tables.exec = Jvm.exec) (hb : c.code = cc) (hK : va_K G.1 vwCl (zT G) s) (hP : MP G ad F A B H) {i : Int} (hw : 0 ≤ i ∧ i < 4) (hdg : decode cc pc = .ok (.aaload, 1))
    (kk : W p l e R s m args below meth c H locs cells slots Q (F0 m (pc + 1) ls (.ref (ad (3 + i.toNat)) :: rest))) : W p l e R s m args below meth c H locs cells slots Q (F0 m pc ls (.int (zI i) :: .ref (ad 2) :: rest)) :=
  z_aldr (t0 := 1) (n := 4) hexec hb hK rfl rfl (hP.2 2 (by decide)) hw (by decide) rfl hdg kk
theorem zm_lB (hexec : p.tables.exec = Jvm.exec) (hb : c.code = cc) (hK : va_K G.1 vwCl (zT G) s) (hP : MP G ad F A B H) {v : Int} (hw : 0 ≤ v ∧ v < 4) {i : Int} (h0 : 0 ≤ i ∧ i < 2000) (hdg : decode cc pc = .ok (.iaload, 1))
    (kk : W p l e R s m args below meth c H locs cells slots Q (F0 m (pc + 1) ls (.int (zI (B v i)) :: rest))) : W p l e R s m args below meth c H locs cells slots Q (F0 m pc ls (.int (zI i) :: .ref (ad (3 + v.toNat)) :: rest)) :=
  z_ald (n := 2000) hexec hb hK (mE_B (G := G) (ad := ad) (F := F) (A := A) (B := B) hw ▸ hP.2 (3 + v.toNat) (by omega)) h0 (by decide) hdg kk
theorem zm_sB (hexec : p.tables.exec = Jvm.exec) (hb : c.code = cc) (hK : va_K G.1 vwCl (zT G) s) (hP : MP G ad F A B H) (hS : va_S D H0 H locs) {v : Int} (hw : 0 ≤ v ∧ v < 4) (hD : D (ad (3 + v.toNat))) {i x : Int} (h0 : 0 ≤ i ∧ i < 2000) (hdg : decode cc pc = .ok (.iastore, 1))
    (kk : ∀ (H1 : Heap) (locs1 : List Loc), MP G ad F A (zB B v i x) H1 → H1.size = H.size → (∀ q : Nat, q ≠ ad (3 + v.toNat) → H1[q]? = H[q]?) → va_S D H0 H1 locs1 → W p l e R s m args below meth c H1 locs1 cells slots Q (F0 m (pc + 1) ls rest)) : W p l e R s m args below meth c H locs cells slots Q (F0 m pc ls (.int (zI x) :: .int (zI i) :: .ref (ad (3 + v.toNat)) :: rest)) :=
  z_ast (n := 2000) hexec hb hK hS hD (mE_B (G := G) (ad := ad) (F := F) (A := A) (B := B) hw ▸ hP.2 (3 + v.toNat) (by omega)) h0 (by decide) hdg
    (fun H1 locs1 h1 h2 h3 h4 => kk H1 locs1 (hP.upd (by omega) h1 h3 (by rw [mE_B hw, zB_row]) (fun j _ hne => mE_uB hw i x j hne)) h2 h3 h4)
theorem zm_lA0 (hexec : p.tables.exec = Jvm.exec) (hb : c.code = cc) (hK : va_K G.1 vwCl (zT G) s) (hP : MP G ad F A B H) {i : Int} (h0 : 0 ≤ i ∧ i < 4) (hdg : decode cc pc = .ok (.iaload, 1))
    (kk : W p l e R s m args below meth c H locs cells slots Q (F0 m (pc + 1) ls (.int (zI (A 0 i)) :: rest))) : W p l e R s m args below meth c H locs cells slots Q (F0 m pc ls (.int (zI i) :: .ref (ad 1) :: rest)) :=
  z_ald (n := 4) hexec hb hK (hP.2 1 (by decide)) h0 (by decide) hdg kk
theorem mE_uA0 {G : zG} {ad : Nat → Nat} {F : Nat → Int} {A : Nat → Int → Int} {B : Int → Int → Int} (i x : Int) (j : Nat) (hl : j < 11) (hj : j ≠ 1) : mE G ad F (zR A 0 i x) B j = mE G ad F A B j := by
  unfold mE
  repeat' split
  all_goals first | rfl | rw [zR_off i x (by decide)] | omega
theorem zm_sA0 (hexec : p.tables.exec = Jvm.exec) (hb : c.code = cc) (hK : va_K G.1 vwCl (zT G) s) (hP : MP G ad F A B H) (hS : va_S D H0 H locs) (hD : D (ad 1)) {i x : Int} (h0 : 0 ≤ i ∧ i < 4) (hdg : decode cc pc = .ok (.iastore, 1))
    (kk : ∀ (H1 : Heap) (locs1 : List Loc), MP G ad F (zR A 0 i x) B H1 → H1.size = H.size → (∀ q : Nat, q ≠ ad 1 → H1[q]? = H[q]?) → va_S D H0 H1 locs1 → W p l e R s m args below meth c H1 locs1 cells slots Q (F0 m (pc + 1) ls rest)) : W p l e R s m args below meth c H locs cells slots Q (F0 m pc ls (.int (zI x) :: .int (zI i) :: .ref (ad 1) :: rest)) :=
  z_ast (n := 4) hexec hb hK hS hD (hP.2 1 (by decide)) h0 (by decide) hdg
    (fun H1 locs1 h1 h2 h3 h4 => kk H1 locs1 (hP.upd (by decide) h1 h3 (by show mE G ad F (zR A 0 i x) B 1 = _; rw [← zR_row]; rfl) (fun j9 hl hne => mE_uA0 i x j9 hl hne)) h2 h3 h4)
theorem zm_lA1 (hexec : p.tables.exec = Jvm.exec) (hb : c.code = cc) (hK : va_K G.1 vwCl (zT G) s) (hP : MP G ad F A B H) {i : Int} (h0 : 0 ≤ i ∧ i < 4) (hdg : decode cc pc = .ok (.iaload, 1))
    (kk : W p l e R s m args below meth c H locs cells slots Q (F0 m (pc + 1) ls (.int (zI (A 1 i)) :: rest))) : W p l e R s m args below meth c H locs cells slots Q (F0 m pc ls (.int (zI i) :: .ref (ad 7) :: rest)) :=
  z_ald (n := 4) hexec hb hK (hP.2 7 (by decide)) h0 (by decide) hdg kk
theorem mE_uA1 {G : zG} {ad : Nat → Nat} {F : Nat → Int} {A : Nat → Int → Int} {B : Int → Int → Int} (i x : Int) (j : Nat) (hl : j < 11) (hj : j ≠ 7) : mE G ad F (zR A 1 i x) B j = mE G ad F A B j := by
  unfold mE
  repeat' split
  all_goals first | rfl | rw [zR_off i x (by decide)] | omega
theorem zm_sA1 (hexec : p.tables.exec = Jvm.exec) (hb : c.code = cc) (hK : va_K G.1 vwCl (zT G) s) (hP : MP G ad F A B H) (hS : va_S D H0 H locs) (hD : D (ad 7)) {i x : Int} (h0 : 0 ≤ i ∧ i < 4) (hdg : decode cc pc = .ok (.iastore, 1))
    (kk : ∀ (H1 : Heap) (locs1 : List Loc), MP G ad F (zR A 1 i x) B H1 → H1.size = H.size → (∀ q : Nat, q ≠ ad 7 → H1[q]? = H[q]?) → va_S D H0 H1 locs1 → W p l e R s m args below meth c H1 locs1 cells slots Q (F0 m (pc + 1) ls rest)) : W p l e R s m args below meth c H locs cells slots Q (F0 m pc ls (.int (zI x) :: .int (zI i) :: .ref (ad 7) :: rest)) :=
  z_ast (n := 4) hexec hb hK hS hD (hP.2 7 (by decide)) h0 (by decide) hdg
    (fun H1 locs1 h1 h2 h3 h4 => kk H1 locs1 (hP.upd (by decide) h1 h3 (by show mE G ad F (zR A 1 i x) B 7 = _; rw [← zR_row]; rfl) (fun j9 hl hne => mE_uA1 i x j9 hl hne)) h2 h3 h4)
theorem zm_lA2 (hexec : p.tables.exec = Jvm.exec) (hb : c.code = cc) (hK : va_K G.1 vwCl (zT G) s) (hP : MP G ad F A B H) {i : Int} (h0 : 0 ≤ i ∧ i < 4) (hdg : decode cc pc = .ok (.iaload, 1))
    (kk : W p l e R s m args below meth c H locs cells slots Q (F0 m (pc + 1) ls (.int (zI (A 2 i)) :: rest))) : W p l e R s m args below meth c H locs cells slots Q (F0 m pc ls (.int (zI i) :: .ref (ad 8) :: rest)) :=
  z_ald (n := 4) hexec hb hK (hP.2 8 (by decide)) h0 (by decide) hdg kk
theorem mE_uA2 {G : zG} {ad : Nat → Nat} {F : Nat → Int} {A : Nat → Int → Int} {B : Int → Int → Int} (i x : Int) (j : Nat) (hl : j < 11) (hj : j ≠ 8) : mE G ad F (zR A 2 i x) B j = mE G ad F A B j := by
  unfold mE
  repeat' split
  all_goals first | rfl | rw [zR_off i x (by decide)] | omega
theorem zm_sA2 (hexec : p.tables.exec = Jvm.exec) (hb : c.code = cc) (hK : va_K G.1 vwCl (zT G) s) (hP : MP G ad F A B H) (hS : va_S D H0 H locs) (hD : D (ad 8)) {i x : Int} (h0 : 0 ≤ i ∧ i < 4) (hdg : decode cc pc = .ok (.iastore, 1))
    (kk : ∀ (H1 : Heap) (locs1 : List Loc), MP G ad F (zR A 2 i x) B H1 → H1.size = H.size → (∀ q : Nat, q ≠ ad 8 → H1[q]? = H[q]?) → va_S D H0 H1 locs1 → W p l e R s m args below meth c H1 locs1 cells slots Q (F0 m (pc + 1) ls rest)) : W p l e R s m args below meth c H locs cells slots Q (F0 m pc ls (.int (zI x) :: .int (zI i) :: .ref (ad 8) :: rest)) :=
  z_ast (n := 4) hexec hb hK hS hD (hP.2 8 (by decide)) h0 (by decide) hdg
    (fun H1 locs1 h1 h2 h3 h4 => kk H1 locs1 (hP.upd (by decide) h1 h3 (by show mE G ad F (zR A 2 i x) B 8 = _; rw [← zR_row]; rfl) (fun j9 hl hne => mE_uA2 i x j9 hl hne)) h2 h3 h4)
theorem zm_lA3 (hexec : p.tables.exec = Jvm.exec) (hb : c.code = cc) (hK : va_K G.1 vwCl (zT G) s) (hP : MP G ad F A B H) {i : Int} (h0 : 0 ≤ i ∧ i < 63) (hdg : decode cc pc = .ok (.iaload, 1))
    (kk : W p l e R s m args below meth c H locs cells slots Q (F0 m (pc + 1) ls (.int (zI (A 3 i)) :: rest))) : W p l e R s m args below meth c H locs cells slots Q (F0 m pc ls (.int (zI i) :: .ref (ad 9) :: rest)) :=
  z_ald (n := 63) hexec hb hK (hP.2 9 (by decide)) h0 (by decide) hdg kk
theorem mE_uA3 {G : zG} {ad : Nat → Nat} {F : Nat → Int} {A : Nat → Int → Int} {B : Int → Int → Int} (i x : Int) (j : Nat) (hl : j < 11) (hj : j ≠ 9) : mE G ad F (zR A 3 i x) B j = mE G ad F A B j := by
  unfold mE
  repeat' split
  all_goals first | rfl | rw [zR_off i x (by decide)] | omega
theorem zm_sA3 (hexec : p.tables.exec = Jvm.exec) (hb : c.code = cc) (hK : va_K G.1 vwCl (zT G) s) (hP : MP G ad F A B H) (hS : va_S D H0 H locs) (hD : D (ad 9)) {i x : Int} (h0 : 0 ≤ i ∧ i < 63) (hdg : decode cc pc = .ok (.iastore, 1))
    (kk : ∀ (H1 : Heap) (locs1 : List Loc), MP G ad F (zR A 3 i x) B H1 → H1.size = H.size → (∀ q : Nat, q ≠ ad 9 → H1[q]? = H[q]?) → va_S D H0 H1 locs1 → W p l e R s m args below meth c H1 locs1 cells slots Q (F0 m (pc + 1) ls rest)) : W p l e R s m args below meth c H locs cells slots Q (F0 m pc ls (.int (zI x) :: .int (zI i) :: .ref (ad 9) :: rest)) :=
  z_ast (n := 63) hexec hb hK hS hD (hP.2 9 (by decide)) h0 (by decide) hdg
    (fun H1 locs1 h1 h2 h3 h4 => kk H1 locs1 (hP.upd (by decide) h1 h3 (by show mE G ad F (zR A 3 i x) B 9 = _; rw [← zR_row]; rfl) (fun j9 hl hne => mE_uA3 i x j9 hl hne)) h2 h3 h4)
theorem zm_lA4 (hexec : p.tables.exec = Jvm.exec) (hb : c.code = cc) (hK : va_K G.1 vwCl (zT G) s) (hP : MP G ad F A B H) {i : Int} (h0 : 0 ≤ i ∧ i < 6400) (hdg : decode cc pc = .ok (.iaload, 1))
    (kk : W p l e R s m args below meth c H locs cells slots Q (F0 m (pc + 1) ls (.int (zI (A 4 i)) :: rest))) : W p l e R s m args below meth c H locs cells slots Q (F0 m pc ls (.int (zI i) :: .ref (ad 10) :: rest)) :=
  z_ald (n := 6400) hexec hb hK (hP.2 10 (by decide)) h0 (by decide) hdg kk
theorem mE_uA4 {G : zG} {ad : Nat → Nat} {F : Nat → Int} {A : Nat → Int → Int} {B : Int → Int → Int} (i x : Int) (j : Nat) (hl : j < 11) (hj : j ≠ 10) : mE G ad F (zR A 4 i x) B j = mE G ad F A B j := by
  unfold mE
  repeat' split
  all_goals first | rfl | rw [zR_off i x (by decide)] | omega
theorem zm_sA4 (hexec : p.tables.exec = Jvm.exec) (hb : c.code = cc) (hK : va_K G.1 vwCl (zT G) s) (hP : MP G ad F A B H) (hS : va_S D H0 H locs) (hD : D (ad 10)) {i x : Int} (h0 : 0 ≤ i ∧ i < 6400) (hdg : decode cc pc = .ok (.iastore, 1))
    (kk : ∀ (H1 : Heap) (locs1 : List Loc), MP G ad F (zR A 4 i x) B H1 → H1.size = H.size → (∀ q : Nat, q ≠ ad 10 → H1[q]? = H[q]?) → va_S D H0 H1 locs1 → W p l e R s m args below meth c H1 locs1 cells slots Q (F0 m (pc + 1) ls rest)) : W p l e R s m args below meth c H locs cells slots Q (F0 m pc ls (.int (zI x) :: .int (zI i) :: .ref (ad 10) :: rest)) :=
  z_ast (n := 6400) hexec hb hK hS hD (hP.2 10 (by decide)) h0 (by decide) hdg
    (fun H1 locs1 h1 h2 h3 h4 => kk H1 locs1 (hP.upd (by decide) h1 h3 (by show mE G ad F (zR A 4 i x) B 10 = _; rw [← zR_row]; rfl) (fun j9 hl hne => mE_uA4 i x j9 hl hne)) h2 h3 h4)
theorem zm_nA3 (hexec : p.tables.exec = Jvm.exec) (hb : c.code = cc) (hK : va_K G.1 vwCl (zT G) s) (hP : MP G ad F A B H) (hdg : decode cc pc = .ok (.arraylength, 1))
    (kk : W p l e R s m args below meth c H locs cells slots Q (F0 m (pc + 1) ls (.int (zI 63) :: rest))) : W p l e R s m args below meth c H locs cells slots Q (F0 m pc ls (.ref (ad 9) :: rest)) :=
  z_alen (n := 63) hexec hb hK (hP.2 9 (by decide)) hdg kk
end ZM
/-- the ticks of a value -/
def tkO (pa d : Int) : Int := 384 / pa + (if 0 < d then 384 / pa / 2 else 0) + (if 1 < d then 384 / pa / 4 else 0)
/-- part and dots are those of a value -/
abbrev VK (pa d : Int) : Prop := ∃ k, (0 ≤ k ∧ k < 15) ∧ valP k = pa ∧ valD k = d
theorem tkO_val {k : Int} (h : 0 ≤ k ∧ k < 15) : tkO (valP k) (valD k) = valT k := co15 (q := fun k => tkO (valP k) (valD k) = valT k) (by decide) h
theorem VK_rng {pa d : Int} (h : VK pa d) : (1 ≤ pa ∧ pa ≤ 32) ∧ (0 ≤ d ∧ d ≤ 2) ∧ 12 ≤ tkO pa d ∧ tkO pa d ≤ 672 := by
  obtain ⟨k, hk, rfl, rfl⟩ := h
  have h1 := valP_rng hk
  have h2 := valD_rng hk
  have h3 := valT_rng hk
  rw [tkO_val hk]
  omega
def MOK (F : Nat → Int) (A : Nat → Int → Int) (B : Int → Int → Int) : Prop :=
  (1 ≤ F 1 ∧ F 1 ≤ 12) ∧ (F 2 = 2 ∨ F 2 = 4 ∨ F 2 = 8) ∧ (-7 ≤ F 3 ∧ F 3 ≤ 7) ∧ (0 ≤ F 4 ∧ F 4 ≤ 4) ∧ ∀ v, 0 ≤ v → v < 4 → (0 ≤ A 0 v ∧ A 0 v ≤ 200) ∧ ∀ e, 0 ≤ e → e < A 0 v →
    VK (B v (10 * e + 0)) (B v (10 * e + 1)) ∧ (0 ≤ B v (10 * e + 2) ∧ B v (10 * e + 2) ≤ 1) ∧ (0 ≤ B v (10 * e + 3) ∧ B v (10 * e + 3) < 7) ∧ (-2 ≤ B v (10 * e + 4) ∧ B v (10 * e + 4) ≤ 2) ∧ (0 ≤ B v (10 * e + 5) ∧ B v (10 * e + 5) < 9) ∧ (0 ≤ B v (10 * e + 6) ∧ B v (10 * e + 6) ≤ 1)
/-- an element's facts -/
theorem MOK.el {F : Nat → Int} {A : Nat → Int → Int} {B : Int → Int → Int} (h : MOK F A B) {v e : Int} (hv : 0 ≤ v ∧ v < 4) (he : 0 ≤ e ∧ e < A 0 v) :
    (1 ≤ B v (10 * e + 0) ∧ B v (10 * e + 0) ≤ 32) ∧ (0 ≤ B v (10 * e + 1) ∧ B v (10 * e + 1) ≤ 2) ∧ (12 ≤ tkO (B v (10 * e + 0)) (B v (10 * e + 1)) ∧ tkO (B v (10 * e + 0)) (B v (10 * e + 1)) ≤ 672) ∧ (0 ≤ B v (10 * e + 2) ∧ B v (10 * e + 2) ≤ 1) ∧ (0 ≤ B v (10 * e + 3) ∧ B v (10 * e + 3) < 7) ∧ (-2 ≤ B v (10 * e + 4) ∧ B v (10 * e + 4) ≤ 2) ∧ (0 ≤ B v (10 * e + 5) ∧ B v (10 * e + 5) < 9) ∧ (0 ≤ B v (10 * e + 6) ∧ B v (10 * e + 6) ≤ 1) := by
  have q := (h.2.2.2.2 v hv.1 hv.2).2 e he.1 he.2
  have r := VK_rng q.1
  exact ⟨r.1, r.2.1, r.2.2, q.2⟩
theorem MOK.many {F : Nat → Int} {A : Nat → Int → Int} {B : Int → Int → Int} (h : MOK F A B) {v : Int} (hv : 0 ≤ v ∧ v < 4) : 0 ≤ A 0 v ∧ A 0 v ≤ 200 := (h.2.2.2.2 v hv.1 hv.2).1
def mTn (B : Int → Int → Int) (v e : Int) : Int := if B v (10 * e + 2) = 0 then -1 else toneF (B v (10 * e + 3)) (B v (10 * e + 4)) (B v (10 * e + 5))
def mTk (B : Int → Int → Int) (v e : Int) : Int := tkO (B v (10 * e + 0)) (B v (10 * e + 1))
theorem mTn_rng {F : Nat → Int} {A : Nat → Int → Int} {B : Int → Int → Int} (h : MOK F A B) {v e : Int} (hv : 0 ≤ v ∧ v < 4) (he : 0 ≤ e ∧ e < A 0 v) : -2 ≤ mTn B v e ∧ mTn B v e ≤ 109 := by
  have q := h.el hv he
  have r := stepT_rng q.2.2.2.2.1
  unfold mTn toneF
  split <;> omega
def sgM (key st : Int) : Int := if fp (fun k => ([3, 0, 4, 1, 5, 2, 6] : List Int).getD k.toNat 0 = st) 7 < 7 then (if fp (fun k => ([3, 0, 4, 1, 5, 2, 6] : List Int).getD k.toNat 0 = st) 7 < key then 1 else if 6 - fp (fun k => ([3, 0, 4, 1, 5, 2, 6] : List Int).getD k.toNat 0 = st) 7 < -key then -1 else 0) else 0
def isV (pa d : Int) (n : Int) : Int := pf 0 (fun k a => if a = 0 then bI (valP k = pa ∧ valD k = d) else 1) n
theorem isV_01 {pa d n : Int} (h : 0 ≤ n) : isV pa d n = 0 ∨ isV pa d n = 1 := by
  refine pf_ind (fun (n : Int) (a : Int) => a = 0 ∨ a = 1) (Or.inl rfl) ?_ h
  intro i a _ _
  split
  · exact bI_01 _
  · exact Or.inr rfl
