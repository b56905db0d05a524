/-! the pictures: a voice, the score, the model -/
abbrev vF (ad : Nat → Nat) (F : Nat → Int) : List Value := [.ref (ad 1), .ref (ad 11), .ref (ad 15), .ref (ad 19), .ref (ad 20), .int (zI (F 0)), .int (zI (F 1)), .int (zI (F 2)), .int (zI (F 3)), .int (zI (F 4)), .int (zI (F 5)), .int (zI (F 6))]
/-- the places of a voice: T told, P pitches, S sounds, A heldBars and heldSigns, F count end soundCount beamCount shownCount greatestTone leastTone -/
def vE (G : zG) (ad : Nat → Nat) (T P S A : Nat → Int → Int) (F : Nat → Int) (k : Nat) : va_E :=
  if k = 0 then .inr (1, vF ad F)
  else if k = 1 then .inl (G.2.1 1, 9, .inr (.inr (.inr (.inr (fun j => some (ad (2 + j)))))))
  else if k < 11 then .inl (G.2.1 0, 200, .inl (zA (T (k - 2))))
  else if k = 11 then .inl (G.2.1 1, 3, .inr (.inr (.inr (.inr (fun j => some (ad (12 + j)))))))
  else if k < 15 then .inl (G.2.1 0, 200, .inl (zA (P (k - 12))))
  else if k = 15 then .inl (G.2.1 1, 3, .inr (.inr (.inr (.inr (fun j => some (ad (16 + j)))))))
  else if k < 19 then .inl (G.2.1 0, 200, .inl (zA (S (k - 16))))
  else .inl (G.2.1 0, 63, .inl (zA (A (k - 19))))
def VP (G : zG) (ad : Nat → Nat) (T P S A : Nat → Int → Int) (F : Nat → Int) (H : Heap) : Prop := PP G 21 ad (vE G ad T P S A F) H
section VEL
variable (G : zG) (ad : Nat → Nat) (T P S A : Nat → Int → Int) (F : Nat → Int)
theorem vE_T {w : Nat} (h : w < 9) : vE G ad T P S A F (2 + w) = .inl (G.2.1 0, 200, .inl (zA (T w))) := by
  unfold vE
  rw [if_neg (by omega), if_neg (by omega), if_pos (by omega), Nat.add_sub_cancel_left]
theorem vE_P {w : Nat} (h : w < 3) : vE G ad T P S A F (12 + w) = .inl (G.2.1 0, 200, .inl (zA (P w))) := by
  unfold vE
  rw [if_neg (by omega), if_neg (by omega), if_neg (by omega), if_neg (by omega), if_pos (by omega), Nat.add_sub_cancel_left]
theorem vE_S {w : Nat} (h : w < 3) : vE G ad T P S A F (16 + w) = .inl (G.2.1 0, 200, .inl (zA (S w))) := by
  unfold vE
  rw [if_neg (by omega), if_neg (by omega), if_neg (by omega), if_neg (by omega), if_neg (by omega), if_neg (by omega), if_pos (by omega), Nat.add_sub_cancel_left]
theorem vE_A {w : Nat} (h : w < 2) : vE G ad T P S A F (19 + w) = .inl (G.2.1 0, 63, .inl (zA (A w))) := by
  unfold vE
  rw [if_neg (by omega), if_neg (by omega), if_neg (by omega), if_neg (by omega), if_neg (by omega), if_neg (by omega), if_neg (by omega), Nat.add_sub_cancel_left]
theorem vE_uT {w : Nat} (h : w < 9) (i x : Int) (j : Nat) (hj : j ≠ 2 + w) : vE G ad (zR T w i x) P S A F j = vE G ad T P S A F j := by
  unfold vE
  split
  · rfl
  · split
    · rfl
    · split
      · rw [zR_off i x (by omega)]
      · rfl
theorem vE_uP {w : Nat} (h : w < 3) (i x : Int) (j : Nat) (hj : j ≠ 12 + w) : vE G ad T (zR P w i x) S A F j = vE G ad T P S A F j := by
  unfold vE
  repeat' split
  all_goals first | rfl | rw [zR_off i x (by omega)]
theorem vE_uS {w : Nat} (h : w < 3) (i x : Int) (j : Nat) (hj : j ≠ 16 + w) : vE G ad T P (zR S w i x) A F j = vE G ad T P S A F j := by
  unfold vE
  repeat' split
  all_goals first | rfl | rw [zR_off i x (by omega)]
theorem vE_uA {w : Nat} (h : w < 2) (i x : Int) (j : Nat) (hj : j < 21) (hj2 : j ≠ 19 + w) : vE G ad T P S (zR A w i x) F j = vE G ad T P S A F j := by
  unfold vE
  repeat' split
  all_goals first | rfl | rw [zR_off i x (by omega)]
theorem vE_uF (F' : Nat → Int) (j : Nat) (hj : j ≠ 0) : vE G ad T P S A F' j = vE G ad T P S A F j := by
  unfold vE
  rw [if_neg hj, if_neg hj]
theorem vF_set (ad : Nat → Nat) (F : Nat → Int) (x : Int) : ∀ j, j < 7 → (vF ad F).set (5 + j) (.int (zI x)) = vF ad (zN F j x) := by
  intro j hj
  rcases (by omega : j = 0 ∨ j = 1 ∨ j = 2 ∨ j = 3 ∨ j = 4 ∨ j = 5 ∨ j = 6) with h | h | h | h | h | h | h <;> subst h <;> rfl
theorem vF_ty : ∀ j, j < 7 → (TX1 (5 + j)).2.2.2 = false ∧ tyX1 (5 + j) = .int := by decide +kernel
end VEL
theorem VP.rec {G : zG} {s : State} {ad : Nat → Nat} {T P S A : Nat → Int → Int} {F : Nat → Int} {H : Heap} (hK : va_K G.1 vwCl (zT G) s) (h : VP G ad T P S A F H) : ∃ cell : Cell, H[ad 0]? = some cell ∧ cell.vm.isStatics = false ∧ s.vm.findClass RX1 = some cell.cls := va_at_rec hK (h.2 0 (by decide)) (C := RX1) (T := TX1) (N := 12) rfl
section ZV
variable {p : Program} {l : Launch} {e : Env} {R : Room} {s : State} {m : MethodId} {args : Array Value} {below : List Frame} {meth : Method} {c : Code} {H : Heap} {locs : List Loc} {cells slots : Nat} {Q : State → Prop}
variable {cc : ByteArray} {pc : Nat} {ls : Array Slot} {rest : List Value} {D : Nat → Prop} {H0 : Heap}
variable {G : zG} {ad : Nat → Nat} {T P S A : Nat → Int → Int} {F : Nat → Int}
theorem zv_get (hexec : p.tables.exec = Jvm.exec) (hb : c.code = cc) (hK : va_K G.1 vwCl (zT G) s) (hts : ∀ w ∈ lw_all, w.before args s = true) {own : String} {index : Nat} (hown : s.vm.findClass own = some m.cls) (hP : VP G ad T P S A F H) (k : Nat) (hk : k < 12) (hlink : Cond.fieldLink own index (TX1 k).1 (TX1 k).2.1 (TX1 k).2.2.1 ∈ lw_all) {v : Value} (hv : (vF ad F)[k]? = some v) (hdg : decode cc pc = .ok (.getfield index, 3))
    (kk : W p l e R s m args below meth c H locs cells slots Q (F0 m (pc + 3) ls (v :: rest))) : W p l e R s m args below meth c H locs cells slots Q (F0 m pc ls (.ref (ad 0) :: rest)) :=
  z_get (C := RX1) (T := TX1) (N := 12) hexec hb hK hts u_in_X1 hown (hP.2 0 (by decide)) rfl k hk hlink hv hdg kk
theorem zv_put (hexec : p.tables.exec = Jvm.exec) (hb : c.code = cc) (hK : va_K G.1 vwCl (zT G) s) (hts : ∀ w ∈ lw_all, w.before args s = true) {own : String} {index : Nat} (hown : s.vm.findClass own = some m.cls) (hP : VP G ad T P S A F H) (hS : va_S D H0 H locs) (hD : D (ad 0)) (j : Nat) (hj : j < 7) (hlink : Cond.fieldLink own index (TX1 (5 + j)).1 (TX1 (5 + j)).2.1 (TX1 (5 + j)).2.2.1 ∈ lw_all) {x : Int} (hdg : decode cc pc = .ok (.putfield index, 3))
    (kk : ∀ (H1 : Heap) (locs1 : List Loc), VP G ad T P S A (zN F j x) H1 → H1.size = H.size → (∀ q : Nat, q ≠ ad 0 → H1[q]? = H[q]?) → va_S D H0 H1 locs1 → W p l e R s m args below meth c H1 locs1 cells slots Q (F0 m (pc + 3) ls rest)) : W p l e R s m args below meth c H locs cells slots Q (F0 m pc ls (.int (zI x) :: .ref (ad 0) :: rest)) :=
  z_put (C := RX1) (T := TX1) (N := 12) hexec hb hK hts u_in_X1 tyX1 tyX1_ok nmX1 hown hS hD (hP.2 0 (by decide)) rfl (5 + j) (by omega) hlink (vF_ty j hj).1 (by rw [(vF_ty j hj).2]; rfl) (by rw [(vF_ty j hj).2]; rfl) (by show 5 + j < 12; omega) hdg
    (fun H1 locs1 h1 h2 h3 h4 => kk H1 locs1 (hP.upd (by decide) h1 h3 (by show vE G ad T P S A (zN F j x) 0 = _; rw [vF_set ad F x j hj]; rfl) (fun i _ hi => vE_uF G ad T P S A F _ i hi)) h2 h3 h4)
theorem zv_aT (hexec : p.tables.exec = Jvm.exec) (hb : c.code = cc) (hK : va_K G.1 vwCl (zT G) s) (hP : VP G ad T P S A F H) (w : Nat) (hw : w < 9) {i : Int} (hi : i = (w : Int)) (hdg : decode cc pc = .ok (.aaload, 1))
    (kk : W p l e R s m args below meth c H locs cells slots Q (F0 m (pc + 1) ls (.ref (ad (2 + w)) :: rest))) : W p l e R s m args below meth c H locs cells slots Q (F0 m pc ls (.int (zI i) :: .ref (ad 1) :: rest)) :=
  z_aldr (t0 := 1) (n := 9) hexec hb hK rfl rfl (hP.2 1 (by decide)) (by omega) (by decide) (by subst hi; rfl) hdg kk
theorem zv_aP (hexec : p.tables.exec = Jvm.exec) (hb : c.code = cc) (hK : va_K G.1 vwCl (zT G) s) (hP : VP G ad T P S A F H) (w : Nat) (hw : w < 3) {i : Int} (hi : i = (w : Int)) (hdg : decode cc pc = .ok (.aaload, 1))
    (kk : W p l e R s m args below meth c H locs cells slots Q (F0 m (pc + 1) ls (.ref (ad (12 + w)) :: rest))) : W p l e R s m args below meth c H locs cells slots Q (F0 m pc ls (.int (zI i) :: .ref (ad 11) :: rest)) :=
  z_aldr (t0 := 1) (n := 3) hexec hb hK rfl rfl (hP.2 11 (by decide)) (by omega) (by decide) (by subst hi; rfl) hdg kk
theorem zv_aS (hexec : p.tables.exec = Jvm.exec) (hb : c.code = cc) (hK : va_K G.1 vwCl (zT G) s) (hP : VP G ad T P S A F H) (w : Nat) (hw : w < 3) {i : Int} (hi : i = (w : Int)) (hdg : decode cc pc = .ok (.aaload, 1))
    (kk : W p l e R s m args below meth c H locs cells slots Q (F0 m (pc + 1) ls (.ref (ad (16 + w)) :: rest))) : W p l e R s m args below meth c H locs cells slots Q (F0 m pc ls (.int (zI i) :: .ref (ad 15) :: rest)) :=
  z_aldr (t0 := 1) (n := 3) hexec hb hK rfl rfl (hP.2 15 (by decide)) (by omega) (by decide) (by subst hi; rfl) hdg kk
theorem zv_lT (hexec : p.tables.exec = Jvm.exec) (hb : c.code = cc) (hK : va_K G.1 vwCl (zT G) s) (hP : VP G ad T P S A F H) (w : Nat) (hw : w < 9) {i : Int} (h0 : 0 ≤ i ∧ i < 200) (hdg : decode cc pc = .ok (.iaload, 1))
    (kk : W p l e R s m args below meth c H locs cells slots Q (F0 m (pc + 1) ls (.int (zI (T w i)) :: rest))) : W p l e R s m args below meth c H locs cells slots Q (F0 m pc ls (.int (zI i) :: .ref (ad (2 + w)) :: rest)) :=
  z_ald (n := 200) hexec hb hK (vE_T G ad T P S A F hw ▸ hP.2 (2 + w) (by omega)) h0 (by decide) hdg kk
theorem zv_sT (hexec : p.tables.exec = Jvm.exec) (hb : c.code = cc) (hK : va_K G.1 vwCl (zT G) s) (hP : VP G ad T P S A F H) (hS : va_S D H0 H locs) (w : Nat) (hw : w < 9) (hD : D (ad (2 + w))) {i x : Int} (h0 : 0 ≤ i ∧ i < 200) (hdg : decode cc pc = .ok (.iastore, 1))
    (kk : ∀ (H1 : Heap) (locs1 : List Loc), VP G ad (zR T w i x) P S A F H1 → H1.size = H.size → (∀ q : Nat, q ≠ ad (2 + w) → H1[q]? = H[q]?) → va_S D H0 H1 locs1 → W p l e R s m args below meth c H1 locs1 cells slots Q (F0 m (pc + 1) ls rest)) : W p l e R s m args below meth c H locs cells slots Q (F0 m pc ls (.int (zI x) :: .int (zI i) :: .ref (ad (2 + w)) :: rest)) :=
  z_ast (n := 200) hexec hb hK hS hD (vE_T G ad T P S A F hw ▸ hP.2 (2 + w) (by omega)) h0 (by decide) hdg
    (fun H1 locs1 h1 h2 h3 h4 => kk H1 locs1 (hP.upd (by omega) h1 h3 (by rw [vE_T G ad (zR T w i x) P S A F hw, zR_row]) (fun j hj hne => vE_uT G ad T P S A F hw i x j hne)) h2 h3 h4)
theorem zv_lP (hexec : p.tables.exec = Jvm.exec) (hb : c.code = cc) (hK : va_K G.1 vwCl (zT G) s) (hP : VP G ad T P S A F H) (w : Nat) (hw : w < 3) {i : Int} (h0 : 0 ≤ i ∧ i < 200) (hdg : decode cc pc = .ok (.iaload, 1))
    (kk : W p l e R s m args below meth c H locs cells slots Q (F0 m (pc + 1) ls (.int (zI (P w i)) :: rest))) : W p l e R s m args below meth c H locs cells slots Q (F0 m pc ls (.int (zI i) :: .ref (ad (12 + w)) :: rest)) :=
  z_ald (n := 200) hexec hb hK (vE_P G ad T P S A F hw ▸ hP.2 (12 + w) (by omega)) h0 (by decide) hdg kk
theorem zv_sP (hexec : p.tables.exec = Jvm.exec) (hb : c.code = cc) (hK : va_K G.1 vwCl (zT G) s) (hP : VP G ad T P S A F H) (hS : va_S D H0 H locs) (w : Nat) (hw : w < 3) (hD : D (ad (12 + w))) {i x : Int} (h0 : 0 ≤ i ∧ i < 200) (hdg : decode cc pc = .ok (.iastore, 1))
    (kk : ∀ (H1 : Heap) (locs1 : List Loc), VP G ad T (zR P w i x) S A F H1 → H1.size = H.size → (∀ q : Nat, q ≠ ad (12 + w) → H1[q]? = H[q]?) → va_S D H0 H1 locs1 → W p l e R s m args below meth c H1 locs1 cells slots Q (F0 m (pc + 1) ls rest)) : W p l e R s m args below meth c H locs cells slots Q (F0 m pc ls (.int (zI x) :: .int (zI i) :: .ref (ad (12 + w)) :: rest)) :=
  z_ast (n := 200) hexec hb hK hS hD (vE_P G ad T P S A F hw ▸ hP.2 (12 + w) (by omega)) h0 (by decide) hdg
    (fun H1 locs1 h1 h2 h3 h4 => kk H1 locs1 (hP.upd (by omega) h1 h3 (by rw [vE_P G ad T (zR P w i x) S A F hw, zR_row]) (fun j hj hne => vE_uP G ad T P S A F hw i x j hne)) h2 h3 h4)
theorem zv_lS (hexec : p.tables.exec = Jvm.exec) (hb : c.code = cc) (hK : va_K G.1 vwCl (zT G) s) (hP : VP G ad T P S A F H) (w : Nat) (hw : w < 3) {i : Int} (h0 : 0 ≤ i ∧ i < 200) (hdg : decode cc pc = .ok (.iaload, 1))
    (kk : W p l e R s m args below meth c H locs cells slots Q (F0 m (pc + 1) ls (.int (zI (S w i)) :: rest))) : W p l e R s m args below meth c H locs cells slots Q (F0 m pc ls (.int (zI i) :: .ref (ad (16 + w)) :: rest)) :=
  z_ald (n := 200) hexec hb hK (vE_S G ad T P S A F hw ▸ hP.2 (16 + w) (by omega)) h0 (by decide) hdg kk
theorem zv_sS (hexec : p.tables.exec = Jvm.exec) (hb : c.code = cc) (hK : va_K G.1 vwCl (zT G) s) (hP : VP G ad T P S A F H) (hS : va_S D H0 H locs) (w : Nat) (hw : w < 3) (hD : D (ad (16 + w))) {i x : Int} (h0 : 0 ≤ i ∧ i < 200) (hdg : decode cc pc = .ok (.iastore, 1))
    (kk : ∀ (H1 : Heap) (locs1 : List Loc), VP G ad T P (zR S w i x) A F H1 → H1.size = H.size → (∀ q : Nat, q ≠ ad (16 + w) → H1[q]? = H[q]?) → va_S D H0 H1 locs1 → W p l e R s m args below meth c H1 locs1 cells slots Q (F0 m (pc + 1) ls rest)) : W p l e R s m args below meth c H locs cells slots Q (F0 m pc ls (.int (zI x) :: .int (zI i) :: .ref (ad (16 + w)) :: rest)) :=
  z_ast (n := 200) hexec hb hK hS hD (vE_S G ad T P S A F hw ▸ hP.2 (16 + w) (by omega)) h0 (by decide) hdg
    (fun H1 locs1 h1 h2 h3 h4 => kk H1 locs1 (hP.upd (by omega) h1 h3 (by rw [vE_S G ad T P (zR S w i x) A F hw, zR_row]) (fun j hj hne => vE_uS G ad T P S A F hw i x j hne)) h2 h3 h4)
theorem zv_lA (hexec : p.tables.exec = Jvm.exec) (hb : c.code = cc) (hK : va_K G.1 vwCl (zT G) s) (hP : VP G ad T P S A F H) (w : Nat) (hw : w < 2) {i : Int} (h0 : 0 ≤ i ∧ i < 63) (hdg : decode cc pc = .ok (.iaload, 1))
    (kk : W p l e R s m args below meth c H locs cells slots Q (F0 m (pc + 1) ls (.int (zI (A w i)) :: rest))) : W p l e R s m args below meth c H locs cells slots Q (F0 m pc ls (.int (zI i) :: .ref (ad (19 + w)) :: rest)) :=
  z_ald (n := 63) hexec hb hK (vE_A G ad T P S A F hw ▸ hP.2 (19 + w) (by omega)) h0 (by decide) hdg kk
theorem zv_sA (hexec : p.tables.exec = Jvm.exec) (hb : c.code = cc) (hK : va_K G.1 vwCl (zT G) s) (hP : VP G ad T P S A F H) (hS : va_S D H0 H locs) (w : Nat) (hw : w < 2) (hD : D (ad (19 + w))) {i x : Int} (h0 : 0 ≤ i ∧ i < 63) (hdg : decode cc pc = .ok (.iastore, 1))
    (kk : ∀ (H1 : Heap) (locs1 : List Loc), VP G ad T P S (zR A w i x) F H1 → H1.size = H.size → (∀ q : Nat, q ≠ ad (19 + w) → H1[q]? = H[q]?) → va_S D H0 H1 locs1 → W p l e R s m args below meth c H1 locs1 cells slots Q (F0 m (pc + 1) ls rest)) : W p l e R s m args below meth c H locs cells slots Q (F0 m pc ls (.int (zI x) :: .int (zI i) :: .ref (ad (19 + w)) :: rest)) :=
  z_ast (n := 63) hexec hb hK hS hD (vE_A G ad T P S A F hw ▸ hP.2 (19 + w) (by omega)) h0 (by decide) hdg
    (fun H1 locs1 h1 h2 h3 h4 => kk H1 locs1 (hP.upd (by omega) h1 h3 (by rw [vE_A G ad T P S (zR A w i x) F hw, zR_row]) (fun j hj hne => vE_uA G ad T P S A F hw i x j hj hne)) h2 h3 h4)
theorem zv_nA (hexec : p.tables.exec = Jvm.exec) (hb : c.code = cc) (hK : va_K G.1 vwCl (zT G) s) (hP : VP G ad T P S A F H) (w : Nat) (hw : w < 2) (hdg : decode cc pc = .ok (.arraylength, 1))
    (kk : W p l e R s m args below meth c H locs cells slots Q (F0 m (pc + 1) ls (.int (zI 63) :: rest))) : W p l e R s m args below meth c H locs cells slots Q (F0 m pc ls (.ref (ad (19 + w)) :: rest)) :=
  z_alen (n := 63) hexec hb hK (vE_A G ad T P S A F hw ▸ hP.2 (19 + w) (by omega)) hdg kk
end ZV
