/-! what arrange makes of a voice's rows -/
abbrev arSg (T P A : Nat → Int → Int) (n key : Int) : (Int → Int) × (Nat → Int → Int) × Int := sgF (T 5) (T 4) (T 6) (P 0) (P 1) (P 2) n key (T 7) (zW A 0 (fillM (A 0) 63)) n
abbrev arSo (T S : Nat → Int → Int) (n : Int) : Int × (Nat → Int → Int) := soF (T 5) (T 4) (T 0) (T 1) n S n
abbrev arBm (T : Nat → Int → Int) (n b : Int) : (Int → Int) × Int := bmF (T 4) (T 2) (T 0) b n (T 8) n
abbrev arT (T P A : Nat → Int → Int) (n key b : Int) : Nat → Int → Int := zW (zW T 7 (arSg T P A n key).1) 8 (arBm T n b).1
abbrev arF (T P S A : Nat → Int → Int) (F : Nat → Int) (n key b : Int) : Nat → Int := zN (zN (zN (zN (zN F 5 (gTo (T 4) n)) 6 (lTo (T 4) n)) 2 (arSo T S n).1) 4 (arSg T P A n key).2.2) 3 (arBm T n b).2
set_option maxHeartbeats 2000000 in
theorem c_X1_arrange (l : Launch) (G : zG) (ad : Nat → Nat) (T P S A : Nat → Int → Int) (F : Nat → Int) (key b : Int) (sz : Nat) (hk : -7 ≤ key ∧ key ≤ 7) (hb9 : 0 < b ∧ b ≤ 1000000) (hV : VOK T P (F 0)) (hVA : ∀ p, 0 ≤ p → p < 63 → -2 ≤ A 1 p ∧ A 1 p ≤ 2) : MW l yX1_arrange cX1_arrange 3 none 4 87 (0) (0) G [.ref (ad 0), .int (zI (key)), .int (zI (b))] (fA 21 ad sz) sz (VP G ad T P S A F) (QV (fA 21 ad sz) (fun H => VP G ad (arT T P A (F 0) key b) P (arSo T S (F 0)).2 (arSg T P A (F 0) key).2.1 (arF T P S A F (F 0) key b) H)) := by
  refine mw_of hp_X1_arrange (Nat.le_of_ble_eq_true rfl) ?_
  intro p env s m below meth c ls hB hsz hP hl
  obtain ⟨hx, hb, hml, hr, hlk, hown, hts, hG⟩ := hB
  subst hsz
  have hK := hG.1
  have hS : va_S (fA 21 ad s.heap.size) s.heap s.heap [] := va_S.rf
  have hA : ∀ q : Nat, (fA 21 ad s.heap.size) q → G.2.2 ≤ q := fA_lo hP.1.2 hG.2.1
  have hD : ∀ k, k < 21 → (fA 21 ad s.heap.size) (ad k) := fun k hk => fA_in hk
  have hl : lv_has ls 3 [(0, .ref (ad 0)), (1, .int (zI (key))), (2, .int (zI (b)))] := hl
  have hn1 := hV.1
  have hn2 := hV.2.1
  refine lv_aload_n hx hb dX1_arrange_0 rfl (lv_at hl 0 rfl) ?_
  refine k_Wv (c_VW (As := []) (rest := []) ⟨hx, hb, hml, hown, hts⟩ hG hS hA (c_X1_arrangeTones l G ad T P S A F s.heap.size hV) ⟨q_ml_RX1_96, q_im_X1_arrangeTones, q_sel_X1_arrangeTones, q_ini_RX1, q_code_X1_arrangeTones⟩ hv_X1_arrangeTones (VP.rec hK hP) hP ⟨by decide, by decide⟩ ⟨Nat.zero_le _, Nat.zero_le _⟩ rfl hl.1 rfl (Nat.le_of_ble_eq_true rfl) dX1_arrange_1) hS (fA_mono hS.1) (fun H1 locs1 hq hz1 hk1 hS => ?_)
  have hP := hq
  refine lv_aload_n hx hb dX1_arrange_4 rfl (lv_at hl 0 rfl) ?_
  refine k_Wv (c_VW (As := []) (rest := []) ⟨hx, hb, hml, hown, hts⟩ hG hS hA (c_X1_arrangeSounds l G ad T P S A (zN (zN F 5 (gTo (T 4) (F 0))) 6 (lTo (T 4) (F 0))) H1.size hV) ⟨q_ml_RX1_99, q_im_X1_arrangeSounds, q_sel_X1_arrangeSounds, q_ini_RX1, q_code_X1_arrangeSounds⟩ hv_X1_arrangeSounds (VP.rec hK hP) hP ⟨by decide, by decide⟩ ⟨Nat.zero_le _, Nat.zero_le _⟩ rfl hl.1 rfl (Nat.le_of_ble_eq_true rfl) dX1_arrange_5) hS (fA_mono hS.1) (fun H1 locs1 hq hz1 hk1 hS => ?_)
  have hP := hq
  refine lv_aload_n hx hb dX1_arrange_8 rfl (lv_at hl 0 rfl) ?_
  refine lv_iload_n hx hb dX1_arrange_9 rfl (lv_at hl 1 rfl) ?_
  refine k_Wv (c_VW (As := [.int (zI (key))]) (rest := []) ⟨hx, hb, hml, hown, hts⟩ hG hS hA (c_X1_arrangeSigns l G ad T P (arSo T S (F 0)).2 A (zN (zN (zN F 5 (gTo (T 4) (F 0))) 6 (lTo (T 4) (F 0))) 2 (arSo T S (F 0)).1) key H1.size (show -7 ≤ key ∧ key ≤ 7 by omega) hV hVA) ⟨q_ml_RX1_102, q_im_X1_arrangeSigns, q_sel_X1_arrangeSigns, q_ini_RX1, q_code_X1_arrangeSigns⟩ hv_X1_arrangeSigns (VP.rec hK hP) hP ⟨by decide, by decide⟩ ⟨Nat.zero_le _, Nat.zero_le _⟩ rfl hl.1 rfl (Nat.le_of_ble_eq_true rfl) dX1_arrange_10) hS (fA_mono hS.1) (fun H1 locs1 hq hz1 hk1 hS => ?_)
  have hP := hq
  refine lv_aload_n hx hb dX1_arrange_13 rfl (lv_at hl 0 rfl) ?_
  refine lv_iload_n hx hb dX1_arrange_14 rfl (lv_at hl 2 rfl) ?_
  refine k_Wv (c_VW (As := [.int (zI (b))]) (rest := []) ⟨hx, hb, hml, hown, hts⟩ hG hS hA (c_X1_arrangeBeams l G ad (zW T 7 (arSg T P A (F 0) key).1) P (arSo T S (F 0)).2 (arSg T P A (F 0) key).2.1 (zN (zN (zN (zN F 5 (gTo (T 4) (F 0))) 6 (lTo (T 4) (F 0))) 2 (arSo T S (F 0)).1) 4 (arSg T P A (F 0) key).2.2) b H1.size (show 0 < b ∧ b ≤ 1000000 by omega) hV) ⟨q_ml_RX1_106, q_im_X1_arrangeBeams, q_sel_X1_arrangeBeams, q_ini_RX1, q_code_X1_arrangeBeams⟩ hv_X1_arrangeBeams (VP.rec hK hP) hP ⟨by decide, by decide⟩ ⟨Nat.zero_le _, Nat.zero_le _⟩ rfl hl.1 rfl (Nat.le_of_ble_eq_true rfl) dX1_arrange_15) hS (fA_mono hS.1) (fun H1 locs1 hq hz1 hk1 hS => ?_)
  have hP := hq
  exact e_Wv hx hb hr hlk hS (by omega) (by omega) hP dX1_arrange_18
/-! the score: its own places, and the four voices -/
abbrev sF (ad : Nat → Nat) (F : Nat → Int) : List Value := [.ref (ad 1), .ref (ad 2), .ref (ad 9), .int (zI (F 0)), .int (zI (F 1)), .int (zI (F 2)), .int (zI (F 3)), .int (zI (F 4))]
def vad (ad : Nat → Nat) (v : Int) : Nat → Nat := fun j => ad (10 + 21 * v.toNat + j)
/-- F voiceCount beatTicks barTicks key eventsStand, A done and pieces, E the events' rows; T P S Av Fv the voices -/
def cE (G : zG) (ad : Nat → Nat) (F : Nat → Int) (A E : Nat → Int → Int) (T P S Av : Int → Nat → Int → Int) (Fv : Int → Nat → Int) (k : Nat) : va_E :=
  if k = 0 then .inr (2, sF ad F)
  else if k = 1 then .inl (G.2.1 2, 4, .inr (.inr (.inr (.inr (fun j => some (ad (10 + 21 * j)))))))
  else if k = 2 then .inr (0, [.ref (ad 3), .ref (ad 4)])
  else if k = 3 then .inl (G.2.1 1, 4, .inr (.inr (.inr (.inr (fun j => some (ad (5 + j)))))))
  else if k = 4 then .inl (G.2.1 0, 4, .inl (zA (A 0)))
  else if k < 9 then .inl (G.2.1 0, 1600, .inl (zA (E (k - 5))))
  else if k = 9 then .inl (G.2.1 0, 56, .inl (zA (A 1)))
  else vE G (vad ad (((k - 10) / 21 : Nat) : Int)) (T (((k - 10) / 21 : Nat) : Int)) (P (((k - 10) / 21 : Nat) : Int)) (S (((k - 10) / 21 : Nat) : Int)) (Av (((k - 10) / 21 : Nat) : Int)) (Fv (((k - 10) / 21 : Nat) : Int)) ((k - 10) % 21)
def CP (G : zG) (ad : Nat → Nat) (F : Nat → Int) (A E : Nat → Int → Int) (T P S Av : Int → Nat → Int → Int) (Fv : Int → Nat → Int) (H : Heap) : Prop := PP G 94 ad (cE G ad F A E T P S Av Fv) H
def zV {α : Type} (T : Int → α) (v : Int) (x : α) : Int → α := fun u => if u = v then x else T u
theorem zV_s {α : Type} (T : Int → α) (v : Int) (x : α) : zV T v x v = x := if_pos rfl
theorem zV_n {α : Type} {T : Int → α} {v u : Int} (x : α) (h : u ≠ v) : zV T v x u = T u := if_neg h
theorem zV_id {α : Type} (T : Int → α) (v : Int) : zV T v (T v) = T := by
  funext u
  unfold zV
  split
  · rename_i h; rw [h]
  · rfl
theorem zV_V {α : Type} (T : Int → α) (v : Int) (x y : α) : zV (zV T v x) v y = zV T v y := by
  funext u
  unfold zV
  split <;> rfl
section CPS
variable {G : zG} {ad : Nat → Nat} {F : Nat → Int} {A E : Nat → Int → Int} {T P S Av : Int → Nat → Int → Int} {Fv : Int → Nat → Int} {H : Heap}
theorem cE_v (v : Int) (hv : 0 ≤ v) (k : Nat) (hk : k < 21) : cE G ad F A E T P S Av Fv (10 + 21 * v.toNat + k) = vE G (vad ad v) (T v) (P v) (S v) (Av v) (Fv v) k := by
  unfold cE
  rw [if_neg (by omega), if_neg (by omega), if_neg (by omega), if_neg (by omega), if_neg (by omega), if_neg (by omega), if_neg (by omega), show (((10 + 21 * v.toNat + k - 10) / 21 : Nat) : Int) = v by omega, show (10 + 21 * v.toNat + k - 10) % 21 = k by omega]
theorem CP.voice (h : CP G ad F A E T P S Av Fv H) (v : Int) (hv : 0 ≤ v ∧ v < 4) : VP G (vad ad v) (T v) (P v) (S v) (Av v) (Fv v) H := by
  refine ⟨⟨fun i j hi hj e => ?_, fun k hk => h.1.2 _ (by omega)⟩, fun k hk => ?_⟩
  · have := h.1.1 (10 + 21 * v.toNat + i) (10 + 21 * v.toNat + j) (by omega) (by omega) e
    omega
  · have := h.2 (10 + 21 * v.toNat + k) (by omega)
    rw [cE_v v hv.1 k hk] at this
    exact this
theorem CP.put {T' P' S' A' : Nat → Int → Int} {F' : Nat → Int} {H1 : Heap} (h : CP G ad F A E T P S Av Fv H) (v : Int) (hv : 0 ≤ v ∧ v < 4) (hV : VP G (vad ad v) T' P' S' A' F' H1) (ho : ∀ q : Nat, q < H.size → (∀ k, k < 21 → q ≠ vad ad v k) → H1[q]? = H[q]?) : CP G ad F A E (zV T v T') (zV P v P') (zV S v S') (zV Av v A') (zV Fv v F') H1 := by
  refine ⟨h.1, fun k hk => ?_⟩
  by_cases hk10 : k < 10
  · have e : cE G ad F A E (zV T v T') (zV P v P') (zV S v S') (zV Av v A') (zV Fv v F') k = cE G ad F A E T P S Av Fv k := by
      unfold cE
      repeat' split
      all_goals first | rfl | omega
    rw [e]
    refine (h.2 k hk).kept (ho _ (h.lt hk) (fun j hj q => ?_))
    have := h.1.1 k (10 + 21 * v.toNat + j) hk (by omega) q
    omega
  · obtain ⟨u, j, hu, hj, rfl⟩ : ∃ (u : Int) (j : Nat), 0 ≤ u ∧ j < 21 ∧ k = 10 + 21 * u.toNat + j := ⟨(((k - 10) / 21 : Nat) : Int), (k - 10) % 21, by omega, by omega, by omega⟩
    rw [cE_v u hu j hj]
    by_cases huv : u = v
    · subst huv
      simp only [zV_s]
      exact hV.2 j hj
    · rw [zV_n _ huv, zV_n _ huv, zV_n _ huv, zV_n _ huv, zV_n _ huv]
      have h2 := h.2 (10 + 21 * u.toNat + j) hk
      rw [cE_v u hu j hj] at h2
      refine h2.kept (ho _ (h.lt hk) (fun j2 hj2 q => ?_))
      have := h.1.1 (10 + 21 * u.toNat + j) (10 + 21 * v.toNat + j2) hk (by omega) q
      omega
theorem CP.putF {H1 : Heap} (h : CP G ad F A E T P S Av Fv H) (v : Int) (hv : 0 ≤ v ∧ v < 4) {T' P' S' A' : Nat → Int → Int} {F' : Nat → Int} (hV : VP G (vad ad v) T' P' S' A' F' H1) (ho : ∀ q : Nat, q < H.size → ¬ fA 21 (vad ad v) H.size q → H1[q]? = H[q]?) : CP G ad F A E (zV T v T') (zV P v P') (zV S v S') (zV Av v A') (zV Fv v F') H1 :=
  h.put v hv hV (fun q hq hk => ho q hq (fun z => z.elim (fun ⟨k, h1, h2⟩ => hk k h1 h2) (fun z => by omega)))
theorem CP.rec {s : State} (hK : va_K G.1 vwCl (zT G) s) (h : CP G ad F A E T P S Av Fv H) : ∃ cell : Cell, H[ad 0]? = some cell ∧ cell.vm.isStatics = false ∧ s.vm.findClass RX2 = some cell.cls := va_at_rec hK (h.2 0 (by decide)) (C := RX2) (T := TX2) (N := 8) rfl
theorem CP.recE {s : State} (hK : va_K G.1 vwCl (zT G) s) (h : CP G ad F A E T P S Av Fv H) : ∃ cell : Cell, H[ad 2]? = some cell ∧ cell.vm.isStatics = false ∧ s.vm.findClass RX0 = some cell.cls := va_at_rec hK (h.2 2 (by decide)) (C := RX0) (T := TX0) (N := 2) rfl
theorem fA_v {ad : Nat → Nat} {v : Int} {sz sz' : Nat} (hv : 0 ≤ v ∧ v < 4) (h : sz ≤ sz') : ∀ q : Nat, fA 21 (vad ad v) sz' q → fA 94 ad sz q := fun q z => z.elim (fun ⟨k, hk, e⟩ => Or.inl ⟨10 + 21 * v.toNat + k, by omega, e⟩) (fun z => Or.inr (Nat.le_trans h z))
theorem sF_set (ad : Nat → Nat) (F : Nat → Int) (x : Int) : ∀ j, j < 5 → (sF ad F).set (3 + j) (.int (zI x)) = sF ad (zN F j x) := by
  intro j hj
  rcases (by omega : j = 0 ∨ j = 1 ∨ j = 2 ∨ j = 3 ∨ j = 4) with h | h | h | h | h <;> subst h <;> rfl
theorem cE_uF (F' : Nat → Int) (j : Nat) (hj : j ≠ 0) : cE G ad F' A E T P S Av Fv j = cE G ad F A E T P S Av Fv j := by
  unfold cE
  rw [if_neg hj, if_neg hj]
theorem cE_E {w : Nat} (h : w < 4) : cE G ad F A E T P S Av Fv (5 + w) = .inl (G.2.1 0, 1600, .inl (zA (E w))) := by
  unfold cE
  rw [if_neg (by omega), if_neg (by omega), if_neg (by omega), if_neg (by omega), if_neg (by omega), if_pos (by omega), Nat.add_sub_cancel_left]
theorem cE_uE {w : Nat} (h : w < 4) (i x : Int) (j : Nat) (hj : j ≠ 5 + w) : cE G ad F A (zR E w i x) T P S Av Fv j = cE G ad F A E T P S Av Fv j := by
  unfold cE
  repeat' split
  all_goals first | rfl | rw [zR_off i x (by omega)]
theorem cE_uA0 (i x : Int) (j : Nat) (hj : j ≠ 4) : cE G ad F (zR A 0 i x) E T P S Av Fv j = cE G ad F A E T P S Av Fv j := by
  unfold cE
  repeat' split
  all_goals first | rfl | rw [zR_off i x (by decide)] | omega
theorem cE_uA1 (i x : Int) (j : Nat) (hj : j ≠ 9) : cE G ad F (zR A 1 i x) E T P S Av Fv j = cE G ad F A E T P S Av Fv j := by
  unfold cE
  repeat' split
  all_goals first | rfl | rw [zR_off i x (by decide)] | omega
end CPS
section ZS
variable {p : Program} {l : Launch} {e : Env} {R : Room} {s : State} {m : MethodId} {args : Array Value} {below : List Frame} {meth : Method} {c : Code} {H : Heap} {locs : List Loc} {cells slots : Nat} {Q : State → Prop}
variable {cc : ByteArray} {pc : Nat} {ls : Array Slot} {rest : List Value} {D : Nat → Prop} {H0 : Heap}
variable {G : zG} {ad : Nat → Nat} {F : Nat → Int} {A E : Nat → Int → Int} {T P S Av : Int → Nat → Int → Int} {Fv : Int → Nat → Int}
theorem zs_get (hexec : p.tables.exec = Jvm.exec) (hb : c.code = cc) (hK : va_K G.1 vwCl (zT G) s) (hts : ∀ w ∈ lw_all, w.before args s = true) {own : String} {index : Nat} (hown : s.vm.findClass own = some m.cls) (hP : CP G ad F A E T P S Av Fv H) (k : Nat) (hk : k < 8) (hlink : Cond.fieldLink own index (TX2 k).1 (TX2 k).2.1 (TX2 k).2.2.1 ∈ lw_all) {v : Value} (hv : (sF ad F)[k]? = some v) (hdg : decode cc pc = .ok (.getfield index, 3))
    (kk : W p l e R s m args below meth c H locs cells slots Q (F0 m (pc + 3) ls (v :: rest))) : W p l e R s m args below meth c H locs cells slots Q (F0 m pc ls (.ref (ad 0) :: rest)) :=
  z_get (C := RX2) (T := TX2) (N := 8) hexec hb hK hts u_in_X2 hown (hP.2 0 (by decide)) rfl k hk hlink hv hdg kk
theorem ze_get (hexec : p.tables.exec = Jvm.exec) (hb : c.code = cc) (hK : va_K G.1 vwCl (zT G) s) (hts : ∀ w ∈ lw_all, w.before args s = true) {own : String} {index : Nat} (hown : s.vm.findClass own = some m.cls) (hP : CP G ad F A E T P S Av Fv H) (k : Nat) (hk : k < 2) (hlink : Cond.fieldLink own index (TX0 k).1 (TX0 k).2.1 (TX0 k).2.2.1 ∈ lw_all) {v : Value} (hv : ([.ref (ad 3), .ref (ad 4)] : List Value)[k]? = some v) (hdg : decode cc pc = .ok (.getfield index, 3))
    (kk : W p l e R s m args below meth c H locs cells slots Q (F0 m (pc + 3) ls (v :: rest))) : W p l e R s m args below meth c H locs cells slots Q (F0 m pc ls (.ref (ad 2) :: rest)) :=
  z_get (C := RX0) (T := TX0) (N := 2) hexec hb hK hts u_in_X0 hown (hP.2 2 (by decide)) rfl k hk hlink hv hdg kk
theorem sF_ty : ∀ j, j < 5 → (TX2 (3 + j)).2.2.2 = false := by decide +kernel
theorem zs_put (hexec : p.tables.exec = Jvm.exec) (hb : c.code = cc) (hK : va_K G.1 vwCl (zT G) s) (hts : ∀ w ∈ lw_all, w.before args s = true) {own : String} {index : Nat} (hown : s.vm.findClass own = some m.cls) (hP : CP G ad F A E T P S Av Fv H) (hS : va_S D H0 H locs) (hD : D (ad 0)) (j : Nat) (hj : j < 5) {x : Int} (hx : j < 4 ∨ (x = 0 ∨ x = 1)) (hlink : Cond.fieldLink own index (TX2 (3 + j)).1 (TX2 (3 + j)).2.1 (TX2 (3 + j)).2.2.1 ∈ lw_all) (hdg : decode cc pc = .ok (.putfield index, 3))
    (kk : ∀ (H1 : Heap) (locs1 : List Loc), CP G ad (zN F j x) A E T P S Av Fv H1 → H1.size = H.size → (∀ q : Nat, q ≠ ad 0 → H1[q]? = H[q]?) → va_S D H0 H1 locs1 → W p l e R s m args below meth c H1 locs1 cells slots Q (F0 m (pc + 3) ls rest)) : W p l e R s m args below meth c H locs cells slots Q (F0 m pc ls (.int (zI x) :: .ref (ad 0) :: rest)) := by
  have hn : narrow (tyX2 (3 + j)) (.int (zI x)) = .int (zI x) := by
    rcases (by omega : j = 0 ∨ j = 1 ∨ j = 2 ∨ j = 3 ∨ j = 4) with h | h | h | h | h <;> subst h
    · rfl
    · rfl
    · rfl
    · rfl
    · rcases hx with h | h | h
      · omega
      · subst h; rfl
      · subst h; rfl
  have hf : fits (tyX2 (3 + j)) (.int (zI x)) = true := by
    rcases (by omega : j = 0 ∨ j = 1 ∨ j = 2 ∨ j = 3 ∨ j = 4) with h | h | h | h | h <;> subst h
    · rfl
    · rfl
    · rfl
    · rfl
    · rcases hx with h | h | h
      · omega
      · subst h; rfl
      · subst h; rfl
  exact z_put (C := RX2) (T := TX2) (N := 8) hexec hb hK hts u_in_X2 tyX2 tyX2_ok nmX2 hown hS hD (hP.2 0 (by decide)) rfl (3 + j) (by omega) hlink (sF_ty j hj) hn hf (by show 3 + j < 8; omega) hdg
    (fun H1 locs1 h1 h2 h3 h4 => kk H1 locs1 (hP.upd (by decide) h1 h3 (by show cE G ad (zN F j x) A E T P S Av Fv 0 = _; rw [sF_set ad F x j hj]; rfl) (fun i _ hi => cE_uF _ i hi)) h2 h3 h4)
theorem zs_aV (hexec : p.tables.exec = Jvm.exec) (hb : c.code = cc) (hK : va_K G.1 vwCl (zT G) s) (hP : CP G ad F A E T P S Av Fv H) {i : Int} (hw : 0 ≤ i ∧ i < 4) (hdg : decode cc pc = .ok (.aaload, 1))
    (kk : W p l e R s m args below meth c H locs cells slots Q (F0 m (pc + 1) ls (.ref (vad ad i 0) :: rest))) : W p l e R s m args below meth c H locs cells slots Q (F0 m pc ls (.int (zI i) :: .ref (ad 1) :: rest)) :=
  z_aldr (t0 := 2) (n := 4) hexec hb hK rfl rfl (hP.2 1 (by decide)) hw (by decide) rfl hdg kk
theorem ze_aE (hexec : p.tables.exec = Jvm.exec) (hb : c.code = cc) (hK : va_K G.1 vwCl (zT G) s) (hP : CP G ad F A E T P S Av Fv H) (w : Nat) (hw : w < 4) {i : Int} (hi : i = (w : Int)) (hdg : decode cc pc = .ok (.aaload, 1))
    (kk : W p l e R s m args below meth c H locs cells slots Q (F0 m (pc + 1) ls (.ref (ad (5 + w)) :: rest))) : W p l e R s m args below meth c H locs cells slots Q (F0 m pc ls (.int (zI i) :: .ref (ad 3) :: rest)) :=
  z_aldr (t0 := 1) (n := 4) hexec hb hK rfl rfl (hP.2 3 (by decide)) (by omega) (by decide) (by subst hi; rfl) hdg kk
theorem ze_lE (hexec : p.tables.exec = Jvm.exec) (hb : c.code = cc) (hK : va_K G.1 vwCl (zT G) s) (hP : CP G ad F A E T P S Av Fv H) (w : Nat) (hw : w < 4) {i : Int} (h0 : 0 ≤ i ∧ i < 1600) (hdg : decode cc pc = .ok (.iaload, 1))
    (kk : W p l e R s m args below meth c H locs cells slots Q (F0 m (pc + 1) ls (.int (zI (E w i)) :: rest))) : W p l e R s m args below meth c H locs cells slots Q (F0 m pc ls (.int (zI i) :: .ref (ad (5 + w)) :: rest)) :=
  z_ald (n := 1600) hexec hb hK (cE_E (A := A) (F := F) (T := T) (P := P) (S := S) (Av := Av) (Fv := Fv) hw ▸ hP.2 (5 + w) (by omega)) h0 (by decide) hdg kk
theorem ze_sE (hexec : p.tables.exec = Jvm.exec) (hb : c.code = cc) (hK : va_K G.1 vwCl (zT G) s) (hP : CP G ad F A E T P S Av Fv H) (hS : va_S D H0 H locs) (w : Nat) (hw : w < 4) (hD : D (ad (5 + w))) {i x : Int} (h0 : 0 ≤ i ∧ i < 1600) (hdg : decode cc pc = .ok (.iastore, 1))
    (kk : ∀ (H1 : Heap) (locs1 : List Loc), CP G ad F A (zR E w i x) T P S Av Fv H1 → H1.size = H.size → (∀ q : Nat, q ≠ ad (5 + w) → H1[q]? = H[q]?) → va_S D H0 H1 locs1 → W p l e R s m args below meth c H1 locs1 cells slots Q (F0 m (pc + 1) ls rest)) : W p l e R s m args below meth c H locs cells slots Q (F0 m pc ls (.int (zI x) :: .int (zI i) :: .ref (ad (5 + w)) :: rest)) :=
  z_ast (n := 1600) hexec hb hK hS hD (cE_E (A := A) (F := F) (T := T) (P := P) (S := S) (Av := Av) (Fv := Fv) hw ▸ hP.2 (5 + w) (by omega)) h0 (by decide) hdg
    (fun H1 locs1 h1 h2 h3 h4 => kk H1 locs1 (hP.upd (by omega) h1 h3 (by rw [cE_E hw, zR_row]) (fun j _ hne => cE_uE hw i x j hne)) h2 h3 h4)

theorem zs_lA0 (hexec : p.tables.exec = Jvm.exec) (hb : c.code = cc) (hK : va_K G.1 vwCl (zT G) s) (hP : CP G ad F A E T P S Av Fv H) {i : Int} (h0 : 0 ≤ i ∧ i < 4) (hdg : decode cc pc = .ok (.iaload, 1))
    (kk : W p l e R s m args below meth c H locs cells slots Q (F0 m (pc + 1) ls (.int (zI (A 0 i)) :: rest))) : W p l e R s m args below meth c H locs cells slots Q (F0 m pc ls (.int (zI i) :: .ref (ad 4) :: rest)) :=
  z_ald (n := 4) hexec hb hK (hP.2 4 (by decide)) h0 (by decide) hdg kk
theorem zs_sA0 (hexec : p.tables.exec = Jvm.exec) (hb : c.code = cc) (hK : va_K G.1 vwCl (zT G) s) (hP : CP G ad F A E T P S Av Fv H) (hS : va_S D H0 H locs) (hD : D (ad 4)) {i x : Int} (h0 : 0 ≤ i ∧ i < 4) (hdg : decode cc pc = .ok (.iastore, 1))
    (kk : ∀ (H1 : Heap) (locs1 : List Loc), CP G ad F (zR A 0 i x) E T P S Av Fv H1 → H1.size = H.size → (∀ q : Nat, q ≠ ad 4 → H1[q]? = H[q]?) → va_S D H0 H1 locs1 → W p l e R s m args below meth c H1 locs1 cells slots Q (F0 m (pc + 1) ls rest)) : W p l e R s m args below meth c H locs cells slots Q (F0 m pc ls (.int (zI x) :: .int (zI i) :: .ref (ad 4) :: rest)) :=
  z_ast (n := 4) hexec hb hK hS hD (hP.2 4 (by decide)) h0 (by decide) hdg
    (fun H1 locs1 h1 h2 h3 h4 => kk H1 locs1 (hP.upd (by decide) h1 h3 (by show cE G ad F (zR A 0 i x) E T P S Av Fv 4 = _; rw [← zR_row]; rfl) (fun j9 _ hne => cE_uA0 i x j9 hne)) h2 h3 h4)
theorem zs_lA1 (hexec : p.tables.exec = Jvm.exec) (hb : c.code = cc) (hK : va_K G.1 vwCl (zT G) s) (hP : CP G ad F A E T P S Av Fv H) {i : Int} (h0 : 0 ≤ i ∧ i < 56) (hdg : decode cc pc = .ok (.iaload, 1))
    (kk : W p l e R s m args below meth c H locs cells slots Q (F0 m (pc + 1) ls (.int (zI (A 1 i)) :: rest))) : W p l e R s m args below meth c H locs cells slots Q (F0 m pc ls (.int (zI i) :: .ref (ad 9) :: rest)) :=
  z_ald (n := 56) hexec hb hK (hP.2 9 (by decide)) h0 (by decide) hdg kk
theorem zs_sA1 (hexec : p.tables.exec = Jvm.exec) (hb : c.code = cc) (hK : va_K G.1 vwCl (zT G) s) (hP : CP G ad F A E T P S Av Fv H) (hS : va_S D H0 H locs) (hD : D (ad 9)) {i x : Int} (h0 : 0 ≤ i ∧ i < 56) (hdg : decode cc pc = .ok (.iastore, 1))
    (kk : ∀ (H1 : Heap) (locs1 : List Loc), CP G ad F (zR A 1 i x) E T P S Av Fv H1 → H1.size = H.size → (∀ q : Nat, q ≠ ad 9 → H1[q]? = H[q]?) → va_S D H0 H1 locs1 → W p l e R s m args below meth c H1 locs1 cells slots Q (F0 m (pc + 1) ls rest)) : W p l e R s m args below meth c H locs cells slots Q (F0 m pc ls (.int (zI x) :: .int (zI i) :: .ref (ad 9) :: rest)) :=
  z_ast (n := 56) hexec hb hK hS hD (hP.2 9 (by decide)) h0 (by decide) hdg
    (fun H1 locs1 h1 h2 h3 h4 => kk H1 locs1 (hP.upd (by decide) h1 h3 (by show cE G ad F (zR A 1 i x) E T P S Av Fv 9 = _; rw [← zR_row]; rfl) (fun j9 _ hne => cE_uA1 i x j9 hne)) h2 h3 h4)
end ZS
