theorem zite {α : Type} {b d : Prop} [Decidable b] [Decidable d] {x y : α} (h : b ↔ d) : (if b then x else y) = if d then x else y := by
  by_cases q : b
  · rw [if_pos q, if_pos (h.mp q)]
  · rw [if_neg q, if_neg (fun z => q (h.mpr z))]
def plT (B : Int → Int → Int) (v e st : Int) : Int := 7 * B v (10 * e + 5) + B v (10 * e + 3) + st
def sgT (B : Int → Int → Int) (v e st se : Int) : Int := mTn B v e + se - toneF (plT B v e st % 7) 0 (plT B v e st / 7)
abbrev okT (B : Int → Int → Int) (v e st se : Int) : Prop := 0 ≤ plT B v e st % 7 ∧ plT B v e st % 7 < 7 ∧ 0 ≤ plT B v e st / 7 ∧ plT B v e st / 7 < 9 ∧ -2 ≤ sgT B v e st se ∧ sgT B v e st se ≤ 2 ∧ 0 ≤ toneF (plT B v e st % 7) (sgT B v e st se) (plT B v e st / 7)
def okP9 (A : Nat → Int → Int) (B : Int → Int → Int) (st se i j : Int) : Prop := ∀ u e, 0 ≤ u → (u < i ∨ u = i ∧ e < j) → 0 ≤ e → e < A 0 u → ¬ B u (10 * e + 2) = 0 → okT B u e st se
def mvB (A : Nat → Int → Int) (B : Int → Int → Int) (st se i j : Int) : Int → Int → Int := fun u k =>
  if 0 ≤ u ∧ (u < i ∨ u = i ∧ k / 10 < j) ∧ 0 ≤ k / 10 ∧ k / 10 < A 0 u ∧ ¬ B u (10 * (k / 10) + 2) = 0 then (if k % 10 = 3 then plT B u (k / 10) st % 7 else if k % 10 = 4 then sgT B u (k / 10) st se else if k % 10 = 5 then plT B u (k / 10) st / 7 else B u k) else B u k
theorem mvB_00 (A : Nat → Int → Int) (B : Int → Int → Int) (st se : Int) : mvB A B st se 0 0 = B := by
  funext u k
  unfold mvB
  rw [if_neg (by omega)]
theorem mvB_v (A : Nat → Int → Int) (B : Int → Int → Int) (st se : Int) {i : Int} : mvB A B st se i (A 0 i) = mvB A B st se (i + 1) 0 := by
  funext u k
  unfold mvB
  by_cases e : u = i
  · subst e
    exact zite (by omega)
  · exact zite (by omega)
theorem mvB_at (A : Nat → Int → Int) (B : Int → Int → Int) (st se i j : Int) {w : Int} (hw : 0 ≤ w ∧ w < 10) : mvB A B st se i j i (10 * j + w) = B i (10 * j + w) := by
  unfold mvB
  rw [if_neg (by omega)]
theorem mvB_r {A : Nat → Int → Int} {B : Int → Int → Int} {st se i j : Int} (hr : B i (10 * j + 2) = 0) : mvB A B st se i (j + 1) = mvB A B st se i j := by
  funext u k
  unfold mvB
  by_cases q : 0 ≤ u ∧ (u < i ∨ u = i ∧ k / 10 < j) ∧ 0 ≤ k / 10 ∧ k / 10 < A 0 u ∧ ¬ B u (10 * (k / 10) + 2) = 0
  · rw [if_pos q, if_pos (by omega)]
  · rw [if_neg q, if_neg]
    intro z
    by_cases e : u = i ∧ k / 10 = j
    · exact z.2.2.2.2 (by rw [e.1, e.2]; exact hr)
    · exact q (by omega)
theorem mvB_s {A : Nat → Int → Int} {B : Int → Int → Int} {st se i j : Int} (hi : 0 ≤ i) (hj : 0 ≤ j ∧ j < A 0 i) (hr : ¬ B i (10 * j + 2) = 0) : zB (zB (zB (mvB A B st se i j) i (10 * j + 3) (plT B i j st % 7)) i (10 * j + 4) (sgT B i j st se)) i (10 * j + 5) (plT B i j st / 7) = mvB A B st se i (j + 1) := by
  funext u k
  by_cases e : u = i ∧ k / 10 = j
  · have hc : 0 ≤ u ∧ (u < i ∨ u = i ∧ k / 10 < j + 1) ∧ 0 ≤ k / 10 ∧ k / 10 < A 0 u ∧ ¬ B u (10 * (k / 10) + 2) = 0 := by
      obtain ⟨rfl, e2⟩ := e
      rw [e2]
      exact ⟨hi, Or.inr ⟨rfl, by omega⟩, hj.1, hj.2, hr⟩
    have hd : ¬ (0 ≤ u ∧ (u < i ∨ u = i ∧ k / 10 < j) ∧ 0 ≤ k / 10 ∧ k / 10 < A 0 u ∧ ¬ B u (10 * (k / 10) + 2) = 0) := by omega
    unfold zB
    show (if u = i ∧ k = 10 * j + 5 then _ else if u = i ∧ k = 10 * j + 4 then _ else if u = i ∧ k = 10 * j + 3 then _ else mvB A B st se i j u k) = _
    unfold mvB
    rw [if_pos hc, if_neg hd]
    obtain ⟨rfl, e2⟩ := e
    rw [e2]
    by_cases c5 : k = 10 * j + 5
    · rw [if_pos ⟨rfl, c5⟩, if_neg (by omega), if_neg (by omega), if_pos (by omega)]
    · rw [if_neg (fun q => c5 q.2)]
      by_cases c4 : k = 10 * j + 4
      · rw [if_pos ⟨rfl, c4⟩, if_neg (by omega), if_pos (by omega)]
      · rw [if_neg (fun q => c4 q.2)]
        by_cases c3 : k = 10 * j + 3
        · rw [if_pos ⟨rfl, c3⟩, if_pos (by omega)]
        · rw [if_neg (fun q => c3 q.2), if_neg (by omega), if_neg (by omega), if_neg (by omega)]
  · unfold zB
    show (if u = i ∧ k = 10 * j + 5 then _ else if u = i ∧ k = 10 * j + 4 then _ else if u = i ∧ k = 10 * j + 3 then _ else mvB A B st se i j u k) = _
    rw [if_neg (by omega), if_neg (by omega), if_neg (by omega)]
    unfold mvB
    exact zite (by omega)
theorem mvB_off (A : Nat → Int → Int) (B : Int → Int → Int) (st se i j u e : Int) {w : Int} (hw : 0 ≤ w ∧ w < 10) (h : ¬ w = 3 ∧ ¬ w = 4 ∧ ¬ w = 5) : mvB A B st se i j u (10 * e + w) = B u (10 * e + w) := by
  unfold mvB
  split
  · rw [if_neg (by omega), if_neg (by omega), if_neg (by omega)]
  · rfl
theorem mvB_ok {F : Nat → Int} {A : Nat → Int → Int} {B : Int → Int → Int} {st se i j : Int} (hM : MOK F A B) (hi : i < F 4 ∨ i ≤ F 4 ∧ j ≤ 0) (ho : okP9 A B st se (F 4) 0) : MOK F A (mvB A B st se i j) := by
  obtain ⟨h1, h2, h3, h4, h5⟩ := hM
  refine ⟨h1, h2, h3, h4, fun v hv hv2 => ⟨(h5 v hv hv2).1, fun e he he2 => ?_⟩⟩
  have q := (h5 v hv hv2).2 e he he2
  rw [mvB_off A B st se i j v e (w := 0) (by omega) (by omega), mvB_off A B st se i j v e (w := 1) (by omega) (by omega), mvB_off A B st se i j v e (w := 2) (by omega) (by omega), mvB_off A B st se i j v e (w := 6) (by omega) (by omega)]
  by_cases c : 0 ≤ v ∧ (v < i ∨ v = i ∧ e < j) ∧ 0 ≤ e ∧ e < A 0 v ∧ ¬ B v (10 * e + 2) = 0
  · have z := ho v e hv (by omega) he he2 c.2.2.2.2
    have t : ∀ w, 0 ≤ w → w < 10 → mvB A B st se i j v (10 * e + w) = if w = 3 then plT B v e st % 7 else if w = 4 then sgT B v e st se else if w = 5 then plT B v e st / 7 else B v (10 * e + w) := by
      intro w w0 w1
      unfold mvB
      rw [show (10 * e + w) / 10 = e by omega, show (10 * e + w) % 10 = w by omega, if_pos c]
    rw [t 3 (by omega) (by omega), t 4 (by omega) (by omega), t 5 (by omega) (by omega), if_pos rfl, if_neg (by omega), if_pos rfl, if_neg (by omega), if_neg (by omega), if_pos rfl]
    exact ⟨q.1, q.2.1, ⟨z.1, z.2.1⟩, ⟨z.2.2.2.2.1, z.2.2.2.2.2.1⟩, ⟨z.2.2.1, z.2.2.2.1⟩, q.2.2.2.2.2⟩
  · have t : ∀ w, 0 ≤ w → w < 10 → mvB A B st se i j v (10 * e + w) = B v (10 * e + w) := by
      intro w w0 w1
      unfold mvB
      rw [show (10 * e + w) / 10 = e by omega, if_neg c]
    rw [t 3 (by omega) (by omega), t 4 (by omega) (by omega), t 5 (by omega) (by omega)]
    exact q
set_option maxHeartbeats 2000000 in
theorem c_X3_transpose (l : Launch) (G : zG) (ad : Nat → Nat) (F : Nat → Int) (A : Nat → Int → Int) (B : Int → Int → Int) (st se : Int) (sz : Nat) (r1 : -2147483648 ≤ st ∧ st ≤ 2147483647) (r2 : -2147483648 ≤ se ∧ se ≤ 2147483647) (hVM : MOK F A B) : MW l yX3_transpose cX3_transpose 11 (some .int) 2 46 (0) (0) G [.ref (ad 0), .int (zI (st)), .int (zI (se))] (fA 11 ad sz) sz (MP G ad F A B) (QW (fA 11 ad sz) (fun r H => (¬ ((-14 ≤ st ∧ st ≤ 14) ∧ -24 ≤ se ∧ se ≤ 24) ∧ r = 0 ∧ MP G ad (zN F 0 1) A B H) ∨ (((-14 ≤ st ∧ st ≤ 14) ∧ -24 ≤ se ∧ se ≤ 24) ∧ ¬ (-7 ≤ (F 3 + 7 * se - 12 * st) ∧ (F 3 + 7 * se - 12 * st) ≤ 7) ∧ r = 0 ∧ MP G ad (zN F 0 2) A B H) ∨ (((-14 ≤ st ∧ st ≤ 14) ∧ -24 ≤ se ∧ se ≤ 24) ∧ (-7 ≤ (F 3 + 7 * se - 12 * st) ∧ (F 3 + 7 * se - 12 * st) ≤ 7) ∧ ¬ okP9 A B st se (F 4) 0 ∧ r = 0 ∧ MP G ad (zN F 0 2) A B H) ∨ (((-14 ≤ st ∧ st ≤ 14) ∧ -24 ≤ se ∧ se ≤ 24) ∧ (-7 ≤ (F 3 + 7 * se - 12 * st) ∧ (F 3 + 7 * se - 12 * st) ≤ 7) ∧ okP9 A B st se (F 4) 0 ∧ r = (F 3 + 7 * se - 12 * st) ∧ MP G ad (zN (zN F 0 0) 3 (F 3 + 7 * se - 12 * st)) A (mvB A B st se (F 4) 0) H))) := by
  refine mw_of hp_X3_transpose (Nat.le_of_ble_eq_true rfl) ?_
  intro p env s m below meth c ls hB hsz hP hl
  obtain ⟨hx, hb, hml, hr, hlk, hown, hts, hG⟩ := hB
  subst hsz
  have hK := hG.1
  have hS : va_S (fA 11 ad s.heap.size) s.heap s.heap [] := va_S.rf
  have hA : ∀ q : Nat, (fA 11 ad s.heap.size) q → G.2.2 ≤ q := fA_lo hP.1.2 hG.2.1
  have hD : ∀ k, k < 11 → (fA 11 ad s.heap.size) (ad k) := fun k hk => fA_in hk
  have hl : lv_has ls 11 [(0, .ref (ad 0)), (1, .int (zI (st))), (2, .int (zI (se)))] := hl
  have h3b := hVM.2.2.1
  have h4b := hVM.2.2.2.1
  refine lv_aload_n hx hb dX3_transpose_0 rfl (lv_at hl 0 rfl) ?_
  refine z_iconst hx hb dX3_transpose_1 ?_
  refine zm_put (x := 0) hx hb hK hts hown hP hS (hD 0 (by decide)) 0 (by decide) q_fl_RX3_37 dX3_transpose_2 (fun H locs hP hz ho hS => ?_)
  refine lv_iload_n hx hb dX3_transpose_5 rfl (lv_at hl 1 rfl) ?_
  refine z_bipush hx hb dX3_transpose_6 (by decide) ?_
  refine z_bipush hx hb dX3_transpose_8 (by decide) ?_
  refine k_R (c_SR (As := [.int (zI (st)), .int (zI (-14)), .int (zI (14))]) (rest := []) ⟨hx, hb, hml, hown, hts⟩ hG hS hA (c_X3_isIn l G st (-14) 14 (show -2147483648 ≤ st ∧ st ≤ 2147483647 by omega) (show -2147483648 ≤ (-14) ∧ (-14) ≤ 2147483647 by omega) (show -2147483648 ≤ 14 ∧ 14 ≤ 2147483647 by omega)) ⟨q_ml_RX3_43, q_st_X3_isIn, q_ini_RX3, q_code_X3_isIn⟩ hs_X3_isIn trivial ⟨by decide, by decide⟩ ⟨Nat.zero_le _, Nat.zero_le _⟩ rfl hl.1 rfl (Nat.le_of_ble_eq_true rfl) dX3_transpose_10) ?_
  refine z_bif_eq (q := (-14) ≤ st ∧ st ≤ 14) (tgt := 27) hx hb dX3_transpose_13 (by decide) (fun h_13 => ?_) (fun h_13 => ?_)
  · skip
    refine lv_aload_n hx hb dX3_transpose_27 rfl (lv_at hl 0 rfl) ?_
    refine z_iconst hx hb dX3_transpose_28 ?_
    refine k_Wi (c_VW (As := [.int (zI (1))]) (rest := []) ⟨hx, hb, hml, hown, hts⟩ hG hS hA (c_X3_fail l G ad (zN F 0 (0)) A B 1 H.size) ⟨q_ml_RX3_77, q_im_X3_fail, q_sel_X3_fail, q_ini_RX3, q_code_X3_fail⟩ hv_X3_fail (MP.rec hK hP) hP ⟨by decide, by decide⟩ ⟨Nat.zero_le _, Nat.zero_le _⟩ rfl hl.1 rfl (Nat.le_of_ble_eq_true rfl) dX3_transpose_29) hS (fA_mono hS.1) (fun r_29 H1 locs1 hq hz1 hk1 hS => ?_)
    obtain ⟨hrz, hPz⟩ := hq
    rw [zN_N] at hPz
    exact e_Wi (r := r_29) hx hb hr hlk (n_i _) hS (by omega) (by omega) (Or.inl ⟨by omega, hrz, hPz⟩) dX3_transpose_32
  · skip
    refine lv_iload_n hx hb dX3_transpose_16 rfl (lv_at hl 2 rfl) ?_
    refine z_bipush hx hb dX3_transpose_17 (by decide) ?_
    refine z_bipush hx hb dX3_transpose_19 (by decide) ?_
    refine k_R (c_SR (As := [.int (zI (se)), .int (zI (-24)), .int (zI (24))]) (rest := []) ⟨hx, hb, hml, hown, hts⟩ hG hS hA (c_X3_isIn l G se (-24) 24 (show -2147483648 ≤ se ∧ se ≤ 2147483647 by omega) (show -2147483648 ≤ (-24) ∧ (-24) ≤ 2147483647 by omega) (show -2147483648 ≤ 24 ∧ 24 ≤ 2147483647 by omega)) ⟨q_ml_RX3_43, q_st_X3_isIn, q_ini_RX3, q_code_X3_isIn⟩ hs_X3_isIn trivial ⟨by decide, by decide⟩ ⟨Nat.zero_le _, Nat.zero_le _⟩ rfl hl.1 rfl (Nat.le_of_ble_eq_true rfl) dX3_transpose_21) ?_
    refine z_bif_ne (q := (-24) ≤ se ∧ se ≤ 24) (tgt := 33) hx hb dX3_transpose_24 (by decide) (fun h_24 => ?_) (fun h_24 => ?_)
    · skip
      refine lv_aload_n hx hb dX3_transpose_33 rfl (lv_at hl 0 rfl) ?_
      refine zm_get hx hb hK hts hown hP 3 (by decide) q_fl_RX3_74 (v := .int (zI (F 3))) rfl dX3_transpose_34 ?_
      refine z_bipush hx hb dX3_transpose_37 (by decide) ?_
      refine lv_iload_n hx hb dX3_transpose_39 rfl (lv_at hl 2 rfl) ?_
      refine z_imul (x := 7) (y := se) hx hb dX3_transpose_40 ?_
      refine z_iadd (x := F 3) (y := (7) * (se)) hx hb dX3_transpose_41 ?_
      refine z_bipush hx hb dX3_transpose_42 (by decide) ?_
      refine lv_iload_n hx hb dX3_transpose_44 rfl (lv_at hl 1 rfl) ?_
      refine z_imul (x := 12) (y := st) hx hb dX3_transpose_45 ?_
      refine z_isub (x := (F 3) + ((7) * (se))) (y := (12) * (st)) hx hb dX3_transpose_46 ?_
      refine lv_istore_n (lv' := [(3, .int (zI (((F 3) + ((7) * (se))) - ((12) * (st))))), (0, .ref (ad 0)), (1, .int (zI (st))), (2, .int (zI (se)))]) hx hb dX3_transpose_47 rfl hl (by decide) rfl (fun ls hl => ?_)
      refine lv_iload_n hx hb dX3_transpose_48 rfl (lv_at hl 0 rfl) ?_
      refine z_bipush hx hb dX3_transpose_49 (by decide) ?_
      refine z_bipush hx hb dX3_transpose_51 (by decide) ?_
      refine k_R (c_SR (As := [.int (zI (((F 3) + ((7) * (se))) - ((12) * (st)))), .int (zI (-7)), .int (zI (7))]) (rest := []) ⟨hx, hb, hml, hown, hts⟩ hG hS hA (c_X3_isIn l G (((F 3) + ((7) * (se))) - ((12) * (st))) (-7) 7 (show -2147483648 ≤ (((F 3) + ((7) * (se))) - ((12) * (st))) ∧ (((F 3) + ((7) * (se))) - ((12) * (st))) ≤ 2147483647 by omega) (show -2147483648 ≤ (-7) ∧ (-7) ≤ 2147483647 by omega) (show -2147483648 ≤ 7 ∧ 7 ≤ 2147483647 by omega)) ⟨q_ml_RX3_43, q_st_X3_isIn, q_ini_RX3, q_code_X3_isIn⟩ hs_X3_isIn trivial ⟨by decide, by decide⟩ ⟨Nat.zero_le _, Nat.zero_le _⟩ rfl hl.1 rfl (Nat.le_of_ble_eq_true rfl) dX3_transpose_53) ?_
      refine z_bif_ne (q := (-7) ≤ (((F 3) + ((7) * (se))) - ((12) * (st))) ∧ (((F 3) + ((7) * (se))) - ((12) * (st))) ≤ 7) (tgt := 65) hx hb dX3_transpose_56 (by decide) (fun h_56 => ?_) (fun h_56 => ?_)
      · skip
        refine z_iconst hx hb dX3_transpose_65 ?_
        refine lv_istore (lv' := [(4, .int (zI (0))), (3, .int (zI (((F 3) + ((7) * (se))) - ((12) * (st))))), (0, .ref (ad 0)), (1, .int (zI (st))), (2, .int (zI (se)))]) hx hb dX3_transpose_66 hl (by decide) rfl (fun ls hl => ?_)
        have lp_68 : ∀ (n : Nat) (t : Int) (B1 : Int → Int → Int), (t = 0 ∧ B1 = B ∨ t = 1 ∧ B1 = B ∧ okP9 A B st se (F 4) 0 ∨ t = 2 ∧ B1 = mvB A B st se (F 4) 0 ∧ okP9 A B st se (F 4) 0) → 2 - t < n → ∀ (H : Heap) (locs : List Loc), MP G ad (zN F 0 (0)) A B1 H → va_S (fA 11 ad s.heap.size) s.heap H locs → ∀ (ls : Array Slot), lv_has ls 11 [(4, .int (zI (t))), (3, .int (zI (((F 3) + ((7) * (se))) - ((12) * (st))))), (0, .ref (ad 0)), (1, .int (zI (st))), (2, .int (zI (se)))] → W p l env (rmz 2 46 0 0) s m (([.ref (ad 0), .int (zI (st)), .int (zI (se))] : List Value).toArray) below meth c H locs 0 0 (MQ below (QW (fA 11 ad s.heap.size) (fun r H => (¬ ((-14 ≤ st ∧ st ≤ 14) ∧ -24 ≤ se ∧ se ≤ 24) ∧ r = 0 ∧ MP G ad (zN F 0 1) A B H) ∨ (((-14 ≤ st ∧ st ≤ 14) ∧ -24 ≤ se ∧ se ≤ 24) ∧ ¬ (-7 ≤ (F 3 + 7 * se - 12 * st) ∧ (F 3 + 7 * se - 12 * st) ≤ 7) ∧ r = 0 ∧ MP G ad (zN F 0 2) A B H) ∨ (((-14 ≤ st ∧ st ≤ 14) ∧ -24 ≤ se ∧ se ≤ 24) ∧ (-7 ≤ (F 3 + 7 * se - 12 * st) ∧ (F 3 + 7 * se - 12 * st) ≤ 7) ∧ ¬ okP9 A B st se (F 4) 0 ∧ r = 0 ∧ MP G ad (zN F 0 2) A B H) ∨ (((-14 ≤ st ∧ st ≤ 14) ∧ -24 ≤ se ∧ se ≤ 24) ∧ (-7 ≤ (F 3 + 7 * se - 12 * st) ∧ (F 3 + 7 * se - 12 * st) ≤ 7) ∧ okP9 A B st se (F 4) 0 ∧ r = (F 3 + 7 * se - 12 * st) ∧ MP G ad (zN (zN F 0 0) 3 (F 3 + 7 * se - 12 * st)) A (mvB A B st se (F 4) 0) H))) (([.ref (ad 0), .int (zI (st)), .int (zI (se))] : List Value).toArray) s 0 0 (fA 11 ad s.heap.size)) (F0 m 68 ls []) := by
          intro n
          induction n with
          | zero => intro t B1 ht hm H locs hP hS ls hl; exact absurd hm (by omega)
          | succ n ih =>
            intro t B1 ht hm H locs hP hS ls hl
            refine lv_iload hx hb dX3_transpose_68 (lv_at hl 0 rfl) ?_
            refine z_iconst hx hb dX3_transpose_70 ?_
            refine z_icmp_ge (a := t) (b := 2) (tgt := 266) hx hb dX3_transpose_71 (by decide) (by omega) (by omega) (fun h_71 => ?_) (fun h_71 => ?_)
            · skip
              have hB1 : B1 = mvB A B st se (F 4) 0 ∧ okP9 A B st se (F 4) 0 := by rcases ht with z | z | z; exact absurd z.1 (by omega); exact absurd z.1 (by omega); exact z.2
              refine lv_aload_n hx hb dX3_transpose_266 rfl (lv_at hl 2 rfl) ?_
              refine lv_iload_n hx hb dX3_transpose_267 rfl (lv_at hl 1 rfl) ?_
              refine zm_put (x := ((F 3) + ((7) * (se))) - ((12) * (st))) hx hb hK hts hown hP hS (hD 0 (by decide)) 3 (by decide) q_fl_RX3_74 dX3_transpose_268 (fun H locs hP hz ho hS => ?_)
              refine lv_aload_n hx hb dX3_transpose_271 rfl (lv_at hl 2 rfl) ?_
              refine zm_get hx hb hK hts hown hP 3 (by decide) q_fl_RX3_74 (v := .int (zI (((F 3) + ((7) * (se))) - ((12) * (st))))) rfl dX3_transpose_272 ?_
              exact e_Wi (r := ((F 3) + ((7) * (se))) - ((12) * (st))) hx hb hr hlk (n_i _) hS (by omega) (by omega) (Or.inr (Or.inr (Or.inr ⟨by omega, by omega, hB1.2, rfl, (by rw [← hB1.1]; exact hP)⟩))) dX3_transpose_275
            · skip
              refine z_iconst hx hb dX3_transpose_74 ?_
              refine lv_istore (lv' := [(5, .int (zI (0))), (4, .int (zI (t))), (3, .int (zI (((F 3) + ((7) * (se))) - ((12) * (st))))), (0, .ref (ad 0)), (1, .int (zI (st))), (2, .int (zI (se)))]) hx hb dX3_transpose_75 hl (by decide) rfl (fun ls hl => ?_)
              have lp_77 : ∀ (n : Nat) (i : Int) (B2 : Int → Int → Int), 0 ≤ i → i ≤ F 4 → (t = 0 ∧ B2 = B ∧ okP9 A B st se (i) (0) ∨ t = 1 ∧ B2 = (mvB A B st se (i) (0)) ∧ okP9 A B st se (F 4) 0) → F 4 - i < n → ∀ (H : Heap) (locs : List Loc), MP G ad (zN F 0 (0)) A B2 H → va_S (fA 11 ad s.heap.size) s.heap H locs → ∀ (ls : Array Slot), lv_has ls 11 [(5, .int (zI (i))), (4, .int (zI (t))), (3, .int (zI (((F 3) + ((7) * (se))) - ((12) * (st))))), (0, .ref (ad 0)), (1, .int (zI (st))), (2, .int (zI (se)))] → W p l env (rmz 2 46 0 0) s m (([.ref (ad 0), .int (zI (st)), .int (zI (se))] : List Value).toArray) below meth c H locs 0 0 (MQ below (QW (fA 11 ad s.heap.size) (fun r H => (¬ ((-14 ≤ st ∧ st ≤ 14) ∧ -24 ≤ se ∧ se ≤ 24) ∧ r = 0 ∧ MP G ad (zN F 0 1) A B H) ∨ (((-14 ≤ st ∧ st ≤ 14) ∧ -24 ≤ se ∧ se ≤ 24) ∧ ¬ (-7 ≤ (F 3 + 7 * se - 12 * st) ∧ (F 3 + 7 * se - 12 * st) ≤ 7) ∧ r = 0 ∧ MP G ad (zN F 0 2) A B H) ∨ (((-14 ≤ st ∧ st ≤ 14) ∧ -24 ≤ se ∧ se ≤ 24) ∧ (-7 ≤ (F 3 + 7 * se - 12 * st) ∧ (F 3 + 7 * se - 12 * st) ≤ 7) ∧ ¬ okP9 A B st se (F 4) 0 ∧ r = 0 ∧ MP G ad (zN F 0 2) A B H) ∨ (((-14 ≤ st ∧ st ≤ 14) ∧ -24 ≤ se ∧ se ≤ 24) ∧ (-7 ≤ (F 3 + 7 * se - 12 * st) ∧ (F 3 + 7 * se - 12 * st) ≤ 7) ∧ okP9 A B st se (F 4) 0 ∧ r = (F 3 + 7 * se - 12 * st) ∧ MP G ad (zN (zN F 0 0) 3 (F 3 + 7 * se - 12 * st)) A (mvB A B st se (F 4) 0) H))) (([.ref (ad 0), .int (zI (st)), .int (zI (se))] : List Value).toArray) s 0 0 (fA 11 ad s.heap.size)) (F0 m 77 ls []) := by
                intro n
                induction n with
                | zero => intro i B2 h0 h1 hst hmi H locs hP hS ls hl; exact absurd hmi (by omega)
                | succ n ih2 =>
                  intro i B2 h0 h1 hst hmi H locs hP hS ls hl
                  refine lv_iload hx hb dX3_transpose_77 (lv_at hl 0 rfl) ?_
                  refine lv_aload_n hx hb dX3_transpose_79 rfl (lv_at hl 3 rfl) ?_
                  refine zm_get hx hb hK hts hown hP 4 (by decide) q_fl_RX3_40 (v := .int (zI (F 4))) rfl dX3_transpose_80 ?_
                  refine z_icmp_ge (a := i) (b := F 4) (tgt := 260) hx hb dX3_transpose_83 (by decide) (by omega) (by omega) (fun h_83 => ?_) (fun h_83 => ?_)
                  · skip
                    refine z_iinc (lv' := [(4, .int (zI (t + 1))), (5, .int (zI (i))), (3, .int (zI (((F 3) + ((7) * (se))) - ((12) * (st))))), (0, .ref (ad 0)), (1, .int (zI (st))), (2, .int (zI (se)))]) hx hb dX3_transpose_260 hl (k := 1) rfl (by decide) rfl (fun ls hl => ?_)
                    refine lv_goto (tgt := 68) hx hb dX3_transpose_263 (by decide) ?_
                    exact ih (t + 1) B2 (by have h9 : F 4 = i := (by omega); rcases hst with ⟨z1, z2, z3⟩ | ⟨z1, z2, z3⟩; exact Or.inr (Or.inl ⟨by omega, z2, by rw [h9]; exact z3⟩); exact Or.inr (Or.inr ⟨by omega, by rw [h9]; exact z2, z3⟩)) (by omega) H _ hP hS _ (lv_sub hl [0, 2, 3, 4, 5] rfl)
                  · skip
                    refine z_iconst hx hb dX3_transpose_86 ?_
                    refine lv_istore (lv' := [(6, .int (zI (0))), (5, .int (zI (i))), (4, .int (zI (t))), (3, .int (zI (((F 3) + ((7) * (se))) - ((12) * (st))))), (0, .ref (ad 0)), (1, .int (zI (st))), (2, .int (zI (se)))]) hx hb dX3_transpose_87 hl (by decide) rfl (fun ls hl => ?_)
                    have hmn := hVM.many (v := i) (by omega)
                    have lp_89 : ∀ (n : Nat) (j : Int) (B3 : Int → Int → Int), 0 ≤ j → j ≤ A 0 i → (t = 0 ∧ B3 = B ∧ okP9 A B st se (i) (j) ∨ t = 1 ∧ B3 = (mvB A B st se (i) (j)) ∧ okP9 A B st se (F 4) 0) → A 0 i - j < n → ∀ (H : Heap) (locs : List Loc), MP G ad (zN F 0 (0)) A B3 H → va_S (fA 11 ad s.heap.size) s.heap H locs → ∀ (ls : Array Slot), lv_has ls 11 [(6, .int (zI (j))), (5, .int (zI (i))), (4, .int (zI (t))), (3, .int (zI (((F 3) + ((7) * (se))) - ((12) * (st))))), (0, .ref (ad 0)), (1, .int (zI (st))), (2, .int (zI (se)))] → W p l env (rmz 2 46 0 0) s m (([.ref (ad 0), .int (zI (st)), .int (zI (se))] : List Value).toArray) below meth c H locs 0 0 (MQ below (QW (fA 11 ad s.heap.size) (fun r H => (¬ ((-14 ≤ st ∧ st ≤ 14) ∧ -24 ≤ se ∧ se ≤ 24) ∧ r = 0 ∧ MP G ad (zN F 0 1) A B H) ∨ (((-14 ≤ st ∧ st ≤ 14) ∧ -24 ≤ se ∧ se ≤ 24) ∧ ¬ (-7 ≤ (F 3 + 7 * se - 12 * st) ∧ (F 3 + 7 * se - 12 * st) ≤ 7) ∧ r = 0 ∧ MP G ad (zN F 0 2) A B H) ∨ (((-14 ≤ st ∧ st ≤ 14) ∧ -24 ≤ se ∧ se ≤ 24) ∧ (-7 ≤ (F 3 + 7 * se - 12 * st) ∧ (F 3 + 7 * se - 12 * st) ≤ 7) ∧ ¬ okP9 A B st se (F 4) 0 ∧ r = 0 ∧ MP G ad (zN F 0 2) A B H) ∨ (((-14 ≤ st ∧ st ≤ 14) ∧ -24 ≤ se ∧ se ≤ 24) ∧ (-7 ≤ (F 3 + 7 * se - 12 * st) ∧ (F 3 + 7 * se - 12 * st) ≤ 7) ∧ okP9 A B st se (F 4) 0 ∧ r = (F 3 + 7 * se - 12 * st) ∧ MP G ad (zN (zN F 0 0) 3 (F 3 + 7 * se - 12 * st)) A (mvB A B st se (F 4) 0) H))) (([.ref (ad 0), .int (zI (st)), .int (zI (se))] : List Value).toArray) s 0 0 (fA 11 ad s.heap.size)) (F0 m 89 ls []) := by
                      intro n
                      induction n with
                      | zero => intro j B3 hj0 hj1 hsj hmj H locs hP hS ls hl; exact absurd hmj (by omega)
                      | succ n ih3 =>
                        intro j B3 hj0 hj1 hsj hmj H locs hP hS ls hl
                        have hB3 : ∀ w, 0 ≤ w → w < 10 → B3 i (10 * j + w) = B i (10 * j + w) := by
                          intro w w0 w1
                          rcases hsj with ⟨z1, z2, z3⟩ | ⟨z1, z2, z3⟩
                          · rw [z2]
                          · rw [z2]; exact mvB_at A B st se i j ⟨w0, w1⟩
                        have htn3 : mTn B3 i j = mTn B i j := by
                          unfold mTn
                          rw [hB3 2 (by omega) (by omega), hB3 3 (by omega) (by omega), hB3 4 (by omega) (by omega), hB3 5 (by omega) (by omega)]
                        have hok3 : MOK (zN F 0 0) A B3 := by
                          rcases hsj with ⟨z1, z2, z3⟩ | ⟨z1, z2, z3⟩
                          · rw [z2]; exact hVM.F0 0
                          · rw [z2]; exact (mvB_ok hVM (Or.inl (by omega)) z3).F0 0
                        have ht01 : t = 0 ∨ t = 1 := hsj.imp (fun z => z.1) (fun z => z.1)
                        refine lv_iload hx hb dX3_transpose_89 (lv_at hl 0 rfl) ?_
                        refine lv_aload_n hx hb dX3_transpose_91 rfl (lv_at hl 4 rfl) ?_
                        refine zm_get hx hb hK hts hown hP 5 (by decide) q_fl_RX3_16 (v := .ref (ad 1)) rfl dX3_transpose_92 ?_
                        refine lv_iload hx hb dX3_transpose_95 (lv_at hl 1 rfl) ?_
                        refine zm_lA0 hx hb hK hP (i := i) (by omega) dX3_transpose_97 ?_
                        refine z_icmp_ge (a := j) (b := A 0 (i)) (tgt := 254) hx hb dX3_transpose_98 (by decide) (by omega) (by omega) (fun h_98 => ?_) (fun h_98 => ?_)
                        · skip
                          refine z_iinc (lv' := [(5, .int (zI (i + 1))), (6, .int (zI (j))), (4, .int (zI (t))), (3, .int (zI (((F 3) + ((7) * (se))) - ((12) * (st))))), (0, .ref (ad 0)), (1, .int (zI (st))), (2, .int (zI (se)))]) hx hb dX3_transpose_254 hl (k := 1) rfl (by decide) rfl (fun ls hl => ?_)
                          refine lv_goto (tgt := 77) hx hb dX3_transpose_257 (by decide) ?_
                          exact ih2 (i + 1) B3 (by omega) (by omega) (by have h9 : j = A 0 i := (by omega); rcases hsj with ⟨z1, z2, z3⟩ | ⟨z1, z2, z3⟩; exact Or.inl ⟨z1, z2, fun u e q0 q1 q2 q3 => z3 u e q0 (by by_cases z9 : u = i; exact Or.inr ⟨z9, by rw [h9, ← z9]; exact q3⟩; exact Or.inl (by omega)) q2 q3⟩; exact Or.inr ⟨z1, by rw [← mvB_v, ← h9]; exact z2, z3⟩) (by omega) H _ hP hS _ (lv_sub hl [0, 2, 3, 4, 5, 6] rfl)
                        · skip
                          have hel := hVM.el (v := i) (by omega) (e := j) (by omega)
                          have htn := mTn_rng hVM (v := i) (by omega) (e := j) (by omega)
                          refine lv_aload_n hx hb dX3_transpose_101 rfl (lv_at hl 4 rfl) ?_
                          refine lv_iload hx hb dX3_transpose_102 (lv_at hl 1 rfl) ?_
                          refine lv_iload hx hb dX3_transpose_104 (lv_at hl 0 rfl) ?_
                          refine z_iconst hx hb dX3_transpose_106 ?_
                          refine k_R (c_VR (As := [.int (zI (i)), .int (zI (j)), .int (zI (2))]) (rest := []) ⟨hx, hb, hml, hown, hts⟩ hG hS hA (c_X3_get l G ad (zN F 0 (0)) A B3 i j 2 (show 0 ≤ i ∧ i < 4 by omega) (show 0 ≤ 10 * j + 2 ∧ 10 * j + 2 < 2000 by omega)) ⟨q_ml_RX3_57, q_im_X3_get, q_sel_X3_get, q_ini_RX3, q_code_X3_get⟩ hv_X3_get (MP.rec hK hP) hP ⟨by decide, by decide⟩ ⟨Nat.zero_le _, Nat.zero_le _⟩ rfl hl.1 rfl (Nat.le_of_ble_eq_true rfl) dX3_transpose_107) ?_
                          rw [hB3 2 (by omega) (by omega)]
                          refine z_if_ne (a := B i (10 * j + 2)) (tgt := 116) hx hb dX3_transpose_110 (by decide) (by omega) (fun h_110 => ?_) (fun h_110 => ?_)
                          · skip
                            have hnr : ¬ B i (10 * j + 2) = 0 := by omega
                            refine lv_aload_n hx hb dX3_transpose_116 rfl (lv_at hl 4 rfl) ?_
                            refine lv_iload hx hb dX3_transpose_117 (lv_at hl 1 rfl) ?_
                            refine lv_iload hx hb dX3_transpose_119 (lv_at hl 0 rfl) ?_
                            refine lv_iload_n hx hb dX3_transpose_121 rfl (lv_at hl 5 rfl) ?_
                            refine k_R (c_VR (As := [.int (zI (i)), .int (zI (j)), .int (zI (st))]) (rest := []) ⟨hx, hb, hml, hown, hts⟩ hG hS hA (c_X3_place l G ad (zN F 0 (0)) A B3 i j st (by omega) (by omega) hok3) ⟨q_ml_RX3_154, q_im_X3_place, q_sel_X3_place, q_ini_RX3, q_code_X3_place⟩ hv_X3_place (MP.rec hK hP) hP ⟨by decide, by decide⟩ ⟨Nat.zero_le _, Nat.zero_le _⟩ rfl hl.1 rfl (Nat.le_of_ble_eq_true rfl) dX3_transpose_122) ?_
                            rw [hB3 5 (by omega) (by omega), hB3 3 (by omega) (by omega), show 7 * B i (10 * j + 5) + B i (10 * j + 3) + st = plT B i j st from rfl]
                            have hpl : plT B i j st = 7 * B i (10 * j + 5) + B i (10 * j + 3) + st := rfl
                            have hsr := stepT_rng (k := plT B i j st % 7) (by omega)
                            have htF : toneF (plT B i j st % 7) 0 (plT B i j st / 7) = 12 * (plT B i j st / 7) + stepT (plT B i j st % 7) + 0 := rfl
                            refine lv_istore (lv' := [(7, .int (zI (plT B i j st))), (6, .int (zI (j))), (5, .int (zI (i))), (4, .int (zI (t))), (3, .int (zI (((F 3) + ((7) * (se))) - ((12) * (st))))), (0, .ref (ad 0)), (1, .int (zI (st))), (2, .int (zI (se)))]) hx hb dX3_transpose_125 hl (by decide) rfl (fun ls hl => ?_)
                            refine lv_iload hx hb dX3_transpose_127 (lv_at hl 0 rfl) ?_
                            refine z_bipush hx hb dX3_transpose_129 (by decide) ?_
                            refine k_R (c_SR (As := [.int (zI (plT B i j st)), .int (zI (7))]) (rest := []) ⟨hx, hb, hml, hown, hts⟩ hG hS hA (c_J9_floorDiv_7cf53 l G (plT B i j st) 7 (by omega) (by first | exact Or.inl rfl | exact Or.inr rfl)) ⟨q_ml_RX3_157, q_st_J9_floorDiv_7cf53, q_ini_RJ9, q_code_J9_floorDiv_7cf53⟩ hs_J9_floorDiv_7cf53 trivial ⟨by decide, by decide⟩ ⟨Nat.zero_le _, Nat.zero_le _⟩ rfl hl.1 rfl (Nat.le_of_ble_eq_true rfl) dX3_transpose_131) ?_
                            refine lv_istore (lv' := [(8, .int (zI ((plT B i j st) / 7))), (7, .int (zI (plT B i j st))), (6, .int (zI (j))), (5, .int (zI (i))), (4, .int (zI (t))), (3, .int (zI (((F 3) + ((7) * (se))) - ((12) * (st))))), (0, .ref (ad 0)), (1, .int (zI (st))), (2, .int (zI (se)))]) hx hb dX3_transpose_134 hl (by decide) rfl (fun ls hl => ?_)
                            refine lv_iload hx hb dX3_transpose_136 (lv_at hl 1 rfl) ?_
                            refine z_bipush hx hb dX3_transpose_138 (by decide) ?_
                            refine k_R (c_SR (As := [.int (zI (plT B i j st)), .int (zI (7))]) (rest := []) ⟨hx, hb, hml, hown, hts⟩ hG hS hA (c_J9_floorMod_7cf53 l G (plT B i j st) 7 (by omega) (by first | exact Or.inl rfl | exact Or.inr rfl)) ⟨q_ml_RX3_160, q_st_J9_floorMod_7cf53, q_ini_RJ9, q_code_J9_floorMod_7cf53⟩ hs_J9_floorMod_7cf53 trivial ⟨by decide, by decide⟩ ⟨Nat.zero_le _, Nat.zero_le _⟩ rfl hl.1 rfl (Nat.le_of_ble_eq_true rfl) dX3_transpose_140) ?_
                            refine lv_istore (lv' := [(9, .int (zI ((plT B i j st) % 7))), (8, .int (zI ((plT B i j st) / 7))), (7, .int (zI (plT B i j st))), (6, .int (zI (j))), (5, .int (zI (i))), (4, .int (zI (t))), (3, .int (zI (((F 3) + ((7) * (se))) - ((12) * (st))))), (0, .ref (ad 0)), (1, .int (zI (st))), (2, .int (zI (se)))]) hx hb dX3_transpose_143 hl (by decide) rfl (fun ls hl => ?_)
                            refine lv_aload_n hx hb dX3_transpose_145 rfl (lv_at hl 7 rfl) ?_
                            refine lv_iload hx hb dX3_transpose_146 (lv_at hl 4 rfl) ?_
                            refine lv_iload hx hb dX3_transpose_148 (lv_at hl 3 rfl) ?_
                            refine k_R (c_VR (As := [.int (zI (i)), .int (zI (j))]) (rest := []) ⟨hx, hb, hml, hown, hts⟩ hG hS hA (c_X3_tone l G ad (zN F 0 (0)) A B3 i j (by omega) (by omega) hok3) ⟨q_ml_RX3_133, q_im_X3_tone, q_sel_X3_tone, q_ini_RX3, q_code_X3_tone⟩ hv_X3_tone (MP.rec hK hP) hP ⟨by decide, by decide⟩ ⟨Nat.zero_le _, Nat.zero_le _⟩ rfl hl.1 rfl (Nat.le_of_ble_eq_true rfl) dX3_transpose_150) ?_
                            rw [htn3]
                            refine lv_iload_n hx hb dX3_transpose_153 rfl (lv_at hl 9 rfl) ?_
                            refine z_iadd (x := mTn B i j) (y := se) hx hb dX3_transpose_154 ?_
                            refine lv_iload hx hb dX3_transpose_155 (lv_at hl 0 rfl) ?_
                            refine z_iconst hx hb dX3_transpose_157 ?_
                            refine lv_iload hx hb dX3_transpose_158 (lv_at hl 1 rfl) ?_
                            refine k_R (c_SR (As := [.int (zI ((plT B i j st) % 7)), .int (zI (0)), .int (zI ((plT B i j st) / 7))]) (rest := [.int (zI ((mTn B i j) + (se)))]) ⟨hx, hb, hml, hown, hts⟩ hG hS hA (c_X3_toneOf l G ((plT B i j st) % 7) 0 ((plT B i j st) / 7) (show 0 ≤ ((plT B i j st) % 7) ∧ ((plT B i j st) % 7) < 7 by omega)) ⟨q_ml_RX3_65, q_st_X3_toneOf, q_ini_RX3, q_code_X3_toneOf⟩ hs_X3_toneOf trivial ⟨by decide, by decide⟩ ⟨Nat.zero_le _, Nat.zero_le _⟩ rfl hl.1 rfl (Nat.le_of_ble_eq_true rfl) dX3_transpose_160) ?_
                            refine z_isub (x := (mTn B i j) + (se)) (y := toneF ((plT B i j st) % 7) 0 ((plT B i j st) / 7)) hx hb dX3_transpose_163 ?_
                            rw [show mTn B i j + se - toneF (plT B i j st % 7) 0 (plT B i j st / 7) = sgT B i j st se from rfl]
                            have hsg : sgT B i j st se = mTn B i j + se - toneF (plT B i j st % 7) 0 (plT B i j st / 7) := rfl
                            refine lv_istore (lv' := [(10, .int (zI (sgT B i j st se))), (9, .int (zI ((plT B i j st) % 7))), (8, .int (zI ((plT B i j st) / 7))), (7, .int (zI (plT B i j st))), (6, .int (zI (j))), (5, .int (zI (i))), (4, .int (zI (t))), (3, .int (zI (((F 3) + ((7) * (se))) - ((12) * (st))))), (0, .ref (ad 0)), (1, .int (zI (st))), (2, .int (zI (se)))]) hx hb dX3_transpose_164 hl (by decide) rfl (fun ls hl => ?_)
                            refine lv_iload hx hb dX3_transpose_166 (lv_at hl 6 rfl) ?_
                            refine z_if_ne (a := t) (tgt := 189) hx hb dX3_transpose_168 (by decide) (by omega) (fun h_168 => ?_) (fun h_168 => ?_)
                            · skip
                              refine lv_iload hx hb dX3_transpose_189 (lv_at hl 6 rfl) ?_
                              refine z_if_ne (a := t) (tgt := 197) hx hb dX3_transpose_191 (by decide) (by omega) (fun h_191 => ?_) (fun h_191 => ?_)
                              · skip
                                refine lv_aload_n hx hb dX3_transpose_197 rfl (lv_at hl 8 rfl) ?_
                                refine zm_get hx hb hK hts hown hP 6 (by decide) q_fl_RX3_22 (v := .ref (ad 2)) rfl dX3_transpose_198 ?_
                                refine lv_iload hx hb dX3_transpose_201 (lv_at hl 5 rfl) ?_
                                refine zm_aB hx hb hK hP (i := i) (by omega) dX3_transpose_203 ?_
                                refine z_bipush hx hb dX3_transpose_204 (by decide) ?_
                                refine lv_iload hx hb dX3_transpose_206 (lv_at hl 4 rfl) ?_
                                refine z_imul (x := 10) (y := j) hx hb dX3_transpose_208 ?_
                                refine z_iconst hx hb dX3_transpose_209 ?_
                                refine z_iadd (x := (10) * (j)) (y := 3) hx hb dX3_transpose_210 ?_
                                refine lv_iload hx hb dX3_transpose_211 (lv_at hl 1 rfl) ?_
                                refine zm_sB (x := (plT B i j st) % 7) hx hb hK hP hS (v := i) (by omega) (hD (3 + (i).toNat) (by omega)) (i := ((10) * (j)) + (3)) (by omega) dX3_transpose_213 (fun H locs hP hz ho hS => ?_)
                                refine lv_aload_n hx hb dX3_transpose_214 rfl (lv_at hl 8 rfl) ?_
                                refine zm_get hx hb hK hts hown hP 6 (by decide) q_fl_RX3_22 (v := .ref (ad 2)) rfl dX3_transpose_215 ?_
                                refine lv_iload hx hb dX3_transpose_218 (lv_at hl 5 rfl) ?_
                                refine zm_aB hx hb hK hP (i := i) (by omega) dX3_transpose_220 ?_
                                refine z_bipush hx hb dX3_transpose_221 (by decide) ?_
                                refine lv_iload hx hb dX3_transpose_223 (lv_at hl 4 rfl) ?_
                                refine z_imul (x := 10) (y := j) hx hb dX3_transpose_225 ?_
                                refine z_iconst hx hb dX3_transpose_226 ?_
                                refine z_iadd (x := (10) * (j)) (y := 4) hx hb dX3_transpose_227 ?_
                                refine lv_iload hx hb dX3_transpose_228 (lv_at hl 0 rfl) ?_
                                refine zm_sB (x := sgT B i j st se) hx hb hK hP hS (v := i) (by omega) (hD (3 + (i).toNat) (by omega)) (i := ((10) * (j)) + (4)) (by omega) dX3_transpose_230 (fun H locs hP hz ho hS => ?_)
                                refine lv_aload_n hx hb dX3_transpose_231 rfl (lv_at hl 8 rfl) ?_
                                refine zm_get hx hb hK hts hown hP 6 (by decide) q_fl_RX3_22 (v := .ref (ad 2)) rfl dX3_transpose_232 ?_
                                refine lv_iload hx hb dX3_transpose_235 (lv_at hl 5 rfl) ?_
                                refine zm_aB hx hb hK hP (i := i) (by omega) dX3_transpose_237 ?_
                                refine z_bipush hx hb dX3_transpose_238 (by decide) ?_
                                refine lv_iload hx hb dX3_transpose_240 (lv_at hl 4 rfl) ?_
                                refine z_imul (x := 10) (y := j) hx hb dX3_transpose_242 ?_
                                refine z_iconst hx hb dX3_transpose_243 ?_
                                refine z_iadd (x := (10) * (j)) (y := 5) hx hb dX3_transpose_244 ?_
                                refine lv_iload hx hb dX3_transpose_245 (lv_at hl 2 rfl) ?_
                                refine zm_sB (x := (plT B i j st) / 7) hx hb hK hP hS (v := i) (by omega) (hD (3 + (i).toNat) (by omega)) (i := ((10) * (j)) + (5)) (by omega) dX3_transpose_247 (fun H locs hP hz ho hS => ?_)
                                have hE : t = 0 ∧ (zB (zB (zB B3 (i) (((10) * (j)) + (3)) ((plT B i j st) % 7)) (i) (((10) * (j)) + (4)) (sgT B i j st se)) (i) (((10) * (j)) + (5)) ((plT B i j st) / 7)) = B ∧ okP9 A B st se i (j + 1) ∨ t = 1 ∧ (zB (zB (zB B3 (i) (((10) * (j)) + (3)) ((plT B i j st) % 7)) (i) (((10) * (j)) + (4)) (sgT B i j st se)) (i) (((10) * (j)) + (5)) ((plT B i j st) / 7)) = mvB A B st se i (j + 1) ∧ okP9 A B st se (F 4) 0 := by
                                  first
                                  | (exfalso; omega)
                                  | (rcases hsj with ⟨z1, z2, z3⟩ | ⟨z1, z2, z3⟩; exact absurd z1 (by omega); exact Or.inr ⟨z1, by rw [z2]; exact mvB_s h0 (by omega) hnr, z3⟩)
                                refine z_iinc (lv' := [(6, .int (zI (j + 1))), (10, .int (zI (sgT B i j st se))), (9, .int (zI ((plT B i j st) % 7))), (8, .int (zI ((plT B i j st) / 7))), (7, .int (zI (plT B i j st))), (5, .int (zI (i))), (4, .int (zI (t))), (3, .int (zI (((F 3) + ((7) * (se))) - ((12) * (st))))), (0, .ref (ad 0)), (1, .int (zI (st))), (2, .int (zI (se)))]) hx hb dX3_transpose_248 hl (k := 4) rfl (by decide) rfl (fun ls hl => ?_)
                                refine lv_goto (tgt := 89) hx hb dX3_transpose_251 (by decide) ?_
                                exact ih3 (j + 1) ((zB (zB (zB B3 (i) (((10) * (j)) + (3)) ((plT B i j st) % 7)) (i) (((10) * (j)) + (4)) (sgT B i j st se)) (i) (((10) * (j)) + (5)) ((plT B i j st) / 7))) (by omega) (by omega) hE (by omega) H _ hP hS _ (lv_sub hl [0, 5, 6, 7, 8, 9, 10] rfl)
                              · skip
                                have hE : t = 0 ∧ B3 = B ∧ okP9 A B st se i (j + 1) ∨ t = 1 ∧ B3 = mvB A B st se i (j + 1) ∧ okP9 A B st se (F 4) 0 := by
                                  first
                                  | (exfalso; omega)
                                  | (rcases hsj with ⟨z1, z2, z3⟩ | ⟨z1, z2, z3⟩; exact Or.inl ⟨z1, z2, fun u e q0 q1 q2 q3 q4 => (by by_cases z9 : u = i ∧ e = j; rw [z9.1, z9.2]; exact h_180; exact z3 u e q0 (by omega) q2 q3 q4)⟩; exact absurd z1 (by omega))
                                refine lv_goto (tgt := 248) hx hb dX3_transpose_194 (by decide) ?_
                                refine z_iinc (lv' := [(6, .int (zI (j + 1))), (10, .int (zI (sgT B i j st se))), (9, .int (zI ((plT B i j st) % 7))), (8, .int (zI ((plT B i j st) / 7))), (7, .int (zI (plT B i j st))), (5, .int (zI (i))), (4, .int (zI (t))), (3, .int (zI (((F 3) + ((7) * (se))) - ((12) * (st))))), (0, .ref (ad 0)), (1, .int (zI (st))), (2, .int (zI (se)))]) hx hb dX3_transpose_248 hl (k := 4) rfl (by decide) rfl (fun ls hl => ?_)
                                refine lv_goto (tgt := 89) hx hb dX3_transpose_251 (by decide) ?_
                                exact ih3 (j + 1) (B3) (by omega) (by omega) hE (by omega) H _ hP hS _ (lv_sub hl [0, 5, 6, 7, 8, 9, 10] rfl)
                            · skip
                              refine lv_iload hx hb dX3_transpose_171 (lv_at hl 1 rfl) ?_
                              refine lv_iload hx hb dX3_transpose_173 (lv_at hl 0 rfl) ?_
                              refine lv_iload hx hb dX3_transpose_175 (lv_at hl 2 rfl) ?_
                              refine k_R (c_SR (As := [.int (zI ((plT B i j st) % 7)), .int (zI (sgT B i j st se)), .int (zI ((plT B i j st) / 7))]) (rest := []) ⟨hx, hb, hml, hown, hts⟩ hG hS hA (c_X3_isPitch l G ((plT B i j st) % 7) (sgT B i j st se) ((plT B i j st) / 7) (by omega) (by omega) (by omega)) ⟨q_ml_RX3_123, q_st_X3_isPitch, q_ini_RX3, q_code_X3_isPitch⟩ hs_X3_isPitch trivial ⟨by decide, by decide⟩ ⟨Nat.zero_le _, Nat.zero_le _⟩ rfl hl.1 rfl (Nat.le_of_ble_eq_true rfl) dX3_transpose_177) ?_
                              refine z_bif_ne (q := 0 ≤ ((plT B i j st) % 7) ∧ ((plT B i j st) % 7) < 7 ∧ 0 ≤ ((plT B i j st) / 7) ∧ ((plT B i j st) / 7) < 9 ∧ -2 ≤ (sgT B i j st se) ∧ (sgT B i j st se) ≤ 2 ∧ 0 ≤ toneF ((plT B i j st) % 7) (sgT B i j st se) ((plT B i j st) / 7)) (tgt := 189) hx hb dX3_transpose_180 (by decide) (fun h_180 => ?_) (fun h_180 => ?_)
                              · skip
                                refine lv_iload hx hb dX3_transpose_189 (lv_at hl 6 rfl) ?_
                                refine z_if_ne (a := t) (tgt := 197) hx hb dX3_transpose_191 (by decide) (by omega) (fun h_191 => ?_) (fun h_191 => ?_)
                                · skip
                                  refine lv_aload_n hx hb dX3_transpose_197 rfl (lv_at hl 8 rfl) ?_
                                  refine zm_get hx hb hK hts hown hP 6 (by decide) q_fl_RX3_22 (v := .ref (ad 2)) rfl dX3_transpose_198 ?_
                                  refine lv_iload hx hb dX3_transpose_201 (lv_at hl 5 rfl) ?_
                                  refine zm_aB hx hb hK hP (i := i) (by omega) dX3_transpose_203 ?_
                                  refine z_bipush hx hb dX3_transpose_204 (by decide) ?_
                                  refine lv_iload hx hb dX3_transpose_206 (lv_at hl 4 rfl) ?_
                                  refine z_imul (x := 10) (y := j) hx hb dX3_transpose_208 ?_
                                  refine z_iconst hx hb dX3_transpose_209 ?_
                                  refine z_iadd (x := (10) * (j)) (y := 3) hx hb dX3_transpose_210 ?_
                                  refine lv_iload hx hb dX3_transpose_211 (lv_at hl 1 rfl) ?_
                                  refine zm_sB (x := (plT B i j st) % 7) hx hb hK hP hS (v := i) (by omega) (hD (3 + (i).toNat) (by omega)) (i := ((10) * (j)) + (3)) (by omega) dX3_transpose_213 (fun H locs hP hz ho hS => ?_)
                                  refine lv_aload_n hx hb dX3_transpose_214 rfl (lv_at hl 8 rfl) ?_
                                  refine zm_get hx hb hK hts hown hP 6 (by decide) q_fl_RX3_22 (v := .ref (ad 2)) rfl dX3_transpose_215 ?_
                                  refine lv_iload hx hb dX3_transpose_218 (lv_at hl 5 rfl) ?_
                                  refine zm_aB hx hb hK hP (i := i) (by omega) dX3_transpose_220 ?_
                                  refine z_bipush hx hb dX3_transpose_221 (by decide) ?_
                                  refine lv_iload hx hb dX3_transpose_223 (lv_at hl 4 rfl) ?_
                                  refine z_imul (x := 10) (y := j) hx hb dX3_transpose_225 ?_
                                  refine z_iconst hx hb dX3_transpose_226 ?_
                                  refine z_iadd (x := (10) * (j)) (y := 4) hx hb dX3_transpose_227 ?_
                                  refine lv_iload hx hb dX3_transpose_228 (lv_at hl 0 rfl) ?_
                                  refine zm_sB (x := sgT B i j st se) hx hb hK hP hS (v := i) (by omega) (hD (3 + (i).toNat) (by omega)) (i := ((10) * (j)) + (4)) (by omega) dX3_transpose_230 (fun H locs hP hz ho hS => ?_)
                                  refine lv_aload_n hx hb dX3_transpose_231 rfl (lv_at hl 8 rfl) ?_
                                  refine zm_get hx hb hK hts hown hP 6 (by decide) q_fl_RX3_22 (v := .ref (ad 2)) rfl dX3_transpose_232 ?_
                                  refine lv_iload hx hb dX3_transpose_235 (lv_at hl 5 rfl) ?_
                                  refine zm_aB hx hb hK hP (i := i) (by omega) dX3_transpose_237 ?_
                                  refine z_bipush hx hb dX3_transpose_238 (by decide) ?_
                                  refine lv_iload hx hb dX3_transpose_240 (lv_at hl 4 rfl) ?_
                                  refine z_imul (x := 10) (y := j) hx hb dX3_transpose_242 ?_
                                  refine z_iconst hx hb dX3_transpose_243 ?_
                                  refine z_iadd (x := (10) * (j)) (y := 5) hx hb dX3_transpose_244 ?_
                                  refine lv_iload hx hb dX3_transpose_245 (lv_at hl 2 rfl) ?_
                                  refine zm_sB (x := (plT B i j st) / 7) hx hb hK hP hS (v := i) (by omega) (hD (3 + (i).toNat) (by omega)) (i := ((10) * (j)) + (5)) (by omega) dX3_transpose_247 (fun H locs hP hz ho hS => ?_)
                                  have hE : t = 0 ∧ (zB (zB (zB B3 (i) (((10) * (j)) + (3)) ((plT B i j st) % 7)) (i) (((10) * (j)) + (4)) (sgT B i j st se)) (i) (((10) * (j)) + (5)) ((plT B i j st) / 7)) = B ∧ okP9 A B st se i (j + 1) ∨ t = 1 ∧ (zB (zB (zB B3 (i) (((10) * (j)) + (3)) ((plT B i j st) % 7)) (i) (((10) * (j)) + (4)) (sgT B i j st se)) (i) (((10) * (j)) + (5)) ((plT B i j st) / 7)) = mvB A B st se i (j + 1) ∧ okP9 A B st se (F 4) 0 := by
                                    first
                                    | (exfalso; omega)
                                    | (rcases hsj with ⟨z1, z2, z3⟩ | ⟨z1, z2, z3⟩; exact absurd z1 (by omega); exact Or.inr ⟨z1, by rw [z2]; exact mvB_s h0 (by omega) hnr, z3⟩)
                                  refine z_iinc (lv' := [(6, .int (zI (j + 1))), (10, .int (zI (sgT B i j st se))), (9, .int (zI ((plT B i j st) % 7))), (8, .int (zI ((plT B i j st) / 7))), (7, .int (zI (plT B i j st))), (5, .int (zI (i))), (4, .int (zI (t))), (3, .int (zI (((F 3) + ((7) * (se))) - ((12) * (st))))), (0, .ref (ad 0)), (1, .int (zI (st))), (2, .int (zI (se)))]) hx hb dX3_transpose_248 hl (k := 4) rfl (by decide) rfl (fun ls hl => ?_)
                                  refine lv_goto (tgt := 89) hx hb dX3_transpose_251 (by decide) ?_
                                  exact ih3 (j + 1) ((zB (zB (zB B3 (i) (((10) * (j)) + (3)) ((plT B i j st) % 7)) (i) (((10) * (j)) + (4)) (sgT B i j st se)) (i) (((10) * (j)) + (5)) ((plT B i j st) / 7))) (by omega) (by omega) hE (by omega) H _ hP hS _ (lv_sub hl [0, 5, 6, 7, 8, 9, 10] rfl)
                                · skip
                                  have hE : t = 0 ∧ B3 = B ∧ okP9 A B st se i (j + 1) ∨ t = 1 ∧ B3 = mvB A B st se i (j + 1) ∧ okP9 A B st se (F 4) 0 := by
                                    first
                                    | (exfalso; omega)
                                    | (rcases hsj with ⟨z1, z2, z3⟩ | ⟨z1, z2, z3⟩; exact Or.inl ⟨z1, z2, fun u e q0 q1 q2 q3 q4 => (by by_cases z9 : u = i ∧ e = j; rw [z9.1, z9.2]; exact h_180; exact z3 u e q0 (by omega) q2 q3 q4)⟩; exact absurd z1 (by omega))
                                  refine lv_goto (tgt := 248) hx hb dX3_transpose_194 (by decide) ?_
                                  refine z_iinc (lv' := [(6, .int (zI (j + 1))), (10, .int (zI (sgT B i j st se))), (9, .int (zI ((plT B i j st) % 7))), (8, .int (zI ((plT B i j st) / 7))), (7, .int (zI (plT B i j st))), (5, .int (zI (i))), (4, .int (zI (t))), (3, .int (zI (((F 3) + ((7) * (se))) - ((12) * (st))))), (0, .ref (ad 0)), (1, .int (zI (st))), (2, .int (zI (se)))]) hx hb dX3_transpose_248 hl (k := 4) rfl (by decide) rfl (fun ls hl => ?_)
                                  refine lv_goto (tgt := 89) hx hb dX3_transpose_251 (by decide) ?_
                                  exact ih3 (j + 1) (B3) (by omega) (by omega) hE (by omega) H _ hP hS _ (lv_sub hl [0, 5, 6, 7, 8, 9, 10] rfl)
                              · skip
                                refine lv_aload_n hx hb dX3_transpose_183 rfl (lv_at hl 8 rfl) ?_
                                refine z_iconst hx hb dX3_transpose_184 ?_
                                refine k_Wi (c_VW (As := [.int (zI (2))]) (rest := []) ⟨hx, hb, hml, hown, hts⟩ hG hS hA (c_X3_fail l G ad (zN F 0 (0)) A B3 2 H.size) ⟨q_ml_RX3_77, q_im_X3_fail, q_sel_X3_fail, q_ini_RX3, q_code_X3_fail⟩ hv_X3_fail (MP.rec hK hP) hP ⟨by decide, by decide⟩ ⟨Nat.zero_le _, Nat.zero_le _⟩ rfl hl.1 rfl (Nat.le_of_ble_eq_true rfl) dX3_transpose_185) hS (fA_mono hS.1) (fun r_185 H1 locs1 hq hz1 hk1 hS => ?_)
                                obtain ⟨hrz, hPz⟩ := hq
                                rw [zN_N] at hPz
                                exact e_Wi (r := r_185) hx hb hr hlk (n_i _) hS (by omega) (by omega) (Or.inr (Or.inr (Or.inl ⟨by omega, by omega, (fun q => h_180 (q i j h0 (Or.inl (by omega)) hj0 (by omega) hnr)), hrz, (by rcases hsj with z | z; rw [z.2.1] at hPz; exact hPz; exact absurd z.1 (by omega))⟩))) dX3_transpose_188
                          · skip
                            have hr : B i (10 * j + 2) = 0 := by omega
                            have hE : t = 0 ∧ B3 = B ∧ okP9 A B st se i (j + 1) ∨ t = 1 ∧ B3 = mvB A B st se i (j + 1) ∧ okP9 A B st se (F 4) 0 := by
                              rcases hsj with ⟨z1, z2, z3⟩ | ⟨z1, z2, z3⟩
                              · exact Or.inl ⟨z1, z2, fun u e q0 q1 q2 q3 q4 => z3 u e q0 (by by_cases z9 : u = i ∧ e = j; exact absurd hr (by rw [z9.1, z9.2] at q4; exact q4); omega) q2 q3 q4⟩
                              · exact Or.inr ⟨z1, by rw [mvB_r hr]; exact z2, z3⟩
                            refine lv_goto (tgt := 248) hx hb dX3_transpose_113 (by decide) ?_
                            refine z_iinc (lv' := [(6, .int (zI (j + 1))), (5, .int (zI (i))), (4, .int (zI (t))), (3, .int (zI (((F 3) + ((7) * (se))) - ((12) * (st))))), (0, .ref (ad 0)), (1, .int (zI (st))), (2, .int (zI (se)))]) hx hb dX3_transpose_248 hl (k := 0) rfl (by decide) rfl (fun ls hl => ?_)
                            refine lv_goto (tgt := 89) hx hb dX3_transpose_251 (by decide) ?_
                            exact ih3 (j + 1) (B3) (by omega) (by omega) hE (by omega) H _ hP hS _ (lv_sub hl [0, 1, 2, 3, 4, 5, 6] rfl)
                    exact lp_89 201 0 B2 (by omega) (by omega) hst (by omega) H _ hP hS _ (lv_sub hl [0, 1, 2, 3, 4, 5, 6] rfl)
              exact lp_77 5 0 B1 (by omega) (by omega) (by rcases ht with z | z | z; exact Or.inl ⟨z.1, z.2, fun u e q0 q1 q2 q3 q4 => absurd q1 (by omega)⟩; exact Or.inr ⟨z.1, z.2.1.trans (mvB_00 A B st se).symm, z.2.2⟩; exact absurd z.1 (by omega)) (by omega) H _ hP hS _ (lv_sub hl [0, 1, 2, 3, 4, 5] rfl)
        exact lp_68 3 0 B (Or.inl ⟨rfl, rfl⟩) (by omega) H _ hP hS _ (lv_sub hl [0, 1, 2, 3, 4] rfl)
      · skip
        refine lv_aload_n hx hb dX3_transpose_59 rfl (lv_at hl 1 rfl) ?_
        refine z_iconst hx hb dX3_transpose_60 ?_
        refine k_Wi (c_VW (As := [.int (zI (2))]) (rest := []) ⟨hx, hb, hml, hown, hts⟩ hG hS hA (c_X3_fail l G ad (zN F 0 (0)) A B 2 H.size) ⟨q_ml_RX3_77, q_im_X3_fail, q_sel_X3_fail, q_ini_RX3, q_code_X3_fail⟩ hv_X3_fail (MP.rec hK hP) hP ⟨by decide, by decide⟩ ⟨Nat.zero_le _, Nat.zero_le _⟩ rfl hl.1 rfl (Nat.le_of_ble_eq_true rfl) dX3_transpose_61) hS (fA_mono hS.1) (fun r_61 H1 locs1 hq hz1 hk1 hS => ?_)
        obtain ⟨hrz, hPz⟩ := hq
        rw [zN_N] at hPz
        exact e_Wi (r := r_61) hx hb hr hlk (n_i _) hS (by omega) (by omega) (Or.inr (Or.inl ⟨by omega, by omega, hrz, hPz⟩)) dX3_transpose_64
    · skip
      refine lv_aload_n hx hb dX3_transpose_27 rfl (lv_at hl 0 rfl) ?_
      refine z_iconst hx hb dX3_transpose_28 ?_
      refine k_Wi (c_VW (As := [.int (zI (1))]) (rest := []) ⟨hx, hb, hml, hown, hts⟩ hG hS hA (c_X3_fail l G ad (zN F 0 (0)) A B 1 H.size) ⟨q_ml_RX3_77, q_im_X3_fail, q_sel_X3_fail, q_ini_RX3, q_code_X3_fail⟩ hv_X3_fail (MP.rec hK hP) hP ⟨by decide, by decide⟩ ⟨Nat.zero_le _, Nat.zero_le _⟩ rfl hl.1 rfl (Nat.le_of_ble_eq_true rfl) dX3_transpose_29) hS (fA_mono hS.1) (fun r_29 H1 locs1 hq hz1 hk1 hS => ?_)
      obtain ⟨hrz, hPz⟩ := hq
      rw [zN_N] at hPz
      exact e_Wi (r := r_29) hx hb hr hlk (n_i _) hS (by omega) (by omega) (Or.inl ⟨by omega, hrz, hPz⟩) dX3_transpose_32
