set_option maxHeartbeats 600000 in
theorem c_X3_thrown (l : Launch) (G : zG) (ad : Nat → Nat) (F : Nat → Int) (A : Nat → Int → Int) (B : Int → Int → Int)  : MR l yX3_thrown cX3_thrown 1 (some .int) 0 0 G [.ref (ad 0)] (MP G ad F A B) (.int (zI (F 0))) := by
  refine mr_of hp_X3_thrown (Nat.le_of_ble_eq_true rfl) ?_
  intro p env s m below meth c ls hB hP hl
  obtain ⟨hx, hb, hml, hr, hlk, hown, hts, hG⟩ := hB
  have hK := hG.1
  have hS : va_S (fun _ => False) s.heap s.heap [] := va_S.rf
  have hA : ∀ q : Nat, (fun _ : Nat => False) q → G.2.2 ≤ q := fun _ h => h.elim
  have hl : lv_has ls 1 [(0, .ref (ad 0))] := hl
  refine lv_aload_n hx hb dX3_thrown_0 rfl (lv_at hl 0 rfl) ?_
  refine zm_get hx hb hK hts hown hP 0 (by decide) q_fl_RX3_37 (v := .int (zI (F 0))) rfl dX3_thrown_1 ?_
  exact e_R (r' := F 0) hx hb hr hlk (n_i _) (by first | rfl | omega) dX3_thrown_4
set_option maxHeartbeats 600000 in
theorem c_X3_isIn (l : Launch) (G : zG)  (x lo hi : Int) (r1 : -2147483648 ≤ x ∧ x ≤ 2147483647) (r2 : -2147483648 ≤ lo ∧ lo ≤ 2147483647) (r3 : -2147483648 ≤ hi ∧ hi ≤ 2147483647) : MR l yX3_isIn cX3_isIn 3 (some .boolean) 0 0 G [.int (zI (x)), .int (zI (lo)), .int (zI (hi))] ((fun _ => True)) (.int (zI (bI (lo ≤ x ∧ x ≤ hi)))) := by
  refine mr_of hp_X3_isIn (Nat.le_of_ble_eq_true rfl) ?_
  intro p env s m below meth c ls hB hP hl
  obtain ⟨hx, hb, hml, hr, hlk, hown, hts, hG⟩ := hB
  have hK := hG.1
  have hS : va_S (fun _ => False) s.heap s.heap [] := va_S.rf
  have hA : ∀ q : Nat, (fun _ : Nat => False) q → G.2.2 ≤ q := fun _ h => h.elim
  have hl : lv_has ls 3 [(0, .int (zI (x))), (1, .int (zI (lo))), (2, .int (zI (hi)))] := hl
  refine lv_iload_n hx hb dX3_isIn_0 rfl (lv_at hl 0 rfl) ?_
  refine lv_iload_n hx hb dX3_isIn_1 rfl (lv_at hl 1 rfl) ?_
  refine z_icmp_lt (a := x) (b := lo) (tgt := 14) hx hb dX3_isIn_2 (by decide) (by omega) (by omega) (fun h_2 => ?_) (fun h_2 => ?_)
  · skip
    refine z_iconst hx hb dX3_isIn_14 ?_
    exact e_R (r' := 0) hx hb hr hlk (n_z (by first | exact bI_01 _ | (left; rfl) | (right; rfl) | omega)) (bI_f (by omega)) dX3_isIn_15
  · skip
    refine lv_iload_n hx hb dX3_isIn_5 rfl (lv_at hl 0 rfl) ?_
    refine lv_iload_n hx hb dX3_isIn_6 rfl (lv_at hl 2 rfl) ?_
    refine z_icmp_gt (a := x) (b := hi) (tgt := 14) hx hb dX3_isIn_7 (by decide) (by omega) (by omega) (fun h_7 => ?_) (fun h_7 => ?_)
    · skip
      refine z_iconst hx hb dX3_isIn_14 ?_
      exact e_R (r' := 0) hx hb hr hlk (n_z (by first | exact bI_01 _ | (left; rfl) | (right; rfl) | omega)) (bI_f (by omega)) dX3_isIn_15
    · skip
      refine z_iconst hx hb dX3_isIn_10 ?_
      refine lv_goto (tgt := 15) hx hb dX3_isIn_11 (by decide) ?_
      exact e_R (r' := 1) hx hb hr hlk (n_z (by first | exact bI_01 _ | (left; rfl) | (right; rfl) | omega)) (bI_t (by omega)) dX3_isIn_15
set_option maxHeartbeats 600000 in
theorem c_X3_isVoice (l : Launch) (G : zG) (ad : Nat → Nat) (F : Nat → Int) (A : Nat → Int → Int) (B : Int → Int → Int) (x : Int) (r1 : -2147483648 ≤ x ∧ x ≤ 2147483647) (hVM : MOK F A B) : MR l yX3_isVoice cX3_isVoice 2 (some .boolean) 1 22 G [.ref (ad 0), .int (zI (x))] (MP G ad F A B) (.int (zI (bI (0 ≤ x ∧ x ≤ F 4 - 1)))) := by
  refine mr_of hp_X3_isVoice (Nat.le_of_ble_eq_true rfl) ?_
  intro p env s m below meth c ls hB hP hl
  obtain ⟨hx, hb, hml, hr, hlk, hown, hts, hG⟩ := hB
  have hK := hG.1
  have hS : va_S (fun _ => False) s.heap s.heap [] := va_S.rf
  have hA : ∀ q : Nat, (fun _ : Nat => False) q → G.2.2 ≤ q := fun _ h => h.elim
  have hl : lv_has ls 2 [(0, .ref (ad 0)), (1, .int (zI (x)))] := hl
  have h4 := hVM.2.2.2.1
  refine lv_iload_n hx hb dX3_isVoice_0 rfl (lv_at hl 1 rfl) ?_
  refine z_iconst hx hb dX3_isVoice_1 ?_
  refine lv_aload_n hx hb dX3_isVoice_2 rfl (lv_at hl 0 rfl) ?_
  refine zm_get hx hb hK hts hown hP 4 (by decide) q_fl_RX3_40 (v := .int (zI (F 4))) rfl dX3_isVoice_3 ?_
  refine z_iconst hx hb dX3_isVoice_6 ?_
  refine z_isub (x := F 4) (y := 1) hx hb dX3_isVoice_7 ?_
  refine k_R (c_SR (As := [.int (zI (x)), .int (zI (0)), .int (zI ((F 4) - (1)))]) (rest := []) ⟨hx, hb, hml, hown, hts⟩ hG hS hA (c_X3_isIn l G x 0 ((F 4) - (1)) (show -2147483648 ≤ x ∧ x ≤ 2147483647 by omega) (show -2147483648 ≤ 0 ∧ 0 ≤ 2147483647 by omega) (show -2147483648 ≤ ((F 4) - (1)) ∧ ((F 4) - (1)) ≤ 2147483647 by omega)) ⟨q_ml_RX3_43, q_st_X3_isIn, q_ini_RX3, q_code_X3_isIn⟩ hs_X3_isIn trivial ⟨by decide, by decide⟩ ⟨Nat.zero_le _, Nat.zero_le _⟩ rfl hl.1 rfl (Nat.le_of_ble_eq_true rfl) dX3_isVoice_8) ?_
  exact e_R (r' := bI (0 ≤ x ∧ x ≤ ((F 4) - (1)))) hx hb hr hlk (n_z (by first | exact bI_01 _ | (left; rfl) | (right; rfl) | omega)) (by first | rfl | omega) dX3_isVoice_11
set_option maxHeartbeats 600000 in
theorem c_X3_isElement (l : Launch) (G : zG) (ad : Nat → Nat) (F : Nat → Int) (A : Nat → Int → Int) (B : Int → Int → Int) (x y : Int) (r1 : -2147483648 ≤ x ∧ x ≤ 2147483647) (r2 : -2147483648 ≤ y ∧ y ≤ 2147483647) (hVM : MOK F A B) : MR l yX3_isElement cX3_isElement 3 (some .boolean) 2 43 G [.ref (ad 0), .int (zI (x)), .int (zI (y))] (MP G ad F A B) (.int (zI (bI ((0 ≤ x ∧ x ≤ F 4 - 1) ∧ 0 ≤ y ∧ y ≤ A 0 x - 1)))) := by
  refine mr_of hp_X3_isElement (Nat.le_of_ble_eq_true rfl) ?_
  intro p env s m below meth c ls hB hP hl
  obtain ⟨hx, hb, hml, hr, hlk, hown, hts, hG⟩ := hB
  have hK := hG.1
  have hS : va_S (fun _ => False) s.heap s.heap [] := va_S.rf
  have hA : ∀ q : Nat, (fun _ : Nat => False) q → G.2.2 ≤ q := fun _ h => h.elim
  have hl : lv_has ls 3 [(0, .ref (ad 0)), (1, .int (zI (x))), (2, .int (zI (y)))] := hl
  have h4 := hVM.2.2.2.1
  refine lv_aload_n hx hb dX3_isElement_0 rfl (lv_at hl 0 rfl) ?_
  refine lv_iload_n hx hb dX3_isElement_1 rfl (lv_at hl 1 rfl) ?_
  refine k_R (c_VR (As := [.int (zI (x))]) (rest := []) ⟨hx, hb, hml, hown, hts⟩ hG hS hA (c_X3_isVoice l G ad F A B x (show -2147483648 ≤ x ∧ x ≤ 2147483647 by omega) hVM) ⟨q_ml_RX3_47, q_im_X3_isVoice, q_sel_X3_isVoice, q_ini_RX3, q_code_X3_isVoice⟩ hv_X3_isVoice (MP.rec hK hP) hP ⟨by decide, by decide⟩ ⟨Nat.zero_le _, Nat.zero_le _⟩ rfl hl.1 rfl (Nat.le_of_ble_eq_true rfl) dX3_isElement_2) ?_
  refine z_bif_eq (q := 0 ≤ x ∧ x ≤ (F 4) - 1) (tgt := 28) hx hb dX3_isElement_5 (by decide) (fun h_5 => ?_) (fun h_5 => ?_)
  · skip
    refine z_iconst hx hb dX3_isElement_28 ?_
    exact e_R (r' := 0) hx hb hr hlk (n_z (by first | exact bI_01 _ | (left; rfl) | (right; rfl) | omega)) (bI_f (by omega)) dX3_isElement_29
  · skip
    have hmn := hVM.many (v := x) (by omega)
    refine lv_iload_n hx hb dX3_isElement_8 rfl (lv_at hl 2 rfl) ?_
    refine z_iconst hx hb dX3_isElement_9 ?_
    refine lv_aload_n hx hb dX3_isElement_10 rfl (lv_at hl 0 rfl) ?_
    refine zm_get hx hb hK hts hown hP 5 (by decide) q_fl_RX3_16 (v := .ref (ad 1)) rfl dX3_isElement_11 ?_
    refine lv_iload_n hx hb dX3_isElement_14 rfl (lv_at hl 1 rfl) ?_
    refine zm_lA0 hx hb hK hP (i := x) (by omega) dX3_isElement_15 ?_
    refine z_iconst hx hb dX3_isElement_16 ?_
    refine z_isub (x := A 0 (x)) (y := 1) hx hb dX3_isElement_17 ?_
    refine k_R (c_SR (As := [.int (zI (y)), .int (zI (0)), .int (zI ((A 0 (x)) - (1)))]) (rest := []) ⟨hx, hb, hml, hown, hts⟩ hG hS hA (c_X3_isIn l G y 0 ((A 0 (x)) - (1)) (show -2147483648 ≤ y ∧ y ≤ 2147483647 by omega) (show -2147483648 ≤ 0 ∧ 0 ≤ 2147483647 by omega) (show -2147483648 ≤ ((A 0 (x)) - (1)) ∧ ((A 0 (x)) - (1)) ≤ 2147483647 by omega)) ⟨q_ml_RX3_43, q_st_X3_isIn, q_ini_RX3, q_code_X3_isIn⟩ hs_X3_isIn trivial ⟨by decide, by decide⟩ ⟨Nat.zero_le _, Nat.zero_le _⟩ rfl hl.1 rfl (Nat.le_of_ble_eq_true rfl) dX3_isElement_18) ?_
    refine z_bif_eq (q := 0 ≤ y ∧ y ≤ ((A 0 (x)) - (1))) (tgt := 28) hx hb dX3_isElement_21 (by decide) (fun h_21 => ?_) (fun h_21 => ?_)
    · skip
      refine z_iconst hx hb dX3_isElement_28 ?_
      exact e_R (r' := 0) hx hb hr hlk (n_z (by first | exact bI_01 _ | (left; rfl) | (right; rfl) | omega)) (bI_f (by omega)) dX3_isElement_29
    · skip
      refine z_iconst hx hb dX3_isElement_24 ?_
      refine lv_goto (tgt := 29) hx hb dX3_isElement_25 (by decide) ?_
      exact e_R (r' := 1) hx hb hr hlk (n_z (by first | exact bI_01 _ | (left; rfl) | (right; rfl) | omega)) (bI_t (by omega)) dX3_isElement_29
set_option maxHeartbeats 600000 in
theorem c_X3_get (l : Launch) (G : zG) (ad : Nat → Nat) (F : Nat → Int) (A : Nat → Int → Int) (B : Int → Int → Int) (v e w : Int) (hv : 0 ≤ v ∧ v < 4) (he : 0 ≤ 10 * e + w ∧ 10 * e + w < 2000) : MR l yX3_get cX3_get 4 (some .int) 0 0 G [.ref (ad 0), .int (zI (v)), .int (zI (e)), .int (zI (w))] (MP G ad F A B) (.int (zI (B v (10 * e + w)))) := by
  refine mr_of hp_X3_get (Nat.le_of_ble_eq_true rfl) ?_
  intro p env s m below meth c ls hB hP hl
  obtain ⟨hx, hb, hml, hr, hlk, hown, hts, hG⟩ := hB
  have hK := hG.1
  have hS : va_S (fun _ => False) s.heap s.heap [] := va_S.rf
  have hA : ∀ q : Nat, (fun _ : Nat => False) q → G.2.2 ≤ q := fun _ h => h.elim
  have hl : lv_has ls 4 [(0, .ref (ad 0)), (1, .int (zI (v))), (2, .int (zI (e))), (3, .int (zI (w)))] := hl
  refine lv_aload_n hx hb dX3_get_0 rfl (lv_at hl 0 rfl) ?_
  refine zm_get hx hb hK hts hown hP 6 (by decide) q_fl_RX3_22 (v := .ref (ad 2)) rfl dX3_get_1 ?_
  refine lv_iload_n hx hb dX3_get_4 rfl (lv_at hl 1 rfl) ?_
  refine zm_aB hx hb hK hP (i := v) (by omega) dX3_get_5 ?_
  refine z_bipush hx hb dX3_get_6 (by decide) ?_
  refine lv_iload_n hx hb dX3_get_8 rfl (lv_at hl 2 rfl) ?_
  refine z_imul (x := 10) (y := e) hx hb dX3_get_9 ?_
  refine lv_iload_n hx hb dX3_get_10 rfl (lv_at hl 3 rfl) ?_
  refine z_iadd (x := (10) * (e)) (y := w) hx hb dX3_get_11 ?_
  refine zm_lB hx hb hK hP (v := v) (by omega) (i := ((10) * (e)) + (w)) (by omega) dX3_get_12 ?_
  exact e_R (r' := B v (((10) * (e)) + (w))) hx hb hr hlk (n_i _) (by first | rfl | omega) dX3_get_13
set_option maxHeartbeats 600000 in
theorem c_X3_bar (l : Launch) (G : zG) (ad : Nat → Nat) (F : Nat → Int) (A : Nat → Int → Int) (B : Int → Int → Int) (hVM : MOK F A B) : MR l yX3_bar cX3_bar 1 (some .int) 0 0 G [.ref (ad 0)] (MP G ad F A B) (.int (zI (F 1 * 384 / F 2))) := by
  refine mr_of hp_X3_bar (Nat.le_of_ble_eq_true rfl) ?_
  intro p env s m below meth c ls hB hP hl
  obtain ⟨hx, hb, hml, hr, hlk, hown, hts, hG⟩ := hB
  have hK := hG.1
  have hS : va_S (fun _ => False) s.heap s.heap [] := va_S.rf
  have hA : ∀ q : Nat, (fun _ : Nat => False) q → G.2.2 ≤ q := fun _ h => h.elim
  have hl : lv_has ls 1 [(0, .ref (ad 0))] := hl
  have h1 := hVM.1
  have h2 := hVM.2.1
  refine lv_aload_n hx hb dX3_bar_0 rfl (lv_at hl 0 rfl) ?_
  refine zm_get hx hb hK hts hown hP 1 (by decide) q_fl_RX3_7 (v := .int (zI (F 1))) rfl dX3_bar_1 ?_
  refine z_sipush hx hb dX3_bar_4 (by decide) ?_
  refine z_imul (x := F 1) (y := 384) hx hb dX3_bar_7 ?_
  refine lv_aload_n hx hb dX3_bar_8 rfl (lv_at hl 0 rfl) ?_
  refine zm_get hx hb hK hts hown hP 2 (by decide) q_fl_RX3_13 (v := .int (zI (F 2))) rfl dX3_bar_9 ?_
  refine z_idiv hx hb dX3_bar_12 (by omega) (by omega) ?_
  exact e_R (r' := ((F 1) * (384)) / (F 2)) hx hb hr hlk (n_i _) (by first | rfl | omega) dX3_bar_13
set_option maxHeartbeats 600000 in
theorem c_X3_ticksOf (l : Launch) (G : zG)  (pa d : Int) (r1 : 1 ≤ pa ∧ pa ≤ 1000) (r2 : -2147483648 ≤ d ∧ d ≤ 2147483647) : MR l yX3_ticksOf cX3_ticksOf 3 (some .int) 0 0 G [.int (zI (pa)), .int (zI (d))] ((fun _ => True)) (.int (zI (tkO pa d))) := by
  refine mr_of hp_X3_ticksOf (Nat.le_of_ble_eq_true rfl) ?_
  intro p env s m below meth c ls hB hP hl
  obtain ⟨hx, hb, hml, hr, hlk, hown, hts, hG⟩ := hB
  have hK := hG.1
  have hS : va_S (fun _ => False) s.heap s.heap [] := va_S.rf
  have hA : ∀ q : Nat, (fun _ : Nat => False) q → G.2.2 ≤ q := fun _ h => h.elim
  have hl : lv_has ls 3 [(0, .int (zI (pa))), (1, .int (zI (d)))] := hl
  have e1 : 0 ≤ 384 / pa := Int.ediv_nonneg (by omega) (by omega)
  have e2 : 384 / pa ≤ 384 := Int.ediv_le_self _ (by omega)
  refine z_sipush hx hb dX3_ticksOf_0 (by decide) ?_
  refine lv_iload_n hx hb dX3_ticksOf_3 rfl (lv_at hl 0 rfl) ?_
  refine z_idiv hx hb dX3_ticksOf_4 (by omega) (by omega) ?_
  refine lv_istore_n (lv' := [(2, .int (zI ((384) / (pa)))), (0, .int (zI (pa))), (1, .int (zI (d)))]) hx hb dX3_ticksOf_5 rfl hl (by decide) rfl (fun ls hl => ?_)
  refine lv_iload_n hx hb dX3_ticksOf_6 rfl (lv_at hl 0 rfl) ?_
  refine lv_iload_n hx hb dX3_ticksOf_7 rfl (lv_at hl 2 rfl) ?_
  refine z_if_le (a := d) (tgt := 17) hx hb dX3_ticksOf_8 (by decide) (by omega) (fun h_8 => ?_) (fun h_8 => ?_)
  · skip
    refine z_iconst hx hb dX3_ticksOf_17 ?_
    refine z_iadd (x := (384) / (pa)) (y := 0) hx hb dX3_ticksOf_18 ?_
    refine lv_iload_n hx hb dX3_ticksOf_19 rfl (lv_at hl 2 rfl) ?_
    refine z_iconst hx hb dX3_ticksOf_20 ?_
    refine z_icmp_le (a := d) (b := 1) (tgt := 30) hx hb dX3_ticksOf_21 (by decide) (by omega) (by omega) (fun h_21 => ?_) (fun h_21 => ?_)
    · skip
      refine z_iconst hx hb dX3_ticksOf_30 ?_
      refine z_iadd (x := ((384) / (pa)) + (0)) (y := 0) hx hb dX3_ticksOf_31 ?_
      exact e_R (r' := (((384) / (pa)) + (0)) + (0)) hx hb hr hlk (n_i _) (by first | rfl | omega | (simp only [tkO]; (repeat' split) <;> omega)) dX3_ticksOf_32
    · skip
      refine lv_iload_n hx hb dX3_ticksOf_24 rfl (lv_at hl 0 rfl) ?_
      refine z_iconst hx hb dX3_ticksOf_25 ?_
      refine z_idiv hx hb dX3_ticksOf_26 (by omega) (by omega) ?_
      refine lv_goto (tgt := 31) hx hb dX3_ticksOf_27 (by decide) ?_
      refine z_iadd (x := ((384) / (pa)) + (0)) (y := ((384) / (pa)) / (4)) hx hb dX3_ticksOf_31 ?_
      exact e_R (r' := (((384) / (pa)) + (0)) + (((384) / (pa)) / (4))) hx hb hr hlk (n_i _) (by first | rfl | omega | (simp only [tkO]; (repeat' split) <;> omega)) dX3_ticksOf_32
  · skip
    refine lv_iload_n hx hb dX3_ticksOf_11 rfl (lv_at hl 0 rfl) ?_
    refine z_iconst hx hb dX3_ticksOf_12 ?_
    refine z_idiv hx hb dX3_ticksOf_13 (by omega) (by omega) ?_
    refine lv_goto (tgt := 18) hx hb dX3_ticksOf_14 (by decide) ?_
    refine z_iadd (x := (384) / (pa)) (y := ((384) / (pa)) / (2)) hx hb dX3_ticksOf_18 ?_
    refine lv_iload_n hx hb dX3_ticksOf_19 rfl (lv_at hl 2 rfl) ?_
    refine z_iconst hx hb dX3_ticksOf_20 ?_
    refine z_icmp_le (a := d) (b := 1) (tgt := 30) hx hb dX3_ticksOf_21 (by decide) (by omega) (by omega) (fun h_21 => ?_) (fun h_21 => ?_)
    · skip
      refine z_iconst hx hb dX3_ticksOf_30 ?_
      refine z_iadd (x := ((384) / (pa)) + (((384) / (pa)) / (2))) (y := 0) hx hb dX3_ticksOf_31 ?_
      exact e_R (r' := (((384) / (pa)) + (((384) / (pa)) / (2))) + (0)) hx hb hr hlk (n_i _) (by first | rfl | omega | (simp only [tkO]; (repeat' split) <;> omega)) dX3_ticksOf_32
    · skip
      refine lv_iload_n hx hb dX3_ticksOf_24 rfl (lv_at hl 0 rfl) ?_
      refine z_iconst hx hb dX3_ticksOf_25 ?_
      refine z_idiv hx hb dX3_ticksOf_26 (by omega) (by omega) ?_
      refine lv_goto (tgt := 31) hx hb dX3_ticksOf_27 (by decide) ?_
      refine z_iadd (x := ((384) / (pa)) + (((384) / (pa)) / (2))) (y := ((384) / (pa)) / (4)) hx hb dX3_ticksOf_31 ?_
      exact e_R (r' := (((384) / (pa)) + (((384) / (pa)) / (2))) + (((384) / (pa)) / (4))) hx hb hr hlk (n_i _) (by first | rfl | omega | (simp only [tkO]; (repeat' split) <;> omega)) dX3_ticksOf_32
set_option maxHeartbeats 600000 in
theorem c_X3_length (l : Launch) (G : zG) (ad : Nat → Nat) (F : Nat → Int) (A : Nat → Int → Int) (B : Int → Int → Int) (v e : Int) (hv : 0 ≤ v ∧ v < 4) (he : 0 ≤ e ∧ e < A 0 v) (hVM : MOK F A B) : MR l yX3_length cX3_length 3 (some .int) 1 23 G [.ref (ad 0), .int (zI (v)), .int (zI (e))] (MP G ad F A B) (.int (zI (mTk B v e))) := by
  refine mr_of hp_X3_length (Nat.le_of_ble_eq_true rfl) ?_
  intro p env s m below meth c ls hB hP hl
  obtain ⟨hx, hb, hml, hr, hlk, hown, hts, hG⟩ := hB
  have hK := hG.1
  have hS : va_S (fun _ => False) s.heap s.heap [] := va_S.rf
  have hA : ∀ q : Nat, (fun _ : Nat => False) q → G.2.2 ≤ q := fun _ h => h.elim
  have hl : lv_has ls 3 [(0, .ref (ad 0)), (1, .int (zI (v))), (2, .int (zI (e)))] := hl
  have hel := hVM.el hv he
  have hmn := hVM.many hv
  refine lv_aload_n hx hb dX3_length_0 rfl (lv_at hl 0 rfl) ?_
  refine lv_iload_n hx hb dX3_length_1 rfl (lv_at hl 1 rfl) ?_
  refine lv_iload_n hx hb dX3_length_2 rfl (lv_at hl 2 rfl) ?_
  refine z_iconst hx hb dX3_length_3 ?_
  refine k_R (c_VR (As := [.int (zI (v)), .int (zI (e)), .int (zI (0))]) (rest := []) ⟨hx, hb, hml, hown, hts⟩ hG hS hA (c_X3_get l G ad F A B v e 0 (show 0 ≤ v ∧ v < 4 by omega) (show 0 ≤ 10 * e + 0 ∧ 10 * e + 0 < 2000 by omega)) ⟨q_ml_RX3_57, q_im_X3_get, q_sel_X3_get, q_ini_RX3, q_code_X3_get⟩ hv_X3_get (MP.rec hK hP) hP ⟨by decide, by decide⟩ ⟨Nat.zero_le _, Nat.zero_le _⟩ rfl hl.1 rfl (Nat.le_of_ble_eq_true rfl) dX3_length_4) ?_
  refine lv_aload_n hx hb dX3_length_7 rfl (lv_at hl 0 rfl) ?_
  refine lv_iload_n hx hb dX3_length_8 rfl (lv_at hl 1 rfl) ?_
  refine lv_iload_n hx hb dX3_length_9 rfl (lv_at hl 2 rfl) ?_
  refine z_iconst hx hb dX3_length_10 ?_
  refine k_R (c_VR (As := [.int (zI (v)), .int (zI (e)), .int (zI (1))]) (rest := [.int (zI (B v (10 * e + 0)))]) ⟨hx, hb, hml, hown, hts⟩ hG hS hA (c_X3_get l G ad F A B v e 1 (show 0 ≤ v ∧ v < 4 by omega) (show 0 ≤ 10 * e + 1 ∧ 10 * e + 1 < 2000 by omega)) ⟨q_ml_RX3_57, q_im_X3_get, q_sel_X3_get, q_ini_RX3, q_code_X3_get⟩ hv_X3_get (MP.rec hK hP) hP ⟨by decide, by decide⟩ ⟨Nat.zero_le _, Nat.zero_le _⟩ rfl hl.1 rfl (Nat.le_of_ble_eq_true rfl) dX3_length_11) ?_
  refine k_R (c_SR (As := [.int (zI (B v (10 * e + 0))), .int (zI (B v (10 * e + 1)))]) (rest := []) ⟨hx, hb, hml, hown, hts⟩ hG hS hA (c_X3_ticksOf l G (B v (10 * e + 0)) (B v (10 * e + 1)) (show 1 ≤ (B v (10 * e + 0)) ∧ (B v (10 * e + 0)) ≤ 1000 by omega) (show -2147483648 ≤ (B v (10 * e + 1)) ∧ (B v (10 * e + 1)) ≤ 2147483647 by omega)) ⟨q_ml_RX3_61, q_st_X3_ticksOf, q_ini_RX3, q_code_X3_ticksOf⟩ hs_X3_ticksOf trivial ⟨by decide, by decide⟩ ⟨Nat.zero_le _, Nat.zero_le _⟩ rfl hl.1 rfl (Nat.le_of_ble_eq_true rfl) dX3_length_14) ?_
  exact e_R (r' := tkO (B v (10 * e + 0)) (B v (10 * e + 1))) hx hb hr hlk (n_i _) (by first | rfl | omega) dX3_length_17
set_option maxHeartbeats 600000 in
theorem c_X3_toneOf (l : Launch) (G : zG)  (st sg oc : Int) (hst : 0 ≤ st ∧ st < 7) : MR l yX3_toneOf cX3_toneOf 3 (some .int) 0 0 G [.int (zI (st)), .int (zI (sg)), .int (zI (oc))] ((fun _ => True)) (.int (zI (toneF st sg oc))) := by
  refine mr_of hp_X3_toneOf (Nat.le_of_ble_eq_true rfl) ?_
  intro p env s m below meth c ls hB hP hl
  obtain ⟨hx, hb, hml, hr, hlk, hown, hts, hG⟩ := hB
  have hK := hG.1
  have hS : va_S (fun _ => False) s.heap s.heap [] := va_S.rf
  have hA : ∀ q : Nat, (fun _ : Nat => False) q → G.2.2 ≤ q := fun _ h => h.elim
  have hl : lv_has ls 3 [(0, .int (zI (st))), (1, .int (zI (sg))), (2, .int (zI (oc)))] := hl
  refine z_bipush hx hb dX3_toneOf_0 (by decide) ?_
  refine lv_iload_n hx hb dX3_toneOf_2 rfl (lv_at hl 2 rfl) ?_
  refine z_imul (x := 12) (y := oc) hx hb dX3_toneOf_3 ?_
  refine z_gets hx hb hG hts hS hA (own := RX3) (C := "ScorePressModel") (n := "TONES") (vs := [0, 2, 4, 5, 7, 9, 11]) (index := 68) (by decide) hown q_fl_RX3_68 dX3_toneOf_4 (fun t_1 ht_1 => ?_)
  refine lv_iload_n hx hb dX3_toneOf_7 rfl (lv_at hl 0 rfl) ?_
  refine z_tld (vs := [0, 2, 4, 5, 7, 9, 11]) hx hb ht_1 hS (i := st) (by have h9 : ([0, 2, 4, 5, 7, 9, 11] : List Int).length = 7 := rfl; omega) (by decide) dX3_toneOf_8 ?_
  refine z_iadd (x := (12) * (oc)) (y := stepT (st)) hx hb dX3_toneOf_9 ?_
  refine lv_iload_n hx hb dX3_toneOf_10 rfl (lv_at hl 1 rfl) ?_
  refine z_iadd (x := ((12) * (oc)) + (stepT (st))) (y := sg) hx hb dX3_toneOf_11 ?_
  exact e_R (r' := (((12) * (oc)) + (stepT (st))) + (sg)) hx hb hr hlk (n_i _) (by first | rfl | omega) dX3_toneOf_12
set_option maxHeartbeats 600000 in
theorem c_X3_tone (l : Launch) (G : zG) (ad : Nat → Nat) (F : Nat → Int) (A : Nat → Int → Int) (B : Int → Int → Int) (v e : Int) (hv : 0 ≤ v ∧ v < 4) (he : 0 ≤ e ∧ e < A 0 v) (hVM : MOK F A B) : MR l yX3_tone cX3_tone 3 (some .int) 1 23 G [.ref (ad 0), .int (zI (v)), .int (zI (e))] (MP G ad F A B) (.int (zI (mTn B v e))) := by
  refine mr_of hp_X3_tone (Nat.le_of_ble_eq_true rfl) ?_
  intro p env s m below meth c ls hB hP hl
  obtain ⟨hx, hb, hml, hr, hlk, hown, hts, hG⟩ := hB
  have hK := hG.1
  have hS : va_S (fun _ => False) s.heap s.heap [] := va_S.rf
  have hA : ∀ q : Nat, (fun _ : Nat => False) q → G.2.2 ≤ q := fun _ h => h.elim
  have hl : lv_has ls 3 [(0, .ref (ad 0)), (1, .int (zI (v))), (2, .int (zI (e)))] := hl
  have hel := hVM.el hv he
  have hmn := hVM.many hv
  refine lv_aload_n hx hb dX3_tone_0 rfl (lv_at hl 0 rfl) ?_
  refine lv_iload_n hx hb dX3_tone_1 rfl (lv_at hl 1 rfl) ?_
  refine lv_iload_n hx hb dX3_tone_2 rfl (lv_at hl 2 rfl) ?_
  refine z_iconst hx hb dX3_tone_3 ?_
  refine k_R (c_VR (As := [.int (zI (v)), .int (zI (e)), .int (zI (2))]) (rest := []) ⟨hx, hb, hml, hown, hts⟩ hG hS hA (c_X3_get l G ad F A B v e 2 (show 0 ≤ v ∧ v < 4 by omega) (show 0 ≤ 10 * e + 2 ∧ 10 * e + 2 < 2000 by omega)) ⟨q_ml_RX3_57, q_im_X3_get, q_sel_X3_get, q_ini_RX3, q_code_X3_get⟩ hv_X3_get (MP.rec hK hP) hP ⟨by decide, by decide⟩ ⟨Nat.zero_le _, Nat.zero_le _⟩ rfl hl.1 rfl (Nat.le_of_ble_eq_true rfl) dX3_tone_4) ?_
  refine z_if_ne (a := B v (10 * e + 2)) (tgt := 14) hx hb dX3_tone_7 (by decide) (by omega) (fun h_7 => ?_) (fun h_7 => ?_)
  · skip
    refine lv_aload_n hx hb dX3_tone_14 rfl (lv_at hl 0 rfl) ?_
    refine lv_iload_n hx hb dX3_tone_15 rfl (lv_at hl 1 rfl) ?_
    refine lv_iload_n hx hb dX3_tone_16 rfl (lv_at hl 2 rfl) ?_
    refine z_iconst hx hb dX3_tone_17 ?_
    refine k_R (c_VR (As := [.int (zI (v)), .int (zI (e)), .int (zI (3))]) (rest := []) ⟨hx, hb, hml, hown, hts⟩ hG hS hA (c_X3_get l G ad F A B v e 3 (show 0 ≤ v ∧ v < 4 by omega) (show 0 ≤ 10 * e + 3 ∧ 10 * e + 3 < 2000 by omega)) ⟨q_ml_RX3_57, q_im_X3_get, q_sel_X3_get, q_ini_RX3, q_code_X3_get⟩ hv_X3_get (MP.rec hK hP) hP ⟨by decide, by decide⟩ ⟨Nat.zero_le _, Nat.zero_le _⟩ rfl hl.1 rfl (Nat.le_of_ble_eq_true rfl) dX3_tone_18) ?_
    refine lv_aload_n hx hb dX3_tone_21 rfl (lv_at hl 0 rfl) ?_
    refine lv_iload_n hx hb dX3_tone_22 rfl (lv_at hl 1 rfl) ?_
    refine lv_iload_n hx hb dX3_tone_23 rfl (lv_at hl 2 rfl) ?_
    refine z_iconst hx hb dX3_tone_24 ?_
    refine k_R (c_VR (As := [.int (zI (v)), .int (zI (e)), .int (zI (4))]) (rest := [.int (zI (B v (10 * e + 3)))]) ⟨hx, hb, hml, hown, hts⟩ hG hS hA (c_X3_get l G ad F A B v e 4 (show 0 ≤ v ∧ v < 4 by omega) (show 0 ≤ 10 * e + 4 ∧ 10 * e + 4 < 2000 by omega)) ⟨q_ml_RX3_57, q_im_X3_get, q_sel_X3_get, q_ini_RX3, q_code_X3_get⟩ hv_X3_get (MP.rec hK hP) hP ⟨by decide, by decide⟩ ⟨Nat.zero_le _, Nat.zero_le _⟩ rfl hl.1 rfl (Nat.le_of_ble_eq_true rfl) dX3_tone_25) ?_
    refine lv_aload_n hx hb dX3_tone_28 rfl (lv_at hl 0 rfl) ?_
    refine lv_iload_n hx hb dX3_tone_29 rfl (lv_at hl 1 rfl) ?_
    refine lv_iload_n hx hb dX3_tone_30 rfl (lv_at hl 2 rfl) ?_
    refine z_iconst hx hb dX3_tone_31 ?_
    refine k_R (c_VR (As := [.int (zI (v)), .int (zI (e)), .int (zI (5))]) (rest := [.int (zI (B v (10 * e + 4))), .int (zI (B v (10 * e + 3)))]) ⟨hx, hb, hml, hown, hts⟩ hG hS hA (c_X3_get l G ad F A B v e 5 (show 0 ≤ v ∧ v < 4 by omega) (show 0 ≤ 10 * e + 5 ∧ 10 * e + 5 < 2000 by omega)) ⟨q_ml_RX3_57, q_im_X3_get, q_sel_X3_get, q_ini_RX3, q_code_X3_get⟩ hv_X3_get (MP.rec hK hP) hP ⟨by decide, by decide⟩ ⟨Nat.zero_le _, Nat.zero_le _⟩ rfl hl.1 rfl (Nat.le_of_ble_eq_true rfl) dX3_tone_32) ?_
    refine k_R (c_SR (As := [.int (zI (B v (10 * e + 3))), .int (zI (B v (10 * e + 4))), .int (zI (B v (10 * e + 5)))]) (rest := []) ⟨hx, hb, hml, hown, hts⟩ hG hS hA (c_X3_toneOf l G (B v (10 * e + 3)) (B v (10 * e + 4)) (B v (10 * e + 5)) (show 0 ≤ (B v (10 * e + 3)) ∧ (B v (10 * e + 3)) < 7 by omega)) ⟨q_ml_RX3_65, q_st_X3_toneOf, q_ini_RX3, q_code_X3_toneOf⟩ hs_X3_toneOf trivial ⟨by decide, by decide⟩ ⟨Nat.zero_le _, Nat.zero_le _⟩ rfl hl.1 rfl (Nat.le_of_ble_eq_true rfl) dX3_tone_35) ?_
    exact e_R (r' := toneF (B v (10 * e + 3)) (B v (10 * e + 4)) (B v (10 * e + 5))) hx hb hr hlk (n_i _) (by unfold mTn; first | rw [if_pos (by omega)] | rw [if_neg (by omega)]) dX3_tone_38
  · skip
    refine z_iconst hx hb dX3_tone_10 ?_
    refine lv_goto (tgt := 38) hx hb dX3_tone_11 (by decide) ?_
    exact e_R (r' := -1) hx hb hr hlk (n_i _) (by unfold mTn; first | rw [if_pos (by omega)] | rw [if_neg (by omega)]) dX3_tone_38
set_option maxHeartbeats 600000 in
theorem c_X3_isPitch (l : Launch) (G : zG)  (st sg oc : Int) (r1 : -2147483648 ≤ st ∧ st ≤ 2147483647) (r2 : -2147483648 ≤ sg ∧ sg ≤ 2147483647) (r3 : -2147483648 ≤ oc ∧ oc ≤ 2147483647) : MR l yX3_isPitch cX3_isPitch 3 (some .boolean) 1 22 G [.int (zI (st)), .int (zI (sg)), .int (zI (oc))] ((fun _ => True)) (.int (zI (bI (0 ≤ st ∧ st < 7 ∧ 0 ≤ oc ∧ oc < 9 ∧ -2 ≤ sg ∧ sg ≤ 2 ∧ 0 ≤ toneF st sg oc)))) := by
  refine mr_of hp_X3_isPitch (Nat.le_of_ble_eq_true rfl) ?_
  intro p env s m below meth c ls hB hP hl
  obtain ⟨hx, hb, hml, hr, hlk, hown, hts, hG⟩ := hB
  have hK := hG.1
  have hS : va_S (fun _ => False) s.heap s.heap [] := va_S.rf
  have hA : ∀ q : Nat, (fun _ : Nat => False) q → G.2.2 ≤ q := fun _ h => h.elim
  have hl : lv_has ls 3 [(0, .int (zI (st))), (1, .int (zI (sg))), (2, .int (zI (oc)))] := hl
  refine lv_iload_n hx hb dX3_isPitch_0 rfl (lv_at hl 0 rfl) ?_
  refine z_iconst hx hb dX3_isPitch_1 ?_
  refine z_bipush hx hb dX3_isPitch_2 (by decide) ?_
  refine k_R (c_SR (As := [.int (zI (st)), .int (zI (0)), .int (zI (6))]) (rest := []) ⟨hx, hb, hml, hown, hts⟩ hG hS hA (c_X3_isIn l G st 0 6 (show -2147483648 ≤ st ∧ st ≤ 2147483647 by omega) (show -2147483648 ≤ 0 ∧ 0 ≤ 2147483647 by omega) (show -2147483648 ≤ 6 ∧ 6 ≤ 2147483647 by omega)) ⟨q_ml_RX3_43, q_st_X3_isIn, q_ini_RX3, q_code_X3_isIn⟩ hs_X3_isIn trivial ⟨by decide, by decide⟩ ⟨Nat.zero_le _, Nat.zero_le _⟩ rfl hl.1 rfl (Nat.le_of_ble_eq_true rfl) dX3_isPitch_4) ?_
  refine z_bif_eq (q := 0 ≤ st ∧ st ≤ 6) (tgt := 43) hx hb dX3_isPitch_7 (by decide) (fun h_7 => ?_) (fun h_7 => ?_)
  · skip
    refine z_iconst hx hb dX3_isPitch_43 ?_
    exact e_R (r' := 0) hx hb hr hlk (n_z (by first | exact bI_01 _ | (left; rfl) | (right; rfl) | omega)) (bI_f (by omega)) dX3_isPitch_44
  · skip
    refine lv_iload_n hx hb dX3_isPitch_10 rfl (lv_at hl 1 rfl) ?_
    refine z_bipush hx hb dX3_isPitch_11 (by decide) ?_
    refine z_iconst hx hb dX3_isPitch_13 ?_
    refine k_R (c_SR (As := [.int (zI (sg)), .int (zI (-2)), .int (zI (2))]) (rest := []) ⟨hx, hb, hml, hown, hts⟩ hG hS hA (c_X3_isIn l G sg (-2) 2 (show -2147483648 ≤ sg ∧ sg ≤ 2147483647 by omega) (show -2147483648 ≤ (-2) ∧ (-2) ≤ 2147483647 by omega) (show -2147483648 ≤ 2 ∧ 2 ≤ 2147483647 by omega)) ⟨q_ml_RX3_43, q_st_X3_isIn, q_ini_RX3, q_code_X3_isIn⟩ hs_X3_isIn trivial ⟨by decide, by decide⟩ ⟨Nat.zero_le _, Nat.zero_le _⟩ rfl hl.1 rfl (Nat.le_of_ble_eq_true rfl) dX3_isPitch_14) ?_
    refine z_bif_eq (q := (-2) ≤ sg ∧ sg ≤ 2) (tgt := 43) hx hb dX3_isPitch_17 (by decide) (fun h_17 => ?_) (fun h_17 => ?_)
    · skip
      refine z_iconst hx hb dX3_isPitch_43 ?_
      exact e_R (r' := 0) hx hb hr hlk (n_z (by first | exact bI_01 _ | (left; rfl) | (right; rfl) | omega)) (bI_f (by omega)) dX3_isPitch_44
    · skip
      refine lv_iload_n hx hb dX3_isPitch_20 rfl (lv_at hl 2 rfl) ?_
      refine z_iconst hx hb dX3_isPitch_21 ?_
      refine z_bipush hx hb dX3_isPitch_22 (by decide) ?_
      refine k_R (c_SR (As := [.int (zI (oc)), .int (zI (0)), .int (zI (8))]) (rest := []) ⟨hx, hb, hml, hown, hts⟩ hG hS hA (c_X3_isIn l G oc 0 8 (show -2147483648 ≤ oc ∧ oc ≤ 2147483647 by omega) (show -2147483648 ≤ 0 ∧ 0 ≤ 2147483647 by omega) (show -2147483648 ≤ 8 ∧ 8 ≤ 2147483647 by omega)) ⟨q_ml_RX3_43, q_st_X3_isIn, q_ini_RX3, q_code_X3_isIn⟩ hs_X3_isIn trivial ⟨by decide, by decide⟩ ⟨Nat.zero_le _, Nat.zero_le _⟩ rfl hl.1 rfl (Nat.le_of_ble_eq_true rfl) dX3_isPitch_24) ?_
      refine z_bif_eq (q := 0 ≤ oc ∧ oc ≤ 8) (tgt := 43) hx hb dX3_isPitch_27 (by decide) (fun h_27 => ?_) (fun h_27 => ?_)
      · skip
        refine z_iconst hx hb dX3_isPitch_43 ?_
        exact e_R (r' := 0) hx hb hr hlk (n_z (by first | exact bI_01 _ | (left; rfl) | (right; rfl) | omega)) (bI_f (by omega)) dX3_isPitch_44
      · skip
        refine lv_iload_n hx hb dX3_isPitch_30 rfl (lv_at hl 0 rfl) ?_
        refine lv_iload_n hx hb dX3_isPitch_31 rfl (lv_at hl 1 rfl) ?_
        refine lv_iload_n hx hb dX3_isPitch_32 rfl (lv_at hl 2 rfl) ?_
        refine k_R (c_SR (As := [.int (zI (st)), .int (zI (sg)), .int (zI (oc))]) (rest := []) ⟨hx, hb, hml, hown, hts⟩ hG hS hA (c_X3_toneOf l G st sg oc (show 0 ≤ st ∧ st < 7 by omega)) ⟨q_ml_RX3_65, q_st_X3_toneOf, q_ini_RX3, q_code_X3_toneOf⟩ hs_X3_toneOf trivial ⟨by decide, by decide⟩ ⟨Nat.zero_le _, Nat.zero_le _⟩ rfl hl.1 rfl (Nat.le_of_ble_eq_true rfl) dX3_isPitch_33) ?_
        have h9 := stepT_rng (k := st) (by omega)
        have h8 : toneF st sg oc = 12 * oc + stepT st + sg := rfl
        refine z_if_lt (a := toneF st sg oc) (tgt := 43) hx hb dX3_isPitch_36 (by decide) (by omega) (fun h_36 => ?_) (fun h_36 => ?_)
        · skip
          refine z_iconst hx hb dX3_isPitch_43 ?_
          exact e_R (r' := 0) hx hb hr hlk (n_z (by first | exact bI_01 _ | (left; rfl) | (right; rfl) | omega)) (bI_f (by omega)) dX3_isPitch_44
        · skip
          refine z_iconst hx hb dX3_isPitch_39 ?_
          refine lv_goto (tgt := 44) hx hb dX3_isPitch_40 (by decide) ?_
          exact e_R (r' := 1) hx hb hr hlk (n_z (by first | exact bI_01 _ | (left; rfl) | (right; rfl) | omega)) (bI_t (by omega)) dX3_isPitch_44
