set_option maxHeartbeats 600000 in
theorem c_X3_isJoined (l : Launch) (G : zG) (ad : Nat → Nat) (F : Nat → Int) (A : Nat → Int → Int) (B : Int → Int → Int) (v e : Int) (hv : 0 ≤ v ∧ v < 4) (he : -1 ≤ e ∧ e < 200) (hVM : MOK F A B) : MR l yX3_isJoined cX3_isJoined 3 (some .boolean) 2 45 G [.ref (ad 0), .int (zI (v)), .int (zI (e))] (MP G ad F A B) (.int (zI (bI (0 ≤ e ∧ e + 1 < A 0 v ∧ B v (10 * e + 6) = 1 ∧ ¬ mTn B v e = -1 ∧ mTn B v e = mTn B v (e + 1))))) := by
  refine mr_of hp_X3_isJoined (Nat.le_of_ble_eq_true rfl) ?_
  intro p env s m below meth c ls hB hP hl
  obtain ⟨hx, hb, hml, hr, hlk, hown, hts, hG⟩ := hB
  have hK := hG.1
  have hS : va_S (fun _ => False) s.heap s.heap [] := va_S.rf
  have hA : ∀ q : Nat, (fun _ : Nat => False) q → G.2.2 ≤ q := fun _ h => h.elim
  have hl : lv_has ls 3 [(0, .ref (ad 0)), (1, .int (zI (v))), (2, .int (zI (e)))] := hl
  have hmn := hVM.many hv
  refine lv_iload_n hx hb dX3_isJoined_0 rfl (lv_at hl 2 rfl) ?_
  refine z_if_lt (a := e) (tgt := 59) hx hb dX3_isJoined_1 (by decide) (by omega) (fun h_1 => ?_) (fun h_1 => ?_)
  · skip
    refine z_iconst hx hb dX3_isJoined_59 ?_
    exact e_R (r' := 0) hx hb hr hlk (n_z (by first | exact bI_01 _ | (left; rfl) | (right; rfl) | omega)) (bI_f (by omega)) dX3_isJoined_60
  · skip
    refine lv_iload_n hx hb dX3_isJoined_4 rfl (lv_at hl 2 rfl) ?_
    refine z_iconst hx hb dX3_isJoined_5 ?_
    refine z_iadd (x := e) (y := 1) hx hb dX3_isJoined_6 ?_
    refine lv_aload_n hx hb dX3_isJoined_7 rfl (lv_at hl 0 rfl) ?_
    refine zm_get hx hb hK hts hown hP 5 (by decide) q_fl_RX3_16 (v := .ref (ad 1)) rfl dX3_isJoined_8 ?_
    refine lv_iload_n hx hb dX3_isJoined_11 rfl (lv_at hl 1 rfl) ?_
    refine zm_lA0 hx hb hK hP (i := v) (by omega) dX3_isJoined_12 ?_
    refine z_icmp_ge (a := (e) + (1)) (b := A 0 (v)) (tgt := 59) hx hb dX3_isJoined_13 (by decide) (by omega) (by omega) (fun h_13 => ?_) (fun h_13 => ?_)
    · skip
      refine z_iconst hx hb dX3_isJoined_59 ?_
      exact e_R (r' := 0) hx hb hr hlk (n_z (by first | exact bI_01 _ | (left; rfl) | (right; rfl) | omega)) (bI_f (by omega)) dX3_isJoined_60
    · skip
      have hel := hVM.el hv (e := e) (by omega)
      have hel2 := hVM.el hv (e := e + 1) (by omega)
      have ht1 := mTn_rng hVM hv (e := e) (by omega)
      have ht2 := mTn_rng hVM hv (e := e + 1) (by omega)
      refine lv_aload_n hx hb dX3_isJoined_16 rfl (lv_at hl 0 rfl) ?_
      refine lv_iload_n hx hb dX3_isJoined_17 rfl (lv_at hl 1 rfl) ?_
      refine lv_iload_n hx hb dX3_isJoined_18 rfl (lv_at hl 2 rfl) ?_
      refine z_bipush hx hb dX3_isJoined_19 (by decide) ?_
      refine k_R (c_VR (As := [.int (zI (v)), .int (zI (e)), .int (zI (6))]) (rest := []) ⟨hx, hb, hml, hown, hts⟩ hG hS hA (c_X3_get l G ad F A B v e 6 (show 0 ≤ v ∧ v < 4 by omega) (show 0 ≤ 10 * e + 6 ∧ 10 * e + 6 < 2000 by omega)) ⟨q_ml_RX3_57, q_im_X3_get, q_sel_X3_get, q_ini_RX3, q_code_X3_get⟩ hv_X3_get (MP.rec hK hP) hP ⟨by decide, by decide⟩ ⟨Nat.zero_le _, Nat.zero_le _⟩ rfl hl.1 rfl (Nat.le_of_ble_eq_true rfl) dX3_isJoined_21) ?_
      refine z_iconst hx hb dX3_isJoined_24 ?_
      refine z_icmp_ne (a := B v (10 * e + 6)) (b := 1) (tgt := 59) hx hb dX3_isJoined_25 (by decide) (by omega) (by omega) (fun h_25 => ?_) (fun h_25 => ?_)
      · skip
        refine z_iconst hx hb dX3_isJoined_59 ?_
        exact e_R (r' := 0) hx hb hr hlk (n_z (by first | exact bI_01 _ | (left; rfl) | (right; rfl) | omega)) (bI_f (by omega)) dX3_isJoined_60
      · skip
        refine lv_aload_n hx hb dX3_isJoined_28 rfl (lv_at hl 0 rfl) ?_
        refine lv_iload_n hx hb dX3_isJoined_29 rfl (lv_at hl 1 rfl) ?_
        refine lv_iload_n hx hb dX3_isJoined_30 rfl (lv_at hl 2 rfl) ?_
        refine k_R (c_VR (As := [.int (zI (v)), .int (zI (e))]) (rest := []) ⟨hx, hb, hml, hown, hts⟩ hG hS hA (c_X3_tone l G ad F A B v e (show 0 ≤ v ∧ v < 4 by omega) (show 0 ≤ e ∧ e < A 0 v by omega) hVM) ⟨q_ml_RX3_133, q_im_X3_tone, q_sel_X3_tone, q_ini_RX3, q_code_X3_tone⟩ hv_X3_tone (MP.rec hK hP) hP ⟨by decide, by decide⟩ ⟨Nat.zero_le _, Nat.zero_le _⟩ rfl hl.1 rfl (Nat.le_of_ble_eq_true rfl) dX3_isJoined_31) ?_
        refine z_iconst hx hb dX3_isJoined_34 ?_
        refine z_icmp_eq (a := mTn B v e) (b := -1) (tgt := 59) hx hb dX3_isJoined_35 (by decide) (by omega) (by omega) (fun h_35 => ?_) (fun h_35 => ?_)
        · skip
          refine z_iconst hx hb dX3_isJoined_59 ?_
          exact e_R (r' := 0) hx hb hr hlk (n_z (by first | exact bI_01 _ | (left; rfl) | (right; rfl) | omega)) (bI_f (by omega)) dX3_isJoined_60
        · skip
          refine lv_aload_n hx hb dX3_isJoined_38 rfl (lv_at hl 0 rfl) ?_
          refine lv_iload_n hx hb dX3_isJoined_39 rfl (lv_at hl 1 rfl) ?_
          refine lv_iload_n hx hb dX3_isJoined_40 rfl (lv_at hl 2 rfl) ?_
          refine k_R (c_VR (As := [.int (zI (v)), .int (zI (e))]) (rest := []) ⟨hx, hb, hml, hown, hts⟩ hG hS hA (c_X3_tone l G ad F A B v e (show 0 ≤ v ∧ v < 4 by omega) (show 0 ≤ e ∧ e < A 0 v by omega) hVM) ⟨q_ml_RX3_133, q_im_X3_tone, q_sel_X3_tone, q_ini_RX3, q_code_X3_tone⟩ hv_X3_tone (MP.rec hK hP) hP ⟨by decide, by decide⟩ ⟨Nat.zero_le _, Nat.zero_le _⟩ rfl hl.1 rfl (Nat.le_of_ble_eq_true rfl) dX3_isJoined_41) ?_
          refine lv_aload_n hx hb dX3_isJoined_44 rfl (lv_at hl 0 rfl) ?_
          refine lv_iload_n hx hb dX3_isJoined_45 rfl (lv_at hl 1 rfl) ?_
          refine lv_iload_n hx hb dX3_isJoined_46 rfl (lv_at hl 2 rfl) ?_
          refine z_iconst hx hb dX3_isJoined_47 ?_
          refine z_iadd (x := e) (y := 1) hx hb dX3_isJoined_48 ?_
          refine k_R (c_VR (As := [.int (zI (v)), .int (zI ((e) + (1)))]) (rest := [.int (zI (mTn B v e))]) ⟨hx, hb, hml, hown, hts⟩ hG hS hA (c_X3_tone l G ad F A B v ((e) + (1)) (show 0 ≤ v ∧ v < 4 by omega) (show 0 ≤ ((e) + (1)) ∧ ((e) + (1)) < A 0 v by omega) hVM) ⟨q_ml_RX3_133, q_im_X3_tone, q_sel_X3_tone, q_ini_RX3, q_code_X3_tone⟩ hv_X3_tone (MP.rec hK hP) hP ⟨by decide, by decide⟩ ⟨Nat.zero_le _, Nat.zero_le _⟩ rfl hl.1 rfl (Nat.le_of_ble_eq_true rfl) dX3_isJoined_49) ?_
          refine z_icmp_ne (a := mTn B v e) (b := mTn B v ((e) + (1))) (tgt := 59) hx hb dX3_isJoined_52 (by decide) (by omega) (by omega) (fun h_52 => ?_) (fun h_52 => ?_)
          · skip
            refine z_iconst hx hb dX3_isJoined_59 ?_
            exact e_R (r' := 0) hx hb hr hlk (n_z (by first | exact bI_01 _ | (left; rfl) | (right; rfl) | omega)) (bI_f (by omega)) dX3_isJoined_60
          · skip
            refine z_iconst hx hb dX3_isJoined_55 ?_
            refine lv_goto (tgt := 60) hx hb dX3_isJoined_56 (by decide) ?_
            exact e_R (r' := 1) hx hb hr hlk (n_z (by first | exact bI_01 _ | (left; rfl) | (right; rfl) | omega)) (bI_t (by omega)) dX3_isJoined_60
set_option maxHeartbeats 600000 in
theorem c_X3_canBeam (l : Launch) (G : zG) (ad : Nat → Nat) (F : Nat → Int) (A : Nat → Int → Int) (B : Int → Int → Int) (v e : Int) (hv : 0 ≤ v ∧ v < 4) (he : 0 ≤ e ∧ e < A 0 v) (hVM : MOK F A B) : MR l yX3_canBeam cX3_canBeam 3 (some .boolean) 1 23 G [.ref (ad 0), .int (zI (v)), .int (zI (e))] (MP G ad F A B) (.int (zI (bI (B v (10 * e + 2) = 1 ∧ 8 ≤ B v (10 * e + 0))))) := by
  refine mr_of hp_X3_canBeam (Nat.le_of_ble_eq_true rfl) ?_
  intro p env s m below meth c ls hB hP hl
  obtain ⟨hx, hb, hml, hr, hlk, hown, hts, hG⟩ := hB
  have hK := hG.1
  have hS : va_S (fun _ => False) s.heap s.heap [] := va_S.rf
  have hA : ∀ q : Nat, (fun _ : Nat => False) q → G.2.2 ≤ q := fun _ h => h.elim
  have hl : lv_has ls 3 [(0, .ref (ad 0)), (1, .int (zI (v))), (2, .int (zI (e)))] := hl
  have hel := hVM.el hv he
  have hmn := hVM.many hv
  refine lv_aload_n hx hb dX3_canBeam_0 rfl (lv_at hl 0 rfl) ?_
  refine lv_iload_n hx hb dX3_canBeam_1 rfl (lv_at hl 1 rfl) ?_
  refine lv_iload_n hx hb dX3_canBeam_2 rfl (lv_at hl 2 rfl) ?_
  refine z_iconst hx hb dX3_canBeam_3 ?_
  refine k_R (c_VR (As := [.int (zI (v)), .int (zI (e)), .int (zI (2))]) (rest := []) ⟨hx, hb, hml, hown, hts⟩ hG hS hA (c_X3_get l G ad F A B v e 2 (show 0 ≤ v ∧ v < 4 by omega) (show 0 ≤ 10 * e + 2 ∧ 10 * e + 2 < 2000 by omega)) ⟨q_ml_RX3_57, q_im_X3_get, q_sel_X3_get, q_ini_RX3, q_code_X3_get⟩ hv_X3_get (MP.rec hK hP) hP ⟨by decide, by decide⟩ ⟨Nat.zero_le _, Nat.zero_le _⟩ rfl hl.1 rfl (Nat.le_of_ble_eq_true rfl) dX3_canBeam_4) ?_
  refine z_iconst hx hb dX3_canBeam_7 ?_
  refine z_icmp_ne (a := B v (10 * e + 2)) (b := 1) (tgt := 27) hx hb dX3_canBeam_8 (by decide) (by omega) (by omega) (fun h_8 => ?_) (fun h_8 => ?_)
  · skip
    refine z_iconst hx hb dX3_canBeam_27 ?_
    exact e_R (r' := 0) hx hb hr hlk (n_z (by first | exact bI_01 _ | (left; rfl) | (right; rfl) | omega)) (bI_f (by omega)) dX3_canBeam_28
  · skip
    refine lv_aload_n hx hb dX3_canBeam_11 rfl (lv_at hl 0 rfl) ?_
    refine lv_iload_n hx hb dX3_canBeam_12 rfl (lv_at hl 1 rfl) ?_
    refine lv_iload_n hx hb dX3_canBeam_13 rfl (lv_at hl 2 rfl) ?_
    refine z_iconst hx hb dX3_canBeam_14 ?_
    refine k_R (c_VR (As := [.int (zI (v)), .int (zI (e)), .int (zI (0))]) (rest := []) ⟨hx, hb, hml, hown, hts⟩ hG hS hA (c_X3_get l G ad F A B v e 0 (show 0 ≤ v ∧ v < 4 by omega) (show 0 ≤ 10 * e + 0 ∧ 10 * e + 0 < 2000 by omega)) ⟨q_ml_RX3_57, q_im_X3_get, q_sel_X3_get, q_ini_RX3, q_code_X3_get⟩ hv_X3_get (MP.rec hK hP) hP ⟨by decide, by decide⟩ ⟨Nat.zero_le _, Nat.zero_le _⟩ rfl hl.1 rfl (Nat.le_of_ble_eq_true rfl) dX3_canBeam_15) ?_
    refine z_bipush hx hb dX3_canBeam_18 (by decide) ?_
    refine z_icmp_lt (a := B v (10 * e + 0)) (b := 8) (tgt := 27) hx hb dX3_canBeam_20 (by decide) (by omega) (by omega) (fun h_20 => ?_) (fun h_20 => ?_)
    · skip
      refine z_iconst hx hb dX3_canBeam_27 ?_
      exact e_R (r' := 0) hx hb hr hlk (n_z (by first | exact bI_01 _ | (left; rfl) | (right; rfl) | omega)) (bI_f (by omega)) dX3_canBeam_28
    · skip
      refine z_iconst hx hb dX3_canBeam_23 ?_
      refine lv_goto (tgt := 28) hx hb dX3_canBeam_24 (by decide) ?_
      exact e_R (r' := 1) hx hb hr hlk (n_z (by first | exact bI_01 _ | (left; rfl) | (right; rfl) | omega)) (bI_t (by omega)) dX3_canBeam_28
set_option maxHeartbeats 600000 in
theorem c_X3_beat (l : Launch) (G : zG) (ad : Nat → Nat) (F : Nat → Int) (A : Nat → Int → Int) (B : Int → Int → Int) (v e : Int) (hv : 0 ≤ v ∧ v < 4) (he : 0 ≤ e ∧ e < A 0 v) (hb9 : 0 ≤ B v (10 * e + 7) ∧ B v (10 * e + 7) ≤ 1000000) (hVM : MOK F A B) : MR l yX3_beat cX3_beat 3 (some .int) 1 23 G [.ref (ad 0), .int (zI (v)), .int (zI (e))] (MP G ad F A B) (.int (zI (B v (10 * e + 7) / (384 / F 2)))) := by
  refine mr_of hp_X3_beat (Nat.le_of_ble_eq_true rfl) ?_
  intro p env s m below meth c ls hB hP hl
  obtain ⟨hx, hb, hml, hr, hlk, hown, hts, hG⟩ := hB
  have hK := hG.1
  have hS : va_S (fun _ => False) s.heap s.heap [] := va_S.rf
  have hA : ∀ q : Nat, (fun _ : Nat => False) q → G.2.2 ≤ q := fun _ h => h.elim
  have hl : lv_has ls 3 [(0, .ref (ad 0)), (1, .int (zI (v))), (2, .int (zI (e)))] := hl
  have hel := hVM.el hv he
  have hmn := hVM.many hv
  have h2 := hVM.2.1
  have h384 : 48 ≤ 384 / F 2 ∧ 384 / F 2 ≤ 192 := by rcases h2 with h | h | h <;> rw [h] <;> decide
  refine lv_aload_n hx hb dX3_beat_0 rfl (lv_at hl 0 rfl) ?_
  refine lv_iload_n hx hb dX3_beat_1 rfl (lv_at hl 1 rfl) ?_
  refine lv_iload_n hx hb dX3_beat_2 rfl (lv_at hl 2 rfl) ?_
  refine z_bipush hx hb dX3_beat_3 (by decide) ?_
  refine k_R (c_VR (As := [.int (zI (v)), .int (zI (e)), .int (zI (7))]) (rest := []) ⟨hx, hb, hml, hown, hts⟩ hG hS hA (c_X3_get l G ad F A B v e 7 (show 0 ≤ v ∧ v < 4 by omega) (show 0 ≤ 10 * e + 7 ∧ 10 * e + 7 < 2000 by omega)) ⟨q_ml_RX3_57, q_im_X3_get, q_sel_X3_get, q_ini_RX3, q_code_X3_get⟩ hv_X3_get (MP.rec hK hP) hP ⟨by decide, by decide⟩ ⟨Nat.zero_le _, Nat.zero_le _⟩ rfl hl.1 rfl (Nat.le_of_ble_eq_true rfl) dX3_beat_5) ?_
  refine z_sipush hx hb dX3_beat_8 (by decide) ?_
  refine lv_aload_n hx hb dX3_beat_11 rfl (lv_at hl 0 rfl) ?_
  refine zm_get hx hb hK hts hown hP 2 (by decide) q_fl_RX3_13 (v := .int (zI (F 2))) rfl dX3_beat_12 ?_
  refine z_idiv hx hb dX3_beat_15 (by omega) (by omega) ?_
  refine z_idiv hx hb dX3_beat_16 (by omega) (by omega) ?_
  exact e_R (r' := (B v (10 * e + 7)) / ((384) / (F 2))) hx hb hr hlk (n_i _) (by first | rfl | omega) dX3_beat_17
set_option maxHeartbeats 600000 in
theorem c_X3_place (l : Launch) (G : zG) (ad : Nat → Nat) (F : Nat → Int) (A : Nat → Int → Int) (B : Int → Int → Int) (v e u : Int) (hv : 0 ≤ v ∧ v < 4) (he : 0 ≤ e ∧ e < A 0 v) (hVM : MOK F A B) : MR l yX3_place cX3_place 4 (some .int) 1 23 G [.ref (ad 0), .int (zI (v)), .int (zI (e)), .int (zI (u))] (MP G ad F A B) (.int (zI (7 * B v (10 * e + 5) + B v (10 * e + 3) + u))) := by
  refine mr_of hp_X3_place (Nat.le_of_ble_eq_true rfl) ?_
  intro p env s m below meth c ls hB hP hl
  obtain ⟨hx, hb, hml, hr, hlk, hown, hts, hG⟩ := hB
  have hK := hG.1
  have hS : va_S (fun _ => False) s.heap s.heap [] := va_S.rf
  have hA : ∀ q : Nat, (fun _ : Nat => False) q → G.2.2 ≤ q := fun _ h => h.elim
  have hl : lv_has ls 4 [(0, .ref (ad 0)), (1, .int (zI (v))), (2, .int (zI (e))), (3, .int (zI (u)))] := hl
  have hel := hVM.el hv he
  have hmn := hVM.many hv
  refine z_bipush hx hb dX3_place_0 (by decide) ?_
  refine lv_aload_n hx hb dX3_place_2 rfl (lv_at hl 0 rfl) ?_
  refine lv_iload_n hx hb dX3_place_3 rfl (lv_at hl 1 rfl) ?_
  refine lv_iload_n hx hb dX3_place_4 rfl (lv_at hl 2 rfl) ?_
  refine z_iconst hx hb dX3_place_5 ?_
  refine k_R (c_VR (As := [.int (zI (v)), .int (zI (e)), .int (zI (5))]) (rest := [.int (zI (7))]) ⟨hx, hb, hml, hown, hts⟩ hG hS hA (c_X3_get l G ad F A B v e 5 (show 0 ≤ v ∧ v < 4 by omega) (show 0 ≤ 10 * e + 5 ∧ 10 * e + 5 < 2000 by omega)) ⟨q_ml_RX3_57, q_im_X3_get, q_sel_X3_get, q_ini_RX3, q_code_X3_get⟩ hv_X3_get (MP.rec hK hP) hP ⟨by decide, by decide⟩ ⟨Nat.zero_le _, Nat.zero_le _⟩ rfl hl.1 rfl (Nat.le_of_ble_eq_true rfl) dX3_place_6) ?_
  refine z_imul (x := 7) (y := B v (10 * e + 5)) hx hb dX3_place_9 ?_
  refine lv_aload_n hx hb dX3_place_10 rfl (lv_at hl 0 rfl) ?_
  refine lv_iload_n hx hb dX3_place_11 rfl (lv_at hl 1 rfl) ?_
  refine lv_iload_n hx hb dX3_place_12 rfl (lv_at hl 2 rfl) ?_
  refine z_iconst hx hb dX3_place_13 ?_
  refine k_R (c_VR (As := [.int (zI (v)), .int (zI (e)), .int (zI (3))]) (rest := [.int (zI ((7) * (B v (10 * e + 5))))]) ⟨hx, hb, hml, hown, hts⟩ hG hS hA (c_X3_get l G ad F A B v e 3 (show 0 ≤ v ∧ v < 4 by omega) (show 0 ≤ 10 * e + 3 ∧ 10 * e + 3 < 2000 by omega)) ⟨q_ml_RX3_57, q_im_X3_get, q_sel_X3_get, q_ini_RX3, q_code_X3_get⟩ hv_X3_get (MP.rec hK hP) hP ⟨by decide, by decide⟩ ⟨Nat.zero_le _, Nat.zero_le _⟩ rfl hl.1 rfl (Nat.le_of_ble_eq_true rfl) dX3_place_14) ?_
  refine z_iadd (x := (7) * (B v (10 * e + 5))) (y := B v (10 * e + 3)) hx hb dX3_place_17 ?_
  refine lv_iload_n hx hb dX3_place_18 rfl (lv_at hl 3 rfl) ?_
  refine z_iadd (x := ((7) * (B v (10 * e + 5))) + (B v (10 * e + 3))) (y := u) hx hb dX3_place_19 ?_
  exact e_R (r' := (((7) * (B v (10 * e + 5))) + (B v (10 * e + 3))) + (u)) hx hb hr hlk (n_i _) (by first | rfl | omega) dX3_place_20
