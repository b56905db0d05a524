set_option maxHeartbeats 600000 in
theorem c_X1_tell (l : Launch) (G : zG) (ad : Nat → Nat) (T P S A : Nat → Int → Int) (F : Nat → Int) (w : Int) (r1 : -2147483648 ≤ w ∧ w ≤ 2147483647) : MR l yX1_tell cX1_tell 2 (some .int) 0 0 G [.ref (ad 0), .int (zI (w))] (VP G ad T P S A F) (.int (zI (vTell F w))) := by
  refine mr_of hp_X1_tell (Nat.le_of_ble_eq_true rfl) ?_
  intro p env s m below meth c ls hB hP hl
  obtain ⟨hx, hb, hml, hr, hlk, hown, hts, hG⟩ := hB
  have hK := hG.1
  have hS : va_S (fun _ => False) s.heap s.heap [] := va_S.rf
  have hA : ∀ q : Nat, (fun _ : Nat => False) q → G.2.2 ≤ q := fun _ h => h.elim
  have hl : lv_has ls 2 [(0, .ref (ad 0)), (1, .int (zI (w)))] := hl
  refine lv_iload_n hx hb dX1_tell_0 rfl (lv_at hl 1 rfl) ?_
  have hsw_1 : -2147483648 ≤ w ∧ w ≤ 2147483647 := (by omega)
  rcases (by omega : w < 0 ∨ 5 < w ∨ w = 0 ∨ w = 1 ∨ w = 2 ∨ w = 3 ∨ w = 4 ∨ w = 5) with h_1 | h_1 | h_1 | h_1 | h_1 | h_1 | h_1 | h_1
  · skip
    refine lv_tableOut (x := zI (w)) (tgt := 70) hx hb dX1_tell_1 (by rw [zI_toInt hsw_1]; omega) (by decide) ?_
    refine lv_aload_n hx hb dX1_tell_70 rfl (lv_at hl 0 rfl) ?_
    refine zv_get hx hb hK hts hown hP 11 (by decide) q_fl_RX1_48 (v := .int (zI (F 6))) rfl dX1_tell_71 ?_
    exact e_R (r' := F 6) hx hb hr hlk (n_i _) (by first | rfl | omega | (simp only [vTell]; (repeat' split) <;> omega)) dX1_tell_74
  · skip
    refine lv_tableOut (x := zI (w)) (tgt := 70) hx hb dX1_tell_1 (by rw [zI_toInt hsw_1]; omega) (by decide) ?_
    refine lv_aload_n hx hb dX1_tell_70 rfl (lv_at hl 0 rfl) ?_
    refine zv_get hx hb hK hts hown hP 11 (by decide) q_fl_RX1_48 (v := .int (zI (F 6))) rfl dX1_tell_71 ?_
    exact e_R (r' := F 6) hx hb hr hlk (n_i _) (by first | rfl | omega | (simp only [vTell]; (repeat' split) <;> omega)) dX1_tell_74
  · skip
    refine lv_tableIn (x := zI (w)) (off := 39) (tgt := 40) hx hb dX1_tell_1 (by rw [zI_toInt hsw_1]; omega) (by rw [zI_toInt hsw_1]; omega) (by rw [zI_toInt hsw_1, h_1]; rfl) (by decide) ?_
    refine lv_aload_n hx hb dX1_tell_40 rfl (lv_at hl 0 rfl) ?_
    refine zv_get hx hb hK hts hown hP 5 (by decide) q_fl_RX1_29 (v := .int (zI (F 0))) rfl dX1_tell_41 ?_
    exact e_R (r' := F 0) hx hb hr hlk (n_i _) (by first | rfl | omega | (simp only [vTell]; (repeat' split) <;> omega)) dX1_tell_44
  · skip
    refine lv_tableIn (x := zI (w)) (off := 44) (tgt := 45) hx hb dX1_tell_1 (by rw [zI_toInt hsw_1]; omega) (by rw [zI_toInt hsw_1]; omega) (by rw [zI_toInt hsw_1, h_1]; rfl) (by decide) ?_
    refine lv_aload_n hx hb dX1_tell_45 rfl (lv_at hl 0 rfl) ?_
    refine zv_get hx hb hK hts hown hP 6 (by decide) q_fl_RX1_33 (v := .int (zI (F 1))) rfl dX1_tell_46 ?_
    exact e_R (r' := F 1) hx hb hr hlk (n_i _) (by first | rfl | omega | (simp only [vTell]; (repeat' split) <;> omega)) dX1_tell_49
  · skip
    refine lv_tableIn (x := zI (w)) (off := 49) (tgt := 50) hx hb dX1_tell_1 (by rw [zI_toInt hsw_1]; omega) (by rw [zI_toInt hsw_1]; omega) (by rw [zI_toInt hsw_1, h_1]; rfl) (by decide) ?_
    refine lv_aload_n hx hb dX1_tell_50 rfl (lv_at hl 0 rfl) ?_
    refine zv_get hx hb hK hts hown hP 7 (by decide) q_fl_RX1_36 (v := .int (zI (F 2))) rfl dX1_tell_51 ?_
    exact e_R (r' := F 2) hx hb hr hlk (n_i _) (by first | rfl | omega | (simp only [vTell]; (repeat' split) <;> omega)) dX1_tell_54
  · skip
    refine lv_tableIn (x := zI (w)) (off := 54) (tgt := 55) hx hb dX1_tell_1 (by rw [zI_toInt hsw_1]; omega) (by rw [zI_toInt hsw_1]; omega) (by rw [zI_toInt hsw_1, h_1]; rfl) (by decide) ?_
    refine lv_aload_n hx hb dX1_tell_55 rfl (lv_at hl 0 rfl) ?_
    refine zv_get hx hb hK hts hown hP 8 (by decide) q_fl_RX1_39 (v := .int (zI (F 3))) rfl dX1_tell_56 ?_
    exact e_R (r' := F 3) hx hb hr hlk (n_i _) (by first | rfl | omega | (simp only [vTell]; (repeat' split) <;> omega)) dX1_tell_59
  · skip
    refine lv_tableIn (x := zI (w)) (off := 59) (tgt := 60) hx hb dX1_tell_1 (by rw [zI_toInt hsw_1]; omega) (by rw [zI_toInt hsw_1]; omega) (by rw [zI_toInt hsw_1, h_1]; rfl) (by decide) ?_
    refine lv_aload_n hx hb dX1_tell_60 rfl (lv_at hl 0 rfl) ?_
    refine zv_get hx hb hK hts hown hP 9 (by decide) q_fl_RX1_42 (v := .int (zI (F 4))) rfl dX1_tell_61 ?_
    exact e_R (r' := F 4) hx hb hr hlk (n_i _) (by first | rfl | omega | (simp only [vTell]; (repeat' split) <;> omega)) dX1_tell_64
  · skip
    refine lv_tableIn (x := zI (w)) (off := 64) (tgt := 65) hx hb dX1_tell_1 (by rw [zI_toInt hsw_1]; omega) (by rw [zI_toInt hsw_1]; omega) (by rw [zI_toInt hsw_1, h_1]; rfl) (by decide) ?_
    refine lv_aload_n hx hb dX1_tell_65 rfl (lv_at hl 0 rfl) ?_
    refine zv_get hx hb hK hts hown hP 10 (by decide) q_fl_RX1_45 (v := .int (zI (F 5))) rfl dX1_tell_66 ?_
    exact e_R (r' := F 5) hx hb hr hlk (n_i _) (by first | rfl | omega | (simp only [vTell]; (repeat' split) <;> omega)) dX1_tell_69
set_option maxHeartbeats 600000 in
theorem c_X1_isJoinedToNext (l : Launch) (G : zG) (ad : Nat → Nat) (T P S A : Nat → Int → Int) (F : Nat → Int) (i : Int) (hi : -1 ≤ i ∧ i < 200) (hV : VOK T P (F 0)) : MR l yX1_isJoinedToNext cX1_isJoinedToNext 2 (some .boolean) 1 21 G [.ref (ad 0), .int (zI (i))] (VP G ad T P S A F) (.int (zI (bI (0 ≤ i ∧ i + 1 < F 0 ∧ T 5 (i) = 1 ∧ T 4 (i) = T 4 (i + 1))))) := by
  refine mr_of hp_X1_isJoinedToNext (Nat.le_of_ble_eq_true rfl) ?_
  intro p env s m below meth c ls hB hP hl
  obtain ⟨hx, hb, hml, hr, hlk, hown, hts, hG⟩ := hB
  have hK := hG.1
  have hS : va_S (fun _ => False) s.heap s.heap [] := va_S.rf
  have hA : ∀ q : Nat, (fun _ : Nat => False) q → G.2.2 ≤ q := fun _ h => h.elim
  have hl : lv_has ls 2 [(0, .ref (ad 0)), (1, .int (zI (i)))] := hl
  have hn1 := hV.1
  have hn2 := hV.2.1
  refine lv_iload_n hx hb dX1_isJoinedToNext_0 rfl (lv_at hl 1 rfl) ?_
  refine z_if_lt (a := i) (tgt := 14) hx hb dX1_isJoinedToNext_1 (by decide) (by omega) (fun h_1 => ?_) (fun h_1 => ?_)
  · skip
    refine z_iconst hx hb dX1_isJoinedToNext_14 ?_
    exact e_R (r' := 0) hx hb hr hlk (n_z (by first | exact bI_01 _ | (left; rfl) | (right; rfl) | omega)) (bI_f (by omega)) dX1_isJoinedToNext_15
  · skip
    refine lv_iload_n hx hb dX1_isJoinedToNext_4 rfl (lv_at hl 1 rfl) ?_
    refine z_iconst hx hb dX1_isJoinedToNext_5 ?_
    refine z_iadd (x := i) (y := 1) hx hb dX1_isJoinedToNext_6 ?_
    refine lv_aload_n hx hb dX1_isJoinedToNext_7 rfl (lv_at hl 0 rfl) ?_
    refine zv_get hx hb hK hts hown hP 5 (by decide) q_fl_RX1_29 (v := .int (zI (F 0))) rfl dX1_isJoinedToNext_8 ?_
    refine z_icmp_lt (a := (i) + (1)) (b := F 0) (tgt := 16) hx hb dX1_isJoinedToNext_11 (by decide) (by omega) (by omega) (fun h_11 => ?_) (fun h_11 => ?_)
    · skip
      have hv := hV.2.2.1 i (by omega) (by omega)
      have hv2 := hV.2.2.1 (i + 1) (by omega) (by omega)
      refine lv_aload_n hx hb dX1_isJoinedToNext_16 rfl (lv_at hl 0 rfl) ?_
      refine lv_iload_n hx hb dX1_isJoinedToNext_17 rfl (lv_at hl 1 rfl) ?_
      refine k_R (c_VR (As := [.int (zI (i))]) (rest := []) ⟨hx, hb, hml, hown, hts⟩ hG hS hA (c_X1_isTied l G ad T P S A F i (by omega) (by omega)) ⟨q_ml_RX1_51, q_im_X1_isTied, q_sel_X1_isTied, q_ini_RX1, q_code_X1_isTied⟩ hv_X1_isTied (VP.rec hK hP) hP ⟨by decide, by decide⟩ ⟨Nat.zero_le _, Nat.zero_le _⟩ rfl hl.1 rfl (Nat.le_of_ble_eq_true rfl) dX1_isJoinedToNext_18) ?_
      refine z_bif_eq (q := T 5 i = 1) (tgt := 49) hx hb dX1_isJoinedToNext_21 (by decide) (fun h_21 => ?_) (fun h_21 => ?_)
      · skip
        refine z_iconst hx hb dX1_isJoinedToNext_49 ?_
        exact e_R (r' := 0) hx hb hr hlk (n_z (by first | exact bI_01 _ | (left; rfl) | (right; rfl) | omega)) (bI_f (by omega)) dX1_isJoinedToNext_50
      · skip
        refine lv_aload_n hx hb dX1_isJoinedToNext_24 rfl (lv_at hl 0 rfl) ?_
        refine zv_get hx hb hK hts hown hP 0 (by decide) q_fl_RX1_11 (v := .ref (ad 1)) rfl dX1_isJoinedToNext_25 ?_
        refine z_iconst hx hb dX1_isJoinedToNext_28 ?_
        refine zv_aT hx hb hK hP (4) (by decide) (i := 4) rfl dX1_isJoinedToNext_29 ?_
        refine lv_iload_n hx hb dX1_isJoinedToNext_30 rfl (lv_at hl 1 rfl) ?_
        refine zv_lT hx hb hK hP (4) (by decide) (i := i) (by omega) dX1_isJoinedToNext_31 ?_
        refine lv_aload_n hx hb dX1_isJoinedToNext_32 rfl (lv_at hl 0 rfl) ?_
        refine zv_get hx hb hK hts hown hP 0 (by decide) q_fl_RX1_11 (v := .ref (ad 1)) rfl dX1_isJoinedToNext_33 ?_
        refine z_iconst hx hb dX1_isJoinedToNext_36 ?_
        refine zv_aT hx hb hK hP (4) (by decide) (i := 4) rfl dX1_isJoinedToNext_37 ?_
        refine lv_iload_n hx hb dX1_isJoinedToNext_38 rfl (lv_at hl 1 rfl) ?_
        refine z_iconst hx hb dX1_isJoinedToNext_39 ?_
        refine z_iadd (x := i) (y := 1) hx hb dX1_isJoinedToNext_40 ?_
        refine zv_lT hx hb hK hP (4) (by decide) (i := (i) + (1)) (by omega) dX1_isJoinedToNext_41 ?_
        refine z_icmp_ne (a := T 4 (i)) (b := T 4 ((i) + (1))) (tgt := 49) hx hb dX1_isJoinedToNext_42 (by decide) (by omega) (by omega) (fun h_42 => ?_) (fun h_42 => ?_)
        · skip
          refine z_iconst hx hb dX1_isJoinedToNext_49 ?_
          exact e_R (r' := 0) hx hb hr hlk (n_z (by first | exact bI_01 _ | (left; rfl) | (right; rfl) | omega)) (bI_f (by omega)) dX1_isJoinedToNext_50
        · skip
          refine z_iconst hx hb dX1_isJoinedToNext_45 ?_
          refine lv_goto (tgt := 50) hx hb dX1_isJoinedToNext_46 (by decide) ?_
          exact e_R (r' := 1) hx hb hr hlk (n_z (by first | exact bI_01 _ | (left; rfl) | (right; rfl) | omega)) (bI_t (by omega)) dX1_isJoinedToNext_50
    · skip
      refine z_iconst hx hb dX1_isJoinedToNext_14 ?_
      exact e_R (r' := 0) hx hb hr hlk (n_z (by first | exact bI_01 _ | (left; rfl) | (right; rfl) | omega)) (bI_f (by omega)) dX1_isJoinedToNext_15
set_option maxHeartbeats 600000 in
theorem c_X1_isGrouped (l : Launch) (G : zG) (ad : Nat → Nat) (T P S A : Nat → Int → Int) (F : Nat → Int) (i b : Int) (hi : -1 ≤ i ∧ i < 200) (hb9 : 0 < b ∧ b ≤ 1000000) (hV : VOK T P (F 0)) : MR l yX1_isGrouped cX1_isGrouped 4 (some .boolean) 2 42 G [.ref (ad 0), .int (zI (i)), .int (zI (b))] (VP G ad T P S A F) (.int (zI (bI (0 ≤ i ∧ i + 1 < F 0 ∧ (¬ T 4 i = -1 ∧ 8 ≤ T 2 i) ∧ (¬ T 4 (i + 1) = -1 ∧ 8 ≤ T 2 (i + 1)) ∧ T 0 i / b = T 0 (i + 1) / b)))) := by
  refine mr_of hp_X1_isGrouped (Nat.le_of_ble_eq_true rfl) ?_
  intro p env s m below meth c ls hB hP hl
  obtain ⟨hx, hb, hml, hr, hlk, hown, hts, hG⟩ := hB
  have hK := hG.1
  have hS : va_S (fun _ => False) s.heap s.heap [] := va_S.rf
  have hA : ∀ q : Nat, (fun _ : Nat => False) q → G.2.2 ≤ q := fun _ h => h.elim
  have hl : lv_has ls 4 [(0, .ref (ad 0)), (1, .int (zI (i))), (2, .int (zI (b)))] := hl
  have hn1 := hV.1
  have hn2 := hV.2.1
  refine lv_iload_n hx hb dX1_isGrouped_0 rfl (lv_at hl 1 rfl) ?_
  refine z_if_lt (a := i) (tgt := 32) hx hb dX1_isGrouped_1 (by decide) (by omega) (fun h_1 => ?_) (fun h_1 => ?_)
  · skip
    refine z_iconst hx hb dX1_isGrouped_32 ?_
    exact e_R (r' := 0) hx hb hr hlk (n_z (by first | exact bI_01 _ | (left; rfl) | (right; rfl) | omega)) (bI_f (by omega)) dX1_isGrouped_33
  · skip
    refine lv_iload_n hx hb dX1_isGrouped_4 rfl (lv_at hl 1 rfl) ?_
    refine z_iconst hx hb dX1_isGrouped_5 ?_
    refine z_iadd (x := i) (y := 1) hx hb dX1_isGrouped_6 ?_
    refine lv_aload_n hx hb dX1_isGrouped_7 rfl (lv_at hl 0 rfl) ?_
    refine zv_get hx hb hK hts hown hP 5 (by decide) q_fl_RX1_29 (v := .int (zI (F 0))) rfl dX1_isGrouped_8 ?_
    refine z_icmp_ge (a := (i) + (1)) (b := F 0) (tgt := 32) hx hb dX1_isGrouped_11 (by decide) (by omega) (by omega) (fun h_11 => ?_) (fun h_11 => ?_)
    · skip
      refine z_iconst hx hb dX1_isGrouped_32 ?_
      exact e_R (r' := 0) hx hb hr hlk (n_z (by first | exact bI_01 _ | (left; rfl) | (right; rfl) | omega)) (bI_f (by omega)) dX1_isGrouped_33
    · skip
      have hv := hV.2.2.1 i (by omega) (by omega)
      have hv2 := hV.2.2.1 (i + 1) (by omega) (by omega)
      have d1 : 0 ≤ T 0 i / b := Int.ediv_nonneg (by omega) (by omega)
      have d2 : T 0 i / b ≤ T 0 i := Int.ediv_le_self _ (by omega)
      have d3 : 0 ≤ T 0 (i + 1) / b := Int.ediv_nonneg (by omega) (by omega)
      have d4 : T 0 (i + 1) / b ≤ T 0 (i + 1) := Int.ediv_le_self _ (by omega)
      refine lv_aload_n hx hb dX1_isGrouped_14 rfl (lv_at hl 0 rfl) ?_
      refine lv_iload_n hx hb dX1_isGrouped_15 rfl (lv_at hl 1 rfl) ?_
      refine k_R (c_VR (As := [.int (zI (i))]) (rest := []) ⟨hx, hb, hml, hown, hts⟩ hG hS hA (c_X1_isShortNote l G ad T P S A F i (show 0 ≤ i ∧ i < 200 by omega) (show -2147483648 ≤ T 4 i ∧ T 4 i ≤ 2147483647 by omega) (show -2147483648 ≤ T 2 i ∧ T 2 i ≤ 2147483647 by omega)) ⟨q_ml_RX1_124, q_im_X1_isShortNote, q_sel_X1_isShortNote, q_ini_RX1, q_code_X1_isShortNote⟩ hv_X1_isShortNote (VP.rec hK hP) hP ⟨by decide, by decide⟩ ⟨Nat.zero_le _, Nat.zero_le _⟩ rfl hl.1 rfl (Nat.le_of_ble_eq_true rfl) dX1_isGrouped_16) ?_
      refine z_bif_eq (q := ¬ T 4 i = -1 ∧ 8 ≤ T 2 i) (tgt := 32) hx hb dX1_isGrouped_19 (by decide) (fun h_19 => ?_) (fun h_19 => ?_)
      · skip
        refine z_iconst hx hb dX1_isGrouped_32 ?_
        exact e_R (r' := 0) hx hb hr hlk (n_z (by first | exact bI_01 _ | (left; rfl) | (right; rfl) | omega)) (bI_f (by omega)) dX1_isGrouped_33
      · skip
        refine lv_aload_n hx hb dX1_isGrouped_22 rfl (lv_at hl 0 rfl) ?_
        refine lv_iload_n hx hb dX1_isGrouped_23 rfl (lv_at hl 1 rfl) ?_
        refine z_iconst hx hb dX1_isGrouped_24 ?_
        refine z_iadd (x := i) (y := 1) hx hb dX1_isGrouped_25 ?_
        refine k_R (c_VR (As := [.int (zI ((i) + (1)))]) (rest := []) ⟨hx, hb, hml, hown, hts⟩ hG hS hA (c_X1_isShortNote l G ad T P S A F ((i) + (1)) (show 0 ≤ ((i) + (1)) ∧ ((i) + (1)) < 200 by omega) (show -2147483648 ≤ T 4 ((i) + (1)) ∧ T 4 ((i) + (1)) ≤ 2147483647 by omega) (show -2147483648 ≤ T 2 ((i) + (1)) ∧ T 2 ((i) + (1)) ≤ 2147483647 by omega)) ⟨q_ml_RX1_124, q_im_X1_isShortNote, q_sel_X1_isShortNote, q_ini_RX1, q_code_X1_isShortNote⟩ hv_X1_isShortNote (VP.rec hK hP) hP ⟨by decide, by decide⟩ ⟨Nat.zero_le _, Nat.zero_le _⟩ rfl hl.1 rfl (Nat.le_of_ble_eq_true rfl) dX1_isGrouped_26) ?_
        refine z_bif_ne (q := ¬ T 4 ((i) + (1)) = -1 ∧ 8 ≤ T 2 ((i) + (1))) (tgt := 34) hx hb dX1_isGrouped_29 (by decide) (fun h_29 => ?_) (fun h_29 => ?_)
        · skip
          refine lv_aload_n hx hb dX1_isGrouped_34 rfl (lv_at hl 0 rfl) ?_
          refine zv_get hx hb hK hts hown hP 0 (by decide) q_fl_RX1_11 (v := .ref (ad 1)) rfl dX1_isGrouped_35 ?_
          refine z_iconst hx hb dX1_isGrouped_38 ?_
          refine zv_aT hx hb hK hP (0) (by decide) (i := 0) rfl dX1_isGrouped_39 ?_
          refine lv_iload_n hx hb dX1_isGrouped_40 rfl (lv_at hl 1 rfl) ?_
          refine zv_lT hx hb hK hP (0) (by decide) (i := i) (by omega) dX1_isGrouped_41 ?_
          refine lv_iload_n hx hb dX1_isGrouped_42 rfl (lv_at hl 2 rfl) ?_
          refine k_R (c_NR (host := RX2) (As := [.int (zI (T 0 (i))), .int (zI (b))]) (rest := []) ⟨hx, hb, hml, hown, hts⟩ hG hS hA (c_X2_wholeParts l G (T 0 (i)) b (show 0 ≤ (T 0 (i)) ∧ (T 0 (i)) ≤ 2147483647 by omega) (show 0 < b ∧ b ≤ 2147483647 by omega)) ⟨by decide, q_st_X2_wholeParts, q_ini_RX2, q_code_X2_wholeParts⟩ hs_X2_wholeParts trivial ⟨by decide, by decide⟩ ⟨Nat.zero_le _, Nat.zero_le _⟩ rfl hl.1 rfl (Nat.le_of_ble_eq_true rfl) dX1_isGrouped_43) ?_
          refine lv_istore_n (lv' := [(3, .int (zI ((T 0 (i)) / b))), (0, .ref (ad 0)), (1, .int (zI (i))), (2, .int (zI (b)))]) hx hb dX1_isGrouped_46 rfl hl (by decide) rfl (fun ls hl => ?_)
          refine lv_iload_n hx hb dX1_isGrouped_47 rfl (lv_at hl 0 rfl) ?_
          refine lv_aload_n hx hb dX1_isGrouped_48 rfl (lv_at hl 1 rfl) ?_
          refine zv_get hx hb hK hts hown hP 0 (by decide) q_fl_RX1_11 (v := .ref (ad 1)) rfl dX1_isGrouped_49 ?_
          refine z_iconst hx hb dX1_isGrouped_52 ?_
          refine zv_aT hx hb hK hP (0) (by decide) (i := 0) rfl dX1_isGrouped_53 ?_
          refine lv_iload_n hx hb dX1_isGrouped_54 rfl (lv_at hl 2 rfl) ?_
          refine z_iconst hx hb dX1_isGrouped_55 ?_
          refine z_iadd (x := i) (y := 1) hx hb dX1_isGrouped_56 ?_
          refine zv_lT hx hb hK hP (0) (by decide) (i := (i) + (1)) (by omega) dX1_isGrouped_57 ?_
          refine lv_iload_n hx hb dX1_isGrouped_58 rfl (lv_at hl 3 rfl) ?_
          refine k_R (c_NR (host := RX2) (As := [.int (zI (T 0 ((i) + (1)))), .int (zI (b))]) (rest := [.int (zI ((T 0 (i)) / b))]) ⟨hx, hb, hml, hown, hts⟩ hG hS hA (c_X2_wholeParts l G (T 0 ((i) + (1))) b (show 0 ≤ (T 0 ((i) + (1))) ∧ (T 0 ((i) + (1))) ≤ 2147483647 by omega) (show 0 < b ∧ b ≤ 2147483647 by omega)) ⟨by decide, q_st_X2_wholeParts, q_ini_RX2, q_code_X2_wholeParts⟩ hs_X2_wholeParts trivial ⟨by decide, by decide⟩ ⟨Nat.zero_le _, Nat.zero_le _⟩ rfl hl.1 rfl (Nat.le_of_ble_eq_true rfl) dX1_isGrouped_59) ?_
          refine z_icmp_ne (a := (T 0 (i)) / b) (b := (T 0 ((i) + (1))) / b) (tgt := 69) hx hb dX1_isGrouped_62 (by decide) (by omega) (by omega) (fun h_62 => ?_) (fun h_62 => ?_)
          · skip
            refine z_iconst hx hb dX1_isGrouped_69 ?_
            exact e_R (r' := 0) hx hb hr hlk (n_z (by first | exact bI_01 _ | (left; rfl) | (right; rfl) | omega)) (bI_f (by omega)) dX1_isGrouped_70
          · skip
            refine z_iconst hx hb dX1_isGrouped_65 ?_
            refine lv_goto (tgt := 70) hx hb dX1_isGrouped_66 (by decide) ?_
            exact e_R (r' := 1) hx hb hr hlk (n_z (by first | exact bI_01 _ | (left; rfl) | (right; rfl) | omega)) (bI_t (by omega)) dX1_isGrouped_70
        · skip
          refine z_iconst hx hb dX1_isGrouped_32 ?_
          exact e_R (r' := 0) hx hb hr hlk (n_z (by first | exact bI_01 _ | (left; rfl) | (right; rfl) | omega)) (bI_f (by omega)) dX1_isGrouped_33
set_option maxHeartbeats 600000 in
theorem c_X1_countLooseTies (l : Launch) (G : zG) (ad : Nat → Nat) (T P S A : Nat → Int → Int) (F : Nat → Int) (hV : VOK T P (F 0)) : MR l yX1_countLooseTies cX1_countLooseTies 3 (some .int) 2 42 G [.ref (ad 0)] (VP G ad T P S A F) (.int (zI (lzN (T 5) (T 4) (F 0) (F 0)))) := by
  refine mr_of hp_X1_countLooseTies (Nat.le_of_ble_eq_true rfl) ?_
  intro p env s m below meth c ls hB hP hl
  obtain ⟨hx, hb, hml, hr, hlk, hown, hts, hG⟩ := hB
  have hK := hG.1
  have hS : va_S (fun _ => False) s.heap s.heap [] := va_S.rf
  have hA : ∀ q : Nat, (fun _ : Nat => False) q → G.2.2 ≤ q := fun _ h => h.elim
  have hl : lv_has ls 3 [(0, .ref (ad 0))] := hl
  have hn1 := hV.1
  have hn2 := hV.2.1
  refine z_iconst hx hb dX1_countLooseTies_0 ?_
  refine lv_istore_n (lv' := [(1, .int (zI (0))), (0, .ref (ad 0))]) hx hb dX1_countLooseTies_1 rfl hl (by decide) rfl (fun ls hl => ?_)
  refine z_iconst hx hb dX1_countLooseTies_2 ?_
  refine lv_istore_n (lv' := [(2, .int (zI (0))), (1, .int (zI (0))), (0, .ref (ad 0))]) hx hb dX1_countLooseTies_3 rfl hl (by decide) rfl (fun ls hl => ?_)
  have lp_4 : ∀ (n : Nat) (i a : Int), 0 ≤ i → i ≤ F 0 → a = lzN (T 5) (T 4) (F 0) i → 0 ≤ a ∧ a ≤ i → F 0 - i < n → ∀ (ls : Array Slot), lv_has ls 3 [(2, .int (zI (i))), (1, .int (zI (a))), (0, .ref (ad 0))] → W p l env (rmz 2 42 0 0) s m (([.ref (ad 0)] : List Value).toArray) below meth c s.heap [] 0 0 (MQ below (QR (.int (zI (lzN (T 5) (T 4) (F 0) (F 0))))) (([.ref (ad 0)] : List Value).toArray) s 0 0 (fun _ => False)) (F0 m 4 ls []) := by
    intro n
    induction n with
    | zero => intro i a h0 h1 h2 h3 hm ls hl; exact absurd hm (by omega)
    | succ n ih =>
      intro i a h0 h1 h2 h3 hm ls hl
      have hs : lzN (T 5) (T 4) (F 0) (i + 1) = lzN (T 5) (T 4) (F 0) i + bI (T 5 i = 1 ∧ ¬ (0 ≤ i ∧ i + 1 < F 0 ∧ T 5 (i) = 1 ∧ T 4 (i) = T 4 (i + 1))) := pf_s _ _ h0
      refine lv_iload_n hx hb dX1_countLooseTies_4 rfl (lv_at hl 0 rfl) ?_
      refine lv_aload_n hx hb dX1_countLooseTies_5 rfl (lv_at hl 2 rfl) ?_
      refine zv_get hx hb hK hts hown hP 5 (by decide) q_fl_RX1_29 (v := .int (zI (F 0))) rfl dX1_countLooseTies_6 ?_
      refine z_icmp_ge (a := i) (b := F 0) (tgt := 37) hx hb dX1_countLooseTies_9 (by decide) (by omega) (by omega) (fun h_9 => ?_) (fun h_9 => ?_)
      · skip
        refine lv_iload_n hx hb dX1_countLooseTies_37 rfl (lv_at hl 1 rfl) ?_
        exact e_R (r' := a) hx hb hr hlk (n_i _) (by have h9 : i = F 0 := (by omega); rw [h2, h9]) dX1_countLooseTies_38
      · skip
        have hv := hV.2.2.1 i (by omega) (by omega)
        refine lv_aload_n hx hb dX1_countLooseTies_12 rfl (lv_at hl 2 rfl) ?_
        refine lv_iload_n hx hb dX1_countLooseTies_13 rfl (lv_at hl 0 rfl) ?_
        refine k_R (c_VR (As := [.int (zI (i))]) (rest := []) ⟨hx, hb, hml, hown, hts⟩ hG hS hA (c_X1_isTied l G ad T P S A F i (show 0 ≤ i ∧ i < 200 by omega) (show -2147483648 ≤ T 5 i ∧ T 5 i ≤ 2147483647 by omega)) ⟨q_ml_RX1_51, q_im_X1_isTied, q_sel_X1_isTied, q_ini_RX1, q_code_X1_isTied⟩ hv_X1_isTied (VP.rec hK hP) hP ⟨by decide, by decide⟩ ⟨Nat.zero_le _, Nat.zero_le _⟩ rfl hl.1 rfl (Nat.le_of_ble_eq_true rfl) dX1_countLooseTies_14) ?_
        refine z_bif_eq (q := T 5 i = 1) (tgt := 31) hx hb dX1_countLooseTies_17 (by decide) (fun h_17 => ?_) (fun h_17 => ?_)
        · skip
          refine z_iinc (lv' := [(2, .int (zI (i + 1))), (1, .int (zI (a))), (0, .ref (ad 0))]) hx hb dX1_countLooseTies_31 hl (k := 0) rfl (by decide) rfl (fun ls hl => ?_)
          refine lv_goto (tgt := 4) hx hb dX1_countLooseTies_34 (by decide) ?_
          exact ih (i + 1) (a) (by omega) (by omega) (by rw [hs, ← h2]; unfold bI; split <;> omega) (by omega) (by omega) _ (lv_sub hl [0, 1, 2] rfl)
        · skip
          refine lv_aload_n hx hb dX1_countLooseTies_20 rfl (lv_at hl 2 rfl) ?_
          refine lv_iload_n hx hb dX1_countLooseTies_21 rfl (lv_at hl 0 rfl) ?_
          refine k_R (c_VR (As := [.int (zI (i))]) (rest := []) ⟨hx, hb, hml, hown, hts⟩ hG hS hA (c_X1_isJoinedToNext l G ad T P S A F i (show -1 ≤ i ∧ i < 200 by omega) hV) ⟨q_ml_RX1_93, q_im_X1_isJoinedToNext, q_sel_X1_isJoinedToNext, q_ini_RX1, q_code_X1_isJoinedToNext⟩ hv_X1_isJoinedToNext (VP.rec hK hP) hP ⟨by decide, by decide⟩ ⟨Nat.zero_le _, Nat.zero_le _⟩ rfl hl.1 rfl (Nat.le_of_ble_eq_true rfl) dX1_countLooseTies_22) ?_
          refine z_bif_ne (q := 0 ≤ i ∧ i + 1 < (F 0) ∧ T 5 (i) = 1 ∧ T 4 (i) = T 4 (i + 1)) (tgt := 31) hx hb dX1_countLooseTies_25 (by decide) (fun h_25 => ?_) (fun h_25 => ?_)
          · skip
            refine z_iinc (lv' := [(2, .int (zI (i + 1))), (1, .int (zI (a))), (0, .ref (ad 0))]) hx hb dX1_countLooseTies_31 hl (k := 0) rfl (by decide) rfl (fun ls hl => ?_)
            refine lv_goto (tgt := 4) hx hb dX1_countLooseTies_34 (by decide) ?_
            exact ih (i + 1) (a) (by omega) (by omega) (by rw [hs, ← h2]; unfold bI; split <;> omega) (by omega) (by omega) _ (lv_sub hl [0, 1, 2] rfl)
          · skip
            refine z_iinc (lv' := [(1, .int (zI (a + 1))), (2, .int (zI (i))), (0, .ref (ad 0))]) hx hb dX1_countLooseTies_28 hl (k := 1) rfl (by decide) rfl (fun ls hl => ?_)
            refine z_iinc (lv' := [(2, .int (zI (i + 1))), (1, .int (zI (a + 1))), (0, .ref (ad 0))]) hx hb dX1_countLooseTies_31 hl (k := 1) rfl (by decide) rfl (fun ls hl => ?_)
            refine lv_goto (tgt := 4) hx hb dX1_countLooseTies_34 (by decide) ?_
            exact ih (i + 1) (a + 1) (by omega) (by omega) (by rw [hs, ← h2]; unfold bI; split <;> omega) (by omega) (by omega) _ (lv_sub hl [0, 1, 2] rfl)
  exact lp_4 201 0 0 (by omega) (by omega) rfl (by omega) (by omega) _ (lv_sub hl [0, 1, 2] rfl)
set_option maxHeartbeats 2000000 in
theorem c_X1_arrangeTones (l : Launch) (G : zG) (ad : Nat → Nat) (T P S A : Nat → Int → Int) (F : Nat → Int) (sz : Nat) (hV : VOK T P (F 0)) : MW l yX1_arrangeTones cX1_arrangeTones 3 none 1 21 (0) (0) G [.ref (ad 0)] (fA 21 ad sz) sz (VP G ad T P S A F) (QV (fA 21 ad sz) (fun H => VP G ad T P S A (zN (zN F 5 (gTo (T 4) (F 0))) 6 (lTo (T 4) (F 0))) H)) := by
  refine mw_of hp_X1_arrangeTones (Nat.le_of_ble_eq_true rfl) ?_
  intro p env s m below meth c ls hB hsz hP hl
  obtain ⟨hx, hb, hml, hr, hlk, hown, hts, hG⟩ := hB
  subst hsz
  have hK := hG.1
  have hS : va_S (fA 21 ad s.heap.size) s.heap s.heap [] := va_S.rf
  have hA : ∀ q : Nat, (fA 21 ad s.heap.size) q → G.2.2 ≤ q := fA_lo hP.1.2 hG.2.1
  have hD : ∀ k, k < 21 → (fA 21 ad s.heap.size) (ad k) := fun k hk => fA_in hk
  have hl : lv_has ls 3 [(0, .ref (ad 0))] := hl
  have hn1 := hV.1
  have hn2 := hV.2.1
  refine lv_aload_n hx hb dX1_arrangeTones_0 rfl (lv_at hl 0 rfl) ?_
  refine z_iconst hx hb dX1_arrangeTones_1 ?_
  refine zv_put (x := -1) hx hb hK hts hown hP hS (hD 0 (by decide)) 5 (by decide) q_fl_RX1_45 dX1_arrangeTones_2 (fun H locs hP hz ho hS => ?_)
  refine lv_aload_n hx hb dX1_arrangeTones_5 rfl (lv_at hl 0 rfl) ?_
  refine z_iconst hx hb dX1_arrangeTones_6 ?_
  refine zv_put (x := -1) hx hb hK hts hown hP hS (hD 0 (by decide)) 6 (by decide) q_fl_RX1_48 dX1_arrangeTones_7 (fun H locs hP hz ho hS => ?_)
  refine z_iconst hx hb dX1_arrangeTones_10 ?_
  refine lv_istore_n (lv' := [(1, .int (zI (0))), (0, .ref (ad 0))]) hx hb dX1_arrangeTones_11 rfl hl (by decide) rfl (fun ls hl => ?_)
  have lp_12 : ∀ (n : Nat) (i g lo : Int), 0 ≤ i → i ≤ F 0 → g = gTo (T 4) i → lo = lTo (T 4) i → -1 ≤ g ∧ g ≤ 1000 → -1 ≤ lo ∧ lo ≤ 1000 → F 0 - i < n → ∀ (H : Heap) (locs : List Loc), VP G ad T P S A (zN (zN F 5 (g)) 6 (lo)) H → va_S (fA 21 ad s.heap.size) s.heap H locs → ∀ (ls : Array Slot), lv_has ls 3 [(1, .int (zI (i))), (0, .ref (ad 0))] → W p l env (rmz 1 21 0 0) s m (([.ref (ad 0)] : List Value).toArray) below meth c H locs 0 0 (MQ below (QV (fA 21 ad s.heap.size) (fun H => VP G ad T P S A (zN (zN F 5 (gTo (T 4) (F 0))) 6 (lTo (T 4) (F 0))) H)) (([.ref (ad 0)] : List Value).toArray) s 0 0 (fA 21 ad s.heap.size)) (F0 m 12 ls []) := by
    intro n
    induction n with
    | zero => intro i g lo h0 h1 h2 h3 h4 h5 hm H locs hP hS ls hl; exact absurd hm (by omega)
    | succ n ih =>
      intro i g lo h0 h1 h2 h3 h4 h5 hm H locs hP hS ls hl
      have hs5 : gTo (T 4) (i + 1) = if T 4 i = -1 then gTo (T 4) i else max (gTo (T 4) i) (T 4 i) := pf_s _ _ h0
      have hs6 : lTo (T 4) (i + 1) = if T 4 i = -1 then lTo (T 4) i else if lTo (T 4) i = -1 then T 4 i else min (lTo (T 4) i) (T 4 i) := pf_s _ _ h0
      refine lv_iload_n hx hb dX1_arrangeTones_12 rfl (lv_at hl 0 rfl) ?_
      refine lv_aload_n hx hb dX1_arrangeTones_13 rfl (lv_at hl 1 rfl) ?_
      refine zv_get hx hb hK hts hown hP 5 (by decide) q_fl_RX1_29 (v := .int (zI (F 0))) rfl dX1_arrangeTones_14 ?_
      refine z_icmp_ge (a := i) (b := F 0) (tgt := 79) hx hb dX1_arrangeTones_17 (by decide) (by omega) (by omega) (fun h_17 => ?_) (fun h_17 => ?_)
      · skip
        exact e_Wv hx hb hr hlk hS (by omega) (by omega) (by have h9 : F 0 = i := (by omega); rw [h9, ← h2, ← h3]; exact hP) dX1_arrangeTones_79
      · skip
        have hv := hV.2.2.1 i (by omega) (by omega)
        refine lv_aload_n hx hb dX1_arrangeTones_20 rfl (lv_at hl 1 rfl) ?_
        refine lv_iload_n hx hb dX1_arrangeTones_21 rfl (lv_at hl 0 rfl) ?_
        refine k_R (c_VR (As := [.int (zI (i))]) (rest := []) ⟨hx, hb, hml, hown, hts⟩ hG hS hA (c_X1_isNote l G ad T P S A (zN (zN F 5 (g)) 6 (lo)) i (show 0 ≤ i ∧ i < 200 by omega) (show -2147483648 ≤ T 4 i ∧ T 4 i ≤ 2147483647 by omega)) ⟨q_ml_RX1_76, q_im_X1_isNote, q_sel_X1_isNote, q_ini_RX1, q_code_X1_isNote⟩ hv_X1_isNote (VP.rec hK hP) hP ⟨by decide, by decide⟩ ⟨Nat.zero_le _, Nat.zero_le _⟩ rfl hl.1 rfl (Nat.le_of_ble_eq_true rfl) dX1_arrangeTones_22) ?_
        refine z_bif_eq (q := ¬ T 4 i = -1) (tgt := 73) hx hb dX1_arrangeTones_25 (by decide) (fun h_25 => ?_) (fun h_25 => ?_)
        · skip
          refine z_iinc (lv' := [(1, .int (zI (i + 1))), (0, .ref (ad 0))]) hx hb dX1_arrangeTones_73 hl (k := 0) rfl (by decide) rfl (fun ls hl => ?_)
          refine lv_goto (tgt := 12) hx hb dX1_arrangeTones_76 (by decide) ?_
          try rw [zN_C _ (show (6 : Nat) ≠ 5 by decide), zN_N, zN_N] at hP
          exact ih (i + 1) g lo (by omega) (by omega) (by rw [hs5, ← h2]; split <;> first | rfl | (exfalso; omega)) (by rw [hs6, ← h3]; (repeat' split) <;> first | rfl | (exfalso; omega)) (by omega) (by omega) (by omega) H _ hP hS _ (lv_sub hl [0, 1] rfl)
        · skip
          refine lv_aload_n hx hb dX1_arrangeTones_28 rfl (lv_at hl 1 rfl) ?_
          refine zv_get hx hb hK hts hown hP 0 (by decide) q_fl_RX1_11 (v := .ref (ad 1)) rfl dX1_arrangeTones_29 ?_
          refine z_iconst hx hb dX1_arrangeTones_32 ?_
          refine zv_aT hx hb hK hP (4) (by decide) (i := 4) rfl dX1_arrangeTones_33 ?_
          refine lv_iload_n hx hb dX1_arrangeTones_34 rfl (lv_at hl 0 rfl) ?_
          refine zv_lT hx hb hK hP (4) (by decide) (i := i) (by omega) dX1_arrangeTones_35 ?_
          refine lv_istore_n (lv' := [(2, .int (zI (T 4 (i)))), (1, .int (zI (i))), (0, .ref (ad 0))]) hx hb dX1_arrangeTones_36 rfl hl (by decide) rfl (fun ls hl => ?_)
          refine lv_aload_n hx hb dX1_arrangeTones_37 rfl (lv_at hl 2 rfl) ?_
          refine lv_aload_n hx hb dX1_arrangeTones_38 rfl (lv_at hl 2 rfl) ?_
          refine zv_get hx hb hK hts hown hP 10 (by decide) q_fl_RX1_45 (v := .int (zI (g))) rfl dX1_arrangeTones_39 ?_
          refine lv_iload_n hx hb dX1_arrangeTones_42 rfl (lv_at hl 0 rfl) ?_
          refine k_R (c_SR (As := [.int (zI (g)), .int (zI (T 4 (i)))]) (rest := [.ref (ad 0)]) ⟨hx, hb, hml, hown, hts⟩ hG hS hA (c_J9_max_7cf53 l G g (T 4 (i)) (show -2147483648 ≤ g ∧ g ≤ 2147483647 by omega) (show -2147483648 ≤ (T 4 (i)) ∧ (T 4 (i)) ≤ 2147483647 by omega)) ⟨q_ml_RX1_109, q_st_J9_max_7cf53, q_ini_RJ9, q_code_J9_max_7cf53⟩ hs_J9_max_7cf53 trivial ⟨by decide, by decide⟩ ⟨Nat.zero_le _, Nat.zero_le _⟩ rfl hl.1 rfl (Nat.le_of_ble_eq_true rfl) dX1_arrangeTones_43) ?_
          refine zv_put (x := max g (T 4 (i))) hx hb hK hts hown hP hS (hD 0 (by decide)) 5 (by decide) q_fl_RX1_45 dX1_arrangeTones_46 (fun H locs hP hz ho hS => ?_)
          refine lv_aload_n hx hb dX1_arrangeTones_49 rfl (lv_at hl 2 rfl) ?_
          refine lv_aload_n hx hb dX1_arrangeTones_50 rfl (lv_at hl 2 rfl) ?_
          refine zv_get hx hb hK hts hown hP 11 (by decide) q_fl_RX1_48 (v := .int (zI (lo))) rfl dX1_arrangeTones_51 ?_
          refine z_iconst hx hb dX1_arrangeTones_54 ?_
          refine z_icmp_ne (a := lo) (b := -1) (tgt := 62) hx hb dX1_arrangeTones_55 (by decide) (by omega) (by omega) (fun h_55 => ?_) (fun h_55 => ?_)
          · skip
            refine lv_aload_n hx hb dX1_arrangeTones_62 rfl (lv_at hl 2 rfl) ?_
            refine zv_get hx hb hK hts hown hP 11 (by decide) q_fl_RX1_48 (v := .int (zI (lo))) rfl dX1_arrangeTones_63 ?_
            refine lv_iload_n hx hb dX1_arrangeTones_66 rfl (lv_at hl 0 rfl) ?_
            refine k_R (c_SR (As := [.int (zI (lo)), .int (zI (T 4 (i)))]) (rest := [.ref (ad 0)]) ⟨hx, hb, hml, hown, hts⟩ hG hS hA (c_J9_min_7cf53 l G lo (T 4 (i)) (show -2147483648 ≤ lo ∧ lo ≤ 2147483647 by omega) (show -2147483648 ≤ (T 4 (i)) ∧ (T 4 (i)) ≤ 2147483647 by omega)) ⟨q_ml_RX1_114, q_st_J9_min_7cf53, q_ini_RJ9, q_code_J9_min_7cf53⟩ hs_J9_min_7cf53 trivial ⟨by decide, by decide⟩ ⟨Nat.zero_le _, Nat.zero_le _⟩ rfl hl.1 rfl (Nat.le_of_ble_eq_true rfl) dX1_arrangeTones_67) ?_
            refine zv_put (x := min lo (T 4 (i))) hx hb hK hts hown hP hS (hD 0 (by decide)) 6 (by decide) q_fl_RX1_48 dX1_arrangeTones_70 (fun H locs hP hz ho hS => ?_)
            refine z_iinc (lv' := [(1, .int (zI (i + 1))), (2, .int (zI (T 4 (i)))), (0, .ref (ad 0))]) hx hb dX1_arrangeTones_73 hl (k := 1) rfl (by decide) rfl (fun ls hl => ?_)
            refine lv_goto (tgt := 12) hx hb dX1_arrangeTones_76 (by decide) ?_
            try rw [zN_C _ (show (6 : Nat) ≠ 5 by decide), zN_N, zN_N] at hP
            exact ih (i + 1) (max g (T 4 (i))) (min lo (T 4 (i))) (by omega) (by omega) (by rw [hs5, ← h2]; split <;> first | rfl | (exfalso; omega)) (by rw [hs6, ← h3]; (repeat' split) <;> first | rfl | (exfalso; omega)) (by omega) (by omega) (by omega) H _ hP hS _ (lv_sub hl [0, 2] rfl)
          · skip
            refine lv_iload_n hx hb dX1_arrangeTones_58 rfl (lv_at hl 0 rfl) ?_
            refine lv_goto (tgt := 70) hx hb dX1_arrangeTones_59 (by decide) ?_
            refine zv_put (x := T 4 (i)) hx hb hK hts hown hP hS (hD 0 (by decide)) 6 (by decide) q_fl_RX1_48 dX1_arrangeTones_70 (fun H locs hP hz ho hS => ?_)
            refine z_iinc (lv' := [(1, .int (zI (i + 1))), (2, .int (zI (T 4 (i)))), (0, .ref (ad 0))]) hx hb dX1_arrangeTones_73 hl (k := 1) rfl (by decide) rfl (fun ls hl => ?_)
            refine lv_goto (tgt := 12) hx hb dX1_arrangeTones_76 (by decide) ?_
            try rw [zN_C _ (show (6 : Nat) ≠ 5 by decide), zN_N, zN_N] at hP
            exact ih (i + 1) (max g (T 4 (i))) (T 4 (i)) (by omega) (by omega) (by rw [hs5, ← h2]; split <;> first | rfl | (exfalso; omega)) (by rw [hs6, ← h3]; (repeat' split) <;> first | rfl | (exfalso; omega)) (by omega) (by omega) (by omega) H _ hP hS _ (lv_sub hl [0, 2] rfl)
  exact lp_12 201 0 (-1) (-1) (by omega) (by omega) rfl rfl (by omega) (by omega) (by omega) H _ hP hS _ (lv_sub hl [0, 1] rfl)
