def mEl (F : Nat → Int) (B : Int → Int → Int) (v e w : Int) : Int := if w = 0 then B v (10 * e + 7) else if w = 1 then mTk B v e else if w = 2 then B v (10 * e + 0) else if w = 3 then B v (10 * e + 1) else if w = 4 then mTn B v e else if w = 5 then B v (10 * e + 6) else if w = 6 then B v (10 * e + 7) / (F 1 * 384 / F 2) else if w = 7 then B v (10 * e + 8) else B v (10 * e + 9)
set_option maxHeartbeats 600000 in
theorem c_X3_elementTold (l : Launch) (G : zG) (ad : Nat → Nat) (F : Nat → Int) (A : Nat → Int → Int) (B : Int → Int → Int) (v e w : Int) (hv : 0 ≤ v ∧ v < 4) (he : 0 ≤ e ∧ e < A 0 v) (hb9 : 0 ≤ B v (10 * e + 7) ∧ B v (10 * e + 7) ≤ 1000000) (r1 : -2147483648 ≤ w ∧ w ≤ 2147483647) (hVM : MOK F A B) : MR l yX3_elementTold cX3_elementTold 4 (some .int) 2 45 G [.ref (ad 0), .int (zI (v)), .int (zI (e)), .int (zI (w))] (MP G ad F A B) (.int (zI (mEl F B v e w))) := by
  refine mr_of hp_X3_elementTold (Nat.le_of_ble_eq_true rfl) ?_
  intro p env s m below meth c ls hB hP hl
  obtain ⟨hx, hb, hml, hr, hlk, hown, hts, hG⟩ := hB
  have hK := hG.1
  have hS : va_S (fun _ => False) s.heap s.heap [] := va_S.rf
  have hA : ∀ q : Nat, (fun _ : Nat => False) q → G.2.2 ≤ q := fun _ h => h.elim
  have hl : lv_has ls 4 [(0, .ref (ad 0)), (1, .int (zI (v))), (2, .int (zI (e))), (3, .int (zI (w)))] := hl
  have hel := hVM.el hv he
  have hmn := hVM.many hv
  have h1 := hVM.1
  have h2 := hVM.2.1
  have hba : 48 ≤ F 1 * 384 / F 2 ∧ F 1 * 384 / F 2 ≤ 2304 := by rcases h2 with h | h | h <;> rw [h] <;> omega
  refine lv_iload_n hx hb dX3_elementTold_0 rfl (lv_at hl 3 rfl) ?_
  have hsw_1 : -2147483648 ≤ w ∧ w ≤ 2147483647 := (by omega)
  rcases (by omega : w < 0 ∨ 7 < w ∨ w = 0 ∨ w = 1 ∨ w = 2 ∨ w = 3 ∨ w = 4 ∨ w = 5 ∨ w = 6 ∨ w = 7) with h_1 | h_1 | h_1 | h_1 | h_1 | h_1 | h_1 | h_1 | h_1 | h_1
  · skip
    refine lv_tableOut (x := zI (w)) (tgt := 119) hx hb dX3_elementTold_1 (by rw [zI_toInt hsw_1]; omega) (by decide) ?_
    refine lv_aload_n hx hb dX3_elementTold_119 rfl (lv_at hl 0 rfl) ?_
    refine lv_iload_n hx hb dX3_elementTold_120 rfl (lv_at hl 1 rfl) ?_
    refine lv_iload_n hx hb dX3_elementTold_121 rfl (lv_at hl 2 rfl) ?_
    refine z_bipush hx hb dX3_elementTold_122 (by decide) ?_
    refine k_R (c_VR (As := [.int (zI (v)), .int (zI (e)), .int (zI (9))]) (rest := []) ⟨hx, hb, hml, hown, hts⟩ hG hS hA (c_X3_get l G ad F A B v e 9 (show 0 ≤ v ∧ v < 4 by omega) (show 0 ≤ 10 * e + 9 ∧ 10 * e + 9 < 2000 by omega)) ⟨q_ml_RX3_57, q_im_X3_get, q_sel_X3_get, q_ini_RX3, q_code_X3_get⟩ hv_X3_get (MP.rec hK hP) hP ⟨by decide, by decide⟩ ⟨Nat.zero_le _, Nat.zero_le _⟩ rfl hl.1 rfl (Nat.le_of_ble_eq_true rfl) dX3_elementTold_124) ?_
    exact e_R (r' := B v (10 * e + 9)) hx hb hr hlk (n_i _) (by first | rfl | omega | (simp only [mEl]; (repeat' split) <;> omega)) dX3_elementTold_127
  · skip
    refine lv_tableOut (x := zI (w)) (tgt := 119) hx hb dX3_elementTold_1 (by rw [zI_toInt hsw_1]; omega) (by decide) ?_
    refine lv_aload_n hx hb dX3_elementTold_119 rfl (lv_at hl 0 rfl) ?_
    refine lv_iload_n hx hb dX3_elementTold_120 rfl (lv_at hl 1 rfl) ?_
    refine lv_iload_n hx hb dX3_elementTold_121 rfl (lv_at hl 2 rfl) ?_
    refine z_bipush hx hb dX3_elementTold_122 (by decide) ?_
    refine k_R (c_VR (As := [.int (zI (v)), .int (zI (e)), .int (zI (9))]) (rest := []) ⟨hx, hb, hml, hown, hts⟩ hG hS hA (c_X3_get l G ad F A B v e 9 (show 0 ≤ v ∧ v < 4 by omega) (show 0 ≤ 10 * e + 9 ∧ 10 * e + 9 < 2000 by omega)) ⟨q_ml_RX3_57, q_im_X3_get, q_sel_X3_get, q_ini_RX3, q_code_X3_get⟩ hv_X3_get (MP.rec hK hP) hP ⟨by decide, by decide⟩ ⟨Nat.zero_le _, Nat.zero_le _⟩ rfl hl.1 rfl (Nat.le_of_ble_eq_true rfl) dX3_elementTold_124) ?_
    exact e_R (r' := B v (10 * e + 9)) hx hb hr hlk (n_i _) (by first | rfl | omega | (simp only [mEl]; (repeat' split) <;> omega)) dX3_elementTold_127
  · skip
    refine lv_tableIn (x := zI (w)) (off := 47) (tgt := 48) hx hb dX3_elementTold_1 (by rw [zI_toInt hsw_1]; omega) (by rw [zI_toInt hsw_1]; omega) (by rw [zI_toInt hsw_1, h_1]; rfl) (by decide) ?_
    refine lv_aload_n hx hb dX3_elementTold_48 rfl (lv_at hl 0 rfl) ?_
    refine lv_iload_n hx hb dX3_elementTold_49 rfl (lv_at hl 1 rfl) ?_
    refine lv_iload_n hx hb dX3_elementTold_50 rfl (lv_at hl 2 rfl) ?_
    refine z_bipush hx hb dX3_elementTold_51 (by decide) ?_
    refine k_R (c_VR (As := [.int (zI (v)), .int (zI (e)), .int (zI (7))]) (rest := []) ⟨hx, hb, hml, hown, hts⟩ hG hS hA (c_X3_get l G ad F A B v e 7 (show 0 ≤ v ∧ v < 4 by omega) (show 0 ≤ 10 * e + 7 ∧ 10 * e + 7 < 2000 by omega)) ⟨q_ml_RX3_57, q_im_X3_get, q_sel_X3_get, q_ini_RX3, q_code_X3_get⟩ hv_X3_get (MP.rec hK hP) hP ⟨by decide, by decide⟩ ⟨Nat.zero_le _, Nat.zero_le _⟩ rfl hl.1 rfl (Nat.le_of_ble_eq_true rfl) dX3_elementTold_53) ?_
    exact e_R (r' := B v (10 * e + 7)) hx hb hr hlk (n_i _) (by first | rfl | omega | (simp only [mEl]; (repeat' split) <;> omega)) dX3_elementTold_56
  · skip
    refine lv_tableIn (x := zI (w)) (off := 56) (tgt := 57) hx hb dX3_elementTold_1 (by rw [zI_toInt hsw_1]; omega) (by rw [zI_toInt hsw_1]; omega) (by rw [zI_toInt hsw_1, h_1]; rfl) (by decide) ?_
    refine lv_aload_n hx hb dX3_elementTold_57 rfl (lv_at hl 0 rfl) ?_
    refine lv_iload_n hx hb dX3_elementTold_58 rfl (lv_at hl 1 rfl) ?_
    refine lv_iload_n hx hb dX3_elementTold_59 rfl (lv_at hl 2 rfl) ?_
    refine k_R (c_VR (As := [.int (zI (v)), .int (zI (e))]) (rest := []) ⟨hx, hb, hml, hown, hts⟩ hG hS hA (c_X3_length l G ad F A B v e (show 0 ≤ v ∧ v < 4 by omega) (show 0 ≤ e ∧ e < A 0 v by omega) hVM) ⟨q_ml_RX3_85, q_im_X3_length, q_sel_X3_length, q_ini_RX3, q_code_X3_length⟩ hv_X3_length (MP.rec hK hP) hP ⟨by decide, by decide⟩ ⟨Nat.zero_le _, Nat.zero_le _⟩ rfl hl.1 rfl (Nat.le_of_ble_eq_true rfl) dX3_elementTold_60) ?_
    exact e_R (r' := mTk B v e) hx hb hr hlk (n_i _) (by first | rfl | omega | (simp only [mEl]; (repeat' split) <;> omega)) dX3_elementTold_63
  · skip
    refine lv_tableIn (x := zI (w)) (off := 63) (tgt := 64) hx hb dX3_elementTold_1 (by rw [zI_toInt hsw_1]; omega) (by rw [zI_toInt hsw_1]; omega) (by rw [zI_toInt hsw_1, h_1]; rfl) (by decide) ?_
    refine lv_aload_n hx hb dX3_elementTold_64 rfl (lv_at hl 0 rfl) ?_
    refine lv_iload_n hx hb dX3_elementTold_65 rfl (lv_at hl 1 rfl) ?_
    refine lv_iload_n hx hb dX3_elementTold_66 rfl (lv_at hl 2 rfl) ?_
    refine z_iconst hx hb dX3_elementTold_67 ?_
    refine k_R (c_VR (As := [.int (zI (v)), .int (zI (e)), .int (zI (0))]) (rest := []) ⟨hx, hb, hml, hown, hts⟩ hG hS hA (c_X3_get l G ad F A B v e 0 (show 0 ≤ v ∧ v < 4 by omega) (show 0 ≤ 10 * e + 0 ∧ 10 * e + 0 < 2000 by omega)) ⟨q_ml_RX3_57, q_im_X3_get, q_sel_X3_get, q_ini_RX3, q_code_X3_get⟩ hv_X3_get (MP.rec hK hP) hP ⟨by decide, by decide⟩ ⟨Nat.zero_le _, Nat.zero_le _⟩ rfl hl.1 rfl (Nat.le_of_ble_eq_true rfl) dX3_elementTold_68) ?_
    exact e_R (r' := B v (10 * e + 0)) hx hb hr hlk (n_i _) (by first | rfl | omega | (simp only [mEl]; (repeat' split) <;> omega)) dX3_elementTold_71
  · skip
    refine lv_tableIn (x := zI (w)) (off := 71) (tgt := 72) hx hb dX3_elementTold_1 (by rw [zI_toInt hsw_1]; omega) (by rw [zI_toInt hsw_1]; omega) (by rw [zI_toInt hsw_1, h_1]; rfl) (by decide) ?_
    refine lv_aload_n hx hb dX3_elementTold_72 rfl (lv_at hl 0 rfl) ?_
    refine lv_iload_n hx hb dX3_elementTold_73 rfl (lv_at hl 1 rfl) ?_
    refine lv_iload_n hx hb dX3_elementTold_74 rfl (lv_at hl 2 rfl) ?_
    refine z_iconst hx hb dX3_elementTold_75 ?_
    refine k_R (c_VR (As := [.int (zI (v)), .int (zI (e)), .int (zI (1))]) (rest := []) ⟨hx, hb, hml, hown, hts⟩ hG hS hA (c_X3_get l G ad F A B v e 1 (show 0 ≤ v ∧ v < 4 by omega) (show 0 ≤ 10 * e + 1 ∧ 10 * e + 1 < 2000 by omega)) ⟨q_ml_RX3_57, q_im_X3_get, q_sel_X3_get, q_ini_RX3, q_code_X3_get⟩ hv_X3_get (MP.rec hK hP) hP ⟨by decide, by decide⟩ ⟨Nat.zero_le _, Nat.zero_le _⟩ rfl hl.1 rfl (Nat.le_of_ble_eq_true rfl) dX3_elementTold_76) ?_
    exact e_R (r' := B v (10 * e + 1)) hx hb hr hlk (n_i _) (by first | rfl | omega | (simp only [mEl]; (repeat' split) <;> omega)) dX3_elementTold_79
  · skip
    refine lv_tableIn (x := zI (w)) (off := 79) (tgt := 80) hx hb dX3_elementTold_1 (by rw [zI_toInt hsw_1]; omega) (by rw [zI_toInt hsw_1]; omega) (by rw [zI_toInt hsw_1, h_1]; rfl) (by decide) ?_
    refine lv_aload_n hx hb dX3_elementTold_80 rfl (lv_at hl 0 rfl) ?_
    refine lv_iload_n hx hb dX3_elementTold_81 rfl (lv_at hl 1 rfl) ?_
    refine lv_iload_n hx hb dX3_elementTold_82 rfl (lv_at hl 2 rfl) ?_
    refine k_R (c_VR (As := [.int (zI (v)), .int (zI (e))]) (rest := []) ⟨hx, hb, hml, hown, hts⟩ hG hS hA (c_X3_tone l G ad F A B v e (show 0 ≤ v ∧ v < 4 by omega) (show 0 ≤ e ∧ e < A 0 v by omega) hVM) ⟨q_ml_RX3_133, q_im_X3_tone, q_sel_X3_tone, q_ini_RX3, q_code_X3_tone⟩ hv_X3_tone (MP.rec hK hP) hP ⟨by decide, by decide⟩ ⟨Nat.zero_le _, Nat.zero_le _⟩ rfl hl.1 rfl (Nat.le_of_ble_eq_true rfl) dX3_elementTold_83) ?_
    exact e_R (r' := mTn B v e) hx hb hr hlk (n_i _) (by first | rfl | omega | (simp only [mEl]; (repeat' split) <;> omega)) dX3_elementTold_86
  · skip
    refine lv_tableIn (x := zI (w)) (off := 86) (tgt := 87) hx hb dX3_elementTold_1 (by rw [zI_toInt hsw_1]; omega) (by rw [zI_toInt hsw_1]; omega) (by rw [zI_toInt hsw_1, h_1]; rfl) (by decide) ?_
    refine lv_aload_n hx hb dX3_elementTold_87 rfl (lv_at hl 0 rfl) ?_
    refine lv_iload_n hx hb dX3_elementTold_88 rfl (lv_at hl 1 rfl) ?_
    refine lv_iload_n hx hb dX3_elementTold_89 rfl (lv_at hl 2 rfl) ?_
    refine z_bipush hx hb dX3_elementTold_90 (by decide) ?_
    refine k_R (c_VR (As := [.int (zI (v)), .int (zI (e)), .int (zI (6))]) (rest := []) ⟨hx, hb, hml, hown, hts⟩ hG hS hA (c_X3_get l G ad F A B v e 6 (show 0 ≤ v ∧ v < 4 by omega) (show 0 ≤ 10 * e + 6 ∧ 10 * e + 6 < 2000 by omega)) ⟨q_ml_RX3_57, q_im_X3_get, q_sel_X3_get, q_ini_RX3, q_code_X3_get⟩ hv_X3_get (MP.rec hK hP) hP ⟨by decide, by decide⟩ ⟨Nat.zero_le _, Nat.zero_le _⟩ rfl hl.1 rfl (Nat.le_of_ble_eq_true rfl) dX3_elementTold_92) ?_
    exact e_R (r' := B v (10 * e + 6)) hx hb hr hlk (n_i _) (by first | rfl | omega | (simp only [mEl]; (repeat' split) <;> omega)) dX3_elementTold_95
  · skip
    refine lv_tableIn (x := zI (w)) (off := 95) (tgt := 96) hx hb dX3_elementTold_1 (by rw [zI_toInt hsw_1]; omega) (by rw [zI_toInt hsw_1]; omega) (by rw [zI_toInt hsw_1, h_1]; rfl) (by decide) ?_
    refine lv_aload_n hx hb dX3_elementTold_96 rfl (lv_at hl 0 rfl) ?_
    refine lv_iload_n hx hb dX3_elementTold_97 rfl (lv_at hl 1 rfl) ?_
    refine lv_iload_n hx hb dX3_elementTold_98 rfl (lv_at hl 2 rfl) ?_
    refine z_bipush hx hb dX3_elementTold_99 (by decide) ?_
    refine k_R (c_VR (As := [.int (zI (v)), .int (zI (e)), .int (zI (7))]) (rest := []) ⟨hx, hb, hml, hown, hts⟩ hG hS hA (c_X3_get l G ad F A B v e 7 (show 0 ≤ v ∧ v < 4 by omega) (show 0 ≤ 10 * e + 7 ∧ 10 * e + 7 < 2000 by omega)) ⟨q_ml_RX3_57, q_im_X3_get, q_sel_X3_get, q_ini_RX3, q_code_X3_get⟩ hv_X3_get (MP.rec hK hP) hP ⟨by decide, by decide⟩ ⟨Nat.zero_le _, Nat.zero_le _⟩ rfl hl.1 rfl (Nat.le_of_ble_eq_true rfl) dX3_elementTold_101) ?_
    refine lv_aload_n hx hb dX3_elementTold_104 rfl (lv_at hl 0 rfl) ?_
    refine k_R (c_VR (As := []) (rest := [.int (zI (B v (10 * e + 7)))]) ⟨hx, hb, hml, hown, hts⟩ hG hS hA (c_X3_bar l G ad F A B hVM) ⟨q_ml_RX3_81, q_im_X3_bar, q_sel_X3_bar, q_ini_RX3, q_code_X3_bar⟩ hv_X3_bar (MP.rec hK hP) hP ⟨by decide, by decide⟩ ⟨Nat.zero_le _, Nat.zero_le _⟩ rfl hl.1 rfl (Nat.le_of_ble_eq_true rfl) dX3_elementTold_105) ?_
    refine z_idiv hx hb dX3_elementTold_108 (by omega) (by omega) ?_
    exact e_R (r' := (B v (10 * e + 7)) / ((F 1) * 384 / (F 2))) hx hb hr hlk (n_i _) (by first | rfl | omega | (simp only [mEl]; (repeat' split) <;> omega)) dX3_elementTold_109
  · skip
    refine lv_tableIn (x := zI (w)) (off := 109) (tgt := 110) hx hb dX3_elementTold_1 (by rw [zI_toInt hsw_1]; omega) (by rw [zI_toInt hsw_1]; omega) (by rw [zI_toInt hsw_1, h_1]; rfl) (by decide) ?_
    refine lv_aload_n hx hb dX3_elementTold_110 rfl (lv_at hl 0 rfl) ?_
    refine lv_iload_n hx hb dX3_elementTold_111 rfl (lv_at hl 1 rfl) ?_
    refine lv_iload_n hx hb dX3_elementTold_112 rfl (lv_at hl 2 rfl) ?_
    refine z_bipush hx hb dX3_elementTold_113 (by decide) ?_
    refine k_R (c_VR (As := [.int (zI (v)), .int (zI (e)), .int (zI (8))]) (rest := []) ⟨hx, hb, hml, hown, hts⟩ hG hS hA (c_X3_get l G ad F A B v e 8 (show 0 ≤ v ∧ v < 4 by omega) (show 0 ≤ 10 * e + 8 ∧ 10 * e + 8 < 2000 by omega)) ⟨q_ml_RX3_57, q_im_X3_get, q_sel_X3_get, q_ini_RX3, q_code_X3_get⟩ hv_X3_get (MP.rec hK hP) hP ⟨by decide, by decide⟩ ⟨Nat.zero_le _, Nat.zero_le _⟩ rfl hl.1 rfl (Nat.le_of_ble_eq_true rfl) dX3_elementTold_115) ?_
    exact e_R (r' := B v (10 * e + 8)) hx hb hr hlk (n_i _) (by first | rfl | omega | (simp only [mEl]; (repeat' split) <;> omega)) dX3_elementTold_118
def mBe (B : Int → Int → Int) (v n x : Int) : Int := if fp (fun k => B v (10 * k + 7) = x ∧ B v (10 * k + 2) = 1) n < n then fp (fun k => B v (10 * k + 7) = x ∧ B v (10 * k + 2) = 1) n else -1
set_option maxHeartbeats 600000 in
theorem c_X3_begins (l : Launch) (G : zG) (ad : Nat → Nat) (F : Nat → Int) (A : Nat → Int → Int) (B : Int → Int → Int) (v x : Int) (hv : 0 ≤ v ∧ v < 4) (r1 : -2147483648 ≤ x ∧ x ≤ 2147483647) (hVb : ∀ k, 0 ≤ k → k < A 0 v → -2147483648 ≤ B v (10 * k + 7) ∧ B v (10 * k + 7) ≤ 2147483647) (hVM : MOK F A B) : MR l yX3_begins cX3_begins 4 (some .int) 1 23 G [.ref (ad 0), .int (zI (v)), .int (zI (x))] (MP G ad F A B) (.int (zI (mBe B v (A 0 v) x))) := by
  refine mr_of hp_X3_begins (Nat.le_of_ble_eq_true rfl) ?_
  intro p env s m below meth c ls hB hP hl
  obtain ⟨hx, hb, hml, hr, hlk, hown, hts, hG⟩ := hB
  have hK := hG.1
  have hS : va_S (fun _ => False) s.heap s.heap [] := va_S.rf
  have hA : ∀ q : Nat, (fun _ : Nat => False) q → G.2.2 ≤ q := fun _ h => h.elim
  have hl : lv_has ls 4 [(0, .ref (ad 0)), (1, .int (zI (v))), (2, .int (zI (x)))] := hl
  have hmn := hVM.many hv
  refine z_iconst hx hb dX3_begins_0 ?_
  refine lv_istore_n (lv' := [(3, .int (zI (0))), (0, .ref (ad 0)), (1, .int (zI (v))), (2, .int (zI (x)))]) hx hb dX3_begins_1 rfl hl (by decide) rfl (fun ls hl => ?_)
  have lp_2 : ∀ (n : Nat) (i : Int), 0 ≤ i → i ≤ A 0 v → fp (fun k => B v (10 * k + 7) = x ∧ B v (10 * k + 2) = 1) i = i → A 0 v - i < n → ∀ (ls : Array Slot), lv_has ls 4 [(3, .int (zI (i))), (0, .ref (ad 0)), (1, .int (zI (v))), (2, .int (zI (x)))] → W p l env (rmz 1 23 0 0) s m (([.ref (ad 0), .int (zI (v)), .int (zI (x))] : List Value).toArray) below meth c s.heap [] 0 0 (MQ below (QR (.int (zI (mBe B v (A 0 v) x)))) (([.ref (ad 0), .int (zI (v)), .int (zI (x))] : List Value).toArray) s 0 0 (fun _ => False)) (F0 m 2 ls []) := by
    intro n
    induction n with
    | zero => intro i h0 h1 h2 hm ls hl; exact absurd hm (by omega)
    | succ n ih =>
      intro i h0 h1 h2 hm ls hl
      refine lv_iload_n hx hb dX3_begins_2 rfl (lv_at hl 0 rfl) ?_
      refine lv_aload_n hx hb dX3_begins_3 rfl (lv_at hl 1 rfl) ?_
      refine zm_get hx hb hK hts hown hP 5 (by decide) q_fl_RX3_16 (v := .ref (ad 1)) rfl dX3_begins_4 ?_
      refine lv_iload_n hx hb dX3_begins_7 rfl (lv_at hl 2 rfl) ?_
      refine zm_lA0 hx hb hK hP (i := v) (by omega) dX3_begins_8 ?_
      refine z_icmp_ge (a := i) (b := A 0 (v)) (tgt := 43) hx hb dX3_begins_9 (by decide) (by omega) (by omega) (fun h_9 => ?_) (fun h_9 => ?_)
      · skip
        refine z_iconst hx hb dX3_begins_43 ?_
        exact e_R (r' := -1) hx hb hr hlk (n_i _) (by have h9 : A 0 v = i := (by omega); unfold mBe; rw [if_neg (by rw [h9, h2]; omega)]) dX3_begins_44
      · skip
        have hel := hVM.el hv (e := i) (by omega)
        have hb9 := hVb i (by omega) (by omega)
        refine lv_aload_n hx hb dX3_begins_12 rfl (lv_at hl 1 rfl) ?_
        refine lv_iload_n hx hb dX3_begins_13 rfl (lv_at hl 2 rfl) ?_
        refine lv_iload_n hx hb dX3_begins_14 rfl (lv_at hl 0 rfl) ?_
        refine z_bipush hx hb dX3_begins_15 (by decide) ?_
        refine k_R (c_VR (As := [.int (zI (v)), .int (zI (i)), .int (zI (7))]) (rest := []) ⟨hx, hb, hml, hown, hts⟩ hG hS hA (c_X3_get l G ad F A B v i 7 (show 0 ≤ v ∧ v < 4 by omega) (show 0 ≤ 10 * i + 7 ∧ 10 * i + 7 < 2000 by omega)) ⟨q_ml_RX3_57, q_im_X3_get, q_sel_X3_get, q_ini_RX3, q_code_X3_get⟩ hv_X3_get (MP.rec hK hP) hP ⟨by decide, by decide⟩ ⟨Nat.zero_le _, Nat.zero_le _⟩ rfl hl.1 rfl (Nat.le_of_ble_eq_true rfl) dX3_begins_17) ?_
        refine lv_iload_n hx hb dX3_begins_20 rfl (lv_at hl 3 rfl) ?_
        refine z_icmp_ne (a := B v (10 * i + 7)) (b := x) (tgt := 37) hx hb dX3_begins_21 (by decide) (by omega) (by omega) (fun h_21 => ?_) (fun h_21 => ?_)
        · skip
          refine z_iinc (lv' := [(3, .int (zI (i + 1))), (0, .ref (ad 0)), (1, .int (zI (v))), (2, .int (zI (x)))]) hx hb dX3_begins_37 hl (k := 0) rfl (by decide) rfl (fun ls hl => ?_)
          refine lv_goto (tgt := 2) hx hb dX3_begins_40 (by decide) ?_
          exact ih (i + 1) (by omega) (by omega) (fp_no h0 h2 (by show ¬ (B v (10 * i + 7) = x ∧ B v (10 * i + 2) = 1); omega)) (by omega) _ (lv_sub hl [0, 1, 2, 3] rfl)
        · skip
          refine lv_aload_n hx hb dX3_begins_24 rfl (lv_at hl 1 rfl) ?_
          refine lv_iload_n hx hb dX3_begins_25 rfl (lv_at hl 2 rfl) ?_
          refine lv_iload_n hx hb dX3_begins_26 rfl (lv_at hl 0 rfl) ?_
          refine z_iconst hx hb dX3_begins_27 ?_
          refine k_R (c_VR (As := [.int (zI (v)), .int (zI (i)), .int (zI (2))]) (rest := []) ⟨hx, hb, hml, hown, hts⟩ hG hS hA (c_X3_get l G ad F A B v i 2 (show 0 ≤ v ∧ v < 4 by omega) (show 0 ≤ 10 * i + 2 ∧ 10 * i + 2 < 2000 by omega)) ⟨q_ml_RX3_57, q_im_X3_get, q_sel_X3_get, q_ini_RX3, q_code_X3_get⟩ hv_X3_get (MP.rec hK hP) hP ⟨by decide, by decide⟩ ⟨Nat.zero_le _, Nat.zero_le _⟩ rfl hl.1 rfl (Nat.le_of_ble_eq_true rfl) dX3_begins_28) ?_
          refine z_iconst hx hb dX3_begins_31 ?_
          refine z_icmp_ne (a := B v (10 * i + 2)) (b := 1) (tgt := 37) hx hb dX3_begins_32 (by decide) (by omega) (by omega) (fun h_32 => ?_) (fun h_32 => ?_)
          · skip
            refine z_iinc (lv' := [(3, .int (zI (i + 1))), (0, .ref (ad 0)), (1, .int (zI (v))), (2, .int (zI (x)))]) hx hb dX3_begins_37 hl (k := 0) rfl (by decide) rfl (fun ls hl => ?_)
            refine lv_goto (tgt := 2) hx hb dX3_begins_40 (by decide) ?_
            exact ih (i + 1) (by omega) (by omega) (fp_no h0 h2 (by show ¬ (B v (10 * i + 7) = x ∧ B v (10 * i + 2) = 1); omega)) (by omega) _ (lv_sub hl [0, 1, 2, 3] rfl)
          · skip
            refine lv_iload_n hx hb dX3_begins_35 rfl (lv_at hl 0 rfl) ?_
            exact e_R (r' := i) hx hb hr hlk (n_i _) (by have h9 := fp_yes (q := (fun k => B v (10 * k + 7) = x ∧ B v (10 * k + 2) = 1)) (n := A 0 v) h0 h2 ⟨by omega, by omega⟩ (by omega); unfold mBe; rw [if_pos (by rw [h9]; omega), h9]) dX3_begins_36
  exact lp_2 201 0 (by omega) (by omega) rfl (by omega) _ (lv_sub hl [0, 1, 2, 3] rfl)
