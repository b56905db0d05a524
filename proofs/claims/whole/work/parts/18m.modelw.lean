set_option maxHeartbeats 2000000 in
theorem c_X3_tie (l : Launch) (G : zG) (ad : Nat → Nat) (F : Nat → Int) (A : Nat → Int → Int) (B : Int → Int → Int) (v e t : Int) (sz : Nat) (r1 : -2147483648 ≤ v ∧ v ≤ 2147483647) (r2 : -2147483648 ≤ e ∧ e ≤ 2147483647) (r3 : -2147483648 ≤ t ∧ t ≤ 2147483647) (ht9 : t = 0 ∨ t = 1) (hVM : MOK F A B) : MW l yX3_tie cX3_tie 5 (some .boolean) 3 65 (0) (0) G [.ref (ad 0), .int (zI (v)), .int (zI (e)), .int (zI (t))] (fA 11 ad sz) sz (MP G ad F A B) (QW (fA 11 ad sz) (fun r H => (¬ ((0 ≤ v ∧ v ≤ F 4 - 1) ∧ 0 ≤ e ∧ e ≤ A 0 v - 1) ∧ r = 0 ∧ MP G ad (zN F 0 1) A B H) ∨ (((0 ≤ v ∧ v ≤ F 4 - 1) ∧ 0 ≤ e ∧ e ≤ A 0 v - 1) ∧ B v (10 * e + 2) = 0 ∧ r = 0 ∧ MP G ad (zN F 0 2) A B H) ∨ (((0 ≤ v ∧ v ≤ F 4 - 1) ∧ 0 ≤ e ∧ e ≤ A 0 v - 1) ∧ ¬ B v (10 * e + 2) = 0 ∧ r = bI (B v (10 * e + 6) = 1) ∧ MP G ad (zN F 0 0) A (zB B v (10 * e + 6) t) H))) := by
  refine mw_of hp_X3_tie (Nat.le_of_ble_eq_true rfl) ?_
  intro p env s m below meth c ls hB hsz hP hl
  obtain ⟨hx, hb, hml, hr, hlk, hown, hts, hG⟩ := hB
  subst hsz
  have hK := hG.1
  have hS : va_S (fA 11 ad s.heap.size) s.heap s.heap [] := va_S.rf
  have hA : ∀ q : Nat, (fA 11 ad s.heap.size) q → G.2.2 ≤ q := fA_lo hP.1.2 hG.2.1
  have hD : ∀ k, k < 11 → (fA 11 ad s.heap.size) (ad k) := fun k hk => fA_in hk
  have hl : lv_has ls 5 [(0, .ref (ad 0)), (1, .int (zI (v))), (2, .int (zI (e))), (3, .int (zI (t)))] := hl
  have h1b := hVM.1
  have h2b := hVM.2.1
  have h3b := hVM.2.2.1
  have h4b := hVM.2.2.2.1
  refine lv_aload_n hx hb dX3_tie_0 rfl (lv_at hl 0 rfl) ?_
  refine lv_aload_n hx hb dX3_tie_1 rfl (lv_at hl 0 rfl) ?_
  refine lv_iload_n hx hb dX3_tie_2 rfl (lv_at hl 1 rfl) ?_
  refine lv_iload_n hx hb dX3_tie_3 rfl (lv_at hl 2 rfl) ?_
  refine k_R (c_VR (As := [.int (zI (v)), .int (zI (e))]) (rest := [.ref (ad 0)]) ⟨hx, hb, hml, hown, hts⟩ hG hS hA (c_X3_isElement l G ad F A B v e (by omega) (by omega) hVM) ⟨q_ml_RX3_130, q_im_X3_isElement, q_sel_X3_isElement, q_ini_RX3, q_code_X3_isElement⟩ hv_X3_isElement (MP.rec hK hP) hP ⟨by decide, by decide⟩ ⟨Nat.zero_le _, Nat.zero_le _⟩ rfl hl.1 rfl (Nat.le_of_ble_eq_true rfl) dX3_tie_4) ?_
  refine z_bif_ne (q := (0 ≤ v ∧ v ≤ (F 4) - 1) ∧ 0 ≤ e ∧ e ≤ A 0 v - 1) (tgt := 14) hx hb dX3_tie_7 (by decide) (fun h_7 => ?_) (fun h_7 => ?_)
  · skip
    have hmn := hVM.many (v := v) (by omega)
    have hel := hVM.el (v := v) (by omega) (e := e) (by omega)
    refine lv_aload_n hx hb dX3_tie_14 rfl (lv_at hl 0 rfl) ?_
    refine lv_iload_n hx hb dX3_tie_15 rfl (lv_at hl 1 rfl) ?_
    refine lv_iload_n hx hb dX3_tie_16 rfl (lv_at hl 2 rfl) ?_
    refine z_iconst hx hb dX3_tie_17 ?_
    refine k_R (c_VR (As := [.int (zI (v)), .int (zI (e)), .int (zI (2))]) (rest := [.ref (ad 0)]) ⟨hx, hb, hml, hown, hts⟩ hG hS hA (c_X3_get l G ad F A B v e 2 (show 0 ≤ v ∧ v < 4 by omega) (show 0 ≤ 10 * e + 2 ∧ 10 * e + 2 < 2000 by omega)) ⟨q_ml_RX3_57, q_im_X3_get, q_sel_X3_get, q_ini_RX3, q_code_X3_get⟩ hv_X3_get (MP.rec hK hP) hP ⟨by decide, by decide⟩ ⟨Nat.zero_le _, Nat.zero_le _⟩ rfl hl.1 rfl (Nat.le_of_ble_eq_true rfl) dX3_tie_18) ?_
    refine z_if_ne (a := B v (10 * e + 2)) (tgt := 28) hx hb dX3_tie_21 (by decide) (by omega) (fun h_21 => ?_) (fun h_21 => ?_)
    · skip
      refine z_iconst hx hb dX3_tie_28 ?_
      refine zm_put (x := 0) hx hb hK hts hown hP hS (hD 0 (by decide)) 0 (by decide) q_fl_RX3_37 dX3_tie_29 (fun H locs hP hz ho hS => ?_)
      refine lv_aload_n hx hb dX3_tie_32 rfl (lv_at hl 0 rfl) ?_
      refine zm_get hx hb hK hts hown hP 0 (by decide) q_fl_RX3_37 (v := .int (zI (0))) rfl dX3_tie_33 ?_
      refine z_if_eq (a := 0) (tgt := 41) hx hb dX3_tie_36 (by decide) (by omega) (fun h_36 => ?_) (fun h_36 => ?_)
      · skip
        have h79 : (0 ≤ v ∧ v ≤ F 4 - 1) ∧ 0 ≤ e ∧ e ≤ A 0 v - 1 := by first | exact h_7 | (exfalso; omega)
        have hmn := hVM.many (v := v) (by omega)
        have hel := hVM.el (v := v) (by omega) (e := e) (by omega)
        refine lv_aload_n hx hb dX3_tie_41 rfl (lv_at hl 0 rfl) ?_
        refine lv_iload_n hx hb dX3_tie_42 rfl (lv_at hl 1 rfl) ?_
        refine lv_iload_n hx hb dX3_tie_43 rfl (lv_at hl 2 rfl) ?_
        refine z_bipush hx hb dX3_tie_44 (by decide) ?_
        refine k_R (c_VR (As := [.int (zI (v)), .int (zI (e)), .int (zI (6))]) (rest := []) ⟨hx, hb, hml, hown, hts⟩ hG hS hA (c_X3_get l G ad (zN F 0 (0)) A B v e 6 (show 0 ≤ v ∧ v < 4 by omega) (show 0 ≤ 10 * e + 6 ∧ 10 * e + 6 < 2000 by omega)) ⟨q_ml_RX3_57, q_im_X3_get, q_sel_X3_get, q_ini_RX3, q_code_X3_get⟩ hv_X3_get (MP.rec hK hP) hP ⟨by decide, by decide⟩ ⟨Nat.zero_le _, Nat.zero_le _⟩ rfl hl.1 rfl (Nat.le_of_ble_eq_true rfl) dX3_tie_46) ?_
        refine z_iconst hx hb dX3_tie_49 ?_
        refine z_icmp_ne (a := B v (10 * e + 6)) (b := 1) (tgt := 57) hx hb dX3_tie_50 (by decide) (by omega) (by omega) (fun h_50 => ?_) (fun h_50 => ?_)
        · skip
          refine z_iconst hx hb dX3_tie_57 ?_
          refine lv_istore (lv' := [(4, .int (zI (0))), (0, .ref (ad 0)), (1, .int (zI (v))), (2, .int (zI (e))), (3, .int (zI (t)))]) hx hb dX3_tie_58 hl (by decide) rfl (fun ls hl => ?_)
          refine lv_aload_n hx hb dX3_tie_60 rfl (lv_at hl 1 rfl) ?_
          refine zm_get hx hb hK hts hown hP 6 (by decide) q_fl_RX3_22 (v := .ref (ad 2)) rfl dX3_tie_61 ?_
          refine lv_iload_n hx hb dX3_tie_64 rfl (lv_at hl 2 rfl) ?_
          refine zm_aB hx hb hK hP (i := v) (by omega) dX3_tie_65 ?_
          refine z_bipush hx hb dX3_tie_66 (by decide) ?_
          refine lv_iload_n hx hb dX3_tie_68 rfl (lv_at hl 3 rfl) ?_
          refine z_imul (x := 10) (y := e) hx hb dX3_tie_69 ?_
          refine z_bipush hx hb dX3_tie_70 (by decide) ?_
          refine z_iadd (x := (10) * (e)) (y := 6) hx hb dX3_tie_72 ?_
          refine lv_iload_n hx hb dX3_tie_73 rfl (lv_at hl 4 rfl) ?_
          refine z_if_eq (a := t) (tgt := 81) hx hb dX3_tie_74 (by decide) (by omega) (fun h_74 => ?_) (fun h_74 => ?_)
          · skip
            refine z_iconst hx hb dX3_tie_81 ?_
            refine zm_sB (x := 0) hx hb hK hP hS (v := v) (by omega) (hD (3 + (v).toNat) (by omega)) (i := ((10) * (e)) + (6)) (by omega) dX3_tie_82 (fun H locs hP hz ho hS => ?_)
            refine lv_iload hx hb dX3_tie_83 (lv_at hl 0 rfl) ?_
            exact e_Wi (r := 0) hx hb hr hlk (n_z (by first | exact bI_01 _ | (left; rfl) | (right; rfl) | omega)) hS (by omega) (by omega) (by first | (exfalso; omega) | exact (Or.inr (Or.inr ⟨h_7, by omega, bI_t (by omega), (by rw [show t = 1 by omega]; exact hP)⟩)) | exact (Or.inr (Or.inr ⟨h_7, by omega, bI_t (by omega), (by rw [show t = 0 by omega]; exact hP)⟩)) | exact (Or.inr (Or.inr ⟨h_7, by omega, bI_f (by omega), (by rw [show t = 1 by omega]; exact hP)⟩)) | exact (Or.inr (Or.inr ⟨h_7, by omega, bI_f (by omega), (by rw [show t = 0 by omega]; exact hP)⟩))) dX3_tie_85
          · skip
            refine z_iconst hx hb dX3_tie_77 ?_
            refine lv_goto (tgt := 82) hx hb dX3_tie_78 (by decide) ?_
            refine zm_sB (x := 1) hx hb hK hP hS (v := v) (by omega) (hD (3 + (v).toNat) (by omega)) (i := ((10) * (e)) + (6)) (by omega) dX3_tie_82 (fun H locs hP hz ho hS => ?_)
            refine lv_iload hx hb dX3_tie_83 (lv_at hl 0 rfl) ?_
            exact e_Wi (r := 0) hx hb hr hlk (n_z (by first | exact bI_01 _ | (left; rfl) | (right; rfl) | omega)) hS (by omega) (by omega) (by first | (exfalso; omega) | exact (Or.inr (Or.inr ⟨h_7, by omega, bI_t (by omega), (by rw [show t = 1 by omega]; exact hP)⟩)) | exact (Or.inr (Or.inr ⟨h_7, by omega, bI_t (by omega), (by rw [show t = 0 by omega]; exact hP)⟩)) | exact (Or.inr (Or.inr ⟨h_7, by omega, bI_f (by omega), (by rw [show t = 1 by omega]; exact hP)⟩)) | exact (Or.inr (Or.inr ⟨h_7, by omega, bI_f (by omega), (by rw [show t = 0 by omega]; exact hP)⟩))) dX3_tie_85
        · skip
          refine z_iconst hx hb dX3_tie_53 ?_
          refine lv_goto (tgt := 58) hx hb dX3_tie_54 (by decide) ?_
          refine lv_istore (lv' := [(4, .int (zI (1))), (0, .ref (ad 0)), (1, .int (zI (v))), (2, .int (zI (e))), (3, .int (zI (t)))]) hx hb dX3_tie_58 hl (by decide) rfl (fun ls hl => ?_)
          refine lv_aload_n hx hb dX3_tie_60 rfl (lv_at hl 1 rfl) ?_
          refine zm_get hx hb hK hts hown hP 6 (by decide) q_fl_RX3_22 (v := .ref (ad 2)) rfl dX3_tie_61 ?_
          refine lv_iload_n hx hb dX3_tie_64 rfl (lv_at hl 2 rfl) ?_
          refine zm_aB hx hb hK hP (i := v) (by omega) dX3_tie_65 ?_
          refine z_bipush hx hb dX3_tie_66 (by decide) ?_
          refine lv_iload_n hx hb dX3_tie_68 rfl (lv_at hl 3 rfl) ?_
          refine z_imul (x := 10) (y := e) hx hb dX3_tie_69 ?_
          refine z_bipush hx hb dX3_tie_70 (by decide) ?_
          refine z_iadd (x := (10) * (e)) (y := 6) hx hb dX3_tie_72 ?_
          refine lv_iload_n hx hb dX3_tie_73 rfl (lv_at hl 4 rfl) ?_
          refine z_if_eq (a := t) (tgt := 81) hx hb dX3_tie_74 (by decide) (by omega) (fun h_74 => ?_) (fun h_74 => ?_)
          · skip
            refine z_iconst hx hb dX3_tie_81 ?_
            refine zm_sB (x := 0) hx hb hK hP hS (v := v) (by omega) (hD (3 + (v).toNat) (by omega)) (i := ((10) * (e)) + (6)) (by omega) dX3_tie_82 (fun H locs hP hz ho hS => ?_)
            refine lv_iload hx hb dX3_tie_83 (lv_at hl 0 rfl) ?_
            exact e_Wi (r := 1) hx hb hr hlk (n_z (by first | exact bI_01 _ | (left; rfl) | (right; rfl) | omega)) hS (by omega) (by omega) (by first | (exfalso; omega) | exact (Or.inr (Or.inr ⟨h_7, by omega, bI_t (by omega), (by rw [show t = 1 by omega]; exact hP)⟩)) | exact (Or.inr (Or.inr ⟨h_7, by omega, bI_t (by omega), (by rw [show t = 0 by omega]; exact hP)⟩)) | exact (Or.inr (Or.inr ⟨h_7, by omega, bI_f (by omega), (by rw [show t = 1 by omega]; exact hP)⟩)) | exact (Or.inr (Or.inr ⟨h_7, by omega, bI_f (by omega), (by rw [show t = 0 by omega]; exact hP)⟩))) dX3_tie_85
          · skip
            refine z_iconst hx hb dX3_tie_77 ?_
            refine lv_goto (tgt := 82) hx hb dX3_tie_78 (by decide) ?_
            refine zm_sB (x := 1) hx hb hK hP hS (v := v) (by omega) (hD (3 + (v).toNat) (by omega)) (i := ((10) * (e)) + (6)) (by omega) dX3_tie_82 (fun H locs hP hz ho hS => ?_)
            refine lv_iload hx hb dX3_tie_83 (lv_at hl 0 rfl) ?_
            exact e_Wi (r := 1) hx hb hr hlk (n_z (by first | exact bI_01 _ | (left; rfl) | (right; rfl) | omega)) hS (by omega) (by omega) (by first | (exfalso; omega) | exact (Or.inr (Or.inr ⟨h_7, by omega, bI_t (by omega), (by rw [show t = 1 by omega]; exact hP)⟩)) | exact (Or.inr (Or.inr ⟨h_7, by omega, bI_t (by omega), (by rw [show t = 0 by omega]; exact hP)⟩)) | exact (Or.inr (Or.inr ⟨h_7, by omega, bI_f (by omega), (by rw [show t = 1 by omega]; exact hP)⟩)) | exact (Or.inr (Or.inr ⟨h_7, by omega, bI_f (by omega), (by rw [show t = 0 by omega]; exact hP)⟩))) dX3_tie_85
      · skip
        refine z_iconst hx hb dX3_tie_39 ?_
        exact e_Wi (r := 0) hx hb hr hlk (n_z (by first | exact bI_01 _ | (left; rfl) | (right; rfl) | omega)) hS (by omega) (by omega) (by first | (exfalso; omega) | exact Or.inl ⟨h_7, rfl, hP⟩ | exact Or.inr (Or.inl ⟨h_7, by omega, rfl, hP⟩)) dX3_tie_40
    · skip
      refine z_iconst hx hb dX3_tie_24 ?_
      refine lv_goto (tgt := 29) hx hb dX3_tie_25 (by decide) ?_
      refine zm_put (x := 2) hx hb hK hts hown hP hS (hD 0 (by decide)) 0 (by decide) q_fl_RX3_37 dX3_tie_29 (fun H locs hP hz ho hS => ?_)
      refine lv_aload_n hx hb dX3_tie_32 rfl (lv_at hl 0 rfl) ?_
      refine zm_get hx hb hK hts hown hP 0 (by decide) q_fl_RX3_37 (v := .int (zI (2))) rfl dX3_tie_33 ?_
      refine z_if_eq (a := 2) (tgt := 41) hx hb dX3_tie_36 (by decide) (by omega) (fun h_36 => ?_) (fun h_36 => ?_)
      · skip
        have h79 : (0 ≤ v ∧ v ≤ F 4 - 1) ∧ 0 ≤ e ∧ e ≤ A 0 v - 1 := by first | exact h_7 | (exfalso; omega)
        have hmn := hVM.many (v := v) (by omega)
        have hel := hVM.el (v := v) (by omega) (e := e) (by omega)
        refine lv_aload_n hx hb dX3_tie_41 rfl (lv_at hl 0 rfl) ?_
        refine lv_iload_n hx hb dX3_tie_42 rfl (lv_at hl 1 rfl) ?_
        refine lv_iload_n hx hb dX3_tie_43 rfl (lv_at hl 2 rfl) ?_
        refine z_bipush hx hb dX3_tie_44 (by decide) ?_
        refine k_R (c_VR (As := [.int (zI (v)), .int (zI (e)), .int (zI (6))]) (rest := []) ⟨hx, hb, hml, hown, hts⟩ hG hS hA (c_X3_get l G ad (zN F 0 (2)) A B v e 6 (show 0 ≤ v ∧ v < 4 by omega) (show 0 ≤ 10 * e + 6 ∧ 10 * e + 6 < 2000 by omega)) ⟨q_ml_RX3_57, q_im_X3_get, q_sel_X3_get, q_ini_RX3, q_code_X3_get⟩ hv_X3_get (MP.rec hK hP) hP ⟨by decide, by decide⟩ ⟨Nat.zero_le _, Nat.zero_le _⟩ rfl hl.1 rfl (Nat.le_of_ble_eq_true rfl) dX3_tie_46) ?_
        refine z_iconst hx hb dX3_tie_49 ?_
        refine z_icmp_ne (a := B v (10 * e + 6)) (b := 1) (tgt := 57) hx hb dX3_tie_50 (by decide) (by omega) (by omega) (fun h_50 => ?_) (fun h_50 => ?_)
        · skip
          refine z_iconst hx hb dX3_tie_57 ?_
          refine lv_istore (lv' := [(4, .int (zI (0))), (0, .ref (ad 0)), (1, .int (zI (v))), (2, .int (zI (e))), (3, .int (zI (t)))]) hx hb dX3_tie_58 hl (by decide) rfl (fun ls hl => ?_)
          refine lv_aload_n hx hb dX3_tie_60 rfl (lv_at hl 1 rfl) ?_
          refine zm_get hx hb hK hts hown hP 6 (by decide) q_fl_RX3_22 (v := .ref (ad 2)) rfl dX3_tie_61 ?_
          refine lv_iload_n hx hb dX3_tie_64 rfl (lv_at hl 2 rfl) ?_
          refine zm_aB hx hb hK hP (i := v) (by omega) dX3_tie_65 ?_
          refine z_bipush hx hb dX3_tie_66 (by decide) ?_
          refine lv_iload_n hx hb dX3_tie_68 rfl (lv_at hl 3 rfl) ?_
          refine z_imul (x := 10) (y := e) hx hb dX3_tie_69 ?_
          refine z_bipush hx hb dX3_tie_70 (by decide) ?_
          refine z_iadd (x := (10) * (e)) (y := 6) hx hb dX3_tie_72 ?_
          refine lv_iload_n hx hb dX3_tie_73 rfl (lv_at hl 4 rfl) ?_
          refine z_if_eq (a := t) (tgt := 81) hx hb dX3_tie_74 (by decide) (by omega) (fun h_74 => ?_) (fun h_74 => ?_)
          · skip
            refine z_iconst hx hb dX3_tie_81 ?_
            refine zm_sB (x := 0) hx hb hK hP hS (v := v) (by omega) (hD (3 + (v).toNat) (by omega)) (i := ((10) * (e)) + (6)) (by omega) dX3_tie_82 (fun H locs hP hz ho hS => ?_)
            refine lv_iload hx hb dX3_tie_83 (lv_at hl 0 rfl) ?_
            exact e_Wi (r := 0) hx hb hr hlk (n_z (by first | exact bI_01 _ | (left; rfl) | (right; rfl) | omega)) hS (by omega) (by omega) (by first | (exfalso; omega) | exact (Or.inr (Or.inr ⟨h_7, by omega, bI_t (by omega), (by rw [show t = 1 by omega]; exact hP)⟩)) | exact (Or.inr (Or.inr ⟨h_7, by omega, bI_t (by omega), (by rw [show t = 0 by omega]; exact hP)⟩)) | exact (Or.inr (Or.inr ⟨h_7, by omega, bI_f (by omega), (by rw [show t = 1 by omega]; exact hP)⟩)) | exact (Or.inr (Or.inr ⟨h_7, by omega, bI_f (by omega), (by rw [show t = 0 by omega]; exact hP)⟩))) dX3_tie_85
          · skip
            refine z_iconst hx hb dX3_tie_77 ?_
            refine lv_goto (tgt := 82) hx hb dX3_tie_78 (by decide) ?_
            refine zm_sB (x := 1) hx hb hK hP hS (v := v) (by omega) (hD (3 + (v).toNat) (by omega)) (i := ((10) * (e)) + (6)) (by omega) dX3_tie_82 (fun H locs hP hz ho hS => ?_)
            refine lv_iload hx hb dX3_tie_83 (lv_at hl 0 rfl) ?_
            exact e_Wi (r := 0) hx hb hr hlk (n_z (by first | exact bI_01 _ | (left; rfl) | (right; rfl) | omega)) hS (by omega) (by omega) (by first | (exfalso; omega) | exact (Or.inr (Or.inr ⟨h_7, by omega, bI_t (by omega), (by rw [show t = 1 by omega]; exact hP)⟩)) | exact (Or.inr (Or.inr ⟨h_7, by omega, bI_t (by omega), (by rw [show t = 0 by omega]; exact hP)⟩)) | exact (Or.inr (Or.inr ⟨h_7, by omega, bI_f (by omega), (by rw [show t = 1 by omega]; exact hP)⟩)) | exact (Or.inr (Or.inr ⟨h_7, by omega, bI_f (by omega), (by rw [show t = 0 by omega]; exact hP)⟩))) dX3_tie_85
        · skip
          refine z_iconst hx hb dX3_tie_53 ?_
          refine lv_goto (tgt := 58) hx hb dX3_tie_54 (by decide) ?_
          refine lv_istore (lv' := [(4, .int (zI (1))), (0, .ref (ad 0)), (1, .int (zI (v))), (2, .int (zI (e))), (3, .int (zI (t)))]) hx hb dX3_tie_58 hl (by decide) rfl (fun ls hl => ?_)
          refine lv_aload_n hx hb dX3_tie_60 rfl (lv_at hl 1 rfl) ?_
          refine zm_get hx hb hK hts hown hP 6 (by decide) q_fl_RX3_22 (v := .ref (ad 2)) rfl dX3_tie_61 ?_
          refine lv_iload_n hx hb dX3_tie_64 rfl (lv_at hl 2 rfl) ?_
          refine zm_aB hx hb hK hP (i := v) (by omega) dX3_tie_65 ?_
          refine z_bipush hx hb dX3_tie_66 (by decide) ?_
          refine lv_iload_n hx hb dX3_tie_68 rfl (lv_at hl 3 rfl) ?_
          refine z_imul (x := 10) (y := e) hx hb dX3_tie_69 ?_
          refine z_bipush hx hb dX3_tie_70 (by decide) ?_
          refine z_iadd (x := (10) * (e)) (y := 6) hx hb dX3_tie_72 ?_
          refine lv_iload_n hx hb dX3_tie_73 rfl (lv_at hl 4 rfl) ?_
          refine z_if_eq (a := t) (tgt := 81) hx hb dX3_tie_74 (by decide) (by omega) (fun h_74 => ?_) (fun h_74 => ?_)
          · skip
            refine z_iconst hx hb dX3_tie_81 ?_
            refine zm_sB (x := 0) hx hb hK hP hS (v := v) (by omega) (hD (3 + (v).toNat) (by omega)) (i := ((10) * (e)) + (6)) (by omega) dX3_tie_82 (fun H locs hP hz ho hS => ?_)
            refine lv_iload hx hb dX3_tie_83 (lv_at hl 0 rfl) ?_
            exact e_Wi (r := 1) hx hb hr hlk (n_z (by first | exact bI_01 _ | (left; rfl) | (right; rfl) | omega)) hS (by omega) (by omega) (by first | (exfalso; omega) | exact (Or.inr (Or.inr ⟨h_7, by omega, bI_t (by omega), (by rw [show t = 1 by omega]; exact hP)⟩)) | exact (Or.inr (Or.inr ⟨h_7, by omega, bI_t (by omega), (by rw [show t = 0 by omega]; exact hP)⟩)) | exact (Or.inr (Or.inr ⟨h_7, by omega, bI_f (by omega), (by rw [show t = 1 by omega]; exact hP)⟩)) | exact (Or.inr (Or.inr ⟨h_7, by omega, bI_f (by omega), (by rw [show t = 0 by omega]; exact hP)⟩))) dX3_tie_85
          · skip
            refine z_iconst hx hb dX3_tie_77 ?_
            refine lv_goto (tgt := 82) hx hb dX3_tie_78 (by decide) ?_
            refine zm_sB (x := 1) hx hb hK hP hS (v := v) (by omega) (hD (3 + (v).toNat) (by omega)) (i := ((10) * (e)) + (6)) (by omega) dX3_tie_82 (fun H locs hP hz ho hS => ?_)
            refine lv_iload hx hb dX3_tie_83 (lv_at hl 0 rfl) ?_
            exact e_Wi (r := 1) hx hb hr hlk (n_z (by first | exact bI_01 _ | (left; rfl) | (right; rfl) | omega)) hS (by omega) (by omega) (by first | (exfalso; omega) | exact (Or.inr (Or.inr ⟨h_7, by omega, bI_t (by omega), (by rw [show t = 1 by omega]; exact hP)⟩)) | exact (Or.inr (Or.inr ⟨h_7, by omega, bI_t (by omega), (by rw [show t = 0 by omega]; exact hP)⟩)) | exact (Or.inr (Or.inr ⟨h_7, by omega, bI_f (by omega), (by rw [show t = 1 by omega]; exact hP)⟩)) | exact (Or.inr (Or.inr ⟨h_7, by omega, bI_f (by omega), (by rw [show t = 0 by omega]; exact hP)⟩))) dX3_tie_85
      · skip
        refine z_iconst hx hb dX3_tie_39 ?_
        exact e_Wi (r := 0) hx hb hr hlk (n_z (by first | exact bI_01 _ | (left; rfl) | (right; rfl) | omega)) hS (by omega) (by omega) (by first | (exfalso; omega) | exact Or.inl ⟨h_7, rfl, hP⟩ | exact Or.inr (Or.inl ⟨h_7, by omega, rfl, hP⟩)) dX3_tie_40
  · skip
    refine z_iconst hx hb dX3_tie_10 ?_
    refine lv_goto (tgt := 29) hx hb dX3_tie_11 (by decide) ?_
    refine zm_put (x := 1) hx hb hK hts hown hP hS (hD 0 (by decide)) 0 (by decide) q_fl_RX3_37 dX3_tie_29 (fun H locs hP hz ho hS => ?_)
    refine lv_aload_n hx hb dX3_tie_32 rfl (lv_at hl 0 rfl) ?_
    refine zm_get hx hb hK hts hown hP 0 (by decide) q_fl_RX3_37 (v := .int (zI (1))) rfl dX3_tie_33 ?_
    refine z_if_eq (a := 1) (tgt := 41) hx hb dX3_tie_36 (by decide) (by omega) (fun h_36 => ?_) (fun h_36 => ?_)
    · skip
      have h79 : (0 ≤ v ∧ v ≤ F 4 - 1) ∧ 0 ≤ e ∧ e ≤ A 0 v - 1 := by first | exact h_7 | (exfalso; omega)
      have hmn := hVM.many (v := v) (by omega)
      have hel := hVM.el (v := v) (by omega) (e := e) (by omega)
      refine lv_aload_n hx hb dX3_tie_41 rfl (lv_at hl 0 rfl) ?_
      refine lv_iload_n hx hb dX3_tie_42 rfl (lv_at hl 1 rfl) ?_
      refine lv_iload_n hx hb dX3_tie_43 rfl (lv_at hl 2 rfl) ?_
      refine z_bipush hx hb dX3_tie_44 (by decide) ?_
      refine k_R (c_VR (As := [.int (zI (v)), .int (zI (e)), .int (zI (6))]) (rest := []) ⟨hx, hb, hml, hown, hts⟩ hG hS hA (c_X3_get l G ad (zN F 0 (1)) A B v e 6 (show 0 ≤ v ∧ v < 4 by omega) (show 0 ≤ 10 * e + 6 ∧ 10 * e + 6 < 2000 by omega)) ⟨q_ml_RX3_57, q_im_X3_get, q_sel_X3_get, q_ini_RX3, q_code_X3_get⟩ hv_X3_get (MP.rec hK hP) hP ⟨by decide, by decide⟩ ⟨Nat.zero_le _, Nat.zero_le _⟩ rfl hl.1 rfl (Nat.le_of_ble_eq_true rfl) dX3_tie_46) ?_
      refine z_iconst hx hb dX3_tie_49 ?_
      refine z_icmp_ne (a := B v (10 * e + 6)) (b := 1) (tgt := 57) hx hb dX3_tie_50 (by decide) (by omega) (by omega) (fun h_50 => ?_) (fun h_50 => ?_)
      · skip
        refine z_iconst hx hb dX3_tie_57 ?_
        refine lv_istore (lv' := [(4, .int (zI (0))), (0, .ref (ad 0)), (1, .int (zI (v))), (2, .int (zI (e))), (3, .int (zI (t)))]) hx hb dX3_tie_58 hl (by decide) rfl (fun ls hl => ?_)
        refine lv_aload_n hx hb dX3_tie_60 rfl (lv_at hl 1 rfl) ?_
        refine zm_get hx hb hK hts hown hP 6 (by decide) q_fl_RX3_22 (v := .ref (ad 2)) rfl dX3_tie_61 ?_
        refine lv_iload_n hx hb dX3_tie_64 rfl (lv_at hl 2 rfl) ?_
        refine zm_aB hx hb hK hP (i := v) (by omega) dX3_tie_65 ?_
        refine z_bipush hx hb dX3_tie_66 (by decide) ?_
        refine lv_iload_n hx hb dX3_tie_68 rfl (lv_at hl 3 rfl) ?_
        refine z_imul (x := 10) (y := e) hx hb dX3_tie_69 ?_
        refine z_bipush hx hb dX3_tie_70 (by decide) ?_
        refine z_iadd (x := (10) * (e)) (y := 6) hx hb dX3_tie_72 ?_
        refine lv_iload_n hx hb dX3_tie_73 rfl (lv_at hl 4 rfl) ?_
        refine z_if_eq (a := t) (tgt := 81) hx hb dX3_tie_74 (by decide) (by omega) (fun h_74 => ?_) (fun h_74 => ?_)
        · skip
          refine z_iconst hx hb dX3_tie_81 ?_
          refine zm_sB (x := 0) hx hb hK hP hS (v := v) (by omega) (hD (3 + (v).toNat) (by omega)) (i := ((10) * (e)) + (6)) (by omega) dX3_tie_82 (fun H locs hP hz ho hS => ?_)
          refine lv_iload hx hb dX3_tie_83 (lv_at hl 0 rfl) ?_
          exact e_Wi (r := 0) hx hb hr hlk (n_z (by first | exact bI_01 _ | (left; rfl) | (right; rfl) | omega)) hS (by omega) (by omega) (by first | (exfalso; omega) | exact (Or.inr (Or.inr ⟨h_7, by omega, bI_t (by omega), (by rw [show t = 1 by omega]; exact hP)⟩)) | exact (Or.inr (Or.inr ⟨h_7, by omega, bI_t (by omega), (by rw [show t = 0 by omega]; exact hP)⟩)) | exact (Or.inr (Or.inr ⟨h_7, by omega, bI_f (by omega), (by rw [show t = 1 by omega]; exact hP)⟩)) | exact (Or.inr (Or.inr ⟨h_7, by omega, bI_f (by omega), (by rw [show t = 0 by omega]; exact hP)⟩))) dX3_tie_85
        · skip
          refine z_iconst hx hb dX3_tie_77 ?_
          refine lv_goto (tgt := 82) hx hb dX3_tie_78 (by decide) ?_
          refine zm_sB (x := 1) hx hb hK hP hS (v := v) (by omega) (hD (3 + (v).toNat) (by omega)) (i := ((10) * (e)) + (6)) (by omega) dX3_tie_82 (fun H locs hP hz ho hS => ?_)
          refine lv_iload hx hb dX3_tie_83 (lv_at hl 0 rfl) ?_
          exact e_Wi (r := 0) hx hb hr hlk (n_z (by first | exact bI_01 _ | (left; rfl) | (right; rfl) | omega)) hS (by omega) (by omega) (by first | (exfalso; omega) | exact (Or.inr (Or.inr ⟨h_7, by omega, bI_t (by omega), (by rw [show t = 1 by omega]; exact hP)⟩)) | exact (Or.inr (Or.inr ⟨h_7, by omega, bI_t (by omega), (by rw [show t = 0 by omega]; exact hP)⟩)) | exact (Or.inr (Or.inr ⟨h_7, by omega, bI_f (by omega), (by rw [show t = 1 by omega]; exact hP)⟩)) | exact (Or.inr (Or.inr ⟨h_7, by omega, bI_f (by omega), (by rw [show t = 0 by omega]; exact hP)⟩))) dX3_tie_85
      · skip
        refine z_iconst hx hb dX3_tie_53 ?_
        refine lv_goto (tgt := 58) hx hb dX3_tie_54 (by decide) ?_
        refine lv_istore (lv' := [(4, .int (zI (1))), (0, .ref (ad 0)), (1, .int (zI (v))), (2, .int (zI (e))), (3, .int (zI (t)))]) hx hb dX3_tie_58 hl (by decide) rfl (fun ls hl => ?_)
        refine lv_aload_n hx hb dX3_tie_60 rfl (lv_at hl 1 rfl) ?_
        refine zm_get hx hb hK hts hown hP 6 (by decide) q_fl_RX3_22 (v := .ref (ad 2)) rfl dX3_tie_61 ?_
        refine lv_iload_n hx hb dX3_tie_64 rfl (lv_at hl 2 rfl) ?_
        refine zm_aB hx hb hK hP (i := v) (by omega) dX3_tie_65 ?_
        refine z_bipush hx hb dX3_tie_66 (by decide) ?_
        refine lv_iload_n hx hb dX3_tie_68 rfl (lv_at hl 3 rfl) ?_
        refine z_imul (x := 10) (y := e) hx hb dX3_tie_69 ?_
        refine z_bipush hx hb dX3_tie_70 (by decide) ?_
        refine z_iadd (x := (10) * (e)) (y := 6) hx hb dX3_tie_72 ?_
        refine lv_iload_n hx hb dX3_tie_73 rfl (lv_at hl 4 rfl) ?_
        refine z_if_eq (a := t) (tgt := 81) hx hb dX3_tie_74 (by decide) (by omega) (fun h_74 => ?_) (fun h_74 => ?_)
        · skip
          refine z_iconst hx hb dX3_tie_81 ?_
          refine zm_sB (x := 0) hx hb hK hP hS (v := v) (by omega) (hD (3 + (v).toNat) (by omega)) (i := ((10) * (e)) + (6)) (by omega) dX3_tie_82 (fun H locs hP hz ho hS => ?_)
          refine lv_iload hx hb dX3_tie_83 (lv_at hl 0 rfl) ?_
          exact e_Wi (r := 1) hx hb hr hlk (n_z (by first | exact bI_01 _ | (left; rfl) | (right; rfl) | omega)) hS (by omega) (by omega) (by first | (exfalso; omega) | exact (Or.inr (Or.inr ⟨h_7, by omega, bI_t (by omega), (by rw [show t = 1 by omega]; exact hP)⟩)) | exact (Or.inr (Or.inr ⟨h_7, by omega, bI_t (by omega), (by rw [show t = 0 by omega]; exact hP)⟩)) | exact (Or.inr (Or.inr ⟨h_7, by omega, bI_f (by omega), (by rw [show t = 1 by omega]; exact hP)⟩)) | exact (Or.inr (Or.inr ⟨h_7, by omega, bI_f (by omega), (by rw [show t = 0 by omega]; exact hP)⟩))) dX3_tie_85
        · skip
          refine z_iconst hx hb dX3_tie_77 ?_
          refine lv_goto (tgt := 82) hx hb dX3_tie_78 (by decide) ?_
          refine zm_sB (x := 1) hx hb hK hP hS (v := v) (by omega) (hD (3 + (v).toNat) (by omega)) (i := ((10) * (e)) + (6)) (by omega) dX3_tie_82 (fun H locs hP hz ho hS => ?_)
          refine lv_iload hx hb dX3_tie_83 (lv_at hl 0 rfl) ?_
          exact e_Wi (r := 1) hx hb hr hlk (n_z (by first | exact bI_01 _ | (left; rfl) | (right; rfl) | omega)) hS (by omega) (by omega) (by first | (exfalso; omega) | exact (Or.inr (Or.inr ⟨h_7, by omega, bI_t (by omega), (by rw [show t = 1 by omega]; exact hP)⟩)) | exact (Or.inr (Or.inr ⟨h_7, by omega, bI_t (by omega), (by rw [show t = 0 by omega]; exact hP)⟩)) | exact (Or.inr (Or.inr ⟨h_7, by omega, bI_f (by omega), (by rw [show t = 1 by omega]; exact hP)⟩)) | exact (Or.inr (Or.inr ⟨h_7, by omega, bI_f (by omega), (by rw [show t = 0 by omega]; exact hP)⟩))) dX3_tie_85
    · skip
      refine z_iconst hx hb dX3_tie_39 ?_
      exact e_Wi (r := 0) hx hb hr hlk (n_z (by first | exact bI_01 _ | (left; rfl) | (right; rfl) | omega)) hS (by omega) (by omega) (by first | (exfalso; omega) | exact Or.inl ⟨h_7, rfl, hP⟩ | exact Or.inr (Or.inl ⟨h_7, by omega, rfl, hP⟩)) dX3_tie_40
theorem KP.tA {A A' : Nat → Int → Int} {B B' : Int → Int → Int} (h : KP A B A' B') (v x : Int) : tAt (bgM B' v) (mTk B' v) (mTn B' v) (A' 0 v) x = tAt (bgM B v) (mTk B v) (mTn B v) (A 0 v) x := by
  rw [h.bg' v, h.1, show mTk B' v = mTk B v from funext fun e => h.tk v e, show mTn B' v = mTn B v from funext fun e => h.tn v e]
theorem tA_rng {F : Nat → Int} {A : Nat → Int → Int} {B : Int → Int → Int} (hM : MOK F A B) {v : Int} (hv : 0 ≤ v ∧ v < 4) (x : Int) : -2 ≤ tAt (bgM B v) (mTk B v) (mTn B v) (A 0 v) x ∧ tAt (bgM B v) (mTk B v) (mTn B v) (A 0 v) x ≤ 109 := by
  have hn := hM.many hv
  have q := fp_le (q := fun i => bgM B v i ≤ x ∧ x < bgM B v i + mTk B v i) hn.1
  unfold tAt
  split
  · exact mTn_rng hM hv ⟨q.1, by assumption⟩
  · omega
set_option maxHeartbeats 2000000 in
theorem c_X3_interval (l : Launch) (G : zG) (ad : Nat → Nat) (F : Nat → Int) (A : Nat → Int → Int) (B : Int → Int → Int) (a b t : Int) (sz : Nat) (r1 : -2147483648 ≤ a ∧ a ≤ 2147483647) (r2 : -2147483648 ≤ b ∧ b ≤ 2147483647) (r3 : -2147483648 ≤ t ∧ t ≤ 2147483647) (hVM : MOK F A B) : MW l yX3_interval cX3_interval 6 (some .int) 4 91 (0) (0) G [.ref (ad 0), .int (zI (a)), .int (zI (b)), .int (zI (t))] (fA 11 ad sz) sz (MP G ad F A B) (QW (fA 11 ad sz) (fun r H => (¬ ((0 ≤ a ∧ a ≤ F 4 - 1) ∧ 0 ≤ b ∧ b ≤ F 4 - 1) ∧ r = 0 ∧ MP G ad (zN F 0 1) A B H) ∨ (((0 ≤ a ∧ a ≤ F 4 - 1) ∧ 0 ≤ b ∧ b ≤ F 4 - 1) ∧ t < 0 ∧ r = 0 ∧ MP G ad (zN F 0 2) A B H) ∨ (((0 ≤ a ∧ a ≤ F 4 - 1) ∧ 0 ≤ b ∧ b ≤ F 4 - 1) ∧ ¬ t < 0 ∧ r = (if tAt (bgM B a) (mTk B a) (mTn B a) (A 0 a) t = -1 ∨ tAt (bgM B b) (mTk B b) (mTn B b) (A 0 b) t = -1 then -100 else tAt (bgM B b) (mTk B b) (mTn B b) (A 0 b) t - tAt (bgM B a) (mTk B a) (mTn B a) (A 0 a) t) ∧ ∃ A' B', MP G ad (zN F 0 0) A' B' H ∧ KP A B A' B'))) := by
  refine mw_of hp_X3_interval (Nat.le_of_ble_eq_true rfl) ?_
  intro p env s m below meth c ls hB hsz hP hl
  obtain ⟨hx, hb, hml, hr, hlk, hown, hts, hG⟩ := hB
  subst hsz
  have hK := hG.1
  have hS : va_S (fA 11 ad s.heap.size) s.heap s.heap [] := va_S.rf
  have hA : ∀ q : Nat, (fA 11 ad s.heap.size) q → G.2.2 ≤ q := fA_lo hP.1.2 hG.2.1
  have hD : ∀ k, k < 11 → (fA 11 ad s.heap.size) (ad k) := fun k hk => fA_in hk
  have hl : lv_has ls 6 [(0, .ref (ad 0)), (1, .int (zI (a))), (2, .int (zI (b))), (3, .int (zI (t)))] := hl
  have h1b := hVM.1
  have h2b := hVM.2.1
  have h3b := hVM.2.2.1
  have h4b := hVM.2.2.2.1
  refine lv_aload_n hx hb dX3_interval_0 rfl (lv_at hl 0 rfl) ?_
  refine z_iconst hx hb dX3_interval_1 ?_
  refine zm_put (x := 0) hx hb hK hts hown hP hS (hD 0 (by decide)) 0 (by decide) q_fl_RX3_37 dX3_interval_2 (fun H locs hP hz ho hS => ?_)
  refine lv_aload_n hx hb dX3_interval_5 rfl (lv_at hl 0 rfl) ?_
  refine lv_iload_n hx hb dX3_interval_6 rfl (lv_at hl 1 rfl) ?_
  refine k_R (c_VR (As := [.int (zI (a))]) (rest := []) ⟨hx, hb, hml, hown, hts⟩ hG hS hA (c_X3_isVoice l G ad (zN F 0 (0)) A B a (by omega) (hVM.F0 0)) ⟨q_ml_RX3_47, q_im_X3_isVoice, q_sel_X3_isVoice, q_ini_RX3, q_code_X3_isVoice⟩ hv_X3_isVoice (MP.rec hK hP) hP ⟨by decide, by decide⟩ ⟨Nat.zero_le _, Nat.zero_le _⟩ rfl hl.1 rfl (Nat.le_of_ble_eq_true rfl) dX3_interval_7) ?_
  refine z_bif_eq (q := 0 ≤ a ∧ a ≤ (F 4) - 1) (tgt := 21) hx hb dX3_interval_10 (by decide) (fun h_10 => ?_) (fun h_10 => ?_)
  · skip
    refine lv_aload_n hx hb dX3_interval_21 rfl (lv_at hl 0 rfl) ?_
    refine z_iconst hx hb dX3_interval_22 ?_
    refine k_Wi (c_VW (As := [.int (zI (1))]) (rest := []) ⟨hx, hb, hml, hown, hts⟩ hG hS hA (c_X3_fail l G ad (zN F 0 (0)) A B 1 H.size) ⟨q_ml_RX3_77, q_im_X3_fail, q_sel_X3_fail, q_ini_RX3, q_code_X3_fail⟩ hv_X3_fail (MP.rec hK hP) hP ⟨by decide, by decide⟩ ⟨Nat.zero_le _, Nat.zero_le _⟩ rfl hl.1 rfl (Nat.le_of_ble_eq_true rfl) dX3_interval_23) hS (fA_mono hS.1) (fun r_23 H1 locs1 hq hz1 hk1 hS => ?_)
    obtain ⟨hrz, hPz⟩ := hq
    rw [zN_N] at hPz
    exact e_Wi (r := r_23) hx hb hr hlk (n_i _) hS (by omega) (by omega) (Or.inl ⟨(fun q => by first | exact h_10 q.1 | exact h_18 q.2), hrz, hPz⟩) dX3_interval_26
  · skip
    refine lv_aload_n hx hb dX3_interval_13 rfl (lv_at hl 0 rfl) ?_
    refine lv_iload_n hx hb dX3_interval_14 rfl (lv_at hl 2 rfl) ?_
    refine k_R (c_VR (As := [.int (zI (b))]) (rest := []) ⟨hx, hb, hml, hown, hts⟩ hG hS hA (c_X3_isVoice l G ad (zN F 0 (0)) A B b (by omega) (hVM.F0 0)) ⟨q_ml_RX3_47, q_im_X3_isVoice, q_sel_X3_isVoice, q_ini_RX3, q_code_X3_isVoice⟩ hv_X3_isVoice (MP.rec hK hP) hP ⟨by decide, by decide⟩ ⟨Nat.zero_le _, Nat.zero_le _⟩ rfl hl.1 rfl (Nat.le_of_ble_eq_true rfl) dX3_interval_15) ?_
    refine z_bif_ne (q := 0 ≤ b ∧ b ≤ (F 4) - 1) (tgt := 27) hx hb dX3_interval_18 (by decide) (fun h_18 => ?_) (fun h_18 => ?_)
    · skip
      refine lv_iload_n hx hb dX3_interval_27 rfl (lv_at hl 3 rfl) ?_
      refine z_if_ge (a := t) (tgt := 37) hx hb dX3_interval_28 (by decide) (by omega) (fun h_28 => ?_) (fun h_28 => ?_)
      · skip
        refine lv_aload_n hx hb dX3_interval_37 rfl (lv_at hl 0 rfl) ?_
        refine lv_iload_n hx hb dX3_interval_38 rfl (lv_at hl 1 rfl) ?_
        refine lv_iload_n hx hb dX3_interval_39 rfl (lv_at hl 3 rfl) ?_
        refine k_Wi (c_VW (As := [.int (zI (a)), .int (zI (t))]) (rest := []) ⟨hx, hb, hml, hown, hts⟩ hG hS hA (c_X3_sounding l G ad (zN F 0 (0)) A B a t H.size (by omega) (by omega) (hVM.F0 0)) ⟨q_ml_RX3_172, q_im_X3_sounding, q_sel_X3_sounding, q_ini_RX3, q_code_X3_sounding⟩ hv_X3_sounding (MP.rec hK hP) hP ⟨by decide, by decide⟩ ⟨Nat.zero_le _, Nat.zero_le _⟩ rfl hl.1 rfl (Nat.le_of_ble_eq_true rfl) dX3_interval_40) hS (fA_mono hS.1) (fun r_40 H1 locs1 hq hz1 hk1 hS => ?_)
        obtain ⟨hr1, A2, B2, hP, kp2⟩ := hq
        have hta := tA_rng hVM (v := a) (by omega) t
        have htb := tA_rng hVM (v := b) (by omega) t
        refine lv_istore (lv' := [(4, .int (zI (r_40))), (0, .ref (ad 0)), (1, .int (zI (a))), (2, .int (zI (b))), (3, .int (zI (t)))]) hx hb dX3_interval_43 hl (by decide) rfl (fun ls hl => ?_)
        refine lv_aload_n hx hb dX3_interval_45 rfl (lv_at hl 1 rfl) ?_
        refine lv_iload_n hx hb dX3_interval_46 rfl (lv_at hl 3 rfl) ?_
        refine lv_iload_n hx hb dX3_interval_47 rfl (lv_at hl 4 rfl) ?_
        refine k_Wi (c_VW (As := [.int (zI (b)), .int (zI (t))]) (rest := []) ⟨hx, hb, hml, hown, hts⟩ hG hS hA (c_X3_sounding l G ad (zN F 0 (0)) A2 B2 b t H1.size (by omega) (by omega) ((kp2.ok hVM).F0 0)) ⟨q_ml_RX3_172, q_im_X3_sounding, q_sel_X3_sounding, q_ini_RX3, q_code_X3_sounding⟩ hv_X3_sounding (MP.rec hK hP) hP ⟨by decide, by decide⟩ ⟨Nat.zero_le _, Nat.zero_le _⟩ rfl hl.1 rfl (Nat.le_of_ble_eq_true rfl) dX3_interval_48) hS (fA_mono hS.1) (fun r_48 H1 locs1 hq hz1 hk1 hS => ?_)
        obtain ⟨hr2, A3, B3, hP, kp3⟩ := hq
        rw [kp2.tA b t] at hr2
        refine lv_istore (lv' := [(5, .int (zI (r_48))), (4, .int (zI (r_40))), (0, .ref (ad 0)), (1, .int (zI (a))), (2, .int (zI (b))), (3, .int (zI (t)))]) hx hb dX3_interval_51 hl (by decide) rfl (fun ls hl => ?_)
        refine lv_iload hx hb dX3_interval_53 (lv_at hl 1 rfl) ?_
        refine z_iconst hx hb dX3_interval_55 ?_
        refine z_icmp_eq (a := r_40) (b := -1) (tgt := 65) hx hb dX3_interval_56 (by decide) (by omega) (by omega) (fun h_56 => ?_) (fun h_56 => ?_)
        · skip
          refine z_bipush hx hb dX3_interval_65 (by decide) ?_
          refine lv_goto (tgt := 75) hx hb dX3_interval_67 (by decide) ?_
          exact e_Wi (r := -100) hx hb hr hlk (n_i _) hS (by omega) (by omega) (Or.inr (Or.inr ⟨⟨h_10, h_18⟩, by omega, (by rw [← hr1, ← hr2]; first | rw [if_pos (by omega)] | rw [if_neg (by omega)]), A3, B3, hP, kp2.trans kp3⟩)) dX3_interval_75
        · skip
          refine lv_iload hx hb dX3_interval_59 (lv_at hl 0 rfl) ?_
          refine z_iconst hx hb dX3_interval_61 ?_
          refine z_icmp_ne (a := r_48) (b := -1) (tgt := 70) hx hb dX3_interval_62 (by decide) (by omega) (by omega) (fun h_62 => ?_) (fun h_62 => ?_)
          · skip
            refine lv_iload hx hb dX3_interval_70 (lv_at hl 0 rfl) ?_
            refine lv_iload hx hb dX3_interval_72 (lv_at hl 1 rfl) ?_
            refine z_isub (x := r_48) (y := r_40) hx hb dX3_interval_74 ?_
            exact e_Wi (r := (r_48) - (r_40)) hx hb hr hlk (n_i _) hS (by omega) (by omega) (Or.inr (Or.inr ⟨⟨h_10, h_18⟩, by omega, (by rw [← hr1, ← hr2]; first | rw [if_pos (by omega)] | rw [if_neg (by omega)]), A3, B3, hP, kp2.trans kp3⟩)) dX3_interval_75
          · skip
            refine z_bipush hx hb dX3_interval_65 (by decide) ?_
            refine lv_goto (tgt := 75) hx hb dX3_interval_67 (by decide) ?_
            exact e_Wi (r := -100) hx hb hr hlk (n_i _) hS (by omega) (by omega) (Or.inr (Or.inr ⟨⟨h_10, h_18⟩, by omega, (by rw [← hr1, ← hr2]; first | rw [if_pos (by omega)] | rw [if_neg (by omega)]), A3, B3, hP, kp2.trans kp3⟩)) dX3_interval_75
      · skip
        refine lv_aload_n hx hb dX3_interval_31 rfl (lv_at hl 0 rfl) ?_
        refine z_iconst hx hb dX3_interval_32 ?_
        refine k_Wi (c_VW (As := [.int (zI (2))]) (rest := []) ⟨hx, hb, hml, hown, hts⟩ hG hS hA (c_X3_fail l G ad (zN F 0 (0)) A B 2 H.size) ⟨q_ml_RX3_77, q_im_X3_fail, q_sel_X3_fail, q_ini_RX3, q_code_X3_fail⟩ hv_X3_fail (MP.rec hK hP) hP ⟨by decide, by decide⟩ ⟨Nat.zero_le _, Nat.zero_le _⟩ rfl hl.1 rfl (Nat.le_of_ble_eq_true rfl) dX3_interval_33) hS (fA_mono hS.1) (fun r_33 H1 locs1 hq hz1 hk1 hS => ?_)
        obtain ⟨hrz, hPz⟩ := hq
        rw [zN_N] at hPz
        exact e_Wi (r := r_33) hx hb hr hlk (n_i _) hS (by omega) (by omega) (Or.inr (Or.inl ⟨⟨h_10, h_18⟩, by omega, hrz, hPz⟩)) dX3_interval_36
    · skip
      refine lv_aload_n hx hb dX3_interval_21 rfl (lv_at hl 0 rfl) ?_
      refine z_iconst hx hb dX3_interval_22 ?_
      refine k_Wi (c_VW (As := [.int (zI (1))]) (rest := []) ⟨hx, hb, hml, hown, hts⟩ hG hS hA (c_X3_fail l G ad (zN F 0 (0)) A B 1 H.size) ⟨q_ml_RX3_77, q_im_X3_fail, q_sel_X3_fail, q_ini_RX3, q_code_X3_fail⟩ hv_X3_fail (MP.rec hK hP) hP ⟨by decide, by decide⟩ ⟨Nat.zero_le _, Nat.zero_le _⟩ rfl hl.1 rfl (Nat.le_of_ble_eq_true rfl) dX3_interval_23) hS (fA_mono hS.1) (fun r_23 H1 locs1 hq hz1 hk1 hS => ?_)
      obtain ⟨hrz, hPz⟩ := hq
      rw [zN_N] at hPz
      exact e_Wi (r := r_23) hx hb hr hlk (n_i _) hS (by omega) (by omega) (Or.inl ⟨(fun q => by first | exact h_10 q.1 | exact h_18 q.2), hrz, hPz⟩) dX3_interval_26
set_option maxHeartbeats 2000000 in
theorem c_X3_event (l : Launch) (G : zG) (ad : Nat → Nat) (F : Nat → Int) (A : Nat → Int → Int) (B : Int → Int → Int) (i w : Int) (sz : Nat) (r1 : -2147483648 ≤ i ∧ i ≤ 2147483647) (r2 : -2147483648 ≤ w ∧ w ≤ 2147483647) (hVe : rngI (A 4)) (hVM : MOK F A B) : MW l yX3_event cX3_event 3 (some .int) 4 90 ((ecT A B (F 4)).toNat) (4 * (ecT A B (F 4)).toNat) G [.ref (ad 0), .int (zI (i)), .int (zI (w))] (fA 11 ad sz) sz (MP G ad F A B) (QW (fA 11 ad sz) (fun r H => (¬ ((0 ≤ i ∧ i ≤ (ecT A B (F 4)) - 1) ∧ 0 ≤ w ∧ w ≤ 3) ∧ r = 0 ∧ ∃ A' B', MP G ad (zN (zN (zN F 0 0) 5 (ecT A B (F 4))) 0 1) A' B' H ∧ KP A B A' B') ∨ (((0 ≤ i ∧ i ≤ (ecT A B (F 4)) - 1) ∧ 0 ≤ w ∧ w ≤ 3) ∧ r = evO A B (A 4) (F 4) (4 * i + w) ∧ ∃ A' B', MP G ad (zN (zN F 0 0) 5 (ecT A B (F 4))) A' B' H ∧ KP A B A' B'))) := by
  refine mw_of hp_X3_event (Nat.le_of_ble_eq_true rfl) ?_
  intro p env s m below meth c ls hB hsz hP hl
  obtain ⟨hx, hb, hml, hr, hlk, hown, hts, hG⟩ := hB
  subst hsz
  have hK := hG.1
  have hS : va_S (fA 11 ad s.heap.size) s.heap s.heap [] := va_S.rf
  have hA : ∀ q : Nat, (fA 11 ad s.heap.size) q → G.2.2 ≤ q := fA_lo hP.1.2 hG.2.1
  have hD : ∀ k, k < 11 → (fA 11 ad s.heap.size) (ad k) := fun k hk => fA_in hk
  have hl : lv_has ls 3 [(0, .ref (ad 0)), (1, .int (zI (i))), (2, .int (zI (w)))] := hl
  have h1b := hVM.1
  have h2b := hVM.2.1
  have h3b := hVM.2.2.1
  have h4b := hVM.2.2.2.1
  have hc9 : ecT A B (zN F 0 0 4) = ecT A B (F 4) := rfl
  have hec := ecT_rng hVM (a := 0) (b := F 4) (by omega) (by omega) (by omega)
  have hec0 : ecT A B 0 = 0 := rfl
  refine lv_aload_n hx hb dX3_event_0 rfl (lv_at hl 0 rfl) ?_
  refine z_iconst hx hb dX3_event_1 ?_
  refine zm_put (x := 0) hx hb hK hts hown hP hS (hD 0 (by decide)) 0 (by decide) q_fl_RX3_37 dX3_event_2 (fun H locs hP hz ho hS => ?_)
  refine lv_aload_n hx hb dX3_event_5 rfl (lv_at hl 0 rfl) ?_
  refine k_Wv (c_VW (As := []) (rest := []) ⟨hx, hb, hml, hown, hts⟩ hG hS hA (c_X3_findEvents l G ad (zN F 0 (0)) A B H.size (hVM.F0 0) hVe) ⟨q_ml_RX3_186, q_im_X3_findEvents, q_sel_X3_findEvents, q_ini_RX3, q_code_X3_findEvents⟩ hv_X3_findEvents (MP.rec hK hP) hP ⟨Nat.le_of_ble_eq_true rfl, Nat.le_of_ble_eq_true rfl⟩ ⟨Nat.le_of_eq (Nat.zero_add _), Nat.le_of_eq (Nat.zero_add _)⟩ rfl hl.1 rfl (Nat.le_of_ble_eq_true rfl) dX3_event_6) hS (fA_mono hS.1) (fun H1 locs1 hq hz1 hk1 hS => ?_)
  obtain ⟨A2, B2, hP, kp2, tm2, hev, hre⟩ := hq
  have hP : MP G ad (zN (zN F 0 0) 5 (ecT A B (F 4))) A2 B2 H1 := hP
  refine lv_iload_n hx hb dX3_event_9 rfl (lv_at hl 1 rfl) ?_
  refine z_iconst hx hb dX3_event_10 ?_
  refine lv_aload_n hx hb dX3_event_11 rfl (lv_at hl 0 rfl) ?_
  refine zm_get hx hb hK hts hown hP 10 (by decide) q_fl_RX3_175 (v := .int (zI ((ecT A B (F 4))))) rfl dX3_event_12 ?_
  refine z_iconst hx hb dX3_event_15 ?_
  refine z_isub (x := (ecT A B (F 4))) (y := 1) hx hb dX3_event_16 ?_
  refine k_R (c_SR (As := [.int (zI (i)), .int (zI (0)), .int (zI (((ecT A B (F 4))) - (1)))]) (rest := []) ⟨hx, hb, hml, hown, hts⟩ hG hS hA (c_X3_isIn l G i 0 (((ecT A B (F 4))) - (1)) (show -2147483648 ≤ i ∧ i ≤ 2147483647 by omega) (show -2147483648 ≤ 0 ∧ 0 ≤ 2147483647 by omega) (show -2147483648 ≤ (((ecT A B (F 4))) - (1)) ∧ (((ecT A B (F 4))) - (1)) ≤ 2147483647 by omega)) ⟨q_ml_RX3_43, q_st_X3_isIn, q_ini_RX3, q_code_X3_isIn⟩ hs_X3_isIn trivial ⟨Nat.le_of_ble_eq_true rfl, Nat.le_of_ble_eq_true rfl⟩ ⟨(show _ ≤ (ecT A B (F 4)).toNat by omega), (show _ ≤ 4 * (ecT A B (F 4)).toNat by omega)⟩ rfl hl.1 rfl (Nat.le_of_ble_eq_true rfl) dX3_event_17) ?_
  refine z_bif_eq (q := 0 ≤ i ∧ i ≤ (((ecT A B (F 4))) - (1))) (tgt := 45) hx hb dX3_event_20 (by decide) (fun h_20 => ?_) (fun h_20 => ?_)
  · skip
    refine lv_aload_n hx hb dX3_event_45 rfl (lv_at hl 0 rfl) ?_
    refine z_iconst hx hb dX3_event_46 ?_
    refine k_Wi (c_VW (As := [.int (zI (1))]) (rest := []) ⟨hx, hb, hml, hown, hts⟩ hG hS hA (c_X3_fail l G ad (zN (zN F 0 (0)) 5 ((ecT A B (F 4)))) A2 B2 1 H1.size) ⟨q_ml_RX3_77, q_im_X3_fail, q_sel_X3_fail, q_ini_RX3, q_code_X3_fail⟩ hv_X3_fail (MP.rec hK hP) hP ⟨Nat.le_of_ble_eq_true rfl, Nat.le_of_ble_eq_true rfl⟩ ⟨(show _ ≤ (ecT A B (F 4)).toNat by omega), (show _ ≤ 4 * (ecT A B (F 4)).toNat by omega)⟩ rfl hl.1 rfl (Nat.le_of_ble_eq_true rfl) dX3_event_47) hS (fA_mono hS.1) (fun r_47 H1 locs1 hq hz1 hk1 hS => ?_)
    obtain ⟨hrz, hPz⟩ := hq
    exact e_Wi (r := r_47) hx hb hr hlk (n_i _) hS (by omega) (by omega) (by first | exact Or.inr ⟨⟨h_20, h_29⟩, rfl, A2, B2, hP, kp2⟩ | exact Or.inl ⟨(fun q => by first | exact h_20 q.1 | exact h_29 q.2), hrz, A2, B2, hPz, kp2⟩) dX3_event_50
  · skip
    refine lv_iload_n hx hb dX3_event_23 rfl (lv_at hl 2 rfl) ?_
    refine z_iconst hx hb dX3_event_24 ?_
    refine z_iconst hx hb dX3_event_25 ?_
    refine k_R (c_SR (As := [.int (zI (w)), .int (zI (0)), .int (zI (3))]) (rest := []) ⟨hx, hb, hml, hown, hts⟩ hG hS hA (c_X3_isIn l G w 0 3 (show -2147483648 ≤ w ∧ w ≤ 2147483647 by omega) (show -2147483648 ≤ 0 ∧ 0 ≤ 2147483647 by omega) (show -2147483648 ≤ 3 ∧ 3 ≤ 2147483647 by omega)) ⟨q_ml_RX3_43, q_st_X3_isIn, q_ini_RX3, q_code_X3_isIn⟩ hs_X3_isIn trivial ⟨Nat.le_of_ble_eq_true rfl, Nat.le_of_ble_eq_true rfl⟩ ⟨(show _ ≤ (ecT A B (F 4)).toNat by omega), (show _ ≤ 4 * (ecT A B (F 4)).toNat by omega)⟩ rfl hl.1 rfl (Nat.le_of_ble_eq_true rfl) dX3_event_26) ?_
    refine z_bif_eq (q := 0 ≤ w ∧ w ≤ 3) (tgt := 45) hx hb dX3_event_29 (by decide) (fun h_29 => ?_) (fun h_29 => ?_)
    · skip
      refine lv_aload_n hx hb dX3_event_45 rfl (lv_at hl 0 rfl) ?_
      refine z_iconst hx hb dX3_event_46 ?_
      refine k_Wi (c_VW (As := [.int (zI (1))]) (rest := []) ⟨hx, hb, hml, hown, hts⟩ hG hS hA (c_X3_fail l G ad (zN (zN F 0 (0)) 5 ((ecT A B (F 4)))) A2 B2 1 H1.size) ⟨q_ml_RX3_77, q_im_X3_fail, q_sel_X3_fail, q_ini_RX3, q_code_X3_fail⟩ hv_X3_fail (MP.rec hK hP) hP ⟨Nat.le_of_ble_eq_true rfl, Nat.le_of_ble_eq_true rfl⟩ ⟨(show _ ≤ (ecT A B (F 4)).toNat by omega), (show _ ≤ 4 * (ecT A B (F 4)).toNat by omega)⟩ rfl hl.1 rfl (Nat.le_of_ble_eq_true rfl) dX3_event_47) hS (fA_mono hS.1) (fun r_47 H1 locs1 hq hz1 hk1 hS => ?_)
      obtain ⟨hrz, hPz⟩ := hq
      exact e_Wi (r := r_47) hx hb hr hlk (n_i _) hS (by omega) (by omega) (by first | exact Or.inr ⟨⟨h_20, h_29⟩, rfl, A2, B2, hP, kp2⟩ | exact Or.inl ⟨(fun q => by first | exact h_20 q.1 | exact h_29 q.2), hrz, A2, B2, hPz, kp2⟩) dX3_event_50
    · skip
      refine lv_aload_n hx hb dX3_event_32 rfl (lv_at hl 0 rfl) ?_
      refine zm_get hx hb hK hts hown hP 11 (by decide) q_fl_RX3_34 (v := .ref (ad 10)) rfl dX3_event_33 ?_
      refine z_iconst hx hb dX3_event_36 ?_
      refine lv_iload_n hx hb dX3_event_37 rfl (lv_at hl 1 rfl) ?_
      refine z_imul (x := 4) (y := i) hx hb dX3_event_38 ?_
      refine lv_iload_n hx hb dX3_event_39 rfl (lv_at hl 2 rfl) ?_
      refine z_iadd (x := (4) * (i)) (y := w) hx hb dX3_event_40 ?_
      refine zm_lA4 hx hb hK hP (i := ((4) * (i)) + (w)) (by omega) dX3_event_41 ?_
      rw [hev]
      refine lv_goto (tgt := 50) hx hb dX3_event_42 (by decide) ?_
      exact e_Wi (r := evO A B (A 4) (F 4) (4 * i + w)) hx hb hr hlk (n_i _) hS (by omega) (by omega) (by first | exact Or.inr ⟨⟨h_20, h_29⟩, rfl, A2, B2, hP, kp2⟩ | exact Or.inl ⟨(fun q => by first | exact h_20 q.1 | exact h_29 q.2), hrz, A2, B2, hPz, kp2⟩) dX3_event_50
set_option maxHeartbeats 2000000 in
theorem c_X3_addRest (l : Launch) (G : zG) (ad : Nat → Nat) (F : Nat → Int) (A : Nat → Int → Int) (B : Int → Int → Int) (v pa d : Int) (sz : Nat) (r1 : -2147483648 ≤ v ∧ v ≤ 2147483647) (r2 : -2147483648 ≤ pa ∧ pa ≤ 2147483647) (r3 : -2147483648 ≤ d ∧ d ≤ 2147483647) (hVM : MOK F A B) : MW l yX3_addRest cX3_addRest 4 (some .int) 4 93 (1) (7) G [.ref (ad 0), .int (zI (v)), .int (zI (pa)), .int (zI (d))] (fA 11 ad sz) sz (MP G ad F A B) (QW (fA 11 ad sz) (fun r H => ∃ sd, (sd 0 = pa ∧ sd 1 = d ∧ sd 2 = 0 ∧ sd 3 = 0 ∧ sd 4 = 0 ∧ sd 5 = 0 ∧ sd 6 = 0) ∧ addQ G ad F A B v (isV pa d 15) sd (F 1 * 384 / F 2) (bgM B v (A 0 v)) (bgM B v (A 0 v) + tkO (sd 0) (sd 1)) r H)) := by
  refine mw_of hp_X3_addRest (Nat.le_of_ble_eq_true rfl) ?_
  intro p env s m below meth c ls hB hsz hP hl
  obtain ⟨hx, hb, hml, hr, hlk, hown, hts, hG⟩ := hB
  subst hsz
  have hK := hG.1
  have hS : va_S (fA 11 ad s.heap.size) s.heap s.heap [] := va_S.rf
  have hA : ∀ q : Nat, (fA 11 ad s.heap.size) q → G.2.2 ≤ q := fA_lo hP.1.2 hG.2.1
  have hD : ∀ k, k < 11 → (fA 11 ad s.heap.size) (ad k) := fun k hk => fA_in hk
  have hl : lv_has ls 4 [(0, .ref (ad 0)), (1, .int (zI (v))), (2, .int (zI (pa))), (3, .int (zI (d)))] := hl
  have h1b := hVM.1
  have h2b := hVM.2.1
  have h3b := hVM.2.2.1
  have h4b := hVM.2.2.2.1
  have h01 := isV_01 (pa := pa) (d := d) (n := 15) (by omega)
  refine lv_aload_n hx hb dX3_addRest_0 rfl (lv_at hl 0 rfl) ?_
  refine lv_iload_n hx hb dX3_addRest_1 rfl (lv_at hl 1 rfl) ?_
  refine lv_iload_n hx hb dX3_addRest_2 rfl (lv_at hl 2 rfl) ?_
  refine lv_iload_n hx hb dX3_addRest_3 rfl (lv_at hl 3 rfl) ?_
  refine k_R (c_SR (As := [.int (zI (pa)), .int (zI (d))]) (rest := [.int (zI (v)), .ref (ad 0)]) ⟨hx, hb, hml, hown, hts⟩ hG hS hA (c_X3_isValue l G pa d (show -2147483648 ≤ pa ∧ pa ≤ 2147483647 by omega) (show -2147483648 ≤ d ∧ d ≤ 2147483647 by omega)) ⟨q_ml_RX3_106, q_st_X3_isValue, q_ini_RX3, q_code_X3_isValue⟩ hs_X3_isValue trivial ⟨by decide, by decide⟩ ⟨Nat.le_of_ble_eq_true rfl, Nat.le_of_ble_eq_true rfl⟩ rfl hl.1 rfl (Nat.le_of_ble_eq_true rfl) dX3_addRest_4) ?_
  refine z_bipush hx hb dX3_addRest_7 (by decide) ?_
  refine zm_newI hx hb hts hK hP hS fA_new (n := 7) (by decide) (by show 0 + 1 ≤ _; exact Nat.le_of_ble_eq_true rfl) (by show 0 + _ ≤ _; exact Nat.le_of_ble_eq_true rfl) dX3_addRest_9 (fun na H hN hP hDn hne hna hz hS => ?_)
  refine lv_dup hx hb dX3_addRest_11 rfl ?_
  refine z_iconst hx hb dX3_addRest_12 ?_
  refine lv_iload_n hx hb dX3_addRest_13 rfl (lv_at hl 2 rfl) ?_
  refine zm_sN (x := pa) hx hb hK hP hS hDn hne hN (i := 0) (by decide) (by decide) dX3_addRest_14 (fun H locs hN hP hz hS => ?_)
  refine lv_dup hx hb dX3_addRest_15 rfl ?_
  refine z_iconst hx hb dX3_addRest_16 ?_
  refine lv_iload_n hx hb dX3_addRest_17 rfl (lv_at hl 3 rfl) ?_
  refine zm_sN (x := d) hx hb hK hP hS hDn hne hN (i := 1) (by decide) (by decide) dX3_addRest_18 (fun H locs hN hP hz hS => ?_)
  refine lv_dup hx hb dX3_addRest_19 rfl ?_
  refine z_iconst hx hb dX3_addRest_20 ?_
  refine z_iconst hx hb dX3_addRest_21 ?_
  refine zm_sN (x := 0) hx hb hK hP hS hDn hne hN (i := 2) (by decide) (by decide) dX3_addRest_22 (fun H locs hN hP hz hS => ?_)
  refine lv_dup hx hb dX3_addRest_23 rfl ?_
  refine z_iconst hx hb dX3_addRest_24 ?_
  refine z_iconst hx hb dX3_addRest_25 ?_
  refine zm_sN (x := 0) hx hb hK hP hS hDn hne hN (i := 3) (by decide) (by decide) dX3_addRest_26 (fun H locs hN hP hz hS => ?_)
  refine lv_dup hx hb dX3_addRest_27 rfl ?_
  refine z_iconst hx hb dX3_addRest_28 ?_
  refine z_iconst hx hb dX3_addRest_29 ?_
  refine zm_sN (x := 0) hx hb hK hP hS hDn hne hN (i := 4) (by decide) (by decide) dX3_addRest_30 (fun H locs hN hP hz hS => ?_)
  refine lv_dup hx hb dX3_addRest_31 rfl ?_
  refine z_iconst hx hb dX3_addRest_32 ?_
  refine z_iconst hx hb dX3_addRest_33 ?_
  refine zm_sN (x := 0) hx hb hK hP hS hDn hne hN (i := 5) (by decide) (by decide) dX3_addRest_34 (fun H locs hN hP hz hS => ?_)
  refine lv_dup hx hb dX3_addRest_35 rfl ?_
  refine z_bipush hx hb dX3_addRest_36 (by decide) ?_
  refine z_iconst hx hb dX3_addRest_38 ?_
  refine zm_sN (x := 0) hx hb hK hP hS hDn hne hN (i := 6) (by decide) (by decide) dX3_addRest_39 (fun H locs hN hP hz hS => ?_)
  refine k_Wi (c_VW (As := [.int (zI (v)), .int (zI (isV pa d 15)), .ref (na)]) (rest := []) ⟨hx, hb, hml, hown, hts⟩ hG hS hA (c_X3_add l G ad F A B na (zU (zU (zU (zU (zU (zU (zU (fun _ => 0) (0) (pa)) (1) (d)) (2) (0)) (3) (0)) (4) (0)) (5) (0)) (6) (0)) v (isV pa d 15) H.size (by omega) h01 (fun z => (show VK pa d from isV_VK (n := 15) (by omega) (by omega))) hVM) ⟨q_ml_RX3_126, q_im_X3_add, q_sel_X3_add, q_ini_RX3, q_code_X3_add⟩ hv_X3_add (MP.rec hK hP) ⟨hP, hN, hne⟩ ⟨by decide, by decide⟩ ⟨Nat.le_of_ble_eq_true rfl, Nat.le_of_ble_eq_true rfl⟩ rfl hl.1 rfl (Nat.le_of_ble_eq_true rfl) dX3_addRest_40) hS (fA_mono hS.1) (fun r_40 H1 locs1 hq hz1 hk1 hS => ?_)
  exact e_Wi (r := r_40) hx hb hr hlk (n_i _) hS (by omega) (by omega) ⟨_, ⟨rfl, rfl, rfl, rfl, rfl, rfl, rfl⟩, hq⟩ dX3_addRest_43
set_option maxHeartbeats 2000000 in
theorem c_X3_addNote (l : Launch) (G : zG) (ad : Nat → Nat) (F : Nat → Int) (A : Nat → Int → Int) (B : Int → Int → Int) (v pa d st sg oc t : Int) (sz : Nat) (r1 : -2147483648 ≤ v ∧ v ≤ 2147483647) (r2 : -2147483648 ≤ pa ∧ pa ≤ 2147483647) (r3 : -2147483648 ≤ d ∧ d ≤ 2147483647) (r4 : -2147483648 ≤ st ∧ st ≤ 2147483647) (r5 : -2147483648 ≤ sg ∧ sg ≤ 2147483647) (r6 : -2147483648 ≤ oc ∧ oc ≤ 2147483647) (r7 : -2147483648 ≤ t ∧ t ≤ 2147483647) (ht9 : t = 0 ∨ t = 1) (hVM : MOK F A B) : MW l yX3_addNote cX3_addNote 8 (some .int) 4 93 (1) (7) G [.ref (ad 0), .int (zI (v)), .int (zI (pa)), .int (zI (d)), .int (zI (st)), .int (zI (sg)), .int (zI (oc)), .int (zI (t))] (fA 11 ad sz) sz (MP G ad F A B) (QW (fA 11 ad sz) (fun r H => ∃ rt sd, (rt = 1 ∧ isV pa d 15 = 1 ∧ (0 ≤ st ∧ st < 7 ∧ 0 ≤ oc ∧ oc < 9 ∧ -2 ≤ sg ∧ sg ≤ 2 ∧ 0 ≤ toneF st sg oc) ∨ rt = 0 ∧ ¬ (isV pa d 15 = 1 ∧ (0 ≤ st ∧ st < 7 ∧ 0 ≤ oc ∧ oc < 9 ∧ -2 ≤ sg ∧ sg ≤ 2 ∧ 0 ≤ toneF st sg oc))) ∧ (sd 0 = pa ∧ sd 1 = d ∧ sd 2 = 1 ∧ sd 3 = st ∧ sd 4 = sg ∧ sd 5 = oc ∧ sd 6 = t) ∧ addQ G ad F A B v rt sd (F 1 * 384 / F 2) (bgM B v (A 0 v)) (bgM B v (A 0 v) + tkO (sd 0) (sd 1)) r H)) := by
  refine mw_of hp_X3_addNote (Nat.le_of_ble_eq_true rfl) ?_
  intro p env s m below meth c ls hB hsz hP hl
  obtain ⟨hx, hb, hml, hr, hlk, hown, hts, hG⟩ := hB
  subst hsz
  have hK := hG.1
  have hS : va_S (fA 11 ad s.heap.size) s.heap s.heap [] := va_S.rf
  have hA : ∀ q : Nat, (fA 11 ad s.heap.size) q → G.2.2 ≤ q := fA_lo hP.1.2 hG.2.1
  have hD : ∀ k, k < 11 → (fA 11 ad s.heap.size) (ad k) := fun k hk => fA_in hk
  have hl : lv_has ls 8 [(0, .ref (ad 0)), (1, .int (zI (v))), (2, .int (zI (pa))), (3, .int (zI (d))), (4, .int (zI (st))), (5, .int (zI (sg))), (6, .int (zI (oc))), (7, .int (zI (t)))] := hl
  have h1b := hVM.1
  have h2b := hVM.2.1
  have h3b := hVM.2.2.1
  have h4b := hVM.2.2.2.1
  have h01 := isV_01 (pa := pa) (d := d) (n := 15) (by omega)
  refine lv_aload_n hx hb dX3_addNote_0 rfl (lv_at hl 0 rfl) ?_
  refine lv_iload_n hx hb dX3_addNote_1 rfl (lv_at hl 1 rfl) ?_
  refine lv_iload_n hx hb dX3_addNote_2 rfl (lv_at hl 2 rfl) ?_
  refine lv_iload_n hx hb dX3_addNote_3 rfl (lv_at hl 3 rfl) ?_
  refine k_R (c_SR (As := [.int (zI (pa)), .int (zI (d))]) (rest := [.int (zI (v)), .ref (ad 0)]) ⟨hx, hb, hml, hown, hts⟩ hG hS hA (c_X3_isValue l G pa d (show -2147483648 ≤ pa ∧ pa ≤ 2147483647 by omega) (show -2147483648 ≤ d ∧ d ≤ 2147483647 by omega)) ⟨q_ml_RX3_106, q_st_X3_isValue, q_ini_RX3, q_code_X3_isValue⟩ hs_X3_isValue trivial ⟨by decide, by decide⟩ ⟨Nat.le_of_ble_eq_true rfl, Nat.le_of_ble_eq_true rfl⟩ rfl hl.1 rfl (Nat.le_of_ble_eq_true rfl) dX3_addNote_4) ?_
  refine z_if_eq (a := isV pa d 15) (tgt := 26) hx hb dX3_addNote_7 (by decide) (by omega) (fun h_7 => ?_) (fun h_7 => ?_)
  · skip
    refine z_iconst hx hb dX3_addNote_26 ?_
    refine z_bipush hx hb dX3_addNote_27 (by decide) ?_
    refine zm_newI hx hb hts hK hP hS fA_new (n := 7) (by decide) (by show 0 + 1 ≤ _; exact Nat.le_of_ble_eq_true rfl) (by show 0 + _ ≤ _; exact Nat.le_of_ble_eq_true rfl) dX3_addNote_29 (fun na H hN hP hDn hne hna hz hS => ?_)
    refine lv_dup hx hb dX3_addNote_31 rfl ?_
    refine z_iconst hx hb dX3_addNote_32 ?_
    refine lv_iload_n hx hb dX3_addNote_33 rfl (lv_at hl 2 rfl) ?_
    refine zm_sN (x := pa) hx hb hK hP hS hDn hne hN (i := 0) (by decide) (by decide) dX3_addNote_34 (fun H locs hN hP hz hS => ?_)
    refine lv_dup hx hb dX3_addNote_35 rfl ?_
    refine z_iconst hx hb dX3_addNote_36 ?_
    refine lv_iload_n hx hb dX3_addNote_37 rfl (lv_at hl 3 rfl) ?_
    refine zm_sN (x := d) hx hb hK hP hS hDn hne hN (i := 1) (by decide) (by decide) dX3_addNote_38 (fun H locs hN hP hz hS => ?_)
    refine lv_dup hx hb dX3_addNote_39 rfl ?_
    refine z_iconst hx hb dX3_addNote_40 ?_
    refine z_iconst hx hb dX3_addNote_41 ?_
    refine zm_sN (x := 1) hx hb hK hP hS hDn hne hN (i := 2) (by decide) (by decide) dX3_addNote_42 (fun H locs hN hP hz hS => ?_)
    refine lv_dup hx hb dX3_addNote_43 rfl ?_
    refine z_iconst hx hb dX3_addNote_44 ?_
    refine lv_iload hx hb dX3_addNote_45 (lv_at hl 4 rfl) ?_
    refine zm_sN (x := st) hx hb hK hP hS hDn hne hN (i := 3) (by decide) (by decide) dX3_addNote_47 (fun H locs hN hP hz hS => ?_)
    refine lv_dup hx hb dX3_addNote_48 rfl ?_
    refine z_iconst hx hb dX3_addNote_49 ?_
    refine lv_iload hx hb dX3_addNote_50 (lv_at hl 5 rfl) ?_
    refine zm_sN (x := sg) hx hb hK hP hS hDn hne hN (i := 4) (by decide) (by decide) dX3_addNote_52 (fun H locs hN hP hz hS => ?_)
    refine lv_dup hx hb dX3_addNote_53 rfl ?_
    refine z_iconst hx hb dX3_addNote_54 ?_
    refine lv_iload hx hb dX3_addNote_55 (lv_at hl 6 rfl) ?_
    refine zm_sN (x := oc) hx hb hK hP hS hDn hne hN (i := 5) (by decide) (by decide) dX3_addNote_57 (fun H locs hN hP hz hS => ?_)
    refine lv_dup hx hb dX3_addNote_58 rfl ?_
    refine z_bipush hx hb dX3_addNote_59 (by decide) ?_
    refine lv_iload hx hb dX3_addNote_61 (lv_at hl 7 rfl) ?_
    refine z_if_eq (a := t) (tgt := 70) hx hb dX3_addNote_63 (by decide) (by omega) (fun h_63 => ?_) (fun h_63 => ?_)
    · skip
      refine z_iconst hx hb dX3_addNote_70 ?_
      refine zm_sN (x := 0) hx hb hK hP hS hDn hne hN (i := 6) (by decide) (by decide) dX3_addNote_71 (fun H locs hN hP hz hS => ?_)
      refine k_Wi (c_VW (As := [.int (zI (v)), .int (zI (0)), .ref (na)]) (rest := []) ⟨hx, hb, hml, hown, hts⟩ hG hS hA (c_X3_add l G ad F A B na (zU (zU (zU (zU (zU (zU (zU (fun _ => 0) (0) (pa)) (1) (d)) (2) (1)) (3) (st)) (4) (sg)) (5) (oc)) (6) (0)) v 0 H.size (by omega) (by omega) (fun z => by first | exact (show VK pa d from isV_VK (n := 15) (by omega) (by omega)) | exact absurd z (by decide)) hVM) ⟨q_ml_RX3_126, q_im_X3_add, q_sel_X3_add, q_ini_RX3, q_code_X3_add⟩ hv_X3_add (MP.rec hK hP) ⟨hP, hN, hne⟩ ⟨by decide, by decide⟩ ⟨Nat.le_of_ble_eq_true rfl, Nat.le_of_ble_eq_true rfl⟩ rfl hl.1 rfl (Nat.le_of_ble_eq_true rfl) dX3_addNote_72) hS (fA_mono hS.1) (fun r_72 H1 locs1 hq hz1 hk1 hS => ?_)
      exact e_Wi (r := r_72) hx hb hr hlk (n_i _) hS (by omega) (by omega) ⟨_, _, (by first | exact Or.inl ⟨rfl, by omega, h_19⟩ | exact Or.inr ⟨rfl, fun q => by first | exact h_19 q.2 | omega⟩), ⟨rfl, rfl, rfl, rfl, rfl, rfl, (by first | exact (show (1 : Int) = t by omega) | exact (show (0 : Int) = t by omega))⟩, hq⟩ dX3_addNote_75
    · skip
      refine z_iconst hx hb dX3_addNote_66 ?_
      refine lv_goto (tgt := 71) hx hb dX3_addNote_67 (by decide) ?_
      refine zm_sN (x := 1) hx hb hK hP hS hDn hne hN (i := 6) (by decide) (by decide) dX3_addNote_71 (fun H locs hN hP hz hS => ?_)
      refine k_Wi (c_VW (As := [.int (zI (v)), .int (zI (0)), .ref (na)]) (rest := []) ⟨hx, hb, hml, hown, hts⟩ hG hS hA (c_X3_add l G ad F A B na (zU (zU (zU (zU (zU (zU (zU (fun _ => 0) (0) (pa)) (1) (d)) (2) (1)) (3) (st)) (4) (sg)) (5) (oc)) (6) (1)) v 0 H.size (by omega) (by omega) (fun z => by first | exact (show VK pa d from isV_VK (n := 15) (by omega) (by omega)) | exact absurd z (by decide)) hVM) ⟨q_ml_RX3_126, q_im_X3_add, q_sel_X3_add, q_ini_RX3, q_code_X3_add⟩ hv_X3_add (MP.rec hK hP) ⟨hP, hN, hne⟩ ⟨by decide, by decide⟩ ⟨Nat.le_of_ble_eq_true rfl, Nat.le_of_ble_eq_true rfl⟩ rfl hl.1 rfl (Nat.le_of_ble_eq_true rfl) dX3_addNote_72) hS (fA_mono hS.1) (fun r_72 H1 locs1 hq hz1 hk1 hS => ?_)
      exact e_Wi (r := r_72) hx hb hr hlk (n_i _) hS (by omega) (by omega) ⟨_, _, (by first | exact Or.inl ⟨rfl, by omega, h_19⟩ | exact Or.inr ⟨rfl, fun q => by first | exact h_19 q.2 | omega⟩), ⟨rfl, rfl, rfl, rfl, rfl, rfl, (by first | exact (show (1 : Int) = t by omega) | exact (show (0 : Int) = t by omega))⟩, hq⟩ dX3_addNote_75
  · skip
    refine lv_iload hx hb dX3_addNote_10 (lv_at hl 4 rfl) ?_
    refine lv_iload hx hb dX3_addNote_12 (lv_at hl 5 rfl) ?_
    refine lv_iload hx hb dX3_addNote_14 (lv_at hl 6 rfl) ?_
    refine k_R (c_SR (As := [.int (zI (st)), .int (zI (sg)), .int (zI (oc))]) (rest := [.int (zI (v)), .ref (ad 0)]) ⟨hx, hb, hml, hown, hts⟩ hG hS hA (c_X3_isPitch l G st sg oc (show -2147483648 ≤ st ∧ st ≤ 2147483647 by omega) (show -2147483648 ≤ sg ∧ sg ≤ 2147483647 by omega) (show -2147483648 ≤ oc ∧ oc ≤ 2147483647 by omega)) ⟨q_ml_RX3_123, q_st_X3_isPitch, q_ini_RX3, q_code_X3_isPitch⟩ hs_X3_isPitch trivial ⟨by decide, by decide⟩ ⟨Nat.le_of_ble_eq_true rfl, Nat.le_of_ble_eq_true rfl⟩ rfl hl.1 rfl (Nat.le_of_ble_eq_true rfl) dX3_addNote_16) ?_
    refine z_bif_eq (q := 0 ≤ st ∧ st < 7 ∧ 0 ≤ oc ∧ oc < 9 ∧ -2 ≤ sg ∧ sg ≤ 2 ∧ 0 ≤ toneF st sg oc) (tgt := 26) hx hb dX3_addNote_19 (by decide) (fun h_19 => ?_) (fun h_19 => ?_)
    · skip
      refine z_iconst hx hb dX3_addNote_26 ?_
      refine z_bipush hx hb dX3_addNote_27 (by decide) ?_
      refine zm_newI hx hb hts hK hP hS fA_new (n := 7) (by decide) (by show 0 + 1 ≤ _; exact Nat.le_of_ble_eq_true rfl) (by show 0 + _ ≤ _; exact Nat.le_of_ble_eq_true rfl) dX3_addNote_29 (fun na H hN hP hDn hne hna hz hS => ?_)
      refine lv_dup hx hb dX3_addNote_31 rfl ?_
      refine z_iconst hx hb dX3_addNote_32 ?_
      refine lv_iload_n hx hb dX3_addNote_33 rfl (lv_at hl 2 rfl) ?_
      refine zm_sN (x := pa) hx hb hK hP hS hDn hne hN (i := 0) (by decide) (by decide) dX3_addNote_34 (fun H locs hN hP hz hS => ?_)
      refine lv_dup hx hb dX3_addNote_35 rfl ?_
      refine z_iconst hx hb dX3_addNote_36 ?_
      refine lv_iload_n hx hb dX3_addNote_37 rfl (lv_at hl 3 rfl) ?_
      refine zm_sN (x := d) hx hb hK hP hS hDn hne hN (i := 1) (by decide) (by decide) dX3_addNote_38 (fun H locs hN hP hz hS => ?_)
      refine lv_dup hx hb dX3_addNote_39 rfl ?_
      refine z_iconst hx hb dX3_addNote_40 ?_
      refine z_iconst hx hb dX3_addNote_41 ?_
      refine zm_sN (x := 1) hx hb hK hP hS hDn hne hN (i := 2) (by decide) (by decide) dX3_addNote_42 (fun H locs hN hP hz hS => ?_)
      refine lv_dup hx hb dX3_addNote_43 rfl ?_
      refine z_iconst hx hb dX3_addNote_44 ?_
      refine lv_iload hx hb dX3_addNote_45 (lv_at hl 4 rfl) ?_
      refine zm_sN (x := st) hx hb hK hP hS hDn hne hN (i := 3) (by decide) (by decide) dX3_addNote_47 (fun H locs hN hP hz hS => ?_)
      refine lv_dup hx hb dX3_addNote_48 rfl ?_
      refine z_iconst hx hb dX3_addNote_49 ?_
      refine lv_iload hx hb dX3_addNote_50 (lv_at hl 5 rfl) ?_
      refine zm_sN (x := sg) hx hb hK hP hS hDn hne hN (i := 4) (by decide) (by decide) dX3_addNote_52 (fun H locs hN hP hz hS => ?_)
      refine lv_dup hx hb dX3_addNote_53 rfl ?_
      refine z_iconst hx hb dX3_addNote_54 ?_
      refine lv_iload hx hb dX3_addNote_55 (lv_at hl 6 rfl) ?_
      refine zm_sN (x := oc) hx hb hK hP hS hDn hne hN (i := 5) (by decide) (by decide) dX3_addNote_57 (fun H locs hN hP hz hS => ?_)
      refine lv_dup hx hb dX3_addNote_58 rfl ?_
      refine z_bipush hx hb dX3_addNote_59 (by decide) ?_
      refine lv_iload hx hb dX3_addNote_61 (lv_at hl 7 rfl) ?_
      refine z_if_eq (a := t) (tgt := 70) hx hb dX3_addNote_63 (by decide) (by omega) (fun h_63 => ?_) (fun h_63 => ?_)
      · skip
        refine z_iconst hx hb dX3_addNote_70 ?_
        refine zm_sN (x := 0) hx hb hK hP hS hDn hne hN (i := 6) (by decide) (by decide) dX3_addNote_71 (fun H locs hN hP hz hS => ?_)
        refine k_Wi (c_VW (As := [.int (zI (v)), .int (zI (0)), .ref (na)]) (rest := []) ⟨hx, hb, hml, hown, hts⟩ hG hS hA (c_X3_add l G ad F A B na (zU (zU (zU (zU (zU (zU (zU (fun _ => 0) (0) (pa)) (1) (d)) (2) (1)) (3) (st)) (4) (sg)) (5) (oc)) (6) (0)) v 0 H.size (by omega) (by omega) (fun z => by first | exact (show VK pa d from isV_VK (n := 15) (by omega) (by omega)) | exact absurd z (by decide)) hVM) ⟨q_ml_RX3_126, q_im_X3_add, q_sel_X3_add, q_ini_RX3, q_code_X3_add⟩ hv_X3_add (MP.rec hK hP) ⟨hP, hN, hne⟩ ⟨by decide, by decide⟩ ⟨Nat.le_of_ble_eq_true rfl, Nat.le_of_ble_eq_true rfl⟩ rfl hl.1 rfl (Nat.le_of_ble_eq_true rfl) dX3_addNote_72) hS (fA_mono hS.1) (fun r_72 H1 locs1 hq hz1 hk1 hS => ?_)
        exact e_Wi (r := r_72) hx hb hr hlk (n_i _) hS (by omega) (by omega) ⟨_, _, (by first | exact Or.inl ⟨rfl, by omega, h_19⟩ | exact Or.inr ⟨rfl, fun q => by first | exact h_19 q.2 | omega⟩), ⟨rfl, rfl, rfl, rfl, rfl, rfl, (by first | exact (show (1 : Int) = t by omega) | exact (show (0 : Int) = t by omega))⟩, hq⟩ dX3_addNote_75
      · skip
        refine z_iconst hx hb dX3_addNote_66 ?_
        refine lv_goto (tgt := 71) hx hb dX3_addNote_67 (by decide) ?_
        refine zm_sN (x := 1) hx hb hK hP hS hDn hne hN (i := 6) (by decide) (by decide) dX3_addNote_71 (fun H locs hN hP hz hS => ?_)
        refine k_Wi (c_VW (As := [.int (zI (v)), .int (zI (0)), .ref (na)]) (rest := []) ⟨hx, hb, hml, hown, hts⟩ hG hS hA (c_X3_add l G ad F A B na (zU (zU (zU (zU (zU (zU (zU (fun _ => 0) (0) (pa)) (1) (d)) (2) (1)) (3) (st)) (4) (sg)) (5) (oc)) (6) (1)) v 0 H.size (by omega) (by omega) (fun z => by first | exact (show VK pa d from isV_VK (n := 15) (by omega) (by omega)) | exact absurd z (by decide)) hVM) ⟨q_ml_RX3_126, q_im_X3_add, q_sel_X3_add, q_ini_RX3, q_code_X3_add⟩ hv_X3_add (MP.rec hK hP) ⟨hP, hN, hne⟩ ⟨by decide, by decide⟩ ⟨Nat.le_of_ble_eq_true rfl, Nat.le_of_ble_eq_true rfl⟩ rfl hl.1 rfl (Nat.le_of_ble_eq_true rfl) dX3_addNote_72) hS (fA_mono hS.1) (fun r_72 H1 locs1 hq hz1 hk1 hS => ?_)
        exact e_Wi (r := r_72) hx hb hr hlk (n_i _) hS (by omega) (by omega) ⟨_, _, (by first | exact Or.inl ⟨rfl, by omega, h_19⟩ | exact Or.inr ⟨rfl, fun q => by first | exact h_19 q.2 | omega⟩), ⟨rfl, rfl, rfl, rfl, rfl, rfl, (by first | exact (show (1 : Int) = t by omega) | exact (show (0 : Int) = t by omega))⟩, hq⟩ dX3_addNote_75
    · skip
      refine z_iconst hx hb dX3_addNote_22 ?_
      refine lv_goto (tgt := 27) hx hb dX3_addNote_23 (by decide) ?_
      refine z_bipush hx hb dX3_addNote_27 (by decide) ?_
      refine zm_newI hx hb hts hK hP hS fA_new (n := 7) (by decide) (by show 0 + 1 ≤ _; exact Nat.le_of_ble_eq_true rfl) (by show 0 + _ ≤ _; exact Nat.le_of_ble_eq_true rfl) dX3_addNote_29 (fun na H hN hP hDn hne hna hz hS => ?_)
      refine lv_dup hx hb dX3_addNote_31 rfl ?_
      refine z_iconst hx hb dX3_addNote_32 ?_
      refine lv_iload_n hx hb dX3_addNote_33 rfl (lv_at hl 2 rfl) ?_
      refine zm_sN (x := pa) hx hb hK hP hS hDn hne hN (i := 0) (by decide) (by decide) dX3_addNote_34 (fun H locs hN hP hz hS => ?_)
      refine lv_dup hx hb dX3_addNote_35 rfl ?_
      refine z_iconst hx hb dX3_addNote_36 ?_
      refine lv_iload_n hx hb dX3_addNote_37 rfl (lv_at hl 3 rfl) ?_
      refine zm_sN (x := d) hx hb hK hP hS hDn hne hN (i := 1) (by decide) (by decide) dX3_addNote_38 (fun H locs hN hP hz hS => ?_)
      refine lv_dup hx hb dX3_addNote_39 rfl ?_
      refine z_iconst hx hb dX3_addNote_40 ?_
      refine z_iconst hx hb dX3_addNote_41 ?_
      refine zm_sN (x := 1) hx hb hK hP hS hDn hne hN (i := 2) (by decide) (by decide) dX3_addNote_42 (fun H locs hN hP hz hS => ?_)
      refine lv_dup hx hb dX3_addNote_43 rfl ?_
      refine z_iconst hx hb dX3_addNote_44 ?_
      refine lv_iload hx hb dX3_addNote_45 (lv_at hl 4 rfl) ?_
      refine zm_sN (x := st) hx hb hK hP hS hDn hne hN (i := 3) (by decide) (by decide) dX3_addNote_47 (fun H locs hN hP hz hS => ?_)
      refine lv_dup hx hb dX3_addNote_48 rfl ?_
      refine z_iconst hx hb dX3_addNote_49 ?_
      refine lv_iload hx hb dX3_addNote_50 (lv_at hl 5 rfl) ?_
      refine zm_sN (x := sg) hx hb hK hP hS hDn hne hN (i := 4) (by decide) (by decide) dX3_addNote_52 (fun H locs hN hP hz hS => ?_)
      refine lv_dup hx hb dX3_addNote_53 rfl ?_
      refine z_iconst hx hb dX3_addNote_54 ?_
      refine lv_iload hx hb dX3_addNote_55 (lv_at hl 6 rfl) ?_
      refine zm_sN (x := oc) hx hb hK hP hS hDn hne hN (i := 5) (by decide) (by decide) dX3_addNote_57 (fun H locs hN hP hz hS => ?_)
      refine lv_dup hx hb dX3_addNote_58 rfl ?_
      refine z_bipush hx hb dX3_addNote_59 (by decide) ?_
      refine lv_iload hx hb dX3_addNote_61 (lv_at hl 7 rfl) ?_
      refine z_if_eq (a := t) (tgt := 70) hx hb dX3_addNote_63 (by decide) (by omega) (fun h_63 => ?_) (fun h_63 => ?_)
      · skip
        refine z_iconst hx hb dX3_addNote_70 ?_
        refine zm_sN (x := 0) hx hb hK hP hS hDn hne hN (i := 6) (by decide) (by decide) dX3_addNote_71 (fun H locs hN hP hz hS => ?_)
        refine k_Wi (c_VW (As := [.int (zI (v)), .int (zI (1)), .ref (na)]) (rest := []) ⟨hx, hb, hml, hown, hts⟩ hG hS hA (c_X3_add l G ad F A B na (zU (zU (zU (zU (zU (zU (zU (fun _ => 0) (0) (pa)) (1) (d)) (2) (1)) (3) (st)) (4) (sg)) (5) (oc)) (6) (0)) v 1 H.size (by omega) (by omega) (fun z => by first | exact (show VK pa d from isV_VK (n := 15) (by omega) (by omega)) | exact absurd z (by decide)) hVM) ⟨q_ml_RX3_126, q_im_X3_add, q_sel_X3_add, q_ini_RX3, q_code_X3_add⟩ hv_X3_add (MP.rec hK hP) ⟨hP, hN, hne⟩ ⟨by decide, by decide⟩ ⟨Nat.le_of_ble_eq_true rfl, Nat.le_of_ble_eq_true rfl⟩ rfl hl.1 rfl (Nat.le_of_ble_eq_true rfl) dX3_addNote_72) hS (fA_mono hS.1) (fun r_72 H1 locs1 hq hz1 hk1 hS => ?_)
        exact e_Wi (r := r_72) hx hb hr hlk (n_i _) hS (by omega) (by omega) ⟨_, _, (by first | exact Or.inl ⟨rfl, by omega, h_19⟩ | exact Or.inr ⟨rfl, fun q => by first | exact h_19 q.2 | omega⟩), ⟨rfl, rfl, rfl, rfl, rfl, rfl, (by first | exact (show (1 : Int) = t by omega) | exact (show (0 : Int) = t by omega))⟩, hq⟩ dX3_addNote_75
      · skip
        refine z_iconst hx hb dX3_addNote_66 ?_
        refine lv_goto (tgt := 71) hx hb dX3_addNote_67 (by decide) ?_
        refine zm_sN (x := 1) hx hb hK hP hS hDn hne hN (i := 6) (by decide) (by decide) dX3_addNote_71 (fun H locs hN hP hz hS => ?_)
        refine k_Wi (c_VW (As := [.int (zI (v)), .int (zI (1)), .ref (na)]) (rest := []) ⟨hx, hb, hml, hown, hts⟩ hG hS hA (c_X3_add l G ad F A B na (zU (zU (zU (zU (zU (zU (zU (fun _ => 0) (0) (pa)) (1) (d)) (2) (1)) (3) (st)) (4) (sg)) (5) (oc)) (6) (1)) v 1 H.size (by omega) (by omega) (fun z => by first | exact (show VK pa d from isV_VK (n := 15) (by omega) (by omega)) | exact absurd z (by decide)) hVM) ⟨q_ml_RX3_126, q_im_X3_add, q_sel_X3_add, q_ini_RX3, q_code_X3_add⟩ hv_X3_add (MP.rec hK hP) ⟨hP, hN, hne⟩ ⟨by decide, by decide⟩ ⟨Nat.le_of_ble_eq_true rfl, Nat.le_of_ble_eq_true rfl⟩ rfl hl.1 rfl (Nat.le_of_ble_eq_true rfl) dX3_addNote_72) hS (fA_mono hS.1) (fun r_72 H1 locs1 hq hz1 hk1 hS => ?_)
        exact e_Wi (r := r_72) hx hb hr hlk (n_i _) hS (by omega) (by omega) ⟨_, _, (by first | exact Or.inl ⟨rfl, by omega, h_19⟩ | exact Or.inr ⟨rfl, fun q => by first | exact h_19 q.2 | omega⟩), ⟨rfl, rfl, rfl, rfl, rfl, rfl, (by first | exact (show (1 : Int) = t by omega) | exact (show (0 : Int) = t by omega))⟩, hq⟩ dX3_addNote_75
