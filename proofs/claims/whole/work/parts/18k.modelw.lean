theorem isV_VK {pa d n : Int} (hn : 0 ≤ n ∧ n ≤ 15) (h : isV pa d n = 1) : VK pa d := by
  obtain ⟨k, rfl⟩ : ∃ k : Nat, n = (k : Int) := ⟨n.toNat, by omega⟩
  induction k with
  | zero =>
    have h9 : (0 : Int) = 1 := h
    omega
  | succ k ih =>
    have q : isV pa d ((k : Int) + 1) = if isV pa d (k : Int) = 0 then bI (valP (k : Int) = pa ∧ valD (k : Int) = d) else 1 := pf_s _ _ (by omega)
    rw [show ((k + 1 : Nat) : Int) = (k : Int) + 1 by omega, q] at h
    rcases isV_01 (pa := pa) (d := d) (n := (k : Int)) (by omega) with z | z
    · rw [if_pos z] at h
      have : ¬ bI (valP (k : Int) = pa ∧ valD (k : Int) = d) = 0 := by omega
      exact ⟨k, by omega, Decidable.byContradiction (fun c9 => this (bI_e0.mpr c9))⟩
    · exact ih (by omega) z
set_option maxHeartbeats 2000000 in
theorem c_X3_setKey (l : Launch) (G : zG) (ad : Nat → Nat) (F : Nat → Int) (A : Nat → Int → Int) (B : Int → Int → Int) (k : Int) (sz : Nat) (r1 : -2147483648 ≤ k ∧ k ≤ 2147483647) (hVM : MOK F A B) : MW l yX3_setKey cX3_setKey 3 (some .int) 1 22 (0) (0) G [.ref (ad 0), .int (zI (k))] (fA 11 ad sz) sz (MP G ad F A B) (QW (fA 11 ad sz) (fun r H => (¬ (-7 ≤ k ∧ k ≤ 7) ∧ r = 0 ∧ MP G ad (zN F 0 1) A B H) ∨ ((-7 ≤ k ∧ k ≤ 7) ∧ r = F 3 ∧ MP G ad (zN (zN F 0 0) 3 k) A B H))) := by
  refine mw_of hp_X3_setKey (Nat.le_of_ble_eq_true rfl) ?_
  intro p env s m below meth c ls hB hsz hP hl
  obtain ⟨hx, hb, hml, hr, hlk, hown, hts, hG⟩ := hB
  subst hsz
  have hK := hG.1
  have hS : va_S (fA 11 ad s.heap.size) s.heap s.heap [] := va_S.rf
  have hA : ∀ q : Nat, (fA 11 ad s.heap.size) q → G.2.2 ≤ q := fA_lo hP.1.2 hG.2.1
  have hD : ∀ k, k < 11 → (fA 11 ad s.heap.size) (ad k) := fun k hk => fA_in hk
  have hl : lv_has ls 3 [(0, .ref (ad 0)), (1, .int (zI (k)))] := hl
  have h1b := hVM.1
  have h2b := hVM.2.1
  have h3b := hVM.2.2.1
  have h4b := hVM.2.2.2.1
  refine lv_aload_n hx hb dX3_setKey_0 rfl (lv_at hl 0 rfl) ?_
  refine z_iconst hx hb dX3_setKey_1 ?_
  refine zm_put (x := 0) hx hb hK hts hown hP hS (hD 0 (by decide)) 0 (by decide) q_fl_RX3_37 dX3_setKey_2 (fun H locs hP hz ho hS => ?_)
  refine lv_iload_n hx hb dX3_setKey_5 rfl (lv_at hl 1 rfl) ?_
  refine z_bipush hx hb dX3_setKey_6 (by decide) ?_
  refine z_bipush hx hb dX3_setKey_8 (by decide) ?_
  refine k_R (c_SR (As := [.int (zI (k)), .int (zI (-7)), .int (zI (7))]) (rest := []) ⟨hx, hb, hml, hown, hts⟩ hG hS hA (c_X3_isIn l G k (-7) 7 (show -2147483648 ≤ k ∧ k ≤ 2147483647 by omega) (show -2147483648 ≤ (-7) ∧ (-7) ≤ 2147483647 by omega) (show -2147483648 ≤ 7 ∧ 7 ≤ 2147483647 by omega)) ⟨q_ml_RX3_43, q_st_X3_isIn, q_ini_RX3, q_code_X3_isIn⟩ hs_X3_isIn trivial ⟨by decide, by decide⟩ ⟨Nat.zero_le _, Nat.zero_le _⟩ rfl hl.1 rfl (Nat.le_of_ble_eq_true rfl) dX3_setKey_10) ?_
  refine z_bif_ne (q := (-7) ≤ k ∧ k ≤ 7) (tgt := 22) hx hb dX3_setKey_13 (by decide) (fun h_13 => ?_) (fun h_13 => ?_)
  · skip
    refine lv_aload_n hx hb dX3_setKey_22 rfl (lv_at hl 0 rfl) ?_
    refine zm_get hx hb hK hts hown hP 3 (by decide) q_fl_RX3_74 (v := .int (zI (F 3))) rfl dX3_setKey_23 ?_
    refine lv_istore_n (lv' := [(2, .int (zI (F 3))), (0, .ref (ad 0)), (1, .int (zI (k)))]) hx hb dX3_setKey_26 rfl hl (by decide) rfl (fun ls hl => ?_)
    refine lv_aload_n hx hb dX3_setKey_27 rfl (lv_at hl 1 rfl) ?_
    refine lv_iload_n hx hb dX3_setKey_28 rfl (lv_at hl 2 rfl) ?_
    refine zm_put (x := k) hx hb hK hts hown hP hS (hD 0 (by decide)) 3 (by decide) q_fl_RX3_74 dX3_setKey_29 (fun H locs hP hz ho hS => ?_)
    refine lv_iload_n hx hb dX3_setKey_32 rfl (lv_at hl 0 rfl) ?_
    exact e_Wi (r := F 3) hx hb hr hlk (n_i _) hS (by omega) (by omega) (Or.inr ⟨h_13, rfl, hP⟩) dX3_setKey_33
  · skip
    refine lv_aload_n hx hb dX3_setKey_16 rfl (lv_at hl 0 rfl) ?_
    refine z_iconst hx hb dX3_setKey_17 ?_
    refine k_Wi (c_VW (As := [.int (zI (1))]) (rest := []) ⟨hx, hb, hml, hown, hts⟩ hG hS hA (c_X3_fail l G ad (zN F 0 (0)) A B 1 H.size) ⟨q_ml_RX3_77, q_im_X3_fail, q_sel_X3_fail, q_ini_RX3, q_code_X3_fail⟩ hv_X3_fail (MP.rec hK hP) hP ⟨by decide, by decide⟩ ⟨Nat.zero_le _, Nat.zero_le _⟩ rfl hl.1 rfl (Nat.le_of_ble_eq_true rfl) dX3_setKey_18) hS (fA_mono hS.1) (fun r_18 H1 locs1 hq hz1 hk1 hS => ?_)
    obtain ⟨hrz, hPz⟩ := hq
    rw [zN_N] at hPz
    exact e_Wi (r := r_18) hx hb hr hlk (n_i _) hS (by omega) (by omega) (Or.inl ⟨h_13, hrz, hPz⟩) dX3_setKey_21
set_option maxHeartbeats 2000000 in
theorem c_X3_addVoice (l : Launch) (G : zG) (ad : Nat → Nat) (F : Nat → Int) (A : Nat → Int → Int) (B : Int → Int → Int) (sz : Nat) (hVM : MOK F A B) : MW l yX3_addVoice cX3_addVoice 1 (some .int) 1 21 (0) (0) G [.ref (ad 0)] (fA 11 ad sz) sz (MP G ad F A B) (QW (fA 11 ad sz) (fun r H => (F 4 = 4 ∧ r = 0 ∧ MP G ad (zN F 0 1) A B H) ∨ (¬ F 4 = 4 ∧ r = F 4 ∧ MP G ad (zN (zN F 0 0) 4 (F 4 + 1)) A B H))) := by
  refine mw_of hp_X3_addVoice (Nat.le_of_ble_eq_true rfl) ?_
  intro p env s m below meth c ls hB hsz hP hl
  obtain ⟨hx, hb, hml, hr, hlk, hown, hts, hG⟩ := hB
  subst hsz
  have hK := hG.1
  have hS : va_S (fA 11 ad s.heap.size) s.heap s.heap [] := va_S.rf
  have hA : ∀ q : Nat, (fA 11 ad s.heap.size) q → G.2.2 ≤ q := fA_lo hP.1.2 hG.2.1
  have hD : ∀ k, k < 11 → (fA 11 ad s.heap.size) (ad k) := fun k hk => fA_in hk
  have hl : lv_has ls 1 [(0, .ref (ad 0))] := hl
  have h1b := hVM.1
  have h2b := hVM.2.1
  have h3b := hVM.2.2.1
  have h4b := hVM.2.2.2.1
  refine lv_aload_n hx hb dX3_addVoice_0 rfl (lv_at hl 0 rfl) ?_
  refine z_iconst hx hb dX3_addVoice_1 ?_
  refine zm_put (x := 0) hx hb hK hts hown hP hS (hD 0 (by decide)) 0 (by decide) q_fl_RX3_37 dX3_addVoice_2 (fun H locs hP hz ho hS => ?_)
  refine lv_aload_n hx hb dX3_addVoice_5 rfl (lv_at hl 0 rfl) ?_
  refine zm_get hx hb hK hts hown hP 4 (by decide) q_fl_RX3_40 (v := .int (zI (F 4))) rfl dX3_addVoice_6 ?_
  refine z_iconst hx hb dX3_addVoice_9 ?_
  refine z_icmp_ne (a := F 4) (b := 4) (tgt := 19) hx hb dX3_addVoice_10 (by decide) (by omega) (by omega) (fun h_10 => ?_) (fun h_10 => ?_)
  · skip
    refine lv_aload_n hx hb dX3_addVoice_19 rfl (lv_at hl 0 rfl) ?_
    refine lv_dup hx hb dX3_addVoice_20 rfl ?_
    refine zm_get hx hb hK hts hown hP 4 (by decide) q_fl_RX3_40 (v := .int (zI (F 4))) rfl dX3_addVoice_21 ?_
    refine z_iconst hx hb dX3_addVoice_24 ?_
    refine z_iadd (x := F 4) (y := 1) hx hb dX3_addVoice_25 ?_
    refine zm_put (x := (F 4) + (1)) hx hb hK hts hown hP hS (hD 0 (by decide)) 4 (by decide) q_fl_RX3_40 dX3_addVoice_26 (fun H locs hP hz ho hS => ?_)
    refine lv_aload_n hx hb dX3_addVoice_29 rfl (lv_at hl 0 rfl) ?_
    refine zm_get hx hb hK hts hown hP 4 (by decide) q_fl_RX3_40 (v := .int (zI ((F 4) + (1)))) rfl dX3_addVoice_30 ?_
    refine z_iconst hx hb dX3_addVoice_33 ?_
    refine z_isub (x := (F 4) + (1)) (y := 1) hx hb dX3_addVoice_34 ?_
    exact e_Wi (r := ((F 4) + (1)) - (1)) hx hb hr hlk (n_i _) hS (by omega) (by omega) (Or.inr ⟨by omega, by omega, hP⟩) dX3_addVoice_35
  · skip
    refine lv_aload_n hx hb dX3_addVoice_13 rfl (lv_at hl 0 rfl) ?_
    refine z_iconst hx hb dX3_addVoice_14 ?_
    refine k_Wi (c_VW (As := [.int (zI (1))]) (rest := []) ⟨hx, hb, hml, hown, hts⟩ hG hS hA (c_X3_fail l G ad (zN F 0 (0)) A B 1 H.size) ⟨q_ml_RX3_77, q_im_X3_fail, q_sel_X3_fail, q_ini_RX3, q_code_X3_fail⟩ hv_X3_fail (MP.rec hK hP) hP ⟨by decide, by decide⟩ ⟨Nat.zero_le _, Nat.zero_le _⟩ rfl hl.1 rfl (Nat.le_of_ble_eq_true rfl) dX3_addVoice_15) hS (fA_mono hS.1) (fun r_15 H1 locs1 hq hz1 hk1 hS => ?_)
    obtain ⟨hrz, hPz⟩ := hq
    rw [zN_N] at hPz
    exact e_Wi (r := r_15) hx hb hr hlk (n_i _) hS (by omega) (by omega) (Or.inl ⟨by omega, hrz, hPz⟩) dX3_addVoice_18
set_option maxHeartbeats 2000000 in
theorem c_X3_score (l : Launch) (G : zG) (ad : Nat → Nat) (F : Nat → Int) (A : Nat → Int → Int) (B : Int → Int → Int) (w : Int) (sz : Nat) (r1 : -2147483648 ≤ w ∧ w ≤ 2147483647) (hVM : MOK F A B) : MW l yX3_score cX3_score 2 (some .int) 5 114 (0) (0) G [.ref (ad 0), .int (zI (w))] (fA 11 ad sz) sz (MP G ad F A B) (QW (fA 11 ad sz) (fun r H => (¬ (0 ≤ w ∧ w ≤ 4) ∧ r = 0 ∧ MP G ad (zN F 0 1) A B H) ∨ ((0 ≤ w ∧ w ≤ 4) ∧ r = scM (zN F 0 0) A B w ∧ ∃ A' B', MP G ad (zN F 0 0) A' B' H ∧ KP A B A' B'))) := by
  refine mw_of hp_X3_score (Nat.le_of_ble_eq_true rfl) ?_
  intro p env s m below meth c ls hB hsz hP hl
  obtain ⟨hx, hb, hml, hr, hlk, hown, hts, hG⟩ := hB
  subst hsz
  have hK := hG.1
  have hS : va_S (fA 11 ad s.heap.size) s.heap s.heap [] := va_S.rf
  have hA : ∀ q : Nat, (fA 11 ad s.heap.size) q → G.2.2 ≤ q := fA_lo hP.1.2 hG.2.1
  have hD : ∀ k, k < 11 → (fA 11 ad s.heap.size) (ad k) := fun k hk => fA_in hk
  have hl : lv_has ls 2 [(0, .ref (ad 0)), (1, .int (zI (w)))] := hl
  have h1b := hVM.1
  have h2b := hVM.2.1
  have h3b := hVM.2.2.1
  have h4b := hVM.2.2.2.1
  refine lv_aload_n hx hb dX3_score_0 rfl (lv_at hl 0 rfl) ?_
  refine z_iconst hx hb dX3_score_1 ?_
  refine zm_put (x := 0) hx hb hK hts hown hP hS (hD 0 (by decide)) 0 (by decide) q_fl_RX3_37 dX3_score_2 (fun H locs hP hz ho hS => ?_)
  refine lv_iload_n hx hb dX3_score_5 rfl (lv_at hl 1 rfl) ?_
  refine z_iconst hx hb dX3_score_6 ?_
  refine z_iconst hx hb dX3_score_7 ?_
  refine k_R (c_SR (As := [.int (zI (w)), .int (zI (0)), .int (zI (4))]) (rest := []) ⟨hx, hb, hml, hown, hts⟩ hG hS hA (c_X3_isIn l G w 0 4 (show -2147483648 ≤ w ∧ w ≤ 2147483647 by omega) (show -2147483648 ≤ 0 ∧ 0 ≤ 2147483647 by omega) (show -2147483648 ≤ 4 ∧ 4 ≤ 2147483647 by omega)) ⟨q_ml_RX3_43, q_st_X3_isIn, q_ini_RX3, q_code_X3_isIn⟩ hs_X3_isIn trivial ⟨by decide, by decide⟩ ⟨Nat.zero_le _, Nat.zero_le _⟩ rfl hl.1 rfl (Nat.le_of_ble_eq_true rfl) dX3_score_8) ?_
  refine z_bif_eq (q := 0 ≤ w ∧ w ≤ 4) (tgt := 22) hx hb dX3_score_11 (by decide) (fun h_11 => ?_) (fun h_11 => ?_)
  · skip
    refine lv_aload_n hx hb dX3_score_22 rfl (lv_at hl 0 rfl) ?_
    refine z_iconst hx hb dX3_score_23 ?_
    refine k_Wi (c_VW (As := [.int (zI (1))]) (rest := []) ⟨hx, hb, hml, hown, hts⟩ hG hS hA (c_X3_fail l G ad (zN F 0 (0)) A B 1 H.size) ⟨q_ml_RX3_77, q_im_X3_fail, q_sel_X3_fail, q_ini_RX3, q_code_X3_fail⟩ hv_X3_fail (MP.rec hK hP) hP ⟨by decide, by decide⟩ ⟨Nat.zero_le _, Nat.zero_le _⟩ rfl hl.1 rfl (Nat.le_of_ble_eq_true rfl) dX3_score_24) hS (fA_mono hS.1) (fun r_24 H1 locs1 hq hz1 hk1 hS => ?_)
    obtain ⟨hrz, hPz⟩ := hq
    rw [zN_N] at hPz
    exact e_Wi (r := r_24) hx hb hr hlk (n_i _) hS (by omega) (by omega) (by first | exact Or.inr ⟨h_11, hr9, A2, B2, hP, kp2⟩ | exact Or.inl ⟨h_11, hrz, hPz⟩) dX3_score_27
  · skip
    refine lv_aload_n hx hb dX3_score_14 rfl (lv_at hl 0 rfl) ?_
    refine lv_iload_n hx hb dX3_score_15 rfl (lv_at hl 1 rfl) ?_
    refine k_Wi (c_VW (As := [.int (zI (w))]) (rest := []) ⟨hx, hb, hml, hown, hts⟩ hG hS hA (c_X3_scoreTold l G ad (zN F 0 (0)) A B w H.size (by omega) (hVM.F0 0)) ⟨q_ml_RX3_100, q_im_X3_scoreTold, q_sel_X3_scoreTold, q_ini_RX3, q_code_X3_scoreTold⟩ hv_X3_scoreTold (MP.rec hK hP) hP ⟨by decide, by decide⟩ ⟨Nat.zero_le _, Nat.zero_le _⟩ rfl hl.1 rfl (Nat.le_of_ble_eq_true rfl) dX3_score_16) hS (fA_mono hS.1) (fun r_16 H1 locs1 hq hz1 hk1 hS => ?_)
    obtain ⟨hr9, A2, B2, hP, kp2⟩ := hq
    refine lv_goto (tgt := 27) hx hb dX3_score_19 (by decide) ?_
    exact e_Wi (r := r_16) hx hb hr hlk (n_i _) hS (by omega) (by omega) (by first | exact Or.inr ⟨h_11, hr9, A2, B2, hP, kp2⟩ | exact Or.inl ⟨h_11, hrz, hPz⟩) dX3_score_27
set_option maxHeartbeats 2000000 in
theorem c_X3_sign (l : Launch) (G : zG) (ad : Nat → Nat) (F : Nat → Int) (A : Nat → Int → Int) (B : Int → Int → Int) (z : Int) (sz : Nat) (r1 : -2147483648 ≤ z ∧ z ≤ 2147483647) (hVM : MOK F A B) : MW l yX3_sign cX3_sign 2 (some .int) 1 22 (0) (0) G [.ref (ad 0), .int (zI (z))] (fA 11 ad sz) sz (MP G ad F A B) (QW (fA 11 ad sz) (fun r H => (¬ (0 ≤ z ∧ z ≤ 6) ∧ r = 0 ∧ MP G ad (zN F 0 1) A B H) ∨ ((0 ≤ z ∧ z ≤ 6) ∧ r = sgM (F 3) z ∧ MP G ad (zN F 0 0) A B H))) := by
  refine mw_of hp_X3_sign (Nat.le_of_ble_eq_true rfl) ?_
  intro p env s m below meth c ls hB hsz hP hl
  obtain ⟨hx, hb, hml, hr, hlk, hown, hts, hG⟩ := hB
  subst hsz
  have hK := hG.1
  have hS : va_S (fA 11 ad s.heap.size) s.heap s.heap [] := va_S.rf
  have hA : ∀ q : Nat, (fA 11 ad s.heap.size) q → G.2.2 ≤ q := fA_lo hP.1.2 hG.2.1
  have hD : ∀ k, k < 11 → (fA 11 ad s.heap.size) (ad k) := fun k hk => fA_in hk
  have hl : lv_has ls 2 [(0, .ref (ad 0)), (1, .int (zI (z)))] := hl
  have h1b := hVM.1
  have h2b := hVM.2.1
  have h3b := hVM.2.2.1
  have h4b := hVM.2.2.2.1
  refine lv_aload_n hx hb dX3_sign_0 rfl (lv_at hl 0 rfl) ?_
  refine z_iconst hx hb dX3_sign_1 ?_
  refine zm_put (x := 0) hx hb hK hts hown hP hS (hD 0 (by decide)) 0 (by decide) q_fl_RX3_37 dX3_sign_2 (fun H locs hP hz ho hS => ?_)
  refine lv_iload_n hx hb dX3_sign_5 rfl (lv_at hl 1 rfl) ?_
  refine z_iconst hx hb dX3_sign_6 ?_
  refine z_bipush hx hb dX3_sign_7 (by decide) ?_
  refine k_R (c_SR (As := [.int (zI (z)), .int (zI (0)), .int (zI (6))]) (rest := []) ⟨hx, hb, hml, hown, hts⟩ hG hS hA (c_X3_isIn l G z 0 6 (show -2147483648 ≤ z ∧ z ≤ 2147483647 by omega) (show -2147483648 ≤ 0 ∧ 0 ≤ 2147483647 by omega) (show -2147483648 ≤ 6 ∧ 6 ≤ 2147483647 by omega)) ⟨q_ml_RX3_43, q_st_X3_isIn, q_ini_RX3, q_code_X3_isIn⟩ hs_X3_isIn trivial ⟨by decide, by decide⟩ ⟨Nat.zero_le _, Nat.zero_le _⟩ rfl hl.1 rfl (Nat.le_of_ble_eq_true rfl) dX3_sign_9) ?_
  refine z_bif_eq (q := 0 ≤ z ∧ z ≤ 6) (tgt := 23) hx hb dX3_sign_12 (by decide) (fun h_12 => ?_) (fun h_12 => ?_)
  · skip
    refine lv_aload_n hx hb dX3_sign_23 rfl (lv_at hl 0 rfl) ?_
    refine z_iconst hx hb dX3_sign_24 ?_
    refine k_Wi (c_VW (As := [.int (zI (1))]) (rest := []) ⟨hx, hb, hml, hown, hts⟩ hG hS hA (c_X3_fail l G ad (zN F 0 (0)) A B 1 H.size) ⟨q_ml_RX3_77, q_im_X3_fail, q_sel_X3_fail, q_ini_RX3, q_code_X3_fail⟩ hv_X3_fail (MP.rec hK hP) hP ⟨by decide, by decide⟩ ⟨Nat.zero_le _, Nat.zero_le _⟩ rfl hl.1 rfl (Nat.le_of_ble_eq_true rfl) dX3_sign_25) hS (fA_mono hS.1) (fun r_25 H1 locs1 hq hz1 hk1 hS => ?_)
    obtain ⟨hrz, hPz⟩ := hq
    rw [zN_N] at hPz
    exact e_Wi (r := r_25) hx hb hr hlk (n_i _) hS (by omega) (by omega) (by first | exact Or.inr ⟨h_12, rfl, hP⟩ | exact Or.inl ⟨h_12, hrz, hPz⟩) dX3_sign_28
  · skip
    refine lv_aload_n hx hb dX3_sign_15 rfl (lv_at hl 0 rfl) ?_
    refine lv_iload_n hx hb dX3_sign_16 rfl (lv_at hl 1 rfl) ?_
    refine k_R (c_VR (As := [.int (zI (z))]) (rest := []) ⟨hx, hb, hml, hown, hts⟩ hG hS hA (c_X3_signOf l G ad (zN F 0 (0)) A B z (by omega) (hVM.F0 0)) ⟨q_ml_RX3_103, q_im_X3_signOf, q_sel_X3_signOf, q_ini_RX3, q_code_X3_signOf⟩ hv_X3_signOf (MP.rec hK hP) hP ⟨by decide, by decide⟩ ⟨Nat.zero_le _, Nat.zero_le _⟩ rfl hl.1 rfl (Nat.le_of_ble_eq_true rfl) dX3_sign_17) ?_
    refine lv_goto (tgt := 28) hx hb dX3_sign_20 (by decide) ?_
    exact e_Wi (r := sgM ((F 3)) z) hx hb hr hlk (n_i _) hS (by omega) (by omega) (by first | exact Or.inr ⟨h_12, rfl, hP⟩ | exact Or.inl ⟨h_12, hrz, hPz⟩) dX3_sign_28
set_option maxHeartbeats 2000000 in
theorem c_X3_ticks (l : Launch) (G : zG) (ad : Nat → Nat) (F : Nat → Int) (A : Nat → Int → Int) (B : Int → Int → Int) (pa d : Int) (sz : Nat) (r1 : -2147483648 ≤ pa ∧ pa ≤ 2147483647) (r2 : -2147483648 ≤ d ∧ d ≤ 2147483647) (hVM : MOK F A B) : MW l yX3_ticks cX3_ticks 3 (some .int) 1 23 (0) (0) G [.ref (ad 0), .int (zI (pa)), .int (zI (d))] (fA 11 ad sz) sz (MP G ad F A B) (QW (fA 11 ad sz) (fun r H => (isV pa d 15 = 0 ∧ r = 0 ∧ MP G ad (zN F 0 1) A B H) ∨ (isV pa d 15 = 1 ∧ r = tkO pa d ∧ MP G ad (zN F 0 0) A B H))) := by
  refine mw_of hp_X3_ticks (Nat.le_of_ble_eq_true rfl) ?_
  intro p env s m below meth c ls hB hsz hP hl
  obtain ⟨hx, hb, hml, hr, hlk, hown, hts, hG⟩ := hB
  subst hsz
  have hK := hG.1
  have hS : va_S (fA 11 ad s.heap.size) s.heap s.heap [] := va_S.rf
  have hA : ∀ q : Nat, (fA 11 ad s.heap.size) q → G.2.2 ≤ q := fA_lo hP.1.2 hG.2.1
  have hD : ∀ k, k < 11 → (fA 11 ad s.heap.size) (ad k) := fun k hk => fA_in hk
  have hl : lv_has ls 3 [(0, .ref (ad 0)), (1, .int (zI (pa))), (2, .int (zI (d)))] := hl
  have h1b := hVM.1
  have h2b := hVM.2.1
  have h3b := hVM.2.2.1
  have h4b := hVM.2.2.2.1
  have h01 := isV_01 (pa := pa) (d := d) (n := 15) (by omega)
  refine lv_aload_n hx hb dX3_ticks_0 rfl (lv_at hl 0 rfl) ?_
  refine z_iconst hx hb dX3_ticks_1 ?_
  refine zm_put (x := 0) hx hb hK hts hown hP hS (hD 0 (by decide)) 0 (by decide) q_fl_RX3_37 dX3_ticks_2 (fun H locs hP hz ho hS => ?_)
  refine lv_iload_n hx hb dX3_ticks_5 rfl (lv_at hl 1 rfl) ?_
  refine lv_iload_n hx hb dX3_ticks_6 rfl (lv_at hl 2 rfl) ?_
  refine k_R (c_SR (As := [.int (zI (pa)), .int (zI (d))]) (rest := []) ⟨hx, hb, hml, hown, hts⟩ hG hS hA (c_X3_isValue l G pa d (show -2147483648 ≤ pa ∧ pa ≤ 2147483647 by omega) (show -2147483648 ≤ d ∧ d ≤ 2147483647 by omega)) ⟨q_ml_RX3_106, q_st_X3_isValue, q_ini_RX3, q_code_X3_isValue⟩ hs_X3_isValue trivial ⟨by decide, by decide⟩ ⟨Nat.zero_le _, Nat.zero_le _⟩ rfl hl.1 rfl (Nat.le_of_ble_eq_true rfl) dX3_ticks_7) ?_
  refine z_if_eq (a := isV pa d 15) (tgt := 21) hx hb dX3_ticks_10 (by decide) (by omega) (fun h_10 => ?_) (fun h_10 => ?_)
  · skip
    refine lv_aload_n hx hb dX3_ticks_21 rfl (lv_at hl 0 rfl) ?_
    refine z_iconst hx hb dX3_ticks_22 ?_
    refine k_Wi (c_VW (As := [.int (zI (1))]) (rest := []) ⟨hx, hb, hml, hown, hts⟩ hG hS hA (c_X3_fail l G ad (zN F 0 (0)) A B 1 H.size) ⟨q_ml_RX3_77, q_im_X3_fail, q_sel_X3_fail, q_ini_RX3, q_code_X3_fail⟩ hv_X3_fail (MP.rec hK hP) hP ⟨by decide, by decide⟩ ⟨Nat.zero_le _, Nat.zero_le _⟩ rfl hl.1 rfl (Nat.le_of_ble_eq_true rfl) dX3_ticks_23) hS (fA_mono hS.1) (fun r_23 H1 locs1 hq hz1 hk1 hS => ?_)
    obtain ⟨hrz, hPz⟩ := hq
    rw [zN_N] at hPz
    exact e_Wi (r := r_23) hx hb hr hlk (n_i _) hS (by omega) (by omega) (by first | exact Or.inr ⟨by omega, rfl, hP⟩ | exact Or.inl ⟨by omega, hrz, hPz⟩) dX3_ticks_26
  · skip
    refine lv_iload_n hx hb dX3_ticks_13 rfl (lv_at hl 1 rfl) ?_
    refine lv_iload_n hx hb dX3_ticks_14 rfl (lv_at hl 2 rfl) ?_
    have hvk := VK_rng (isV_VK (pa := pa) (d := d) (n := 15) (by omega) (by omega))
    refine k_R (c_SR (As := [.int (zI (pa)), .int (zI (d))]) (rest := []) ⟨hx, hb, hml, hown, hts⟩ hG hS hA (c_X3_ticksOf l G pa d (show 1 ≤ pa ∧ pa ≤ 1000 by omega) (show -2147483648 ≤ d ∧ d ≤ 2147483647 by omega)) ⟨q_ml_RX3_61, q_st_X3_ticksOf, q_ini_RX3, q_code_X3_ticksOf⟩ hs_X3_ticksOf trivial ⟨by decide, by decide⟩ ⟨Nat.zero_le _, Nat.zero_le _⟩ rfl hl.1 rfl (Nat.le_of_ble_eq_true rfl) dX3_ticks_15) ?_
    refine lv_goto (tgt := 26) hx hb dX3_ticks_18 (by decide) ?_
    exact e_Wi (r := tkO pa d) hx hb hr hlk (n_i _) hS (by omega) (by omega) (by first | exact Or.inr ⟨by omega, rfl, hP⟩ | exact Or.inl ⟨by omega, hrz, hPz⟩) dX3_ticks_26
set_option maxHeartbeats 2000000 in
theorem c_X3_removeLast (l : Launch) (G : zG) (ad : Nat → Nat) (F : Nat → Int) (A : Nat → Int → Int) (B : Int → Int → Int) (v : Int) (sz : Nat) (r1 : -2147483648 ≤ v ∧ v ≤ 2147483647) (hVM : MOK F A B) : MW l yX3_removeLast cX3_removeLast 2 (some .int) 2 43 (0) (0) G [.ref (ad 0), .int (zI (v))] (fA 11 ad sz) sz (MP G ad F A B) (QW (fA 11 ad sz) (fun r H => (¬ (0 ≤ v ∧ v ≤ F 4 - 1) ∧ r = 0 ∧ MP G ad (zN F 0 1) A B H) ∨ ((0 ≤ v ∧ v ≤ F 4 - 1) ∧ A 0 v = 0 ∧ r = 0 ∧ MP G ad (zN F 0 2) A B H) ∨ ((0 ≤ v ∧ v ≤ F 4 - 1) ∧ ¬ A 0 v = 0 ∧ r = A 0 v - 1 ∧ MP G ad (zN F 0 0) (zR A 0 v (A 0 v - 1)) B H))) := by
  refine mw_of hp_X3_removeLast (Nat.le_of_ble_eq_true rfl) ?_
  intro p env s m below meth c ls hB hsz hP hl
  obtain ⟨hx, hb, hml, hr, hlk, hown, hts, hG⟩ := hB
  subst hsz
  have hK := hG.1
  have hS : va_S (fA 11 ad s.heap.size) s.heap s.heap [] := va_S.rf
  have hA : ∀ q : Nat, (fA 11 ad s.heap.size) q → G.2.2 ≤ q := fA_lo hP.1.2 hG.2.1
  have hD : ∀ k, k < 11 → (fA 11 ad s.heap.size) (ad k) := fun k hk => fA_in hk
  have hl : lv_has ls 2 [(0, .ref (ad 0)), (1, .int (zI (v)))] := hl
  have h1b := hVM.1
  have h2b := hVM.2.1
  have h3b := hVM.2.2.1
  have h4b := hVM.2.2.2.1
  refine lv_aload_n hx hb dX3_removeLast_0 rfl (lv_at hl 0 rfl) ?_
  refine z_iconst hx hb dX3_removeLast_1 ?_
  refine zm_put (x := 0) hx hb hK hts hown hP hS (hD 0 (by decide)) 0 (by decide) q_fl_RX3_37 dX3_removeLast_2 (fun H locs hP hz ho hS => ?_)
  refine lv_aload_n hx hb dX3_removeLast_5 rfl (lv_at hl 0 rfl) ?_
  refine lv_iload_n hx hb dX3_removeLast_6 rfl (lv_at hl 1 rfl) ?_
  refine k_R (c_VR (As := [.int (zI (v))]) (rest := []) ⟨hx, hb, hml, hown, hts⟩ hG hS hA (c_X3_isVoice l G ad (zN F 0 (0)) A B v (by omega) (hVM.F0 0)) ⟨q_ml_RX3_47, q_im_X3_isVoice, q_sel_X3_isVoice, q_ini_RX3, q_code_X3_isVoice⟩ hv_X3_isVoice (MP.rec hK hP) hP ⟨by decide, by decide⟩ ⟨Nat.zero_le _, Nat.zero_le _⟩ rfl hl.1 rfl (Nat.le_of_ble_eq_true rfl) dX3_removeLast_7) ?_
  refine z_bif_ne (q := 0 ≤ v ∧ v ≤ (F 4) - 1) (tgt := 19) hx hb dX3_removeLast_10 (by decide) (fun h_10 => ?_) (fun h_10 => ?_)
  · skip
    have hmn := hVM.many (v := v) (by omega)
    refine lv_aload_n hx hb dX3_removeLast_19 rfl (lv_at hl 0 rfl) ?_
    refine zm_get hx hb hK hts hown hP 5 (by decide) q_fl_RX3_16 (v := .ref (ad 1)) rfl dX3_removeLast_20 ?_
    refine lv_iload_n hx hb dX3_removeLast_23 rfl (lv_at hl 1 rfl) ?_
    refine zm_lA0 hx hb hK hP (i := v) (by omega) dX3_removeLast_24 ?_
    refine z_if_ne (a := A 0 (v)) (tgt := 34) hx hb dX3_removeLast_25 (by decide) (by omega) (fun h_25 => ?_) (fun h_25 => ?_)
    · skip
      refine lv_aload_n hx hb dX3_removeLast_34 rfl (lv_at hl 0 rfl) ?_
      refine zm_get hx hb hK hts hown hP 5 (by decide) q_fl_RX3_16 (v := .ref (ad 1)) rfl dX3_removeLast_35 ?_
      refine lv_iload_n hx hb dX3_removeLast_38 rfl (lv_at hl 1 rfl) ?_
      refine lv_dup2_11 hx hb dX3_removeLast_39 rfl rfl ?_
      refine zm_lA0 hx hb hK hP (i := v) (by omega) dX3_removeLast_40 ?_
      refine z_iconst hx hb dX3_removeLast_41 ?_
      refine z_isub (x := A 0 (v)) (y := 1) hx hb dX3_removeLast_42 ?_
      refine zm_sA0 (x := (A 0 (v)) - (1)) hx hb hK hP hS (hD 1 (by decide)) (i := v) (by omega) dX3_removeLast_43 (fun H locs hP hz ho hS => ?_)
      refine lv_aload_n hx hb dX3_removeLast_44 rfl (lv_at hl 0 rfl) ?_
      refine zm_get hx hb hK hts hown hP 5 (by decide) q_fl_RX3_16 (v := .ref (ad 1)) rfl dX3_removeLast_45 ?_
      refine lv_iload_n hx hb dX3_removeLast_48 rfl (lv_at hl 1 rfl) ?_
      refine zm_lA0 hx hb hK hP (i := v) (by omega) dX3_removeLast_49 ?_
      rw [zR_s]
      exact e_Wi (r := A 0 v - 1) hx hb hr hlk (n_i _) hS (by omega) (by omega) (Or.inr (Or.inr ⟨h_10, by omega, rfl, hP⟩)) dX3_removeLast_50
    · skip
      refine lv_aload_n hx hb dX3_removeLast_28 rfl (lv_at hl 0 rfl) ?_
      refine z_iconst hx hb dX3_removeLast_29 ?_
      refine k_Wi (c_VW (As := [.int (zI (2))]) (rest := []) ⟨hx, hb, hml, hown, hts⟩ hG hS hA (c_X3_fail l G ad (zN F 0 (0)) A B 2 H.size) ⟨q_ml_RX3_77, q_im_X3_fail, q_sel_X3_fail, q_ini_RX3, q_code_X3_fail⟩ hv_X3_fail (MP.rec hK hP) hP ⟨by decide, by decide⟩ ⟨Nat.zero_le _, Nat.zero_le _⟩ rfl hl.1 rfl (Nat.le_of_ble_eq_true rfl) dX3_removeLast_30) hS (fA_mono hS.1) (fun r_30 H1 locs1 hq hz1 hk1 hS => ?_)
      obtain ⟨hrz, hPz⟩ := hq
      rw [zN_N] at hPz
      exact e_Wi (r := r_30) hx hb hr hlk (n_i _) hS (by omega) (by omega) (Or.inr (Or.inl ⟨h_10, by omega, hrz, hPz⟩)) dX3_removeLast_33
  · skip
    refine lv_aload_n hx hb dX3_removeLast_13 rfl (lv_at hl 0 rfl) ?_
    refine z_iconst hx hb dX3_removeLast_14 ?_
    refine k_Wi (c_VW (As := [.int (zI (1))]) (rest := []) ⟨hx, hb, hml, hown, hts⟩ hG hS hA (c_X3_fail l G ad (zN F 0 (0)) A B 1 H.size) ⟨q_ml_RX3_77, q_im_X3_fail, q_sel_X3_fail, q_ini_RX3, q_code_X3_fail⟩ hv_X3_fail (MP.rec hK hP) hP ⟨by decide, by decide⟩ ⟨Nat.zero_le _, Nat.zero_le _⟩ rfl hl.1 rfl (Nat.le_of_ble_eq_true rfl) dX3_removeLast_15) hS (fA_mono hS.1) (fun r_15 H1 locs1 hq hz1 hk1 hS => ?_)
    obtain ⟨hrz, hPz⟩ := hq
    rw [zN_N] at hPz
    exact e_Wi (r := r_15) hx hb hr hlk (n_i _) hS (by omega) (by omega) (Or.inl ⟨h_10, hrz, hPz⟩) dX3_removeLast_18
set_option maxHeartbeats 2000000 in
theorem c_X3_pitch (l : Launch) (G : zG) (ad : Nat → Nat) (F : Nat → Int) (A : Nat → Int → Int) (B : Int → Int → Int) (v e w : Int) (sz : Nat) (r1 : -2147483648 ≤ v ∧ v ≤ 2147483647) (r2 : -2147483648 ≤ e ∧ e ≤ 2147483647) (r3 : -2147483648 ≤ w ∧ w ≤ 2147483647) (hVM : MOK F A B) : MW l yX3_pitch cX3_pitch 4 (some .int) 3 65 (0) (0) G [.ref (ad 0), .int (zI (v)), .int (zI (e)), .int (zI (w))] (fA 11 ad sz) sz (MP G ad F A B) (QW (fA 11 ad sz) (fun r H => (¬ (((0 ≤ v ∧ v ≤ F 4 - 1) ∧ 0 ≤ e ∧ e ≤ A 0 v - 1) ∧ (0 ≤ w ∧ w ≤ 2)) ∧ r = 0 ∧ MP G ad (zN F 0 1) A B H) ∨ ((((0 ≤ v ∧ v ≤ F 4 - 1) ∧ 0 ≤ e ∧ e ≤ A 0 v - 1) ∧ (0 ≤ w ∧ w ≤ 2)) ∧ B v (10 * e + 2) = 0 ∧ r = 0 ∧ MP G ad (zN F 0 2) A B H) ∨ ((((0 ≤ v ∧ v ≤ F 4 - 1) ∧ 0 ≤ e ∧ e ≤ A 0 v - 1) ∧ (0 ≤ w ∧ w ≤ 2)) ∧ ¬ B v (10 * e + 2) = 0 ∧ r = B v (10 * e + (3 + w)) ∧ MP G ad (zN F 0 0) A B H))) := by
  refine mw_of hp_X3_pitch (Nat.le_of_ble_eq_true rfl) ?_
  intro p env s m below meth c ls hB hsz hP hl
  obtain ⟨hx, hb, hml, hr, hlk, hown, hts, hG⟩ := hB
  subst hsz
  have hK := hG.1
  have hS : va_S (fA 11 ad s.heap.size) s.heap s.heap [] := va_S.rf
  have hA : ∀ q : Nat, (fA 11 ad s.heap.size) q → G.2.2 ≤ q := fA_lo hP.1.2 hG.2.1
  have hD : ∀ k, k < 11 → (fA 11 ad s.heap.size) (ad k) := fun k hk => fA_in hk
  have hl : lv_has ls 4 [(0, .ref (ad 0)), (1, .int (zI (v))), (2, .int (zI (e))), (3, .int (zI (w)))] := hl
  have h1b := hVM.1
  have h2b := hVM.2.1
  have h3b := hVM.2.2.1
  have h4b := hVM.2.2.2.1
  refine lv_aload_n hx hb dX3_pitch_0 rfl (lv_at hl 0 rfl) ?_
  refine z_iconst hx hb dX3_pitch_1 ?_
  refine zm_put (x := 0) hx hb hK hts hown hP hS (hD 0 (by decide)) 0 (by decide) q_fl_RX3_37 dX3_pitch_2 (fun H locs hP hz ho hS => ?_)
  refine lv_aload_n hx hb dX3_pitch_5 rfl (lv_at hl 0 rfl) ?_
  refine lv_iload_n hx hb dX3_pitch_6 rfl (lv_at hl 1 rfl) ?_
  refine lv_iload_n hx hb dX3_pitch_7 rfl (lv_at hl 2 rfl) ?_
  refine k_R (c_VR (As := [.int (zI (v)), .int (zI (e))]) (rest := []) ⟨hx, hb, hml, hown, hts⟩ hG hS hA (c_X3_isElement l G ad (zN F 0 (0)) A B v e (by omega) (by omega) (hVM.F0 0)) ⟨q_ml_RX3_130, q_im_X3_isElement, q_sel_X3_isElement, q_ini_RX3, q_code_X3_isElement⟩ hv_X3_isElement (MP.rec hK hP) hP ⟨by decide, by decide⟩ ⟨Nat.zero_le _, Nat.zero_le _⟩ rfl hl.1 rfl (Nat.le_of_ble_eq_true rfl) dX3_pitch_8) ?_
  refine z_bif_eq (q := (0 ≤ v ∧ v ≤ (F 4) - 1) ∧ 0 ≤ e ∧ e ≤ A 0 v - 1) (tgt := 23) hx hb dX3_pitch_11 (by decide) (fun h_11 => ?_) (fun h_11 => ?_)
  · skip
    refine lv_aload_n hx hb dX3_pitch_23 rfl (lv_at hl 0 rfl) ?_
    refine z_iconst hx hb dX3_pitch_24 ?_
    refine k_Wi (c_VW (As := [.int (zI (1))]) (rest := []) ⟨hx, hb, hml, hown, hts⟩ hG hS hA (c_X3_fail l G ad (zN F 0 (0)) A B 1 H.size) ⟨q_ml_RX3_77, q_im_X3_fail, q_sel_X3_fail, q_ini_RX3, q_code_X3_fail⟩ hv_X3_fail (MP.rec hK hP) hP ⟨by decide, by decide⟩ ⟨Nat.zero_le _, Nat.zero_le _⟩ rfl hl.1 rfl (Nat.le_of_ble_eq_true rfl) dX3_pitch_25) hS (fA_mono hS.1) (fun r_25 H1 locs1 hq hz1 hk1 hS => ?_)
    obtain ⟨hrz, hPz⟩ := hq
    rw [zN_N] at hPz
    exact e_Wi (r := r_25) hx hb hr hlk (n_i _) hS (by omega) (by omega) (Or.inl ⟨(fun q => by first | exact h_11 q.1 | exact h_20 q.2), hrz, hPz⟩) dX3_pitch_28
  · skip
    refine lv_iload_n hx hb dX3_pitch_14 rfl (lv_at hl 3 rfl) ?_
    refine z_iconst hx hb dX3_pitch_15 ?_
    refine z_iconst hx hb dX3_pitch_16 ?_
    refine k_R (c_SR (As := [.int (zI (w)), .int (zI (0)), .int (zI (2))]) (rest := []) ⟨hx, hb, hml, hown, hts⟩ hG hS hA (c_X3_isIn l G w 0 2 (show -2147483648 ≤ w ∧ w ≤ 2147483647 by omega) (show -2147483648 ≤ 0 ∧ 0 ≤ 2147483647 by omega) (show -2147483648 ≤ 2 ∧ 2 ≤ 2147483647 by omega)) ⟨q_ml_RX3_43, q_st_X3_isIn, q_ini_RX3, q_code_X3_isIn⟩ hs_X3_isIn trivial ⟨by decide, by decide⟩ ⟨Nat.zero_le _, Nat.zero_le _⟩ rfl hl.1 rfl (Nat.le_of_ble_eq_true rfl) dX3_pitch_17) ?_
    refine z_bif_ne (q := 0 ≤ w ∧ w ≤ 2) (tgt := 29) hx hb dX3_pitch_20 (by decide) (fun h_20 => ?_) (fun h_20 => ?_)
    · skip
      have hmn := hVM.many (v := v) (by omega)
      have hel := hVM.el (v := v) (by omega) (e := e) (by omega)
      refine lv_aload_n hx hb dX3_pitch_29 rfl (lv_at hl 0 rfl) ?_
      refine lv_iload_n hx hb dX3_pitch_30 rfl (lv_at hl 1 rfl) ?_
      refine lv_iload_n hx hb dX3_pitch_31 rfl (lv_at hl 2 rfl) ?_
      refine z_iconst hx hb dX3_pitch_32 ?_
      refine k_R (c_VR (As := [.int (zI (v)), .int (zI (e)), .int (zI (2))]) (rest := []) ⟨hx, hb, hml, hown, hts⟩ hG hS hA (c_X3_get l G ad (zN F 0 (0)) A B v e 2 (show 0 ≤ v ∧ v < 4 by omega) (show 0 ≤ 10 * e + 2 ∧ 10 * e + 2 < 2000 by omega)) ⟨q_ml_RX3_57, q_im_X3_get, q_sel_X3_get, q_ini_RX3, q_code_X3_get⟩ hv_X3_get (MP.rec hK hP) hP ⟨by decide, by decide⟩ ⟨Nat.zero_le _, Nat.zero_le _⟩ rfl hl.1 rfl (Nat.le_of_ble_eq_true rfl) dX3_pitch_33) ?_
      refine z_if_ne (a := B v (10 * e + 2)) (tgt := 45) hx hb dX3_pitch_36 (by decide) (by omega) (fun h_36 => ?_) (fun h_36 => ?_)
      · skip
        refine lv_aload_n hx hb dX3_pitch_45 rfl (lv_at hl 0 rfl) ?_
        refine lv_iload_n hx hb dX3_pitch_46 rfl (lv_at hl 1 rfl) ?_
        refine lv_iload_n hx hb dX3_pitch_47 rfl (lv_at hl 2 rfl) ?_
        refine z_iconst hx hb dX3_pitch_48 ?_
        refine lv_iload_n hx hb dX3_pitch_49 rfl (lv_at hl 3 rfl) ?_
        refine z_iadd (x := 3) (y := w) hx hb dX3_pitch_50 ?_
        refine k_R (c_VR (As := [.int (zI (v)), .int (zI (e)), .int (zI ((3) + (w)))]) (rest := []) ⟨hx, hb, hml, hown, hts⟩ hG hS hA (c_X3_get l G ad (zN F 0 (0)) A B v e ((3) + (w)) (show 0 ≤ v ∧ v < 4 by omega) (show 0 ≤ 10 * e + ((3) + (w)) ∧ 10 * e + ((3) + (w)) < 2000 by omega)) ⟨q_ml_RX3_57, q_im_X3_get, q_sel_X3_get, q_ini_RX3, q_code_X3_get⟩ hv_X3_get (MP.rec hK hP) hP ⟨by decide, by decide⟩ ⟨Nat.zero_le _, Nat.zero_le _⟩ rfl hl.1 rfl (Nat.le_of_ble_eq_true rfl) dX3_pitch_51) ?_
        exact e_Wi (r := B v (10 * e + ((3) + (w)))) hx hb hr hlk (n_i _) hS (by omega) (by omega) (Or.inr (Or.inr ⟨⟨h_11, h_20⟩, by omega, rfl, hP⟩)) dX3_pitch_54
      · skip
        refine lv_aload_n hx hb dX3_pitch_39 rfl (lv_at hl 0 rfl) ?_
        refine z_iconst hx hb dX3_pitch_40 ?_
        refine k_Wi (c_VW (As := [.int (zI (2))]) (rest := []) ⟨hx, hb, hml, hown, hts⟩ hG hS hA (c_X3_fail l G ad (zN F 0 (0)) A B 2 H.size) ⟨q_ml_RX3_77, q_im_X3_fail, q_sel_X3_fail, q_ini_RX3, q_code_X3_fail⟩ hv_X3_fail (MP.rec hK hP) hP ⟨by decide, by decide⟩ ⟨Nat.zero_le _, Nat.zero_le _⟩ rfl hl.1 rfl (Nat.le_of_ble_eq_true rfl) dX3_pitch_41) hS (fA_mono hS.1) (fun r_41 H1 locs1 hq hz1 hk1 hS => ?_)
        obtain ⟨hrz, hPz⟩ := hq
        rw [zN_N] at hPz
        exact e_Wi (r := r_41) hx hb hr hlk (n_i _) hS (by omega) (by omega) (Or.inr (Or.inl ⟨⟨h_11, h_20⟩, by omega, hrz, hPz⟩)) dX3_pitch_44
    · skip
      refine lv_aload_n hx hb dX3_pitch_23 rfl (lv_at hl 0 rfl) ?_
      refine z_iconst hx hb dX3_pitch_24 ?_
      refine k_Wi (c_VW (As := [.int (zI (1))]) (rest := []) ⟨hx, hb, hml, hown, hts⟩ hG hS hA (c_X3_fail l G ad (zN F 0 (0)) A B 1 H.size) ⟨q_ml_RX3_77, q_im_X3_fail, q_sel_X3_fail, q_ini_RX3, q_code_X3_fail⟩ hv_X3_fail (MP.rec hK hP) hP ⟨by decide, by decide⟩ ⟨Nat.zero_le _, Nat.zero_le _⟩ rfl hl.1 rfl (Nat.le_of_ble_eq_true rfl) dX3_pitch_25) hS (fA_mono hS.1) (fun r_25 H1 locs1 hq hz1 hk1 hS => ?_)
      obtain ⟨hrz, hPz⟩ := hq
      rw [zN_N] at hPz
      exact e_Wi (r := r_25) hx hb hr hlk (n_i _) hS (by omega) (by omega) (Or.inl ⟨(fun q => by first | exact h_11 q.1 | exact h_20 q.2), hrz, hPz⟩) dX3_pitch_28
set_option maxHeartbeats 2000000 in
theorem c_X3_events (l : Launch) (G : zG) (ad : Nat → Nat) (F : Nat → Int) (A : Nat → Int → Int) (B : Int → Int → Int) (sz : Nat) (hVe : rngI (A 4)) (hVM : MOK F A B) : MW l yX3_events cX3_events 1 (some .int) 4 90 ((ecT A B (F 4)).toNat) (4 * (ecT A B (F 4)).toNat) G [.ref (ad 0)] (fA 11 ad sz) sz (MP G ad F A B) (QW (fA 11 ad sz) (fun r H => r = ecT A B (F 4) ∧ ∃ A' B', MP G ad (zN (zN F 0 0) 5 (ecT A B (F 4))) A' B' H ∧ KP A B A' B')) := by
  refine mw_of hp_X3_events (Nat.le_of_ble_eq_true rfl) ?_
  intro p env s m below meth c ls hB hsz hP hl
  obtain ⟨hx, hb, hml, hr, hlk, hown, hts, hG⟩ := hB
  subst hsz
  have hK := hG.1
  have hS : va_S (fA 11 ad s.heap.size) s.heap s.heap [] := va_S.rf
  have hA : ∀ q : Nat, (fA 11 ad s.heap.size) q → G.2.2 ≤ q := fA_lo hP.1.2 hG.2.1
  have hD : ∀ k, k < 11 → (fA 11 ad s.heap.size) (ad k) := fun k hk => fA_in hk
  have hl : lv_has ls 1 [(0, .ref (ad 0))] := hl
  have h1b := hVM.1
  have h2b := hVM.2.1
  have h3b := hVM.2.2.1
  have h4b := hVM.2.2.2.1
  refine lv_aload_n hx hb dX3_events_0 rfl (lv_at hl 0 rfl) ?_
  refine z_iconst hx hb dX3_events_1 ?_
  refine zm_put (x := 0) hx hb hK hts hown hP hS (hD 0 (by decide)) 0 (by decide) q_fl_RX3_37 dX3_events_2 (fun H locs hP hz ho hS => ?_)
  refine lv_aload_n hx hb dX3_events_5 rfl (lv_at hl 0 rfl) ?_
  refine k_Wv (c_VW (As := []) (rest := []) ⟨hx, hb, hml, hown, hts⟩ hG hS hA (c_X3_findEvents l G ad (zN F 0 (0)) A B H.size (hVM.F0 0) hVe) ⟨q_ml_RX3_186, q_im_X3_findEvents, q_sel_X3_findEvents, q_ini_RX3, q_code_X3_findEvents⟩ hv_X3_findEvents (MP.rec hK hP) hP ⟨Nat.le_of_ble_eq_true rfl, Nat.le_of_ble_eq_true rfl⟩ ⟨Nat.le_of_eq (Nat.zero_add _), Nat.le_of_eq (Nat.zero_add _)⟩ rfl hl.1 rfl (Nat.le_of_ble_eq_true rfl) dX3_events_6) hS (fA_mono hS.1) (fun H1 locs1 hq hz1 hk1 hS => ?_)
  obtain ⟨A2, B2, hP, kp2, tm2, hev, hre⟩ := hq
  have hP : MP G ad (zN (zN F 0 0) 5 (ecT A B (F 4))) A2 B2 H1 := hP
  refine lv_aload_n hx hb dX3_events_9 rfl (lv_at hl 0 rfl) ?_
  refine zm_get hx hb hK hts hown hP 10 (by decide) q_fl_RX3_175 (v := .int (zI ((ecT A B (F 4))))) rfl dX3_events_10 ?_
  have hc9 : ecT A B (zN F 0 0 4) = ecT A B (F 4) := rfl
  exact e_Wi (r := (ecT A B (F 4))) hx hb hr hlk (n_i _) hS (by omega) (by omega) ⟨rfl, A2, B2, hP, kp2⟩ dX3_events_13
