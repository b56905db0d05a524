set_option maxHeartbeats 2000000 in
theorem c_X2_requireVoice (l : Launch) (G : zG) (ad : Nat → Nat) (F : Nat → Int) (A E : Nat → Int → Int) (T P S Av : Int → Nat → Int → Int) (Fv : Int → Nat → Int) (v : Int) (sz : Nat) (hst : l.stackTraces = false) (r_v : -2147483648 ≤ v ∧ v ≤ 2147483647) (hVC : COK F Fv) : MX l yX2_requireVoice cX2_requireVoice 2 none 6 90 (1) (6) G [.ref (ad 0), .int (zI (v))] (fA 94 ad sz) sz (CP G ad F A E T P S Av Fv) (QV (fA 94 ad sz) (fun H => (0 ≤ v ∧ v < F 0) ∧ CP G ad F A E T P S Av Fv H)) (fun E9 H => ((E9 = xIO ∧ ¬ (0 ≤ v ∧ v < F 0))) ∧ CP G ad F A E T P S Av Fv H) := by
  refine mx_of hp_X2_requireVoice (Nat.le_of_ble_eq_true rfl) ?_
  intro p env s m below meth c ls hB hnt hsz hP hl
  obtain ⟨hx, hb, hml, hr, hlk, hown, hts, hG⟩ := hB
  subst hsz
  have hK := hG.1
  have hS : va_S (fA 94 ad s.heap.size) s.heap s.heap [] := va_S.rf
  have hA : ∀ q : Nat, (fA 94 ad s.heap.size) q → G.2.2 ≤ q := fA_lo hP.1.2 hG.2.1
  have hD : ∀ k, k < 94 → (fA 94 ad s.heap.size) (ad k) := fun k hk => fA_in hk
  have hl : lv_has ls 2 [(0, .ref (ad 0)), (1, .int (zI (v)))] := hl
  have h0b := hVC.1
  refine lv_iload_n hx hb dX2_requireVoice_0 rfl (lv_at hl 1 rfl) ?_
  refine z_if_lt (a := v) (tgt := 12) hx hb dX2_requireVoice_1 (by decide) (by omega) (fun h_1 => ?_) (fun h_1 => ?_)
  · skip
    exact z_thrIO hx hb hst hown hts hG hnt hS hA (text := "no such voice") (is := 217) (by decide +kernel) dX2_requireVoice_12 dX2_requireVoice_15 dX2_requireVoice_16 dX2_requireVoice_18 dX2_requireVoice_21 (hl.1.trans hml.symm) ⟨by decide, by decide, by (show 0 + 1 ≤ _; first | exact Nat.le_of_ble_eq_true rfl | omega), by (show 0 + 6 ≤ _; first | exact Nat.le_of_ble_eq_true rfl | omega)⟩ hlk (fun H1 q1 q2 => ⟨(by first | exact ⟨rfl, by omega⟩), hP.grow q2⟩) (by first | exact Nat.le_of_ble_eq_true rfl | omega) (by first | exact Nat.le_of_ble_eq_true rfl | omega)
  · skip
    refine lv_iload_n hx hb dX2_requireVoice_4 rfl (lv_at hl 1 rfl) ?_
    refine lv_aload_n hx hb dX2_requireVoice_5 rfl (lv_at hl 0 rfl) ?_
    refine zs_get hx hb hK hts hown hP 3 (by decide) q_fl_RX2_26 (v := .int (zI (F 0))) rfl dX2_requireVoice_6 ?_
    refine z_icmp_lt (a := v) (b := F 0) (tgt := 22) hx hb dX2_requireVoice_9 (by decide) (by omega) (by omega) (fun h_9 => ?_) (fun h_9 => ?_)
    · skip
      exact vx_ret (e_Wv hx hb hr hlk hS (by omega) (by omega) ⟨by omega, hP⟩ dX2_requireVoice_22)
    · skip
      exact z_thrIO hx hb hst hown hts hG hnt hS hA (text := "no such voice") (is := 217) (by decide +kernel) dX2_requireVoice_12 dX2_requireVoice_15 dX2_requireVoice_16 dX2_requireVoice_18 dX2_requireVoice_21 (hl.1.trans hml.symm) ⟨by decide, by decide, by (show 0 + 1 ≤ _; first | exact Nat.le_of_ble_eq_true rfl | omega), by (show 0 + 6 ≤ _; first | exact Nat.le_of_ble_eq_true rfl | omega)⟩ hlk (fun H1 q1 q2 => ⟨(by first | exact ⟨rfl, by omega⟩), hP.grow q2⟩) (by first | exact Nat.le_of_ble_eq_true rfl | omega) (by first | exact Nat.le_of_ble_eq_true rfl | omega)
set_option maxHeartbeats 2000000 in
theorem c_X2_requireElement (l : Launch) (G : zG) (ad : Nat → Nat) (F : Nat → Int) (A E : Nat → Int → Int) (T P S Av : Int → Nat → Int → Int) (Fv : Int → Nat → Int) (v i : Int) (sz : Nat) (hst : l.stackTraces = false) (r_v : -2147483648 ≤ v ∧ v ≤ 2147483647) (r_i : -2147483648 ≤ i ∧ i ≤ 2147483647) (hVC : COK F Fv) : MX l yX2_requireElement cX2_requireElement 3 none 7 111 (2) (12) G [.ref (ad 0), .int (zI (v)), .int (zI (i))] (fA 94 ad sz) sz (CP G ad F A E T P S Av Fv) (QV (fA 94 ad sz) (fun H => (0 ≤ v ∧ v < F 0 ∧ 0 ≤ i ∧ i < Fv v 0) ∧ CP G ad F A E T P S Av Fv H)) (fun E9 H => ((E9 = xIO ∧ ¬ (0 ≤ v ∧ v < F 0 ∧ 0 ≤ i ∧ i < Fv v 0))) ∧ CP G ad F A E T P S Av Fv H) := by
  refine mx_of hp_X2_requireElement (Nat.le_of_ble_eq_true rfl) ?_
  intro p env s m below meth c ls hB hnt hsz hP hl
  obtain ⟨hx, hb, hml, hr, hlk, hown, hts, hG⟩ := hB
  subst hsz
  have hK := hG.1
  have hS : va_S (fA 94 ad s.heap.size) s.heap s.heap [] := va_S.rf
  have hA : ∀ q : Nat, (fA 94 ad s.heap.size) q → G.2.2 ≤ q := fA_lo hP.1.2 hG.2.1
  have hD : ∀ k, k < 94 → (fA 94 ad s.heap.size) (ad k) := fun k hk => fA_in hk
  have hl : lv_has ls 3 [(0, .ref (ad 0)), (1, .int (zI (v))), (2, .int (zI (i)))] := hl
  have h0b := hVC.1
  refine lv_aload_n hx hb dX2_requireElement_0 rfl (lv_at hl 0 rfl) ?_
  refine lv_iload_n hx hb dX2_requireElement_1 rfl (lv_at hl 1 rfl) ?_
  refine k_Xv (c_VX (As := [.int (zI (v))]) (rest := []) ⟨hx, hb, hml, hown, hts⟩ hG hS hA (c_X2_requireVoice l G ad F A E T P S Av Fv v s.heap.size hst (show -2147483648 ≤ v ∧ v ≤ 2147483647 by omega) hVC) ⟨q_ml_RX2_93, q_im_X2_requireVoice, q_sel_X2_requireVoice, q_ini_RX2, q_code_X2_requireVoice⟩ hv_X2_requireVoice (CP.rec hK hP) hP ⟨Nat.le_of_ble_eq_true rfl, Nat.le_of_ble_eq_true rfl⟩ ⟨Nat.le_of_ble_eq_true rfl, Nat.le_of_ble_eq_true rfl⟩ rfl hl.1 rfl (Nat.le_of_ble_eq_true rfl) dX2_requireElement_2) hS (fA_mono hS.1) (fun H1 locs1 hq hz1 hk1 hS => ?_) (fun E9 H1 locs1 q9 ce hq hz1 hk1 hS hce hcv hcl => x_out hnt hlk hce hcv hcl hS (by obtain ⟨hE, hC⟩ := hq; refine ⟨?_, hC⟩; obtain ⟨rfl, hE2⟩ := hE; first | exact ⟨rfl, by omega⟩) (by first | exact Nat.le_of_ble_eq_true rfl | omega) (by first | exact Nat.le_of_ble_eq_true rfl | omega))
  obtain ⟨hv9, hP⟩ := hq
  have hvi := hVC.2 v (by omega) (by omega)
  refine lv_iload_n hx hb dX2_requireElement_5 rfl (lv_at hl 2 rfl) ?_
  refine z_if_lt (a := i) (tgt := 22) hx hb dX2_requireElement_6 (by decide) (by omega) (fun h_6 => ?_) (fun h_6 => ?_)
  · skip
    exact z_thrIO hx hb hst hown hts hG hnt hS hA (text := "no such element") (is := 219) (by decide +kernel) dX2_requireElement_22 dX2_requireElement_25 dX2_requireElement_26 dX2_requireElement_28 dX2_requireElement_31 (hl.1.trans hml.symm) ⟨by decide, by decide, by (show 0 + (1) + 1 ≤ _; first | exact Nat.le_of_ble_eq_true rfl | omega), by (show 0 + (6) + 6 ≤ _; first | exact Nat.le_of_ble_eq_true rfl | omega)⟩ hlk (fun H1 q1 q2 => ⟨(by first | exact ⟨rfl, by omega⟩), hP.grow q2⟩) (by first | exact Nat.le_of_ble_eq_true rfl | omega) (by first | exact Nat.le_of_ble_eq_true rfl | omega)
  · skip
    refine lv_iload_n hx hb dX2_requireElement_9 rfl (lv_at hl 2 rfl) ?_
    refine lv_aload_n hx hb dX2_requireElement_10 rfl (lv_at hl 0 rfl) ?_
    refine zs_get hx hb hK hts hown hP 0 (by decide) q_fl_RX2_11 (v := .ref (ad 1)) rfl dX2_requireElement_11 ?_
    refine lv_iload_n hx hb dX2_requireElement_14 rfl (lv_at hl 1 rfl) ?_
    refine zs_aV hx hb hK hP (i := v) (by omega) dX2_requireElement_15 ?_
    have hV_v : VP G (vad ad (v)) (T (v)) (P (v)) (S (v)) (Av (v)) (Fv (v)) H1 := CP.voice hP (v) (by omega)
    refine zv_get hx hb hK hts hown hV_v 5 (by decide) q_fl_RX2_103 (v := .int (zI ((Fv (v)) 0))) rfl dX2_requireElement_16 ?_
    refine z_icmp_lt (a := i) (b := (Fv (v)) 0) (tgt := 32) hx hb dX2_requireElement_19 (by decide) (by omega) (by omega) (fun h_19 => ?_) (fun h_19 => ?_)
    · skip
      exact vx_ret (e_Wv hx hb hr hlk hS (by omega) (by omega) ⟨by omega, hP⟩ dX2_requireElement_32)
    · skip
      exact z_thrIO hx hb hst hown hts hG hnt hS hA (text := "no such element") (is := 219) (by decide +kernel) dX2_requireElement_22 dX2_requireElement_25 dX2_requireElement_26 dX2_requireElement_28 dX2_requireElement_31 (hl.1.trans hml.symm) ⟨by decide, by decide, by (show 0 + (1) + 1 ≤ _; first | exact Nat.le_of_ble_eq_true rfl | omega), by (show 0 + (6) + 6 ≤ _; first | exact Nat.le_of_ble_eq_true rfl | omega)⟩ hlk (fun H1 q1 q2 => ⟨(by first | exact ⟨rfl, by omega⟩), hP.grow q2⟩) (by first | exact Nat.le_of_ble_eq_true rfl | omega) (by first | exact Nat.le_of_ble_eq_true rfl | omega)
def scC (F : Nat → Int) (T : Int → Nat → Int → Int) (Fv : Int → Nat → Int) (w : Int) : Int := if w = 0 then F 0 else if w = 1 then F 2 else if w = 2 then F 3 else if w = 3 then bBeg Fv T (F 0) else gEnd Fv (F 0)
theorem gEnd_rng {F : Nat → Int} {Fv : Int → Nat → Int} (h : COK F Fv) {n : Int} (hn : 0 ≤ n) (hn2 : n ≤ 4) : 0 ≤ gEnd Fv n ∧ gEnd Fv n ≤ 1000000 := by
  obtain ⟨k, rfl⟩ : ∃ k : Nat, n = (k : Int) := ⟨n.toNat, by omega⟩
  induction k with
  | zero => exact ⟨Int.le_refl 0, by show (0 : Int) ≤ 1000000; decide⟩
  | succ k ih =>
    have q := ih (by omega) (by omega)
    have r := (h.2 (k : Int) (by omega) (by omega)).2.1
    have t : gEnd Fv ((k : Int) + 1) = max (gEnd Fv (k : Int)) (Fv (k : Int) 1) := pf_s _ _ (by omega)
    rw [show ((k + 1 : Nat) : Int) = (k : Int) + 1 by omega, t]
    omega
set_option maxHeartbeats 2000000 in
theorem c_X2_score (l : Launch) (G : zG) (ad : Nat → Nat) (F : Nat → Int) (A E : Nat → Int → Int) (T P S Av : Int → Nat → Int → Int) (Fv : Int → Nat → Int) (w : Int) (sz : Nat) (hst : l.stackTraces = false) (r_w : -2147483648 ≤ w ∧ w ≤ 2147483647) (hVT : ∀ v, 0 ≤ v → v < 4 → 0 < Fv v 0 → 0 ≤ T v 6 (Fv v 0 - 1) ∧ T v 6 (Fv v 0 - 1) ≤ 1000000) (hVC : COK F Fv) : MX l yX2_score cX2_score 2 (some .int) 6 90 (1) (6) G [.ref (ad 0), .int (zI (w))] (fA 94 ad sz) sz (CP G ad F A E T P S Av Fv) (QW (fA 94 ad sz) (fun r H => r = scC F T Fv w ∧ (0 ≤ w ∧ w < 5) ∧ CP G ad F A E T P S Av Fv H)) (fun E9 H => ((E9 = xIO ∧ ¬ (0 ≤ w ∧ w < 5))) ∧ CP G ad F A E T P S Av Fv H) := by
  refine mx_of hp_X2_score (Nat.le_of_ble_eq_true rfl) ?_
  intro p env s m below meth c ls hB hnt hsz hP hl
  obtain ⟨hx, hb, hml, hr, hlk, hown, hts, hG⟩ := hB
  subst hsz
  have hK := hG.1
  have hS : va_S (fA 94 ad s.heap.size) s.heap s.heap [] := va_S.rf
  have hA : ∀ q : Nat, (fA 94 ad s.heap.size) q → G.2.2 ≤ q := fA_lo hP.1.2 hG.2.1
  have hD : ∀ k, k < 94 → (fA 94 ad s.heap.size) (ad k) := fun k hk => fA_in hk
  have hl : lv_has ls 2 [(0, .ref (ad 0)), (1, .int (zI (w)))] := hl
  have h0b := hVC.1
  refine lv_iload_n hx hb dX2_score_0 rfl (lv_at hl 1 rfl) ?_
  refine z_if_lt (a := w) (tgt := 9) hx hb dX2_score_1 (by decide) (by omega) (fun h_1 => ?_) (fun h_1 => ?_)
  · skip
    exact z_thrIO hx hb hst hown hts hG hnt hS hA (text := "no such number of the score") (is := 73) (by decide +kernel) dX2_score_9 dX2_score_12 dX2_score_13 dX2_score_15 dX2_score_18 (hl.1.trans hml.symm) ⟨by decide, by decide, by (show 0 + 1 ≤ _; first | exact Nat.le_of_ble_eq_true rfl | omega), by (show 0 + 6 ≤ _; first | exact Nat.le_of_ble_eq_true rfl | omega)⟩ hlk (fun H1 q1 q2 => ⟨(by first | exact ⟨rfl, by omega⟩), hP.grow q2⟩) (by first | exact Nat.le_of_ble_eq_true rfl | omega) (by first | exact Nat.le_of_ble_eq_true rfl | omega)
  · skip
    refine lv_iload_n hx hb dX2_score_4 rfl (lv_at hl 1 rfl) ?_
    refine z_iconst hx hb dX2_score_5 ?_
    refine z_icmp_lt (a := w) (b := 5) (tgt := 19) hx hb dX2_score_6 (by decide) (by omega) (by omega) (fun h_6 => ?_) (fun h_6 => ?_)
    · skip
      refine lv_iload_n hx hb dX2_score_19 rfl (lv_at hl 1 rfl) ?_
      have hsw_20 : -2147483648 ≤ w ∧ w ≤ 2147483647 := (by omega)
      rcases (by omega : w < 0 ∨ 3 < w ∨ w = 0 ∨ w = 1 ∨ w = 2 ∨ w = 3) with h_20 | h_20 | h_20 | h_20 | h_20 | h_20
      · skip
        refine lv_tableOut (x := zI (w)) (tgt := 72) hx hb dX2_score_20 (by rw [zI_toInt hsw_20]; omega) (by decide) ?_
        refine lv_aload_n hx hb dX2_score_72 rfl (lv_at hl 0 rfl) ?_
        refine k_R (c_VR (As := []) (rest := []) ⟨hx, hb, hml, hown, hts⟩ hG hS hA (c_X2_greatestEnd l G ad F A E T P S Av Fv hVC) ⟨q_ml_RX2_51, q_im_X2_greatestEnd, q_sel_X2_greatestEnd, q_ini_RX2, q_code_X2_greatestEnd⟩ hv_X2_greatestEnd (CP.rec hK hP) hP ⟨Nat.le_of_ble_eq_true rfl, Nat.le_of_ble_eq_true rfl⟩ ⟨Nat.le_of_ble_eq_true rfl, Nat.le_of_ble_eq_true rfl⟩ rfl hl.1 rfl (Nat.le_of_ble_eq_true rfl) dX2_score_73) ?_
        exact vx_ret (e_Wi (r := gEnd Fv ((F 0))) hx hb hr hlk (n_i _) hS (by omega) (by omega) ⟨(by unfold scC; (repeat' split) <;> first | rfl | (exfalso; omega)), by omega, hP⟩ dX2_score_76)
      · skip
        refine lv_tableOut (x := zI (w)) (tgt := 72) hx hb dX2_score_20 (by rw [zI_toInt hsw_20]; omega) (by decide) ?_
        refine lv_aload_n hx hb dX2_score_72 rfl (lv_at hl 0 rfl) ?_
        refine k_R (c_VR (As := []) (rest := []) ⟨hx, hb, hml, hown, hts⟩ hG hS hA (c_X2_greatestEnd l G ad F A E T P S Av Fv hVC) ⟨q_ml_RX2_51, q_im_X2_greatestEnd, q_sel_X2_greatestEnd, q_ini_RX2, q_code_X2_greatestEnd⟩ hv_X2_greatestEnd (CP.rec hK hP) hP ⟨Nat.le_of_ble_eq_true rfl, Nat.le_of_ble_eq_true rfl⟩ ⟨Nat.le_of_ble_eq_true rfl, Nat.le_of_ble_eq_true rfl⟩ rfl hl.1 rfl (Nat.le_of_ble_eq_true rfl) dX2_score_73) ?_
        exact vx_ret (e_Wi (r := gEnd Fv ((F 0))) hx hb hr hlk (n_i _) hS (by omega) (by omega) ⟨(by unfold scC; (repeat' split) <;> first | rfl | (exfalso; omega)), by omega, hP⟩ dX2_score_76)
      · skip
        refine lv_tableIn (x := zI (w)) (off := 32) (tgt := 52) hx hb dX2_score_20 (by rw [zI_toInt hsw_20]; omega) (by rw [zI_toInt hsw_20]; omega) (by rw [zI_toInt hsw_20, h_20]; rfl) (by decide) ?_
        refine lv_aload_n hx hb dX2_score_52 rfl (lv_at hl 0 rfl) ?_
        refine zs_get hx hb hK hts hown hP 3 (by decide) q_fl_RX2_26 (v := .int (zI (F 0))) rfl dX2_score_53 ?_
        exact vx_ret (e_Wi (r := F 0) hx hb hr hlk (n_i _) hS (by omega) (by omega) ⟨(by unfold scC; (repeat' split) <;> first | rfl | (exfalso; omega)), by omega, hP⟩ dX2_score_56)
      · skip
        refine lv_tableIn (x := zI (w)) (off := 37) (tgt := 57) hx hb dX2_score_20 (by rw [zI_toInt hsw_20]; omega) (by rw [zI_toInt hsw_20]; omega) (by rw [zI_toInt hsw_20, h_20]; rfl) (by decide) ?_
        refine lv_aload_n hx hb dX2_score_57 rfl (lv_at hl 0 rfl) ?_
        refine zs_get hx hb hK hts hown hP 5 (by decide) q_fl_RX2_33 (v := .int (zI (F 2))) rfl dX2_score_58 ?_
        exact vx_ret (e_Wi (r := F 2) hx hb hr hlk (n_i _) hS (by omega) (by omega) ⟨(by unfold scC; (repeat' split) <;> first | rfl | (exfalso; omega)), by omega, hP⟩ dX2_score_61)
      · skip
        refine lv_tableIn (x := zI (w)) (off := 42) (tgt := 62) hx hb dX2_score_20 (by rw [zI_toInt hsw_20]; omega) (by rw [zI_toInt hsw_20]; omega) (by rw [zI_toInt hsw_20, h_20]; rfl) (by decide) ?_
        refine lv_aload_n hx hb dX2_score_62 rfl (lv_at hl 0 rfl) ?_
        refine zs_get hx hb hK hts hown hP 6 (by decide) q_fl_RX2_36 (v := .int (zI (F 3))) rfl dX2_score_63 ?_
        exact vx_ret (e_Wi (r := F 3) hx hb hr hlk (n_i _) hS (by omega) (by omega) ⟨(by unfold scC; (repeat' split) <;> first | rfl | (exfalso; omega)), by omega, hP⟩ dX2_score_66)
      · skip
        refine lv_tableIn (x := zI (w)) (off := 47) (tgt := 67) hx hb dX2_score_20 (by rw [zI_toInt hsw_20]; omega) (by rw [zI_toInt hsw_20]; omega) (by rw [zI_toInt hsw_20, h_20]; rfl) (by decide) ?_
        refine lv_aload_n hx hb dX2_score_67 rfl (lv_at hl 0 rfl) ?_
        refine k_R (c_VR (As := []) (rest := []) ⟨hx, hb, hml, hown, hts⟩ hG hS hA (c_X2_barsBegun l G ad F A E T P S Av Fv hVT hVC) ⟨q_ml_RX2_76, q_im_X2_barsBegun, q_sel_X2_barsBegun, q_ini_RX2, q_code_X2_barsBegun⟩ hv_X2_barsBegun (CP.rec hK hP) hP ⟨Nat.le_of_ble_eq_true rfl, Nat.le_of_ble_eq_true rfl⟩ ⟨Nat.le_of_ble_eq_true rfl, Nat.le_of_ble_eq_true rfl⟩ rfl hl.1 rfl (Nat.le_of_ble_eq_true rfl) dX2_score_68) ?_
        exact vx_ret (e_Wi (r := bBeg Fv T ((F 0))) hx hb hr hlk (n_i _) hS (by omega) (by omega) ⟨(by unfold scC; (repeat' split) <;> first | rfl | (exfalso; omega)), by omega, hP⟩ dX2_score_71)
    · skip
      exact z_thrIO hx hb hst hown hts hG hnt hS hA (text := "no such number of the score") (is := 73) (by decide +kernel) dX2_score_9 dX2_score_12 dX2_score_13 dX2_score_15 dX2_score_18 (hl.1.trans hml.symm) ⟨by decide, by decide, by (show 0 + 1 ≤ _; first | exact Nat.le_of_ble_eq_true rfl | omega), by (show 0 + 6 ≤ _; first | exact Nat.le_of_ble_eq_true rfl | omega)⟩ hlk (fun H1 q1 q2 => ⟨(by first | exact ⟨rfl, by omega⟩), hP.grow q2⟩) (by first | exact Nat.le_of_ble_eq_true rfl | omega) (by first | exact Nat.le_of_ble_eq_true rfl | omega)
theorem findV_rng (pa d : Int) : findV pa d = -1 ∨ (0 ≤ findV pa d ∧ findV pa d < 15) := by
  have := fp_le (q := fun k => valP k = pa ∧ valD k = d) (n := 15) (by omega)
  unfold findV
  split <;> omega
set_option maxHeartbeats 2000000 in
theorem c_X2_ticks (l : Launch) (G : zG) (ad : Nat → Nat) (F : Nat → Int) (A E : Nat → Int → Int) (T P S Av : Int → Nat → Int → Int) (Fv : Int → Nat → Int) (pa d : Int) (sz : Nat) (hst : l.stackTraces = false) (r_pa : -2147483648 ≤ pa ∧ pa ≤ 2147483647) (r_d : -2147483648 ≤ d ∧ d ≤ 2147483647) : MX l yX2_ticks cX2_ticks 4 (some .int) 6 90 (1) (6) G [.ref (ad 0), .int (zI (pa)), .int (zI (d))] (fA 94 ad sz) sz (CP G ad F A E T P S Av Fv) (QW (fA 94 ad sz) (fun r H => r = valT (findV pa d) ∧ 0 ≤ findV pa d ∧ CP G ad F A E T P S Av Fv H)) (fun E9 H => ((E9 = xIA ∧ findV pa d < 0)) ∧ CP G ad F A E T P S Av Fv H) := by
  refine mx_of hp_X2_ticks (Nat.le_of_ble_eq_true rfl) ?_
  intro p env s m below meth c ls hB hnt hsz hP hl
  obtain ⟨hx, hb, hml, hr, hlk, hown, hts, hG⟩ := hB
  subst hsz
  have hK := hG.1
  have hS : va_S (fA 94 ad s.heap.size) s.heap s.heap [] := va_S.rf
  have hA : ∀ q : Nat, (fA 94 ad s.heap.size) q → G.2.2 ≤ q := fA_lo hP.1.2 hG.2.1
  have hD : ∀ k, k < 94 → (fA 94 ad s.heap.size) (ad k) := fun k hk => fA_in hk
  have hl : lv_has ls 4 [(0, .ref (ad 0)), (1, .int (zI (pa))), (2, .int (zI (d)))] := hl
  refine lv_iload_n hx hb dX2_ticks_0 rfl (lv_at hl 1 rfl) ?_
  refine lv_iload_n hx hb dX2_ticks_1 rfl (lv_at hl 2 rfl) ?_
  refine k_R (c_SR (As := [.int (zI (pa)), .int (zI (d))]) (rest := []) ⟨hx, hb, hml, hown, hts⟩ hG hS hA (c_X2_findValue l G pa d (show -2147483648 ≤ pa ∧ pa ≤ 2147483647 by omega) (show -2147483648 ≤ d ∧ d ≤ 2147483647 by omega)) ⟨q_ml_RX2_85, q_st_X2_findValue, q_ini_RX2, q_code_X2_findValue⟩ hs_X2_findValue trivial ⟨Nat.le_of_ble_eq_true rfl, Nat.le_of_ble_eq_true rfl⟩ ⟨Nat.le_of_ble_eq_true rfl, Nat.le_of_ble_eq_true rfl⟩ rfl hl.1 rfl (Nat.le_of_ble_eq_true rfl) dX2_ticks_2) ?_
  have hfv := findV_rng pa d
  refine lv_istore_n (lv' := [(3, .int (zI (findV pa d))), (0, .ref (ad 0)), (1, .int (zI (pa))), (2, .int (zI (d)))]) hx hb dX2_ticks_5 rfl hl (by decide) rfl (fun ls hl => ?_)
  refine lv_iload_n hx hb dX2_ticks_6 rfl (lv_at hl 0 rfl) ?_
  refine z_if_ge (a := findV pa d) (tgt := 20) hx hb dX2_ticks_7 (by decide) (by omega) (fun h_7 => ?_) (fun h_7 => ?_)
  · skip
    refine z_gets hx hb hG hts hS hA (own := RX2) (C := "ScorePress") (n := "VALUE_TICKS") (vs := [672, 576, 384, 336, 288, 192, 168, 144, 96, 84, 72, 48, 36, 24, 12]) (index := 90) (by decide) hown q_fl_RX2_90 dX2_ticks_20 (fun t_1 ht_1 => ?_)
    refine lv_iload_n hx hb dX2_ticks_23 rfl (lv_at hl 0 rfl) ?_
    refine z_tld (vs := [672, 576, 384, 336, 288, 192, 168, 144, 96, 84, 72, 48, 36, 24, 12]) hx hb ht_1 hS (i := findV pa d) (by have h9 : ([672, 576, 384, 336, 288, 192, 168, 144, 96, 84, 72, 48, 36, 24, 12] : List Int).length = 15 := rfl; omega) (by decide) dX2_ticks_24 ?_
    exact vx_ret (e_Wi (r := valT (findV (pa) (d))) hx hb hr hlk (n_i _) hS (by omega) (by omega) ⟨rfl, by omega, hP⟩ dX2_ticks_25)
  · skip
    exact z_thrIA hx hb hst hown hts hG hnt hS hA (text := "no such value") (is := 88) (by decide +kernel) dX2_ticks_10 dX2_ticks_13 dX2_ticks_14 dX2_ticks_16 dX2_ticks_19 (hl.1.trans hml.symm) ⟨by decide, by decide, by (show 0 + 1 ≤ _; first | exact Nat.le_of_ble_eq_true rfl | omega), by (show 0 + 6 ≤ _; first | exact Nat.le_of_ble_eq_true rfl | omega)⟩ hlk (fun H1 q1 q2 => ⟨(by first | exact ⟨rfl, by omega⟩), hP.grow q2⟩) (by first | exact Nat.le_of_ble_eq_true rfl | omega) (by first | exact Nat.le_of_ble_eq_true rfl | omega)
set_option maxHeartbeats 2000000 in
theorem c_X2_addVoice (l : Launch) (G : zG) (ad : Nat → Nat) (F : Nat → Int) (A E : Nat → Int → Int) (T P S Av : Int → Nat → Int → Int) (Fv : Int → Nat → Int) (sz : Nat) (hst : l.stackTraces = false) (hVC : COK F Fv) : MX l yX2_addVoice cX2_addVoice 1 (some .int) 6 90 (1) (6) G [.ref (ad 0)] (fA 94 ad sz) sz (CP G ad F A E T P S Av Fv) (QW (fA 94 ad sz) (fun r H => r = F 0 ∧ F 0 < 4 ∧ CP G ad (zN F 0 (F 0 + 1)) A E T P S Av Fv H)) (fun E9 H => ((E9 = xIS ∧ ¬ F 0 < 4)) ∧ CP G ad F A E T P S Av Fv H) := by
  refine mx_of hp_X2_addVoice (Nat.le_of_ble_eq_true rfl) ?_
  intro p env s m below meth c ls hB hnt hsz hP hl
  obtain ⟨hx, hb, hml, hr, hlk, hown, hts, hG⟩ := hB
  subst hsz
  have hK := hG.1
  have hS : va_S (fA 94 ad s.heap.size) s.heap s.heap [] := va_S.rf
  have hA : ∀ q : Nat, (fA 94 ad s.heap.size) q → G.2.2 ≤ q := fA_lo hP.1.2 hG.2.1
  have hD : ∀ k, k < 94 → (fA 94 ad s.heap.size) (ad k) := fun k hk => fA_in hk
  have hl : lv_has ls 1 [(0, .ref (ad 0))] := hl
  have h0b := hVC.1
  refine lv_aload_n hx hb dX2_addVoice_0 rfl (lv_at hl 0 rfl) ?_
  refine zs_get hx hb hK hts hown hP 3 (by decide) q_fl_RX2_26 (v := .int (zI (F 0))) rfl dX2_addVoice_1 ?_
  refine z_iconst hx hb dX2_addVoice_4 ?_
  refine z_icmp_lt (a := F 0) (b := 4) (tgt := 18) hx hb dX2_addVoice_5 (by decide) (by omega) (by omega) (fun h_5 => ?_) (fun h_5 => ?_)
  · skip
    refine lv_aload_n hx hb dX2_addVoice_18 rfl (lv_at hl 0 rfl) ?_
    refine lv_dup hx hb dX2_addVoice_19 rfl ?_
    refine zs_get hx hb hK hts hown hP 3 (by decide) q_fl_RX2_26 (v := .int (zI (F 0))) rfl dX2_addVoice_20 ?_
    refine z_iconst hx hb dX2_addVoice_23 ?_
    refine z_iadd (x := F 0) (y := 1) hx hb dX2_addVoice_24 ?_
    refine zs_put (x := (F 0) + (1)) hx hb hK hts hown hP hS (hD 0 (by decide)) 0 (by decide) (Or.inl (by decide)) q_fl_RX2_26 dX2_addVoice_25 (fun H locs hP hz ho hS => ?_)
    refine lv_aload_n hx hb dX2_addVoice_28 rfl (lv_at hl 0 rfl) ?_
    refine zs_get hx hb hK hts hown hP 3 (by decide) q_fl_RX2_26 (v := .int (zI ((F 0) + (1)))) rfl dX2_addVoice_29 ?_
    refine z_iconst hx hb dX2_addVoice_32 ?_
    refine z_isub (x := (F 0) + (1)) (y := 1) hx hb dX2_addVoice_33 ?_
    exact vx_ret (e_Wi (r := ((F 0) + (1)) - (1)) hx hb hr hlk (n_i _) hS (by omega) (by omega) ⟨by omega, by omega, hP⟩ dX2_addVoice_34)
  · skip
    exact z_thrIS hx hb hst hown hts hG hnt hS hA (text := "there are 4 voices") (is := 69) (by decide +kernel) dX2_addVoice_8 dX2_addVoice_11 dX2_addVoice_12 dX2_addVoice_14 dX2_addVoice_17 (hl.1.trans hml.symm) ⟨by decide, by decide, by (show 0 + 1 ≤ _; first | exact Nat.le_of_ble_eq_true rfl | omega), by (show 0 + 6 ≤ _; first | exact Nat.le_of_ble_eq_true rfl | omega)⟩ hlk (fun H1 q1 q2 => ⟨(by first | exact ⟨rfl, by omega⟩), hP.grow q2⟩) (by first | exact Nat.le_of_ble_eq_true rfl | omega) (by first | exact Nat.le_of_ble_eq_true rfl | omega)
set_option maxHeartbeats 2000000 in
theorem c_X2_setBars (l : Launch) (G : zG) (ad : Nat → Nat) (F : Nat → Int) (A E : Nat → Int → Int) (T P S Av : Int → Nat → Int → Int) (Fv : Int → Nat → Int) (b q : Int) (sz : Nat) (hst : l.stackTraces = false) (r_b : -2147483648 ≤ b ∧ b ≤ 2147483647) (r_q : -2147483648 ≤ q ∧ q ≤ 2147483647) (hVC : COK F Fv) : MX l yX2_setBars cX2_setBars 3 (some .int) 6 90 (1) (6) G [.ref (ad 0), .int (zI (b)), .int (zI (q))] (fA 94 ad sz) sz (CP G ad F A E T P S Av Fv) (QW (fA 94 ad sz) (fun r H => r = b * (384 / q) ∧ (1 ≤ b ∧ b ≤ 12 ∧ (q = 2 ∨ q = 4 ∨ q = 8)) ∧ gEnd Fv (F 0) = 0 ∧ CP G ad (zN (zN F 1 (384 / q)) 2 (b * (384 / q))) A E T P S Av Fv H)) (fun E9 H => ((E9 = xIA ∧ ¬ (1 ≤ b ∧ b ≤ 12 ∧ (q = 2 ∨ q = 4 ∨ q = 8))) ∨ (E9 = xIS ∧ (1 ≤ b ∧ b ≤ 12 ∧ (q = 2 ∨ q = 4 ∨ q = 8)) ∧ 0 < gEnd Fv (F 0))) ∧ CP G ad F A E T P S Av Fv H) := by
  refine mx_of hp_X2_setBars (Nat.le_of_ble_eq_true rfl) ?_
  intro p env s m below meth c ls hB hnt hsz hP hl
  obtain ⟨hx, hb, hml, hr, hlk, hown, hts, hG⟩ := hB
  subst hsz
  have hK := hG.1
  have hS : va_S (fA 94 ad s.heap.size) s.heap s.heap [] := va_S.rf
  have hA : ∀ q : Nat, (fA 94 ad s.heap.size) q → G.2.2 ≤ q := fA_lo hP.1.2 hG.2.1
  have hD : ∀ k, k < 94 → (fA 94 ad s.heap.size) (ad k) := fun k hk => fA_in hk
  have hl : lv_has ls 3 [(0, .ref (ad 0)), (1, .int (zI (b))), (2, .int (zI (q)))] := hl
  have h0b := hVC.1
  have hge := gEnd_rng hVC hVC.1.1 hVC.1.2
  refine lv_iload_n hx hb dX2_setBars_0 rfl (lv_at hl 1 rfl) ?_
  refine z_iconst hx hb dX2_setBars_1 ?_
  refine z_icmp_lt (a := b) (b := 1) (tgt := 27) hx hb dX2_setBars_2 (by decide) (by omega) (by omega) (fun h_2 => ?_) (fun h_2 => ?_)
  · skip
    exact z_thrIA hx hb hst hown hts hG hnt hS hA (text := "no such bar") (is := 46) (by decide +kernel) dX2_setBars_27 dX2_setBars_30 dX2_setBars_31 dX2_setBars_33 dX2_setBars_36 (hl.1.trans hml.symm) ⟨by decide, by decide, by (show 0 + 1 ≤ _; first | exact Nat.le_of_ble_eq_true rfl | omega), by (show 0 + 6 ≤ _; first | exact Nat.le_of_ble_eq_true rfl | omega)⟩ hlk (fun H1 q1 q2 => ⟨(by first | exact Or.inl ⟨rfl, by omega⟩ | exact Or.inr ⟨rfl, by omega⟩), hP.grow q2⟩) (by first | exact Nat.le_of_ble_eq_true rfl | omega) (by first | exact Nat.le_of_ble_eq_true rfl | omega)
  · skip
    refine lv_iload_n hx hb dX2_setBars_5 rfl (lv_at hl 1 rfl) ?_
    refine z_bipush hx hb dX2_setBars_6 (by decide) ?_
    refine z_icmp_gt (a := b) (b := 12) (tgt := 27) hx hb dX2_setBars_8 (by decide) (by omega) (by omega) (fun h_8 => ?_) (fun h_8 => ?_)
    · skip
      exact z_thrIA hx hb hst hown hts hG hnt hS hA (text := "no such bar") (is := 46) (by decide +kernel) dX2_setBars_27 dX2_setBars_30 dX2_setBars_31 dX2_setBars_33 dX2_setBars_36 (hl.1.trans hml.symm) ⟨by decide, by decide, by (show 0 + 1 ≤ _; first | exact Nat.le_of_ble_eq_true rfl | omega), by (show 0 + 6 ≤ _; first | exact Nat.le_of_ble_eq_true rfl | omega)⟩ hlk (fun H1 q1 q2 => ⟨(by first | exact Or.inl ⟨rfl, by omega⟩ | exact Or.inr ⟨rfl, by omega⟩), hP.grow q2⟩) (by first | exact Nat.le_of_ble_eq_true rfl | omega) (by first | exact Nat.le_of_ble_eq_true rfl | omega)
    · skip
      refine lv_iload_n hx hb dX2_setBars_11 rfl (lv_at hl 2 rfl) ?_
      refine z_iconst hx hb dX2_setBars_12 ?_
      refine z_icmp_eq (a := q) (b := 2) (tgt := 37) hx hb dX2_setBars_13 (by decide) (by omega) (by omega) (fun h_13 => ?_) (fun h_13 => ?_)
      · skip
        refine lv_aload_n hx hb dX2_setBars_37 rfl (lv_at hl 0 rfl) ?_
        refine k_R (c_VR (As := []) (rest := []) ⟨hx, hb, hml, hown, hts⟩ hG hS hA (c_X2_greatestEnd l G ad F A E T P S Av Fv hVC) ⟨q_ml_RX2_51, q_im_X2_greatestEnd, q_sel_X2_greatestEnd, q_ini_RX2, q_code_X2_greatestEnd⟩ hv_X2_greatestEnd (CP.rec hK hP) hP ⟨Nat.le_of_ble_eq_true rfl, Nat.le_of_ble_eq_true rfl⟩ ⟨Nat.le_of_ble_eq_true rfl, Nat.le_of_ble_eq_true rfl⟩ rfl hl.1 rfl (Nat.le_of_ble_eq_true rfl) dX2_setBars_38) ?_
        refine z_if_le (a := gEnd Fv ((F 0))) (tgt := 54) hx hb dX2_setBars_41 (by decide) (by omega) (fun h_41 => ?_) (fun h_41 => ?_)
        · skip
          refine lv_aload_n hx hb dX2_setBars_54 rfl (lv_at hl 0 rfl) ?_
          refine z_sipush hx hb dX2_setBars_55 (by decide) ?_
          refine lv_iload_n hx hb dX2_setBars_58 rfl (lv_at hl 2 rfl) ?_
          refine z_idiv hx hb dX2_setBars_59 (by omega) (by omega) ?_
          refine zs_put (x := (384) / (q)) hx hb hK hts hown hP hS (hD 0 (by decide)) 1 (by decide) (Or.inl (by decide)) q_fl_RX2_30 dX2_setBars_60 (fun H locs hP hz ho hS => ?_)
          refine lv_aload_n hx hb dX2_setBars_63 rfl (lv_at hl 0 rfl) ?_
          refine lv_iload_n hx hb dX2_setBars_64 rfl (lv_at hl 1 rfl) ?_
          refine lv_aload_n hx hb dX2_setBars_65 rfl (lv_at hl 0 rfl) ?_
          refine zs_get hx hb hK hts hown hP 4 (by decide) q_fl_RX2_30 (v := .int (zI ((384) / (q)))) rfl dX2_setBars_66 ?_
          refine z_imul (x := b) (y := (384) / (q)) hx hb dX2_setBars_69 ?_
          refine zs_put (x := (b) * ((384) / (q))) hx hb hK hts hown hP hS (hD 0 (by decide)) 2 (by decide) (Or.inl (by decide)) q_fl_RX2_33 dX2_setBars_70 (fun H locs hP hz ho hS => ?_)
          refine lv_aload_n hx hb dX2_setBars_73 rfl (lv_at hl 0 rfl) ?_
          refine zs_get hx hb hK hts hown hP 5 (by decide) q_fl_RX2_33 (v := .int (zI ((b) * ((384) / (q))))) rfl dX2_setBars_74 ?_
          exact vx_ret (e_Wi (r := (b) * ((384) / (q))) hx hb hr hlk (n_i _) hS (by omega) (by omega) ⟨rfl, by omega, by omega, hP⟩ dX2_setBars_77)
        · skip
          exact z_thrIS hx hb hst hown hts hG hnt hS hA (text := "a voice has elements") (is := 57) (by decide +kernel) dX2_setBars_44 dX2_setBars_47 dX2_setBars_48 dX2_setBars_50 dX2_setBars_53 (hl.1.trans hml.symm) ⟨by decide, by decide, by (show 0 + 1 ≤ _; first | exact Nat.le_of_ble_eq_true rfl | omega), by (show 0 + 6 ≤ _; first | exact Nat.le_of_ble_eq_true rfl | omega)⟩ hlk (fun H1 q1 q2 => ⟨(by first | exact Or.inl ⟨rfl, by omega⟩ | exact Or.inr ⟨rfl, by omega⟩), hP.grow q2⟩) (by first | exact Nat.le_of_ble_eq_true rfl | omega) (by first | exact Nat.le_of_ble_eq_true rfl | omega)
      · skip
        refine lv_iload_n hx hb dX2_setBars_16 rfl (lv_at hl 2 rfl) ?_
        refine z_iconst hx hb dX2_setBars_17 ?_
        refine z_icmp_eq (a := q) (b := 4) (tgt := 37) hx hb dX2_setBars_18 (by decide) (by omega) (by omega) (fun h_18 => ?_) (fun h_18 => ?_)
        · skip
          refine lv_aload_n hx hb dX2_setBars_37 rfl (lv_at hl 0 rfl) ?_
          refine k_R (c_VR (As := []) (rest := []) ⟨hx, hb, hml, hown, hts⟩ hG hS hA (c_X2_greatestEnd l G ad F A E T P S Av Fv hVC) ⟨q_ml_RX2_51, q_im_X2_greatestEnd, q_sel_X2_greatestEnd, q_ini_RX2, q_code_X2_greatestEnd⟩ hv_X2_greatestEnd (CP.rec hK hP) hP ⟨Nat.le_of_ble_eq_true rfl, Nat.le_of_ble_eq_true rfl⟩ ⟨Nat.le_of_ble_eq_true rfl, Nat.le_of_ble_eq_true rfl⟩ rfl hl.1 rfl (Nat.le_of_ble_eq_true rfl) dX2_setBars_38) ?_
          refine z_if_le (a := gEnd Fv ((F 0))) (tgt := 54) hx hb dX2_setBars_41 (by decide) (by omega) (fun h_41 => ?_) (fun h_41 => ?_)
          · skip
            refine lv_aload_n hx hb dX2_setBars_54 rfl (lv_at hl 0 rfl) ?_
            refine z_sipush hx hb dX2_setBars_55 (by decide) ?_
            refine lv_iload_n hx hb dX2_setBars_58 rfl (lv_at hl 2 rfl) ?_
            refine z_idiv hx hb dX2_setBars_59 (by omega) (by omega) ?_
            refine zs_put (x := (384) / (q)) hx hb hK hts hown hP hS (hD 0 (by decide)) 1 (by decide) (Or.inl (by decide)) q_fl_RX2_30 dX2_setBars_60 (fun H locs hP hz ho hS => ?_)
            refine lv_aload_n hx hb dX2_setBars_63 rfl (lv_at hl 0 rfl) ?_
            refine lv_iload_n hx hb dX2_setBars_64 rfl (lv_at hl 1 rfl) ?_
            refine lv_aload_n hx hb dX2_setBars_65 rfl (lv_at hl 0 rfl) ?_
            refine zs_get hx hb hK hts hown hP 4 (by decide) q_fl_RX2_30 (v := .int (zI ((384) / (q)))) rfl dX2_setBars_66 ?_
            refine z_imul (x := b) (y := (384) / (q)) hx hb dX2_setBars_69 ?_
            refine zs_put (x := (b) * ((384) / (q))) hx hb hK hts hown hP hS (hD 0 (by decide)) 2 (by decide) (Or.inl (by decide)) q_fl_RX2_33 dX2_setBars_70 (fun H locs hP hz ho hS => ?_)
            refine lv_aload_n hx hb dX2_setBars_73 rfl (lv_at hl 0 rfl) ?_
            refine zs_get hx hb hK hts hown hP 5 (by decide) q_fl_RX2_33 (v := .int (zI ((b) * ((384) / (q))))) rfl dX2_setBars_74 ?_
            exact vx_ret (e_Wi (r := (b) * ((384) / (q))) hx hb hr hlk (n_i _) hS (by omega) (by omega) ⟨rfl, by omega, by omega, hP⟩ dX2_setBars_77)
          · skip
            exact z_thrIS hx hb hst hown hts hG hnt hS hA (text := "a voice has elements") (is := 57) (by decide +kernel) dX2_setBars_44 dX2_setBars_47 dX2_setBars_48 dX2_setBars_50 dX2_setBars_53 (hl.1.trans hml.symm) ⟨by decide, by decide, by (show 0 + 1 ≤ _; first | exact Nat.le_of_ble_eq_true rfl | omega), by (show 0 + 6 ≤ _; first | exact Nat.le_of_ble_eq_true rfl | omega)⟩ hlk (fun H1 q1 q2 => ⟨(by first | exact Or.inl ⟨rfl, by omega⟩ | exact Or.inr ⟨rfl, by omega⟩), hP.grow q2⟩) (by first | exact Nat.le_of_ble_eq_true rfl | omega) (by first | exact Nat.le_of_ble_eq_true rfl | omega)
        · skip
          refine lv_iload_n hx hb dX2_setBars_21 rfl (lv_at hl 2 rfl) ?_
          refine z_bipush hx hb dX2_setBars_22 (by decide) ?_
          refine z_icmp_eq (a := q) (b := 8) (tgt := 37) hx hb dX2_setBars_24 (by decide) (by omega) (by omega) (fun h_24 => ?_) (fun h_24 => ?_)
          · skip
            refine lv_aload_n hx hb dX2_setBars_37 rfl (lv_at hl 0 rfl) ?_
            refine k_R (c_VR (As := []) (rest := []) ⟨hx, hb, hml, hown, hts⟩ hG hS hA (c_X2_greatestEnd l G ad F A E T P S Av Fv hVC) ⟨q_ml_RX2_51, q_im_X2_greatestEnd, q_sel_X2_greatestEnd, q_ini_RX2, q_code_X2_greatestEnd⟩ hv_X2_greatestEnd (CP.rec hK hP) hP ⟨Nat.le_of_ble_eq_true rfl, Nat.le_of_ble_eq_true rfl⟩ ⟨Nat.le_of_ble_eq_true rfl, Nat.le_of_ble_eq_true rfl⟩ rfl hl.1 rfl (Nat.le_of_ble_eq_true rfl) dX2_setBars_38) ?_
            refine z_if_le (a := gEnd Fv ((F 0))) (tgt := 54) hx hb dX2_setBars_41 (by decide) (by omega) (fun h_41 => ?_) (fun h_41 => ?_)
            · skip
              refine lv_aload_n hx hb dX2_setBars_54 rfl (lv_at hl 0 rfl) ?_
              refine z_sipush hx hb dX2_setBars_55 (by decide) ?_
              refine lv_iload_n hx hb dX2_setBars_58 rfl (lv_at hl 2 rfl) ?_
              refine z_idiv hx hb dX2_setBars_59 (by omega) (by omega) ?_
              refine zs_put (x := (384) / (q)) hx hb hK hts hown hP hS (hD 0 (by decide)) 1 (by decide) (Or.inl (by decide)) q_fl_RX2_30 dX2_setBars_60 (fun H locs hP hz ho hS => ?_)
              refine lv_aload_n hx hb dX2_setBars_63 rfl (lv_at hl 0 rfl) ?_
              refine lv_iload_n hx hb dX2_setBars_64 rfl (lv_at hl 1 rfl) ?_
              refine lv_aload_n hx hb dX2_setBars_65 rfl (lv_at hl 0 rfl) ?_
              refine zs_get hx hb hK hts hown hP 4 (by decide) q_fl_RX2_30 (v := .int (zI ((384) / (q)))) rfl dX2_setBars_66 ?_
              refine z_imul (x := b) (y := (384) / (q)) hx hb dX2_setBars_69 ?_
              refine zs_put (x := (b) * ((384) / (q))) hx hb hK hts hown hP hS (hD 0 (by decide)) 2 (by decide) (Or.inl (by decide)) q_fl_RX2_33 dX2_setBars_70 (fun H locs hP hz ho hS => ?_)
              refine lv_aload_n hx hb dX2_setBars_73 rfl (lv_at hl 0 rfl) ?_
              refine zs_get hx hb hK hts hown hP 5 (by decide) q_fl_RX2_33 (v := .int (zI ((b) * ((384) / (q))))) rfl dX2_setBars_74 ?_
              exact vx_ret (e_Wi (r := (b) * ((384) / (q))) hx hb hr hlk (n_i _) hS (by omega) (by omega) ⟨rfl, by omega, by omega, hP⟩ dX2_setBars_77)
            · skip
              exact z_thrIS hx hb hst hown hts hG hnt hS hA (text := "a voice has elements") (is := 57) (by decide +kernel) dX2_setBars_44 dX2_setBars_47 dX2_setBars_48 dX2_setBars_50 dX2_setBars_53 (hl.1.trans hml.symm) ⟨by decide, by decide, by (show 0 + 1 ≤ _; first | exact Nat.le_of_ble_eq_true rfl | omega), by (show 0 + 6 ≤ _; first | exact Nat.le_of_ble_eq_true rfl | omega)⟩ hlk (fun H1 q1 q2 => ⟨(by first | exact Or.inl ⟨rfl, by omega⟩ | exact Or.inr ⟨rfl, by omega⟩), hP.grow q2⟩) (by first | exact Nat.le_of_ble_eq_true rfl | omega) (by first | exact Nat.le_of_ble_eq_true rfl | omega)
          · skip
            exact z_thrIA hx hb hst hown hts hG hnt hS hA (text := "no such bar") (is := 46) (by decide +kernel) dX2_setBars_27 dX2_setBars_30 dX2_setBars_31 dX2_setBars_33 dX2_setBars_36 (hl.1.trans hml.symm) ⟨by decide, by decide, by (show 0 + 1 ≤ _; first | exact Nat.le_of_ble_eq_true rfl | omega), by (show 0 + 6 ≤ _; first | exact Nat.le_of_ble_eq_true rfl | omega)⟩ hlk (fun H1 q1 q2 => ⟨(by first | exact Or.inl ⟨rfl, by omega⟩ | exact Or.inr ⟨rfl, by omega⟩), hP.grow q2⟩) (by first | exact Nat.le_of_ble_eq_true rfl | omega) (by first | exact Nat.le_of_ble_eq_true rfl | omega)
set_option maxHeartbeats 2000000 in
theorem c_X2_element (l : Launch) (G : zG) (ad : Nat → Nat) (F : Nat → Int) (A E : Nat → Int → Int) (T P S Av : Int → Nat → Int → Int) (Fv : Int → Nat → Int) (v i w : Int) (sz : Nat) (hst : l.stackTraces = false) (r_v : -2147483648 ≤ v ∧ v ≤ 2147483647) (r_i : -2147483648 ≤ i ∧ i ≤ 2147483647) (r_w : -2147483648 ≤ w ∧ w ≤ 2147483647) (hVC : COK F Fv) : MX l yX2_element cX2_element 4 (some .int) 8 133 (3) (18) G [.ref (ad 0), .int (zI (v)), .int (zI (i)), .int (zI (w))] (fA 94 ad sz) sz (CP G ad F A E T P S Av Fv) (QW (fA 94 ad sz) (fun r H => r = T v w.toNat i ∧ (0 ≤ v ∧ v < F 0 ∧ 0 ≤ i ∧ i < Fv v 0 ∧ 0 ≤ w ∧ w < 9) ∧ CP G ad F A E T P S Av Fv H)) (fun E9 H => ((E9 = xIO ∧ ¬ (0 ≤ v ∧ v < F 0 ∧ 0 ≤ i ∧ i < Fv v 0 ∧ 0 ≤ w ∧ w < 9))) ∧ CP G ad F A E T P S Av Fv H) := by
  refine mx_of hp_X2_element (Nat.le_of_ble_eq_true rfl) ?_
  intro p env s m below meth c ls hB hnt hsz hP hl
  obtain ⟨hx, hb, hml, hr, hlk, hown, hts, hG⟩ := hB
  subst hsz
  have hK := hG.1
  have hS : va_S (fA 94 ad s.heap.size) s.heap s.heap [] := va_S.rf
  have hA : ∀ q : Nat, (fA 94 ad s.heap.size) q → G.2.2 ≤ q := fA_lo hP.1.2 hG.2.1
  have hD : ∀ k, k < 94 → (fA 94 ad s.heap.size) (ad k) := fun k hk => fA_in hk
  have hl : lv_has ls 4 [(0, .ref (ad 0)), (1, .int (zI (v))), (2, .int (zI (i))), (3, .int (zI (w)))] := hl
  have h0b := hVC.1
  refine lv_aload_n hx hb dX2_element_0 rfl (lv_at hl 0 rfl) ?_
  refine lv_iload_n hx hb dX2_element_1 rfl (lv_at hl 1 rfl) ?_
  refine lv_iload_n hx hb dX2_element_2 rfl (lv_at hl 2 rfl) ?_
  refine k_Xv (c_VX (As := [.int (zI (v)), .int (zI (i))]) (rest := []) ⟨hx, hb, hml, hown, hts⟩ hG hS hA (c_X2_requireElement l G ad F A E T P S Av Fv v i s.heap.size hst (show -2147483648 ≤ v ∧ v ≤ 2147483647 by omega) (show -2147483648 ≤ i ∧ i ≤ 2147483647 by omega) hVC) ⟨q_ml_RX2_127, q_im_X2_requireElement, q_sel_X2_requireElement, q_ini_RX2, q_code_X2_requireElement⟩ hv_X2_requireElement (CP.rec hK hP) hP ⟨Nat.le_of_ble_eq_true rfl, Nat.le_of_ble_eq_true rfl⟩ ⟨Nat.le_of_ble_eq_true rfl, Nat.le_of_ble_eq_true rfl⟩ rfl hl.1 rfl (Nat.le_of_ble_eq_true rfl) dX2_element_3) hS (fA_mono hS.1) (fun H1 locs1 hq hz1 hk1 hS => ?_) (fun E9 H1 locs1 q9 ce hq hz1 hk1 hS hce hcv hcl => x_out hnt hlk hce hcv hcl hS (by obtain ⟨hE, hC⟩ := hq; refine ⟨?_, hC⟩; obtain ⟨rfl, hE2⟩ := hE; first | exact ⟨rfl, by omega⟩) (by first | exact Nat.le_of_ble_eq_true rfl | omega) (by first | exact Nat.le_of_ble_eq_true rfl | omega))
  obtain ⟨hv9, hP⟩ := hq
  have hvi := hVC.2 v (by omega) (by omega)
  refine lv_iload_n hx hb dX2_element_6 rfl (lv_at hl 3 rfl) ?_
  refine z_if_lt (a := w) (tgt := 16) hx hb dX2_element_7 (by decide) (by omega) (fun h_7 => ?_) (fun h_7 => ?_)
  · skip
    exact z_thrIO hx hb hst hown hts hG hnt hS hA (text := "no such number of an element") (is := 139) (by decide +kernel) dX2_element_16 dX2_element_19 dX2_element_20 dX2_element_22 dX2_element_25 (hl.1.trans hml.symm) ⟨by decide, by decide, by (show 0 + (2) + 1 ≤ _; first | exact Nat.le_of_ble_eq_true rfl | omega), by (show 0 + (12) + 6 ≤ _; first | exact Nat.le_of_ble_eq_true rfl | omega)⟩ hlk (fun H1 q1 q2 => ⟨(by first | exact ⟨rfl, by omega⟩), hP.grow q2⟩) (by first | exact Nat.le_of_ble_eq_true rfl | omega) (by first | exact Nat.le_of_ble_eq_true rfl | omega)
  · skip
    refine lv_iload_n hx hb dX2_element_10 rfl (lv_at hl 3 rfl) ?_
    refine z_bipush hx hb dX2_element_11 (by decide) ?_
    refine z_icmp_lt (a := w) (b := 9) (tgt := 26) hx hb dX2_element_13 (by decide) (by omega) (by omega) (fun h_13 => ?_) (fun h_13 => ?_)
    · skip
      refine lv_aload_n hx hb dX2_element_26 rfl (lv_at hl 0 rfl) ?_
      refine zs_get hx hb hK hts hown hP 0 (by decide) q_fl_RX2_11 (v := .ref (ad 1)) rfl dX2_element_27 ?_
      refine lv_iload_n hx hb dX2_element_30 rfl (lv_at hl 1 rfl) ?_
      refine zs_aV hx hb hK hP (i := v) (by omega) dX2_element_31 ?_
      have hV_v : VP G (vad ad (v)) (T (v)) (P (v)) (S (v)) (Av (v)) (Fv (v)) H1 := CP.voice hP (v) (by omega)
      refine zv_get hx hb hK hts hown hV_v 0 (by decide) q_fl_RX2_114 (v := .ref ((vad ad (v)) 1)) rfl dX2_element_32 ?_
      refine lv_iload_n hx hb dX2_element_35 rfl (lv_at hl 3 rfl) ?_
      refine zv_aT hx hb hK hV_v ((w).toNat) (by omega) (i := w) (by omega) dX2_element_36 ?_
      refine lv_iload_n hx hb dX2_element_37 rfl (lv_at hl 2 rfl) ?_
      refine zv_lT hx hb hK hV_v ((w).toNat) (by omega) (i := i) (by omega) dX2_element_38 ?_
      exact vx_ret (e_Wi (r := (T (v)) ((w).toNat) (i)) hx hb hr hlk (n_i _) hS (by omega) (by omega) ⟨rfl, by omega, hP⟩ dX2_element_39)
    · skip
      exact z_thrIO hx hb hst hown hts hG hnt hS hA (text := "no such number of an element") (is := 139) (by decide +kernel) dX2_element_16 dX2_element_19 dX2_element_20 dX2_element_22 dX2_element_25 (hl.1.trans hml.symm) ⟨by decide, by decide, by (show 0 + (2) + 1 ≤ _; first | exact Nat.le_of_ble_eq_true rfl | omega), by (show 0 + (12) + 6 ≤ _; first | exact Nat.le_of_ble_eq_true rfl | omega)⟩ hlk (fun H1 q1 q2 => ⟨(by first | exact ⟨rfl, by omega⟩), hP.grow q2⟩) (by first | exact Nat.le_of_ble_eq_true rfl | omega) (by first | exact Nat.le_of_ble_eq_true rfl | omega)
set_option maxHeartbeats 2000000 in
theorem c_X2_voice (l : Launch) (G : zG) (ad : Nat → Nat) (F : Nat → Int) (A E : Nat → Int → Int) (T P S Av : Int → Nat → Int → Int) (Fv : Int → Nat → Int) (v w : Int) (sz : Nat) (hst : l.stackTraces = false) (r_v : -2147483648 ≤ v ∧ v ≤ 2147483647) (r_w : -2147483648 ≤ w ∧ w ≤ 2147483647) (hVC : COK F Fv) : MX l yX2_voice cX2_voice 3 (some .int) 7 111 (2) (12) G [.ref (ad 0), .int (zI (v)), .int (zI (w))] (fA 94 ad sz) sz (CP G ad F A E T P S Av Fv) (QW (fA 94 ad sz) (fun r H => r = vTell (Fv v) w ∧ (0 ≤ v ∧ v < F 0 ∧ 0 ≤ w ∧ w < 7) ∧ CP G ad F A E T P S Av Fv H)) (fun E9 H => ((E9 = xIO ∧ ¬ (0 ≤ v ∧ v < F 0 ∧ 0 ≤ w ∧ w < 7))) ∧ CP G ad F A E T P S Av Fv H) := by
  refine mx_of hp_X2_voice (Nat.le_of_ble_eq_true rfl) ?_
  intro p env s m below meth c ls hB hnt hsz hP hl
  obtain ⟨hx, hb, hml, hr, hlk, hown, hts, hG⟩ := hB
  subst hsz
  have hK := hG.1
  have hS : va_S (fA 94 ad s.heap.size) s.heap s.heap [] := va_S.rf
  have hA : ∀ q : Nat, (fA 94 ad s.heap.size) q → G.2.2 ≤ q := fA_lo hP.1.2 hG.2.1
  have hD : ∀ k, k < 94 → (fA 94 ad s.heap.size) (ad k) := fun k hk => fA_in hk
  have hl : lv_has ls 3 [(0, .ref (ad 0)), (1, .int (zI (v))), (2, .int (zI (w)))] := hl
  have h0b := hVC.1
  refine lv_aload_n hx hb dX2_voice_0 rfl (lv_at hl 0 rfl) ?_
  refine lv_iload_n hx hb dX2_voice_1 rfl (lv_at hl 1 rfl) ?_
  refine k_Xv (c_VX (As := [.int (zI (v))]) (rest := []) ⟨hx, hb, hml, hown, hts⟩ hG hS hA (c_X2_requireVoice l G ad F A E T P S Av Fv v s.heap.size hst (show -2147483648 ≤ v ∧ v ≤ 2147483647 by omega) hVC) ⟨q_ml_RX2_93, q_im_X2_requireVoice, q_sel_X2_requireVoice, q_ini_RX2, q_code_X2_requireVoice⟩ hv_X2_requireVoice (CP.rec hK hP) hP ⟨Nat.le_of_ble_eq_true rfl, Nat.le_of_ble_eq_true rfl⟩ ⟨Nat.le_of_ble_eq_true rfl, Nat.le_of_ble_eq_true rfl⟩ rfl hl.1 rfl (Nat.le_of_ble_eq_true rfl) dX2_voice_2) hS (fA_mono hS.1) (fun H1 locs1 hq hz1 hk1 hS => ?_) (fun E9 H1 locs1 q9 ce hq hz1 hk1 hS hce hcv hcl => x_out hnt hlk hce hcv hcl hS (by obtain ⟨hE, hC⟩ := hq; refine ⟨?_, hC⟩; obtain ⟨rfl, hE2⟩ := hE; first | exact ⟨rfl, by omega⟩) (by first | exact Nat.le_of_ble_eq_true rfl | omega) (by first | exact Nat.le_of_ble_eq_true rfl | omega))
  obtain ⟨hv9, hP⟩ := hq
  have hvi := hVC.2 v (by omega) (by omega)
  refine lv_iload_n hx hb dX2_voice_5 rfl (lv_at hl 2 rfl) ?_
  refine z_if_lt (a := w) (tgt := 15) hx hb dX2_voice_6 (by decide) (by omega) (fun h_6 => ?_) (fun h_6 => ?_)
  · skip
    exact z_thrIO hx hb hst hown hts hG hnt hS hA (text := "no such number of a voice") (is := 146) (by decide +kernel) dX2_voice_15 dX2_voice_18 dX2_voice_19 dX2_voice_21 dX2_voice_24 (hl.1.trans hml.symm) ⟨by decide, by decide, by (show 0 + (1) + 1 ≤ _; first | exact Nat.le_of_ble_eq_true rfl | omega), by (show 0 + (6) + 6 ≤ _; first | exact Nat.le_of_ble_eq_true rfl | omega)⟩ hlk (fun H1 q1 q2 => ⟨(by first | exact ⟨rfl, by omega⟩), hP.grow q2⟩) (by first | exact Nat.le_of_ble_eq_true rfl | omega) (by first | exact Nat.le_of_ble_eq_true rfl | omega)
  · skip
    refine lv_iload_n hx hb dX2_voice_9 rfl (lv_at hl 2 rfl) ?_
    refine z_bipush hx hb dX2_voice_10 (by decide) ?_
    refine z_icmp_lt (a := w) (b := 7) (tgt := 25) hx hb dX2_voice_12 (by decide) (by omega) (by omega) (fun h_12 => ?_) (fun h_12 => ?_)
    · skip
      refine lv_aload_n hx hb dX2_voice_25 rfl (lv_at hl 0 rfl) ?_
      refine zs_get hx hb hK hts hown hP 0 (by decide) q_fl_RX2_11 (v := .ref (ad 1)) rfl dX2_voice_26 ?_
      refine lv_iload_n hx hb dX2_voice_29 rfl (lv_at hl 1 rfl) ?_
      refine zs_aV hx hb hK hP (i := v) (by omega) dX2_voice_30 ?_
      have hV_v : VP G (vad ad (v)) (T (v)) (P (v)) (S (v)) (Av (v)) (Fv (v)) H1 := CP.voice hP (v) (by omega)
      refine lv_iload_n hx hb dX2_voice_31 rfl (lv_at hl 2 rfl) ?_
      refine k_R (c_VR (As := [.int (zI (w))]) (rest := []) ⟨hx, hb, hml, hown, hts⟩ hG hS hA (c_X1_tell l G (vad ad (v)) (T (v)) (P (v)) (S (v)) (Av (v)) (Fv (v)) w (show -2147483648 ≤ w ∧ w ≤ 2147483647 by omega)) ⟨q_ml_RX2_148, q_im_X1_tell, q_sel_X1_tell, q_ini_RX1, q_code_X1_tell⟩ hv_X1_tell (VP.rec hK hV_v) hV_v ⟨Nat.le_of_ble_eq_true rfl, Nat.le_of_ble_eq_true rfl⟩ ⟨Nat.le_of_ble_eq_true rfl, Nat.le_of_ble_eq_true rfl⟩ rfl hl.1 rfl (Nat.le_of_ble_eq_true rfl) dX2_voice_32) ?_
      exact vx_ret (e_Wi (r := vTell (Fv (v)) w) hx hb hr hlk (n_i _) hS (by omega) (by omega) ⟨rfl, by omega, hP⟩ dX2_voice_35)
    · skip
      exact z_thrIO hx hb hst hown hts hG hnt hS hA (text := "no such number of a voice") (is := 146) (by decide +kernel) dX2_voice_15 dX2_voice_18 dX2_voice_19 dX2_voice_21 dX2_voice_24 (hl.1.trans hml.symm) ⟨by decide, by decide, by (show 0 + (1) + 1 ≤ _; first | exact Nat.le_of_ble_eq_true rfl | omega), by (show 0 + (6) + 6 ≤ _; first | exact Nat.le_of_ble_eq_true rfl | omega)⟩ hlk (fun H1 q1 q2 => ⟨(by first | exact ⟨rfl, by omega⟩), hP.grow q2⟩) (by first | exact Nat.le_of_ble_eq_true rfl | omega) (by first | exact Nat.le_of_ble_eq_true rfl | omega)
