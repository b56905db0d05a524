set_option maxHeartbeats 2000000 in
theorem c_X2_score9 (l : Launch) (G : zG) (ad : Nat → Nat) (F : Nat → Int) (A E : Nat → Int → Int) (T P S Av : Int → Nat → Int → Int) (Fv : Int → Nat → Int) (w : Int) (sz : Nat) (hw : 0 ≤ w ∧ w < 5) (hVT : ∀ v, 0 ≤ v → v < 4 → 0 < Fv v 0 → 0 ≤ T v 6 (Fv v 0 - 1) ∧ T v 6 (Fv v 0 - 1) ≤ 1000000) (hVC : COK F Fv) : MW l yX2_score cX2_score 2 (some .int) 6 90 (0) (0) G [.ref (ad 0), .int (zI (w))] (fA 94 ad sz) sz (CP G ad F A E T P S Av Fv) (QW (fA 94 ad sz) (fun r H => r = scC F T Fv w ∧ CP G ad F A E T P S Av Fv H)) := by
  refine mw_of hp_X2_score (Nat.le_of_ble_eq_true rfl) ?_
  intro p env s m below meth c ls hB hsz hP hl
  obtain ⟨hx, hb, hml, hr, hlk, hown, hts, hG⟩ := hB
  subst hsz
  have hK := hG.1
  have hS : va_S (fA 94 ad s.heap.size) s.heap s.heap [] := va_S.rf
  have hA : ∀ q : Nat, (fA 94 ad s.heap.size) q → G.2.2 ≤ q := fA_lo hP.1.2 hG.2.1
  have hD : ∀ k, k < 94 → (fA 94 ad s.heap.size) (ad k) := fun k hk => fA_in hk
  have hl : lv_has ls 2 [(0, .ref (ad 0)), (1, .int (zI (w)))] := hl
  have h0b := hVC.1
  refine lv_iload_n hx hb dX2_score_0 rfl (lv_at hl 1 rfl) ?_
  refine z_if_lt (a := w) (tgt := 9) hx hb dX2_score_1 (by decide) (by omega) (fun h_1 => ?_) (fun h_1 => ?_)
  · skip
    exfalso
    omega
    skip
  · skip
    refine lv_iload_n hx hb dX2_score_4 rfl (lv_at hl 1 rfl) ?_
    refine z_iconst hx hb dX2_score_5 ?_
    refine z_icmp_lt (a := w) (b := 5) (tgt := 19) hx hb dX2_score_6 (by decide) (by omega) (by omega) (fun h_6 => ?_) (fun h_6 => ?_)
    · skip
      refine lv_iload_n hx hb dX2_score_19 rfl (lv_at hl 1 rfl) ?_
      have hsw_20 : -2147483648 ≤ w ∧ w ≤ 2147483647 := (by omega)
      rcases (by omega : w < 0 ∨ 3 < w ∨ w = 0 ∨ w = 1 ∨ w = 2 ∨ w = 3) with h_20 | h_20 | h_20 | h_20 | h_20 | h_20
      · skip
        refine lv_tableOut (x := zI (w)) (tgt := 72) hx hb dX2_score_20 (by rw [zI_toInt hsw_20]; omega) (by decide) ?_
        refine lv_aload_n hx hb dX2_score_72 rfl (lv_at hl 0 rfl) ?_
        refine k_R (c_VR (As := []) (rest := []) ⟨hx, hb, hml, hown, hts⟩ hG hS hA (c_X2_greatestEnd l G ad F A E T P S Av Fv hVC) ⟨q_ml_RX2_51, q_im_X2_greatestEnd, q_sel_X2_greatestEnd, q_ini_RX2, q_code_X2_greatestEnd⟩ hv_X2_greatestEnd (CP.rec hK hP) hP ⟨by decide, by decide⟩ ⟨Nat.zero_le _, Nat.zero_le _⟩ rfl hl.1 rfl (Nat.le_of_ble_eq_true rfl) dX2_score_73) ?_
        exact e_Wi (r := gEnd Fv ((F 0))) hx hb hr hlk (n_i _) hS (by omega) (by omega) ⟨(by unfold scC; (repeat' split) <;> first | rfl | (exfalso; omega)), hP⟩ dX2_score_76
      · skip
        refine lv_tableOut (x := zI (w)) (tgt := 72) hx hb dX2_score_20 (by rw [zI_toInt hsw_20]; omega) (by decide) ?_
        refine lv_aload_n hx hb dX2_score_72 rfl (lv_at hl 0 rfl) ?_
        refine k_R (c_VR (As := []) (rest := []) ⟨hx, hb, hml, hown, hts⟩ hG hS hA (c_X2_greatestEnd l G ad F A E T P S Av Fv hVC) ⟨q_ml_RX2_51, q_im_X2_greatestEnd, q_sel_X2_greatestEnd, q_ini_RX2, q_code_X2_greatestEnd⟩ hv_X2_greatestEnd (CP.rec hK hP) hP ⟨by decide, by decide⟩ ⟨Nat.zero_le _, Nat.zero_le _⟩ rfl hl.1 rfl (Nat.le_of_ble_eq_true rfl) dX2_score_73) ?_
        exact e_Wi (r := gEnd Fv ((F 0))) hx hb hr hlk (n_i _) hS (by omega) (by omega) ⟨(by unfold scC; (repeat' split) <;> first | rfl | (exfalso; omega)), hP⟩ dX2_score_76
      · skip
        refine lv_tableIn (x := zI (w)) (off := 32) (tgt := 52) hx hb dX2_score_20 (by rw [zI_toInt hsw_20]; omega) (by rw [zI_toInt hsw_20]; omega) (by rw [zI_toInt hsw_20, h_20]; rfl) (by decide) ?_
        refine lv_aload_n hx hb dX2_score_52 rfl (lv_at hl 0 rfl) ?_
        refine zs_get hx hb hK hts hown hP 3 (by decide) q_fl_RX2_26 (v := .int (zI (F 0))) rfl dX2_score_53 ?_
        exact e_Wi (r := F 0) hx hb hr hlk (n_i _) hS (by omega) (by omega) ⟨(by unfold scC; (repeat' split) <;> first | rfl | (exfalso; omega)), hP⟩ dX2_score_56
      · skip
        refine lv_tableIn (x := zI (w)) (off := 37) (tgt := 57) hx hb dX2_score_20 (by rw [zI_toInt hsw_20]; omega) (by rw [zI_toInt hsw_20]; omega) (by rw [zI_toInt hsw_20, h_20]; rfl) (by decide) ?_
        refine lv_aload_n hx hb dX2_score_57 rfl (lv_at hl 0 rfl) ?_
        refine zs_get hx hb hK hts hown hP 5 (by decide) q_fl_RX2_33 (v := .int (zI (F 2))) rfl dX2_score_58 ?_
        exact e_Wi (r := F 2) hx hb hr hlk (n_i _) hS (by omega) (by omega) ⟨(by unfold scC; (repeat' split) <;> first | rfl | (exfalso; omega)), hP⟩ dX2_score_61
      · skip
        refine lv_tableIn (x := zI (w)) (off := 42) (tgt := 62) hx hb dX2_score_20 (by rw [zI_toInt hsw_20]; omega) (by rw [zI_toInt hsw_20]; omega) (by rw [zI_toInt hsw_20, h_20]; rfl) (by decide) ?_
        refine lv_aload_n hx hb dX2_score_62 rfl (lv_at hl 0 rfl) ?_
        refine zs_get hx hb hK hts hown hP 6 (by decide) q_fl_RX2_36 (v := .int (zI (F 3))) rfl dX2_score_63 ?_
        exact e_Wi (r := F 3) hx hb hr hlk (n_i _) hS (by omega) (by omega) ⟨(by unfold scC; (repeat' split) <;> first | rfl | (exfalso; omega)), hP⟩ dX2_score_66
      · skip
        refine lv_tableIn (x := zI (w)) (off := 47) (tgt := 67) hx hb dX2_score_20 (by rw [zI_toInt hsw_20]; omega) (by rw [zI_toInt hsw_20]; omega) (by rw [zI_toInt hsw_20, h_20]; rfl) (by decide) ?_
        refine lv_aload_n hx hb dX2_score_67 rfl (lv_at hl 0 rfl) ?_
        refine k_R (c_VR (As := []) (rest := []) ⟨hx, hb, hml, hown, hts⟩ hG hS hA (c_X2_barsBegun l G ad F A E T P S Av Fv hVT hVC) ⟨q_ml_RX2_76, q_im_X2_barsBegun, q_sel_X2_barsBegun, q_ini_RX2, q_code_X2_barsBegun⟩ hv_X2_barsBegun (CP.rec hK hP) hP ⟨by decide, by decide⟩ ⟨Nat.zero_le _, Nat.zero_le _⟩ rfl hl.1 rfl (Nat.le_of_ble_eq_true rfl) dX2_score_68) ?_
        exact e_Wi (r := bBeg Fv T ((F 0))) hx hb hr hlk (n_i _) hS (by omega) (by omega) ⟨(by unfold scC; (repeat' split) <;> first | rfl | (exfalso; omega)), hP⟩ dX2_score_71
    · skip
      exfalso
      omega
      skip
def dsC (F : Nat → Int) (T : Int → Nat → Int → Int) (Fv : Int → Nat → Int) : Int → Int64 := pf 389 (fun w d => dA d (scC F T Fv w))
def dvC (F : Nat → Int) (T : Int → Nat → Int → Int) (Fv : Int → Nat → Int) : Int → Int64 := pf (dsC F T Fv 5) (fun v d => dcF (T v) (dc7 (Fv v) d 7) (Fv v 0))
def dgC (F : Nat → Int) (E : Nat → Int → Int) (T : Int → Nat → Int → Int) (Fv : Int → Nat → Int) : Int64 := deF E (dA (dA (dvC F T Fv (F 0)) (fcF F T Fv (F 0))) (2 * nSou Fv (F 0))) (2 * nSou Fv (F 0))
set_option maxHeartbeats 2000000 in
theorem c_X2_digest (l : Launch) (G : zG) (ad : Nat → Nat) (F : Nat → Int) (A E : Nat → Int → Int) (T P S Av : Int → Nat → Int → Int) (Fv : Int → Nat → Int) (sz : Nat) (hbt : 0 < F 2 ∧ F 2 ≤ 1000000) (hf4 : F 4 = 0 ∨ F 4 = 1) (hVo : ∀ v, 0 ≤ v → v < 4 → VOK (T v) (P v) (Fv v 0)) (hVm : ∀ v, 0 ≤ v → v < 4 → ∀ i k, 0 ≤ i → i < k → k < Fv v 0 → T v 0 i ≤ T v 0 k) (hVT : ∀ v, 0 ≤ v → v < 4 → 0 < Fv v 0 → 0 ≤ T v 6 (Fv v 0 - 1) ∧ T v 6 (Fv v 0 - 1) ≤ 1000000) (hVS : ∀ v j, 0 ≤ v → v < F 0 → 0 ≤ j → j < Fv v 2 → (0 ≤ S v 0 j ∧ S v 0 j ≤ 1000000) ∧ (0 ≤ S v 1 j ∧ S v 1 j ≤ 1000000)) (hVC : COK F Fv) : MW l yX2_digest cX2_digest 4 (some .long) 7 133 (0) (0) G [.ref (ad 0)] (fA 94 ad sz) sz (CP G ad F A E T P S Av Fv) (QL (fA 94 ad sz) (fun r H => ∃ F2 A2 E2, rfQ F A E S Fv F2 A2 E2 ∧ r = dgC F E2 T Fv ∧ CP G ad F2 A2 E2 T P S Av Fv H)) := by
  refine mw_of hp_X2_digest (Nat.le_of_ble_eq_true rfl) ?_
  intro p env s m below meth c ls hB hsz hP hl
  obtain ⟨hx, hb, hml, hr, hlk, hown, hts, hG⟩ := hB
  subst hsz
  have hK := hG.1
  have hS : va_S (fA 94 ad s.heap.size) s.heap s.heap [] := va_S.rf
  have hA : ∀ q : Nat, (fA 94 ad s.heap.size) q → G.2.2 ≤ q := fA_lo hP.1.2 hG.2.1
  have hD : ∀ k, k < 94 → (fA 94 ad s.heap.size) (ad k) := fun k hk => fA_in hk
  have hl : lv_has ls 4 [(0, .ref (ad 0))] := hl
  have h0b := hVC.1
  refine lv_ldc2 hx hb hown (hts _ q_k_RX2_199) dX2_digest_0 ?_
  refine lv_lstore_n (lv' := [(1, .long (389)), (0, .ref (ad 0))]) hx hb dX2_digest_3 rfl hl (by decide) rfl (fun ls hl => ?_)
  refine z_iconst hx hb dX2_digest_4 ?_
  refine lv_istore_n (lv' := [(3, .int (zI (0))), (1, .long (389)), (0, .ref (ad 0))]) hx hb dX2_digest_5 rfl hl (by decide) rfl (fun ls hl => ?_)
  have lp_6 : ∀ (n : Nat) (w : Int) (d : Int64), 0 ≤ w → w ≤ 5 → d = dsC F T Fv w → 5 - w < n → ∀ (H : Heap) (locs : List Loc), CP G ad F A E T P S Av Fv H → va_S (fA 94 ad s.heap.size) s.heap H locs → ∀ (ls : Array Slot), lv_has ls 4 [(3, .int (zI (w))), (1, .long (d)), (0, .ref (ad 0))] → W p l env (rmz 7 133 0 0) s m (([.ref (ad 0)] : List Value).toArray) below meth c H locs 0 0 (MQ below (QL (fA 94 ad s.heap.size) (fun r H => ∃ F2 A2 E2, rfQ F A E S Fv F2 A2 E2 ∧ r = dgC F E2 T Fv ∧ CP G ad F2 A2 E2 T P S Av Fv H)) (([.ref (ad 0)] : List Value).toArray) s 0 0 (fA 94 ad s.heap.size)) (F0 m 6 ls []) := by
    intro n
    induction n with
    | zero => intro w d h0 h1 h2 hm H locs hP hS ls hl; exact absurd hm (by omega)
    | succ n ih =>
      intro w d h0 h1 h2 hm H locs hP hS ls hl
      refine lv_iload_n hx hb dX2_digest_6 rfl (lv_at hl 0 rfl) ?_
      refine z_iconst hx hb dX2_digest_7 ?_
      refine z_icmp_ge (a := w) (b := 5) (tgt := 30) hx hb dX2_digest_8 (by decide) (by omega) (by omega) (fun h_8 => ?_) (fun h_8 => ?_)
      · skip
        refine z_iconst hx hb dX2_digest_30 ?_
        refine lv_istore_n (lv' := [(3, .int (zI (0))), (1, .long (d)), (0, .ref (ad 0))]) hx hb dX2_digest_31 rfl hl (by decide) rfl (fun ls hl => ?_)
        have lp_32 : ∀ (n : Nat) (v : Int) (d2 : Int64), 0 ≤ v → v ≤ F 0 → d2 = dvC F T Fv v → F 0 - v < n → ∀ (H : Heap) (locs : List Loc), CP G ad F A E T P S Av Fv H → va_S (fA 94 ad s.heap.size) s.heap H locs → ∀ (ls : Array Slot), lv_has ls 4 [(3, .int (zI (v))), (1, .long (d2)), (0, .ref (ad 0))] → W p l env (rmz 7 133 0 0) s m (([.ref (ad 0)] : List Value).toArray) below meth c H locs 0 0 (MQ below (QL (fA 94 ad s.heap.size) (fun r H => ∃ F2 A2 E2, rfQ F A E S Fv F2 A2 E2 ∧ r = dgC F E2 T Fv ∧ CP G ad F2 A2 E2 T P S Av Fv H)) (([.ref (ad 0)] : List Value).toArray) s 0 0 (fA 94 ad s.heap.size)) (F0 m 32 ls []) := by
          intro n
          induction n with
          | zero => intro v d2 g0 g1 g2 gm H locs hP hS ls hl; exact absurd gm (by omega)
          | succ n ih =>
            intro v d2 g0 g1 g2 gm H locs hP hS ls hl
            have hvi := hVC.2 v g0
            refine lv_iload_n hx hb dX2_digest_32 rfl (lv_at hl 0 rfl) ?_
            refine lv_aload_n hx hb dX2_digest_33 rfl (lv_at hl 2 rfl) ?_
            refine zs_get hx hb hK hts hown hP 3 (by decide) q_fl_RX2_26 (v := .int (zI (F 0))) rfl dX2_digest_34 ?_
            refine z_icmp_ge (a := v) (b := F 0) (tgt := 57) hx hb dX2_digest_37 (by decide) (by omega) (by omega) (fun h_37 => ?_) (fun h_37 => ?_)
            · skip
              refine lv_lload_n hx hb dX2_digest_57 rfl (lv_at hl 1 rfl) ?_
              refine lv_ldc2 hx hb hown (hts _ q_k_RX2_201) dX2_digest_58 ?_
              refine lv_lmul hx hb dX2_digest_61 ?_
              refine lv_aload_n hx hb dX2_digest_62 rfl (lv_at hl 2 rfl) ?_
              refine k_R (c_VR (As := []) (rest := [.long ((d2) * (31))]) ⟨hx, hb, hml, hown, hts⟩ hG hS hA (c_X2_faults l G ad F A E T P S Av Fv (show 0 < (F 2) ∧ (F 2) ≤ 1000000 by omega) hVo hVm hVT hVC) ⟨q_ml_RX2_210, q_im_X2_faults, q_sel_X2_faults, q_ini_RX2, q_code_X2_faults⟩ hv_X2_faults (CP.rec hK hP) hP ⟨by decide, by decide⟩ ⟨Nat.zero_le _, Nat.zero_le _⟩ rfl hl.1 rfl (Nat.le_of_ble_eq_true rfl) dX2_digest_63) ?_
              refine lv_i2l (v := (zI (fcF F T Fv ((F 0)))).toInt64) hx hb dX2_digest_66 rfl ?_
              refine lv_ladd hx hb dX2_digest_67 ?_
              refine lv_lstore_n (lv' := [(1, .long (((d2) * (31)) + ((zI (fcF F T Fv ((F 0)))).toInt64))), (3, .int (zI (v))), (0, .ref (ad 0))]) hx hb dX2_digest_68 rfl hl (by decide) rfl (fun ls hl => ?_)
              refine lv_lload_n hx hb dX2_digest_69 rfl (lv_at hl 0 rfl) ?_
              refine lv_ldc2 hx hb hown (hts _ q_k_RX2_201) dX2_digest_70 ?_
              refine lv_lmul hx hb dX2_digest_73 ?_
              refine lv_aload_n hx hb dX2_digest_74 rfl (lv_at hl 2 rfl) ?_
              refine k_R (c_VR (As := []) (rest := [.long ((((d2) * (31)) + ((zI (fcF F T Fv ((F 0)))).toInt64)) * (31))]) ⟨hx, hb, hml, hown, hts⟩ hG hS hA (c_X2_countEvents l G ad F A E T P S Av Fv hVC) ⟨q_ml_RX2_183, q_im_X2_countEvents, q_sel_X2_countEvents, q_ini_RX2, q_code_X2_countEvents⟩ hv_X2_countEvents (CP.rec hK hP) hP ⟨by decide, by decide⟩ ⟨Nat.zero_le _, Nat.zero_le _⟩ rfl hl.1 rfl (Nat.le_of_ble_eq_true rfl) dX2_digest_75) ?_
              refine lv_i2l (v := (zI (2 * nSou Fv ((F 0)))).toInt64) hx hb dX2_digest_78 rfl ?_
              refine lv_ladd hx hb dX2_digest_79 ?_
              refine lv_lstore_n (lv' := [(1, .long (((((d2) * (31)) + ((zI (fcF F T Fv ((F 0)))).toInt64)) * (31)) + ((zI (2 * nSou Fv ((F 0)))).toInt64))), (3, .int (zI (v))), (0, .ref (ad 0))]) hx hb dX2_digest_80 rfl hl (by decide) rfl (fun ls hl => ?_)
              refine lv_aload_n hx hb dX2_digest_81 rfl (lv_at hl 2 rfl) ?_
              refine k_Wv (c_VW (As := []) (rest := []) ⟨hx, hb, hml, hown, hts⟩ hG hS hA (c_X2_refreshEvents l G ad F A E T P S Av Fv H.size hf4 hVS hVC) ⟨q_ml_RX2_190, q_im_X2_refreshEvents, q_sel_X2_refreshEvents, q_ini_RX2, q_code_X2_refreshEvents⟩ hv_X2_refreshEvents (CP.rec hK hP) hP ⟨by decide, by decide⟩ ⟨Nat.zero_le _, Nat.zero_le _⟩ rfl hl.1 rfl (Nat.le_of_ble_eq_true rfl) dX2_digest_82) hS (fA_mono hS.1) (fun H1 locs1 hq hz1 hk1 hS => ?_)
              obtain ⟨F2, A2, E2, hrf, hP⟩ : ∃ F2 A2 E2, rfQ F A E S Fv F2 A2 E2 ∧ CP G ad F2 A2 E2 T P S Av Fv H1 := by
                rcases hq with ⟨q1, q2⟩ | ⟨q1, q2⟩
                · exact ⟨F, A, E, Or.inl ⟨q1, rfl, rfl, rfl⟩, q2⟩
                · exact ⟨_, _, _, Or.inr ⟨q1, rfl, rfl, rfl⟩, q2⟩
              have hF0 := rfQ_F0 hrf
              have hVC2 : COK F2 Fv := ⟨by rw [hF0]; exact hVC.1, hVC.2⟩
              refine lv_aload_n hx hb dX2_digest_85 rfl (lv_at hl 2 rfl) ?_
              refine lv_lload_n hx hb dX2_digest_86 rfl (lv_at hl 0 rfl) ?_
              refine k_Wl (c_VW (As := [.long (((((d2) * (31)) + ((zI (fcF F T Fv ((F 0)))).toInt64)) * (31)) + ((zI (2 * nSou Fv ((F 0)))).toInt64))]) (rest := []) ⟨hx, hb, hml, hown, hts⟩ hG hS hA (c_X2_digestEvents l G ad F2 A2 E2 T P S Av Fv (((((d2) * (31)) + ((zI (fcF F T Fv ((F 0)))).toInt64)) * (31)) + ((zI (2 * nSou Fv ((F 0)))).toInt64)) H1.size hVC2) ⟨q_ml_RX2_213, q_im_X2_digestEvents, q_sel_X2_digestEvents, q_ini_RX2, q_code_X2_digestEvents⟩ hv_X2_digestEvents (CP.rec hK hP) hP ⟨by decide, by decide⟩ ⟨Nat.zero_le _, Nat.zero_le _⟩ rfl hl.1 rfl (Nat.le_of_ble_eq_true rfl) dX2_digest_87) hS (fA_mono hS.1) (fun r_87 H1 locs1 hq hz1 hk1 hS => ?_)
              obtain ⟨hr9, hP⟩ := hq
              rw [hF0] at hr9
              exact e_Wl (r := r_87) hx hb hr hlk hS (by omega) (by omega) ⟨F2, A2, E2, hrf, (by rw [hr9]; unfold dgC; rw [show F 0 = v by omega, ← g2]; rfl), hP⟩ dX2_digest_90
            · skip
              refine lv_lload_n hx hb dX2_digest_40 rfl (lv_at hl 1 rfl) ?_
              refine lv_aload_n hx hb dX2_digest_41 rfl (lv_at hl 2 rfl) ?_
              refine zs_get hx hb hK hts hown hP 0 (by decide) q_fl_RX2_11 (v := .ref (ad 1)) rfl dX2_digest_42 ?_
              refine lv_iload_n hx hb dX2_digest_45 rfl (lv_at hl 0 rfl) ?_
              refine zs_aV hx hb hK hP (i := v) (by omega) dX2_digest_46 ?_
              have hV_v : VP G (vad ad (v)) (T (v)) (P (v)) (S (v)) (Av (v)) (Fv (v)) H := CP.voice hP (v) (by omega)
              have hvi := hvi (by omega)
              refine k_Wl (c_SW (As := [.long (d2), .ref (vad ad (v) 0)]) (rest := []) ⟨hx, hb, hml, hown, hts⟩ hG hS hA (c_X2_digestVoice l G (vad ad (v)) (T (v)) (P (v)) (S (v)) (Av (v)) (Fv (v)) d2 H.size (by omega)) ⟨q_ml_RX2_206, q_st_X2_digestVoice, q_ini_RX2, q_code_X2_digestVoice⟩ hs_X2_digestVoice hV_v ⟨by decide, by decide⟩ ⟨Nat.zero_le _, Nat.zero_le _⟩ rfl hl.1 rfl (Nat.le_of_ble_eq_true rfl) dX2_digest_47) hS (fA_v (by omega) hS.1) (fun r_47 H1 locs1 hq hz1 hk1 hS => ?_)
              have hr9 := hq.1
              have hP := CP.putF hP v (by omega) hq.2 hk1
              rw [show zV T v (T v) = T from zV_id T v, show zV P v (P v) = P from zV_id P v, show zV S v (S v) = S from zV_id S v, show zV Av v (Av v) = Av from zV_id Av v, show zV Fv v (Fv v) = Fv from zV_id Fv v] at hP
              refine lv_lstore_n (lv' := [(1, .long (r_47)), (3, .int (zI (v))), (0, .ref (ad 0))]) hx hb dX2_digest_50 rfl hl (by decide) rfl (fun ls hl => ?_)
              refine z_iinc (lv' := [(3, .int (zI (v + 1))), (1, .long (r_47)), (0, .ref (ad 0))]) hx hb dX2_digest_51 hl (k := 1) rfl (by decide) rfl (fun ls hl => ?_)
              refine lv_goto (tgt := 32) hx hb dX2_digest_54 (by decide) ?_
              exact ih (v + 1) _ (by omega) (by omega) (by rw [show dvC F T Fv (v + 1) = dcF (T v) (dc7 (Fv v) (dvC F T Fv v) 7) (Fv v 0) from pf_s _ _ g0, ← g2]; exact hr9) (by omega) H1 _ hP hS _ (lv_sub hl [0, 1, 2] rfl)
        exact lp_32 5 0 d (by omega) (by omega) (by rw [h2, show w = 5 by omega]; rfl) (by omega) H _ hP hS _ (lv_sub hl [0, 1, 2] rfl)
      · skip
        refine lv_lload_n hx hb dX2_digest_11 rfl (lv_at hl 1 rfl) ?_
        refine lv_ldc2 hx hb hown (hts _ q_k_RX2_201) dX2_digest_12 ?_
        refine lv_lmul hx hb dX2_digest_15 ?_
        refine lv_aload_n hx hb dX2_digest_16 rfl (lv_at hl 2 rfl) ?_
        refine lv_iload_n hx hb dX2_digest_17 rfl (lv_at hl 0 rfl) ?_
        refine k_Wi (c_VW (As := [.int (zI (w))]) (rest := [.long ((d) * (31))]) ⟨hx, hb, hml, hown, hts⟩ hG hS hA (c_X2_score9 l G ad F A E T P S Av Fv w H.size (by omega) hVT hVC) ⟨q_ml_RX2_203, q_im_X2_score, q_sel_X2_score, q_ini_RX2, q_code_X2_score⟩ hv_X2_score (CP.rec hK hP) hP ⟨by decide, by decide⟩ ⟨Nat.zero_le _, Nat.zero_le _⟩ rfl hl.1 rfl (Nat.le_of_ble_eq_true rfl) dX2_digest_18) hS (fA_mono hS.1) (fun r_18 H1 locs1 hq hz1 hk1 hS => ?_)
        obtain ⟨hr9, hP⟩ := hq
        refine lv_i2l (v := (zI (r_18)).toInt64) hx hb dX2_digest_21 rfl ?_
        refine lv_ladd hx hb dX2_digest_22 ?_
        refine lv_lstore_n (lv' := [(1, .long (((d) * (31)) + ((zI (r_18)).toInt64))), (3, .int (zI (w))), (0, .ref (ad 0))]) hx hb dX2_digest_23 rfl hl (by decide) rfl (fun ls hl => ?_)
        refine z_iinc (lv' := [(3, .int (zI (w + 1))), (1, .long (((d) * (31)) + ((zI (r_18)).toInt64))), (0, .ref (ad 0))]) hx hb dX2_digest_24 hl (k := 1) rfl (by decide) rfl (fun ls hl => ?_)
        refine lv_goto (tgt := 6) hx hb dX2_digest_27 (by decide) ?_
        exact ih (w + 1) _ (by omega) (by omega) (by rw [show dsC F T Fv (w + 1) = dA (dsC F T Fv w) (scC F T Fv w) from pf_s _ _ h0, ← h2, ← hr9]; rfl) (by omega) H1 _ hP hS _ (lv_sub hl [0, 1, 2] rfl)
  exact lp_6 6 0 389 (by omega) (by omega) rfl (by omega) s.heap _ hP hS _ (lv_sub hl [0, 1, 2] rfl)
