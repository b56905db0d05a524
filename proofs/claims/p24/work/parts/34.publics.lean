set_option maxHeartbeats 2000000 in
theorem c_X2_pitch (l : Launch) (G : zG) (ad : Nat → Nat) (F : Nat → Int) (A E : Nat → Int → Int) (T P S Av : Int → Nat → Int → Int) (Fv : Int → Nat → Int) (v i w : Int) (sz : Nat) (hst : l.stackTraces = false) (r_v : -2147483648 ≤ v ∧ v ≤ 2147483647) (r_i : -2147483648 ≤ i ∧ i ≤ 2147483647) (r_w : -2147483648 ≤ w ∧ w ≤ 2147483647) (hVo : ∀ v, 0 ≤ v → v < 4 → VOK (T v) (P v) (Fv v 0)) (hVC : COK F Fv) : MX l yX2_pitch cX2_pitch 4 (some .int) 8 133 (3) (18) G [.ref (ad 0), .int (zI (v)), .int (zI (i)), .int (zI (w))] (fA 94 ad sz) sz (CP G ad F A E T P S Av Fv) (QW (fA 94 ad sz) (fun r H => r = P v w.toNat i ∧ (0 ≤ v ∧ v < F 0 ∧ 0 ≤ i ∧ i < Fv v 0 ∧ 0 ≤ w ∧ w < 3) ∧ ¬ T v 4 i = -1 ∧ CP G ad F A E T P S Av Fv H)) (fun E9 H => ((E9 = xIO ∧ ¬ (0 ≤ v ∧ v < F 0 ∧ 0 ≤ i ∧ i < Fv v 0 ∧ 0 ≤ w ∧ w < 3)) ∨ (E9 = xIS ∧ (0 ≤ v ∧ v < F 0 ∧ 0 ≤ i ∧ i < Fv v 0 ∧ 0 ≤ w ∧ w < 3) ∧ T v 4 i = -1)) ∧ CP G ad F A E T P S Av Fv H) := by
  refine mx_of hp_X2_pitch (Nat.le_of_ble_eq_true rfl) ?_
  intro p env s m below meth c ls hB hnt hsz hP hl
  obtain ⟨hx, hb, hml, hr, hlk, hown, hts, hG⟩ := hB
  subst hsz
  have hK := hG.1
  have hS : va_S (fA 94 ad s.heap.size) s.heap s.heap [] := va_S.rf
  have hA : ∀ q : Nat, (fA 94 ad s.heap.size) q → G.2.2 ≤ q := fA_lo hP.1.2 hG.2.1
  have hD : ∀ k, k < 94 → (fA 94 ad s.heap.size) (ad k) := fun k hk => fA_in hk
  have hl : lv_has ls 4 [(0, .ref (ad 0)), (1, .int (zI (v))), (2, .int (zI (i))), (3, .int (zI (w)))] := hl
  have h0b := hVC.1
  refine lv_aload_n hx hb dX2_pitch_0 rfl (lv_at hl 0 rfl) ?_
  refine lv_iload_n hx hb dX2_pitch_1 rfl (lv_at hl 1 rfl) ?_
  refine lv_iload_n hx hb dX2_pitch_2 rfl (lv_at hl 2 rfl) ?_
  refine k_Xv (c_VX (As := [.int (zI (v)), .int (zI (i))]) (rest := []) ⟨hx, hb, hml, hown, hts⟩ hG hS hA (c_X2_requireElement l G ad F A E T P S Av Fv v i s.heap.size hst (show -2147483648 ≤ v ∧ v ≤ 2147483647 by omega) (show -2147483648 ≤ i ∧ i ≤ 2147483647 by omega) hVC) ⟨q_ml_RX2_127, q_im_X2_requireElement, q_sel_X2_requireElement, q_ini_RX2, q_code_X2_requireElement⟩ hv_X2_requireElement (CP.rec hK hP) hP ⟨Nat.le_of_ble_eq_true rfl, Nat.le_of_ble_eq_true rfl⟩ ⟨Nat.le_of_ble_eq_true rfl, Nat.le_of_ble_eq_true rfl⟩ rfl hl.1 rfl (Nat.le_of_ble_eq_true rfl) dX2_pitch_3) hS (fA_mono hS.1) (fun H1 locs1 hq hz1 hk1 hS => ?_) (fun E9 H1 locs1 q9 ce hq hz1 hk1 hS hce hcv hcl => x_out hnt hlk hce hcv hcl hS (by obtain ⟨hE, hC⟩ := hq; refine ⟨?_, hC⟩; obtain ⟨rfl, hE2⟩ := hE; first | exact Or.inl ⟨rfl, by omega⟩ | exact Or.inr ⟨rfl, by omega⟩) (by first | exact Nat.le_of_ble_eq_true rfl | omega) (by first | exact Nat.le_of_ble_eq_true rfl | omega))
  obtain ⟨hv9, hP⟩ := hq
  have hvi := hVC.2 v (by omega) (by omega)
  have hvv := (hVo v (by omega) (by omega)).2.2.1 i (by omega) (by omega)
  refine lv_iload_n hx hb dX2_pitch_6 rfl (lv_at hl 3 rfl) ?_
  refine z_if_lt (a := w) (tgt := 15) hx hb dX2_pitch_7 (by decide) (by omega) (fun h_7 => ?_) (fun h_7 => ?_)
  · skip
    exact z_thrIO hx hb hst hown hts hG hnt hS hA (text := "no such number of a pitch") (is := 141) (by decide +kernel) dX2_pitch_15 dX2_pitch_18 dX2_pitch_19 dX2_pitch_21 dX2_pitch_24 (hl.1.trans hml.symm) ⟨by decide, by decide, by (show 0 + (2) + 1 ≤ _; first | exact Nat.le_of_ble_eq_true rfl | omega), by (show 0 + (12) + 6 ≤ _; first | exact Nat.le_of_ble_eq_true rfl | omega)⟩ hlk (fun H1 q1 q2 => ⟨(by first | exact Or.inl ⟨rfl, by omega⟩ | exact Or.inr ⟨rfl, by omega⟩), hP.grow q2⟩) (by first | exact Nat.le_of_ble_eq_true rfl | omega) (by first | exact Nat.le_of_ble_eq_true rfl | omega)
  · skip
    refine lv_iload_n hx hb dX2_pitch_10 rfl (lv_at hl 3 rfl) ?_
    refine z_iconst hx hb dX2_pitch_11 ?_
    refine z_icmp_lt (a := w) (b := 3) (tgt := 25) hx hb dX2_pitch_12 (by decide) (by omega) (by omega) (fun h_12 => ?_) (fun h_12 => ?_)
    · skip
      refine lv_aload_n hx hb dX2_pitch_25 rfl (lv_at hl 0 rfl) ?_
      refine zs_get hx hb hK hts hown hP 0 (by decide) q_fl_RX2_11 (v := .ref (ad 1)) rfl dX2_pitch_26 ?_
      refine lv_iload_n hx hb dX2_pitch_29 rfl (lv_at hl 1 rfl) ?_
      refine zs_aV hx hb hK hP (i := v) (by omega) dX2_pitch_30 ?_
      have hV_v : VP G (vad ad (v)) (T (v)) (P (v)) (S (v)) (Av (v)) (Fv (v)) H1 := CP.voice hP (v) (by omega)
      refine lv_iload_n hx hb dX2_pitch_31 rfl (lv_at hl 2 rfl) ?_
      refine k_R (c_VR (As := [.int (zI (i))]) (rest := []) ⟨hx, hb, hml, hown, hts⟩ hG hS hA (c_X1_isNote l G (vad ad (v)) (T (v)) (P (v)) (S (v)) (Av (v)) (Fv (v)) i (show 0 ≤ i ∧ i < 200 by omega) (show -2147483648 ≤ (T (v)) 4 i ∧ (T (v)) 4 i ≤ 2147483647 by omega)) ⟨q_ml_RX2_131, q_im_X1_isNote, q_sel_X1_isNote, q_ini_RX1, q_code_X1_isNote⟩ hv_X1_isNote (VP.rec hK hV_v) hV_v ⟨Nat.le_of_ble_eq_true rfl, Nat.le_of_ble_eq_true rfl⟩ ⟨Nat.le_of_ble_eq_true rfl, Nat.le_of_ble_eq_true rfl⟩ rfl hl.1 rfl (Nat.le_of_ble_eq_true rfl) dX2_pitch_32) ?_
      refine z_bif_ne (q := ¬ (T (v)) 4 i = -1) (tgt := 48) hx hb dX2_pitch_35 (by decide) (fun h_35 => ?_) (fun h_35 => ?_)
      · skip
        refine lv_aload_n hx hb dX2_pitch_48 rfl (lv_at hl 0 rfl) ?_
        refine zs_get hx hb hK hts hown hP 0 (by decide) q_fl_RX2_11 (v := .ref (ad 1)) rfl dX2_pitch_49 ?_
        refine lv_iload_n hx hb dX2_pitch_52 rfl (lv_at hl 1 rfl) ?_
        refine zs_aV hx hb hK hP (i := v) (by omega) dX2_pitch_53 ?_
        have hV_v : VP G (vad ad (v)) (T (v)) (P (v)) (S (v)) (Av (v)) (Fv (v)) H1 := CP.voice hP (v) (by omega)
        refine zv_get hx hb hK hts hown hV_v 1 (by decide) q_fl_RX2_143 (v := .ref ((vad ad (v)) 11)) rfl dX2_pitch_54 ?_
        refine lv_iload_n hx hb dX2_pitch_57 rfl (lv_at hl 3 rfl) ?_
        refine zv_aP hx hb hK hV_v ((w).toNat) (by omega) (i := w) (by omega) dX2_pitch_58 ?_
        refine lv_iload_n hx hb dX2_pitch_59 rfl (lv_at hl 2 rfl) ?_
        refine zv_lP hx hb hK hV_v ((w).toNat) (by omega) (i := i) (by omega) dX2_pitch_60 ?_
        exact vx_ret (e_Wi (r := (P (v)) ((w).toNat) (i)) hx hb hr hlk (n_i _) hS (by omega) (by omega) ⟨rfl, by omega, by omega, hP⟩ dX2_pitch_61)
      · skip
        exact z_thrIS hx hb hst hown hts hG hnt hS hA (text := "the element is a rest") (is := 134) (by decide +kernel) dX2_pitch_38 dX2_pitch_41 dX2_pitch_42 dX2_pitch_44 dX2_pitch_47 (hl.1.trans hml.symm) ⟨by decide, by decide, by (show 0 + (2) + 1 ≤ _; first | exact Nat.le_of_ble_eq_true rfl | omega), by (show 0 + (12) + 6 ≤ _; first | exact Nat.le_of_ble_eq_true rfl | omega)⟩ hlk (fun H1 q1 q2 => ⟨(by first | exact Or.inl ⟨rfl, by omega⟩ | exact Or.inr ⟨rfl, by omega⟩), hP.grow q2⟩) (by first | exact Nat.le_of_ble_eq_true rfl | omega) (by first | exact Nat.le_of_ble_eq_true rfl | omega)
    · skip
      exact z_thrIO hx hb hst hown hts hG hnt hS hA (text := "no such number of a pitch") (is := 141) (by decide +kernel) dX2_pitch_15 dX2_pitch_18 dX2_pitch_19 dX2_pitch_21 dX2_pitch_24 (hl.1.trans hml.symm) ⟨by decide, by decide, by (show 0 + (2) + 1 ≤ _; first | exact Nat.le_of_ble_eq_true rfl | omega), by (show 0 + (12) + 6 ≤ _; first | exact Nat.le_of_ble_eq_true rfl | omega)⟩ hlk (fun H1 q1 q2 => ⟨(by first | exact Or.inl ⟨rfl, by omega⟩ | exact Or.inr ⟨rfl, by omega⟩), hP.grow q2⟩) (by first | exact Nat.le_of_ble_eq_true rfl | omega) (by first | exact Nat.le_of_ble_eq_true rfl | omega)
theorem tAtC_rng {T P : Nat → Int → Int} {n : Int} (h : VOK T P n) (x : Int) : -1 ≤ tAt (T 0) (T 1) (T 4) n x ∧ tAt (T 0) (T 1) (T 4) n x ≤ 1000 := by
  have q := fp_le (q := fun i => T 0 i ≤ x ∧ x < T 0 i + T 1 i) h.1
  unfold tAt
  split
  · have r := h.2.2.1 _ q.1 (by assumption)
    omega
  · omega
set_option maxHeartbeats 2000000 in
theorem c_X2_event (l : Launch) (G : zG) (ad : Nat → Nat) (F : Nat → Int) (A E : Nat → Int → Int) (T P S Av : Int → Nat → Int → Int) (Fv : Int → Nat → Int) (i w : Int) (sz : Nat) (hst : l.stackTraces = false) (r_i : -2147483648 ≤ i ∧ i ≤ 2147483647) (r_w : -2147483648 ≤ w ∧ w ≤ 2147483647) (hf4 : F 4 = 0 ∨ F 4 = 1) (hVS : ∀ v j, 0 ≤ v → v < F 0 → 0 ≤ j → j < Fv v 2 → (0 ≤ S v 0 j ∧ S v 0 j ≤ 1000000) ∧ (0 ≤ S v 1 j ∧ S v 1 j ≤ 1000000)) (hVC : COK F Fv) : MX l yX2_event cX2_event 3 (some .int) 6 133 (1) (6) G [.ref (ad 0), .int (zI (i)), .int (zI (w))] (fA 94 ad sz) sz (CP G ad F A E T P S Av Fv) (QW (fA 94 ad sz) (fun r H => (0 ≤ i ∧ i < 2 * nSou Fv (F 0) ∧ 0 ≤ w ∧ w < 4) ∧ ∃ F2 A2 E2, rfQ F A E S Fv F2 A2 E2 ∧ r = E2 w.toNat i ∧ CP G ad F2 A2 E2 T P S Av Fv H)) (fun E9 H => ((E9 = xIO ∧ ¬ (0 ≤ i ∧ i < 2 * nSou Fv (F 0) ∧ 0 ≤ w ∧ w < 4))) ∧ CP G ad F A E T P S Av Fv H) := by
  refine mx_of hp_X2_event (Nat.le_of_ble_eq_true rfl) ?_
  intro p env s m below meth c ls hB hnt hsz hP hl
  obtain ⟨hx, hb, hml, hr, hlk, hown, hts, hG⟩ := hB
  subst hsz
  have hK := hG.1
  have hS : va_S (fA 94 ad s.heap.size) s.heap s.heap [] := va_S.rf
  have hA : ∀ q : Nat, (fA 94 ad s.heap.size) q → G.2.2 ≤ q := fA_lo hP.1.2 hG.2.1
  have hD : ∀ k, k < 94 → (fA 94 ad s.heap.size) (ad k) := fun k hk => fA_in hk
  have hl : lv_has ls 3 [(0, .ref (ad 0)), (1, .int (zI (i))), (2, .int (zI (w)))] := hl
  have h0b := hVC.1
  have hns := nSou_rng hVC (n := F 0) hVC.1
  refine lv_iload_n hx hb dX2_event_0 rfl (lv_at hl 1 rfl) ?_
  refine z_if_lt (a := i) (tgt := 12) hx hb dX2_event_1 (by decide) (by omega) (fun h_1 => ?_) (fun h_1 => ?_)
  · skip
    exact z_thrIO hx hb hst hown hts hG hnt hS hA (text := "no such event") (is := 186) (by decide +kernel) dX2_event_12 dX2_event_15 dX2_event_16 dX2_event_18 dX2_event_21 (hl.1.trans hml.symm) ⟨by decide, by decide, by (show 0 + 1 ≤ _; first | exact Nat.le_of_ble_eq_true rfl | omega), by (show 0 + 6 ≤ _; first | exact Nat.le_of_ble_eq_true rfl | omega)⟩ hlk (fun H1 q1 q2 => ⟨(by first | exact ⟨rfl, by omega⟩), hP.grow q2⟩) (by first | exact Nat.le_of_ble_eq_true rfl | omega) (by first | exact Nat.le_of_ble_eq_true rfl | omega)
  · skip
    refine lv_iload_n hx hb dX2_event_4 rfl (lv_at hl 1 rfl) ?_
    refine lv_aload_n hx hb dX2_event_5 rfl (lv_at hl 0 rfl) ?_
    refine k_R (c_VR (As := []) (rest := [.int (zI (i))]) ⟨hx, hb, hml, hown, hts⟩ hG hS hA (c_X2_countEvents l G ad F A E T P S Av Fv hVC) ⟨q_ml_RX2_183, q_im_X2_countEvents, q_sel_X2_countEvents, q_ini_RX2, q_code_X2_countEvents⟩ hv_X2_countEvents (CP.rec hK hP) hP ⟨Nat.le_of_ble_eq_true rfl, Nat.le_of_ble_eq_true rfl⟩ ⟨Nat.le_of_ble_eq_true rfl, Nat.le_of_ble_eq_true rfl⟩ rfl hl.1 rfl (Nat.le_of_ble_eq_true rfl) dX2_event_6) ?_
    refine z_icmp_lt (a := i) (b := 2 * nSou Fv ((F 0))) (tgt := 22) hx hb dX2_event_9 (by decide) (by omega) (by omega) (fun h_9 => ?_) (fun h_9 => ?_)
    · skip
      refine lv_iload_n hx hb dX2_event_22 rfl (lv_at hl 2 rfl) ?_
      refine z_if_lt (a := w) (tgt := 31) hx hb dX2_event_23 (by decide) (by omega) (fun h_23 => ?_) (fun h_23 => ?_)
      · skip
        exact z_thrIO hx hb hst hown hts hG hnt hS hA (text := "no such number of an event") (is := 188) (by decide +kernel) dX2_event_31 dX2_event_34 dX2_event_35 dX2_event_37 dX2_event_40 (hl.1.trans hml.symm) ⟨by decide, by decide, by (show 0 + 1 ≤ _; first | exact Nat.le_of_ble_eq_true rfl | omega), by (show 0 + 6 ≤ _; first | exact Nat.le_of_ble_eq_true rfl | omega)⟩ hlk (fun H1 q1 q2 => ⟨(by first | exact ⟨rfl, by omega⟩), hP.grow q2⟩) (by first | exact Nat.le_of_ble_eq_true rfl | omega) (by first | exact Nat.le_of_ble_eq_true rfl | omega)
      · skip
        refine lv_iload_n hx hb dX2_event_26 rfl (lv_at hl 2 rfl) ?_
        refine z_iconst hx hb dX2_event_27 ?_
        refine z_icmp_lt (a := w) (b := 4) (tgt := 41) hx hb dX2_event_28 (by decide) (by omega) (by omega) (fun h_28 => ?_) (fun h_28 => ?_)
        · skip
          refine lv_aload_n hx hb dX2_event_41 rfl (lv_at hl 0 rfl) ?_
          refine k_Wv (c_VW (As := []) (rest := []) ⟨hx, hb, hml, hown, hts⟩ hG hS hA (c_X2_refreshEvents l G ad F A E T P S Av Fv s.heap.size hf4 hVS hVC) ⟨q_ml_RX2_190, q_im_X2_refreshEvents, q_sel_X2_refreshEvents, q_ini_RX2, q_code_X2_refreshEvents⟩ hv_X2_refreshEvents (CP.rec hK hP) hP ⟨Nat.le_of_ble_eq_true rfl, Nat.le_of_ble_eq_true rfl⟩ ⟨Nat.le_of_ble_eq_true rfl, Nat.le_of_ble_eq_true rfl⟩ rfl hl.1 rfl (Nat.le_of_ble_eq_true rfl) dX2_event_42) hS (fA_mono hS.1) (fun H1 locs1 hq hz1 hk1 hS => ?_)
          obtain ⟨F2, A2, E2, hrf, hP⟩ : ∃ F2 A2 E2, rfQ F A E S Fv F2 A2 E2 ∧ CP G ad F2 A2 E2 T P S Av Fv H1 := by
            rcases hq with ⟨q1, q2⟩ | ⟨q1, q2⟩
            · exact ⟨F, A, E, Or.inl ⟨q1, rfl, rfl, rfl⟩, q2⟩
            · exact ⟨_, _, _, Or.inr ⟨q1, rfl, rfl, rfl⟩, q2⟩
          refine lv_aload_n hx hb dX2_event_45 rfl (lv_at hl 0 rfl) ?_
          refine zs_get hx hb hK hts hown hP 1 (by decide) q_fl_RX2_18 (v := .ref (ad 2)) rfl dX2_event_46 ?_
          refine ze_get hx hb hK hts hown hP 0 (by decide) q_fl_RX2_193 (v := .ref (ad 3)) rfl dX2_event_49 ?_
          refine lv_iload_n hx hb dX2_event_52 rfl (lv_at hl 2 rfl) ?_
          refine ze_aE hx hb hK hP ((w).toNat) (by omega) (i := w) (by omega) dX2_event_53 ?_
          refine lv_iload_n hx hb dX2_event_54 rfl (lv_at hl 1 rfl) ?_
          refine ze_lE hx hb hK hP ((w).toNat) (by omega) (i := i) (by omega) dX2_event_55 ?_
          exact vx_ret (e_Wi (r := E2 ((w).toNat) (i)) hx hb hr hlk (n_i _) hS (by omega) (by omega) ⟨by omega, F2, A2, E2, hrf, rfl, hP⟩ dX2_event_56)
        · skip
          exact z_thrIO hx hb hst hown hts hG hnt hS hA (text := "no such number of an event") (is := 188) (by decide +kernel) dX2_event_31 dX2_event_34 dX2_event_35 dX2_event_37 dX2_event_40 (hl.1.trans hml.symm) ⟨by decide, by decide, by (show 0 + 1 ≤ _; first | exact Nat.le_of_ble_eq_true rfl | omega), by (show 0 + 6 ≤ _; first | exact Nat.le_of_ble_eq_true rfl | omega)⟩ hlk (fun H1 q1 q2 => ⟨(by first | exact ⟨rfl, by omega⟩), hP.grow q2⟩) (by first | exact Nat.le_of_ble_eq_true rfl | omega) (by first | exact Nat.le_of_ble_eq_true rfl | omega)
    · skip
      exact z_thrIO hx hb hst hown hts hG hnt hS hA (text := "no such event") (is := 186) (by decide +kernel) dX2_event_12 dX2_event_15 dX2_event_16 dX2_event_18 dX2_event_21 (hl.1.trans hml.symm) ⟨by decide, by decide, by (show 0 + 1 ≤ _; first | exact Nat.le_of_ble_eq_true rfl | omega), by (show 0 + 6 ≤ _; first | exact Nat.le_of_ble_eq_true rfl | omega)⟩ hlk (fun H1 q1 q2 => ⟨(by first | exact ⟨rfl, by omega⟩), hP.grow q2⟩) (by first | exact Nat.le_of_ble_eq_true rfl | omega) (by first | exact Nat.le_of_ble_eq_true rfl | omega)
def lI (x : Int) : Int64 := Int64.ofInt x
theorem lI_add (x y : Int) : lI x + lI y = lI (x + y) := (Int64.ofInt_add x y).symm
theorem lI_mul (x y : Int) : lI x * lI y = lI (x * y) := (Int64.ofInt_mul x y).symm
theorem lI_z {x : Int} (h : -2147483648 ≤ x ∧ x ≤ 2147483647) : (zI x).toInt64 = lI x := by
  rw [← Int64.toInt_inj, Int32.toInt_toInt64, zI_toInt h]
  exact (Int64.toInt_ofInt_of_le (by omega) (by omega)).symm
theorem lI_lt {x : Int} (h : -2147483648 ≤ x ∧ x ≤ 2147483647) : lI 0 < lI x ↔ 0 < x := by
  rw [Int64.lt_iff_toInt_lt]
  unfold lI
  rw [Int64.toInt_ofInt_of_le (by omega) (by omega), Int64.toInt_ofInt_of_le (by omega) (by omega)]
/-- meanTone: the tones by ticks, the ticks -/
def mnC (T : Nat → Int → Int) : Int → Int := pf 0 (fun k a => if T 4 k = -1 then a else a + T 4 k * T 1 k)
def mkC (T : Nat → Int → Int) : Int → Int := pf 0 (fun k a => if T 4 k = -1 then a else a + T 1 k)
def mnD (T : Int → Nat → Int → Int) (Fv : Int → Nat → Int) : Int → Int := pf 0 (fun v a => a + mnC (T v) (Fv v 0))
def mkD (T : Int → Nat → Int → Int) (Fv : Int → Nat → Int) : Int → Int := pf 0 (fun v a => a + mkC (T v) (Fv v 0))
