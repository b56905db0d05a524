set_option maxHeartbeats 2000000 in
theorem c_X2_pitch (l : Launch) (G : zG) (ad : Nat → Nat) (F : Nat → Int) (A E : Nat → Int → Int) (T P S Av : Int → Nat → Int → Int) (Fv : Int → Nat → Int) (v i w : Int) (sz : Nat) (hst : l.stackTraces = false) (r_v : -2147483648 ≤ v ∧ v ≤ 2147483647) (r_i : -2147483648 ≤ i ∧ i ≤ 2147483647) (r_w : -2147483648 ≤ w ∧ w ≤ 2147483647) (hVo : ∀ v, 0 ≤ v → v < 4 → VOK (T v) (P v) (Fv v 0)) (hVC : COK F Fv) : MX l yX2_pitch cX2_pitch 4 (some .int) 8 133 (3) (18) G [.ref (ad 0), .int (zI (v)), .int (zI (i)), .int (zI (w))] (fA 94 ad sz) sz (CP G ad F A E T P S Av Fv) (QW (fA 94 ad sz) (fun r H => r = P v w.toNat i ∧ (0 ≤ v ∧ v < F 0 ∧ 0 ≤ i ∧ i < Fv v 0 ∧ 0 ≤ w ∧ w < 3) ∧ ¬ T v 4 i = -1 ∧ CP G ad F A E T P S Av Fv H)) (fun E9 H => ((E9 = xIO ∧ ¬ (0 ≤ v ∧ v < F 0 ∧ 0 ≤ i ∧ i < Fv v 0 ∧ 0 ≤ w ∧ w < 3)) ∨ (E9 = xIS ∧ (0 ≤ v ∧ v < F 0 ∧ 0 ≤ i ∧ i < Fv v 0 ∧ 0 ≤ w ∧ w < 3) ∧ T v 4 i = -1)) ∧ CP G ad F A E T P S Av Fv H) := by
  refine mx_of hp_X2_pitch (Nat.le_of_ble_eq_true rfl) ?_
  intro p env s m below meth c ls hB hnt hsz hP hl
  obtain ⟨hx, hb, hml, hr, hlk, hown, hts, hG⟩ := hB
  subst hsz
  have hK := hG.1
  have hS : va_S (fA 94 ad s.heap.size) s.heap s.heap [] := va_S.rf
  have hA : ∀ q : Nat, (fA 94 ad s.heap.size) q → G.2.2 ≤ q := fA_lo hP.1.2 hG.2.1
  have hD : ∀ k, k < 94 → (fA 94 ad s.heap.size) (ad k) := fun k hk => fA_in hk
  have hl : lv_has ls 4 [(0, .ref (ad 0)), (1, .int (zI (v))), (2, .int (zI (i))), (3, .int (zI (w)))] := hl
  have h0b := hVC.1
  refine lv_aload_n hx hb dX2_pitch_0 rfl (lv_at hl 0 rfl) ?_
  refine lv_iload_n hx hb dX2_pitch_1 rfl (lv_at hl 1 rfl) ?_
  refine lv_iload_n hx hb dX2_pitch_2 rfl (lv_at hl 2 rfl) ?_
  refine k_Xv (c_VX (As := [.int (zI (v)), .int (zI (i))]) (rest := []) ⟨hx, hb, hml, hown, hts⟩ hG hS hA (c_X2_requireElement l G ad F A E T P S Av Fv v i s.heap.size hst (show -2147483648 ≤ v ∧ v ≤ 2147483647 by omega) (show -2147483648 ≤ i ∧ i ≤ 2147483647 by omega) hVC) ⟨q_ml_RX2_127, q_im_X2_requireElement, q_sel_X2_requireElement, q_ini_RX2, q_code_X2_requireElement⟩ hv_X2_requireElement (CP.rec hK hP) hP ⟨Nat.le_of_ble_eq_true rfl, Nat.le_of_ble_eq_true rfl⟩ ⟨Nat.le_of_ble_eq_true rfl, Nat.le_of_ble_eq_true rfl⟩ rfl hl.1 rfl (Nat.le_of_ble_eq_true rfl) dX2_pitch_3) hS (fA_mono hS.1) (fun H1 locs1 hq hz1 hk1 hS => ?_) (fun E9 H1 locs1 q9 ce hq hz1 hk1 hS hce hcv hcl => x_out hnt hlk hce hcv hcl hS (by obtain ⟨hE, hC⟩ := hq; refine ⟨?_, hC⟩; obtain ⟨rfl, hE2⟩ := hE; first | exact Or.inl ⟨rfl, by omega⟩ | exact Or.inr ⟨rfl, by omega⟩) (by first | exact Nat.le_of_ble_eq_true rfl | omega) (by first | exact Nat.le_of_ble_eq_true rfl | omega))
  obtain ⟨hv9, hP⟩ := hq
  have hvi := hVC.2 v (by omega) (by omega)
  have hvv := (hVo v (by omega) (by omega)).2.2.1 i (by omega) (by omega)
  refine lv_iload_n hx hb dX2_pitch_6 rfl (lv_at hl 3 rfl) ?_
  refine z_if_lt (a := w) (tgt := 15) hx hb dX2_pitch_7 (by decide) (by omega) (fun h_7 => ?_) (fun h_7 => ?_)
  · skip
    exact z_thrIO hx hb hst hown hts hG hnt hS hA (text := "no such number of a pitch") (is := 141) (by decide +kernel) dX2_pitch_15 dX2_pitch_18 dX2_pitch_19 dX2_pitch_21 dX2_pitch_24 (hl.1.trans hml.symm) ⟨by decide, by decide, by (show 0 + (2) + 1 ≤ _; first | exact Nat.le_of_ble_eq_true rfl | omega), by (show 0 + (12) + 6 ≤ _; first | exact Nat.le_of_ble_eq_true rfl | omega)⟩ hlk (fun H1 q1 q2 => ⟨(by first | exact Or.inl ⟨rfl, by omega⟩ | exact Or.inr ⟨rfl, by omega⟩), hP.grow q2⟩) (by first | exact Nat.le_of_ble_eq_true rfl | omega) (by first | exact Nat.le_of_ble_eq_true rfl | omega)
  · skip
    refine lv_iload_n hx hb dX2_pitch_10 rfl (lv_at hl 3 rfl) ?_
    refine z_iconst hx hb dX2_pitch_11 ?_
    refine z_icmp_lt (a := w) (b := 3) (tgt := 25) hx hb dX2_pitch_12 (by decide) (by omega) (by omega) (fun h_12 => ?_) (fun h_12 => ?_)
    · skip
      refine lv_aload_n hx hb dX2_pitch_25 rfl (lv_at hl 0 rfl) ?_
      refine zs_get hx hb hK hts hown hP 0 (by decide) q_fl_RX2_11 (v := .ref (ad 1)) rfl dX2_pitch_26 ?_
      refine lv_iload_n hx hb dX2_pitch_29 rfl (lv_at hl 1 rfl) ?_
      refine zs_aV hx hb hK hP (i := v) (by omega) dX2_pitch_30 ?_
      have hV_v : VP G (vad ad (v)) (T (v)) (P (v)) (S (v)) (Av (v)) (Fv (v)) H1 := CP.voice hP (v) (by omega)
      refine lv_iload_n hx hb dX2_pitch_31 rfl (lv_at hl 2 rfl) ?_
      refine k_R (c_VR (As := [.int (zI (i))]) (rest := []) ⟨hx, hb, hml, hown, hts⟩ hG hS hA (c_X1_isNote l G (vad ad (v)) (T (v)) (P (v)) (S (v)) (Av (v)) (Fv (v)) i (show 0 ≤ i ∧ i < 200 by omega) (show -2147483648 ≤ (T (v)) 4 i ∧ (T (v)) 4 i ≤ 2147483647 by omega)) ⟨q_ml_RX2_131, q_im_X1_isNote, q_sel_X1_isNote, q_ini_RX1, q_code_X1_isNote⟩ hv_X1_isNote (VP.rec hK hV_v) hV_v ⟨Nat.le_of_ble_eq_true rfl, Nat.le_of_ble_eq_true rfl⟩ ⟨Nat.le_of_ble_eq_true rfl, Nat.le_of_ble_eq_true rfl⟩ rfl hl.1 rfl (Nat.le_of_ble_eq_true rfl) dX2_pitch_32) ?_
      refine z_bif_ne (q := ¬ (T (v)) 4 i = -1) (tgt := 48) hx hb dX2_pitch_35 (by decide) (fun h_35 => ?_) (fun h_35 => ?_)
      · skip
        refine lv_aload_n hx hb dX2_pitch_48 rfl (lv_at hl 0 rfl) ?_
        refine zs_get hx hb hK hts hown hP 0 (by decide) q_fl_RX2_11 (v := .ref (ad 1)) rfl dX2_pitch_49 ?_
        refine lv_iload_n hx hb dX2_pitch_52 rfl (lv_at hl 1 rfl) ?_
        refine zs_aV hx hb hK hP (i := v) (by omega) dX2_pitch_53 ?_
        have hV_v : VP G (vad ad (v)) (T (v)) (P (v)) (S (v)) (Av (v)) (Fv (v)) H1 := CP.voice hP (v) (by omega)
        refine zv_get hx hb hK hts hown hV_v 1 (by decide) q_fl_RX2_143 (v := .ref ((vad ad (v)) 11)) rfl dX2_pitch_54 ?_
        refine lv_iload_n hx hb dX2_pitch_57 rfl (lv_at hl 3 rfl) ?_
        refine zv_aP hx hb hK hV_v ((w).toNat) (by omega) (i := w) (by omega) dX2_pitch_58 ?_
        refine lv_iload_n hx hb dX2_pitch_59 rfl (lv_at hl 2 rfl) ?_
        refine zv_lP hx hb hK hV_v ((w).toNat) (by omega) (i := i) (by omega) dX2_pitch_60 ?_
        exact vx_ret (e_Wi (r := (P (v)) ((w).toNat) (i)) hx hb hr hlk (n_i _) hS (by omega) (by omega) ⟨rfl, by omega, by omega, hP⟩ dX2_pitch_61)
      · skip
        exact z_thrIS hx hb hst hown hts hG hnt hS hA (text := "the element is a rest") (is := 134) (by decide +kernel) dX2_pitch_38 dX2_pitch_41 dX2_pitch_42 dX2_pitch_44 dX2_pitch_47 (hl.1.trans hml.symm) ⟨by decide, by decide, by (show 0 + (2) + 1 ≤ _; first | exact Nat.le_of_ble_eq_true rfl | omega), by (show 0 + (12) + 6 ≤ _; first | exact Nat.le_of_ble_eq_true rfl | omega)⟩ hlk (fun H1 q1 q2 => ⟨(by first | exact Or.inl ⟨rfl, by omega⟩ | exact Or.inr ⟨rfl, by omega⟩), hP.grow q2⟩) (by first | exact Nat.le_of_ble_eq_true rfl | omega) (by first | exact Nat.le_of_ble_eq_true rfl | omega)
    · skip
      exact z_thrIO hx hb hst hown hts hG hnt hS hA (text := "no such number of a pitch") (is := 141) (by decide +kernel) dX2_pitch_15 dX2_pitch_18 dX2_pitch_19 dX2_pitch_21 dX2_pitch_24 (hl.1.trans hml.symm) ⟨by decide, by decide, by (show 0 + (2) + 1 ≤ _; first | exact Nat.le_of_ble_eq_true rfl | omega), by (show 0 + (12) + 6 ≤ _; first | exact Nat.le_of_ble_eq_true rfl | omega)⟩ hlk (fun H1 q1 q2 => ⟨(by first | exact Or.inl ⟨rfl, by omega⟩ | exact Or.inr ⟨rfl, by omega⟩), hP.grow q2⟩) (by first | exact Nat.le_of_ble_eq_true rfl | omega) (by first | exact Nat.le_of_ble_eq_true rfl | omega)
theorem tAtC_rng {T P : Nat → Int → Int} {n : Int} (h : VOK T P n) (x : Int) : -1 ≤ tAt (T 0) (T 1) (T 4) n x ∧ tAt (T 0) (T 1) (T 4) n x ≤ 1000 := by
  have q := fp_le (q := fun i => T 0 i ≤ x ∧ x < T 0 i + T 1 i) h.1
  unfold tAt
  split
  · have r := h.2.2.1 _ q.1 (by assumption)
    omega
  · omega
set_option maxHeartbeats 2000000 in
theorem c_X2_interval (l : Launch) (G : zG) (ad : Nat → Nat) (F : Nat → Int) (A E : Nat → Int → Int) (T P S Av : Int → Nat → Int → Int) (Fv : Int → Nat → Int) (a b t : Int) (sz : Nat) (hst : l.stackTraces = false) (r_a : -2147483648 ≤ a ∧ a ≤ 2147483647) (r_b : -2147483648 ≤ b ∧ b ≤ 2147483647) (r_t : -2147483648 ≤ t ∧ t ≤ 2147483647) (hVo : ∀ v, 0 ≤ v → v < 4 → VOK (T v) (P v) (Fv v 0)) (hVC : COK F Fv) : MX l yX2_interval cX2_interval 6 (some .int) 7 111 (3) (18) G [.ref (ad 0), .int (zI (a)), .int (zI (b)), .int (zI (t))] (fA 94 ad sz) sz (CP G ad F A E T P S Av Fv) (QW (fA 94 ad sz) (fun r H => r = (if tAt (T a 0) (T a 1) (T a 4) (Fv a 0) t = -1 ∨ tAt (T b 0) (T b 1) (T b 4) (Fv b 0) t = -1 then -100 else tAt (T b 0) (T b 1) (T b 4) (Fv b 0) t - tAt (T a 0) (T a 1) (T a 4) (Fv a 0) t) ∧ (0 ≤ a ∧ a < F 0 ∧ 0 ≤ b ∧ b < F 0) ∧ 0 ≤ t ∧ CP G ad F A E T P S Av Fv H)) (fun E9 H => ((E9 = xIO ∧ ¬ (0 ≤ a ∧ a < F 0 ∧ 0 ≤ b ∧ b < F 0)) ∨ (E9 = xIA ∧ (0 ≤ a ∧ a < F 0 ∧ 0 ≤ b ∧ b < F 0) ∧ t < 0)) ∧ CP G ad F A E T P S Av Fv H) := by
  refine mx_of hp_X2_interval (Nat.le_of_ble_eq_true rfl) ?_
  intro p env s m below meth c ls hB hnt hsz hP hl
  obtain ⟨hx, hb, hml, hr, hlk, hown, hts, hG⟩ := hB
  subst hsz
  have hK := hG.1
  have hS : va_S (fA 94 ad s.heap.size) s.heap s.heap [] := va_S.rf
  have hA : ∀ q : Nat, (fA 94 ad s.heap.size) q → G.2.2 ≤ q := fA_lo hP.1.2 hG.2.1
  have hD : ∀ k, k < 94 → (fA 94 ad s.heap.size) (ad k) := fun k hk => fA_in hk
  have hl : lv_has ls 6 [(0, .ref (ad 0)), (1, .int (zI (a))), (2, .int (zI (b))), (3, .int (zI (t)))] := hl
  have h0b := hVC.1
  refine lv_aload_n hx hb dX2_interval_0 rfl (lv_at hl 0 rfl) ?_
  refine lv_iload_n hx hb dX2_interval_1 rfl (lv_at hl 1 rfl) ?_
  refine k_Xv (c_VX (As := [.int (zI (a))]) (rest := []) ⟨hx, hb, hml, hown, hts⟩ hG hS hA (c_X2_requireVoice l G ad F A E T P S Av Fv a s.heap.size hst (show -2147483648 ≤ a ∧ a ≤ 2147483647 by omega) hVC) ⟨q_ml_RX2_93, q_im_X2_requireVoice, q_sel_X2_requireVoice, q_ini_RX2, q_code_X2_requireVoice⟩ hv_X2_requireVoice (CP.rec hK hP) hP ⟨Nat.le_of_ble_eq_true rfl, Nat.le_of_ble_eq_true rfl⟩ ⟨Nat.le_of_ble_eq_true rfl, Nat.le_of_ble_eq_true rfl⟩ rfl hl.1 rfl (Nat.le_of_ble_eq_true rfl) dX2_interval_2) hS (fA_mono hS.1) (fun H1 locs1 hq hz1 hk1 hS => ?_) (fun E9 H1 locs1 q9 ce hq hz1 hk1 hS hce hcv hcl => x_out hnt hlk hce hcv hcl hS (by obtain ⟨hE, hC⟩ := hq; refine ⟨?_, hC⟩; obtain ⟨rfl, hE2⟩ := hE; first | exact Or.inl ⟨rfl, by omega⟩ | exact Or.inr ⟨rfl, by omega⟩) (by first | exact Nat.le_of_ble_eq_true rfl | omega) (by first | exact Nat.le_of_ble_eq_true rfl | omega))
  obtain ⟨hv1, hP⟩ := hq
  have htra := tAtC_rng (hVo a (by omega) (by omega)) t
  refine lv_aload_n hx hb dX2_interval_5 rfl (lv_at hl 0 rfl) ?_
  refine lv_iload_n hx hb dX2_interval_6 rfl (lv_at hl 2 rfl) ?_
  refine k_Xv (c_VX (As := [.int (zI (b))]) (rest := []) ⟨hx, hb, hml, hown, hts⟩ hG hS hA (c_X2_requireVoice l G ad F A E T P S Av Fv b H1.size hst (show -2147483648 ≤ b ∧ b ≤ 2147483647 by omega) hVC) ⟨q_ml_RX2_93, q_im_X2_requireVoice, q_sel_X2_requireVoice, q_ini_RX2, q_code_X2_requireVoice⟩ hv_X2_requireVoice (CP.rec hK hP) hP ⟨Nat.le_of_ble_eq_true rfl, Nat.le_of_ble_eq_true rfl⟩ ⟨Nat.le_of_ble_eq_true rfl, Nat.le_of_ble_eq_true rfl⟩ rfl hl.1 rfl (Nat.le_of_ble_eq_true rfl) dX2_interval_7) hS (fA_mono hS.1) (fun H1 locs1 hq hz1 hk1 hS => ?_) (fun E9 H1 locs1 q9 ce hq hz1 hk1 hS hce hcv hcl => x_out hnt hlk hce hcv hcl hS (by obtain ⟨hE, hC⟩ := hq; refine ⟨?_, hC⟩; obtain ⟨rfl, hE2⟩ := hE; first | exact Or.inl ⟨rfl, by omega⟩ | exact Or.inr ⟨rfl, by omega⟩) (by first | exact Nat.le_of_ble_eq_true rfl | omega) (by first | exact Nat.le_of_ble_eq_true rfl | omega))
  obtain ⟨hv2, hP⟩ := hq
  have htrb := tAtC_rng (hVo b (by omega) (by omega)) t
  refine lv_iload_n hx hb dX2_interval_10 rfl (lv_at hl 3 rfl) ?_
  refine z_if_ge (a := t) (tgt := 24) hx hb dX2_interval_11 (by decide) (by omega) (fun h_11 => ?_) (fun h_11 => ?_)
  · skip
    refine lv_aload_n hx hb dX2_interval_24 rfl (lv_at hl 0 rfl) ?_
    refine zs_get hx hb hK hts hown hP 0 (by decide) q_fl_RX2_11 (v := .ref (ad 1)) rfl dX2_interval_25 ?_
    refine lv_iload_n hx hb dX2_interval_28 rfl (lv_at hl 1 rfl) ?_
    refine zs_aV hx hb hK hP (i := a) (by omega) dX2_interval_29 ?_
    have hV_a : VP G (vad ad (a)) (T (a)) (P (a)) (S (a)) (Av (a)) (Fv (a)) H1 := CP.voice hP (a) (by omega)
    refine lv_iload_n hx hb dX2_interval_30 rfl (lv_at hl 3 rfl) ?_
    refine k_R (c_VR (As := [.int (zI (t))]) (rest := []) ⟨hx, hb, hml, hown, hts⟩ hG hS hA (c_X1_toneAt l G (vad ad (a)) (T (a)) (P (a)) (S (a)) (Av (a)) (Fv (a)) t (by omega) (hVo a (by omega) (by omega))) ⟨q_ml_RX2_180, q_im_X1_toneAt, q_sel_X1_toneAt, q_ini_RX1, q_code_X1_toneAt⟩ hv_X1_toneAt (VP.rec hK hV_a) hV_a ⟨Nat.le_of_ble_eq_true rfl, Nat.le_of_ble_eq_true rfl⟩ ⟨Nat.le_of_ble_eq_true rfl, Nat.le_of_ble_eq_true rfl⟩ rfl hl.1 rfl (Nat.le_of_ble_eq_true rfl) dX2_interval_31) ?_
    refine lv_istore (lv' := [(4, .int (zI (tAt ((T (a)) 0) ((T (a)) 1) ((T (a)) 4) (((Fv (a)) 0)) t))), (0, .ref (ad 0)), (1, .int (zI (a))), (2, .int (zI (b))), (3, .int (zI (t)))]) hx hb dX2_interval_34 hl (by decide) rfl (fun ls hl => ?_)
    refine lv_aload_n hx hb dX2_interval_36 rfl (lv_at hl 1 rfl) ?_
    refine zs_get hx hb hK hts hown hP 0 (by decide) q_fl_RX2_11 (v := .ref (ad 1)) rfl dX2_interval_37 ?_
    refine lv_iload_n hx hb dX2_interval_40 rfl (lv_at hl 3 rfl) ?_
    refine zs_aV hx hb hK hP (i := b) (by omega) dX2_interval_41 ?_
    have hV_b : VP G (vad ad (b)) (T (b)) (P (b)) (S (b)) (Av (b)) (Fv (b)) H1 := CP.voice hP (b) (by omega)
    refine lv_iload_n hx hb dX2_interval_42 rfl (lv_at hl 4 rfl) ?_
    refine k_R (c_VR (As := [.int (zI (t))]) (rest := []) ⟨hx, hb, hml, hown, hts⟩ hG hS hA (c_X1_toneAt l G (vad ad (b)) (T (b)) (P (b)) (S (b)) (Av (b)) (Fv (b)) t (by omega) (hVo b (by omega) (by omega))) ⟨q_ml_RX2_180, q_im_X1_toneAt, q_sel_X1_toneAt, q_ini_RX1, q_code_X1_toneAt⟩ hv_X1_toneAt (VP.rec hK hV_b) hV_b ⟨Nat.le_of_ble_eq_true rfl, Nat.le_of_ble_eq_true rfl⟩ ⟨Nat.le_of_ble_eq_true rfl, Nat.le_of_ble_eq_true rfl⟩ rfl hl.1 rfl (Nat.le_of_ble_eq_true rfl) dX2_interval_43) ?_
    refine lv_istore (lv' := [(5, .int (zI (tAt ((T (b)) 0) ((T (b)) 1) ((T (b)) 4) (((Fv (b)) 0)) t))), (4, .int (zI (tAt ((T (a)) 0) ((T (a)) 1) ((T (a)) 4) (((Fv (a)) 0)) t))), (0, .ref (ad 0)), (1, .int (zI (a))), (2, .int (zI (b))), (3, .int (zI (t)))]) hx hb dX2_interval_46 hl (by decide) rfl (fun ls hl => ?_)
    refine lv_iload hx hb dX2_interval_48 (lv_at hl 1 rfl) ?_
    refine z_iconst hx hb dX2_interval_50 ?_
    refine z_icmp_eq (a := tAt ((T (a)) 0) ((T (a)) 1) ((T (a)) 4) (((Fv (a)) 0)) t) (b := -1) (tgt := 60) hx hb dX2_interval_51 (by decide) (by omega) (by omega) (fun h_51 => ?_) (fun h_51 => ?_)
    · skip
      refine z_bipush hx hb dX2_interval_60 (by decide) ?_
      refine lv_goto (tgt := 70) hx hb dX2_interval_62 (by decide) ?_
      exact vx_ret (e_Wi (r := -100) hx hb hr hlk (n_i _) hS (by omega) (by omega) ⟨(by first | rw [if_pos (by omega)] | rw [if_neg (by omega)]), by omega, by omega, hP⟩ dX2_interval_70)
    · skip
      refine lv_iload hx hb dX2_interval_54 (lv_at hl 0 rfl) ?_
      refine z_iconst hx hb dX2_interval_56 ?_
      refine z_icmp_ne (a := tAt ((T (b)) 0) ((T (b)) 1) ((T (b)) 4) (((Fv (b)) 0)) t) (b := -1) (tgt := 65) hx hb dX2_interval_57 (by decide) (by omega) (by omega) (fun h_57 => ?_) (fun h_57 => ?_)
      · skip
        refine lv_iload hx hb dX2_interval_65 (lv_at hl 0 rfl) ?_
        refine lv_iload hx hb dX2_interval_67 (lv_at hl 1 rfl) ?_
        refine z_isub (x := tAt ((T (b)) 0) ((T (b)) 1) ((T (b)) 4) (((Fv (b)) 0)) t) (y := tAt ((T (a)) 0) ((T (a)) 1) ((T (a)) 4) (((Fv (a)) 0)) t) hx hb dX2_interval_69 ?_
        exact vx_ret (e_Wi (r := (tAt ((T (b)) 0) ((T (b)) 1) ((T (b)) 4) (((Fv (b)) 0)) t) - (tAt ((T (a)) 0) ((T (a)) 1) ((T (a)) 4) (((Fv (a)) 0)) t)) hx hb hr hlk (n_i _) hS (by omega) (by omega) ⟨(by first | rw [if_pos (by omega)] | rw [if_neg (by omega)]), by omega, by omega, hP⟩ dX2_interval_70)
      · skip
        refine z_bipush hx hb dX2_interval_60 (by decide) ?_
        refine lv_goto (tgt := 70) hx hb dX2_interval_62 (by decide) ?_
        exact vx_ret (e_Wi (r := -100) hx hb hr hlk (n_i _) hS (by omega) (by omega) ⟨(by first | rw [if_pos (by omega)] | rw [if_neg (by omega)]), by omega, by omega, hP⟩ dX2_interval_70)
  · skip
    exact z_thrIA hx hb hst hown hts hG hnt hS hA (text := "the tick is less than 0") (is := 178) (by decide +kernel) dX2_interval_14 dX2_interval_17 dX2_interval_18 dX2_interval_20 dX2_interval_23 (hl.1.trans hml.symm) ⟨by decide, by decide, by (show 0 + (1) + (1) + 1 ≤ _; first | exact Nat.le_of_ble_eq_true rfl | omega), by (show 0 + (6) + (6) + 6 ≤ _; first | exact Nat.le_of_ble_eq_true rfl | omega)⟩ hlk (fun H1 q1 q2 => ⟨(by first | exact Or.inl ⟨rfl, by omega⟩ | exact Or.inr ⟨rfl, by omega⟩), hP.grow q2⟩) (by first | exact Nat.le_of_ble_eq_true rfl | omega) (by first | exact Nat.le_of_ble_eq_true rfl | omega)
set_option maxHeartbeats 2000000 in
theorem c_X2_time (l : Launch) (G : zG) (ad : Nat → Nat) (F : Nat → Int) (A E : Nat → Int → Int) (T P S Av : Int → Nat → Int → Int) (Fv : Int → Nat → Int) (x y : Int) (sz : Nat) (hst : l.stackTraces = false) (r_x : -2147483648 ≤ x ∧ x ≤ 2147483647) (r_y : -2147483648 ≤ y ∧ y ≤ 2147483647) : MX l yX2_time cX2_time 3 (some .long) 6 90 (1) (6) G [.ref (ad 0), .int (zI (x)), .int (zI (y))] (fA 94 ad sz) sz (CP G ad F A E T P S Av Fv) (QL (fA 94 ad sz) (fun r H => r = (zI x).toInt64 * 625000 / (zI y).toInt64 ∧ (0 ≤ x ∧ x ≤ 100000 ∧ 10 ≤ y ∧ y ≤ 400) ∧ CP G ad F A E T P S Av Fv H)) (fun E9 H => ((E9 = xIA ∧ ¬ (0 ≤ x ∧ x ≤ 100000 ∧ 10 ≤ y ∧ y ≤ 400))) ∧ CP G ad F A E T P S Av Fv H) := by
  refine mx_of hp_X2_time (Nat.le_of_ble_eq_true rfl) ?_
  intro p env s m below meth c ls hB hnt hsz hP hl
  obtain ⟨hx, hb, hml, hr, hlk, hown, hts, hG⟩ := hB
  subst hsz
  have hK := hG.1
  have hS : va_S (fA 94 ad s.heap.size) s.heap s.heap [] := va_S.rf
  have hA : ∀ q : Nat, (fA 94 ad s.heap.size) q → G.2.2 ≤ q := fA_lo hP.1.2 hG.2.1
  have hD : ∀ k, k < 94 → (fA 94 ad s.heap.size) (ad k) := fun k hk => fA_in hk
  have hl : lv_has ls 3 [(0, .ref (ad 0)), (1, .int (zI (x))), (2, .int (zI (y)))] := hl
  refine lv_iload_n hx hb dX2_time_0 rfl (lv_at hl 1 rfl) ?_
  refine z_if_lt (a := x) (tgt := 23) hx hb dX2_time_1 (by decide) (by omega) (fun h_1 => ?_) (fun h_1 => ?_)
  · skip
    exact z_thrIA hx hb hst hown hts hG hnt hS hA (text := "no such tick or speed") (is := 195) (by decide +kernel) dX2_time_23 dX2_time_26 dX2_time_27 dX2_time_29 dX2_time_32 (hl.1.trans hml.symm) ⟨by decide, by decide, by (show 0 + 1 ≤ _; first | exact Nat.le_of_ble_eq_true rfl | omega), by (show 0 + 6 ≤ _; first | exact Nat.le_of_ble_eq_true rfl | omega)⟩ hlk (fun H1 q1 q2 => ⟨(by first | exact ⟨rfl, by omega⟩), hP.grow q2⟩) (by first | exact Nat.le_of_ble_eq_true rfl | omega) (by first | exact Nat.le_of_ble_eq_true rfl | omega)
  · skip
    refine lv_iload_n hx hb dX2_time_4 rfl (lv_at hl 1 rfl) ?_
    refine lv_ldc (v := zI 100000) hx hb hown (hts _ q_k_RX2_194) dX2_time_5 ?_
    refine z_icmp_gt (a := x) (b := 100000) (tgt := 23) hx hb dX2_time_7 (by decide) (by omega) (by omega) (fun h_7 => ?_) (fun h_7 => ?_)
    · skip
      exact z_thrIA hx hb hst hown hts hG hnt hS hA (text := "no such tick or speed") (is := 195) (by decide +kernel) dX2_time_23 dX2_time_26 dX2_time_27 dX2_time_29 dX2_time_32 (hl.1.trans hml.symm) ⟨by decide, by decide, by (show 0 + 1 ≤ _; first | exact Nat.le_of_ble_eq_true rfl | omega), by (show 0 + 6 ≤ _; first | exact Nat.le_of_ble_eq_true rfl | omega)⟩ hlk (fun H1 q1 q2 => ⟨(by first | exact ⟨rfl, by omega⟩), hP.grow q2⟩) (by first | exact Nat.le_of_ble_eq_true rfl | omega) (by first | exact Nat.le_of_ble_eq_true rfl | omega)
    · skip
      refine lv_iload_n hx hb dX2_time_10 rfl (lv_at hl 2 rfl) ?_
      refine z_bipush hx hb dX2_time_11 (by decide) ?_
      refine z_icmp_lt (a := y) (b := 10) (tgt := 23) hx hb dX2_time_13 (by decide) (by omega) (by omega) (fun h_13 => ?_) (fun h_13 => ?_)
      · skip
        exact z_thrIA hx hb hst hown hts hG hnt hS hA (text := "no such tick or speed") (is := 195) (by decide +kernel) dX2_time_23 dX2_time_26 dX2_time_27 dX2_time_29 dX2_time_32 (hl.1.trans hml.symm) ⟨by decide, by decide, by (show 0 + 1 ≤ _; first | exact Nat.le_of_ble_eq_true rfl | omega), by (show 0 + 6 ≤ _; first | exact Nat.le_of_ble_eq_true rfl | omega)⟩ hlk (fun H1 q1 q2 => ⟨(by first | exact ⟨rfl, by omega⟩), hP.grow q2⟩) (by first | exact Nat.le_of_ble_eq_true rfl | omega) (by first | exact Nat.le_of_ble_eq_true rfl | omega)
      · skip
        refine lv_iload_n hx hb dX2_time_16 rfl (lv_at hl 2 rfl) ?_
        refine z_sipush hx hb dX2_time_17 (by decide) ?_
        refine z_icmp_le (a := y) (b := 400) (tgt := 33) hx hb dX2_time_20 (by decide) (by omega) (by omega) (fun h_20 => ?_) (fun h_20 => ?_)
        · skip
          refine lv_iload_n hx hb dX2_time_33 rfl (lv_at hl 1 rfl) ?_
          refine lv_i2l (v := (zI (x)).toInt64) hx hb dX2_time_34 rfl ?_
          refine lv_ldc2 hx hb hown (hts _ q_k_RX2_197) dX2_time_35 ?_
          refine lv_lmul hx hb dX2_time_38 ?_
          refine lv_iload_n hx hb dX2_time_39 rfl (lv_at hl 2 rfl) ?_
          refine lv_i2l (v := (zI (y)).toInt64) hx hb dX2_time_40 rfl ?_
          refine lv_ldiv hx hb dX2_time_41 (zL_ne (by omega)) ?_
          exact vx_ret (e_Wl (r := (((zI (x)).toInt64) * (625000)) / ((zI (y)).toInt64)) hx hb hr hlk hS (by omega) (by omega) ⟨rfl, by omega, hP⟩ dX2_time_42)
        · skip
          exact z_thrIA hx hb hst hown hts hG hnt hS hA (text := "no such tick or speed") (is := 195) (by decide +kernel) dX2_time_23 dX2_time_26 dX2_time_27 dX2_time_29 dX2_time_32 (hl.1.trans hml.symm) ⟨by decide, by decide, by (show 0 + 1 ≤ _; first | exact Nat.le_of_ble_eq_true rfl | omega), by (show 0 + 6 ≤ _; first | exact Nat.le_of_ble_eq_true rfl | omega)⟩ hlk (fun H1 q1 q2 => ⟨(by first | exact ⟨rfl, by omega⟩), hP.grow q2⟩) (by first | exact Nat.le_of_ble_eq_true rfl | omega) (by first | exact Nat.le_of_ble_eq_true rfl | omega)
set_option maxHeartbeats 2000000 in
theorem c_X2_event (l : Launch) (G : zG) (ad : Nat → Nat) (F : Nat → Int) (A E : Nat → Int → Int) (T P S Av : Int → Nat → Int → Int) (Fv : Int → Nat → Int) (i w : Int) (sz : Nat) (hst : l.stackTraces = false) (r_i : -2147483648 ≤ i ∧ i ≤ 2147483647) (r_w : -2147483648 ≤ w ∧ w ≤ 2147483647) (hf4 : F 4 = 0 ∨ F 4 = 1) (hVS : ∀ v j, 0 ≤ v → v < F 0 → 0 ≤ j → j < Fv v 2 → (0 ≤ S v 0 j ∧ S v 0 j ≤ 1000000) ∧ (0 ≤ S v 1 j ∧ S v 1 j ≤ 1000000)) (hVC : COK F Fv) : MX l yX2_event cX2_event 3 (some .int) 6 133 (1) (6) G [.ref (ad 0), .int (zI (i)), .int (zI (w))] (fA 94 ad sz) sz (CP G ad F A E T P S Av Fv) (QW (fA 94 ad sz) (fun r H => (0 ≤ i ∧ i < 2 * nSou Fv (F 0) ∧ 0 ≤ w ∧ w < 4) ∧ ∃ F2 A2 E2, rfQ F A E S Fv F2 A2 E2 ∧ r = E2 w.toNat i ∧ CP G ad F2 A2 E2 T P S Av Fv H)) (fun E9 H => ((E9 = xIO ∧ ¬ (0 ≤ i ∧ i < 2 * nSou Fv (F 0) ∧ 0 ≤ w ∧ w < 4))) ∧ CP G ad F A E T P S Av Fv H) := by
  refine mx_of hp_X2_event (Nat.le_of_ble_eq_true rfl) ?_
  intro p env s m below meth c ls hB hnt hsz hP hl
  obtain ⟨hx, hb, hml, hr, hlk, hown, hts, hG⟩ := hB
  subst hsz
  have hK := hG.1
  have hS : va_S (fA 94 ad s.heap.size) s.heap s.heap [] := va_S.rf
  have hA : ∀ q : Nat, (fA 94 ad s.heap.size) q → G.2.2 ≤ q := fA_lo hP.1.2 hG.2.1
  have hD : ∀ k, k < 94 → (fA 94 ad s.heap.size) (ad k) := fun k hk => fA_in hk
  have hl : lv_has ls 3 [(0, .ref (ad 0)), (1, .int (zI (i))), (2, .int (zI (w)))] := hl
  have h0b := hVC.1
  have hns := nSou_rng hVC (n := F 0) hVC.1
  refine lv_iload_n hx hb dX2_event_0 rfl (lv_at hl 1 rfl) ?_
  refine z_if_lt (a := i) (tgt := 12) hx hb dX2_event_1 (by decide) (by omega) (fun h_1 => ?_) (fun h_1 => ?_)
  · skip
    exact z_thrIO hx hb hst hown hts hG hnt hS hA (text := "no such event") (is := 186) (by decide +kernel) dX2_event_12 dX2_event_15 dX2_event_16 dX2_event_18 dX2_event_21 (hl.1.trans hml.symm) ⟨by decide, by decide, by (show 0 + 1 ≤ _; first | exact Nat.le_of_ble_eq_true rfl | omega), by (show 0 + 6 ≤ _; first | exact Nat.le_of_ble_eq_true rfl | omega)⟩ hlk (fun H1 q1 q2 => ⟨(by first | exact ⟨rfl, by omega⟩), hP.grow q2⟩) (by first | exact Nat.le_of_ble_eq_true rfl | omega) (by first | exact Nat.le_of_ble_eq_true rfl | omega)
  · skip
    refine lv_iload_n hx hb dX2_event_4 rfl (lv_at hl 1 rfl) ?_
    refine lv_aload_n hx hb dX2_event_5 rfl (lv_at hl 0 rfl) ?_
    refine k_R (c_VR (As := []) (rest := [.int (zI (i))]) ⟨hx, hb, hml, hown, hts⟩ hG hS hA (c_X2_countEvents l G ad F A E T P S Av Fv hVC) ⟨q_ml_RX2_183, q_im_X2_countEvents, q_sel_X2_countEvents, q_ini_RX2, q_code_X2_countEvents⟩ hv_X2_countEvents (CP.rec hK hP) hP ⟨Nat.le_of_ble_eq_true rfl, Nat.le_of_ble_eq_true rfl⟩ ⟨Nat.le_of_ble_eq_true rfl, Nat.le_of_ble_eq_true rfl⟩ rfl hl.1 rfl (Nat.le_of_ble_eq_true rfl) dX2_event_6) ?_
    refine z_icmp_lt (a := i) (b := 2 * nSou Fv ((F 0))) (tgt := 22) hx hb dX2_event_9 (by decide) (by omega) (by omega) (fun h_9 => ?_) (fun h_9 => ?_)
    · skip
      refine lv_iload_n hx hb dX2_event_22 rfl (lv_at hl 2 rfl) ?_
      refine z_if_lt (a := w) (tgt := 31) hx hb dX2_event_23 (by decide) (by omega) (fun h_23 => ?_) (fun h_23 => ?_)
      · skip
        exact z_thrIO hx hb hst hown hts hG hnt hS hA (text := "no such number of an event") (is := 188) (by decide +kernel) dX2_event_31 dX2_event_34 dX2_event_35 dX2_event_37 dX2_event_40 (hl.1.trans hml.symm) ⟨by decide, by decide, by (show 0 + 1 ≤ _; first | exact Nat.le_of_ble_eq_true rfl | omega), by (show 0 + 6 ≤ _; first | exact Nat.le_of_ble_eq_true rfl | omega)⟩ hlk (fun H1 q1 q2 => ⟨(by first | exact ⟨rfl, by omega⟩), hP.grow q2⟩) (by first | exact Nat.le_of_ble_eq_true rfl | omega) (by first | exact Nat.le_of_ble_eq_true rfl | omega)
      · skip
        refine lv_iload_n hx hb dX2_event_26 rfl (lv_at hl 2 rfl) ?_
        refine z_iconst hx hb dX2_event_27 ?_
        refine z_icmp_lt (a := w) (b := 4) (tgt := 41) hx hb dX2_event_28 (by decide) (by omega) (by omega) (fun h_28 => ?_) (fun h_28 => ?_)
        · skip
          refine lv_aload_n hx hb dX2_event_41 rfl (lv_at hl 0 rfl) ?_
          refine k_Wv (c_VW (As := []) (rest := []) ⟨hx, hb, hml, hown, hts⟩ hG hS hA (c_X2_refreshEvents l G ad F A E T P S Av Fv s.heap.size hf4 hVS hVC) ⟨q_ml_RX2_190, q_im_X2_refreshEvents, q_sel_X2_refreshEvents, q_ini_RX2, q_code_X2_refreshEvents⟩ hv_X2_refreshEvents (CP.rec hK hP) hP ⟨Nat.le_of_ble_eq_true rfl, Nat.le_of_ble_eq_true rfl⟩ ⟨Nat.le_of_ble_eq_true rfl, Nat.le_of_ble_eq_true rfl⟩ rfl hl.1 rfl (Nat.le_of_ble_eq_true rfl) dX2_event_42) hS (fA_mono hS.1) (fun H1 locs1 hq hz1 hk1 hS => ?_)
          obtain ⟨F2, A2, E2, hrf, hP⟩ : ∃ F2 A2 E2, rfQ F A E S Fv F2 A2 E2 ∧ CP G ad F2 A2 E2 T P S Av Fv H1 := by
            rcases hq with ⟨q1, q2⟩ | ⟨q1, q2⟩
            · exact ⟨F, A, E, Or.inl ⟨q1, rfl, rfl, rfl⟩, q2⟩
            · exact ⟨_, _, _, Or.inr ⟨q1, rfl, rfl, rfl⟩, q2⟩
          refine lv_aload_n hx hb dX2_event_45 rfl (lv_at hl 0 rfl) ?_
          refine zs_get hx hb hK hts hown hP 1 (by decide) q_fl_RX2_18 (v := .ref (ad 2)) rfl dX2_event_46 ?_
          refine ze_get hx hb hK hts hown hP 0 (by decide) q_fl_RX2_193 (v := .ref (ad 3)) rfl dX2_event_49 ?_
          refine lv_iload_n hx hb dX2_event_52 rfl (lv_at hl 2 rfl) ?_
          refine ze_aE hx hb hK hP ((w).toNat) (by omega) (i := w) (by omega) dX2_event_53 ?_
          refine lv_iload_n hx hb dX2_event_54 rfl (lv_at hl 1 rfl) ?_
          refine ze_lE hx hb hK hP ((w).toNat) (by omega) (i := i) (by omega) dX2_event_55 ?_
          exact vx_ret (e_Wi (r := E2 ((w).toNat) (i)) hx hb hr hlk (n_i _) hS (by omega) (by omega) ⟨by omega, F2, A2, E2, hrf, rfl, hP⟩ dX2_event_56)
        · skip
          exact z_thrIO hx hb hst hown hts hG hnt hS hA (text := "no such number of an event") (is := 188) (by decide +kernel) dX2_event_31 dX2_event_34 dX2_event_35 dX2_event_37 dX2_event_40 (hl.1.trans hml.symm) ⟨by decide, by decide, by (show 0 + 1 ≤ _; first | exact Nat.le_of_ble_eq_true rfl | omega), by (show 0 + 6 ≤ _; first | exact Nat.le_of_ble_eq_true rfl | omega)⟩ hlk (fun H1 q1 q2 => ⟨(by first | exact ⟨rfl, by omega⟩), hP.grow q2⟩) (by first | exact Nat.le_of_ble_eq_true rfl | omega) (by first | exact Nat.le_of_ble_eq_true rfl | omega)
    · skip
      exact z_thrIO hx hb hst hown hts hG hnt hS hA (text := "no such event") (is := 186) (by decide +kernel) dX2_event_12 dX2_event_15 dX2_event_16 dX2_event_18 dX2_event_21 (hl.1.trans hml.symm) ⟨by decide, by decide, by (show 0 + 1 ≤ _; first | exact Nat.le_of_ble_eq_true rfl | omega), by (show 0 + 6 ≤ _; first | exact Nat.le_of_ble_eq_true rfl | omega)⟩ hlk (fun H1 q1 q2 => ⟨(by first | exact ⟨rfl, by omega⟩), hP.grow q2⟩) (by first | exact Nat.le_of_ble_eq_true rfl | omega) (by first | exact Nat.le_of_ble_eq_true rfl | omega)
def lI (x : Int) : Int64 := Int64.ofInt x
theorem lI_add (x y : Int) : lI x + lI y = lI (x + y) := (Int64.ofInt_add x y).symm
theorem lI_mul (x y : Int) : lI x * lI y = lI (x * y) := (Int64.ofInt_mul x y).symm
theorem lI_z {x : Int} (h : -2147483648 ≤ x ∧ x ≤ 2147483647) : (zI x).toInt64 = lI x := by
  rw [← Int64.toInt_inj, Int32.toInt_toInt64, zI_toInt h]
  exact (Int64.toInt_ofInt_of_le (by omega) (by omega)).symm
theorem lI_lt {x : Int} (h : -2147483648 ≤ x ∧ x ≤ 2147483647) : lI 0 < lI x ↔ 0 < x := by
  rw [Int64.lt_iff_toInt_lt]
  unfold lI
  rw [Int64.toInt_ofInt_of_le (by omega) (by omega), Int64.toInt_ofInt_of_le (by omega) (by omega)]
theorem lI_d {x : Int} (h : -2147483648 ≤ x ∧ x ≤ 2147483647) : FP.l2d (lI x) = FP.i2d (zI x) := by
  rw [← lI_z h]
  exact (FP.Core.i2d_l2d (zI x)).symm
/-- meanTone: the tones by ticks, the ticks -/
def mnC (T : Nat → Int → Int) : Int → Int := pf 0 (fun k a => if T 4 k = -1 then a else a + T 4 k * T 1 k)
def mkC (T : Nat → Int → Int) : Int → Int := pf 0 (fun k a => if T 4 k = -1 then a else a + T 1 k)
def mnD (T : Int → Nat → Int → Int) (Fv : Int → Nat → Int) : Int → Int := pf 0 (fun v a => a + mnC (T v) (Fv v 0))
def mkD (T : Int → Nat → Int → Int) (Fv : Int → Nat → Int) : Int → Int := pf 0 (fun v a => a + mkC (T v) (Fv v 0))
def meanC (F : Nat → Int) (T : Int → Nat → Int → Int) (Fv : Int → Nat → Int) : UInt64 := if mkD T Fv (F 0) ≤ 0 then FP.dconst0 else FP.ddiv (FP.i2d (zI (mnD T Fv (F 0)))) (FP.i2d (zI (mkD T Fv (F 0))))
set_option maxHeartbeats 2000000 in
theorem c_X2_meanTone (l : Launch) (G : zG) (ad : Nat → Nat) (F : Nat → Int) (A E : Nat → Int → Int) (T P S Av : Int → Nat → Int → Int) (Fv : Int → Nat → Int) (sz : Nat) (hn1 : -2147483648 ≤ mnD T Fv (F 0) ∧ mnD T Fv (F 0) ≤ 2147483647) (hn2 : -2147483648 ≤ mkD T Fv (F 0) ∧ mkD T Fv (F 0) ≤ 2147483647) (hVo : ∀ v, 0 ≤ v → v < 4 → VOK (T v) (P v) (Fv v 0)) (hVC : COK F Fv) : MW l yX2_meanTone cX2_meanTone 8 (some .double) 1 21 (0) (0) G [.ref (ad 0)] (fA 94 ad sz) sz (CP G ad F A E T P S Av Fv) (QD (fA 94 ad sz) (fun r H => r = meanC F T Fv ∧ CP G ad F A E T P S Av Fv H)) := by
  refine mw_of hp_X2_meanTone (Nat.le_of_ble_eq_true rfl) ?_
  intro p env s m below meth c ls hB hsz hP hl
  obtain ⟨hx, hb, hml, hr, hlk, hown, hts, hG⟩ := hB
  subst hsz
  have hK := hG.1
  have hS : va_S (fA 94 ad s.heap.size) s.heap s.heap [] := va_S.rf
  have hA : ∀ q : Nat, (fA 94 ad s.heap.size) q → G.2.2 ≤ q := fA_lo hP.1.2 hG.2.1
  have hD : ∀ k, k < 94 → (fA 94 ad s.heap.size) (ad k) := fun k hk => fA_in hk
  have hl : lv_has ls 8 [(0, .ref (ad 0))] := hl
  have h0b := hVC.1
  refine lv_lconst (v := 0) hx hb dX2_meanTone_0 rfl ?_
  refine lv_lstore_n (lv' := [(1, .long (0)), (0, .ref (ad 0))]) hx hb dX2_meanTone_1 rfl hl (by decide) rfl (fun ls hl => ?_)
  refine lv_lconst (v := 0) hx hb dX2_meanTone_2 rfl ?_
  refine lv_lstore_n (lv' := [(3, .long (0)), (1, .long (0)), (0, .ref (ad 0))]) hx hb dX2_meanTone_3 rfl hl (by decide) rfl (fun ls hl => ?_)
  refine z_iconst hx hb dX2_meanTone_4 ?_
  refine lv_istore (lv' := [(5, .int (zI (0))), (3, .long (0)), (1, .long (0)), (0, .ref (ad 0))]) hx hb dX2_meanTone_5 hl (by decide) rfl (fun ls hl => ?_)
  rw [show (0 : Int64) = lI 0 from rfl] at hl
  have lp_7 : ∀ (n : Nat) (v u z : Int), 0 ≤ v → v ≤ F 0 → u = mnD T Fv v → z = mkD T Fv v → F 0 - v < n → ∀ (H : Heap) (locs : List Loc), CP G ad F A E T P S Av Fv H → va_S (fA 94 ad s.heap.size) s.heap H locs → ∀ (ls : Array Slot), lv_has ls 8 [(5, .int (zI (v))), (3, .long (lI z)), (1, .long (lI u)), (0, .ref (ad 0))] → W p l env (rmz 1 21 0 0) s m (([.ref (ad 0)] : List Value).toArray) below meth c H locs 0 0 (MQ below (QD (fA 94 ad s.heap.size) (fun r H => r = meanC F T Fv ∧ CP G ad F A E T P S Av Fv H)) (([.ref (ad 0)] : List Value).toArray) s 0 0 (fA 94 ad s.heap.size)) (F0 m 7 ls []) := by
    intro n
    induction n with
    | zero => intro v u z h0 h1 hu hz9 hm H locs hP hS ls hl; exact absurd hm (by omega)
    | succ n ih =>
      intro v u z h0 h1 hu hz9 hm H locs hP hS ls hl
      have hvi := hVC.2 v h0
      refine lv_iload hx hb dX2_meanTone_7 (lv_at hl 0 rfl) ?_
      refine lv_aload_n hx hb dX2_meanTone_9 rfl (lv_at hl 3 rfl) ?_
      refine zs_get hx hb hK hts hown hP 3 (by decide) q_fl_RX2_26 (v := .int (zI (F 0))) rfl dX2_meanTone_10 ?_
      refine z_icmp_ge (a := v) (b := F 0) (tgt := 100) hx hb dX2_meanTone_13 (by decide) (by omega) (by omega) (fun h_13 => ?_) (fun h_13 => ?_)
      · skip
        have hT : mkD T Fv (F 0) = z := by rw [hz9, show F 0 = v by omega]
        have hN : mnD T Fv (F 0) = u := by rw [hu, show F 0 = v by omega]
        refine lv_lload_n hx hb dX2_meanTone_100 rfl (lv_at hl 1 rfl) ?_
        refine lv_lconst (v := 0) hx hb dX2_meanTone_101 rfl ?_
        rw [show (0 : Int64) = lI 0 from rfl]
        refine z_lcmp hx hb dX2_meanTone_102 ?_
        refine z_if_le (a := lC (lI z) (lI 0)) (tgt := 114) hx hb dX2_meanTone_103 (by decide) (lC_rng _ _) (fun h_103 => ?_) (fun h_103 => ?_)
        · skip
          have hz0 : ¬ 0 < z := fun q => lC_le.mp h_103 ((lI_lt (by omega)).mpr q)
          refine lv_dconst0 hx hb dX2_meanTone_114 ?_
          exact e_Wd (r := FP.dconst0) hx hb hr hlk hS (by omega) (by omega) ⟨(by unfold meanC; rw [hT, hN]; first | rw [if_pos (by omega)] | rw [if_neg (by omega)]), hP⟩ dX2_meanTone_115
        · skip
          have hz0 : 0 < z := (lI_lt (by omega)).mp (Decidable.byContradiction fun q => h_103 (lC_le.mpr q))
          refine lv_lload_n hx hb dX2_meanTone_106 rfl (lv_at hl 2 rfl) ?_
          refine lv_l2d hx hb dX2_meanTone_107 ?_
          rw [lI_d (by omega)]
          refine lv_lload_n hx hb dX2_meanTone_108 rfl (lv_at hl 1 rfl) ?_
          refine lv_l2d hx hb dX2_meanTone_109 ?_
          rw [lI_d (by omega)]
          refine lv_ddiv hx hb dX2_meanTone_110 (nnan _ _ (by rw [zI_toInt (by omega)]; exact hz0)) ?_
          refine lv_goto (tgt := 115) hx hb dX2_meanTone_111 (by decide) ?_
          exact e_Wd (r := FP.ddiv (FP.i2d (zI u)) (FP.i2d (zI z))) hx hb hr hlk hS (by omega) (by omega) ⟨(by unfold meanC; rw [hT, hN]; first | rw [if_pos (by omega)] | rw [if_neg (by omega)]), hP⟩ dX2_meanTone_115
      · skip
        refine lv_aload_n hx hb dX2_meanTone_16 rfl (lv_at hl 3 rfl) ?_
        refine zs_get hx hb hK hts hown hP 0 (by decide) q_fl_RX2_11 (v := .ref (ad 1)) rfl dX2_meanTone_17 ?_
        refine lv_iload hx hb dX2_meanTone_20 (lv_at hl 0 rfl) ?_
        refine zs_aV hx hb hK hP (i := v) (by omega) dX2_meanTone_22 ?_
        have hV_v : VP G (vad ad (v)) (T (v)) (P (v)) (S (v)) (Av (v)) (Fv (v)) H := CP.voice hP (v) (by omega)
        refine lv_astore (lv' := [(6, .ref (vad ad (v) 0)), (5, .int (zI (v))), (3, .long (lI z)), (1, .long (lI u)), (0, .ref (ad 0))]) hx hb dX2_meanTone_23 hl (by decide) rfl (fun ls hl => ?_)
        refine z_iconst hx hb dX2_meanTone_25 ?_
        refine lv_istore (lv' := [(7, .int (zI (0))), (6, .ref (vad ad (v) 0)), (5, .int (zI (v))), (3, .long (lI z)), (1, .long (lI u)), (0, .ref (ad 0))]) hx hb dX2_meanTone_26 hl (by decide) rfl (fun ls hl => ?_)
        have hvi := hvi (by omega)
        have lp_28 : ∀ (n : Nat) (i u2 z2 : Int), 0 ≤ i → i ≤ Fv v 0 → u2 = u + mnC (T v) i → z2 = z + mkC (T v) i → Fv v 0 - i < n → ∀ (H : Heap) (locs : List Loc), CP G ad F A E T P S Av Fv H → va_S (fA 94 ad s.heap.size) s.heap H locs → ∀ (ls : Array Slot), lv_has ls 8 [(7, .int (zI (i))), (6, .ref (vad ad (v) 0)), (5, .int (zI (v))), (3, .long (lI z2)), (1, .long (lI u2)), (0, .ref (ad 0))] → W p l env (rmz 1 21 0 0) s m (([.ref (ad 0)] : List Value).toArray) below meth c H locs 0 0 (MQ below (QD (fA 94 ad s.heap.size) (fun r H => r = meanC F T Fv ∧ CP G ad F A E T P S Av Fv H)) (([.ref (ad 0)] : List Value).toArray) s 0 0 (fA 94 ad s.heap.size)) (F0 m 28 ls []) := by
          intro n
          induction n with
          | zero => intro i u2 z2 hi0 hi1 hu2 hz2 hmi H locs hP hS ls hl; exact absurd hmi (by omega)
          | succ n ih2 =>
            intro i u2 z2 hi0 hi1 hu2 hz2 hmi H locs hP hS ls hl
            have hV_v := CP.voice hP v (by omega)
            have hsn : mnC (T v) (i + 1) = if T v 4 i = -1 then mnC (T v) i else mnC (T v) i + T v 4 i * T v 1 i := pf_s _ _ hi0
            have hst : mkC (T v) (i + 1) = if T v 4 i = -1 then mkC (T v) i else mkC (T v) i + T v 1 i := pf_s _ _ hi0
            refine lv_iload hx hb dX2_meanTone_28 (lv_at hl 0 rfl) ?_
            refine lv_aload hx hb dX2_meanTone_30 (lv_at hl 1 rfl) ?_
            refine zv_get hx hb hK hts hown hV_v 5 (by decide) q_fl_RX2_103 (v := .int (zI ((Fv (v)) 0))) rfl dX2_meanTone_32 ?_
            refine z_icmp_ge (a := i) (b := (Fv (v)) 0) (tgt := 94) hx hb dX2_meanTone_35 (by decide) (by omega) (by omega) (fun h_35 => ?_) (fun h_35 => ?_)
            · skip
              refine z_iinc (lv' := [(5, .int (zI (v + 1))), (7, .int (zI (i))), (6, .ref (vad ad (v) 0)), (3, .long (lI z2)), (1, .long (lI u2)), (0, .ref (ad 0))]) hx hb dX2_meanTone_94 hl (k := 2) rfl (by decide) rfl (fun ls hl => ?_)
              refine lv_goto (tgt := 7) hx hb dX2_meanTone_97 (by decide) ?_
              exact ih (v + 1) u2 z2 (by omega) (by omega) (by rw [show mnD T Fv (v + 1) = mnD T Fv v + mnC (T v) (Fv v 0) from pf_s _ _ h0, ← hu, show Fv v 0 = i by omega]; exact hu2) (by rw [show mkD T Fv (v + 1) = mkD T Fv v + mkC (T v) (Fv v 0) from pf_s _ _ h0, ← hz9, show Fv v 0 = i by omega]; exact hz2) (by omega) H _ hP hS _ (lv_sub hl [0, 3, 4, 5] rfl)
            · skip
              refine lv_aload hx hb dX2_meanTone_38 (lv_at hl 1 rfl) ?_
              have hvv := (hVo v (by omega) (by omega)).2.2.1 i (by omega) (by omega)
              refine lv_iload hx hb dX2_meanTone_40 (lv_at hl 0 rfl) ?_
              refine k_R (c_VR (As := [.int (zI (i))]) (rest := []) ⟨hx, hb, hml, hown, hts⟩ hG hS hA (c_X1_isNote l G (vad ad (v)) (T (v)) (P (v)) (S (v)) (Av (v)) (Fv (v)) i (show 0 ≤ i ∧ i < 200 by omega) (show -2147483648 ≤ (T (v)) 4 i ∧ (T (v)) 4 i ≤ 2147483647 by omega)) ⟨q_ml_RX2_131, q_im_X1_isNote, q_sel_X1_isNote, q_ini_RX1, q_code_X1_isNote⟩ hv_X1_isNote (VP.rec hK hV_v) hV_v ⟨by decide, by decide⟩ ⟨Nat.zero_le _, Nat.zero_le _⟩ rfl hl.1 rfl (Nat.le_of_ble_eq_true rfl) dX2_meanTone_42) ?_
              refine z_bif_eq (q := ¬ (T (v)) 4 i = -1) (tgt := 88) hx hb dX2_meanTone_45 (by decide) (fun h_45 => ?_) (fun h_45 => ?_)
              · skip
                refine z_iinc (lv' := [(7, .int (zI (i + 1))), (6, .ref (vad ad (v) 0)), (5, .int (zI (v))), (3, .long (lI z2)), (1, .long (lI u2)), (0, .ref (ad 0))]) hx hb dX2_meanTone_88 hl (k := 0) rfl (by decide) rfl (fun ls hl => ?_)
                refine lv_goto (tgt := 28) hx hb dX2_meanTone_91 (by decide) ?_
                exact ih2 (i + 1) (u2) (z2) (by omega) (by omega) (by rw [hsn, hu2]; first | rw [if_pos (by omega)] | (rw [if_neg (by omega)]; omega)) (by rw [hst, hz2]; first | rw [if_pos (by omega)] | (rw [if_neg (by omega)]; omega)) (by omega) H _ hP hS _ (lv_sub hl [0, 1, 2, 3, 4, 5] rfl)
              · skip
                refine lv_lload_n hx hb dX2_meanTone_48 rfl (lv_at hl 4 rfl) ?_
                refine lv_aload hx hb dX2_meanTone_49 (lv_at hl 1 rfl) ?_
                refine zv_get hx hb hK hts hown hV_v 0 (by decide) q_fl_RX2_114 (v := .ref ((vad ad (v)) 1)) rfl dX2_meanTone_51 ?_
                refine z_iconst hx hb dX2_meanTone_54 ?_
                refine zv_aT hx hb hK hV_v (4) (by decide) (i := 4) rfl dX2_meanTone_55 ?_
                refine lv_iload hx hb dX2_meanTone_56 (lv_at hl 0 rfl) ?_
                refine zv_lT hx hb hK hV_v (4) (by decide) (i := i) (by omega) dX2_meanTone_58 ?_
                refine lv_i2l (v := (zI ((T (v)) 4 (i))).toInt64) hx hb dX2_meanTone_59 rfl ?_
                rw [lI_z (by omega)]
                refine lv_aload hx hb dX2_meanTone_60 (lv_at hl 1 rfl) ?_
                refine zv_get hx hb hK hts hown hV_v 0 (by decide) q_fl_RX2_114 (v := .ref ((vad ad (v)) 1)) rfl dX2_meanTone_62 ?_
                refine z_iconst hx hb dX2_meanTone_65 ?_
                refine zv_aT hx hb hK hV_v (1) (by decide) (i := 1) rfl dX2_meanTone_66 ?_
                refine lv_iload hx hb dX2_meanTone_67 (lv_at hl 0 rfl) ?_
                refine zv_lT hx hb hK hV_v (1) (by decide) (i := i) (by omega) dX2_meanTone_69 ?_
                refine lv_i2l (v := (zI ((T (v)) 1 (i))).toInt64) hx hb dX2_meanTone_70 rfl ?_
                rw [lI_z (by omega)]
                refine lv_lmul hx hb dX2_meanTone_71 ?_
                rw [lI_mul]
                refine lv_ladd hx hb dX2_meanTone_72 ?_
                rw [lI_add]
                refine lv_lstore_n (lv' := [(1, .long (lI (u2 + T v 4 i * T v 1 i))), (7, .int (zI (i))), (6, .ref (vad ad (v) 0)), (5, .int (zI (v))), (3, .long (lI z2)), (0, .ref (ad 0))]) hx hb dX2_meanTone_73 rfl hl (by decide) rfl (fun ls hl => ?_)
                refine lv_lload_n hx hb dX2_meanTone_74 rfl (lv_at hl 4 rfl) ?_
                refine lv_aload hx hb dX2_meanTone_75 (lv_at hl 2 rfl) ?_
                refine zv_get hx hb hK hts hown hV_v 0 (by decide) q_fl_RX2_114 (v := .ref ((vad ad (v)) 1)) rfl dX2_meanTone_77 ?_
                refine z_iconst hx hb dX2_meanTone_80 ?_
                refine zv_aT hx hb hK hV_v (1) (by decide) (i := 1) rfl dX2_meanTone_81 ?_
                refine lv_iload hx hb dX2_meanTone_82 (lv_at hl 1 rfl) ?_
                refine zv_lT hx hb hK hV_v (1) (by decide) (i := i) (by omega) dX2_meanTone_84 ?_
                refine lv_i2l (v := (zI ((T (v)) 1 (i))).toInt64) hx hb dX2_meanTone_85 rfl ?_
                rw [lI_z (by omega)]
                refine lv_ladd hx hb dX2_meanTone_86 ?_
                rw [lI_add]
                refine lv_lstore_n (lv' := [(3, .long (lI (z2 + T v 1 i))), (1, .long (lI (u2 + T v 4 i * T v 1 i))), (7, .int (zI (i))), (6, .ref (vad ad (v) 0)), (5, .int (zI (v))), (0, .ref (ad 0))]) hx hb dX2_meanTone_87 rfl hl (by decide) rfl (fun ls hl => ?_)
                refine z_iinc (lv' := [(7, .int (zI (i + 1))), (3, .long (lI (z2 + T v 1 i))), (1, .long (lI (u2 + T v 4 i * T v 1 i))), (6, .ref (vad ad (v) 0)), (5, .int (zI (v))), (0, .ref (ad 0))]) hx hb dX2_meanTone_88 hl (k := 2) rfl (by decide) rfl (fun ls hl => ?_)
                refine lv_goto (tgt := 28) hx hb dX2_meanTone_91 (by decide) ?_
                exact ih2 (i + 1) ((u2 + T v 4 i * T v 1 i)) ((z2 + T v 1 i)) (by omega) (by omega) (by rw [hsn, hu2]; first | rw [if_pos (by omega)] | (rw [if_neg (by omega)]; omega)) (by rw [hst, hz2]; first | rw [if_pos (by omega)] | (rw [if_neg (by omega)]; omega)) (by omega) H _ hP hS _ (lv_sub hl [0, 3, 4, 1, 2, 5] rfl)
        exact lp_28 201 0 u z (by omega) (by omega) (Int.add_zero u).symm (Int.add_zero z).symm (by omega) H _ hP hS _ (lv_sub hl [0, 1, 2, 3, 4, 5] rfl)
  exact lp_7 5 0 0 0 (by omega) (by omega) rfl rfl (by omega) s.heap _ hP hS _ (lv_sub hl [0, 1, 2, 3] rfl)
