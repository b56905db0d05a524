def evPut (E : Nat → Int → Int) (S : Nat → Int → Int) (i v k : Int) : Nat → Int → Int := zR (zR (zR (zR E 0 i (tkE S k)) 1 i v) 2 i (S 2 (k / 2))) 3 i (bI (k % 2 = 0))
set_option maxHeartbeats 2000000 in
theorem c_X0_put (l : Launch) (G : zG) (ad : Nat → Nat) (F : Nat → Int) (A E : Nat → Int → Int) (T P S Av : Int → Nat → Int → Int) (Fv : Int → Nat → Int) (i v : Int) (sz : Nat) (hi : 0 ≤ i ∧ i < 1600) (hv : 0 ≤ v ∧ v < 4) (hd9 : 0 ≤ A 0 v ∧ A 0 v < 400) : MW l yX0_put cX0_put 5 none 2 41 (0) (0) G [.ref (ad 2), .int (zI (i)), .int (zI (v)), .ref (vad ad v 0)] (fA 94 ad sz) sz (CP G ad F A E T P S Av Fv) (QV (fA 94 ad sz) (fun H => CP G ad F A (evPut E (S v) i v (A 0 v)) T P S Av Fv H)) := by
  refine mw_of hp_X0_put (Nat.le_of_ble_eq_true rfl) ?_
  intro p env s m below meth c ls hB hsz hP hl
  obtain ⟨hx, hb, hml, hr, hlk, hown, hts, hG⟩ := hB
  subst hsz
  have hK := hG.1
  have hS : va_S (fA 94 ad s.heap.size) s.heap s.heap [] := va_S.rf
  have hA : ∀ q : Nat, (fA 94 ad s.heap.size) q → G.2.2 ≤ q := fA_lo hP.1.2 hG.2.1
  have hD : ∀ k, k < 94 → (fA 94 ad s.heap.size) (ad k) := fun k hk => fA_in hk
  have hl : lv_has ls 5 [(0, .ref (ad 2)), (1, .int (zI (i))), (2, .int (zI (v))), (3, .ref (vad ad v 0))] := hl
  have hV_v := CP.voice hP v hv
  refine lv_aload_n hx hb dX0_put_0 rfl (lv_at hl 0 rfl) ?_
  refine ze_get hx hb hK hts hown hP 1 (by decide) q_fl_RX0_16 (v := .ref (ad 4)) rfl dX0_put_1 ?_
  refine lv_iload_n hx hb dX0_put_4 rfl (lv_at hl 2 rfl) ?_
  refine zs_lA0 hx hb hK hP (i := v) (by omega) dX0_put_5 ?_
  refine lv_istore (lv' := [(4, .int (zI (A 0 (v)))), (0, .ref (ad 2)), (1, .int (zI (i))), (2, .int (zI (v))), (3, .ref (vad ad v 0))]) hx hb dX0_put_6 hl (by decide) rfl (fun ls hl => ?_)
  refine lv_aload_n hx hb dX0_put_8 rfl (lv_at hl 1 rfl) ?_
  refine ze_get hx hb hK hts hown hP 0 (by decide) q_fl_RX0_11 (v := .ref (ad 3)) rfl dX0_put_9 ?_
  refine z_iconst hx hb dX0_put_12 ?_
  refine ze_aE hx hb hK hP (0) (by decide) (i := 0) rfl dX0_put_13 ?_
  refine lv_iload_n hx hb dX0_put_14 rfl (lv_at hl 2 rfl) ?_
  refine lv_aload_n hx hb dX0_put_15 rfl (lv_at hl 4 rfl) ?_
  refine lv_iload hx hb dX0_put_16 (lv_at hl 0 rfl) ?_
  refine k_R (c_SR (As := [.ref (vad ad v 0), .int (zI (A 0 (v)))]) (rest := [.int (zI (i)), .ref (ad (5 + (0)))]) ⟨hx, hb, hml, hown, hts⟩ hG hS hA (c_X0_tickOf l G (vad ad v) (T v) (P v) (S v) (Av v) (Fv v) (A 0 (v)) (show 0 ≤ (A 0 (v)) ∧ (A 0 (v)) < 400 by omega)) ⟨q_ml_RX0_38, q_st_X0_tickOf, q_ini_RX0, q_code_X0_tickOf⟩ hs_X0_tickOf hV_v ⟨by decide, by decide⟩ ⟨Nat.zero_le _, Nat.zero_le _⟩ rfl hl.1 rfl (Nat.le_of_ble_eq_true rfl) dX0_put_18) ?_
  refine ze_sE (x := tkE (S v) (A 0 (v))) hx hb hK hP hS (0) (by decide) (hD (5 + (0)) (by omega)) (i := i) (by omega) dX0_put_21 (fun H locs hP hz ho hS => ?_)
  have hV_v := CP.voice hP v (by omega)
  refine lv_aload_n hx hb dX0_put_22 rfl (lv_at hl 1 rfl) ?_
  refine ze_get hx hb hK hts hown hP 0 (by decide) q_fl_RX0_11 (v := .ref (ad 3)) rfl dX0_put_23 ?_
  refine z_iconst hx hb dX0_put_26 ?_
  refine ze_aE hx hb hK hP (1) (by decide) (i := 1) rfl dX0_put_27 ?_
  refine lv_iload_n hx hb dX0_put_28 rfl (lv_at hl 2 rfl) ?_
  refine lv_iload_n hx hb dX0_put_29 rfl (lv_at hl 3 rfl) ?_
  refine ze_sE (x := v) hx hb hK hP hS (1) (by decide) (hD (5 + (1)) (by omega)) (i := i) (by omega) dX0_put_30 (fun H locs hP hz ho hS => ?_)
  have hV_v := CP.voice hP v (by omega)
  refine lv_aload_n hx hb dX0_put_31 rfl (lv_at hl 1 rfl) ?_
  refine ze_get hx hb hK hts hown hP 0 (by decide) q_fl_RX0_11 (v := .ref (ad 3)) rfl dX0_put_32 ?_
  refine z_iconst hx hb dX0_put_35 ?_
  refine ze_aE hx hb hK hP (2) (by decide) (i := 2) rfl dX0_put_36 ?_
  refine lv_iload_n hx hb dX0_put_37 rfl (lv_at hl 2 rfl) ?_
  refine lv_aload_n hx hb dX0_put_38 rfl (lv_at hl 4 rfl) ?_
  refine zv_get hx hb hK hts hown hV_v 2 (by decide) q_fl_RX0_45 (v := .ref ((vad ad v) 15)) rfl dX0_put_39 ?_
  refine z_iconst hx hb dX0_put_42 ?_
  refine zv_aS hx hb hK hV_v (2) (by decide) (i := 2) rfl dX0_put_43 ?_
  refine lv_iload hx hb dX0_put_44 (lv_at hl 0 rfl) ?_
  refine z_iconst hx hb dX0_put_46 ?_
  refine z_ishr1 hx hb dX0_put_47 (by omega) ?_
  refine zv_lS hx hb hK hV_v (2) (by decide) (i := (A 0 (v)) / 2) (by omega) dX0_put_48 ?_
  refine ze_sE (x := (S v) 2 ((A 0 (v)) / 2)) hx hb hK hP hS (2) (by decide) (hD (5 + (2)) (by omega)) (i := i) (by omega) dX0_put_49 (fun H locs hP hz ho hS => ?_)
  refine lv_aload_n hx hb dX0_put_50 rfl (lv_at hl 1 rfl) ?_
  refine ze_get hx hb hK hts hown hP 0 (by decide) q_fl_RX0_11 (v := .ref (ad 3)) rfl dX0_put_51 ?_
  refine z_iconst hx hb dX0_put_54 ?_
  refine ze_aE hx hb hK hP (3) (by decide) (i := 3) rfl dX0_put_55 ?_
  refine lv_iload_n hx hb dX0_put_56 rfl (lv_at hl 2 rfl) ?_
  refine lv_iload hx hb dX0_put_57 (lv_at hl 0 rfl) ?_
  refine k_R (c_SR (As := [.int (zI (A 0 (v)))]) (rest := [.int (zI (i)), .ref (ad (5 + (3)))]) ⟨hx, hb, hml, hown, hts⟩ hG hS hA (c_X0_isBeginning l G (A 0 (v)) (show 0 ≤ (A 0 (v)) ∧ (A 0 (v)) < 400 by omega)) ⟨q_ml_RX0_41, q_st_X0_isBeginning, q_ini_RX0, q_code_X0_isBeginning⟩ hs_X0_isBeginning trivial ⟨by decide, by decide⟩ ⟨Nat.zero_le _, Nat.zero_le _⟩ rfl hl.1 rfl (Nat.le_of_ble_eq_true rfl) dX0_put_59) ?_
  refine z_bif_eq (q := (A 0 (v)) % 2 = 0) (tgt := 69) hx hb dX0_put_62 (by decide) (fun h_62 => ?_) (fun h_62 => ?_)
  · skip
    refine z_iconst hx hb dX0_put_69 ?_
    refine ze_sE (x := 0) hx hb hK hP hS (3) (by decide) (hD (5 + (3)) (by omega)) (i := i) (by omega) dX0_put_70 (fun H locs hP hz ho hS => ?_)
    exact e_Wv hx hb hr hlk hS (by omega) (by omega) (by unfold evPut; first | (rw [← bI_t (p := A 0 v % 2 = 0) (by omega)]; exact hP) | (rw [← bI_f (p := A 0 v % 2 = 0) (by omega)]; exact hP)) dX0_put_71
  · skip
    refine z_iconst hx hb dX0_put_65 ?_
    refine lv_goto (tgt := 70) hx hb dX0_put_66 (by decide) ?_
    refine ze_sE (x := 1) hx hb hK hP hS (3) (by decide) (hD (5 + (3)) (by omega)) (i := i) (by omega) dX0_put_70 (fun H locs hP hz ho hS => ?_)
    exact e_Wv hx hb hr hlk hS (by omega) (by omega) (by unfold evPut; first | (rw [← bI_t (p := A 0 v % 2 = 0) (by omega)]; exact hP) | (rw [← bI_f (p := A 0 v % 2 = 0) (by omega)]; exact hP)) dX0_put_71
