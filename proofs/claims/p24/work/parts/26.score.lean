set_option maxHeartbeats 2000000 in
theorem c_X2_arrangeOne (l : Launch) (G : zG) (ad : Nat → Nat) (F : Nat → Int) (A E : Nat → Int → Int) (T P S Av : Int → Nat → Int → Int) (Fv : Int → Nat → Int) (v : Int) (sz : Nat) (hv : 0 ≤ v ∧ v < 4) (hk9 : -7 ≤ F 3 ∧ F 3 ≤ 7) (hb99 : 0 < F 1 ∧ F 1 ≤ 1000000) (hVv : VOK (T v) (P v) (Fv v 0) ∧ ∀ p, 0 ≤ p → p < 63 → -2 ≤ Av v 1 p ∧ Av v 1 p ≤ 2) : MW l yX2_arrangeOne cX2_arrangeOne 2 none 5 109 (0) (0) G [.ref (ad 0), .ref (vad ad v 0)] (fA 94 ad sz) sz (CP G ad F A E T P S Av Fv) (QV (fA 94 ad sz) (fun H => CP G ad (zN F 4 0) A E (zV T v (arT (T v) (P v) (Av v) (Fv v 0) (F 3) (F 1))) P (zV S v (arSo (T v) (S v) (Fv v 0)).2) (zV Av v (arSg (T v) (P v) (Av v) (Fv v 0) (F 3)).2.1) (zV Fv v (arF (T v) (P v) (S v) (Av v) (Fv v) (Fv v 0) (F 3) (F 1))) H)) := by
  refine mw_of hp_X2_arrangeOne (Nat.le_of_ble_eq_true rfl) ?_
  intro p env s m below meth c ls hB hsz hP hl
  obtain ⟨hx, hb, hml, hr, hlk, hown, hts, hG⟩ := hB
  subst hsz
  have hK := hG.1
  have hS : va_S (fA 94 ad s.heap.size) s.heap s.heap [] := va_S.rf
  have hA : ∀ q : Nat, (fA 94 ad s.heap.size) q → G.2.2 ≤ q := fA_lo hP.1.2 hG.2.1
  have hD : ∀ k, k < 94 → (fA 94 ad s.heap.size) (ad k) := fun k hk => fA_in hk
  have hl : lv_has ls 2 [(0, .ref (ad 0)), (1, .ref (vad ad v 0))] := hl
  have hV_v := CP.voice hP v hv
  refine lv_aload_n hx hb dX2_arrangeOne_0 rfl (lv_at hl 1 rfl) ?_
  refine lv_aload_n hx hb dX2_arrangeOne_1 rfl (lv_at hl 0 rfl) ?_
  refine zs_get hx hb hK hts hown hP 6 (by decide) q_fl_RX2_36 (v := .int (zI (F 3))) rfl dX2_arrangeOne_2 ?_
  refine lv_aload_n hx hb dX2_arrangeOne_5 rfl (lv_at hl 0 rfl) ?_
  refine zs_get hx hb hK hts hown hP 4 (by decide) q_fl_RX2_30 (v := .int (zI (F 1))) rfl dX2_arrangeOne_6 ?_
  refine k_Wv (c_VW (As := [.int (zI (F 3)), .int (zI (F 1))]) (rest := []) ⟨hx, hb, hml, hown, hts⟩ hG hS hA (c_X1_arrange l G (vad ad v) (T v) (P v) (S v) (Av v) (Fv v) (F 3) (F 1) s.heap.size hk9 hb99 hVv.1 hVv.2) ⟨q_ml_RX2_226, q_im_X1_arrange, q_sel_X1_arrange, q_ini_RX1, q_code_X1_arrange⟩ hv_X1_arrange (VP.rec hK hV_v) hV_v ⟨by decide, by decide⟩ ⟨Nat.zero_le _, Nat.zero_le _⟩ rfl hl.1 rfl (Nat.le_of_ble_eq_true rfl) dX2_arrangeOne_9) hS (fA_v hv hS.1) (fun H1 locs1 hq hz1 hk1 hS => ?_)
  have hP := CP.putF hP v hv hq hk1
  rw [show zV P v (P v) = P from zV_id P v] at hP
  refine lv_aload_n hx hb dX2_arrangeOne_12 rfl (lv_at hl 0 rfl) ?_
  refine z_iconst hx hb dX2_arrangeOne_13 ?_
  refine zs_put (x := 0) hx hb hK hts hown hP hS (hD 0 (by decide)) 4 (by decide) (by first | exact bI_01 _ | decide | omega) q_fl_RX2_39 dX2_arrangeOne_14 (fun H locs hP hz ho hS => ?_)
  exact e_Wv hx hb hr hlk hS (by omega) (by omega) hP dX2_arrangeOne_17
