theorem nSou_rng {F : Nat → Int} {Fv : Int → Nat → Int} (h : COK F Fv) {n : Int} (hn : 0 ≤ n ∧ n ≤ 4) : 0 ≤ nSou Fv n ∧ nSou Fv n ≤ 200 * n := by
  obtain ⟨k, rfl⟩ : ∃ k : Nat, n = (k : Int) := ⟨n.toNat, by omega⟩
  induction k with
  | zero => exact ⟨Int.le_refl 0, Int.le_refl 0⟩
  | succ k ih =>
    have q := ih (by omega)
    have r := (h.2 (k : Int) (by omega) (by omega)).2.2
    have t : nSou Fv ((k : Int) + 1) = nSou Fv (k : Int) + Fv (k : Int) 2 := pf_s _ _ (by omega)
    rw [show ((k + 1 : Nat) : Int) = (k : Int) + 1 by omega, t]
    omega
set_option maxHeartbeats 2000000 in
theorem c_X2_refreshEvents (l : Launch) (G : zG) (ad : Nat → Nat) (F : Nat → Int) (A E : Nat → Int → Int) (T P S Av : Int → Nat → Int → Int) (Fv : Int → Nat → Int) (sz : Nat) (hf4 : F 4 = 0 ∨ F 4 = 1) (hVS : ∀ v j, 0 ≤ v → v < F 0 → 0 ≤ j → j < Fv v 2 → (0 ≤ S v 0 j ∧ S v 0 j ≤ 1000000) ∧ (0 ≤ S v 1 j ∧ S v 1 j ≤ 1000000)) (hVC : COK F Fv) : MW l yX2_refreshEvents cX2_refreshEvents 1 none 5 113 (0) (0) G [.ref (ad 0)] (fA 94 ad sz) sz (CP G ad F A E T P S Av Fv) (QV (fA 94 ad sz) (fun H => (¬ F 4 = 0 ∧ CP G ad F A E T P S Av Fv H) ∨ (F 4 = 0 ∧ CP G ad (zN F 4 1) (zW A 0 (mgF Fv S (F 0) E (A 0) (2 * nSou Fv (F 0))).2) (mgF Fv S (F 0) E (A 0) (2 * nSou Fv (F 0))).1 T P S Av Fv H))) := by
  refine mw_of hp_X2_refreshEvents (Nat.le_of_ble_eq_true rfl) ?_
  intro p env s m below meth c ls hB hsz hP hl
  obtain ⟨hx, hb, hml, hr, hlk, hown, hts, hG⟩ := hB
  subst hsz
  have hK := hG.1
  have hS : va_S (fA 94 ad s.heap.size) s.heap s.heap [] := va_S.rf
  have hA : ∀ q : Nat, (fA 94 ad s.heap.size) q → G.2.2 ≤ q := fA_lo hP.1.2 hG.2.1
  have hD : ∀ k, k < 94 → (fA 94 ad s.heap.size) (ad k) := fun k hk => fA_in hk
  have hl : lv_has ls 1 [(0, .ref (ad 0))] := hl
  have h0b := hVC.1
  have hns := nSou_rng hVC (n := F 0) hVC.1
  refine lv_aload_n hx hb dX2_refreshEvents_0 rfl (lv_at hl 0 rfl) ?_
  refine zs_get hx hb hK hts hown hP 7 (by decide) q_fl_RX2_39 (v := .int (zI (F 4))) rfl dX2_refreshEvents_1 ?_
  refine z_if_ne (a := F 4) (tgt := 31) hx hb dX2_refreshEvents_4 (by decide) (by omega) (fun h_4 => ?_) (fun h_4 => ?_)
  · skip
    exact e_Wv hx hb hr hlk hS (by omega) (by omega) (by first | exact Or.inl ⟨h_4, hP⟩ | exact Or.inr ⟨by omega, hP⟩) dX2_refreshEvents_31
  · skip
    refine lv_aload_n hx hb dX2_refreshEvents_7 rfl (lv_at hl 0 rfl) ?_
    refine zs_get hx hb hK hts hown hP 1 (by decide) q_fl_RX2_18 (v := .ref (ad 2)) rfl dX2_refreshEvents_8 ?_
    refine lv_aload_n hx hb dX2_refreshEvents_11 rfl (lv_at hl 0 rfl) ?_
    refine zs_get hx hb hK hts hown hP 0 (by decide) q_fl_RX2_11 (v := .ref (ad 1)) rfl dX2_refreshEvents_12 ?_
    refine lv_aload_n hx hb dX2_refreshEvents_15 rfl (lv_at hl 0 rfl) ?_
    refine zs_get hx hb hK hts hown hP 3 (by decide) q_fl_RX2_26 (v := .int (zI (F 0))) rfl dX2_refreshEvents_16 ?_
    refine lv_aload_n hx hb dX2_refreshEvents_19 rfl (lv_at hl 0 rfl) ?_
    refine k_R (c_VR (As := []) (rest := [.int (zI (F 0)), .ref (ad 1), .ref (ad 2)]) ⟨hx, hb, hml, hown, hts⟩ hG hS hA (c_X2_countEvents l G ad F A E T P S Av Fv hVC) ⟨q_ml_RX2_183, q_im_X2_countEvents, q_sel_X2_countEvents, q_ini_RX2, q_code_X2_countEvents⟩ hv_X2_countEvents (CP.rec hK hP) hP ⟨by decide, by decide⟩ ⟨Nat.zero_le _, Nat.zero_le _⟩ rfl hl.1 rfl (Nat.le_of_ble_eq_true rfl) dX2_refreshEvents_20) ?_
    refine k_Wv (c_VW (As := [.ref (ad 1), .int (zI (F 0)), .int (zI (2 * nSou Fv ((F 0))))]) (rest := []) ⟨hx, hb, hml, hown, hts⟩ hG hS hA (c_X0_merge l G ad F A E T P S Av Fv (F 0) (2 * nSou Fv ((F 0))) s.heap.size (by omega) (by omega) hVS hVC) ⟨q_ml_RX2_280, q_im_X0_merge, q_sel_X0_merge, q_ini_RX0, q_code_X0_merge⟩ hv_X0_merge (CP.recE hK hP) hP ⟨by decide, by decide⟩ ⟨Nat.zero_le _, Nat.zero_le _⟩ rfl hl.1 rfl (Nat.le_of_ble_eq_true rfl) dX2_refreshEvents_23) hS (fA_mono hS.1) (fun H1 locs1 hq hz1 hk1 hS => ?_)
    have hP := hq
    refine lv_aload_n hx hb dX2_refreshEvents_26 rfl (lv_at hl 0 rfl) ?_
    refine z_iconst hx hb dX2_refreshEvents_27 ?_
    refine zs_put (x := 1) hx hb hK hts hown hP hS (hD 0 (by decide)) 4 (by decide) (by first | exact bI_01 _ | decide | omega) q_fl_RX2_39 dX2_refreshEvents_28 (fun H locs hP hz ho hS => ?_)
    exact e_Wv hx hb hr hlk hS (by omega) (by omega) (by first | exact Or.inl ⟨h_4, hP⟩ | exact Or.inr ⟨by omega, hP⟩) dX2_refreshEvents_31
