set_option maxHeartbeats 600000 in
theorem c_X2_events (l : Launch) (G : zG) (ad : Nat → Nat) (F : Nat → Int) (A E : Nat → Int → Int) (T P S Av : Int → Nat → Int → Int) (Fv : Int → Nat → Int) (hVC : COK F Fv) : MR l yX2_events cX2_events 1 (some .int) 1 22 G [.ref (ad 0)] (CP G ad F A E T P S Av Fv) (.int (zI (2 * nSou Fv (F 0)))) := by
  refine mr_of hp_X2_events (Nat.le_of_ble_eq_true rfl) ?_
  intro p env s m below meth c ls hB hP hl
  obtain ⟨hx, hb, hml, hr, hlk, hown, hts, hG⟩ := hB
  have hK := hG.1
  have hS : va_S (fun _ => False) s.heap s.heap [] := va_S.rf
  have hA : ∀ q : Nat, (fun _ : Nat => False) q → G.2.2 ≤ q := fun _ h => h.elim
  have hl : lv_has ls 1 [(0, .ref (ad 0))] := hl
  have h0b := hVC.1
  refine lv_aload_n hx hb dX2_events_0 rfl (lv_at hl 0 rfl) ?_
  refine k_R (c_VR (As := []) (rest := []) ⟨hx, hb, hml, hown, hts⟩ hG hS hA (c_X2_countEvents l G ad F A E T P S Av Fv hVC) ⟨q_ml_RX2_183, q_im_X2_countEvents, q_sel_X2_countEvents, q_ini_RX2, q_code_X2_countEvents⟩ hv_X2_countEvents (CP.rec hK hP) hP ⟨by decide, by decide⟩ ⟨Nat.zero_le _, Nat.zero_le _⟩ rfl hl.1 rfl (Nat.le_of_ble_eq_true rfl) dX2_events_1) ?_
  exact e_R (r' := 2 * nSou Fv ((F 0))) hx hb hr hlk (n_i _) (by first | rfl | omega) dX2_events_4
