def tkE (S : Nat → Int → Int) (k : Int) : Int := if k % 2 = 0 then S 0 (k / 2) else S 1 (k / 2)
set_option maxHeartbeats 600000 in
theorem c_X0_isBeginning (l : Launch) (G : zG)  (k : Int) (hk : 0 ≤ k ∧ k < 400) : MR l yX0_isBeginning cX0_isBeginning 1 (some .boolean) 0 0 G [.int (zI (k))] ((fun _ => True)) (.int (zI (bI (k % 2 = 0)))) := by
  refine mr_of hp_X0_isBeginning (Nat.le_of_ble_eq_true rfl) ?_
  intro p env s m below meth c ls hB hP hl
  obtain ⟨hx, hb, hml, hr, hlk, hown, hts, hG⟩ := hB
  have hK := hG.1
  have hS : va_S (fun _ => False) s.heap s.heap [] := va_S.rf
  have hA : ∀ q : Nat, (fun _ : Nat => False) q → G.2.2 ≤ q := fun _ h => h.elim
  have hl : lv_has ls 1 [(0, .int (zI (k)))] := hl
  refine lv_iload_n hx hb dX0_isBeginning_0 rfl (lv_at hl 0 rfl) ?_
  refine z_iconst hx hb dX0_isBeginning_1 ?_
  refine z_iand1 hx hb dX0_isBeginning_2 (by omega) ?_
  refine z_if_ne (a := (k) % 2) (tgt := 10) hx hb dX0_isBeginning_3 (by decide) (by omega) (fun h_3 => ?_) (fun h_3 => ?_)
  · skip
    refine z_iconst hx hb dX0_isBeginning_10 ?_
    exact e_R (r' := 0) hx hb hr hlk (n_z (by first | exact bI_01 _ | (left; rfl) | (right; rfl) | omega)) (bI_f (by omega)) dX0_isBeginning_11
  · skip
    refine z_iconst hx hb dX0_isBeginning_6 ?_
    refine lv_goto (tgt := 11) hx hb dX0_isBeginning_7 (by decide) ?_
    exact e_R (r' := 1) hx hb hr hlk (n_z (by first | exact bI_01 _ | (left; rfl) | (right; rfl) | omega)) (bI_t (by omega)) dX0_isBeginning_11
set_option maxHeartbeats 600000 in
theorem c_X0_tickOf (l : Launch) (G : zG) (ad : Nat → Nat) (T P S A : Nat → Int → Int) (F : Nat → Int) (k : Int) (hk : 0 ≤ k ∧ k < 400) : MR l yX0_tickOf cX0_tickOf 2 (some .int) 1 20 G [.ref (ad 0), .int (zI (k))] (VP G ad T P S A F) (.int (zI (tkE S k))) := by
  refine mr_of hp_X0_tickOf (Nat.le_of_ble_eq_true rfl) ?_
  intro p env s m below meth c ls hB hP hl
  obtain ⟨hx, hb, hml, hr, hlk, hown, hts, hG⟩ := hB
  have hK := hG.1
  have hS : va_S (fun _ => False) s.heap s.heap [] := va_S.rf
  have hA : ∀ q : Nat, (fun _ : Nat => False) q → G.2.2 ≤ q := fun _ h => h.elim
  have hl : lv_has ls 2 [(0, .ref (ad 0)), (1, .int (zI (k)))] := hl
  refine lv_aload_n hx hb dX0_tickOf_0 rfl (lv_at hl 0 rfl) ?_
  refine zv_get hx hb hK hts hown hP 2 (by decide) q_fl_RX0_45 (v := .ref (ad 15)) rfl dX0_tickOf_1 ?_
  refine lv_iload_n hx hb dX0_tickOf_4 rfl (lv_at hl 1 rfl) ?_
  refine k_R (c_SR (As := [.int (zI (k))]) (rest := [.ref (ad 15)]) ⟨hx, hb, hml, hown, hts⟩ hG hS hA (c_X0_isBeginning l G k (show 0 ≤ k ∧ k < 400 by omega)) ⟨q_ml_RX0_41, q_st_X0_isBeginning, q_ini_RX0, q_code_X0_isBeginning⟩ hs_X0_isBeginning trivial ⟨by decide, by decide⟩ ⟨Nat.zero_le _, Nat.zero_le _⟩ rfl hl.1 rfl (Nat.le_of_ble_eq_true rfl) dX0_tickOf_5) ?_
  refine z_bif_eq (q := k % 2 = 0) (tgt := 15) hx hb dX0_tickOf_8 (by decide) (fun h_8 => ?_) (fun h_8 => ?_)
  · skip
    refine z_iconst hx hb dX0_tickOf_15 ?_
    refine zv_aS hx hb hK hP (1) (by decide) (i := 1) rfl dX0_tickOf_16 ?_
    refine lv_iload_n hx hb dX0_tickOf_17 rfl (lv_at hl 1 rfl) ?_
    refine z_iconst hx hb dX0_tickOf_18 ?_
    refine z_ishr1 hx hb dX0_tickOf_19 (by omega) ?_
    refine zv_lS hx hb hK hP (1) (by decide) (i := (k) / 2) (by omega) dX0_tickOf_20 ?_
    exact e_R (r' := S 1 ((k) / 2)) hx hb hr hlk (n_i _) (by first | rfl | omega | (simp only [tkE]; (repeat' split) <;> omega)) dX0_tickOf_21
  · skip
    refine z_iconst hx hb dX0_tickOf_11 ?_
    refine lv_goto (tgt := 16) hx hb dX0_tickOf_12 (by decide) ?_
    refine zv_aS hx hb hK hP (0) (by decide) (i := 0) rfl dX0_tickOf_16 ?_
    refine lv_iload_n hx hb dX0_tickOf_17 rfl (lv_at hl 1 rfl) ?_
    refine z_iconst hx hb dX0_tickOf_18 ?_
    refine z_ishr1 hx hb dX0_tickOf_19 (by omega) ?_
    refine zv_lS hx hb hK hP (0) (by decide) (i := (k) / 2) (by omega) dX0_tickOf_20 ?_
    exact e_R (r' := S 0 ((k) / 2)) hx hb hr hlk (n_i _) (by first | rfl | omega | (simp only [tkE]; (repeat' split) <;> omega)) dX0_tickOf_21
set_option maxHeartbeats 600000 in
theorem c_X0_rankOf (l : Launch) (G : zG) (ad : Nat → Nat) (T P S A : Nat → Int → Int) (F : Nat → Int) (k : Int) (hk : 0 ≤ k ∧ k < 400) : MR l yX0_rankOf cX0_rankOf 2 (some .int) 2 41 G [.ref (ad 0), .int (zI (k))] (VP G ad T P S A F) (.int (zI (2 * tkE S k + bI (k % 2 = 0)))) := by
  refine mr_of hp_X0_rankOf (Nat.le_of_ble_eq_true rfl) ?_
  intro p env s m below meth c ls hB hP hl
  obtain ⟨hx, hb, hml, hr, hlk, hown, hts, hG⟩ := hB
  have hK := hG.1
  have hS : va_S (fun _ => False) s.heap s.heap [] := va_S.rf
  have hA : ∀ q : Nat, (fun _ : Nat => False) q → G.2.2 ≤ q := fun _ h => h.elim
  have hl : lv_has ls 2 [(0, .ref (ad 0)), (1, .int (zI (k)))] := hl
  refine z_iconst hx hb dX0_rankOf_0 ?_
  refine lv_aload_n hx hb dX0_rankOf_1 rfl (lv_at hl 0 rfl) ?_
  refine lv_iload_n hx hb dX0_rankOf_2 rfl (lv_at hl 1 rfl) ?_
  refine k_R (c_SR (As := [.ref (ad 0), .int (zI (k))]) (rest := [.int (zI (2))]) ⟨hx, hb, hml, hown, hts⟩ hG hS hA (c_X0_tickOf l G ad T P S A F k (show 0 ≤ k ∧ k < 400 by omega)) ⟨q_ml_RX0_38, q_st_X0_tickOf, q_ini_RX0, q_code_X0_tickOf⟩ hs_X0_tickOf hP ⟨by decide, by decide⟩ ⟨Nat.zero_le _, Nat.zero_le _⟩ rfl hl.1 rfl (Nat.le_of_ble_eq_true rfl) dX0_rankOf_3) ?_
  refine z_imul (x := 2) (y := tkE S k) hx hb dX0_rankOf_6 ?_
  refine lv_iload_n hx hb dX0_rankOf_7 rfl (lv_at hl 1 rfl) ?_
  refine k_R (c_SR (As := [.int (zI (k))]) (rest := [.int (zI ((2) * (tkE S k)))]) ⟨hx, hb, hml, hown, hts⟩ hG hS hA (c_X0_isBeginning l G k (show 0 ≤ k ∧ k < 400 by omega)) ⟨q_ml_RX0_41, q_st_X0_isBeginning, q_ini_RX0, q_code_X0_isBeginning⟩ hs_X0_isBeginning trivial ⟨by decide, by decide⟩ ⟨Nat.zero_le _, Nat.zero_le _⟩ rfl hl.1 rfl (Nat.le_of_ble_eq_true rfl) dX0_rankOf_8) ?_
  refine z_bif_eq (q := k % 2 = 0) (tgt := 18) hx hb dX0_rankOf_11 (by decide) (fun h_11 => ?_) (fun h_11 => ?_)
  · skip
    refine z_iconst hx hb dX0_rankOf_18 ?_
    refine z_iadd (x := (2) * (tkE S k)) (y := 0) hx hb dX0_rankOf_19 ?_
    exact e_R (r' := ((2) * (tkE S k)) + (0)) hx hb hr hlk (n_i _) (by unfold bI; first | rw [if_pos (by omega)] | rw [if_neg (by omega)]) dX0_rankOf_20
  · skip
    refine z_iconst hx hb dX0_rankOf_14 ?_
    refine lv_goto (tgt := 19) hx hb dX0_rankOf_15 (by decide) ?_
    refine z_iadd (x := (2) * (tkE S k)) (y := 1) hx hb dX0_rankOf_19 ?_
    exact e_R (r' := ((2) * (tkE S k)) + (1)) hx hb hr hlk (n_i _) (by unfold bI; first | rw [if_pos (by omega)] | rw [if_neg (by omega)]) dX0_rankOf_20
