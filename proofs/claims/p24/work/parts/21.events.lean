def tkE (S : Nat → Int → Int) (k : Int) : Int := if k % 2 = 0 then S 0 (k / 2) else S 1 (k / 2)
set_option maxHeartbeats 600000 in
theorem c_X0_isBeginning (l : Launch) (G : zG)  (k : Int) (hk : 0 ≤ k ∧ k < 400) : MR l yX0_isBeginning cX0_isBeginning 1 (some .boolean) 0 0 G [.int (zI (k))] ((fun _ => True)) (.int (zI (bI (k % 2 = 0)))) := by
  refine mr_of hp_X0_isBeginning (Nat.le_of_ble_eq_true rfl) ?_
  intro p env s m below meth c ls hB hP hl
  obtain ⟨hx, hb, hml, hr, hlk, hown, hts, hG⟩ := hB
  have hK := hG.1
  have hS : va_S (fun _ => False) s.heap s.heap [] := va_S.rf
  have hA : ∀ q : Nat, (fun _ : Nat => False) q → G.2.2 ≤ q := fun _ h => h.elim
  have hl : lv_has ls 1 [(0, .int (zI (k)))] := hl
  refine lv_iload_n hx hb dX0_isBeginning_0 rfl (lv_at hl 0 rfl) ?_
  refine z_iconst hx hb dX0_isBeginning_1 ?_
  refine z_iand1 hx hb dX0_isBeginning_2 (by omega) ?_
  refine z_if_ne (a := (k) % 2) (tgt := 10) hx hb dX0_isBeginning_3 (by decide) (by omega) (fun h_3 => ?_) (fun h_3 => ?_)
  · skip
    refine z_iconst hx hb dX0_isBeginning_10 ?_
    exact e_R (r' := 0) hx hb hr hlk (n_z (by first | exact bI_01 _ | (left; rfl) | (right; rfl) | omega)) (bI_f (by omega)) dX0_isBeginning_11
  · skip
    refine z_iconst hx hb dX0_isBeginning_6 ?_
    refine lv_goto (tgt := 11) hx hb dX0_isBeginning_7 (by decide) ?_
    exact e_R (r' := 1) hx hb hr hlk (n_z (by first | exact bI_01 _ | (left; rfl) | (right; rfl) | omega)) (bI_t (by omega)) dX0_isBeginning_11
set_option maxHeartbeats 600000 in
theorem c_X0_tickOf (l : Launch) (G : zG) (ad : Nat → Nat) (T P S A : Nat → Int → Int) (F : Nat → Int) (k : Int) (hk : 0 ≤ k ∧ k < 400) : MR l yX0_tickOf cX0_tickOf 2 (some .int) 1 20 G [.ref (ad 0), .int (zI (k))] (VP G ad T P S A F) (.int (zI (tkE S k))) := by
  refine mr_of hp_X0_tickOf (Nat.le_of_ble_eq_true rfl) ?_
  intro p env s m below meth c ls hB hP hl
  obtain ⟨hx, hb, hml, hr, hlk, hown, hts, hG⟩ := hB
  have hK := hG.1
  have hS : va_S (fun _ => False) s.heap s.heap [] := va_S.rf
  have hA : ∀ q : Nat, (fun _ : Nat => False) q → G.2.2 ≤ q := fun _ h => h.elim
  have hl : lv_has ls 2 [(0, .ref (ad 0)), (1, .int (zI (k)))] := hl
  refine lv_aload_n hx hb dX0_tickOf_0 rfl (lv_at hl 0 rfl) ?_
  refine zv_get hx hb hK hts hown hP 2 (by decide) q_fl_RX0_45 (v := .ref (ad 15)) rfl dX0_tickOf_1 ?_
  refine lv_iload_n hx hb dX0_tickOf_4 rfl (lv_at hl 1 rfl) ?_
  refine k_R (c_SR (As := [.int (zI (k))]) (rest := [.ref (ad 15)]) ⟨hx, hb, hml, hown, hts⟩ hG hS hA (c_X0_isBeginning l G k (show 0 ≤ k ∧ k < 400 by omega)) ⟨q_ml_RX0_41, q_st_X0_isBeginning, q_ini_RX0, q_code_X0_isBeginning⟩ hs_X0_isBeginning trivial ⟨by decide, by decide⟩ ⟨Nat.zero_le _, Nat.zero_le _⟩ rfl hl.1 rfl (Nat.le_of_ble_eq_true rfl) dX0_tickOf_5) ?_
  refine z_bif_eq (q := k % 2 = 0) (tgt := 15) hx hb dX0_tickOf_8 (by decide) (fun h_8 => ?_) (fun h_8 => ?_)
  · skip
    refine z_iconst hx hb dX0_tickOf_15 ?_
    refine zv_aS hx hb hK hP (1) (by decide) (i := 1) rfl dX0_tickOf_16 ?_
    refine lv_iload_n hx hb dX0_tickOf_17 rfl (lv_at hl 1 rfl) ?_
    refine z_iconst hx hb dX0_tickOf_18 ?_
    refine z_ishr1 hx hb dX0_tickOf_19 (by omega) ?_
    refine zv_lS hx hb hK hP (1) (by decide) (i := (k) / 2) (by omega) dX0_tickOf_20 ?_
    exact e_R (r' := S 1 ((k) / 2)) hx hb hr hlk (n_i _) (by first | rfl | omega | (simp only [tkE]; (repeat' split) <;> omega)) dX0_tickOf_21
  · skip
    refine z_iconst hx hb dX0_tickOf_11 ?_
    refine lv_goto (tgt := 16) hx hb dX0_tickOf_12 (by decide) ?_
    refine zv_aS hx hb hK hP (0) (by decide) (i := 0) rfl dX0_tickOf_16 ?_
    refine lv_iload_n hx hb dX0_tickOf_17 rfl (lv_at hl 1 rfl) ?_
    refine z_iconst hx hb dX0_tickOf_18 ?_
    refine z_ishr1 hx hb dX0_tickOf_19 (by omega) ?_
    refine zv_lS hx hb hK hP (0) (by decide) (i := (k) / 2) (by omega) dX0_tickOf_20 ?_
    exact e_R (r' := S 0 ((k) / 2)) hx hb hr hlk (n_i _) (by first | rfl | omega | (simp only [tkE]; (repeat' split) <;> omega)) dX0_tickOf_21
set_option maxHeartbeats 600000 in
theorem c_X0_rankOf (l : Launch) (G : zG) (ad : Nat → Nat) (T P S A : Nat → Int → Int) (F : Nat → Int) (k : Int) (hk : 0 ≤ k ∧ k < 400) : MR l yX0_rankOf cX0_rankOf 2 (some .int) 2 41 G [.ref (ad 0), .int (zI (k))] (VP G ad T P S A F) (.int (zI (2 * tkE S k + bI (k % 2 = 0)))) := by
  refine mr_of hp_X0_rankOf (Nat.le_of_ble_eq_true rfl) ?_
  intro p env s m below meth c ls hB hP hl
  obtain ⟨hx, hb, hml, hr, hlk, hown, hts, hG⟩ := hB
  have hK := hG.1
  have hS : va_S (fun _ => False) s.heap s.heap [] := va_S.rf
  have hA : ∀ q : Nat, (fun _ : Nat => False) q → G.2.2 ≤ q := fun _ h => h.elim
  have hl : lv_has ls 2 [(0, .ref (ad 0)), (1, .int (zI (k)))] := hl
  refine z_iconst hx hb dX0_rankOf_0 ?_
  refine lv_aload_n hx hb dX0_rankOf_1 rfl (lv_at hl 0 rfl) ?_
  refine lv_iload_n hx hb dX0_rankOf_2 rfl (lv_at hl 1 rfl) ?_
  refine k_R (c_SR (As := [.ref (ad 0), .int (zI (k))]) (rest := [.int (zI (2))]) ⟨hx, hb, hml, hown, hts⟩ hG hS hA (c_X0_tickOf l G ad T P S A F k (show 0 ≤ k ∧ k < 400 by omega)) ⟨q_ml_RX0_38, q_st_X0_tickOf, q_ini_RX0, q_code_X0_tickOf⟩ hs_X0_tickOf hP ⟨by decide, by decide⟩ ⟨Nat.zero_le _, Nat.zero_le _⟩ rfl hl.1 rfl (Nat.le_of_ble_eq_true rfl) dX0_rankOf_3) ?_
  refine z_imul (x := 2) (y := tkE S k) hx hb dX0_rankOf_6 ?_
  refine lv_iload_n hx hb dX0_rankOf_7 rfl (lv_at hl 1 rfl) ?_
  refine k_R (c_SR (As := [.int (zI (k))]) (rest := [.int (zI ((2) * (tkE S k)))]) ⟨hx, hb, hml, hown, hts⟩ hG hS hA (c_X0_isBeginning l G k (show 0 ≤ k ∧ k < 400 by omega)) ⟨q_ml_RX0_41, q_st_X0_isBeginning, q_ini_RX0, q_code_X0_isBeginning⟩ hs_X0_isBeginning trivial ⟨by decide, by decide⟩ ⟨Nat.zero_le _, Nat.zero_le _⟩ rfl hl.1 rfl (Nat.le_of_ble_eq_true rfl) dX0_rankOf_8) ?_
  refine z_bif_eq (q := k % 2 = 0) (tgt := 18) hx hb dX0_rankOf_11 (by decide) (fun h_11 => ?_) (fun h_11 => ?_)
  · skip
    refine z_iconst hx hb dX0_rankOf_18 ?_
    refine z_iadd (x := (2) * (tkE S k)) (y := 0) hx hb dX0_rankOf_19 ?_
    exact e_R (r' := ((2) * (tkE S k)) + (0)) hx hb hr hlk (n_i _) (by unfold bI; first | rw [if_pos (by omega)] | rw [if_neg (by omega)]) dX0_rankOf_20
  · skip
    refine z_iconst hx hb dX0_rankOf_14 ?_
    refine lv_goto (tgt := 19) hx hb dX0_rankOf_15 (by decide) ?_
    refine z_iadd (x := (2) * (tkE S k)) (y := 1) hx hb dX0_rankOf_19 ?_
    exact e_R (r' := ((2) * (tkE S k)) + (1)) hx hb hr hlk (n_i _) (by unfold bI; first | rw [if_pos (by omega)] | rw [if_neg (by omega)]) dX0_rankOf_20
def rkE (S : Int → Nat → Int → Int) (dn : Int → Int) (v : Int) : Int := 2 * tkE (S v) (dn v) + bI (dn v % 2 = 0)
def feS (Fv : Int → Nat → Int) (S : Int → Nat → Int → Int) (dn : Int → Int) (v : Int) (z : Int × Int) : Int × Int := if dn v < 2 * Fv v 2 then (if z.1 < 0 ∨ rkE S dn v < z.2 then (v, rkE S dn v) else z) else z
def feF (Fv : Int → Nat → Int) (S : Int → Nat → Int → Int) (dn : Int → Int) : Int → Int × Int := pf (-1, 0) (feS Fv S dn)
theorem feF_s (Fv : Int → Nat → Int) (S : Int → Nat → Int → Int) (dn : Int → Int) {v : Int} (h : 0 ≤ v) : feF Fv S dn (v + 1) = feS Fv S dn v (feF Fv S dn v) := pf_s _ _ h
set_option maxHeartbeats 600000 in
theorem c_X0_findEarliest (l : Launch) (G : zG) (ad : Nat → Nat) (F : Nat → Int) (A E : Nat → Int → Int) (T P S Av : Int → Nat → Int → Int) (Fv : Int → Nat → Int) (c9 : Int) (hc : 0 ≤ c9 ∧ c9 ≤ 4) (hVd : ∀ v, 0 ≤ v → v < c9 → 0 ≤ A 0 v ∧ A 0 v ≤ 2 * Fv v 2) (hVr : ∀ v, 0 ≤ v → v < c9 → A 0 v < 2 * Fv v 2 → -1000000000 ≤ rkE S (A 0) v ∧ rkE S (A 0) v ≤ 1000000000) (hVC : COK F Fv) : MR l yX0_findEarliest cX0_findEarliest 7 (some .int) 3 62 G [.ref (ad 2), .ref (ad 1), .int (zI (c9))] (CP G ad F A E T P S Av Fv) (.int (zI ((feF Fv S (A 0) c9).1))) := by
  refine mr_of hp_X0_findEarliest (Nat.le_of_ble_eq_true rfl) ?_
  intro p env s m below meth c ls hB hP hl
  obtain ⟨hx, hb, hml, hr, hlk, hown, hts, hG⟩ := hB
  have hK := hG.1
  have hS : va_S (fun _ => False) s.heap s.heap [] := va_S.rf
  have hA : ∀ q : Nat, (fun _ : Nat => False) q → G.2.2 ≤ q := fun _ h => h.elim
  have hl : lv_has ls 7 [(0, .ref (ad 2)), (1, .ref (ad 1)), (2, .int (zI (c9)))] := hl
  refine z_iconst hx hb dX0_findEarliest_0 ?_
  refine lv_istore_n (lv' := [(3, .int (zI (-1))), (0, .ref (ad 2)), (1, .ref (ad 1)), (2, .int (zI (c9)))]) hx hb dX0_findEarliest_1 rfl hl (by decide) rfl (fun ls hl => ?_)
  refine z_iconst hx hb dX0_findEarliest_2 ?_
  refine lv_istore (lv' := [(4, .int (zI (0))), (3, .int (zI (-1))), (0, .ref (ad 2)), (1, .ref (ad 1)), (2, .int (zI (c9)))]) hx hb dX0_findEarliest_3 hl (by decide) rfl (fun ls hl => ?_)
  refine z_iconst hx hb dX0_findEarliest_5 ?_
  refine lv_istore (lv' := [(5, .int (zI (0))), (4, .int (zI (0))), (3, .int (zI (-1))), (0, .ref (ad 2)), (1, .ref (ad 1)), (2, .int (zI (c9)))]) hx hb dX0_findEarliest_6 hl (by decide) rfl (fun ls hl => ?_)
  have lp_8 : ∀ (n : Nat) (i a b : Int), 0 ≤ i → i ≤ c9 → feF Fv S (A 0) i = (a, b) → (-1 ≤ a ∧ a < 4) → (-1000000000 ≤ b ∧ b ≤ 1000000000) → c9 - i < n → ∀ (ls : Array Slot), lv_has ls 7 [(5, .int (zI (i))), (4, .int (zI (b))), (3, .int (zI (a))), (0, .ref (ad 2)), (1, .ref (ad 1)), (2, .int (zI (c9)))] → W p l env (rmz 3 62 0 0) s m (([.ref (ad 2), .ref (ad 1), .int (zI (c9))] : List Value).toArray) below meth c s.heap [] 0 0 (MQ below (QR (.int (zI ((feF Fv S (A 0) c9).1)))) (([.ref (ad 2), .ref (ad 1), .int (zI (c9))] : List Value).toArray) s 0 0 (fun _ => False)) (F0 m 8 ls []) := by
    intro n
    induction n with
    | zero => intro i a b h0 h1 h2 h3 h4 hm ls hl; exact absurd hm (by omega)
    | succ n ih =>
      intro i a b h0 h1 h2 h3 h4 hm ls hl
      have hs := feF_s Fv S (A 0) h0
      have hvi := hVC.2 i h0
      have hdi := hVd i h0
      have hri := hVr i h0
      refine lv_iload hx hb dX0_findEarliest_8 (lv_at hl 0 rfl) ?_
      refine lv_iload_n hx hb dX0_findEarliest_10 rfl (lv_at hl 5 rfl) ?_
      refine z_icmp_ge (a := i) (b := c9) (tgt := 73) hx hb dX0_findEarliest_11 (by decide) (by omega) (by omega) (fun h_11 => ?_) (fun h_11 => ?_)
      · skip
        refine lv_iload_n hx hb dX0_findEarliest_73 rfl (lv_at hl 2 rfl) ?_
        exact e_R (r' := a) hx hb hr hlk (n_i _) (by rw [show c9 = i by omega, h2]) dX0_findEarliest_74
      · skip
        have hvi := hvi (by omega)
        have hdi := hdi (by omega)
        have hri := hri (by omega)
        refine lv_aload_n hx hb dX0_findEarliest_14 rfl (lv_at hl 3 rfl) ?_
        refine ze_get hx hb hK hts hown hP 1 (by decide) q_fl_RX0_16 (v := .ref (ad 4)) rfl dX0_findEarliest_15 ?_
        refine lv_iload hx hb dX0_findEarliest_18 (lv_at hl 0 rfl) ?_
        refine zs_lA0 hx hb hK hP (i := i) (by omega) dX0_findEarliest_20 ?_
        refine z_iconst hx hb dX0_findEarliest_21 ?_
        refine lv_aload_n hx hb dX0_findEarliest_22 rfl (lv_at hl 4 rfl) ?_
        refine lv_iload hx hb dX0_findEarliest_23 (lv_at hl 0 rfl) ?_
        refine zs_aV hx hb hK hP (i := i) (by omega) dX0_findEarliest_25 ?_
        have hV_i : VP G (vad ad (i)) (T (i)) (P (i)) (S (i)) (Av (i)) (Fv (i)) s.heap := CP.voice hP (i) (by omega)
        refine zv_get hx hb hK hts hown hV_i 7 (by decide) q_fl_RX0_28 (v := .int (zI ((Fv (i)) 2))) rfl dX0_findEarliest_26 ?_
        refine z_imul (x := 2) (y := (Fv (i)) 2) hx hb dX0_findEarliest_29 ?_
        refine z_icmp_ge (a := A 0 (i)) (b := (2) * ((Fv (i)) 2)) (tgt := 67) hx hb dX0_findEarliest_30 (by decide) (by omega) (by omega) (fun h_30 => ?_) (fun h_30 => ?_)
        · skip
          refine z_iinc (lv' := [(5, .int (zI (i + 1))), (4, .int (zI (b))), (3, .int (zI (a))), (0, .ref (ad 2)), (1, .ref (ad 1)), (2, .int (zI (c9)))]) hx hb dX0_findEarliest_67 hl (k := 0) rfl (by decide) rfl (fun ls hl => ?_)
          refine lv_goto (tgt := 8) hx hb dX0_findEarliest_70 (by decide) ?_
          exact ih (i + 1) (a) (b) (by omega) (by omega) (by rw [hs, h2]; unfold feS; first | (rw [if_neg (by omega)]) | (rw [if_pos (by omega)]; first | rw [if_pos (show a < 0 ∨ rkE S (A 0) i < b by omega)] | rw [if_neg (show ¬ (a < 0 ∨ rkE S (A 0) i < b) by omega)])) (by omega) (by omega) (by omega) _ (lv_sub hl [0, 1, 2, 3, 4, 5] rfl)
        · skip
          have hri := hri (by omega)
          refine lv_aload_n hx hb dX0_findEarliest_33 rfl (lv_at hl 4 rfl) ?_
          refine lv_iload hx hb dX0_findEarliest_34 (lv_at hl 0 rfl) ?_
          refine zs_aV hx hb hK hP (i := i) (by omega) dX0_findEarliest_36 ?_
          have hV_i : VP G (vad ad (i)) (T (i)) (P (i)) (S (i)) (Av (i)) (Fv (i)) s.heap := CP.voice hP (i) (by omega)
          refine lv_aload_n hx hb dX0_findEarliest_37 rfl (lv_at hl 3 rfl) ?_
          refine ze_get hx hb hK hts hown hP 1 (by decide) q_fl_RX0_16 (v := .ref (ad 4)) rfl dX0_findEarliest_38 ?_
          refine lv_iload hx hb dX0_findEarliest_41 (lv_at hl 0 rfl) ?_
          refine zs_lA0 hx hb hK hP (i := i) (by omega) dX0_findEarliest_43 ?_
          refine k_R (c_SR (As := [.ref (vad ad (i) 0), .int (zI (A 0 (i)))]) (rest := []) ⟨hx, hb, hml, hown, hts⟩ hG hS hA (c_X0_rankOf l G (vad ad (i)) (T (i)) (P (i)) (S (i)) (Av (i)) (Fv (i)) (A 0 (i)) (by omega)) ⟨q_ml_RX0_34, q_st_X0_rankOf, q_ini_RX0, q_code_X0_rankOf⟩ hs_X0_rankOf hV_i ⟨by decide, by decide⟩ ⟨Nat.zero_le _, Nat.zero_le _⟩ rfl hl.1 rfl (Nat.le_of_ble_eq_true rfl) dX0_findEarliest_44) ?_
          rw [show 2 * tkE (S i) (A 0 i) + bI (A 0 i % 2 = 0) = rkE S (A 0) i from rfl]
          refine lv_istore (lv' := [(6, .int (zI (rkE S (A 0) i))), (5, .int (zI (i))), (4, .int (zI (b))), (3, .int (zI (a))), (0, .ref (ad 2)), (1, .ref (ad 1)), (2, .int (zI (c9)))]) hx hb dX0_findEarliest_47 hl (by decide) rfl (fun ls hl => ?_)
          refine lv_iload_n hx hb dX0_findEarliest_49 rfl (lv_at hl 3 rfl) ?_
          refine z_if_lt (a := a) (tgt := 60) hx hb dX0_findEarliest_50 (by decide) (by omega) (fun h_50 => ?_) (fun h_50 => ?_)
          · skip
            refine lv_iload hx hb dX0_findEarliest_60 (lv_at hl 1 rfl) ?_
            refine lv_istore_n (lv' := [(3, .int (zI (i))), (6, .int (zI (rkE S (A 0) i))), (5, .int (zI (i))), (4, .int (zI (b))), (0, .ref (ad 2)), (1, .ref (ad 1)), (2, .int (zI (c9)))]) hx hb dX0_findEarliest_62 rfl hl (by decide) rfl (fun ls hl => ?_)
            refine lv_iload hx hb dX0_findEarliest_63 (lv_at hl 1 rfl) ?_
            refine lv_istore (lv' := [(4, .int (zI (rkE S (A 0) i))), (3, .int (zI (i))), (6, .int (zI (rkE S (A 0) i))), (5, .int (zI (i))), (0, .ref (ad 2)), (1, .ref (ad 1)), (2, .int (zI (c9)))]) hx hb dX0_findEarliest_65 hl (by decide) rfl (fun ls hl => ?_)
            refine z_iinc (lv' := [(5, .int (zI (i + 1))), (4, .int (zI (rkE S (A 0) i))), (3, .int (zI (i))), (6, .int (zI (rkE S (A 0) i))), (0, .ref (ad 2)), (1, .ref (ad 1)), (2, .int (zI (c9)))]) hx hb dX0_findEarliest_67 hl (k := 3) rfl (by decide) rfl (fun ls hl => ?_)
            refine lv_goto (tgt := 8) hx hb dX0_findEarliest_70 (by decide) ?_
            exact ih (i + 1) (i) (rkE S (A 0) i) (by omega) (by omega) (by rw [hs, h2]; unfold feS; first | (rw [if_neg (by omega)]) | (rw [if_pos (by omega)]; first | rw [if_pos (show a < 0 ∨ rkE S (A 0) i < b by omega)] | rw [if_neg (show ¬ (a < 0 ∨ rkE S (A 0) i < b) by omega)])) (by omega) (by omega) (by omega) _ (lv_sub hl [0, 1, 2, 4, 5, 6] rfl)
          · skip
            refine lv_iload hx hb dX0_findEarliest_53 (lv_at hl 0 rfl) ?_
            refine lv_iload hx hb dX0_findEarliest_55 (lv_at hl 2 rfl) ?_
            refine z_icmp_ge (a := rkE S (A 0) i) (b := b) (tgt := 67) hx hb dX0_findEarliest_57 (by decide) (by omega) (by omega) (fun h_57 => ?_) (fun h_57 => ?_)
            · skip
              refine z_iinc (lv' := [(5, .int (zI (i + 1))), (6, .int (zI (rkE S (A 0) i))), (4, .int (zI (b))), (3, .int (zI (a))), (0, .ref (ad 2)), (1, .ref (ad 1)), (2, .int (zI (c9)))]) hx hb dX0_findEarliest_67 hl (k := 1) rfl (by decide) rfl (fun ls hl => ?_)
              refine lv_goto (tgt := 8) hx hb dX0_findEarliest_70 (by decide) ?_
              exact ih (i + 1) (a) (b) (by omega) (by omega) (by rw [hs, h2]; unfold feS; first | (rw [if_neg (by omega)]) | (rw [if_pos (by omega)]; first | rw [if_pos (show a < 0 ∨ rkE S (A 0) i < b by omega)] | rw [if_neg (show ¬ (a < 0 ∨ rkE S (A 0) i < b) by omega)])) (by omega) (by omega) (by omega) _ (lv_sub hl [0, 2, 3, 4, 5, 6] rfl)
            · skip
              refine lv_iload hx hb dX0_findEarliest_60 (lv_at hl 1 rfl) ?_
              refine lv_istore_n (lv' := [(3, .int (zI (i))), (6, .int (zI (rkE S (A 0) i))), (5, .int (zI (i))), (4, .int (zI (b))), (0, .ref (ad 2)), (1, .ref (ad 1)), (2, .int (zI (c9)))]) hx hb dX0_findEarliest_62 rfl hl (by decide) rfl (fun ls hl => ?_)
              refine lv_iload hx hb dX0_findEarliest_63 (lv_at hl 1 rfl) ?_
              refine lv_istore (lv' := [(4, .int (zI (rkE S (A 0) i))), (3, .int (zI (i))), (6, .int (zI (rkE S (A 0) i))), (5, .int (zI (i))), (0, .ref (ad 2)), (1, .ref (ad 1)), (2, .int (zI (c9)))]) hx hb dX0_findEarliest_65 hl (by decide) rfl (fun ls hl => ?_)
              refine z_iinc (lv' := [(5, .int (zI (i + 1))), (4, .int (zI (rkE S (A 0) i))), (3, .int (zI (i))), (6, .int (zI (rkE S (A 0) i))), (0, .ref (ad 2)), (1, .ref (ad 1)), (2, .int (zI (c9)))]) hx hb dX0_findEarliest_67 hl (k := 3) rfl (by decide) rfl (fun ls hl => ?_)
              refine lv_goto (tgt := 8) hx hb dX0_findEarliest_70 (by decide) ?_
              exact ih (i + 1) (i) (rkE S (A 0) i) (by omega) (by omega) (by rw [hs, h2]; unfold feS; first | (rw [if_neg (by omega)]) | (rw [if_pos (by omega)]; first | rw [if_pos (show a < 0 ∨ rkE S (A 0) i < b by omega)] | rw [if_neg (show ¬ (a < 0 ∨ rkE S (A 0) i < b) by omega)])) (by omega) (by omega) (by omega) _ (lv_sub hl [0, 1, 2, 4, 5, 6] rfl)
  exact lp_8 5 0 (-1) 0 (by omega) (by omega) rfl (by omega) (by omega) (by omega) _ (lv_sub hl [0, 1, 2, 3, 4, 5] rfl)
