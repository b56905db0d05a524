/-! the class: F voiceCount beatTicks barTicks key eventsStand, Fv a voice's numbers -/
def COK (F : Nat → Int) (Fv : Int → Nat → Int) : Prop := (0 ≤ F 0 ∧ F 0 ≤ 4) ∧ ∀ v, 0 ≤ v → v < 4 → (0 ≤ Fv v 0 ∧ Fv v 0 ≤ 200) ∧ (0 ≤ Fv v 1 ∧ Fv v 1 ≤ 1000000) ∧ (0 ≤ Fv v 2 ∧ Fv v 2 ≤ 200)
def gEnd (Fv : Int → Nat → Int) : Int → Int := pf 0 (fun v a => max a (Fv v 1))
def nSou (Fv : Int → Nat → Int) : Int → Int := pf 0 (fun v a => a + Fv v 2)
def bBeg (Fv : Int → Nat → Int) (T : Int → Nat → Int → Int) : Int → Int := pf 0 (fun v a => if 0 < Fv v 0 then max a (T v 6 (Fv v 0 - 1) + 1) else a)
set_option maxHeartbeats 600000 in
theorem c_X2_greatestEnd (l : Launch) (G : zG) (ad : Nat → Nat) (F : Nat → Int) (A E : Nat → Int → Int) (T P S Av : Int → Nat → Int → Int) (Fv : Int → Nat → Int) (hVC : COK F Fv) : MR l yX2_greatestEnd cX2_greatestEnd 3 (some .int) 1 21 G [.ref (ad 0)] (CP G ad F A E T P S Av Fv) (.int (zI (gEnd Fv (F 0)))) := by
  refine mr_of hp_X2_greatestEnd (Nat.le_of_ble_eq_true rfl) ?_
  intro p env s m below meth c ls hB hP hl
  obtain ⟨hx, hb, hml, hr, hlk, hown, hts, hG⟩ := hB
  have hK := hG.1
  have hS : va_S (fun _ => False) s.heap s.heap [] := va_S.rf
  have hA : ∀ q : Nat, (fun _ : Nat => False) q → G.2.2 ≤ q := fun _ h => h.elim
  have hl : lv_has ls 3 [(0, .ref (ad 0))] := hl
  have h0b := hVC.1
  refine z_iconst hx hb dX2_greatestEnd_0 ?_
  refine lv_istore_n (lv' := [(1, .int (zI (0))), (0, .ref (ad 0))]) hx hb dX2_greatestEnd_1 rfl hl (by decide) rfl (fun ls hl => ?_)
  refine z_iconst hx hb dX2_greatestEnd_2 ?_
  refine lv_istore_n (lv' := [(2, .int (zI (0))), (1, .int (zI (0))), (0, .ref (ad 0))]) hx hb dX2_greatestEnd_3 rfl hl (by decide) rfl (fun ls hl => ?_)
  have lp_4 : ∀ (n : Nat) (i a : Int), 0 ≤ i → i ≤ F 0 → a = gEnd Fv i → (0 ≤ a ∧ a ≤ 1000000) → F 0 - i < n → ∀ (ls : Array Slot), lv_has ls 3 [(2, .int (zI (i))), (1, .int (zI (a))), (0, .ref (ad 0))] → W p l env (rmz 1 21 0 0) s m (([.ref (ad 0)] : List Value).toArray) below meth c s.heap [] 0 0 (MQ below (QR (.int (zI (gEnd Fv (F 0))))) (([.ref (ad 0)] : List Value).toArray) s 0 0 (fun _ => False)) (F0 m 4 ls []) := by
    intro n
    induction n with
    | zero => intro i a h0 h1 h2 h3 hm ls hl; exact absurd hm (by omega)
    | succ n ih =>
      intro i a h0 h1 h2 h3 hm ls hl
      have hs : gEnd Fv (i + 1) = max (gEnd Fv i) (Fv i 1) := pf_s _ _ h0
      have hvi := hVC.2 i h0
      refine lv_iload_n hx hb dX2_greatestEnd_4 rfl (lv_at hl 0 rfl) ?_
      refine lv_aload_n hx hb dX2_greatestEnd_5 rfl (lv_at hl 2 rfl) ?_
      refine zs_get hx hb hK hts hown hP 3 (by decide) q_fl_RX2_26 (v := .int (zI (F 0))) rfl dX2_greatestEnd_6 ?_
      refine z_icmp_ge (a := i) (b := F 0) (tgt := 32) hx hb dX2_greatestEnd_9 (by decide) (by omega) (by omega) (fun h_9 => ?_) (fun h_9 => ?_)
      · skip
        refine lv_iload_n hx hb dX2_greatestEnd_32 rfl (lv_at hl 1 rfl) ?_
        exact e_R (r' := a) hx hb hr hlk (n_i _) (by rw [h2, show F 0 = i by omega]) dX2_greatestEnd_33
      · skip
        have hvi := hvi (by omega)
        refine lv_iload_n hx hb dX2_greatestEnd_12 rfl (lv_at hl 1 rfl) ?_
        refine lv_aload_n hx hb dX2_greatestEnd_13 rfl (lv_at hl 2 rfl) ?_
        refine zs_get hx hb hK hts hown hP 0 (by decide) q_fl_RX2_11 (v := .ref (ad 1)) rfl dX2_greatestEnd_14 ?_
        refine lv_iload_n hx hb dX2_greatestEnd_17 rfl (lv_at hl 0 rfl) ?_
        refine zs_aV hx hb hK hP (i := i) (by omega) dX2_greatestEnd_18 ?_
        have hV_i : VP G (vad ad (i)) (T (i)) (P (i)) (S (i)) (Av (i)) (Fv (i)) s.heap := CP.voice hP (i) (by omega)
        refine zv_get hx hb hK hts hown hV_i 6 (by decide) q_fl_RX2_165 (v := .int (zI ((Fv (i)) 1))) rfl dX2_greatestEnd_19 ?_
        refine k_R (c_SR (As := [.int (zI (a)), .int (zI ((Fv (i)) 1))]) (rest := []) ⟨hx, hb, hml, hown, hts⟩ hG hS hA (c_J9_max_7cf53 l G a ((Fv (i)) 1) (show -2147483648 ≤ a ∧ a ≤ 2147483647 by omega) (show -2147483648 ≤ ((Fv (i)) 1) ∧ ((Fv (i)) 1) ≤ 2147483647 by omega)) ⟨q_ml_RX2_221, q_st_J9_max_7cf53, q_ini_RJ9, q_code_J9_max_7cf53⟩ hs_J9_max_7cf53 trivial ⟨by decide, by decide⟩ ⟨Nat.zero_le _, Nat.zero_le _⟩ rfl hl.1 rfl (Nat.le_of_ble_eq_true rfl) dX2_greatestEnd_22) ?_
        refine lv_istore_n (lv' := [(1, .int (zI (max a ((Fv (i)) 1)))), (2, .int (zI (i))), (0, .ref (ad 0))]) hx hb dX2_greatestEnd_25 rfl hl (by decide) rfl (fun ls hl => ?_)
        refine z_iinc (lv' := [(2, .int (zI (i + 1))), (1, .int (zI (max a ((Fv (i)) 1)))), (0, .ref (ad 0))]) hx hb dX2_greatestEnd_26 hl (k := 1) rfl (by decide) rfl (fun ls hl => ?_)
        refine lv_goto (tgt := 4) hx hb dX2_greatestEnd_29 (by decide) ?_
        exact ih (i + 1) (max a ((Fv (i)) 1)) (by omega) (by omega) (by rw [hs, ← h2]) (by omega) (by omega) _ (lv_sub hl [0, 1, 2] rfl)
  exact lp_4 5 0 0 (by omega) (by omega) rfl (by omega) (by omega) _ (lv_sub hl [0, 1, 2] rfl)
set_option maxHeartbeats 600000 in
theorem c_X2_countEvents (l : Launch) (G : zG) (ad : Nat → Nat) (F : Nat → Int) (A E : Nat → Int → Int) (T P S Av : Int → Nat → Int → Int) (Fv : Int → Nat → Int) (hVC : COK F Fv) : MR l yX2_countEvents cX2_countEvents 3 (some .int) 0 0 G [.ref (ad 0)] (CP G ad F A E T P S Av Fv) (.int (zI (2 * nSou Fv (F 0)))) := by
  refine mr_of hp_X2_countEvents (Nat.le_of_ble_eq_true rfl) ?_
  intro p env s m below meth c ls hB hP hl
  obtain ⟨hx, hb, hml, hr, hlk, hown, hts, hG⟩ := hB
  have hK := hG.1
  have hS : va_S (fun _ => False) s.heap s.heap [] := va_S.rf
  have hA : ∀ q : Nat, (fun _ : Nat => False) q → G.2.2 ≤ q := fun _ h => h.elim
  have hl : lv_has ls 3 [(0, .ref (ad 0))] := hl
  have h0b := hVC.1
  refine z_iconst hx hb dX2_countEvents_0 ?_
  refine lv_istore_n (lv' := [(1, .int (zI (0))), (0, .ref (ad 0))]) hx hb dX2_countEvents_1 rfl hl (by decide) rfl (fun ls hl => ?_)
  refine z_iconst hx hb dX2_countEvents_2 ?_
  refine lv_istore_n (lv' := [(2, .int (zI (0))), (1, .int (zI (0))), (0, .ref (ad 0))]) hx hb dX2_countEvents_3 rfl hl (by decide) rfl (fun ls hl => ?_)
  have lp_4 : ∀ (n : Nat) (i a : Int), 0 ≤ i → i ≤ F 0 → a = nSou Fv i → (0 ≤ a ∧ a ≤ i * 200) → F 0 - i < n → ∀ (ls : Array Slot), lv_has ls 3 [(2, .int (zI (i))), (1, .int (zI (a))), (0, .ref (ad 0))] → W p l env (rmz 0 0 0 0) s m (([.ref (ad 0)] : List Value).toArray) below meth c s.heap [] 0 0 (MQ below (QR (.int (zI (2 * nSou Fv (F 0))))) (([.ref (ad 0)] : List Value).toArray) s 0 0 (fun _ => False)) (F0 m 4 ls []) := by
    intro n
    induction n with
    | zero => intro i a h0 h1 h2 h3 hm ls hl; exact absurd hm (by omega)
    | succ n ih =>
      intro i a h0 h1 h2 h3 hm ls hl
      have hs : nSou Fv (i + 1) = nSou Fv i + Fv i 2 := pf_s _ _ h0
      have hvi := hVC.2 i h0
      refine lv_iload_n hx hb dX2_countEvents_4 rfl (lv_at hl 0 rfl) ?_
      refine lv_aload_n hx hb dX2_countEvents_5 rfl (lv_at hl 2 rfl) ?_
      refine zs_get hx hb hK hts hown hP 3 (by decide) q_fl_RX2_26 (v := .int (zI (F 0))) rfl dX2_countEvents_6 ?_
      refine z_icmp_ge (a := i) (b := F 0) (tgt := 30) hx hb dX2_countEvents_9 (by decide) (by omega) (by omega) (fun h_9 => ?_) (fun h_9 => ?_)
      · skip
        refine z_iconst hx hb dX2_countEvents_30 ?_
        refine lv_iload_n hx hb dX2_countEvents_31 rfl (lv_at hl 1 rfl) ?_
        refine z_imul (x := 2) (y := a) hx hb dX2_countEvents_32 ?_
        exact e_R (r' := (2) * (a)) hx hb hr hlk (n_i _) (by rw [h2, show F 0 = i by omega]) dX2_countEvents_33
      · skip
        have hvi := hvi (by omega)
        refine lv_iload_n hx hb dX2_countEvents_12 rfl (lv_at hl 1 rfl) ?_
        refine lv_aload_n hx hb dX2_countEvents_13 rfl (lv_at hl 2 rfl) ?_
        refine zs_get hx hb hK hts hown hP 0 (by decide) q_fl_RX2_11 (v := .ref (ad 1)) rfl dX2_countEvents_14 ?_
        refine lv_iload_n hx hb dX2_countEvents_17 rfl (lv_at hl 0 rfl) ?_
        refine zs_aV hx hb hK hP (i := i) (by omega) dX2_countEvents_18 ?_
        have hV_i : VP G (vad ad (i)) (T (i)) (P (i)) (S (i)) (Av (i)) (Fv (i)) s.heap := CP.voice hP (i) (by omega)
        refine zv_get hx hb hK hts hown hV_i 7 (by decide) q_fl_RX2_277 (v := .int (zI ((Fv (i)) 2))) rfl dX2_countEvents_19 ?_
        refine z_iadd (x := a) (y := (Fv (i)) 2) hx hb dX2_countEvents_22 ?_
        refine lv_istore_n (lv' := [(1, .int (zI ((a) + ((Fv (i)) 2)))), (2, .int (zI (i))), (0, .ref (ad 0))]) hx hb dX2_countEvents_23 rfl hl (by decide) rfl (fun ls hl => ?_)
        refine z_iinc (lv' := [(2, .int (zI (i + 1))), (1, .int (zI ((a) + ((Fv (i)) 2)))), (0, .ref (ad 0))]) hx hb dX2_countEvents_24 hl (k := 1) rfl (by decide) rfl (fun ls hl => ?_)
        refine lv_goto (tgt := 4) hx hb dX2_countEvents_27 (by decide) ?_
        exact ih (i + 1) ((a) + ((Fv (i)) 2)) (by omega) (by omega) (by rw [hs, ← h2]) (by omega) (by omega) _ (lv_sub hl [0, 1, 2] rfl)
  exact lp_4 5 0 0 (by omega) (by omega) rfl (by omega) (by omega) _ (lv_sub hl [0, 1, 2] rfl)
set_option maxHeartbeats 600000 in
theorem c_X2_barsBegun (l : Launch) (G : zG) (ad : Nat → Nat) (F : Nat → Int) (A E : Nat → Int → Int) (T P S Av : Int → Nat → Int → Int) (Fv : Int → Nat → Int) (hVT : ∀ v, 0 ≤ v → v < 4 → 0 < Fv v 0 → 0 ≤ T v 6 (Fv v 0 - 1) ∧ T v 6 (Fv v 0 - 1) ≤ 1000000) (hVC : COK F Fv) : MR l yX2_barsBegun cX2_barsBegun 4 (some .int) 1 21 G [.ref (ad 0)] (CP G ad F A E T P S Av Fv) (.int (zI (bBeg Fv T (F 0)))) := by
  refine mr_of hp_X2_barsBegun (Nat.le_of_ble_eq_true rfl) ?_
  intro p env s m below meth c ls hB hP hl
  obtain ⟨hx, hb, hml, hr, hlk, hown, hts, hG⟩ := hB
  have hK := hG.1
  have hS : va_S (fun _ => False) s.heap s.heap [] := va_S.rf
  have hA : ∀ q : Nat, (fun _ : Nat => False) q → G.2.2 ≤ q := fun _ h => h.elim
  have hl : lv_has ls 4 [(0, .ref (ad 0))] := hl
  have h0b := hVC.1
  refine z_iconst hx hb dX2_barsBegun_0 ?_
  refine lv_istore_n (lv' := [(1, .int (zI (0))), (0, .ref (ad 0))]) hx hb dX2_barsBegun_1 rfl hl (by decide) rfl (fun ls hl => ?_)
  refine z_iconst hx hb dX2_barsBegun_2 ?_
  refine lv_istore_n (lv' := [(2, .int (zI (0))), (1, .int (zI (0))), (0, .ref (ad 0))]) hx hb dX2_barsBegun_3 rfl hl (by decide) rfl (fun ls hl => ?_)
  have lp_4 : ∀ (n : Nat) (i a : Int), 0 ≤ i → i ≤ F 0 → a = bBeg Fv T i → (0 ≤ a ∧ a ≤ 1000001) → F 0 - i < n → ∀ (ls : Array Slot), lv_has ls 4 [(2, .int (zI (i))), (1, .int (zI (a))), (0, .ref (ad 0))] → W p l env (rmz 1 21 0 0) s m (([.ref (ad 0)] : List Value).toArray) below meth c s.heap [] 0 0 (MQ below (QR (.int (zI (bBeg Fv T (F 0))))) (([.ref (ad 0)] : List Value).toArray) s 0 0 (fun _ => False)) (F0 m 4 ls []) := by
    intro n
    induction n with
    | zero => intro i a h0 h1 h2 h3 hm ls hl; exact absurd hm (by omega)
    | succ n ih =>
      intro i a h0 h1 h2 h3 hm ls hl
      have hs : bBeg Fv T (i + 1) = if 0 < Fv i 0 then max (bBeg Fv T i) (T i 6 (Fv i 0 - 1) + 1) else bBeg Fv T i := pf_s _ _ h0
      have hvi := hVC.2 i h0
      have hti := hVT i h0
      refine lv_iload_n hx hb dX2_barsBegun_4 rfl (lv_at hl 0 rfl) ?_
      refine lv_aload_n hx hb dX2_barsBegun_5 rfl (lv_at hl 2 rfl) ?_
      refine zs_get hx hb hK hts hown hP 3 (by decide) q_fl_RX2_26 (v := .int (zI (F 0))) rfl dX2_barsBegun_6 ?_
      refine z_icmp_ge (a := i) (b := F 0) (tgt := 53) hx hb dX2_barsBegun_9 (by decide) (by omega) (by omega) (fun h_9 => ?_) (fun h_9 => ?_)
      · skip
        refine lv_iload_n hx hb dX2_barsBegun_53 rfl (lv_at hl 1 rfl) ?_
        exact e_R (r' := a) hx hb hr hlk (n_i _) (by rw [h2, show F 0 = i by omega]) dX2_barsBegun_54
      · skip
        have hvi := hvi (by omega)
        have hti := hti (by omega)
        refine lv_aload_n hx hb dX2_barsBegun_12 rfl (lv_at hl 2 rfl) ?_
        refine zs_get hx hb hK hts hown hP 0 (by decide) q_fl_RX2_11 (v := .ref (ad 1)) rfl dX2_barsBegun_13 ?_
        refine lv_iload_n hx hb dX2_barsBegun_16 rfl (lv_at hl 0 rfl) ?_
        refine zs_aV hx hb hK hP (i := i) (by omega) dX2_barsBegun_17 ?_
        have hV_i : VP G (vad ad (i)) (T (i)) (P (i)) (S (i)) (Av (i)) (Fv (i)) s.heap := CP.voice hP (i) (by omega)
        refine lv_astore_n (lv' := [(3, .ref (vad ad (i) 0)), (2, .int (zI (i))), (1, .int (zI (a))), (0, .ref (ad 0))]) hx hb dX2_barsBegun_18 rfl hl (by decide) rfl (fun ls hl => ?_)
        refine lv_aload_n hx hb dX2_barsBegun_19 rfl (lv_at hl 0 rfl) ?_
        refine zv_get hx hb hK hts hown hV_i 5 (by decide) q_fl_RX2_103 (v := .int (zI ((Fv (i)) 0))) rfl dX2_barsBegun_20 ?_
        refine z_if_le (a := (Fv (i)) 0) (tgt := 47) hx hb dX2_barsBegun_23 (by decide) (by omega) (fun h_23 => ?_) (fun h_23 => ?_)
        · skip
          refine z_iinc (lv' := [(2, .int (zI (i + 1))), (3, .ref (vad ad (i) 0)), (1, .int (zI (a))), (0, .ref (ad 0))]) hx hb dX2_barsBegun_47 hl (k := 1) rfl (by decide) rfl (fun ls hl => ?_)
          refine lv_goto (tgt := 4) hx hb dX2_barsBegun_50 (by decide) ?_
          exact ih (i + 1) (a) (by omega) (by omega) (by rw [hs, ← h2]; first | rw [if_pos (by omega)] | rw [if_neg (by omega)]) (by omega) (by omega) _ (lv_sub hl [0, 2, 3] rfl)
        · skip
          refine lv_iload_n hx hb dX2_barsBegun_26 rfl (lv_at hl 2 rfl) ?_
          refine lv_aload_n hx hb dX2_barsBegun_27 rfl (lv_at hl 0 rfl) ?_
          refine zv_get hx hb hK hts hown hV_i 0 (by decide) q_fl_RX2_114 (v := .ref ((vad ad (i)) 1)) rfl dX2_barsBegun_28 ?_
          refine z_bipush hx hb dX2_barsBegun_31 (by decide) ?_
          refine zv_aT hx hb hK hV_i (6) (by decide) (i := 6) rfl dX2_barsBegun_33 ?_
          refine lv_aload_n hx hb dX2_barsBegun_34 rfl (lv_at hl 0 rfl) ?_
          refine zv_get hx hb hK hts hown hV_i 5 (by decide) q_fl_RX2_103 (v := .int (zI ((Fv (i)) 0))) rfl dX2_barsBegun_35 ?_
          refine z_iconst hx hb dX2_barsBegun_38 ?_
          refine z_isub (x := (Fv (i)) 0) (y := 1) hx hb dX2_barsBegun_39 ?_
          refine zv_lT hx hb hK hV_i (6) (by decide) (i := ((Fv (i)) 0) - (1)) (by omega) dX2_barsBegun_40 ?_
          refine z_iconst hx hb dX2_barsBegun_41 ?_
          refine z_iadd (x := (T (i)) 6 (((Fv (i)) 0) - (1))) (y := 1) hx hb dX2_barsBegun_42 ?_
          refine k_R (c_SR (As := [.int (zI (a)), .int (zI (((T (i)) 6 (((Fv (i)) 0) - (1))) + (1)))]) (rest := []) ⟨hx, hb, hml, hown, hts⟩ hG hS hA (c_J9_max_7cf53 l G a (((T (i)) 6 (((Fv (i)) 0) - (1))) + (1)) (show -2147483648 ≤ a ∧ a ≤ 2147483647 by omega) (show -2147483648 ≤ (((T (i)) 6 (((Fv (i)) 0) - (1))) + (1)) ∧ (((T (i)) 6 (((Fv (i)) 0) - (1))) + (1)) ≤ 2147483647 by omega)) ⟨q_ml_RX2_221, q_st_J9_max_7cf53, q_ini_RJ9, q_code_J9_max_7cf53⟩ hs_J9_max_7cf53 trivial ⟨by decide, by decide⟩ ⟨Nat.zero_le _, Nat.zero_le _⟩ rfl hl.1 rfl (Nat.le_of_ble_eq_true rfl) dX2_barsBegun_43) ?_
          refine lv_istore_n (lv' := [(1, .int (zI (max a (((T (i)) 6 (((Fv (i)) 0) - (1))) + (1))))), (3, .ref (vad ad (i) 0)), (2, .int (zI (i))), (0, .ref (ad 0))]) hx hb dX2_barsBegun_46 rfl hl (by decide) rfl (fun ls hl => ?_)
          refine z_iinc (lv' := [(2, .int (zI (i + 1))), (1, .int (zI (max a (((T (i)) 6 (((Fv (i)) 0) - (1))) + (1))))), (3, .ref (vad ad (i) 0)), (0, .ref (ad 0))]) hx hb dX2_barsBegun_47 hl (k := 2) rfl (by decide) rfl (fun ls hl => ?_)
          refine lv_goto (tgt := 4) hx hb dX2_barsBegun_50 (by decide) ?_
          exact ih (i + 1) (max a (((T (i)) 6 (((Fv (i)) 0) - (1))) + (1))) (by omega) (by omega) (by rw [hs, ← h2]; first | rw [if_pos (by omega)] | rw [if_neg (by omega)]) (by omega) (by omega) _ (lv_sub hl [0, 1, 3] rfl)
  exact lp_4 5 0 0 (by omega) (by omega) rfl (by omega) (by omega) _ (lv_sub hl [0, 1, 2] rfl)
