theorem rai_rng {k : Int} (h : 0 ≤ k ∧ k < 7) : 0 ≤ ([3, 0, 4, 1, 5, 2, 6] : List Int).getD k.toNat 0 ∧ ([3, 0, 4, 1, 5, 2, 6] : List Int).getD k.toNat 0 ≤ 6 := co7 (q := fun k => 0 ≤ ([3, 0, 4, 1, 5, 2, 6] : List Int).getD k.toNat 0 ∧ ([3, 0, 4, 1, 5, 2, 6] : List Int).getD k.toNat 0 ≤ 6) (by decide) h
set_option maxHeartbeats 600000 in
theorem c_X3_signOf (l : Launch) (G : zG) (ad : Nat → Nat) (F : Nat → Int) (A : Nat → Int → Int) (B : Int → Int → Int) (st : Int) (hst : 0 ≤ st ∧ st < 7) (hVM : MOK F A B) : MR l yX3_signOf cX3_signOf 3 (some .int) 0 0 G [.ref (ad 0), .int (zI (st))] (MP G ad F A B) (.int (zI (sgM (F 3) st))) := by
  refine mr_of hp_X3_signOf (Nat.le_of_ble_eq_true rfl) ?_
  intro p env s m below meth c ls hB hP hl
  obtain ⟨hx, hb, hml, hr, hlk, hown, hts, hG⟩ := hB
  have hK := hG.1
  have hS : va_S (fun _ => False) s.heap s.heap [] := va_S.rf
  have hA : ∀ q : Nat, (fun _ : Nat => False) q → G.2.2 ≤ q := fun _ h => h.elim
  have hl : lv_has ls 3 [(0, .ref (ad 0)), (1, .int (zI (st)))] := hl
  have h3 := hVM.2.2.1
  refine z_iconst hx hb dX3_signOf_0 ?_
  refine lv_istore_n (lv' := [(2, .int (zI (0))), (0, .ref (ad 0)), (1, .int (zI (st)))]) hx hb dX3_signOf_1 rfl hl (by decide) rfl (fun ls hl => ?_)
  have lp_2 : ∀ (n : Nat) (i : Int), 0 ≤ i → i ≤ 7 → fp (fun k => ([3, 0, 4, 1, 5, 2, 6] : List Int).getD k.toNat 0 = st) i = i → 7 - i < n → ∀ (ls : Array Slot), lv_has ls 3 [(2, .int (zI (i))), (0, .ref (ad 0)), (1, .int (zI (st)))] → W p l env (rmz 0 0 0 0) s m (([.ref (ad 0), .int (zI (st))] : List Value).toArray) below meth c s.heap [] 0 0 (MQ below (QR (.int (zI (sgM (F 3) st)))) (([.ref (ad 0), .int (zI (st))] : List Value).toArray) s 0 0 (fun _ => False)) (F0 m 2 ls []) := by
    intro n
    induction n with
    | zero => intro i h0 h1 h2 hm ls hl; exact absurd hm (by omega)
    | succ n ih =>
      intro i h0 h1 h2 hm ls hl
      refine lv_iload_n hx hb dX3_signOf_2 rfl (lv_at hl 0 rfl) ?_
      refine z_bipush hx hb dX3_signOf_3 (by decide) ?_
      refine z_icmp_ge (a := i) (b := 7) (tgt := 56) hx hb dX3_signOf_5 (by decide) (by omega) (by omega) (fun h_5 => ?_) (fun h_5 => ?_)
      · skip
        refine z_iconst hx hb dX3_signOf_56 ?_
        exact e_R (r' := 0) hx hb hr hlk (n_i _) (by have h9 : i = 7 := (by omega); subst h9; unfold sgM; rw [if_neg (by omega)]) dX3_signOf_57
      · skip
        refine z_gets hx hb hG hts hS hA (own := RX3) (C := "ScorePressModel") (n := "RAISED") (vs := [3, 0, 4, 1, 5, 2, 6]) (index := 71) (by decide) hown q_fl_RX3_71 dX3_signOf_8 (fun t_1 ht_1 => ?_)
        refine lv_iload_n hx hb dX3_signOf_11 rfl (lv_at hl 0 rfl) ?_
        refine z_tld (vs := [3, 0, 4, 1, 5, 2, 6]) hx hb ht_1 hS (i := i) (by have h9 : ([3, 0, 4, 1, 5, 2, 6] : List Int).length = 7 := rfl; omega) (by decide) dX3_signOf_12 ?_
        have hr9 := rai_rng (k := i) (by omega)
        refine lv_iload_n hx hb dX3_signOf_13 rfl (lv_at hl 2 rfl) ?_
        refine z_icmp_eq (a := ([3, 0, 4, 1, 5, 2, 6] : List Int).getD (i).toNat 0) (b := st) (tgt := 20) hx hb dX3_signOf_14 (by decide) (by omega) (by omega) (fun h_14 => ?_) (fun h_14 => ?_)
        · skip
          refine lv_iload_n hx hb dX3_signOf_20 rfl (lv_at hl 0 rfl) ?_
          refine lv_aload_n hx hb dX3_signOf_21 rfl (lv_at hl 1 rfl) ?_
          refine zm_get hx hb hK hts hown hP 3 (by decide) q_fl_RX3_74 (v := .int (zI (F 3))) rfl dX3_signOf_22 ?_
          refine z_icmp_ge (a := i) (b := F 3) (tgt := 32) hx hb dX3_signOf_25 (by decide) (by omega) (by omega) (fun h_25 => ?_) (fun h_25 => ?_)
          · skip
            refine z_bipush hx hb dX3_signOf_32 (by decide) ?_
            refine lv_iload_n hx hb dX3_signOf_34 rfl (lv_at hl 0 rfl) ?_
            refine z_isub (x := 6) (y := i) hx hb dX3_signOf_35 ?_
            refine lv_aload_n hx hb dX3_signOf_36 rfl (lv_at hl 1 rfl) ?_
            refine zm_get hx hb hK hts hown hP 3 (by decide) q_fl_RX3_74 (v := .int (zI (F 3))) rfl dX3_signOf_37 ?_
            refine z_ineg hx hb dX3_signOf_40 ?_
            refine z_icmp_ge (a := (6) - (i)) (b := -(F 3)) (tgt := 48) hx hb dX3_signOf_41 (by decide) (by omega) (by omega) (fun h_41 => ?_) (fun h_41 => ?_)
            · skip
              refine z_iconst hx hb dX3_signOf_48 ?_
              exact e_R (r' := 0) hx hb hr hlk (n_i _) (by have h9 := fp_yes (q := (fun k => ([3, 0, 4, 1, 5, 2, 6] : List Int).getD k.toNat 0 = st)) (n := 7) h0 h2 h_14 (by omega); unfold sgM; rw [h9]; (repeat' split) <;> omega) dX3_signOf_49
            · skip
              refine z_iconst hx hb dX3_signOf_44 ?_
              refine lv_goto (tgt := 49) hx hb dX3_signOf_45 (by decide) ?_
              exact e_R (r' := -1) hx hb hr hlk (n_i _) (by have h9 := fp_yes (q := (fun k => ([3, 0, 4, 1, 5, 2, 6] : List Int).getD k.toNat 0 = st)) (n := 7) h0 h2 h_14 (by omega); unfold sgM; rw [h9]; (repeat' split) <;> omega) dX3_signOf_49
          · skip
            refine z_iconst hx hb dX3_signOf_28 ?_
            refine lv_goto (tgt := 49) hx hb dX3_signOf_29 (by decide) ?_
            exact e_R (r' := 1) hx hb hr hlk (n_i _) (by have h9 := fp_yes (q := (fun k => ([3, 0, 4, 1, 5, 2, 6] : List Int).getD k.toNat 0 = st)) (n := 7) h0 h2 h_14 (by omega); unfold sgM; rw [h9]; (repeat' split) <;> omega) dX3_signOf_49
        · skip
          refine lv_goto (tgt := 50) hx hb dX3_signOf_17 (by decide) ?_
          refine z_iinc (lv' := [(2, .int (zI (i + 1))), (0, .ref (ad 0)), (1, .int (zI (st)))]) hx hb dX3_signOf_50 hl (k := 0) rfl (by decide) rfl (fun ls hl => ?_)
          refine lv_goto (tgt := 2) hx hb dX3_signOf_53 (by decide) ?_
          exact ih (i + 1) (by omega) (by omega) (fp_no h0 h2 (by show ¬ ([3, 0, 4, 1, 5, 2, 6] : List Int).getD i.toNat 0 = st; omega)) (by omega) _ (lv_sub hl [0, 1, 2] rfl)
  exact lp_2 8 0 (by omega) (by omega) rfl (by omega) _ (lv_sub hl [0, 1, 2] rfl)
set_option maxHeartbeats 600000 in
theorem c_X3_isValue (l : Launch) (G : zG)  (pa d : Int) (r1 : -2147483648 ≤ pa ∧ pa ≤ 2147483647) (r2 : -2147483648 ≤ d ∧ d ≤ 2147483647) : MR l yX3_isValue cX3_isValue 4 (some .boolean) 0 0 G [.int (zI (pa)), .int (zI (d))] ((fun _ => True)) (.int (zI (isV pa d 15))) := by
  refine mr_of hp_X3_isValue (Nat.le_of_ble_eq_true rfl) ?_
  intro p env s m below meth c ls hB hP hl
  obtain ⟨hx, hb, hml, hr, hlk, hown, hts, hG⟩ := hB
  have hK := hG.1
  have hS : va_S (fun _ => False) s.heap s.heap [] := va_S.rf
  have hA : ∀ q : Nat, (fun _ : Nat => False) q → G.2.2 ≤ q := fun _ h => h.elim
  have hl : lv_has ls 4 [(0, .int (zI (pa))), (1, .int (zI (d)))] := hl
  refine z_iconst hx hb dX3_isValue_0 ?_
  refine lv_istore_n (lv' := [(2, .int (zI (0))), (0, .int (zI (pa))), (1, .int (zI (d)))]) hx hb dX3_isValue_1 rfl hl (by decide) rfl (fun ls hl => ?_)
  refine z_iconst hx hb dX3_isValue_2 ?_
  refine lv_istore_n (lv' := [(3, .int (zI (0))), (2, .int (zI (0))), (0, .int (zI (pa))), (1, .int (zI (d)))]) hx hb dX3_isValue_3 rfl hl (by decide) rfl (fun ls hl => ?_)
  have lp_4 : ∀ (n : Nat) (i a : Int), 0 ≤ i → i ≤ 15 → a = isV pa d i → (a = 0 ∨ a = 1) → 15 - i < n → ∀ (ls : Array Slot), lv_has ls 4 [(3, .int (zI (i))), (2, .int (zI (a))), (0, .int (zI (pa))), (1, .int (zI (d)))] → W p l env (rmz 0 0 0 0) s m (([.int (zI (pa)), .int (zI (d))] : List Value).toArray) below meth c s.heap [] 0 0 (MQ below (QR (.int (zI (isV pa d 15)))) (([.int (zI (pa)), .int (zI (d))] : List Value).toArray) s 0 0 (fun _ => False)) (F0 m 4 ls []) := by
    intro n
    induction n with
    | zero => intro i a h0 h1 h2 h3 hm ls hl; exact absurd hm (by omega)
    | succ n ih =>
      intro i a h0 h1 h2 h3 hm ls hl
      have hs : isV pa d (i + 1) = if isV pa d i = 0 then bI (valP i = pa ∧ valD i = d) else 1 := pf_s _ _ h0
      refine lv_iload_n hx hb dX3_isValue_4 rfl (lv_at hl 0 rfl) ?_
      refine z_gets hx hb hG hts hS hA (own := RX3) (C := "ScorePressModel") (n := "PARTS") (vs := [1, 1, 1, 2, 2, 2, 4, 4, 4, 8, 8, 8, 16, 16, 32]) (index := 51) (by decide) hown q_fl_RX3_51 dX3_isValue_5 (fun t_1 ht_1 => ?_)
      refine z_tlen hx hb ht_1 hS (n := 15) rfl dX3_isValue_8 ?_
      refine z_icmp_ge (a := i) (b := 15) (tgt := 46) hx hb dX3_isValue_9 (by decide) (by omega) (by omega) (fun h_9 => ?_) (fun h_9 => ?_)
      · skip
        refine lv_iload_n hx hb dX3_isValue_46 rfl (lv_at hl 1 rfl) ?_
        exact e_R (r' := a) hx hb hr hlk (n_z (by first | exact bI_01 _ | (left; rfl) | (right; rfl) | omega)) (by have h9 : i = 15 := (by omega); rw [h2, h9]) dX3_isValue_47
      · skip
        refine lv_iload_n hx hb dX3_isValue_12 rfl (lv_at hl 1 rfl) ?_
        refine z_if_ne (a := a) (tgt := 34) hx hb dX3_isValue_13 (by decide) (by omega) (fun h_13 => ?_) (fun h_13 => ?_)
        · skip
          refine z_iconst hx hb dX3_isValue_34 ?_
          refine lv_goto (tgt := 39) hx hb dX3_isValue_35 (by decide) ?_
          refine lv_istore_n (lv' := [(2, .int (zI (1))), (3, .int (zI (i))), (0, .int (zI (pa))), (1, .int (zI (d)))]) hx hb dX3_isValue_39 rfl hl (by decide) rfl (fun ls hl => ?_)
          refine z_iinc (lv' := [(3, .int (zI (i + 1))), (2, .int (zI (1))), (0, .int (zI (pa))), (1, .int (zI (d)))]) hx hb dX3_isValue_40 hl (k := 1) rfl (by decide) rfl (fun ls hl => ?_)
          refine lv_goto (tgt := 4) hx hb dX3_isValue_43 (by decide) ?_
          exact ih (i + 1) (1) (by omega) (by omega) (by rw [hs, ← h2]; unfold bI; (repeat' split) <;> omega) (by omega) (by omega) _ (lv_sub hl [0, 1, 2, 3] rfl)
        · skip
          refine z_gets hx hb hG hts hS hA (own := RX3) (C := "ScorePressModel") (n := "PARTS") (vs := [1, 1, 1, 2, 2, 2, 4, 4, 4, 8, 8, 8, 16, 16, 32]) (index := 51) (by decide) hown q_fl_RX3_51 dX3_isValue_16 (fun t_2 ht_2 => ?_)
          refine lv_iload_n hx hb dX3_isValue_19 rfl (lv_at hl 0 rfl) ?_
          refine z_tld (vs := [1, 1, 1, 2, 2, 2, 4, 4, 4, 8, 8, 8, 16, 16, 32]) hx hb ht_2 hS (i := i) (by have h9 : ([1, 1, 1, 2, 2, 2, 4, 4, 4, 8, 8, 8, 16, 16, 32] : List Int).length = 15 := rfl; omega) (by decide) dX3_isValue_20 ?_
          have hv1 := valP_rng (k := i) (by omega)
          refine lv_iload_n hx hb dX3_isValue_21 rfl (lv_at hl 2 rfl) ?_
          refine z_icmp_ne (a := valP (i)) (b := pa) (tgt := 38) hx hb dX3_isValue_22 (by decide) (by omega) (by omega) (fun h_22 => ?_) (fun h_22 => ?_)
          · skip
            refine z_iconst hx hb dX3_isValue_38 ?_
            refine lv_istore_n (lv' := [(2, .int (zI (0))), (3, .int (zI (i))), (0, .int (zI (pa))), (1, .int (zI (d)))]) hx hb dX3_isValue_39 rfl hl (by decide) rfl (fun ls hl => ?_)
            refine z_iinc (lv' := [(3, .int (zI (i + 1))), (2, .int (zI (0))), (0, .int (zI (pa))), (1, .int (zI (d)))]) hx hb dX3_isValue_40 hl (k := 1) rfl (by decide) rfl (fun ls hl => ?_)
            refine lv_goto (tgt := 4) hx hb dX3_isValue_43 (by decide) ?_
            exact ih (i + 1) (0) (by omega) (by omega) (by rw [hs, ← h2]; unfold bI; (repeat' split) <;> omega) (by omega) (by omega) _ (lv_sub hl [0, 1, 2, 3] rfl)
          · skip
            refine z_gets hx hb hG hts hS hA (own := RX3) (C := "ScorePressModel") (n := "DOTS") (vs := [2, 1, 0, 2, 1, 0, 2, 1, 0, 2, 1, 0, 1, 0, 0]) (index := 54) (by decide) hown q_fl_RX3_54 dX3_isValue_25 (fun t_3 ht_3 => ?_)
            refine lv_iload_n hx hb dX3_isValue_28 rfl (lv_at hl 0 rfl) ?_
            refine z_tld (vs := [2, 1, 0, 2, 1, 0, 2, 1, 0, 2, 1, 0, 1, 0, 0]) hx hb ht_3 hS (i := i) (by have h9 : ([2, 1, 0, 2, 1, 0, 2, 1, 0, 2, 1, 0, 1, 0, 0] : List Int).length = 15 := rfl; omega) (by decide) dX3_isValue_29 ?_
            have hv2 := valD_rng (k := i) (by omega)
            refine lv_iload_n hx hb dX3_isValue_30 rfl (lv_at hl 3 rfl) ?_
            refine z_icmp_ne (a := valD (i)) (b := d) (tgt := 38) hx hb dX3_isValue_31 (by decide) (by omega) (by omega) (fun h_31 => ?_) (fun h_31 => ?_)
            · skip
              refine z_iconst hx hb dX3_isValue_38 ?_
              refine lv_istore_n (lv' := [(2, .int (zI (0))), (3, .int (zI (i))), (0, .int (zI (pa))), (1, .int (zI (d)))]) hx hb dX3_isValue_39 rfl hl (by decide) rfl (fun ls hl => ?_)
              refine z_iinc (lv' := [(3, .int (zI (i + 1))), (2, .int (zI (0))), (0, .int (zI (pa))), (1, .int (zI (d)))]) hx hb dX3_isValue_40 hl (k := 1) rfl (by decide) rfl (fun ls hl => ?_)
              refine lv_goto (tgt := 4) hx hb dX3_isValue_43 (by decide) ?_
              exact ih (i + 1) (0) (by omega) (by omega) (by rw [hs, ← h2]; unfold bI; (repeat' split) <;> omega) (by omega) (by omega) _ (lv_sub hl [0, 1, 2, 3] rfl)
            · skip
              refine z_iconst hx hb dX3_isValue_34 ?_
              refine lv_goto (tgt := 39) hx hb dX3_isValue_35 (by decide) ?_
              refine lv_istore_n (lv' := [(2, .int (zI (1))), (3, .int (zI (i))), (0, .int (zI (pa))), (1, .int (zI (d)))]) hx hb dX3_isValue_39 rfl hl (by decide) rfl (fun ls hl => ?_)
              refine z_iinc (lv' := [(3, .int (zI (i + 1))), (2, .int (zI (1))), (0, .int (zI (pa))), (1, .int (zI (d)))]) hx hb dX3_isValue_40 hl (k := 1) rfl (by decide) rfl (fun ls hl => ?_)
              refine lv_goto (tgt := 4) hx hb dX3_isValue_43 (by decide) ?_
              exact ih (i + 1) (1) (by omega) (by omega) (by rw [hs, ← h2]; unfold bI; (repeat' split) <;> omega) (by omega) (by omega) _ (lv_sub hl [0, 1, 2, 3] rfl)
  exact lp_4 16 0 0 (by omega) (by omega) rfl (by omega) (by omega) _ (lv_sub hl [0, 1, 2, 3] rfl)
