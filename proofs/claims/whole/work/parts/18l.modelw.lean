set_option maxHeartbeats 2000000 in
theorem c_X3_setBars (l : Launch) (G : zG) (ad : Nat → Nat) (F : Nat → Int) (A : Nat → Int → Int) (B : Int → Int → Int) (nb np : Int) (sz : Nat) (r1 : -2147483648 ≤ nb ∧ nb ≤ 2147483647) (r2 : -2147483648 ≤ np ∧ np ≤ 2147483647) (hVM : MOK F A B) : MW l yX3_setBars cX3_setBars 4 (some .int) 1 22 (0) (0) G [.ref (ad 0), .int (zI (nb)), .int (zI (np))] (fA 11 ad sz) sz (MP G ad F A B) (QW (fA 11 ad sz) (fun r H => (¬ ((1 ≤ nb ∧ nb ≤ 12) ∧ (np = 2 ∨ np = 4 ∨ np = 8)) ∧ r = 0 ∧ MP G ad (zN F 0 1) A B H) ∨ (((1 ≤ nb ∧ nb ≤ 12) ∧ (np = 2 ∨ np = 4 ∨ np = 8)) ∧ (∃ v, 0 ≤ v ∧ v < F 4 ∧ 0 < A 0 v) ∧ r = 0 ∧ MP G ad (zN F 0 2) A B H) ∨ (((1 ≤ nb ∧ nb ≤ 12) ∧ (np = 2 ∨ np = 4 ∨ np = 8)) ∧ (∀ v, 0 ≤ v → v < F 4 → A 0 v ≤ 0) ∧ r = nb * 384 / np ∧ MP G ad (zN (zN (zN F 0 0) 1 nb) 2 np) A B H))) := by
  refine mw_of hp_X3_setBars (Nat.le_of_ble_eq_true rfl) ?_
  intro p env s m below meth c ls hB hsz hP hl
  obtain ⟨hx, hb, hml, hr, hlk, hown, hts, hG⟩ := hB
  subst hsz
  have hK := hG.1
  have hS : va_S (fA 11 ad s.heap.size) s.heap s.heap [] := va_S.rf
  have hA : ∀ q : Nat, (fA 11 ad s.heap.size) q → G.2.2 ≤ q := fA_lo hP.1.2 hG.2.1
  have hD : ∀ k, k < 11 → (fA 11 ad s.heap.size) (ad k) := fun k hk => fA_in hk
  have hl : lv_has ls 4 [(0, .ref (ad 0)), (1, .int (zI (nb))), (2, .int (zI (np)))] := hl
  have h1b := hVM.1
  have h2b := hVM.2.1
  have h3b := hVM.2.2.1
  have h4b := hVM.2.2.2.1
  refine lv_aload_n hx hb dX3_setBars_0 rfl (lv_at hl 0 rfl) ?_
  refine z_iconst hx hb dX3_setBars_1 ?_
  refine zm_put (x := 0) hx hb hK hts hown hP hS (hD 0 (by decide)) 0 (by decide) q_fl_RX3_37 dX3_setBars_2 (fun H locs hP hz ho hS => ?_)
  refine lv_iload_n hx hb dX3_setBars_5 rfl (lv_at hl 1 rfl) ?_
  refine z_iconst hx hb dX3_setBars_6 ?_
  refine z_bipush hx hb dX3_setBars_7 (by decide) ?_
  refine k_R (c_SR (As := [.int (zI (nb)), .int (zI (1)), .int (zI (12))]) (rest := []) ⟨hx, hb, hml, hown, hts⟩ hG hS hA (c_X3_isIn l G nb 1 12 (show -2147483648 ≤ nb ∧ nb ≤ 2147483647 by omega) (show -2147483648 ≤ 1 ∧ 1 ≤ 2147483647 by omega) (show -2147483648 ≤ 12 ∧ 12 ≤ 2147483647 by omega)) ⟨q_ml_RX3_43, q_st_X3_isIn, q_ini_RX3, q_code_X3_isIn⟩ hs_X3_isIn trivial ⟨by decide, by decide⟩ ⟨Nat.zero_le _, Nat.zero_le _⟩ rfl hl.1 rfl (Nat.le_of_ble_eq_true rfl) dX3_setBars_9) ?_
  refine z_bif_eq (q := 1 ≤ nb ∧ nb ≤ 12) (tgt := 31) hx hb dX3_setBars_12 (by decide) (fun h_12 => ?_) (fun h_12 => ?_)
  · skip
    refine lv_aload_n hx hb dX3_setBars_31 rfl (lv_at hl 0 rfl) ?_
    refine z_iconst hx hb dX3_setBars_32 ?_
    refine k_Wi (c_VW (As := [.int (zI (1))]) (rest := []) ⟨hx, hb, hml, hown, hts⟩ hG hS hA (c_X3_fail l G ad (zN F 0 (0)) A B 1 H.size) ⟨q_ml_RX3_77, q_im_X3_fail, q_sel_X3_fail, q_ini_RX3, q_code_X3_fail⟩ hv_X3_fail (MP.rec hK hP) hP ⟨by decide, by decide⟩ ⟨Nat.zero_le _, Nat.zero_le _⟩ rfl hl.1 rfl (Nat.le_of_ble_eq_true rfl) dX3_setBars_33) hS (fA_mono hS.1) (fun r_33 H1 locs1 hq hz1 hk1 hS => ?_)
    obtain ⟨hrz, hPz⟩ := hq
    rw [zN_N] at hPz
    exact e_Wi (r := r_33) hx hb hr hlk (n_i _) hS (by omega) (by omega) (Or.inl ⟨by omega, hrz, hPz⟩) dX3_setBars_36
  · skip
    refine lv_iload_n hx hb dX3_setBars_15 rfl (lv_at hl 2 rfl) ?_
    refine z_iconst hx hb dX3_setBars_16 ?_
    refine z_icmp_eq (a := np) (b := 2) (tgt := 37) hx hb dX3_setBars_17 (by decide) (by omega) (by omega) (fun h_17 => ?_) (fun h_17 => ?_)
    · skip
      refine z_iconst hx hb dX3_setBars_37 ?_
      refine lv_istore_n (lv' := [(3, .int (zI (0))), (0, .ref (ad 0)), (1, .int (zI (nb))), (2, .int (zI (np)))]) hx hb dX3_setBars_38 rfl hl (by decide) rfl (fun ls hl => ?_)
      have lp_39 : ∀ (n : Nat) (i : Int), 0 ≤ i → i ≤ F 4 → (∀ v, 0 ≤ v → v < i → A 0 v ≤ 0) → F 4 - i < n → ∀ (H : Heap) (locs : List Loc), MP G ad (zN F 0 (0)) A B H → va_S (fA 11 ad s.heap.size) s.heap H locs → ∀ (ls : Array Slot), lv_has ls 4 [(3, .int (zI (i))), (0, .ref (ad 0)), (1, .int (zI (nb))), (2, .int (zI (np)))] → W p l env (rmz 1 22 0 0) s m (([.ref (ad 0), .int (zI (nb)), .int (zI (np))] : List Value).toArray) below meth c H locs 0 0 (MQ below (QW (fA 11 ad s.heap.size) (fun r H => (¬ ((1 ≤ nb ∧ nb ≤ 12) ∧ (np = 2 ∨ np = 4 ∨ np = 8)) ∧ r = 0 ∧ MP G ad (zN F 0 1) A B H) ∨ (((1 ≤ nb ∧ nb ≤ 12) ∧ (np = 2 ∨ np = 4 ∨ np = 8)) ∧ (∃ v, 0 ≤ v ∧ v < F 4 ∧ 0 < A 0 v) ∧ r = 0 ∧ MP G ad (zN F 0 2) A B H) ∨ (((1 ≤ nb ∧ nb ≤ 12) ∧ (np = 2 ∨ np = 4 ∨ np = 8)) ∧ (∀ v, 0 ≤ v → v < F 4 → A 0 v ≤ 0) ∧ r = nb * 384 / np ∧ MP G ad (zN (zN (zN F 0 0) 1 nb) 2 np) A B H))) (([.ref (ad 0), .int (zI (nb)), .int (zI (np))] : List Value).toArray) s 0 0 (fA 11 ad s.heap.size)) (F0 m 39 ls []) := by
        intro n
        induction n with
        | zero => intro i h0 h1 h2 hm H locs hP hS ls hl; exact absurd hm (by omega)
        | succ n ih =>
          intro i h0 h1 h2 hm H locs hP hS ls hl
          have hmn := hVM.many (v := i)
          refine lv_iload_n hx hb dX3_setBars_39 rfl (lv_at hl 0 rfl) ?_
          refine lv_aload_n hx hb dX3_setBars_40 rfl (lv_at hl 1 rfl) ?_
          refine zm_get hx hb hK hts hown hP 4 (by decide) q_fl_RX3_40 (v := .int (zI (F 4))) rfl dX3_setBars_41 ?_
          refine z_icmp_ge (a := i) (b := F 4) (tgt := 68) hx hb dX3_setBars_44 (by decide) (by omega) (by omega) (fun h_44 => ?_) (fun h_44 => ?_)
          · skip
            refine lv_aload_n hx hb dX3_setBars_68 rfl (lv_at hl 1 rfl) ?_
            refine lv_iload_n hx hb dX3_setBars_69 rfl (lv_at hl 2 rfl) ?_
            refine zm_put (x := nb) hx hb hK hts hown hP hS (hD 0 (by decide)) 1 (by decide) q_fl_RX3_7 dX3_setBars_70 (fun H locs hP hz ho hS => ?_)
            refine lv_aload_n hx hb dX3_setBars_73 rfl (lv_at hl 1 rfl) ?_
            refine lv_iload_n hx hb dX3_setBars_74 rfl (lv_at hl 3 rfl) ?_
            refine zm_put (x := np) hx hb hK hts hown hP hS (hD 0 (by decide)) 2 (by decide) q_fl_RX3_13 dX3_setBars_75 (fun H locs hP hz ho hS => ?_)
            refine lv_aload_n hx hb dX3_setBars_78 rfl (lv_at hl 1 rfl) ?_
            refine k_R (c_VR (As := []) (rest := []) ⟨hx, hb, hml, hown, hts⟩ hG hS hA (c_X3_bar l G ad (zN (zN (zN F 0 (0)) 1 (nb)) 2 (np)) A B ⟨(show 1 ≤ nb ∧ nb ≤ 12 by omega), (show np = 2 ∨ np = 4 ∨ np = 8 by omega), hVM.2.2.1, hVM.2.2.2.1, hVM.2.2.2.2⟩) ⟨q_ml_RX3_81, q_im_X3_bar, q_sel_X3_bar, q_ini_RX3, q_code_X3_bar⟩ hv_X3_bar (MP.rec hK hP) hP ⟨by decide, by decide⟩ ⟨Nat.zero_le _, Nat.zero_le _⟩ rfl hl.1 rfl (Nat.le_of_ble_eq_true rfl) dX3_setBars_79) ?_
            exact e_Wi (r := nb * 384 / np) hx hb hr hlk (n_i _) hS (by omega) (by omega) (Or.inr (Or.inr ⟨by omega, (fun v q0 q1 => h2 v q0 (by omega)), rfl, hP⟩)) dX3_setBars_82
          · skip
            refine lv_aload_n hx hb dX3_setBars_47 rfl (lv_at hl 1 rfl) ?_
            refine zm_get hx hb hK hts hown hP 5 (by decide) q_fl_RX3_16 (v := .ref (ad 1)) rfl dX3_setBars_48 ?_
            refine lv_iload_n hx hb dX3_setBars_51 rfl (lv_at hl 0 rfl) ?_
            refine zm_lA0 hx hb hK hP (i := i) (by omega) dX3_setBars_52 ?_
            have hmn := hmn (by omega)
            refine z_if_le (a := A 0 (i)) (tgt := 62) hx hb dX3_setBars_53 (by decide) (by omega) (fun h_53 => ?_) (fun h_53 => ?_)
            · skip
              refine z_iinc (lv' := [(3, .int (zI (i + 1))), (0, .ref (ad 0)), (1, .int (zI (nb))), (2, .int (zI (np)))]) hx hb dX3_setBars_62 hl (k := 0) rfl (by decide) rfl (fun ls hl => ?_)
              refine lv_goto (tgt := 39) hx hb dX3_setBars_65 (by decide) ?_
              exact ih (i + 1) (by omega) (by omega) (fun v q0 q1 => (Decidable.em (v = i)).elim (fun z => by rw [z]; omega) (fun z => h2 v q0 (by omega))) (by omega) H _ hP hS _ (lv_sub hl [0, 1, 2, 3] rfl)
            · skip
              refine lv_aload_n hx hb dX3_setBars_56 rfl (lv_at hl 1 rfl) ?_
              refine z_iconst hx hb dX3_setBars_57 ?_
              refine k_Wi (c_VW (As := [.int (zI (2))]) (rest := []) ⟨hx, hb, hml, hown, hts⟩ hG hS hA (c_X3_fail l G ad (zN F 0 (0)) A B 2 H.size) ⟨q_ml_RX3_77, q_im_X3_fail, q_sel_X3_fail, q_ini_RX3, q_code_X3_fail⟩ hv_X3_fail (MP.rec hK hP) hP ⟨by decide, by decide⟩ ⟨Nat.zero_le _, Nat.zero_le _⟩ rfl hl.1 rfl (Nat.le_of_ble_eq_true rfl) dX3_setBars_58) hS (fA_mono hS.1) (fun r_58 H1 locs1 hq hz1 hk1 hS => ?_)
              obtain ⟨hrz, hPz⟩ := hq
              rw [zN_N] at hPz
              exact e_Wi (r := r_58) hx hb hr hlk (n_i _) hS (by omega) (by omega) (Or.inr (Or.inl ⟨by omega, ⟨i, h0, by omega, by omega⟩, hrz, hPz⟩)) dX3_setBars_61
      exact lp_39 5 0 (by omega) (by omega) (fun v q0 q1 => absurd q1 (by omega)) (by omega) H _ hP hS _ (lv_sub hl [0, 1, 2, 3] rfl)
    · skip
      refine lv_iload_n hx hb dX3_setBars_20 rfl (lv_at hl 2 rfl) ?_
      refine z_iconst hx hb dX3_setBars_21 ?_
      refine z_icmp_eq (a := np) (b := 4) (tgt := 37) hx hb dX3_setBars_22 (by decide) (by omega) (by omega) (fun h_22 => ?_) (fun h_22 => ?_)
      · skip
        refine z_iconst hx hb dX3_setBars_37 ?_
        refine lv_istore_n (lv' := [(3, .int (zI (0))), (0, .ref (ad 0)), (1, .int (zI (nb))), (2, .int (zI (np)))]) hx hb dX3_setBars_38 rfl hl (by decide) rfl (fun ls hl => ?_)
        have lp_39 : ∀ (n : Nat) (i : Int), 0 ≤ i → i ≤ F 4 → (∀ v, 0 ≤ v → v < i → A 0 v ≤ 0) → F 4 - i < n → ∀ (H : Heap) (locs : List Loc), MP G ad (zN F 0 (0)) A B H → va_S (fA 11 ad s.heap.size) s.heap H locs → ∀ (ls : Array Slot), lv_has ls 4 [(3, .int (zI (i))), (0, .ref (ad 0)), (1, .int (zI (nb))), (2, .int (zI (np)))] → W p l env (rmz 1 22 0 0) s m (([.ref (ad 0), .int (zI (nb)), .int (zI (np))] : List Value).toArray) below meth c H locs 0 0 (MQ below (QW (fA 11 ad s.heap.size) (fun r H => (¬ ((1 ≤ nb ∧ nb ≤ 12) ∧ (np = 2 ∨ np = 4 ∨ np = 8)) ∧ r = 0 ∧ MP G ad (zN F 0 1) A B H) ∨ (((1 ≤ nb ∧ nb ≤ 12) ∧ (np = 2 ∨ np = 4 ∨ np = 8)) ∧ (∃ v, 0 ≤ v ∧ v < F 4 ∧ 0 < A 0 v) ∧ r = 0 ∧ MP G ad (zN F 0 2) A B H) ∨ (((1 ≤ nb ∧ nb ≤ 12) ∧ (np = 2 ∨ np = 4 ∨ np = 8)) ∧ (∀ v, 0 ≤ v → v < F 4 → A 0 v ≤ 0) ∧ r = nb * 384 / np ∧ MP G ad (zN (zN (zN F 0 0) 1 nb) 2 np) A B H))) (([.ref (ad 0), .int (zI (nb)), .int (zI (np))] : List Value).toArray) s 0 0 (fA 11 ad s.heap.size)) (F0 m 39 ls []) := by
          intro n
          induction n with
          | zero => intro i h0 h1 h2 hm H locs hP hS ls hl; exact absurd hm (by omega)
          | succ n ih =>
            intro i h0 h1 h2 hm H locs hP hS ls hl
            have hmn := hVM.many (v := i)
            refine lv_iload_n hx hb dX3_setBars_39 rfl (lv_at hl 0 rfl) ?_
            refine lv_aload_n hx hb dX3_setBars_40 rfl (lv_at hl 1 rfl) ?_
            refine zm_get hx hb hK hts hown hP 4 (by decide) q_fl_RX3_40 (v := .int (zI (F 4))) rfl dX3_setBars_41 ?_
            refine z_icmp_ge (a := i) (b := F 4) (tgt := 68) hx hb dX3_setBars_44 (by decide) (by omega) (by omega) (fun h_44 => ?_) (fun h_44 => ?_)
            · skip
              refine lv_aload_n hx hb dX3_setBars_68 rfl (lv_at hl 1 rfl) ?_
              refine lv_iload_n hx hb dX3_setBars_69 rfl (lv_at hl 2 rfl) ?_
              refine zm_put (x := nb) hx hb hK hts hown hP hS (hD 0 (by decide)) 1 (by decide) q_fl_RX3_7 dX3_setBars_70 (fun H locs hP hz ho hS => ?_)
              refine lv_aload_n hx hb dX3_setBars_73 rfl (lv_at hl 1 rfl) ?_
              refine lv_iload_n hx hb dX3_setBars_74 rfl (lv_at hl 3 rfl) ?_
              refine zm_put (x := np) hx hb hK hts hown hP hS (hD 0 (by decide)) 2 (by decide) q_fl_RX3_13 dX3_setBars_75 (fun H locs hP hz ho hS => ?_)
              refine lv_aload_n hx hb dX3_setBars_78 rfl (lv_at hl 1 rfl) ?_
              refine k_R (c_VR (As := []) (rest := []) ⟨hx, hb, hml, hown, hts⟩ hG hS hA (c_X3_bar l G ad (zN (zN (zN F 0 (0)) 1 (nb)) 2 (np)) A B ⟨(show 1 ≤ nb ∧ nb ≤ 12 by omega), (show np = 2 ∨ np = 4 ∨ np = 8 by omega), hVM.2.2.1, hVM.2.2.2.1, hVM.2.2.2.2⟩) ⟨q_ml_RX3_81, q_im_X3_bar, q_sel_X3_bar, q_ini_RX3, q_code_X3_bar⟩ hv_X3_bar (MP.rec hK hP) hP ⟨by decide, by decide⟩ ⟨Nat.zero_le _, Nat.zero_le _⟩ rfl hl.1 rfl (Nat.le_of_ble_eq_true rfl) dX3_setBars_79) ?_
              exact e_Wi (r := nb * 384 / np) hx hb hr hlk (n_i _) hS (by omega) (by omega) (Or.inr (Or.inr ⟨by omega, (fun v q0 q1 => h2 v q0 (by omega)), rfl, hP⟩)) dX3_setBars_82
            · skip
              refine lv_aload_n hx hb dX3_setBars_47 rfl (lv_at hl 1 rfl) ?_
              refine zm_get hx hb hK hts hown hP 5 (by decide) q_fl_RX3_16 (v := .ref (ad 1)) rfl dX3_setBars_48 ?_
              refine lv_iload_n hx hb dX3_setBars_51 rfl (lv_at hl 0 rfl) ?_
              refine zm_lA0 hx hb hK hP (i := i) (by omega) dX3_setBars_52 ?_
              have hmn := hmn (by omega)
              refine z_if_le (a := A 0 (i)) (tgt := 62) hx hb dX3_setBars_53 (by decide) (by omega) (fun h_53 => ?_) (fun h_53 => ?_)
              · skip
                refine z_iinc (lv' := [(3, .int (zI (i + 1))), (0, .ref (ad 0)), (1, .int (zI (nb))), (2, .int (zI (np)))]) hx hb dX3_setBars_62 hl (k := 0) rfl (by decide) rfl (fun ls hl => ?_)
                refine lv_goto (tgt := 39) hx hb dX3_setBars_65 (by decide) ?_
                exact ih (i + 1) (by omega) (by omega) (fun v q0 q1 => (Decidable.em (v = i)).elim (fun z => by rw [z]; omega) (fun z => h2 v q0 (by omega))) (by omega) H _ hP hS _ (lv_sub hl [0, 1, 2, 3] rfl)
              · skip
                refine lv_aload_n hx hb dX3_setBars_56 rfl (lv_at hl 1 rfl) ?_
                refine z_iconst hx hb dX3_setBars_57 ?_
                refine k_Wi (c_VW (As := [.int (zI (2))]) (rest := []) ⟨hx, hb, hml, hown, hts⟩ hG hS hA (c_X3_fail l G ad (zN F 0 (0)) A B 2 H.size) ⟨q_ml_RX3_77, q_im_X3_fail, q_sel_X3_fail, q_ini_RX3, q_code_X3_fail⟩ hv_X3_fail (MP.rec hK hP) hP ⟨by decide, by decide⟩ ⟨Nat.zero_le _, Nat.zero_le _⟩ rfl hl.1 rfl (Nat.le_of_ble_eq_true rfl) dX3_setBars_58) hS (fA_mono hS.1) (fun r_58 H1 locs1 hq hz1 hk1 hS => ?_)
                obtain ⟨hrz, hPz⟩ := hq
                rw [zN_N] at hPz
                exact e_Wi (r := r_58) hx hb hr hlk (n_i _) hS (by omega) (by omega) (Or.inr (Or.inl ⟨by omega, ⟨i, h0, by omega, by omega⟩, hrz, hPz⟩)) dX3_setBars_61
        exact lp_39 5 0 (by omega) (by omega) (fun v q0 q1 => absurd q1 (by omega)) (by omega) H _ hP hS _ (lv_sub hl [0, 1, 2, 3] rfl)
      · skip
        refine lv_iload_n hx hb dX3_setBars_25 rfl (lv_at hl 2 rfl) ?_
        refine z_bipush hx hb dX3_setBars_26 (by decide) ?_
        refine z_icmp_eq (a := np) (b := 8) (tgt := 37) hx hb dX3_setBars_28 (by decide) (by omega) (by omega) (fun h_28 => ?_) (fun h_28 => ?_)
        · skip
          refine z_iconst hx hb dX3_setBars_37 ?_
          refine lv_istore_n (lv' := [(3, .int (zI (0))), (0, .ref (ad 0)), (1, .int (zI (nb))), (2, .int (zI (np)))]) hx hb dX3_setBars_38 rfl hl (by decide) rfl (fun ls hl => ?_)
          have lp_39 : ∀ (n : Nat) (i : Int), 0 ≤ i → i ≤ F 4 → (∀ v, 0 ≤ v → v < i → A 0 v ≤ 0) → F 4 - i < n → ∀ (H : Heap) (locs : List Loc), MP G ad (zN F 0 (0)) A B H → va_S (fA 11 ad s.heap.size) s.heap H locs → ∀ (ls : Array Slot), lv_has ls 4 [(3, .int (zI (i))), (0, .ref (ad 0)), (1, .int (zI (nb))), (2, .int (zI (np)))] → W p l env (rmz 1 22 0 0) s m (([.ref (ad 0), .int (zI (nb)), .int (zI (np))] : List Value).toArray) below meth c H locs 0 0 (MQ below (QW (fA 11 ad s.heap.size) (fun r H => (¬ ((1 ≤ nb ∧ nb ≤ 12) ∧ (np = 2 ∨ np = 4 ∨ np = 8)) ∧ r = 0 ∧ MP G ad (zN F 0 1) A B H) ∨ (((1 ≤ nb ∧ nb ≤ 12) ∧ (np = 2 ∨ np = 4 ∨ np = 8)) ∧ (∃ v, 0 ≤ v ∧ v < F 4 ∧ 0 < A 0 v) ∧ r = 0 ∧ MP G ad (zN F 0 2) A B H) ∨ (((1 ≤ nb ∧ nb ≤ 12) ∧ (np = 2 ∨ np = 4 ∨ np = 8)) ∧ (∀ v, 0 ≤ v → v < F 4 → A 0 v ≤ 0) ∧ r = nb * 384 / np ∧ MP G ad (zN (zN (zN F 0 0) 1 nb) 2 np) A B H))) (([.ref (ad 0), .int (zI (nb)), .int (zI (np))] : List Value).toArray) s 0 0 (fA 11 ad s.heap.size)) (F0 m 39 ls []) := by
            intro n
            induction n with
            | zero => intro i h0 h1 h2 hm H locs hP hS ls hl; exact absurd hm (by omega)
            | succ n ih =>
              intro i h0 h1 h2 hm H locs hP hS ls hl
              have hmn := hVM.many (v := i)
              refine lv_iload_n hx hb dX3_setBars_39 rfl (lv_at hl 0 rfl) ?_
              refine lv_aload_n hx hb dX3_setBars_40 rfl (lv_at hl 1 rfl) ?_
              refine zm_get hx hb hK hts hown hP 4 (by decide) q_fl_RX3_40 (v := .int (zI (F 4))) rfl dX3_setBars_41 ?_
              refine z_icmp_ge (a := i) (b := F 4) (tgt := 68) hx hb dX3_setBars_44 (by decide) (by omega) (by omega) (fun h_44 => ?_) (fun h_44 => ?_)
              · skip
                refine lv_aload_n hx hb dX3_setBars_68 rfl (lv_at hl 1 rfl) ?_
                refine lv_iload_n hx hb dX3_setBars_69 rfl (lv_at hl 2 rfl) ?_
                refine zm_put (x := nb) hx hb hK hts hown hP hS (hD 0 (by decide)) 1 (by decide) q_fl_RX3_7 dX3_setBars_70 (fun H locs hP hz ho hS => ?_)
                refine lv_aload_n hx hb dX3_setBars_73 rfl (lv_at hl 1 rfl) ?_
                refine lv_iload_n hx hb dX3_setBars_74 rfl (lv_at hl 3 rfl) ?_
                refine zm_put (x := np) hx hb hK hts hown hP hS (hD 0 (by decide)) 2 (by decide) q_fl_RX3_13 dX3_setBars_75 (fun H locs hP hz ho hS => ?_)
                refine lv_aload_n hx hb dX3_setBars_78 rfl (lv_at hl 1 rfl) ?_
                refine k_R (c_VR (As := []) (rest := []) ⟨hx, hb, hml, hown, hts⟩ hG hS hA (c_X3_bar l G ad (zN (zN (zN F 0 (0)) 1 (nb)) 2 (np)) A B ⟨(show 1 ≤ nb ∧ nb ≤ 12 by omega), (show np = 2 ∨ np = 4 ∨ np = 8 by omega), hVM.2.2.1, hVM.2.2.2.1, hVM.2.2.2.2⟩) ⟨q_ml_RX3_81, q_im_X3_bar, q_sel_X3_bar, q_ini_RX3, q_code_X3_bar⟩ hv_X3_bar (MP.rec hK hP) hP ⟨by decide, by decide⟩ ⟨Nat.zero_le _, Nat.zero_le _⟩ rfl hl.1 rfl (Nat.le_of_ble_eq_true rfl) dX3_setBars_79) ?_
                exact e_Wi (r := nb * 384 / np) hx hb hr hlk (n_i _) hS (by omega) (by omega) (Or.inr (Or.inr ⟨by omega, (fun v q0 q1 => h2 v q0 (by omega)), rfl, hP⟩)) dX3_setBars_82
              · skip
                refine lv_aload_n hx hb dX3_setBars_47 rfl (lv_at hl 1 rfl) ?_
                refine zm_get hx hb hK hts hown hP 5 (by decide) q_fl_RX3_16 (v := .ref (ad 1)) rfl dX3_setBars_48 ?_
                refine lv_iload_n hx hb dX3_setBars_51 rfl (lv_at hl 0 rfl) ?_
                refine zm_lA0 hx hb hK hP (i := i) (by omega) dX3_setBars_52 ?_
                have hmn := hmn (by omega)
                refine z_if_le (a := A 0 (i)) (tgt := 62) hx hb dX3_setBars_53 (by decide) (by omega) (fun h_53 => ?_) (fun h_53 => ?_)
                · skip
                  refine z_iinc (lv' := [(3, .int (zI (i + 1))), (0, .ref (ad 0)), (1, .int (zI (nb))), (2, .int (zI (np)))]) hx hb dX3_setBars_62 hl (k := 0) rfl (by decide) rfl (fun ls hl => ?_)
                  refine lv_goto (tgt := 39) hx hb dX3_setBars_65 (by decide) ?_
                  exact ih (i + 1) (by omega) (by omega) (fun v q0 q1 => (Decidable.em (v = i)).elim (fun z => by rw [z]; omega) (fun z => h2 v q0 (by omega))) (by omega) H _ hP hS _ (lv_sub hl [0, 1, 2, 3] rfl)
                · skip
                  refine lv_aload_n hx hb dX3_setBars_56 rfl (lv_at hl 1 rfl) ?_
                  refine z_iconst hx hb dX3_setBars_57 ?_
                  refine k_Wi (c_VW (As := [.int (zI (2))]) (rest := []) ⟨hx, hb, hml, hown, hts⟩ hG hS hA (c_X3_fail l G ad (zN F 0 (0)) A B 2 H.size) ⟨q_ml_RX3_77, q_im_X3_fail, q_sel_X3_fail, q_ini_RX3, q_code_X3_fail⟩ hv_X3_fail (MP.rec hK hP) hP ⟨by decide, by decide⟩ ⟨Nat.zero_le _, Nat.zero_le _⟩ rfl hl.1 rfl (Nat.le_of_ble_eq_true rfl) dX3_setBars_58) hS (fA_mono hS.1) (fun r_58 H1 locs1 hq hz1 hk1 hS => ?_)
                  obtain ⟨hrz, hPz⟩ := hq
                  rw [zN_N] at hPz
                  exact e_Wi (r := r_58) hx hb hr hlk (n_i _) hS (by omega) (by omega) (Or.inr (Or.inl ⟨by omega, ⟨i, h0, by omega, by omega⟩, hrz, hPz⟩)) dX3_setBars_61
          exact lp_39 5 0 (by omega) (by omega) (fun v q0 q1 => absurd q1 (by omega)) (by omega) H _ hP hS _ (lv_sub hl [0, 1, 2, 3] rfl)
        · skip
          refine lv_aload_n hx hb dX3_setBars_31 rfl (lv_at hl 0 rfl) ?_
          refine z_iconst hx hb dX3_setBars_32 ?_
          refine k_Wi (c_VW (As := [.int (zI (1))]) (rest := []) ⟨hx, hb, hml, hown, hts⟩ hG hS hA (c_X3_fail l G ad (zN F 0 (0)) A B 1 H.size) ⟨q_ml_RX3_77, q_im_X3_fail, q_sel_X3_fail, q_ini_RX3, q_code_X3_fail⟩ hv_X3_fail (MP.rec hK hP) hP ⟨by decide, by decide⟩ ⟨Nat.zero_le _, Nat.zero_le _⟩ rfl hl.1 rfl (Nat.le_of_ble_eq_true rfl) dX3_setBars_33) hS (fA_mono hS.1) (fun r_33 H1 locs1 hq hz1 hk1 hS => ?_)
          obtain ⟨hrz, hPz⟩ := hq
          rw [zN_N] at hPz
          exact e_Wi (r := r_33) hx hb hr hlk (n_i _) hS (by omega) (by omega) (Or.inl ⟨by omega, hrz, hPz⟩) dX3_setBars_36
/-- what an element tells -/
def elP (F : Nat → Int) (A : Nat → Int → Int) (B : Int → Int → Int) (h : Int → Int) (v e w : Int) : Int := if w = 0 then bgM B v e else if w = 1 then mTk B v e else if w = 2 then B v (10 * e + 0) else if w = 3 then B v (10 * e + 1) else if w = 4 then mTn B v e else if w = 5 then B v (10 * e + 6) else if w = 6 then bgM B v e / (F 1 * 384 / F 2) else if w = 7 then shM F A B v h e else bmN (gM F A B v) e
theorem elP_eq {F : Nat → Int} {A A' : Nat → Int → Int} {B B' : Int → Int → Int} {h : Int → Int} {v e w : Int} (kp : KP A B A' B') (h7 : B' v (10 * e + 7) = bgM B v e) (h8 : B' v (10 * e + 8) = shM F A B v h e) (h9 : B' v (10 * e + 9) = bmN (gM F A B v) e) : mEl F B' v e w = elP F A B h v e w := by
  unfold mEl elP
  rw [h7, h8, h9, kp.tk v e, kp.tn v e, kp.2 v e 0 (by omega) (by omega), kp.2 v e 1 (by omega) (by omega), kp.2 v e 6 (by omega) (by omega)]
/-- what a voice tells -/
def vpS (A : Nat → Int → Int) (B : Int → Int → Int) (s8 : Int → Int) (v w : Int) (k a : Int) : Int :=
  if mTn B v k = -1 then a else if w = 2 then (if jmM A B v (k - 1) then a + 0 else a + 1) else if w = 4 then a + s8 k else if w = 5 then max a (mTn B v k) else if a = -1 then mTn B v k else min a (mTn B v k)
def vpM (F : Nat → Int) (A : Nat → Int → Int) (B : Int → Int → Int) (h : Int → Int) (v w : Int) : Int := if w = 0 then A 0 v else if w = 1 then bgM B v (A 0 v) else if w = 3 then stC (gM F A B v) (A 0 v) else pf (if 4 < w then -1 else 0) (vpS A B (shM F A B v h) v w) (A 0 v)
theorem vpM_eq {F : Nat → Int} {A A' : Nat → Int → Int} {B B' : Int → Int → Int} {h : Int → Int} {v w : Int} (kp : KP A B A' B') (h1 : A' 1 v = bgM B v (A 0 v)) (h2 : A' 2 v = stC (gM F A B v) (A 0 v)) (h8 : ∀ e, 0 ≤ e → e < A 0 v → B' v (10 * e + 8) = shM F A B v h e) : vtM A' B' v w = vpM F A B h v w := by
  unfold vtM vpM vtF
  rw [h1, h2, kp.1]
  have q : pf (if 4 < w then -1 else 0) (vtS A' B' v w) (A 0 v) = pf (if 4 < w then -1 else 0) (vpS A B (shM F A B v h) v w) (A 0 v) := pf_congr fun i a i0 i1 => by
    unfold vtS vpS
    rw [kp.tn v i, h8 i i0 i1]
    rw [show (if jmM A' B' v (i - 1) then a + 0 else a + 1) = (if jmM A B v (i - 1) then a + 0 else a + 1) from zite (iff_of_eq (kp.jm v (i - 1)))]
  rw [q]
theorem shM_01 (F : Nat → Int) (A : Nat → Int → Int) (B : Int → Int → Int) (v : Int) (h : Int → Int) (e : Int) : 0 ≤ shM F A B v h e ∧ shM F A B v h e ≤ 1 := by
  unfold shM
  repeat' split
  all_goals omega
set_option maxHeartbeats 2000000 in
theorem c_X3_element (l : Launch) (G : zG) (ad : Nat → Nat) (F : Nat → Int) (A : Nat → Int → Int) (B : Int → Int → Int) (v e w : Int) (sz : Nat) (r1 : -2147483648 ≤ v ∧ v ≤ 2147483647) (r2 : -2147483648 ≤ e ∧ e ≤ 2147483647) (r3 : -2147483648 ≤ w ∧ w ≤ 2147483647) (hVM : MOK F A B) : MW l yX3_element cX3_element 4 (some .int) 4 93 (0) (0) G [.ref (ad 0), .int (zI (v)), .int (zI (e)), .int (zI (w))] (fA 11 ad sz) sz (MP G ad F A B) (QW (fA 11 ad sz) (fun r H => (¬ (((0 ≤ v ∧ v ≤ F 4 - 1) ∧ 0 ≤ e ∧ e ≤ A 0 v - 1) ∧ (0 ≤ w ∧ w ≤ 8)) ∧ r = 0 ∧ MP G ad (zN F 0 1) A B H) ∨ ((((0 ≤ v ∧ v ≤ F 4 - 1) ∧ 0 ≤ e ∧ e ≤ A 0 v - 1) ∧ (0 ≤ w ∧ w ≤ 8)) ∧ r = elP (zN F 0 0) A B (A 3) v e w ∧ ∃ A' B', MP G ad (zN F 0 0) A' B' H ∧ KP A B A' B'))) := by
  refine mw_of hp_X3_element (Nat.le_of_ble_eq_true rfl) ?_
  intro p env s m below meth c ls hB hsz hP hl
  obtain ⟨hx, hb, hml, hr, hlk, hown, hts, hG⟩ := hB
  subst hsz
  have hK := hG.1
  have hS : va_S (fA 11 ad s.heap.size) s.heap s.heap [] := va_S.rf
  have hA : ∀ q : Nat, (fA 11 ad s.heap.size) q → G.2.2 ≤ q := fA_lo hP.1.2 hG.2.1
  have hD : ∀ k, k < 11 → (fA 11 ad s.heap.size) (ad k) := fun k hk => fA_in hk
  have hl : lv_has ls 4 [(0, .ref (ad 0)), (1, .int (zI (v))), (2, .int (zI (e))), (3, .int (zI (w)))] := hl
  have h1b := hVM.1
  have h2b := hVM.2.1
  have h3b := hVM.2.2.1
  have h4b := hVM.2.2.2.1
  refine lv_aload_n hx hb dX3_element_0 rfl (lv_at hl 0 rfl) ?_
  refine z_iconst hx hb dX3_element_1 ?_
  refine zm_put (x := 0) hx hb hK hts hown hP hS (hD 0 (by decide)) 0 (by decide) q_fl_RX3_37 dX3_element_2 (fun H locs hP hz ho hS => ?_)
  refine lv_aload_n hx hb dX3_element_5 rfl (lv_at hl 0 rfl) ?_
  refine lv_iload_n hx hb dX3_element_6 rfl (lv_at hl 1 rfl) ?_
  refine lv_iload_n hx hb dX3_element_7 rfl (lv_at hl 2 rfl) ?_
  refine k_R (c_VR (As := [.int (zI (v)), .int (zI (e))]) (rest := []) ⟨hx, hb, hml, hown, hts⟩ hG hS hA (c_X3_isElement l G ad (zN F 0 (0)) A B v e (by omega) (by omega) (hVM.F0 0)) ⟨q_ml_RX3_130, q_im_X3_isElement, q_sel_X3_isElement, q_ini_RX3, q_code_X3_isElement⟩ hv_X3_isElement (MP.rec hK hP) hP ⟨by decide, by decide⟩ ⟨Nat.zero_le _, Nat.zero_le _⟩ rfl hl.1 rfl (Nat.le_of_ble_eq_true rfl) dX3_element_8) ?_
  refine z_bif_eq (q := (0 ≤ v ∧ v ≤ (F 4) - 1) ∧ 0 ≤ e ∧ e ≤ A 0 v - 1) (tgt := 24) hx hb dX3_element_11 (by decide) (fun h_11 => ?_) (fun h_11 => ?_)
  · skip
    refine lv_aload_n hx hb dX3_element_24 rfl (lv_at hl 0 rfl) ?_
    refine z_iconst hx hb dX3_element_25 ?_
    refine k_Wi (c_VW (As := [.int (zI (1))]) (rest := []) ⟨hx, hb, hml, hown, hts⟩ hG hS hA (c_X3_fail l G ad (zN F 0 (0)) A B 1 H.size) ⟨q_ml_RX3_77, q_im_X3_fail, q_sel_X3_fail, q_ini_RX3, q_code_X3_fail⟩ hv_X3_fail (MP.rec hK hP) hP ⟨by decide, by decide⟩ ⟨Nat.zero_le _, Nat.zero_le _⟩ rfl hl.1 rfl (Nat.le_of_ble_eq_true rfl) dX3_element_26) hS (fA_mono hS.1) (fun r_26 H1 locs1 hq hz1 hk1 hS => ?_)
    obtain ⟨hrz, hPz⟩ := hq
    rw [zN_N] at hPz
    exact e_Wi (r := r_26) hx hb hr hlk (n_i _) hS (by omega) (by omega) (Or.inl ⟨(fun q => by first | exact h_11 q.1 | exact h_21 q.2), hrz, hPz⟩) dX3_element_29
  · skip
    refine lv_iload_n hx hb dX3_element_14 rfl (lv_at hl 3 rfl) ?_
    refine z_iconst hx hb dX3_element_15 ?_
    refine z_bipush hx hb dX3_element_16 (by decide) ?_
    refine k_R (c_SR (As := [.int (zI (w)), .int (zI (0)), .int (zI (8))]) (rest := []) ⟨hx, hb, hml, hown, hts⟩ hG hS hA (c_X3_isIn l G w 0 8 (show -2147483648 ≤ w ∧ w ≤ 2147483647 by omega) (show -2147483648 ≤ 0 ∧ 0 ≤ 2147483647 by omega) (show -2147483648 ≤ 8 ∧ 8 ≤ 2147483647 by omega)) ⟨q_ml_RX3_43, q_st_X3_isIn, q_ini_RX3, q_code_X3_isIn⟩ hs_X3_isIn trivial ⟨by decide, by decide⟩ ⟨Nat.zero_le _, Nat.zero_le _⟩ rfl hl.1 rfl (Nat.le_of_ble_eq_true rfl) dX3_element_18) ?_
    refine z_bif_ne (q := 0 ≤ w ∧ w ≤ 8) (tgt := 30) hx hb dX3_element_21 (by decide) (fun h_21 => ?_) (fun h_21 => ?_)
    · skip
      have hmn := hVM.many (v := v) (by omega)
      have hbr := bgM_rng hVM (v := v) (by omega) (e := e) (by omega)
      refine lv_aload_n hx hb dX3_element_30 rfl (lv_at hl 0 rfl) ?_
      refine lv_iload_n hx hb dX3_element_31 rfl (lv_at hl 1 rfl) ?_
      refine k_Wv (c_VW (As := [.int (zI (v))]) (rest := []) ⟨hx, hb, hml, hown, hts⟩ hG hS hA (c_X3_find l G ad (zN F 0 (0)) A B v H.size (by omega) (hVM.F0 0)) ⟨q_ml_RX3_145, q_im_X3_find, q_sel_X3_find, q_ini_RX3, q_code_X3_find⟩ hv_X3_find (MP.rec hK hP) hP ⟨by decide, by decide⟩ ⟨Nat.zero_le _, Nat.zero_le _⟩ rfl hl.1 rfl (Nat.le_of_ble_eq_true rfl) dX3_element_32) hS (fA_mono hS.1) (fun H1 locs1 hq hz1 hk1 hS => ?_)
      obtain ⟨A2, B2, hP, kp2, tm2, h82, h92, hs2⟩ := hq
      have hP : MP G ad (zN F 0 0) A2 B2 H1 := hP
      have h72 : B2 v (10 * e + 7) = bgM B v e := tm2.2 e (by omega) (by omega)
      refine lv_aload_n hx hb dX3_element_35 rfl (lv_at hl 0 rfl) ?_
      refine lv_iload_n hx hb dX3_element_36 rfl (lv_at hl 1 rfl) ?_
      refine lv_iload_n hx hb dX3_element_37 rfl (lv_at hl 2 rfl) ?_
      refine lv_iload_n hx hb dX3_element_38 rfl (lv_at hl 3 rfl) ?_
      refine k_R (c_VR (As := [.int (zI (v)), .int (zI (e)), .int (zI (w))]) (rest := []) ⟨hx, hb, hml, hown, hts⟩ hG hS hA (c_X3_elementTold l G ad (zN F 0 (0)) A2 B2 v e w (by omega) (by rw [kp2.1]; omega) (by rw [h72]; omega) (by omega) ((kp2.ok hVM).F0 0)) ⟨q_ml_RX3_148, q_im_X3_elementTold, q_sel_X3_elementTold, q_ini_RX3, q_code_X3_elementTold⟩ hv_X3_elementTold (MP.rec hK hP) hP ⟨by decide, by decide⟩ ⟨Nat.zero_le _, Nat.zero_le _⟩ rfl hl.1 rfl (Nat.le_of_ble_eq_true rfl) dX3_element_39) ?_
      rw [elP_eq kp2 h72 (h82 e (by omega) (by omega)) (h92 e (by omega) (by omega))]
      exact e_Wi (r := elP (zN F 0 0) A B (A 3) v e w) hx hb hr hlk (n_i _) hS (by omega) (by omega) (Or.inr ⟨⟨h_11, h_21⟩, rfl, A2, B2, hP, kp2⟩) dX3_element_42
    · skip
      refine lv_aload_n hx hb dX3_element_24 rfl (lv_at hl 0 rfl) ?_
      refine z_iconst hx hb dX3_element_25 ?_
      refine k_Wi (c_VW (As := [.int (zI (1))]) (rest := []) ⟨hx, hb, hml, hown, hts⟩ hG hS hA (c_X3_fail l G ad (zN F 0 (0)) A B 1 H.size) ⟨q_ml_RX3_77, q_im_X3_fail, q_sel_X3_fail, q_ini_RX3, q_code_X3_fail⟩ hv_X3_fail (MP.rec hK hP) hP ⟨by decide, by decide⟩ ⟨Nat.zero_le _, Nat.zero_le _⟩ rfl hl.1 rfl (Nat.le_of_ble_eq_true rfl) dX3_element_26) hS (fA_mono hS.1) (fun r_26 H1 locs1 hq hz1 hk1 hS => ?_)
      obtain ⟨hrz, hPz⟩ := hq
      rw [zN_N] at hPz
      exact e_Wi (r := r_26) hx hb hr hlk (n_i _) hS (by omega) (by omega) (Or.inl ⟨(fun q => by first | exact h_11 q.1 | exact h_21 q.2), hrz, hPz⟩) dX3_element_29
set_option maxHeartbeats 2000000 in
theorem c_X3_voice (l : Launch) (G : zG) (ad : Nat → Nat) (F : Nat → Int) (A : Nat → Int → Int) (B : Int → Int → Int) (v w : Int) (sz : Nat) (r1 : -2147483648 ≤ v ∧ v ≤ 2147483647) (r2 : -2147483648 ≤ w ∧ w ≤ 2147483647) (hVM : MOK F A B) : MW l yX3_voice cX3_voice 3 (some .int) 4 93 (0) (0) G [.ref (ad 0), .int (zI (v)), .int (zI (w))] (fA 11 ad sz) sz (MP G ad F A B) (QW (fA 11 ad sz) (fun r H => (¬ ((0 ≤ v ∧ v ≤ F 4 - 1) ∧ (0 ≤ w ∧ w ≤ 6)) ∧ r = 0 ∧ MP G ad (zN F 0 1) A B H) ∨ (((0 ≤ v ∧ v ≤ F 4 - 1) ∧ (0 ≤ w ∧ w ≤ 6)) ∧ r = vpM (zN F 0 0) A B (A 3) v w ∧ ∃ A' B', MP G ad (zN F 0 0) A' B' H ∧ KP A B A' B'))) := by
  refine mw_of hp_X3_voice (Nat.le_of_ble_eq_true rfl) ?_
  intro p env s m below meth c ls hB hsz hP hl
  obtain ⟨hx, hb, hml, hr, hlk, hown, hts, hG⟩ := hB
  subst hsz
  have hK := hG.1
  have hS : va_S (fA 11 ad s.heap.size) s.heap s.heap [] := va_S.rf
  have hA : ∀ q : Nat, (fA 11 ad s.heap.size) q → G.2.2 ≤ q := fA_lo hP.1.2 hG.2.1
  have hD : ∀ k, k < 11 → (fA 11 ad s.heap.size) (ad k) := fun k hk => fA_in hk
  have hl : lv_has ls 3 [(0, .ref (ad 0)), (1, .int (zI (v))), (2, .int (zI (w)))] := hl
  have h1b := hVM.1
  have h2b := hVM.2.1
  have h3b := hVM.2.2.1
  have h4b := hVM.2.2.2.1
  refine lv_aload_n hx hb dX3_voice_0 rfl (lv_at hl 0 rfl) ?_
  refine z_iconst hx hb dX3_voice_1 ?_
  refine zm_put (x := 0) hx hb hK hts hown hP hS (hD 0 (by decide)) 0 (by decide) q_fl_RX3_37 dX3_voice_2 (fun H locs hP hz ho hS => ?_)
  refine lv_aload_n hx hb dX3_voice_5 rfl (lv_at hl 0 rfl) ?_
  refine lv_iload_n hx hb dX3_voice_6 rfl (lv_at hl 1 rfl) ?_
  refine k_R (c_VR (As := [.int (zI (v))]) (rest := []) ⟨hx, hb, hml, hown, hts⟩ hG hS hA (c_X3_isVoice l G ad (zN F 0 (0)) A B v (by omega) (hVM.F0 0)) ⟨q_ml_RX3_47, q_im_X3_isVoice, q_sel_X3_isVoice, q_ini_RX3, q_code_X3_isVoice⟩ hv_X3_isVoice (MP.rec hK hP) hP ⟨by decide, by decide⟩ ⟨Nat.zero_le _, Nat.zero_le _⟩ rfl hl.1 rfl (Nat.le_of_ble_eq_true rfl) dX3_voice_7) ?_
  refine z_bif_eq (q := 0 ≤ v ∧ v ≤ (F 4) - 1) (tgt := 23) hx hb dX3_voice_10 (by decide) (fun h_10 => ?_) (fun h_10 => ?_)
  · skip
    refine lv_aload_n hx hb dX3_voice_23 rfl (lv_at hl 0 rfl) ?_
    refine z_iconst hx hb dX3_voice_24 ?_
    refine k_Wi (c_VW (As := [.int (zI (1))]) (rest := []) ⟨hx, hb, hml, hown, hts⟩ hG hS hA (c_X3_fail l G ad (zN F 0 (0)) A B 1 H.size) ⟨q_ml_RX3_77, q_im_X3_fail, q_sel_X3_fail, q_ini_RX3, q_code_X3_fail⟩ hv_X3_fail (MP.rec hK hP) hP ⟨by decide, by decide⟩ ⟨Nat.zero_le _, Nat.zero_le _⟩ rfl hl.1 rfl (Nat.le_of_ble_eq_true rfl) dX3_voice_25) hS (fA_mono hS.1) (fun r_25 H1 locs1 hq hz1 hk1 hS => ?_)
    obtain ⟨hrz, hPz⟩ := hq
    rw [zN_N] at hPz
    exact e_Wi (r := r_25) hx hb hr hlk (n_i _) hS (by omega) (by omega) (Or.inl ⟨(fun q => by first | exact h_10 q.1 | exact h_20 q.2), hrz, hPz⟩) dX3_voice_28
  · skip
    refine lv_iload_n hx hb dX3_voice_13 rfl (lv_at hl 2 rfl) ?_
    refine z_iconst hx hb dX3_voice_14 ?_
    refine z_bipush hx hb dX3_voice_15 (by decide) ?_
    refine k_R (c_SR (As := [.int (zI (w)), .int (zI (0)), .int (zI (6))]) (rest := []) ⟨hx, hb, hml, hown, hts⟩ hG hS hA (c_X3_isIn l G w 0 6 (show -2147483648 ≤ w ∧ w ≤ 2147483647 by omega) (show -2147483648 ≤ 0 ∧ 0 ≤ 2147483647 by omega) (show -2147483648 ≤ 6 ∧ 6 ≤ 2147483647 by omega)) ⟨q_ml_RX3_43, q_st_X3_isIn, q_ini_RX3, q_code_X3_isIn⟩ hs_X3_isIn trivial ⟨by decide, by decide⟩ ⟨Nat.zero_le _, Nat.zero_le _⟩ rfl hl.1 rfl (Nat.le_of_ble_eq_true rfl) dX3_voice_17) ?_
    refine z_bif_ne (q := 0 ≤ w ∧ w ≤ 6) (tgt := 29) hx hb dX3_voice_20 (by decide) (fun h_20 => ?_) (fun h_20 => ?_)
    · skip
      refine lv_aload_n hx hb dX3_voice_29 rfl (lv_at hl 0 rfl) ?_
      refine lv_iload_n hx hb dX3_voice_30 rfl (lv_at hl 1 rfl) ?_
      refine k_Wv (c_VW (As := [.int (zI (v))]) (rest := []) ⟨hx, hb, hml, hown, hts⟩ hG hS hA (c_X3_find l G ad (zN F 0 (0)) A B v H.size (by omega) (hVM.F0 0)) ⟨q_ml_RX3_145, q_im_X3_find, q_sel_X3_find, q_ini_RX3, q_code_X3_find⟩ hv_X3_find (MP.rec hK hP) hP ⟨by decide, by decide⟩ ⟨Nat.zero_le _, Nat.zero_le _⟩ rfl hl.1 rfl (Nat.le_of_ble_eq_true rfl) dX3_voice_31) hS (fA_mono hS.1) (fun H1 locs1 hq hz1 hk1 hS => ?_)
      obtain ⟨A2, B2, hP, kp2, tm2, h82, h92, hs2⟩ := hq
      have hP : MP G ad (zN F 0 0) A2 B2 H1 := hP
      refine lv_aload_n hx hb dX3_voice_34 rfl (lv_at hl 0 rfl) ?_
      refine lv_iload_n hx hb dX3_voice_35 rfl (lv_at hl 1 rfl) ?_
      refine lv_iload_n hx hb dX3_voice_36 rfl (lv_at hl 2 rfl) ?_
      refine k_R (c_VR (As := [.int (zI (v)), .int (zI (w))]) (rest := []) ⟨hx, hb, hml, hown, hts⟩ hG hS hA (c_X3_voiceTold l G ad (zN F 0 (0)) A2 B2 v w (by omega) (by omega) (fun e q0 q1 => by rw [h82 e q0 (by rw [← kp2.1]; exact q1)]; exact shM_01 _ _ _ _ _ _) ((kp2.ok hVM).F0 0)) ⟨q_ml_RX3_151, q_im_X3_voiceTold, q_sel_X3_voiceTold, q_ini_RX3, q_code_X3_voiceTold⟩ hv_X3_voiceTold (MP.rec hK hP) hP ⟨by decide, by decide⟩ ⟨Nat.zero_le _, Nat.zero_le _⟩ rfl hl.1 rfl (Nat.le_of_ble_eq_true rfl) dX3_voice_37) ?_
      rw [vpM_eq kp2 tm2.1 hs2 h82]
      exact e_Wi (r := vpM (zN F 0 0) A B (A 3) v w) hx hb hr hlk (n_i _) hS (by omega) (by omega) (Or.inr ⟨⟨h_10, h_20⟩, rfl, A2, B2, hP, kp2⟩) dX3_voice_40
    · skip
      refine lv_aload_n hx hb dX3_voice_23 rfl (lv_at hl 0 rfl) ?_
      refine z_iconst hx hb dX3_voice_24 ?_
      refine k_Wi (c_VW (As := [.int (zI (1))]) (rest := []) ⟨hx, hb, hml, hown, hts⟩ hG hS hA (c_X3_fail l G ad (zN F 0 (0)) A B 1 H.size) ⟨q_ml_RX3_77, q_im_X3_fail, q_sel_X3_fail, q_ini_RX3, q_code_X3_fail⟩ hv_X3_fail (MP.rec hK hP) hP ⟨by decide, by decide⟩ ⟨Nat.zero_le _, Nat.zero_le _⟩ rfl hl.1 rfl (Nat.le_of_ble_eq_true rfl) dX3_voice_25) hS (fA_mono hS.1) (fun r_25 H1 locs1 hq hz1 hk1 hS => ?_)
      obtain ⟨hrz, hPz⟩ := hq
      rw [zN_N] at hPz
      exact e_Wi (r := r_25) hx hb hr hlk (n_i _) hS (by omega) (by omega) (Or.inl ⟨(fun q => by first | exact h_10 q.1 | exact h_20 q.2), hrz, hPz⟩) dX3_voice_28
set_option maxHeartbeats 2000000 in
theorem c_X3_faults (l : Launch) (G : zG) (ad : Nat → Nat) (F : Nat → Int) (A : Nat → Int → Int) (B : Int → Int → Int) (sz : Nat) (hVM : MOK F A B) : MW l yX3_faults cX3_faults 1 (some .int) 5 114 (0) (0) G [.ref (ad 0)] (fA 11 ad sz) sz (MP G ad F A B) (QW (fA 11 ad sz) (fun r H => r = fauM (zN F 0 0) A B (F 4) ∧ ∃ A' B', MP G ad (zN F 0 0) A' B' H ∧ KP A B A' B')) := by
  refine mw_of hp_X3_faults (Nat.le_of_ble_eq_true rfl) ?_
  intro p env s m below meth c ls hB hsz hP hl
  obtain ⟨hx, hb, hml, hr, hlk, hown, hts, hG⟩ := hB
  subst hsz
  have hK := hG.1
  have hS : va_S (fA 11 ad s.heap.size) s.heap s.heap [] := va_S.rf
  have hA : ∀ q : Nat, (fA 11 ad s.heap.size) q → G.2.2 ≤ q := fA_lo hP.1.2 hG.2.1
  have hD : ∀ k, k < 11 → (fA 11 ad s.heap.size) (ad k) := fun k hk => fA_in hk
  have hl : lv_has ls 1 [(0, .ref (ad 0))] := hl
  have h1b := hVM.1
  have h2b := hVM.2.1
  have h3b := hVM.2.2.1
  have h4b := hVM.2.2.2.1
  refine lv_aload_n hx hb dX3_faults_0 rfl (lv_at hl 0 rfl) ?_
  refine z_iconst hx hb dX3_faults_1 ?_
  refine zm_put (x := 0) hx hb hK hts hown hP hS (hD 0 (by decide)) 0 (by decide) q_fl_RX3_37 dX3_faults_2 (fun H locs hP hz ho hS => ?_)
  refine lv_aload_n hx hb dX3_faults_5 rfl (lv_at hl 0 rfl) ?_
  refine k_Wi (c_VW (As := []) (rest := []) ⟨hx, hb, hml, hown, hts⟩ hG hS hA (c_X3_faultsOf l G ad (zN F 0 (0)) A B H.size (hVM.F0 0)) ⟨q_ml_RX3_169, q_im_X3_faultsOf, q_sel_X3_faultsOf, q_ini_RX3, q_code_X3_faultsOf⟩ hv_X3_faultsOf (MP.rec hK hP) hP ⟨by decide, by decide⟩ ⟨Nat.zero_le _, Nat.zero_le _⟩ rfl hl.1 rfl (Nat.le_of_ble_eq_true rfl) dX3_faults_6) hS (fA_mono hS.1) (fun r_6 H1 locs1 hq hz1 hk1 hS => ?_)
  obtain ⟨hr9, A2, B2, hP, kp2, e24⟩ := hq
  exact e_Wi (r := r_6) hx hb hr hlk (n_i _) hS (by omega) (by omega) ⟨hr9, A2, B2, hP, kp2⟩ dX3_faults_9
