set_option maxHeartbeats 600000 in
theorem c_X3_isLater (l : Launch) (G : zG) (ad : Nat → Nat) (F : Nat → Int) (A : Nat → Int → Int) (B : Int → Int → Int) (at9 x v b : Int) (ha : 0 ≤ at9 ∧ at9 + 3 < 6400) (r1 : -2147483648 ≤ x ∧ x ≤ 2147483647) (r2 : -2147483648 ≤ v ∧ v ≤ 2147483647) (r3 : -2147483648 ≤ b ∧ b ≤ 2147483647) (hVe : ∀ k, 0 ≤ k → k < 6400 → -2147483648 ≤ A 4 k ∧ A 4 k ≤ 2147483647) : MR l yX3_isLater cX3_isLater 5 (some .boolean) 0 0 G [.ref (ad 0), .int (zI (at9)), .int (zI (x)), .int (zI (v)), .int (zI (b))] (MP G ad F A B) (.int (zI (bI (if ¬ A 4 at9 = x then x < A 4 at9 else if ¬ A 4 (at9 + 3) = b then b < A 4 (at9 + 3) else v < A 4 (at9 + 1))))) := by
  refine mr_of hp_X3_isLater (Nat.le_of_ble_eq_true rfl) ?_
  intro p env s m below meth c ls hB hP hl
  obtain ⟨hx, hb, hml, hr, hlk, hown, hts, hG⟩ := hB
  have hK := hG.1
  have hS : va_S (fun _ => False) s.heap s.heap [] := va_S.rf
  have hA : ∀ q : Nat, (fun _ : Nat => False) q → G.2.2 ≤ q := fun _ h => h.elim
  have hl : lv_has ls 5 [(0, .ref (ad 0)), (1, .int (zI (at9))), (2, .int (zI (x))), (3, .int (zI (v))), (4, .int (zI (b)))] := hl
  have q0 := hVe at9 (by omega) (by omega)
  have q1 := hVe (at9 + 1) (by omega) (by omega)
  have q3 := hVe (at9 + 3) (by omega) (by omega)
  refine lv_aload_n hx hb dX3_isLater_0 rfl (lv_at hl 0 rfl) ?_
  refine zm_get hx hb hK hts hown hP 11 (by decide) q_fl_RX3_34 (v := .ref (ad 10)) rfl dX3_isLater_1 ?_
  refine lv_iload_n hx hb dX3_isLater_4 rfl (lv_at hl 1 rfl) ?_
  refine zm_lA4 hx hb hK hP (i := at9) (by omega) dX3_isLater_5 ?_
  refine lv_iload_n hx hb dX3_isLater_6 rfl (lv_at hl 2 rfl) ?_
  refine z_icmp_eq (a := A 4 (at9)) (b := x) (tgt := 26) hx hb dX3_isLater_7 (by decide) (by omega) (by omega) (fun h_7 => ?_) (fun h_7 => ?_)
  · skip
    refine lv_aload_n hx hb dX3_isLater_26 rfl (lv_at hl 0 rfl) ?_
    refine zm_get hx hb hK hts hown hP 11 (by decide) q_fl_RX3_34 (v := .ref (ad 10)) rfl dX3_isLater_27 ?_
    refine lv_iload_n hx hb dX3_isLater_30 rfl (lv_at hl 1 rfl) ?_
    refine z_iconst hx hb dX3_isLater_31 ?_
    refine z_iadd (x := at9) (y := 3) hx hb dX3_isLater_32 ?_
    refine zm_lA4 hx hb hK hP (i := (at9) + (3)) (by omega) dX3_isLater_33 ?_
    refine lv_iload hx hb dX3_isLater_34 (lv_at hl 4 rfl) ?_
    refine z_icmp_eq (a := A 4 ((at9) + (3))) (b := b) (tgt := 60) hx hb dX3_isLater_36 (by decide) (by omega) (by omega) (fun h_36 => ?_) (fun h_36 => ?_)
    · skip
      refine lv_aload_n hx hb dX3_isLater_60 rfl (lv_at hl 0 rfl) ?_
      refine zm_get hx hb hK hts hown hP 11 (by decide) q_fl_RX3_34 (v := .ref (ad 10)) rfl dX3_isLater_61 ?_
      refine lv_iload_n hx hb dX3_isLater_64 rfl (lv_at hl 1 rfl) ?_
      refine z_iconst hx hb dX3_isLater_65 ?_
      refine z_iadd (x := at9) (y := 1) hx hb dX3_isLater_66 ?_
      refine zm_lA4 hx hb hK hP (i := (at9) + (1)) (by omega) dX3_isLater_67 ?_
      refine lv_iload_n hx hb dX3_isLater_68 rfl (lv_at hl 3 rfl) ?_
      refine z_icmp_le (a := A 4 ((at9) + (1))) (b := v) (tgt := 76) hx hb dX3_isLater_69 (by decide) (by omega) (by omega) (fun h_69 => ?_) (fun h_69 => ?_)
      · skip
        refine z_iconst hx hb dX3_isLater_76 ?_
        exact e_R (r' := 0) hx hb hr hlk (n_z (by first | exact bI_01 _ | (left; rfl) | (right; rfl) | omega)) (by first | exact bI_t (by rw [if_neg (by omega), if_pos (by omega)]; omega) | exact bI_f (by rw [if_neg (by omega), if_pos (by omega)]; omega) | exact bI_t (by rw [if_neg (by omega), if_neg (by omega)]; omega) | exact bI_f (by rw [if_neg (by omega), if_neg (by omega)]; omega)) dX3_isLater_77
      · skip
        refine z_iconst hx hb dX3_isLater_72 ?_
        refine lv_goto (tgt := 77) hx hb dX3_isLater_73 (by decide) ?_
        exact e_R (r' := 1) hx hb hr hlk (n_z (by first | exact bI_01 _ | (left; rfl) | (right; rfl) | omega)) (by first | exact bI_t (by rw [if_neg (by omega), if_pos (by omega)]; omega) | exact bI_f (by rw [if_neg (by omega), if_pos (by omega)]; omega) | exact bI_t (by rw [if_neg (by omega), if_neg (by omega)]; omega) | exact bI_f (by rw [if_neg (by omega), if_neg (by omega)]; omega)) dX3_isLater_77
    · skip
      refine lv_aload_n hx hb dX3_isLater_39 rfl (lv_at hl 0 rfl) ?_
      refine zm_get hx hb hK hts hown hP 11 (by decide) q_fl_RX3_34 (v := .ref (ad 10)) rfl dX3_isLater_40 ?_
      refine lv_iload_n hx hb dX3_isLater_43 rfl (lv_at hl 1 rfl) ?_
      refine z_iconst hx hb dX3_isLater_44 ?_
      refine z_iadd (x := at9) (y := 3) hx hb dX3_isLater_45 ?_
      refine zm_lA4 hx hb hK hP (i := (at9) + (3)) (by omega) dX3_isLater_46 ?_
      refine lv_iload hx hb dX3_isLater_47 (lv_at hl 4 rfl) ?_
      refine z_icmp_le (a := A 4 ((at9) + (3))) (b := b) (tgt := 56) hx hb dX3_isLater_49 (by decide) (by omega) (by omega) (fun h_49 => ?_) (fun h_49 => ?_)
      · skip
        refine z_iconst hx hb dX3_isLater_56 ?_
        refine lv_goto (tgt := 77) hx hb dX3_isLater_57 (by decide) ?_
        exact e_R (r' := 0) hx hb hr hlk (n_z (by first | exact bI_01 _ | (left; rfl) | (right; rfl) | omega)) (by first | exact bI_t (by rw [if_neg (by omega), if_pos (by omega)]; omega) | exact bI_f (by rw [if_neg (by omega), if_pos (by omega)]; omega) | exact bI_t (by rw [if_neg (by omega), if_neg (by omega)]; omega) | exact bI_f (by rw [if_neg (by omega), if_neg (by omega)]; omega)) dX3_isLater_77
      · skip
        refine z_iconst hx hb dX3_isLater_52 ?_
        refine lv_goto (tgt := 77) hx hb dX3_isLater_53 (by decide) ?_
        exact e_R (r' := 1) hx hb hr hlk (n_z (by first | exact bI_01 _ | (left; rfl) | (right; rfl) | omega)) (by first | exact bI_t (by rw [if_neg (by omega), if_pos (by omega)]; omega) | exact bI_f (by rw [if_neg (by omega), if_pos (by omega)]; omega) | exact bI_t (by rw [if_neg (by omega), if_neg (by omega)]; omega) | exact bI_f (by rw [if_neg (by omega), if_neg (by omega)]; omega)) dX3_isLater_77
  · skip
    refine lv_aload_n hx hb dX3_isLater_10 rfl (lv_at hl 0 rfl) ?_
    refine zm_get hx hb hK hts hown hP 11 (by decide) q_fl_RX3_34 (v := .ref (ad 10)) rfl dX3_isLater_11 ?_
    refine lv_iload_n hx hb dX3_isLater_14 rfl (lv_at hl 1 rfl) ?_
    refine zm_lA4 hx hb hK hP (i := at9) (by omega) dX3_isLater_15 ?_
    refine lv_iload_n hx hb dX3_isLater_16 rfl (lv_at hl 2 rfl) ?_
    refine z_icmp_le (a := A 4 (at9)) (b := x) (tgt := 24) hx hb dX3_isLater_17 (by decide) (by omega) (by omega) (fun h_17 => ?_) (fun h_17 => ?_)
    · skip
      refine z_iconst hx hb dX3_isLater_24 ?_
      exact e_R (r' := 0) hx hb hr hlk (n_z (by first | exact bI_01 _ | (left; rfl) | (right; rfl) | omega)) (by first | exact bI_t (by rw [if_pos (by omega)]; omega) | exact bI_f (by rw [if_pos (by omega)]; omega)) dX3_isLater_25
    · skip
      refine z_iconst hx hb dX3_isLater_20 ?_
      refine lv_goto (tgt := 25) hx hb dX3_isLater_21 (by decide) ?_
      exact e_R (r' := 1) hx hb hr hlk (n_z (by first | exact bI_01 _ | (left; rfl) | (right; rfl) | omega)) (by first | exact bI_t (by rw [if_pos (by omega)]; omega) | exact bI_f (by rw [if_pos (by omega)]; omega)) dX3_isLater_25
