/-! the text of keySign: String.indexOf on it, by what it answers at most -/
theorem hf_J0_coder_7d493 : plainFor yJ0_coder_7d493 = true := by decide +kernel
theorem hf_J0_isLatin1_aae02 : plainFor yJ0_isLatin1_aae02 = true := by decide +kernel
theorem hf_J0_length_8abf5 : plainFor yJ0_length_8abf5 = true := by decide +kernel
theorem hf_J0_indexOf_0f7a4 : plainFor yJ0_indexOf_0f7a4 = true := by decide +kernel
theorem hf_J0_indexOf_7cf53 : plainFor yJ0_indexOf_7cf53 = true := by decide +kernel
theorem hf_J1_indexOf_4cfef : plainFor yJ1_indexOf_4cfef = true := by decide +kernel
theorem hf_J1_canEncode_9a6ad : plainFor yJ1_canEncode_9a6ad = true := by decide +kernel
theorem hf_J1_indexOfChar_4cfef : plainFor yJ1_indexOfChar_4cfef = true := by decide +kernel
abbrev fN : Nat → Prop := fun _ => False
section TX9
variable {s : State} {G : zG} {H : Heap} {locs : List Loc}
theorem tx_rec (hG : GK G s) (hS : va_S fN s.heap H locs) : ∃ cell : Cell, H[G.2.1 12]? = some cell ∧ cell.vm.isStatics = false ∧ s.vm.findClass RJ0 = some cell.cls := vk_recv (hG.2.2.2.2.2.2.2.2.2.2.2.1.1.narrow (B := fN) (fun _ h => h.elim)) (i := 0) (by decide) hS
theorem tx_cod (hG : GK G s) : va_OF "java/lang/String" "coder" "B" (.int (zI 0)) (G.2.1 12) fN s s.heap := ((hG.2.2.2.2.2.2.2.2.2.2.2.1.1.narrow (B := fN) (fun _ h => h.elim)).1 0 (by decide)).2.1
theorem tx_val (hG : GK G s) : va_OF "java/lang/String" "value" "[B" (.ref (G.2.1 13)) (G.2.1 12) fN s s.heap := ((hG.2.2.2.2.2.2.2.2.2.2.2.1.1.narrow (B := fN) (fun _ h => h.elim)).1 0 (by decide)).2.2.1
theorem tx_arr (hG : GK G s) : va_T .byte (G.2.1 13) 7 (fun j => .int (([51, 48, 52, 49, 53, 50, 54] : List Int32).getD j 0)) fN s s.heap := ((hG.2.2.2.2.2.2.2.2.2.2.2.1.1.narrow (B := fN) (fun _ h => h.elim)).1 0 (by decide)).2.2.2
theorem tx_cs (hG : GK G s) : va_Z "java/lang/String" "COMPACT_STRINGS" "Z" (.int (zI 1)) fN s s.heap := hG.2.2.2.2.2.2.2.2.2.2.2.2.narrow (fun _ h => h.elim)
end TX9
theorem c_J0_coder_7d493 (l : Launch) (G : zG) : MR l yJ0_coder_7d493 cJ0_coder_7d493 1 (some .byte) 0 0 G [.ref (G.2.1 12)] (fun _ => True) (.int (zI 0)) := by
  refine mr_ofF hf_J0_coder_7d493 (Nat.le_of_ble_eq_true rfl) ?_
  intro p env s m below meth c ls hB hP hl
  obtain ⟨hx, hb, hml, hr, hlk, hown, hts, hG⟩ := hB
  have hK := hG.1
  have hS : va_S fN s.heap s.heap [] := va_S.rf
  have hA : ∀ q : Nat, fN q → G.2.2 ≤ q := fun _ h => h.elim
  have hl : lv_has ls 1 [(0, .ref (G.2.1 12))] := hl
  refine va_gets hx hb (tx_cs hG) hS hown (hts _ q_fl_RJ0_38) (fun _ h => h) dJ0_coder_7d493_0 ?_
  refine z_if_eq (a := 1) (tgt := 13) hx hb dJ0_coder_7d493_3 (by decide) (by decide) (fun h => absurd h (by decide)) (fun _ => ?_)
  refine lv_aload_n hx hb dJ0_coder_7d493_6 rfl (lv_at hl 0 rfl) ?_
  refine vk_getf hx hb (tx_cod hG) hS hown (hts _ q_fl_RJ0_15) (fun _ h => h) dJ0_coder_7d493_7 ?_
  refine lv_goto (tgt := 14) hx hb dJ0_coder_7d493_10 (by decide) ?_
  exact e_R (r' := 0) hx hb hr hlk rfl rfl dJ0_coder_7d493_14
theorem c_J0_isLatin1_aae02 (l : Launch) (G : zG) : MR l yJ0_isLatin1_aae02 cJ0_isLatin1_aae02 1 (some .boolean) 0 0 G [.ref (G.2.1 12)] (fun _ => True) (.int (zI 1)) := by
  refine mr_ofF hf_J0_isLatin1_aae02 (Nat.le_of_ble_eq_true rfl) ?_
  intro p env s m below meth c ls hB hP hl
  obtain ⟨hx, hb, hml, hr, hlk, hown, hts, hG⟩ := hB
  have hK := hG.1
  have hS : va_S fN s.heap s.heap [] := va_S.rf
  have hA : ∀ q : Nat, fN q → G.2.2 ≤ q := fun _ h => h.elim
  have hl : lv_has ls 1 [(0, .ref (G.2.1 12))] := hl
  refine va_gets hx hb (tx_cs hG) hS hown (hts _ q_fl_RJ0_38) (fun _ h => h) dJ0_isLatin1_aae02_0 ?_
  refine z_if_eq (a := 1) (tgt := 17) hx hb dJ0_isLatin1_aae02_3 (by decide) (by decide) (fun h => absurd h (by decide)) (fun _ => ?_)
  refine lv_aload_n hx hb dJ0_isLatin1_aae02_6 rfl (lv_at hl 0 rfl) ?_
  refine vk_getf hx hb (tx_cod hG) hS hown (hts _ q_fl_RJ0_15) (fun _ h => h) dJ0_isLatin1_aae02_7 ?_
  refine z_if_ne (a := 0) (tgt := 17) hx hb dJ0_isLatin1_aae02_10 (by decide) (by decide) (fun h => absurd rfl h) (fun _ => ?_)
  refine z_iconst hx hb dJ0_isLatin1_aae02_13 ?_
  refine lv_goto (tgt := 18) hx hb dJ0_isLatin1_aae02_14 (by decide) ?_
  exact e_R (r' := 1) hx hb hr hlk rfl rfl dJ0_isLatin1_aae02_18
theorem c_J0_length_8abf5 (l : Launch) (G : zG) : MR l yJ0_length_8abf5 cJ0_length_8abf5 1 (some .int) 1 20 G [.ref (G.2.1 12)] (fun _ => True) (.int (zI 7)) := by
  refine mr_ofF hf_J0_length_8abf5 (Nat.le_of_ble_eq_true rfl) ?_
  intro p env s m below meth c ls hB hP hl
  obtain ⟨hx, hb, hml, hr, hlk, hown, hts, hG⟩ := hB
  have hK := hG.1
  have hS : va_S fN s.heap s.heap [] := va_S.rf
  have hA : ∀ q : Nat, fN q → G.2.2 ≤ q := fun _ h => h.elim
  have hl : lv_has ls 1 [(0, .ref (G.2.1 12))] := hl
  refine lv_aload_n hx hb dJ0_length_8abf5_0 rfl (lv_at hl 0 rfl) ?_
  refine vk_getf hx hb (tx_val hG) hS hown (hts _ q_fl_RJ0_9) (fun _ h => h) dJ0_length_8abf5_1 ?_
  refine va_tlen hx hb (tx_arr hG) hS (v := zI 7) rfl dJ0_length_8abf5_4 ?_
  refine lv_aload_n hx hb dJ0_length_8abf5_5 rfl (lv_at hl 0 rfl) ?_
  refine k_R (c_VR (As := []) (rest := [.int (zI 7)]) ⟨hx, hb, hml, hown, hts⟩ hG hS hA (c_J0_coder_7d493 l G) ⟨q_ml_RJ0_335, q_im_J0_coder_7d493, q_sel_J0_coder_7d493, q_ini_RJ0, q_code_J0_coder_7d493⟩ hv_J0_coder_7d493 (tx_rec hG hS) trivial ⟨Nat.le_of_ble_eq_true rfl, Nat.le_of_ble_eq_true rfl⟩ ⟨Nat.zero_le _, Nat.zero_le _⟩ rfl hl.1 rfl (Nat.le_of_ble_eq_true rfl) dJ0_length_8abf5_6) ?_
  refine lv_ishr hx hb dJ0_length_8abf5_9 ?_
  exact e_R (r' := 7) hx hb hr hlk rfl rfl dJ0_length_8abf5_10
set_option maxHeartbeats 1000000 in
theorem c_J1_indexOfChar_4cfef (l : Launch) (G : zG) (x : Int) : MRB l yJ1_indexOfChar_4cfef cJ1_indexOfChar_4cfef 6 (some .int) 0 0 G [.ref (G.2.1 13), .int (zI x), .int (zI 0), .int (zI 7)] (fun _ => True) (fun r => -1 ≤ r ∧ r < 7) := by
  refine mrb_ofF hf_J1_indexOfChar_4cfef (Nat.le_of_ble_eq_true rfl) ?_
  intro p env s m below meth c ls hB hP hl
  obtain ⟨hx, hb, hml, hr, hlk, hown, hts, hG⟩ := hB
  have hK := hG.1
  have hS : va_S fN s.heap s.heap [] := va_S.rf
  have hA : ∀ q : Nat, fN q → G.2.2 ≤ q := fun _ h => h.elim
  have hl : lv_has ls 6 [(0, .ref (G.2.1 13)), (1, .int (zI x)), (2, .int (zI 0)), (3, .int (zI 7))] := hl
  refine lv_iload_n hx hb dJ1_indexOfChar_4cfef_0 rfl (lv_at hl 1 rfl) ?_
  refine z_i2bB hx hb dJ1_indexOfChar_4cfef_1 (fun w hw => ?_)
  refine lv_istore (lv' := [(4, .int (zI w)), (0, .ref (G.2.1 13)), (1, .int (zI x)), (2, .int (zI 0)), (3, .int (zI 7))]) hx hb dJ1_indexOfChar_4cfef_2 hl (by decide) rfl (fun ls hl => ?_)
  refine lv_iload_n hx hb dJ1_indexOfChar_4cfef_4 rfl (lv_at hl 3 rfl) ?_
  refine lv_istore (lv' := [(5, .int (zI 0)), (4, .int (zI w)), (0, .ref (G.2.1 13)), (1, .int (zI x)), (2, .int (zI 0)), (3, .int (zI 7))]) hx hb dJ1_indexOfChar_4cfef_5 hl (by decide) rfl (fun ls hl => ?_)
  have lp : ∀ (n : Nat) (i : Int), 0 ≤ i → i ≤ 7 → 7 - i < n → ∀ ls : Array Slot, lv_has ls 6 [(5, .int (zI i)), (4, .int (zI w)), (0, .ref (G.2.1 13)), (3, .int (zI 7))] → W p l env (rmz 0 0 0 0) s m (([.ref (G.2.1 13), .int (zI x), .int (zI 0), .int (zI 7)] : List Value).toArray) below meth c s.heap [] 0 0 (MQ below (QRB (fun r => -1 ≤ r ∧ r < 7)) (([.ref (G.2.1 13), .int (zI x), .int (zI 0), .int (zI 7)] : List Value).toArray) s 0 0 fN) (F0 m 7 ls []) := by
    intro n
    induction n with
    | zero => intro i i0 i1 hm ls hl; omega
    | succ n ih =>
      intro i i0 i1 hm ls hl
      refine lv_iload hx hb dJ1_indexOfChar_4cfef_7 (lv_at hl 0 rfl) ?_
      refine lv_iload_n hx hb dJ1_indexOfChar_4cfef_9 rfl (lv_at hl 3 rfl) ?_
      refine z_icmp_ge (a := i) (b := 7) (tgt := 31) hx hb dJ1_indexOfChar_4cfef_10 (by decide) (by omega) (by decide) (fun h9 => ?_) (fun h9 => ?_)
      · refine z_iconst hx hb dJ1_indexOfChar_4cfef_31 ?_
        exact e_RB hx hb hr hlk (n_i _) ⟨by decide, by decide⟩ dJ1_indexOfChar_4cfef_32
      · refine lv_aload_n hx hb dJ1_indexOfChar_4cfef_13 rfl (lv_at hl 2 rfl) ?_
        refine lv_iload hx hb dJ1_indexOfChar_4cfef_14 (lv_at hl 0 rfl) ?_
        refine va_tb hx hb (tx_arr hG) hS (zI_in i0 (by omega) (by decide)) (v := .int (zI (([51, 48, 52, 49, 53, 50, 54] : List Int32).getD (zI i).toNatClampNeg 0).toInt)) (by rw [zI_of]) dJ1_indexOfChar_4cfef_16 ?_
        generalize ([51, 48, 52, 49, 53, 50, 54] : List Int32).getD (zI i).toNatClampNeg 0 = z
        refine lv_iload hx hb dJ1_indexOfChar_4cfef_17 (lv_at hl 1 rfl) ?_
        refine z_icmp_ne (a := z.toInt) (b := w) (tgt := 25) hx hb dJ1_indexOfChar_4cfef_19 (by decide) (zI_rng z) hw (fun _ => ?_) (fun _ => ?_)
        · refine z_iinc (lv' := [(5, .int (zI (i + 1))), (4, .int (zI w)), (0, .ref (G.2.1 13)), (3, .int (zI 7))]) hx hb dJ1_indexOfChar_4cfef_25 hl (k := 0) rfl (by decide) rfl (fun ls hl => ?_)
          refine lv_goto (tgt := 7) hx hb dJ1_indexOfChar_4cfef_28 (by decide) ?_
          exact ih (i + 1) (by omega) (by omega) (by omega) ls hl
        · refine lv_iload hx hb dJ1_indexOfChar_4cfef_22 (lv_at hl 0 rfl) ?_
          exact e_RB hx hb hr hlk (n_i _) ⟨by omega, by omega⟩ dJ1_indexOfChar_4cfef_24
  exact lp 8 0 (by decide) (by decide) (by decide) ls (lv_sub hl [0, 1, 2, 5] rfl)
set_option maxHeartbeats 600000 in
theorem c_J1_canEncode_9a6ad (l : Launch) (G : zG)  (x : Int) (hx9 : -2147483648 ≤ x ∧ x ≤ 2147483647) : MR l yJ1_canEncode_9a6ad cJ1_canEncode_9a6ad 1 (some .boolean) 0 0 G [.int (zI (x))] ((fun _ => True)) (.int (zI (bI (0 ≤ x ∧ x ≤ 255)))) := by
  refine mr_ofF hf_J1_canEncode_9a6ad (Nat.le_of_ble_eq_true rfl) ?_
  intro p env s m below meth c ls hB hP hl
  obtain ⟨hx, hb, hml, hr, hlk, hown, hts, hG⟩ := hB
  have hK := hG.1
  have hS : va_S (fun _ => False) s.heap s.heap [] := va_S.rf
  have hA : ∀ q : Nat, (fun _ : Nat => False) q → G.2.2 ≤ q := fun _ h => h.elim
  have hl : lv_has ls 1 [(0, .int (zI (x)))] := hl
  refine lv_iload_n hx hb dJ1_canEncode_9a6ad_0 rfl (lv_at hl 0 rfl) ?_
  refine z_if_lt (a := x) (tgt := 15) hx hb dJ1_canEncode_9a6ad_1 (by decide) (by omega) (fun h_1 => ?_) (fun h_1 => ?_)
  · skip
    refine z_iconst hx hb dJ1_canEncode_9a6ad_15 ?_
    exact e_R (r' := 0) hx hb hr hlk (n_z (by first | exact bI_01 _ | (left; rfl) | (right; rfl) | omega)) (bI_f (by omega)) dJ1_canEncode_9a6ad_16
  · skip
    refine lv_iload_n hx hb dJ1_canEncode_9a6ad_4 rfl (lv_at hl 0 rfl) ?_
    refine z_sipush hx hb dJ1_canEncode_9a6ad_5 (by decide) ?_
    refine z_icmp_gt (a := x) (b := 255) (tgt := 15) hx hb dJ1_canEncode_9a6ad_8 (by decide) (by omega) (by omega) (fun h_8 => ?_) (fun h_8 => ?_)
    · skip
      refine z_iconst hx hb dJ1_canEncode_9a6ad_15 ?_
      exact e_R (r' := 0) hx hb hr hlk (n_z (by first | exact bI_01 _ | (left; rfl) | (right; rfl) | omega)) (bI_f (by omega)) dJ1_canEncode_9a6ad_16
    · skip
      refine z_iconst hx hb dJ1_canEncode_9a6ad_11 ?_
      refine lv_goto (tgt := 16) hx hb dJ1_canEncode_9a6ad_12 (by decide) ?_
      exact e_R (r' := 1) hx hb hr hlk (n_z (by first | exact bI_01 _ | (left; rfl) | (right; rfl) | omega)) (bI_t (by omega)) dJ1_canEncode_9a6ad_16
set_option maxHeartbeats 1000000 in
theorem c_J1_indexOf_4cfef (l : Launch) (G : zG) (x : Int) (hx9 : -2147483648 ≤ x ∧ x ≤ 2147483647) : MRB l yJ1_indexOf_4cfef cJ1_indexOf_4cfef 4 (some .int) 1 30 G [.ref (G.2.1 13), .int (zI x), .int (zI 0), .int (zI 7)] (fun _ => True) (fun r => -1 ≤ r ∧ r < 7) := by
  refine mrb_ofF hf_J1_indexOf_4cfef (Nat.le_of_ble_eq_true rfl) ?_
  intro p env s m below meth c ls hB hP hl
  obtain ⟨hx, hb, hml, hr, hlk, hown, hts, hG⟩ := hB
  have hK := hG.1
  have hS : va_S fN s.heap s.heap [] := va_S.rf
  have hA : ∀ q : Nat, fN q → G.2.2 ≤ q := fun _ h => h.elim
  have hl : lv_has ls 4 [(0, .ref (G.2.1 13)), (1, .int (zI x)), (2, .int (zI 0)), (3, .int (zI 7))] := hl
  refine lv_iload_n hx hb dJ1_indexOf_4cfef_0 rfl (lv_at hl 1 rfl) ?_
  refine k_R (c_SR (As := [.int (zI x)]) (rest := []) ⟨hx, hb, hml, hown, hts⟩ hG hS hA (c_J1_canEncode_9a6ad l G x hx9) ⟨q_ml_RJ1_88, q_st_J1_canEncode_9a6ad, q_ini_RJ1, q_code_J1_canEncode_9a6ad⟩ hs_J1_canEncode_9a6ad trivial ⟨Nat.le_of_ble_eq_true rfl, Nat.le_of_ble_eq_true rfl⟩ ⟨Nat.zero_le _, Nat.zero_le _⟩ rfl hl.1 rfl (Nat.le_of_ble_eq_true rfl) dJ1_indexOf_4cfef_1) ?_
  refine z_bif_ne (q := 0 ≤ x ∧ x ≤ 255) (tgt := 9) hx hb dJ1_indexOf_4cfef_4 (by decide) (fun _ => ?_) (fun _ => ?_)
  · refine lv_iload_n hx hb dJ1_indexOf_4cfef_9 rfl (lv_at hl 2 rfl) ?_
    refine z_iconst hx hb dJ1_indexOf_4cfef_10 ?_
    refine k_R (c_SR (As := [.int (zI 0), .int (zI 0)]) (rest := []) ⟨hx, hb, hml, hown, hts⟩ hG hS hA (c_J9_max_7cf53 l G 0 0 (by decide) (by decide)) ⟨q_ml_RJ1_92, q_st_J9_max_7cf53, q_ini_RJ9, q_code_J9_max_7cf53⟩ hs_J9_max_7cf53 trivial ⟨Nat.le_of_ble_eq_true rfl, Nat.le_of_ble_eq_true rfl⟩ ⟨Nat.zero_le _, Nat.zero_le _⟩ rfl hl.1 rfl (Nat.le_of_ble_eq_true rfl) dJ1_indexOf_4cfef_11) ?_
    refine lv_istore_n (lv' := [(2, .int (zI 0)), (0, .ref (G.2.1 13)), (1, .int (zI x)), (3, .int (zI 7))]) hx hb dJ1_indexOf_4cfef_14 rfl hl (by decide) rfl (fun ls hl => ?_)
    refine lv_iload_n hx hb dJ1_indexOf_4cfef_15 rfl (lv_at hl 3 rfl) ?_
    refine lv_aload_n hx hb dJ1_indexOf_4cfef_16 rfl (lv_at hl 1 rfl) ?_
    refine va_tlen hx hb (tx_arr hG) hS (v := zI 7) rfl dJ1_indexOf_4cfef_17 ?_
    refine k_R (c_SR (As := [.int (zI 7), .int (zI 7)]) (rest := []) ⟨hx, hb, hml, hown, hts⟩ hG hS hA (c_J9_min_7cf53 l G 7 7 (by decide) (by decide)) ⟨q_ml_RJ1_38, q_st_J9_min_7cf53, q_ini_RJ9, q_code_J9_min_7cf53⟩ hs_J9_min_7cf53 trivial ⟨Nat.le_of_ble_eq_true rfl, Nat.le_of_ble_eq_true rfl⟩ ⟨Nat.zero_le _, Nat.zero_le _⟩ rfl hl.1 rfl (Nat.le_of_ble_eq_true rfl) dJ1_indexOf_4cfef_18) ?_
    refine lv_istore_n (lv' := [(3, .int (zI 7)), (2, .int (zI 0)), (0, .ref (G.2.1 13)), (1, .int (zI x))]) hx hb dJ1_indexOf_4cfef_21 rfl hl (by decide) rfl (fun ls hl => ?_)
    refine lv_iload_n hx hb dJ1_indexOf_4cfef_22 rfl (lv_at hl 1 rfl) ?_
    refine lv_iload_n hx hb dJ1_indexOf_4cfef_23 rfl (lv_at hl 0 rfl) ?_
    refine z_icmp_lt (a := 0) (b := 7) (tgt := 29) hx hb dJ1_indexOf_4cfef_24 (by decide) (by decide) (by decide) (fun _ => ?_) (fun h => absurd (by decide) h)
    refine lv_aload_n hx hb dJ1_indexOf_4cfef_29 rfl (lv_at hl 2 rfl) ?_
    refine lv_iload_n hx hb dJ1_indexOf_4cfef_30 rfl (lv_at hl 3 rfl) ?_
    refine lv_iload_n hx hb dJ1_indexOf_4cfef_31 rfl (lv_at hl 1 rfl) ?_
    refine lv_iload_n hx hb dJ1_indexOf_4cfef_32 rfl (lv_at hl 0 rfl) ?_
    refine k_RB (c_SB (As := [.ref (G.2.1 13), .int (zI x), .int (zI 0), .int (zI 7)]) (rest := []) ⟨hx, hb, hml, hown, hts⟩ hG hS hA (c_J1_indexOfChar_4cfef l G x) ⟨q_ml_RJ1_95, q_st_J1_indexOfChar_4cfef, q_ini_RJ1, q_code_J1_indexOfChar_4cfef⟩ hs_J1_indexOfChar_4cfef trivial ⟨Nat.le_of_ble_eq_true rfl, Nat.le_of_ble_eq_true rfl⟩ ⟨Nat.zero_le _, Nat.zero_le _⟩ rfl hl.1 rfl (Nat.le_of_ble_eq_true rfl) dJ1_indexOf_4cfef_33) (fun r hr9 => ?_)
    exact e_RB hx hb hr hlk (n_i _) hr9 dJ1_indexOf_4cfef_36
  · refine z_iconst hx hb dJ1_indexOf_4cfef_7 ?_
    exact e_RB hx hb hr hlk (n_i _) ⟨by decide, by decide⟩ dJ1_indexOf_4cfef_8
set_option maxHeartbeats 1000000 in
theorem c_J0_indexOf_7cf53 (l : Launch) (G : zG) (x : Int) (hx9 : -2147483648 ≤ x ∧ x ≤ 2147483647) : MRB l yJ0_indexOf_7cf53 cJ0_indexOf_7cf53 3 (some .int) 2 60 G [.ref (G.2.1 12), .int (zI x), .int (zI 0)] (fun _ => True) (fun r => -1 ≤ r ∧ r < 7) := by
  refine mrb_ofF hf_J0_indexOf_7cf53 (Nat.le_of_ble_eq_true rfl) ?_
  intro p env s m below meth c ls hB hP hl
  obtain ⟨hx, hb, hml, hr, hlk, hown, hts, hG⟩ := hB
  have hK := hG.1
  have hS : va_S fN s.heap s.heap [] := va_S.rf
  have hA : ∀ q : Nat, fN q → G.2.2 ≤ q := fun _ h => h.elim
  have hl : lv_has ls 3 [(0, .ref (G.2.1 12)), (1, .int (zI x)), (2, .int (zI 0))] := hl
  refine lv_aload_n hx hb dJ0_indexOf_7cf53_0 rfl (lv_at hl 0 rfl) ?_
  refine k_R (c_VR (As := []) (rest := []) ⟨hx, hb, hml, hown, hts⟩ hG hS hA (c_J0_isLatin1_aae02 l G) ⟨q_ml_RJ0_492, q_im_J0_isLatin1_aae02, q_sel_J0_isLatin1_aae02, q_ini_RJ0, q_code_J0_isLatin1_aae02⟩ hv_J0_isLatin1_aae02 (tx_rec hG hS) trivial ⟨Nat.le_of_ble_eq_true rfl, Nat.le_of_ble_eq_true rfl⟩ ⟨Nat.zero_le _, Nat.zero_le _⟩ rfl hl.1 rfl (Nat.le_of_ble_eq_true rfl) dJ0_indexOf_7cf53_1) ?_
  refine z_if_eq (a := 1) (tgt := 23) hx hb dJ0_indexOf_7cf53_4 (by decide) (by decide) (fun h => absurd h (by decide)) (fun _ => ?_)
  refine lv_aload_n hx hb dJ0_indexOf_7cf53_7 rfl (lv_at hl 0 rfl) ?_
  refine vk_getf hx hb (tx_val hG) hS hown (hts _ q_fl_RJ0_9) (fun _ h => h) dJ0_indexOf_7cf53_8 ?_
  refine lv_iload_n hx hb dJ0_indexOf_7cf53_11 rfl (lv_at hl 1 rfl) ?_
  refine lv_iload_n hx hb dJ0_indexOf_7cf53_12 rfl (lv_at hl 2 rfl) ?_
  refine lv_aload_n hx hb dJ0_indexOf_7cf53_13 rfl (lv_at hl 0 rfl) ?_
  refine k_R (c_VR (As := []) (rest := [.int (zI 0), .int (zI x), .ref (G.2.1 13)]) ⟨hx, hb, hml, hown, hts⟩ hG hS hA (c_J0_length_8abf5 l G) ⟨q_ml_RJ0_505, q_im_J0_length_8abf5, q_sel_J0_length_8abf5, q_ini_RJ0, q_code_J0_length_8abf5⟩ hv_J0_length_8abf5 (tx_rec hG hS) trivial ⟨Nat.le_of_ble_eq_true rfl, Nat.le_of_ble_eq_true rfl⟩ ⟨Nat.zero_le _, Nat.zero_le _⟩ rfl hl.1 rfl (Nat.le_of_ble_eq_true rfl) dJ0_indexOf_7cf53_14) ?_
  refine k_RB (c_SB (As := [.ref (G.2.1 13), .int (zI x), .int (zI 0), .int (zI 7)]) (rest := []) ⟨hx, hb, hml, hown, hts⟩ hG hS hA (c_J1_indexOf_4cfef l G x hx9) ⟨q_ml_RJ0_637, q_st_J1_indexOf_4cfef, q_ini_RJ1, q_code_J1_indexOf_4cfef⟩ hs_J1_indexOf_4cfef trivial ⟨Nat.le_of_ble_eq_true rfl, Nat.le_of_ble_eq_true rfl⟩ ⟨Nat.zero_le _, Nat.zero_le _⟩ rfl hl.1 rfl (Nat.le_of_ble_eq_true rfl) dJ0_indexOf_7cf53_17) (fun r hr9 => ?_)
  refine lv_goto (tgt := 36) hx hb dJ0_indexOf_7cf53_20 (by decide) ?_
  exact e_RB hx hb hr hlk (n_i _) hr9 dJ0_indexOf_7cf53_36
theorem c_J0_indexOf_0f7a4 (l : Launch) (G : zG) (x : Int) (hx9 : -2147483648 ≤ x ∧ x ≤ 2147483647) : MRB l yJ0_indexOf_0f7a4 cJ0_indexOf_0f7a4 2 (some .int) 3 90 G [.ref (G.2.1 12), .int (zI x)] (fun _ => True) (fun r => -1 ≤ r ∧ r < 7) := by
  refine mrb_ofF hf_J0_indexOf_0f7a4 (Nat.le_of_ble_eq_true rfl) ?_
  intro p env s m below meth c ls hB hP hl
  obtain ⟨hx, hb, hml, hr, hlk, hown, hts, hG⟩ := hB
  have hK := hG.1
  have hS : va_S fN s.heap s.heap [] := va_S.rf
  have hA : ∀ q : Nat, fN q → G.2.2 ≤ q := fun _ h => h.elim
  have hl : lv_has ls 2 [(0, .ref (G.2.1 12)), (1, .int (zI x))] := hl
  refine lv_aload_n hx hb dJ0_indexOf_0f7a4_0 rfl (lv_at hl 0 rfl) ?_
  refine lv_iload_n hx hb dJ0_indexOf_0f7a4_1 rfl (lv_at hl 1 rfl) ?_
  refine z_iconst hx hb dJ0_indexOf_0f7a4_2 ?_
  refine k_RB (c_VB (As := [.int (zI x), .int (zI 0)]) (rest := []) ⟨hx, hb, hml, hown, hts⟩ hG hS hA (c_J0_indexOf_7cf53 l G x hx9) ⟨q_ml_RJ0_633, q_im_J0_indexOf_7cf53, q_sel_J0_indexOf_7cf53, q_ini_RJ0, q_code_J0_indexOf_7cf53⟩ hv_J0_indexOf_7cf53 (tx_rec hG hS) trivial ⟨Nat.le_of_ble_eq_true rfl, Nat.le_of_ble_eq_true rfl⟩ ⟨Nat.zero_le _, Nat.zero_le _⟩ rfl hl.1 rfl (Nat.le_of_ble_eq_true rfl) dJ0_indexOf_0f7a4_3) (fun r hr9 => ?_)
  exact e_RB hx hb hr hlk (n_i _) hr9 dJ0_indexOf_0f7a4_6
