def mnE (B : Int → Int → Int) (v e : Int) : Int := if B v (10 * e + 2) = 0 then 0 else mTn B v e * mTk B v e
def mtE (B : Int → Int → Int) (v e : Int) : Int := if B v (10 * e + 2) = 0 then 0 else mTk B v e
def mnV (B : Int → Int → Int) (v : Int) : Int → Int := pf 0 (fun e a => a + mnE B v e)
def mtV (B : Int → Int → Int) (v : Int) : Int → Int := pf 0 (fun e a => a + mtE B v e)
def mnT (A : Nat → Int → Int) (B : Int → Int → Int) : Int → Int := pf 0 (fun v a => a + mnV B v (A 0 v))
def mtT (A : Nat → Int → Int) (B : Int → Int → Int) : Int → Int := pf 0 (fun v a => a + mtV B v (A 0 v))
def meanM (F : Nat → Int) (A : Nat → Int → Int) (B : Int → Int → Int) : UInt64 := if mtT A B (F 4) = 0 then FP.dconst0 else FP.ddiv (FP.i2d (zI (mnT A B (F 4)))) (FP.i2d (zI (mtT A B (F 4))))
/-- a whole number divided by another, not 0, is a number -/
def NNan : Prop := ∀ a b : Int32, 0 < b.toInt → vf_n64 (FP.ddiv (FP.i2d a) (FP.i2d b))
set_option maxHeartbeats 2000000 in
theorem c_X3_meanTone (l : Launch) (G : zG) (ad : Nat → Nat) (F : Nat → Int) (A : Nat → Int → Int) (B : Int → Int → Int) (sz : Nat) (hnn : NNan) (hVM : MOK F A B) : MW l yX3_meanTone cX3_meanTone 5 (some .double) 2 45 (0) (0) G [.ref (ad 0)] (fA 11 ad sz) sz (MP G ad F A B) (QD (fA 11 ad sz) (fun r H => r = meanM F A B ∧ MP G ad (zN F 0 0) A B H)) := by
  refine mw_of hp_X3_meanTone (Nat.le_of_ble_eq_true rfl) ?_
  intro p env s m below meth c ls hB hsz hP hl
  obtain ⟨hx, hb, hml, hr, hlk, hown, hts, hG⟩ := hB
  subst hsz
  have hK := hG.1
  have hS : va_S (fA 11 ad s.heap.size) s.heap s.heap [] := va_S.rf
  have hA : ∀ q : Nat, (fA 11 ad s.heap.size) q → G.2.2 ≤ q := fA_lo hP.1.2 hG.2.1
  have hD : ∀ k, k < 11 → (fA 11 ad s.heap.size) (ad k) := fun k hk => fA_in hk
  have hl : lv_has ls 5 [(0, .ref (ad 0))] := hl
  have h1b := hVM.1
  have h2b := hVM.2.1
  have h3b := hVM.2.2.1
  have h4b := hVM.2.2.2.1
  refine lv_aload_n hx hb dX3_meanTone_0 rfl (lv_at hl 0 rfl) ?_
  refine z_iconst hx hb dX3_meanTone_1 ?_
  refine zm_put (x := 0) hx hb hK hts hown hP hS (hD 0 (by decide)) 0 (by decide) q_fl_RX3_37 dX3_meanTone_2 (fun H locs hP hz ho hS => ?_)
  refine z_iconst hx hb dX3_meanTone_5 ?_
  refine lv_istore_n (lv' := [(1, .int (zI (0))), (0, .ref (ad 0))]) hx hb dX3_meanTone_6 rfl hl (by decide) rfl (fun ls hl => ?_)
  refine z_iconst hx hb dX3_meanTone_7 ?_
  refine lv_istore_n (lv' := [(2, .int (zI (0))), (1, .int (zI (0))), (0, .ref (ad 0))]) hx hb dX3_meanTone_8 rfl hl (by decide) rfl (fun ls hl => ?_)
  refine z_iconst hx hb dX3_meanTone_9 ?_
  refine lv_istore_n (lv' := [(3, .int (zI (0))), (2, .int (zI (0))), (1, .int (zI (0))), (0, .ref (ad 0))]) hx hb dX3_meanTone_10 rfl hl (by decide) rfl (fun ls hl => ?_)
  have lp_11 : ∀ (n : Nat) (i u z : Int), 0 ≤ i → i ≤ F 4 → u = mnT A B i → z = mtT A B i → (0 ≤ z ∧ z ≤ i * 134400) → F 4 - i < n → ∀ (H : Heap) (locs : List Loc), MP G ad (zN F 0 (0)) A B H → va_S (fA 11 ad s.heap.size) s.heap H locs → ∀ (ls : Array Slot), lv_has ls 5 [(3, .int (zI (i))), (2, .int (zI (z))), (1, .int (zI (u))), (0, .ref (ad 0))] → W p l env (rmz 2 45 0 0) s m (([.ref (ad 0)] : List Value).toArray) below meth c H locs 0 0 (MQ below (QD (fA 11 ad s.heap.size) (fun r H => r = meanM F A B ∧ MP G ad (zN F 0 0) A B H)) (([.ref (ad 0)] : List Value).toArray) s 0 0 (fA 11 ad s.heap.size)) (F0 m 11 ls []) := by
    intro n
    induction n with
    | zero => intro i u z h0 h1 hu hz9 hzr hm H locs hP hS ls hl; exact absurd hm (by omega)
    | succ n ih =>
      intro i u z h0 h1 hu hz9 hzr hm H locs hP hS ls hl
      have hmn := hVM.many (v := i)
      refine lv_iload_n hx hb dX3_meanTone_11 rfl (lv_at hl 0 rfl) ?_
      refine lv_aload_n hx hb dX3_meanTone_12 rfl (lv_at hl 3 rfl) ?_
      refine zm_get hx hb hK hts hown hP 4 (by decide) q_fl_RX3_40 (v := .int (zI (F 4))) rfl dX3_meanTone_13 ?_
      refine z_icmp_ge (a := i) (b := F 4) (tgt := 87) hx hb dX3_meanTone_16 (by decide) (by omega) (by omega) (fun h_16 => ?_) (fun h_16 => ?_)
      · skip
        have hT : mtT A B (F 4) = z := by rw [hz9, show F 4 = i by omega]
        have hN : mnT A B (F 4) = u := by rw [hu, show F 4 = i by omega]
        refine lv_iload_n hx hb dX3_meanTone_87 rfl (lv_at hl 1 rfl) ?_
        refine z_if_ne (a := z) (tgt := 95) hx hb dX3_meanTone_88 (by decide) (by omega) (fun h_88 => ?_) (fun h_88 => ?_)
        · skip
          refine lv_iload_n hx hb dX3_meanTone_95 rfl (lv_at hl 2 rfl) ?_
          refine lv_i2d hx hb dX3_meanTone_96 ?_
          refine lv_iload_n hx hb dX3_meanTone_97 rfl (lv_at hl 1 rfl) ?_
          refine lv_i2d hx hb dX3_meanTone_98 ?_
          refine lv_ddiv hx hb dX3_meanTone_99 (hnn _ _ (by rw [zI_toInt ⟨by omega, by omega⟩]; omega)) ?_
          exact e_Wd (r := FP.ddiv (FP.i2d (zI (u))) (FP.i2d (zI (z)))) hx hb hr hlk hS (by omega) (by omega) ⟨(by unfold meanM; rw [hT, hN]; first | rw [if_pos (by omega)] | rw [if_neg (by omega)]), hP⟩ dX3_meanTone_100
        · skip
          refine lv_dconst0 hx hb dX3_meanTone_91 ?_
          refine lv_goto (tgt := 100) hx hb dX3_meanTone_92 (by decide) ?_
          exact e_Wd (r := FP.dconst0) hx hb hr hlk hS (by omega) (by omega) ⟨(by unfold meanM; rw [hT, hN]; first | rw [if_pos (by omega)] | rw [if_neg (by omega)]), hP⟩ dX3_meanTone_100
      · skip
        refine z_iconst hx hb dX3_meanTone_19 ?_
        refine lv_istore (lv' := [(4, .int (zI (0))), (3, .int (zI (i))), (2, .int (zI (z))), (1, .int (zI (u))), (0, .ref (ad 0))]) hx hb dX3_meanTone_20 hl (by decide) rfl (fun ls hl => ?_)
        have hmn := hmn (by omega)
        have lp_22 : ∀ (n : Nat) (j u2 z2 : Int), 0 ≤ j → j ≤ A 0 i → u2 = mnT A B i + mnV B i j → z2 = mtT A B i + mtV B i j → (z ≤ z2 ∧ z2 ≤ z + 672 * j) → A 0 i - j < n → ∀ (H : Heap) (locs : List Loc), MP G ad (zN F 0 (0)) A B H → va_S (fA 11 ad s.heap.size) s.heap H locs → ∀ (ls : Array Slot), lv_has ls 5 [(4, .int (zI (j))), (3, .int (zI (i))), (2, .int (zI (z2))), (1, .int (zI (u2))), (0, .ref (ad 0))] → W p l env (rmz 2 45 0 0) s m (([.ref (ad 0)] : List Value).toArray) below meth c H locs 0 0 (MQ below (QD (fA 11 ad s.heap.size) (fun r H => r = meanM F A B ∧ MP G ad (zN F 0 0) A B H)) (([.ref (ad 0)] : List Value).toArray) s 0 0 (fA 11 ad s.heap.size)) (F0 m 22 ls []) := by
          intro n
          induction n with
          | zero => intro j u2 z2 hj0 hj1 hu2 hz2 hz2r hmj H locs hP hS ls hl; exact absurd hmj (by omega)
          | succ n ih2 =>
            intro j u2 z2 hj0 hj1 hu2 hz2 hz2r hmj H locs hP hS ls hl
            have hsn : mnV B i (j + 1) = mnV B i j + mnE B i j := pf_s _ _ hj0
            have hst : mtV B i (j + 1) = mtV B i j + mtE B i j := pf_s _ _ hj0
            refine lv_iload hx hb dX3_meanTone_22 (lv_at hl 0 rfl) ?_
            refine lv_aload_n hx hb dX3_meanTone_24 rfl (lv_at hl 4 rfl) ?_
            refine zm_get hx hb hK hts hown hP 5 (by decide) q_fl_RX3_16 (v := .ref (ad 1)) rfl dX3_meanTone_25 ?_
            refine lv_iload_n hx hb dX3_meanTone_28 rfl (lv_at hl 1 rfl) ?_
            refine zm_lA0 hx hb hK hP (i := i) (by omega) dX3_meanTone_29 ?_
            refine z_icmp_ge (a := j) (b := A 0 (i)) (tgt := 81) hx hb dX3_meanTone_30 (by decide) (by omega) (by omega) (fun h_30 => ?_) (fun h_30 => ?_)
            · skip
              refine z_iinc (lv' := [(3, .int (zI (i + 1))), (4, .int (zI (j))), (2, .int (zI (z2))), (1, .int (zI (u2))), (0, .ref (ad 0))]) hx hb dX3_meanTone_81 hl (k := 1) rfl (by decide) rfl (fun ls hl => ?_)
              refine lv_goto (tgt := 11) hx hb dX3_meanTone_84 (by decide) ?_
              exact ih (i + 1) (u2) (z2) (by omega) (by omega) (by rw [show mnT A B (i + 1) = mnT A B i + mnV B i (A 0 i) from pf_s _ _ h0, show A 0 i = j by omega]; exact hu2) (by rw [show mtT A B (i + 1) = mtT A B i + mtV B i (A 0 i) from pf_s _ _ h0, show A 0 i = j by omega]; exact hz2) (by omega) (by omega) H _ hP hS _ (lv_sub hl [0, 2, 3, 4] rfl)
            · skip
              have hel := hVM.el (v := i) (by omega) (e := j) (by omega)
              have hlk9 : 12 ≤ mTk B i j ∧ mTk B i j ≤ 672 := hel.2.2.1
              refine lv_aload_n hx hb dX3_meanTone_33 rfl (lv_at hl 4 rfl) ?_
              refine lv_iload_n hx hb dX3_meanTone_34 rfl (lv_at hl 1 rfl) ?_
              refine lv_iload hx hb dX3_meanTone_35 (lv_at hl 0 rfl) ?_
              refine z_iconst hx hb dX3_meanTone_37 ?_
              refine k_R (c_VR (As := [.int (zI (i)), .int (zI (j)), .int (zI (2))]) (rest := []) ⟨hx, hb, hml, hown, hts⟩ hG hS hA (c_X3_get l G ad (zN F 0 (0)) A B i j 2 (show 0 ≤ i ∧ i < 4 by omega) (show 0 ≤ 10 * j + 2 ∧ 10 * j + 2 < 2000 by omega)) ⟨q_ml_RX3_57, q_im_X3_get, q_sel_X3_get, q_ini_RX3, q_code_X3_get⟩ hv_X3_get (MP.rec hK hP) hP ⟨by decide, by decide⟩ ⟨Nat.zero_le _, Nat.zero_le _⟩ rfl hl.1 rfl (Nat.le_of_ble_eq_true rfl) dX3_meanTone_38) ?_
              refine z_if_ne (a := B i (10 * j + 2)) (tgt := 47) hx hb dX3_meanTone_41 (by decide) (by omega) (fun h_41 => ?_) (fun h_41 => ?_)
              · skip
                refine lv_iload_n hx hb dX3_meanTone_47 rfl (lv_at hl 3 rfl) ?_
                refine lv_aload_n hx hb dX3_meanTone_48 rfl (lv_at hl 4 rfl) ?_
                refine lv_iload_n hx hb dX3_meanTone_49 rfl (lv_at hl 1 rfl) ?_
                refine lv_iload hx hb dX3_meanTone_50 (lv_at hl 0 rfl) ?_
                refine k_R (c_VR (As := [.int (zI (i)), .int (zI (j))]) (rest := [.int (zI (u2))]) ⟨hx, hb, hml, hown, hts⟩ hG hS hA (c_X3_tone l G ad (zN F 0 (0)) A B i j (by omega) (by omega) (hVM.F0 0)) ⟨q_ml_RX3_133, q_im_X3_tone, q_sel_X3_tone, q_ini_RX3, q_code_X3_tone⟩ hv_X3_tone (MP.rec hK hP) hP ⟨by decide, by decide⟩ ⟨Nat.zero_le _, Nat.zero_le _⟩ rfl hl.1 rfl (Nat.le_of_ble_eq_true rfl) dX3_meanTone_52) ?_
                refine lv_aload_n hx hb dX3_meanTone_55 rfl (lv_at hl 4 rfl) ?_
                refine lv_iload_n hx hb dX3_meanTone_56 rfl (lv_at hl 1 rfl) ?_
                refine lv_iload hx hb dX3_meanTone_57 (lv_at hl 0 rfl) ?_
                refine k_R (c_VR (As := [.int (zI (i)), .int (zI (j))]) (rest := [.int (zI (mTn B i j)), .int (zI (u2))]) ⟨hx, hb, hml, hown, hts⟩ hG hS hA (c_X3_length l G ad (zN F 0 (0)) A B i j (by omega) (by omega) (hVM.F0 0)) ⟨q_ml_RX3_85, q_im_X3_length, q_sel_X3_length, q_ini_RX3, q_code_X3_length⟩ hv_X3_length (MP.rec hK hP) hP ⟨by decide, by decide⟩ ⟨Nat.zero_le _, Nat.zero_le _⟩ rfl hl.1 rfl (Nat.le_of_ble_eq_true rfl) dX3_meanTone_59) ?_
                refine z_imul (x := mTn B i j) (y := mTk B i j) hx hb dX3_meanTone_62 ?_
                refine z_iadd (x := u2) (y := (mTn B i j) * (mTk B i j)) hx hb dX3_meanTone_63 ?_
                refine lv_istore_n (lv' := [(1, .int (zI ((u2) + ((mTn B i j) * (mTk B i j))))), (4, .int (zI (j))), (3, .int (zI (i))), (2, .int (zI (z2))), (0, .ref (ad 0))]) hx hb dX3_meanTone_64 rfl hl (by decide) rfl (fun ls hl => ?_)
                refine lv_iload_n hx hb dX3_meanTone_65 rfl (lv_at hl 3 rfl) ?_
                refine lv_aload_n hx hb dX3_meanTone_66 rfl (lv_at hl 4 rfl) ?_
                refine lv_iload_n hx hb dX3_meanTone_67 rfl (lv_at hl 2 rfl) ?_
                refine lv_iload hx hb dX3_meanTone_68 (lv_at hl 1 rfl) ?_
                refine k_R (c_VR (As := [.int (zI (i)), .int (zI (j))]) (rest := [.int (zI (z2))]) ⟨hx, hb, hml, hown, hts⟩ hG hS hA (c_X3_length l G ad (zN F 0 (0)) A B i j (by omega) (by omega) (hVM.F0 0)) ⟨q_ml_RX3_85, q_im_X3_length, q_sel_X3_length, q_ini_RX3, q_code_X3_length⟩ hv_X3_length (MP.rec hK hP) hP ⟨by decide, by decide⟩ ⟨Nat.zero_le _, Nat.zero_le _⟩ rfl hl.1 rfl (Nat.le_of_ble_eq_true rfl) dX3_meanTone_70) ?_
                refine z_iadd (x := z2) (y := mTk B i j) hx hb dX3_meanTone_73 ?_
                refine lv_istore_n (lv' := [(2, .int (zI ((z2) + (mTk B i j)))), (1, .int (zI ((u2) + ((mTn B i j) * (mTk B i j))))), (4, .int (zI (j))), (3, .int (zI (i))), (0, .ref (ad 0))]) hx hb dX3_meanTone_74 rfl hl (by decide) rfl (fun ls hl => ?_)
                refine z_iinc (lv' := [(4, .int (zI (j + 1))), (2, .int (zI ((z2) + (mTk B i j)))), (1, .int (zI ((u2) + ((mTn B i j) * (mTk B i j))))), (3, .int (zI (i))), (0, .ref (ad 0))]) hx hb dX3_meanTone_75 hl (k := 2) rfl (by decide) rfl (fun ls hl => ?_)
                refine lv_goto (tgt := 22) hx hb dX3_meanTone_78 (by decide) ?_
                exact ih2 (j + 1) ((u2) + ((mTn B i j) * (mTk B i j))) ((z2) + (mTk B i j)) (by omega) (by omega) (by rw [hsn, ← Int.add_assoc, ← hu2]; unfold mnE; first | (rw [if_pos (by omega)]; omega) | rw [if_neg (by omega)]) (by rw [hst, ← Int.add_assoc, ← hz2]; unfold mtE; first | (rw [if_pos (by omega)]; omega) | rw [if_neg (by omega)]) (by omega) (by omega) H _ hP hS _ (lv_sub hl [0, 3, 1, 2, 4] rfl)
              · skip
                refine lv_goto (tgt := 75) hx hb dX3_meanTone_44 (by decide) ?_
                refine z_iinc (lv' := [(4, .int (zI (j + 1))), (3, .int (zI (i))), (2, .int (zI (z2))), (1, .int (zI (u2))), (0, .ref (ad 0))]) hx hb dX3_meanTone_75 hl (k := 0) rfl (by decide) rfl (fun ls hl => ?_)
                refine lv_goto (tgt := 22) hx hb dX3_meanTone_78 (by decide) ?_
                exact ih2 (j + 1) (u2) (z2) (by omega) (by omega) (by rw [hsn, ← Int.add_assoc, ← hu2]; unfold mnE; first | (rw [if_pos (by omega)]; omega) | rw [if_neg (by omega)]) (by rw [hst, ← Int.add_assoc, ← hz2]; unfold mtE; first | (rw [if_pos (by omega)]; omega) | rw [if_neg (by omega)]) (by omega) (by omega) H _ hP hS _ (lv_sub hl [0, 1, 2, 3, 4] rfl)
        exact lp_22 201 0 u z (by omega) (by omega) (by rw [hu]; exact (Int.add_zero _).symm) (by rw [hz9]; exact (Int.add_zero _).symm) (by omega) (by omega) H _ hP hS _ (lv_sub hl [0, 1, 2, 3, 4] rfl)
  exact lp_11 5 0 0 0 (by omega) (by omega) rfl rfl (by omega) (by omega) H _ hP hS _ (lv_sub hl [0, 1, 2, 3] rfl)
