def dc7 (F : Nat → Int) (d : Int64) : Int → Int64 := pf d (fun w d => dA d (vTell F w))
def dc9 (T : Nat → Int → Int) (e : Int) (d : Int64) : Int → Int64 := pf d (fun w d => dA d (T w.toNat e))
def dcF (T : Nat → Int → Int) (d : Int64) : Int → Int64 := pf d (fun e d => dc9 T e d 9)
set_option maxHeartbeats 2000000 in
theorem c_X2_digestVoice (l : Launch) (G : zG) (ad : Nat → Nat) (T P S A : Nat → Int → Int) (F : Nat → Int) (d0 : Int64) (sz : Nat) (hn9 : 0 ≤ F 0 ∧ F 0 ≤ 200) : MW l yX2_digestVoice cX2_digestVoice 7 (some .long) 1 21 (0) (0) G [.long (d0), .ref (ad 0)] (fA 21 ad sz) sz (VP G ad T P S A F) (QL (fA 21 ad sz) (fun r H => r = dcF T (dc7 F d0 7) (F 0) ∧ VP G ad T P S A F H)) := by
  refine mw_of hp_X2_digestVoice (Nat.le_of_ble_eq_true rfl) ?_
  intro p env s m below meth c ls hB hsz hP hl
  obtain ⟨hx, hb, hml, hr, hlk, hown, hts, hG⟩ := hB
  subst hsz
  have hK := hG.1
  have hS : va_S (fA 21 ad s.heap.size) s.heap s.heap [] := va_S.rf
  have hA : ∀ q : Nat, (fA 21 ad s.heap.size) q → G.2.2 ≤ q := fA_lo hP.1.2 hG.2.1
  have hD : ∀ k, k < 21 → (fA 21 ad s.heap.size) (ad k) := fun k hk => fA_in hk
  have hl : lv_has ls 7 [(0, .long (d0)), (2, .ref (ad 0))] := hl
  refine lv_lload_n hx hb dX2_digestVoice_0 rfl (lv_at hl 0 rfl) ?_
  refine lv_lstore_n (lv' := [(3, .long (d0)), (0, .long (d0)), (2, .ref (ad 0))]) hx hb dX2_digestVoice_1 rfl hl (by decide) rfl (fun ls hl => ?_)
  refine z_iconst hx hb dX2_digestVoice_2 ?_
  refine lv_istore (lv' := [(5, .int (zI (0))), (3, .long (d0)), (0, .long (d0)), (2, .ref (ad 0))]) hx hb dX2_digestVoice_3 hl (by decide) rfl (fun ls hl => ?_)
  have lp_5 : ∀ (n : Nat) (w : Int) (d2 : Int64), 0 ≤ w → w ≤ 7 → d2 = dc7 F d0 w → 7 - w < n → ∀ (H : Heap) (locs : List Loc), VP G ad T P S A F H → va_S (fA 21 ad s.heap.size) s.heap H locs → ∀ (ls : Array Slot), lv_has ls 7 [(5, .int (zI (w))), (3, .long (d2)), (2, .ref (ad 0))] → W p l env (rmz 1 21 0 0) s m (([.long (d0), .ref (ad 0)] : List Value).toArray) below meth c H locs 0 0 (MQ below (QL (fA 21 ad s.heap.size) (fun r H => r = dcF T (dc7 F d0 7) (F 0) ∧ VP G ad T P S A F H)) (([.long (d0), .ref (ad 0)] : List Value).toArray) s 0 0 (fA 21 ad s.heap.size)) (F0 m 5 ls []) := by
    intro n
    induction n with
    | zero => intro w d2 hw0 hw1 hw2 hmw H locs hP hS ls hl; exact absurd hmw (by omega)
    | succ n ih =>
      intro w d2 hw0 hw1 hw2 hmw H locs hP hS ls hl
      refine lv_iload hx hb dX2_digestVoice_5 (lv_at hl 0 rfl) ?_
      refine z_bipush hx hb dX2_digestVoice_7 (by decide) ?_
      refine z_icmp_ge (a := w) (b := 7) (tgt := 32) hx hb dX2_digestVoice_9 (by decide) (by omega) (by omega) (fun h_9 => ?_) (fun h_9 => ?_)
      · skip
        refine z_iconst hx hb dX2_digestVoice_32 ?_
        refine lv_istore (lv' := [(5, .int (zI (0))), (3, .long (d2)), (2, .ref (ad 0))]) hx hb dX2_digestVoice_33 hl (by decide) rfl (fun ls hl => ?_)
        have hd7 : d2 = dcF T (dc7 F d0 7) 0 := by rw [hw2, show w = 7 by omega]; rfl
        have lp_35 : ∀ (n : Nat) (e : Int) (d3 : Int64), 0 ≤ e → e ≤ F 0 → d3 = dcF T (dc7 F d0 7) e → F 0 - e < n → ∀ (H : Heap) (locs : List Loc), VP G ad T P S A F H → va_S (fA 21 ad s.heap.size) s.heap H locs → ∀ (ls : Array Slot), lv_has ls 7 [(5, .int (zI (e))), (3, .long (d3)), (2, .ref (ad 0))] → W p l env (rmz 1 21 0 0) s m (([.long (d0), .ref (ad 0)] : List Value).toArray) below meth c H locs 0 0 (MQ below (QL (fA 21 ad s.heap.size) (fun r H => r = dcF T (dc7 F d0 7) (F 0) ∧ VP G ad T P S A F H)) (([.long (d0), .ref (ad 0)] : List Value).toArray) s 0 0 (fA 21 ad s.heap.size)) (F0 m 35 ls []) := by
          intro n
          induction n with
          | zero => intro e d3 he0 he1 he2 hme H locs hP hS ls hl; exact absurd hme (by omega)
          | succ n ih =>
            intro e d3 he0 he1 he2 hme H locs hP hS ls hl
            refine lv_iload hx hb dX2_digestVoice_35 (lv_at hl 0 rfl) ?_
            refine lv_aload_n hx hb dX2_digestVoice_37 rfl (lv_at hl 2 rfl) ?_
            refine zv_get hx hb hK hts hown hP 5 (by decide) q_fl_RX2_103 (v := .int (zI (F 0))) rfl dX2_digestVoice_38 ?_
            refine z_icmp_ge (a := e) (b := F 0) (tgt := 84) hx hb dX2_digestVoice_41 (by decide) (by omega) (by omega) (fun h_41 => ?_) (fun h_41 => ?_)
            · skip
              refine lv_lload_n hx hb dX2_digestVoice_84 rfl (lv_at hl 1 rfl) ?_
              exact e_Wl (r := d3) hx hb hr hlk hS (by omega) (by omega) ⟨(by rw [he2, show F 0 = e by omega]), hP⟩ dX2_digestVoice_85
            · skip
              refine z_iconst hx hb dX2_digestVoice_44 ?_
              refine lv_istore (lv' := [(6, .int (zI (0))), (5, .int (zI (e))), (3, .long (d3)), (2, .ref (ad 0))]) hx hb dX2_digestVoice_45 hl (by decide) rfl (fun ls hl => ?_)
              have lp_47 : ∀ (n : Nat) (x : Int) (d4 : Int64), 0 ≤ x → x ≤ 9 → d4 = dc9 T e d3 x → 9 - x < n → ∀ (H : Heap) (locs : List Loc), VP G ad T P S A F H → va_S (fA 21 ad s.heap.size) s.heap H locs → ∀ (ls : Array Slot), lv_has ls 7 [(6, .int (zI (x))), (5, .int (zI (e))), (3, .long (d4)), (2, .ref (ad 0))] → W p l env (rmz 1 21 0 0) s m (([.long (d0), .ref (ad 0)] : List Value).toArray) below meth c H locs 0 0 (MQ below (QL (fA 21 ad s.heap.size) (fun r H => r = dcF T (dc7 F d0 7) (F 0) ∧ VP G ad T P S A F H)) (([.long (d0), .ref (ad 0)] : List Value).toArray) s 0 0 (fA 21 ad s.heap.size)) (F0 m 47 ls []) := by
                intro n
                induction n with
                | zero => intro x d4 hx0 hx1 hx2 hmx H locs hP hS ls hl; exact absurd hmx (by omega)
                | succ n ih2 =>
                  intro x d4 hx0 hx1 hx2 hmx H locs hP hS ls hl
                  refine lv_iload hx hb dX2_digestVoice_47 (lv_at hl 0 rfl) ?_
                  refine z_bipush hx hb dX2_digestVoice_49 (by decide) ?_
                  refine z_icmp_ge (a := x) (b := 9) (tgt := 78) hx hb dX2_digestVoice_51 (by decide) (by omega) (by omega) (fun h_51 => ?_) (fun h_51 => ?_)
                  · skip
                    refine z_iinc (lv' := [(5, .int (zI (e + 1))), (6, .int (zI (x))), (3, .long (d4)), (2, .ref (ad 0))]) hx hb dX2_digestVoice_78 hl (k := 1) rfl (by decide) rfl (fun ls hl => ?_)
                    refine lv_goto (tgt := 35) hx hb dX2_digestVoice_81 (by decide) ?_
                    exact ih (e + 1) (d4) (by omega) (by omega) (by rw [show dcF T (dc7 F d0 7) (e + 1) = dc9 T e (dcF T (dc7 F d0 7) e) 9 from pf_s _ _ he0, ← he2, show (9 : Int) = x by omega]; exact hx2) (by omega) H _ hP hS _ (lv_sub hl [0, 2, 3] rfl)
                  · skip
                    refine lv_lload_n hx hb dX2_digestVoice_54 rfl (lv_at hl 2 rfl) ?_
                    refine lv_ldc2 hx hb hown (hts _ q_k_RX2_201) dX2_digestVoice_55 ?_
                    refine lv_lmul hx hb dX2_digestVoice_58 ?_
                    refine lv_aload_n hx hb dX2_digestVoice_59 rfl (lv_at hl 3 rfl) ?_
                    refine zv_get hx hb hK hts hown hP 0 (by decide) q_fl_RX2_114 (v := .ref (ad 1)) rfl dX2_digestVoice_60 ?_
                    refine lv_iload hx hb dX2_digestVoice_63 (lv_at hl 0 rfl) ?_
                    refine zv_aT hx hb hK hP ((x).toNat) (by omega) (i := x) (by omega) dX2_digestVoice_65 ?_
                    refine lv_iload hx hb dX2_digestVoice_66 (lv_at hl 1 rfl) ?_
                    refine zv_lT hx hb hK hP ((x).toNat) (by omega) (i := e) (by omega) dX2_digestVoice_68 ?_
                    refine lv_i2l (v := (zI (T ((x).toNat) (e))).toInt64) hx hb dX2_digestVoice_69 rfl ?_
                    refine lv_ladd hx hb dX2_digestVoice_70 ?_
                    refine lv_lstore_n (lv' := [(3, .long (((d4) * (31)) + ((zI (T ((x).toNat) (e))).toInt64))), (6, .int (zI (x))), (5, .int (zI (e))), (2, .ref (ad 0))]) hx hb dX2_digestVoice_71 rfl hl (by decide) rfl (fun ls hl => ?_)
                    refine z_iinc (lv' := [(6, .int (zI (x + 1))), (3, .long (((d4) * (31)) + ((zI (T ((x).toNat) (e))).toInt64))), (5, .int (zI (e))), (2, .ref (ad 0))]) hx hb dX2_digestVoice_72 hl (k := 1) rfl (by decide) rfl (fun ls hl => ?_)
                    refine lv_goto (tgt := 47) hx hb dX2_digestVoice_75 (by decide) ?_
                    exact ih2 (x + 1) (((d4) * (31)) + ((zI (T ((x).toNat) (e))).toInt64)) (by omega) (by omega) (by rw [show dc9 T e d3 (x + 1) = dA (dc9 T e d3 x) (T x.toNat e) from pf_s _ _ hx0, ← hx2]; rfl) (by omega) H _ hP hS _ (lv_sub hl [0, 2, 1, 3] rfl)
              exact lp_47 10 0 d3 (by omega) (by omega) rfl (by omega) H _ hP hS _ (lv_sub hl [0, 1, 2, 3] rfl)
        exact lp_35 201 0 d2 (by omega) (by omega) hd7 (by omega) H _ hP hS _ (lv_sub hl [0, 1, 2] rfl)
      · skip
        refine lv_lload_n hx hb dX2_digestVoice_12 rfl (lv_at hl 1 rfl) ?_
        refine lv_ldc2 hx hb hown (hts _ q_k_RX2_201) dX2_digestVoice_13 ?_
        refine lv_lmul hx hb dX2_digestVoice_16 ?_
        refine lv_aload_n hx hb dX2_digestVoice_17 rfl (lv_at hl 2 rfl) ?_
        refine lv_iload hx hb dX2_digestVoice_18 (lv_at hl 0 rfl) ?_
        refine k_R (c_VR (As := [.int (zI (w))]) (rest := [.long ((d2) * (31))]) ⟨hx, hb, hml, hown, hts⟩ hG hS hA (c_X1_tell l G ad T P S A F w (by omega)) ⟨q_ml_RX2_148, q_im_X1_tell, q_sel_X1_tell, q_ini_RX1, q_code_X1_tell⟩ hv_X1_tell (VP.rec hK hP) hP ⟨by decide, by decide⟩ ⟨Nat.zero_le _, Nat.zero_le _⟩ rfl hl.1 rfl (Nat.le_of_ble_eq_true rfl) dX2_digestVoice_20) ?_
        refine lv_i2l (v := (zI (vTell F w)).toInt64) hx hb dX2_digestVoice_23 rfl ?_
        refine lv_ladd hx hb dX2_digestVoice_24 ?_
        refine lv_lstore_n (lv' := [(3, .long (((d2) * (31)) + ((zI (vTell F w)).toInt64))), (5, .int (zI (w))), (2, .ref (ad 0))]) hx hb dX2_digestVoice_25 rfl hl (by decide) rfl (fun ls hl => ?_)
        refine z_iinc (lv' := [(5, .int (zI (w + 1))), (3, .long (((d2) * (31)) + ((zI (vTell F w)).toInt64))), (2, .ref (ad 0))]) hx hb dX2_digestVoice_26 hl (k := 1) rfl (by decide) rfl (fun ls hl => ?_)
        refine lv_goto (tgt := 5) hx hb dX2_digestVoice_29 (by decide) ?_
        exact ih (w + 1) (((d2) * (31)) + ((zI (vTell F w)).toInt64)) (by omega) (by omega) (by rw [show dc7 F d0 (w + 1) = dA (dc7 F d0 w) (vTell F w) from pf_s _ _ hw0, ← hw2]; rfl) (by omega) H _ hP hS _ (lv_sub hl [0, 1, 2] rfl)
  exact lp_5 8 0 d0 (by omega) (by omega) rfl (by omega) s.heap _ hP hS _ (lv_sub hl [0, 1, 3] rfl)
