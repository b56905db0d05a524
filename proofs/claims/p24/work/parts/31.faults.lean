def fcP (T : Int → Nat → Int → Int) (Fv : Int → Nat → Int) (v : Int) : Int → Int := pf 0 (fun k x => if v < k then x + parC T Fv v k else x)
def fcF (F : Nat → Int) (T : Int → Nat → Int → Int) (Fv : Int → Nat → Int) : Int → Int := pf 0 (fun v x => x + (bBeg Fv T (F 0) - Fv v 1 / F 2) + lzN (T v 5) (T v 4) (Fv v 0) (Fv v 0) + fcP T Fv v (F 0))
theorem fcP_low (T : Int → Nat → Int → Int) (Fv : Int → Nat → Int) (v : Int) {b : Int} (hb : 0 ≤ b ∧ b ≤ v + 1) : fcP T Fv v b = 0 := by
  obtain ⟨k, rfl⟩ : ∃ k : Nat, b = (k : Int) := ⟨b.toNat, by omega⟩
  induction k with
  | zero => rfl
  | succ k ih =>
    have q := ih (by omega)
    unfold fcP at q ⊢
    rw [show ((k + 1 : Nat) : Int) = (k : Int) + 1 by omega, pf_s _ _ (by omega), if_neg (by omega)]
    exact q
set_option maxHeartbeats 600000 in
theorem c_X2_faults (l : Launch) (G : zG) (ad : Nat → Nat) (F : Nat → Int) (A E : Nat → Int → Int) (T P S Av : Int → Nat → Int → Int) (Fv : Int → Nat → Int) (hbt : 0 < F 2 ∧ F 2 ≤ 1000000) (hVo : ∀ v, 0 ≤ v → v < 4 → VOK (T v) (P v) (Fv v 0)) (hVm : ∀ v, 0 ≤ v → v < 4 → ∀ i k, 0 ≤ i → i < k → k < Fv v 0 → T v 0 i ≤ T v 0 k) (hVT : ∀ v, 0 ≤ v → v < 4 → 0 < Fv v 0 → 0 ≤ T v 6 (Fv v 0 - 1) ∧ T v 6 (Fv v 0 - 1) ≤ 1000000) (hVC : COK F Fv) : MR l yX2_faults cX2_faults 5 (some .int) 3 78 G [.ref (ad 0)] (CP G ad F A E T P S Av Fv) (.int (zI (fcF F T Fv (F 0)))) := by
  refine mr_of hp_X2_faults (Nat.le_of_ble_eq_true rfl) ?_
  intro p env s m below meth c ls hB hP hl
  obtain ⟨hx, hb, hml, hr, hlk, hown, hts, hG⟩ := hB
  have hK := hG.1
  have hS : va_S (fun _ => False) s.heap s.heap [] := va_S.rf
  have hA : ∀ q : Nat, (fun _ : Nat => False) q → G.2.2 ≤ q := fun _ h => h.elim
  have hl : lv_has ls 5 [(0, .ref (ad 0))] := hl
  have h0b := hVC.1
  refine lv_aload_n hx hb dX2_faults_0 rfl (lv_at hl 0 rfl) ?_
  refine k_R (c_VR (As := []) (rest := []) ⟨hx, hb, hml, hown, hts⟩ hG hS hA (c_X2_barsBegun l G ad F A E T P S Av Fv hVT hVC) ⟨q_ml_RX2_76, q_im_X2_barsBegun, q_sel_X2_barsBegun, q_ini_RX2, q_code_X2_barsBegun⟩ hv_X2_barsBegun (CP.rec hK hP) hP ⟨by decide, by decide⟩ ⟨Nat.zero_le _, Nat.zero_le _⟩ rfl hl.1 rfl (Nat.le_of_ble_eq_true rfl) dX2_faults_1) ?_
  refine lv_istore_n (lv' := [(1, .int (zI (bBeg Fv T ((F 0))))), (0, .ref (ad 0))]) hx hb dX2_faults_4 rfl hl (by decide) rfl (fun ls hl => ?_)
  refine z_iconst hx hb dX2_faults_5 ?_
  refine lv_istore_n (lv' := [(2, .int (zI (0))), (1, .int (zI (bBeg Fv T ((F 0))))), (0, .ref (ad 0))]) hx hb dX2_faults_6 rfl hl (by decide) rfl (fun ls hl => ?_)
  refine z_iconst hx hb dX2_faults_7 ?_
  refine lv_istore_n (lv' := [(3, .int (zI (0))), (2, .int (zI (0))), (1, .int (zI (bBeg Fv T ((F 0))))), (0, .ref (ad 0))]) hx hb dX2_faults_8 rfl hl (by decide) rfl (fun ls hl => ?_)
  have lp_9 : ∀ (n : Nat) (i z : Int), 0 ≤ i → i ≤ F 0 → z = fcF F T Fv i → F 0 - i < n → ∀ (ls : Array Slot), lv_has ls 5 [(3, .int (zI (i))), (2, .int (zI (z))), (1, .int (zI (bBeg Fv T ((F 0))))), (0, .ref (ad 0))] → W p l env (rmz 3 78 0 0) s m (([.ref (ad 0)] : List Value).toArray) below meth c s.heap [] 0 0 (MQ below (QR (.int (zI (fcF F T Fv (F 0))))) (([.ref (ad 0)] : List Value).toArray) s 0 0 (fun _ => False)) (F0 m 9 ls []) := by
    intro n
    induction n with
    | zero => intro i z h0 h1 h2 hm ls hl; exact absurd hm (by omega)
    | succ n ih =>
      intro i z h0 h1 h2 hm ls hl
      have hs : fcF F T Fv (i + 1) = fcF F T Fv i + (bBeg Fv T (F 0) - Fv i 1 / F 2) + lzN (T i 5) (T i 4) (Fv i 0) (Fv i 0) + fcP T Fv i (F 0) := pf_s _ _ h0
      have hvi := hVC.2 i h0
      refine lv_iload_n hx hb dX2_faults_9 rfl (lv_at hl 0 rfl) ?_
      refine lv_aload_n hx hb dX2_faults_10 rfl (lv_at hl 3 rfl) ?_
      refine zs_get hx hb hK hts hown hP 3 (by decide) q_fl_RX2_26 (v := .int (zI (F 0))) rfl dX2_faults_11 ?_
      refine z_icmp_ge (a := i) (b := F 0) (tgt := 95) hx hb dX2_faults_14 (by decide) (by omega) (by omega) (fun h_14 => ?_) (fun h_14 => ?_)
      · skip
        refine lv_iload_n hx hb dX2_faults_95 rfl (lv_at hl 1 rfl) ?_
        exact e_R (r' := z) hx hb hr hlk (n_i _) (by rw [h2, show F 0 = i by omega]) dX2_faults_96
      · skip
        have hvi := hvi (by omega)
        refine lv_iload_n hx hb dX2_faults_17 rfl (lv_at hl 1 rfl) ?_
        refine lv_iload_n hx hb dX2_faults_18 rfl (lv_at hl 2 rfl) ?_
        refine lv_aload_n hx hb dX2_faults_19 rfl (lv_at hl 3 rfl) ?_
        refine zs_get hx hb hK hts hown hP 0 (by decide) q_fl_RX2_11 (v := .ref (ad 1)) rfl dX2_faults_20 ?_
        refine lv_iload_n hx hb dX2_faults_23 rfl (lv_at hl 0 rfl) ?_
        refine zs_aV hx hb hK hP (i := i) (by omega) dX2_faults_24 ?_
        have hV_i : VP G (vad ad (i)) (T (i)) (P (i)) (S (i)) (Av (i)) (Fv (i)) s.heap := CP.voice hP (i) (by omega)
        refine zv_get hx hb hK hts hown hV_i 6 (by decide) q_fl_RX2_165 (v := .int (zI ((Fv (i)) 1))) rfl dX2_faults_25 ?_
        refine lv_aload_n hx hb dX2_faults_28 rfl (lv_at hl 3 rfl) ?_
        refine zs_get hx hb hK hts hown hP 5 (by decide) q_fl_RX2_33 (v := .int (zI (F 2))) rfl dX2_faults_29 ?_
        refine k_R (c_SR (As := [.int (zI ((Fv (i)) 1)), .int (zI (F 2))]) (rest := [.int (zI (bBeg Fv T ((F 0)))), .int (zI (z))]) ⟨hx, hb, hml, hown, hts⟩ hG hS hA (c_X2_wholeParts l G ((Fv (i)) 1) (F 2) (by omega) (by omega)) ⟨q_ml_RX2_168, q_st_X2_wholeParts, q_ini_RX2, q_code_X2_wholeParts⟩ hs_X2_wholeParts trivial ⟨by decide, by decide⟩ ⟨Nat.zero_le _, Nat.zero_le _⟩ rfl hl.1 rfl (Nat.le_of_ble_eq_true rfl) dX2_faults_32) ?_
        refine z_isub (x := bBeg Fv T ((F 0))) (y := ((Fv (i)) 1) / (F 2)) hx hb dX2_faults_35 ?_
        refine z_iadd (x := z) (y := (bBeg Fv T ((F 0))) - (((Fv (i)) 1) / (F 2))) hx hb dX2_faults_36 ?_
        refine lv_istore_n (lv' := [(2, .int (zI ((z) + ((bBeg Fv T ((F 0))) - (((Fv (i)) 1) / (F 2)))))), (3, .int (zI (i))), (1, .int (zI (bBeg Fv T ((F 0))))), (0, .ref (ad 0))]) hx hb dX2_faults_37 rfl hl (by decide) rfl (fun ls hl => ?_)
        refine lv_iload_n hx hb dX2_faults_38 rfl (lv_at hl 0 rfl) ?_
        refine lv_aload_n hx hb dX2_faults_39 rfl (lv_at hl 3 rfl) ?_
        refine zs_get hx hb hK hts hown hP 0 (by decide) q_fl_RX2_11 (v := .ref (ad 1)) rfl dX2_faults_40 ?_
        refine lv_iload_n hx hb dX2_faults_43 rfl (lv_at hl 1 rfl) ?_
        refine zs_aV hx hb hK hP (i := i) (by omega) dX2_faults_44 ?_
        have hV_i : VP G (vad ad (i)) (T (i)) (P (i)) (S (i)) (Av (i)) (Fv (i)) s.heap := CP.voice hP (i) (by omega)
        refine k_R (c_VR (As := []) (rest := [.int (zI ((z) + ((bBeg Fv T ((F 0))) - (((Fv (i)) 1) / (F 2)))))]) ⟨hx, hb, hml, hown, hts⟩ hG hS hA (c_X1_countLooseTies l G (vad ad (i)) (T (i)) (P (i)) (S (i)) (Av (i)) (Fv (i)) (hVo i h0 (by omega))) ⟨q_ml_RX2_171, q_im_X1_countLooseTies, q_sel_X1_countLooseTies, q_ini_RX1, q_code_X1_countLooseTies⟩ hv_X1_countLooseTies (VP.rec hK hV_i) hV_i ⟨by decide, by decide⟩ ⟨Nat.zero_le _, Nat.zero_le _⟩ rfl hl.1 rfl (Nat.le_of_ble_eq_true rfl) dX2_faults_45) ?_
        refine z_iadd (x := (z) + ((bBeg Fv T ((F 0))) - (((Fv (i)) 1) / (F 2)))) (y := lzN ((T (i)) 5) ((T (i)) 4) (((Fv (i)) 0)) (((Fv (i)) 0))) hx hb dX2_faults_48 ?_
        obtain ⟨z9, hz9⟩ : ∃ z9, z9 = z + (bBeg Fv T (F 0) - Fv i 1 / F 2) + lzN (T i 5) (T i 4) (Fv i 0) (Fv i 0) := ⟨_, rfl⟩
        rw [← hz9]
        refine lv_istore_n (lv' := [(2, .int (zI (z9))), (3, .int (zI (i))), (1, .int (zI (bBeg Fv T ((F 0))))), (0, .ref (ad 0))]) hx hb dX2_faults_49 rfl hl (by decide) rfl (fun ls hl => ?_)
        refine lv_iload_n hx hb dX2_faults_50 rfl (lv_at hl 1 rfl) ?_
        refine z_iconst hx hb dX2_faults_51 ?_
        refine z_iadd (x := i) (y := 1) hx hb dX2_faults_52 ?_
        refine lv_istore (lv' := [(4, .int (zI ((i) + (1)))), (2, .int (zI (z9))), (3, .int (zI (i))), (1, .int (zI (bBeg Fv T ((F 0))))), (0, .ref (ad 0))]) hx hb dX2_faults_53 hl (by decide) rfl (fun ls hl => ?_)
        rw [show z9 = z9 + 0 by omega] at hl
        have lp_55 : ∀ (n : Nat) (b w : Int), i < b → b ≤ F 0 → w = fcP T Fv i b → F 0 - b < n → ∀ (ls : Array Slot), lv_has ls 5 [(4, .int (zI (b))), (2, .int (zI (z9 + w))), (3, .int (zI (i))), (1, .int (zI (bBeg Fv T ((F 0))))), (0, .ref (ad 0))] → W p l env (rmz 3 78 0 0) s m (([.ref (ad 0)] : List Value).toArray) below meth c s.heap [] 0 0 (MQ below (QR (.int (zI (fcF F T Fv (F 0))))) (([.ref (ad 0)] : List Value).toArray) s 0 0 (fun _ => False)) (F0 m 55 ls []) := by
          intro n
          induction n with
          | zero => intro b w hb0 hb1 hw hmb ls hl; exact absurd hmb (by omega)
          | succ n ih2 =>
            intro b w hb0 hb1 hw hmb ls hl
            have hp9 : fcP T Fv i (b + 1) = if i < b then fcP T Fv i b + parC T Fv i b else fcP T Fv i b := pf_s _ _ (by omega)
            rw [if_pos hb0] at hp9
            refine lv_iload hx hb dX2_faults_55 (lv_at hl 0 rfl) ?_
            refine lv_aload_n hx hb dX2_faults_57 rfl (lv_at hl 4 rfl) ?_
            refine zs_get hx hb hK hts hown hP 3 (by decide) q_fl_RX2_26 (v := .int (zI (F 0))) rfl dX2_faults_58 ?_
            refine z_icmp_ge (a := b) (b := F 0) (tgt := 89) hx hb dX2_faults_61 (by decide) (by omega) (by omega) (fun h_61 => ?_) (fun h_61 => ?_)
            · skip
              refine z_iinc (lv' := [(3, .int (zI (i + 1))), (4, .int (zI (b))), (2, .int (zI (z9 + w))), (1, .int (zI (bBeg Fv T ((F 0))))), (0, .ref (ad 0))]) hx hb dX2_faults_89 hl (k := 2) rfl (by decide) rfl (fun ls hl => ?_)
              refine lv_goto (tgt := 9) hx hb dX2_faults_92 (by decide) ?_
              exact ih (i + 1) (z9 + w) (by omega) (by omega) (by have hwF : fcP T Fv i (F 0) = w := (by rw [hw, show F 0 = b by omega]); rw [hs, ← h2, hwF, ← hz9]) (by omega) _ (lv_sub hl [0, 2, 3, 4] rfl)
            · skip
              refine lv_iload_n hx hb dX2_faults_64 rfl (lv_at hl 1 rfl) ?_
              refine lv_aload_n hx hb dX2_faults_65 rfl (lv_at hl 4 rfl) ?_
              refine zs_get hx hb hK hts hown hP 0 (by decide) q_fl_RX2_11 (v := .ref (ad 1)) rfl dX2_faults_66 ?_
              refine lv_iload_n hx hb dX2_faults_69 rfl (lv_at hl 2 rfl) ?_
              refine zs_aV hx hb hK hP (i := i) (by omega) dX2_faults_70 ?_
              have hV_i : VP G (vad ad (i)) (T (i)) (P (i)) (S (i)) (Av (i)) (Fv (i)) s.heap := CP.voice hP (i) (by omega)
              refine lv_aload_n hx hb dX2_faults_71 rfl (lv_at hl 4 rfl) ?_
              refine zs_get hx hb hK hts hown hP 0 (by decide) q_fl_RX2_11 (v := .ref (ad 1)) rfl dX2_faults_72 ?_
              refine lv_iload hx hb dX2_faults_75 (lv_at hl 0 rfl) ?_
              refine zs_aV hx hb hK hP (i := b) (by omega) dX2_faults_77 ?_
              have hV_b : VP G (vad ad (b)) (T (b)) (P (b)) (S (b)) (Av (b)) (Fv (b)) s.heap := CP.voice hP (b) (by omega)
              refine k_R (c_SR (As := [.ref (vad ad (i) 0), .ref (vad ad (b) 0)]) (rest := [.int (zI (z9 + w))]) ⟨hx, hb, hml, hown, hts⟩ hG hS hA (c_X2_countParallels l G ad F A E T P S Av Fv i b (by omega) (by omega) (hVo i h0 (by omega)) (hVo b (by omega) (by omega)) (hVm i h0 (by omega))) ⟨q_ml_RX2_174, q_st_X2_countParallels, q_ini_RX2, q_code_X2_countParallels⟩ hs_X2_countParallels hP ⟨by decide, by decide⟩ ⟨Nat.zero_le _, Nat.zero_le _⟩ rfl hl.1 rfl (Nat.le_of_ble_eq_true rfl) dX2_faults_78) ?_
              refine z_iadd (x := z9 + w) (y := parC T Fv i b) hx hb dX2_faults_81 ?_
              rw [Int.add_assoc z9 w]
              refine lv_istore_n (lv' := [(2, .int (zI (z9 + (w + parC T Fv i b)))), (4, .int (zI (b))), (3, .int (zI (i))), (1, .int (zI (bBeg Fv T ((F 0))))), (0, .ref (ad 0))]) hx hb dX2_faults_82 rfl hl (by decide) rfl (fun ls hl => ?_)
              refine z_iinc (lv' := [(4, .int (zI (b + 1))), (2, .int (zI (z9 + (w + parC T Fv i b)))), (3, .int (zI (i))), (1, .int (zI (bBeg Fv T ((F 0))))), (0, .ref (ad 0))]) hx hb dX2_faults_83 hl (k := 1) rfl (by decide) rfl (fun ls hl => ?_)
              refine lv_goto (tgt := 55) hx hb dX2_faults_86 (by decide) ?_
              exact ih2 (b + 1) (w + parC T Fv i b) (by omega) (by omega) (by rw [hp9, ← hw]) (by omega) _ (lv_sub hl [0, 1, 2, 3, 4] rfl)
        exact lp_55 5 (i + 1) 0 (by omega) (by omega) (fcP_low T Fv i (by omega)).symm (by omega) _ (lv_sub hl [0, 1, 2, 3, 4] rfl)
  exact lp_9 5 0 0 (by omega) (by omega) rfl (by omega) _ (lv_sub hl [0, 1, 2, 3] rfl)
def mcS (T : Int → Nat → Int → Int) (v : Int) (k : Int) (z : Int64 × Int64) : Int64 × Int64 := if T v 4 k = -1 then z else (z.1 + (zI (T v 4 k)).toInt64 * (zI (T v 1 k)).toInt64, z.2 + (zI (T v 1 k)).toInt64)
def mcV (T : Int → Nat → Int → Int) (v : Int) (z : Int64 × Int64) : Int → Int64 × Int64 := pf z (mcS T v)
def mcF (T : Int → Nat → Int → Int) (Fv : Int → Nat → Int) : Int → Int64 × Int64 := pf (0, 0) (fun v z => mcV T v z (Fv v 0))
