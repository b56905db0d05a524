theorem gV_r (t : Int) : 0 ≤ gV t ∧ gV t < 15 := by
  have a := fp_le (q := fun k => valT k ≤ t) (n := 15) (by omega)
  unfold gV
  split <;> omega
theorem ppF_r (bar tk lb : Int) (pc : Int → Int) {n : Int} (hn : 0 ≤ n) : ∀ k, 0 ≤ k → k < n → 0 ≤ (ppF bar tk lb pc n).2.2 k ∧ (ppF bar tk lb pc n).2.2 k < 15 := by
  refine pf_ind (fun (i : Int) (z : ppT) => ∀ k, 0 ≤ k → k < i → 0 ≤ z.2.2 k ∧ z.2.2 k < 15) (fun k h0 h1 => absurd h1 (by omega)) ?_ hn
  intro j z hj ih k h0 h1
  show 0 ≤ zU z.2.2 j (gV (min z.1 z.2.1)) k ∧ zU z.2.2 j (gV (min z.1 z.2.1)) k < 15
  by_cases e : k = j
  · rw [e, zU_s]; exact gV_r _
  · rw [zU_n e]; exact ih k h0 (by omega)
/-- pieces are appended: T rows, F numbers -/
abbrev apT : Type := (Nat → Int → Int) × (Nat → Int)
def apS (bar : Int) (v : Int) (z : apT) : apT := (zR (zR (zR (zR (zR (zR (zR z.1 0 (z.2 0) (z.2 1)) 1 (z.2 0) (valT v)) 2 (z.2 0) (valP v)) 3 (z.2 0) (valD v)) 4 (z.2 0) (-1)) 5 (z.2 0) 0) 6 (z.2 0) (z.2 1 / bar), zN (zN z.2 1 (z.2 1 + valT v)) 0 (z.2 0 + 1))
def apF (bar : Int) (pc : Int → Int) (T : Nat → Int → Int) (F : Nat → Int) : Int → apT := pf (T, F) (fun k z => apS bar (pc k) z)
theorem apF_s (bar : Int) (pc : Int → Int) (T : Nat → Int → Int) (F : Nat → Int) {i : Int} (h : 0 ≤ i) : apF bar pc T F (i + 1) = apS bar (pc i) (apF bar pc T F i) := pf_s _ _ h
/-- the pieces of x behind the voice v's end -/
def plN (F : Nat → Int) (A : Nat → Int → Int) (Fv : Int → Nat → Int) (v x : Int) : Int := ppN (F 2) (valT x) (F 2 - (Fv v 1 - Fv v 1 / F 2 * F 2)) (A 1)
def plC (F : Nat → Int) (A : Nat → Int → Int) (Fv : Int → Nat → Int) (v x : Int) : Int → Int := (ppF (F 2) (valT x) (F 2 - (Fv v 1 - Fv v 1 / F 2 * F 2)) (A 1) (plN F A Fv v x)).2.2
def plA (F : Nat → Int) (A : Nat → Int → Int) (T : Int → Nat → Int → Int) (Fv : Int → Nat → Int) (v x : Int) : apT := apF (F 2) (plC F A Fv v x) (T v) (Fv v) (plN F A Fv v x)
set_option maxHeartbeats 2000000 in
theorem c_X2_addPieces (l : Launch) (G : zG) (ad : Nat → Nat) (F : Nat → Int) (A E : Nat → Int → Int) (T P S Av : Int → Nat → Int → Int) (Fv : Int → Nat → Int) (v : Int) (x : Int) (sz : Nat) (hst : l.stackTraces = false) (r_x : -2147483648 ≤ x ∧ x ≤ 2147483647) (hv9 : 0 ≤ v ∧ v < 4) (hx9 : 0 ≤ x ∧ x < 15) (hbt : 48 ≤ F 2 ∧ F 2 ≤ 2304 ∧ F 2 % 12 = 0) (hen : Fv v 1 ≤ 100 * F 2 ∧ Fv v 1 % 12 = 0) (hVC : COK F Fv) : MX l yX2_addPieces cX2_addPieces 5 (some .int) 6 90 (1) (6) G [.ref (ad 0), .ref (vad ad v 0), .int (zI (x))] (fA 94 ad sz) sz (CP G ad F A E T P S Av Fv) (QW (fA 94 ad sz) (fun r H => r = plN F A Fv v x ∧ (1 ≤ r ∧ r ≤ 56) ∧ ¬ (200 < Fv v 0 + plN F A Fv v x ∨ 100 * F 2 < Fv v 1 + valT x) ∧ CP G ad F (zW A 1 (plC F A Fv v x)) E (zV T v (plA F A T Fv v x).1) P S Av (zV Fv v (plA F A T Fv v x).2) H)) (fun E9 H => ((E9 = xIS ∧ (200 < Fv v 0 + plN F A Fv v x ∨ 100 * F 2 < Fv v 1 + valT x))) ∧ ∃ A', A' 0 = A 0 ∧ CP G ad F A' E T P S Av Fv H) := by
  refine mx_of hp_X2_addPieces (Nat.le_of_ble_eq_true rfl) ?_
  intro p env s m below meth c ls hB hnt hsz hP hl
  obtain ⟨hx, hb, hml, hr, hlk, hown, hts, hG⟩ := hB
  subst hsz
  have hK := hG.1
  have hS : va_S (fA 94 ad s.heap.size) s.heap s.heap [] := va_S.rf
  have hA : ∀ q : Nat, (fA 94 ad s.heap.size) q → G.2.2 ≤ q := fA_lo hP.1.2 hG.2.1
  have hD : ∀ k, k < 94 → (fA 94 ad s.heap.size) (ad k) := fun k hk => fA_in hk
  have hl : lv_has ls 5 [(0, .ref (ad 0)), (1, .ref (vad ad v 0)), (2, .int (zI (x)))] := hl
  have hV_v := CP.voice hP v hv9
  have hvi := hVC.2 v hv9.1 hv9.2
  have hvt := valT_rng hx9
  have hvt2 := valT_12' hx9
  have hDv : ∀ k, k < 21 → (fA 94 ad s.heap.size) (vad ad (v) k) := fun k hk => fA_v (by omega) hS.1 _ (fA_in hk)
  refine lv_aload_n hx hb dX2_addPieces_0 rfl (lv_at hl 0 rfl) ?_
  refine lv_aload_n hx hb dX2_addPieces_1 rfl (lv_at hl 1 rfl) ?_
  refine zv_get hx hb hK hts hown hV_v 6 (by decide) q_fl_RX2_165 (v := .int (zI ((Fv v) 1))) rfl dX2_addPieces_2 ?_
  refine z_gets hx hb hG hts hS hA (own := RX2) (C := "ScorePress") (n := "VALUE_TICKS") (vs := [672, 576, 384, 336, 288, 192, 168, 144, 96, 84, 72, 48, 36, 24, 12]) (index := 90) (by decide) hown q_fl_RX2_90 dX2_addPieces_5 (fun t_1 ht_1 => ?_)
  refine lv_iload_n hx hb dX2_addPieces_8 rfl (lv_at hl 2 rfl) ?_
  refine z_tld (vs := [672, 576, 384, 336, 288, 192, 168, 144, 96, 84, 72, 48, 36, 24, 12]) hx hb ht_1 hS (i := x) (by have h9 : ([672, 576, 384, 336, 288, 192, 168, 144, 96, 84, 72, 48, 36, 24, 12] : List Int).length = 15 := rfl; omega) (by decide) dX2_addPieces_9 ?_
  refine k_Wi (c_VW (As := [.int (zI ((Fv v) 1)), .int (zI (valT (x)))]) (rest := []) ⟨hx, hb, hml, hown, hts⟩ hG hS hA (c_X2_planPieces l G ad F A E T P S Av Fv ((Fv v) 1) (valT (x)) s.heap.size (by omega) (by omega) (by omega)) ⟨q_ml_RX2_229, q_im_X2_planPieces, q_sel_X2_planPieces, q_ini_RX2, q_code_X2_planPieces⟩ hv_X2_planPieces (CP.rec hK hP) hP ⟨Nat.le_of_ble_eq_true rfl, Nat.le_of_ble_eq_true rfl⟩ ⟨Nat.le_of_ble_eq_true rfl, Nat.le_of_ble_eq_true rfl⟩ rfl hl.1 rfl (Nat.le_of_ble_eq_true rfl) dX2_addPieces_10) hS (fA_mono hS.1) (fun r_10 H1 locs1 hq hz1 hk1 hS => ?_)
  obtain ⟨hr9, hr56, hP⟩ := hq
  have hr9 : r_10 = plN F A Fv v x := hr9
  have hP : CP G ad F (zW A 1 (plC F A Fv v x)) E T P S Av Fv H1 := by
    have e : plC F A Fv v x = (ppF (F 2) (valT x) (F 2 - (Fv v 1 - Fv v 1 / F 2 * F 2)) (A 1) r_10).2.2 := by rw [hr9]; rfl
    rw [e]; exact hP
  have hV_v := CP.voice hP v hv9
  obtain ⟨np, hnp⟩ : ∃ np, np = plN F A Fv v x := ⟨_, rfl⟩
  have hr9 : r_10 = np := hr9.trans hnp.symm
  have hpr : ∀ k, 0 ≤ k → k < plN F A Fv v x → 0 ≤ plC F A Fv v x k ∧ plC F A Fv v x k < 15 := ppF_r (F 2) (valT x) (F 2 - (Fv v 1 - Fv v 1 / F 2 * F 2)) (A 1) (n := plN F A Fv v x) (by rw [← hnp]; omega)
  rw [hr9]
  rw [hr9] at hr56
  refine lv_istore_n (lv' := [(3, .int (zI (np))), (0, .ref (ad 0)), (1, .ref (vad ad v 0)), (2, .int (zI (x)))]) hx hb dX2_addPieces_13 rfl hl (by decide) rfl (fun ls hl => ?_)
  refine lv_aload_n hx hb dX2_addPieces_14 rfl (lv_at hl 2 rfl) ?_
  refine zv_get hx hb hK hts hown hV_v 5 (by decide) q_fl_RX2_103 (v := .int (zI ((Fv v) 0))) rfl dX2_addPieces_15 ?_
  refine lv_iload_n hx hb dX2_addPieces_18 rfl (lv_at hl 0 rfl) ?_
  refine z_iadd (x := (Fv v) 0) (y := np) hx hb dX2_addPieces_19 ?_
  refine z_sipush hx hb dX2_addPieces_20 (by decide) ?_
  refine z_icmp_le (a := ((Fv v) 0) + (np)) (b := 200) (tgt := 36) hx hb dX2_addPieces_23 (by decide) (by omega) (by omega) (fun h_23 => ?_) (fun h_23 => ?_)
  · skip
    refine lv_aload_n hx hb dX2_addPieces_36 rfl (lv_at hl 2 rfl) ?_
    refine zv_get hx hb hK hts hown hV_v 6 (by decide) q_fl_RX2_165 (v := .int (zI ((Fv v) 1))) rfl dX2_addPieces_37 ?_
    refine z_gets hx hb hG hts hS hA (own := RX2) (C := "ScorePress") (n := "VALUE_TICKS") (vs := [672, 576, 384, 336, 288, 192, 168, 144, 96, 84, 72, 48, 36, 24, 12]) (index := 90) (by decide) hown q_fl_RX2_90 dX2_addPieces_40 (fun t_2 ht_2 => ?_)
    refine lv_iload_n hx hb dX2_addPieces_43 rfl (lv_at hl 3 rfl) ?_
    refine z_tld (vs := [672, 576, 384, 336, 288, 192, 168, 144, 96, 84, 72, 48, 36, 24, 12]) hx hb ht_2 hS (i := x) (by have h9 : ([672, 576, 384, 336, 288, 192, 168, 144, 96, 84, 72, 48, 36, 24, 12] : List Int).length = 15 := rfl; omega) (by decide) dX2_addPieces_44 ?_
    refine z_iadd (x := (Fv v) 1) (y := valT (x)) hx hb dX2_addPieces_45 ?_
    refine z_bipush hx hb dX2_addPieces_46 (by decide) ?_
    refine lv_aload_n hx hb dX2_addPieces_48 rfl (lv_at hl 1 rfl) ?_
    refine zs_get hx hb hK hts hown hP 5 (by decide) q_fl_RX2_33 (v := .int (zI (F 2))) rfl dX2_addPieces_49 ?_
    refine z_imul (x := 100) (y := F 2) hx hb dX2_addPieces_52 ?_
    refine z_icmp_le (a := ((Fv v) 1) + (valT (x))) (b := (100) * (F 2)) (tgt := 66) hx hb dX2_addPieces_53 (by decide) (by omega) (by omega) (fun h_53 => ?_) (fun h_53 => ?_)
    · skip
      refine z_iconst hx hb dX2_addPieces_66 ?_
      refine lv_istore (lv' := [(4, .int (zI (0))), (3, .int (zI (np))), (0, .ref (ad 0)), (1, .ref (vad ad v 0)), (2, .int (zI (x)))]) hx hb dX2_addPieces_67 hl (by decide) rfl (fun ls hl => ?_)
      have hP : CP G ad F (zW A 1 (plC F A Fv v x)) E (zV T v (T v)) P S Av (zV Fv v (Fv v)) H1 := by rw [zV_id, zV_id]; exact hP
      have lp_69 : ∀ (n : Nat) (i : Int) (T1 : Nat → Int → Int) (F1 : Nat → Int), 0 ≤ i → i ≤ np → (T1, F1) = apF (F 2) (plC F A Fv v x) (T v) (Fv v) i → F1 0 = Fv v 0 + i → (0 ≤ F1 1 ∧ F1 1 ≤ Fv v 1 + 672 * i) → np - i < n → ∀ (H : Heap) (locs : List Loc), CP G ad F (zW A 1 (plC F A Fv v x)) E (zV T v T1) P S Av (zV Fv v F1) H → va_S (fA 94 ad s.heap.size) s.heap H locs → ∀ (ls : Array Slot), lv_has ls 5 [(4, .int (zI (i))), (3, .int (zI (np))), (0, .ref (ad 0)), (1, .ref (vad ad v 0))] → W p l env (rmz 6 90 1 6) s m (([.ref (ad 0), .ref (vad ad v 0), .int (zI (x))] : List Value).toArray) below meth c H locs 0 0 (vx_MQ below (QW (fA 94 ad s.heap.size) (fun r H => r = plN F A Fv v x ∧ (1 ≤ r ∧ r ≤ 56) ∧ ¬ (200 < Fv v 0 + plN F A Fv v x ∨ 100 * F 2 < Fv v 1 + valT x) ∧ CP G ad F (zW A 1 (plC F A Fv v x)) E (zV T v (plA F A T Fv v x).1) P S Av (zV Fv v (plA F A T Fv v x).2) H)) (XQ (fA 94 ad s.heap.size) (fun E9 H => ((E9 = xIS ∧ (200 < Fv v 0 + plN F A Fv v x ∨ 100 * F 2 < Fv v 1 + valT x))) ∧ ∃ A', A' 0 = A 0 ∧ CP G ad F A' E T P S Av Fv H)) (([.ref (ad 0), .ref (vad ad v 0), .int (zI (x))] : List Value).toArray) s 1 6 (fA 94 ad s.heap.size)) (F0 m 69 ls []) := by
        intro n
        induction n with
        | zero => intro i T1 F1 hi0 hi1 hap hf0 hf1 hm H locs hP hS ls hl; exact absurd hm (by omega)
        | succ n ih =>
          intro i T1 F1 hi0 hi1 hap hf0 hf1 hm H locs hP hS ls hl
          have hV_v := CP.voice hP v hv9
          rw [zV_s, zV_s] at hV_v
          refine lv_iload hx hb dX2_addPieces_69 (lv_at hl 0 rfl) ?_
          refine lv_iload_n hx hb dX2_addPieces_71 rfl (lv_at hl 1 rfl) ?_
          refine z_icmp_ge (a := i) (b := np) (tgt := 103) hx hb dX2_addPieces_72 (by decide) (by omega) (by omega) (fun h_72 => ?_) (fun h_72 => ?_)
          · skip
            refine lv_iload_n hx hb dX2_addPieces_103 rfl (lv_at hl 1 rfl) ?_
            exact vx_ret (e_Wi (r := np) hx hb hr hlk (n_i _) hS (by omega) (by omega) ⟨hnp, by omega, by omega, (by show CP G ad F (zW A 1 (plC F A Fv v x)) E (zV T v (apF (F 2) (plC F A Fv v x) (T v) (Fv v) (plN F A Fv v x)).1) P S Av (zV Fv v (apF (F 2) (plC F A Fv v x) (T v) (Fv v) (plN F A Fv v x)).2) H; rw [← hnp, show np = i by omega, ← hap]; exact hP)⟩ dX2_addPieces_104)
          · skip
            refine lv_aload_n hx hb dX2_addPieces_75 rfl (lv_at hl 3 rfl) ?_
            refine lv_aload_n hx hb dX2_addPieces_76 rfl (lv_at hl 2 rfl) ?_
            refine zs_get hx hb hK hts hown hP 2 (by decide) q_fl_RX2_22 (v := .ref (ad 9)) rfl dX2_addPieces_77 ?_
            refine lv_iload hx hb dX2_addPieces_80 (lv_at hl 0 rfl) ?_
            refine zs_lA1 hx hb hK hP (i := i) (by omega) dX2_addPieces_82 ?_
            have hpi := hpr i hi0 (by rw [← hnp]; omega)
            refine lv_aload_n hx hb dX2_addPieces_83 rfl (lv_at hl 3 rfl) ?_
            refine zv_get hx hb hK hts hown hV_v 6 (by decide) q_fl_RX2_165 (v := .int (zI (F1 1))) rfl dX2_addPieces_84 ?_
            refine lv_aload_n hx hb dX2_addPieces_87 rfl (lv_at hl 2 rfl) ?_
            refine zs_get hx hb hK hts hown hP 5 (by decide) q_fl_RX2_33 (v := .int (zI (F 2))) rfl dX2_addPieces_88 ?_
            refine k_R (c_SR (As := [.int (zI (F1 1)), .int (zI (F 2))]) (rest := [.int (zI (plC F A Fv v x i)), .ref (vad ad v 0)]) ⟨hx, hb, hml, hown, hts⟩ hG hS hA (c_X2_wholeParts l G (F1 1) (F 2) (show 0 ≤ (F1 1) ∧ (F1 1) ≤ 2147483647 by omega) (show 0 < (F 2) ∧ (F 2) ≤ 2147483647 by omega)) ⟨q_ml_RX2_168, q_st_X2_wholeParts, q_ini_RX2, q_code_X2_wholeParts⟩ hs_X2_wholeParts trivial ⟨Nat.le_of_ble_eq_true rfl, Nat.le_of_ble_eq_true rfl⟩ ⟨Nat.le_of_ble_eq_true rfl, Nat.le_of_ble_eq_true rfl⟩ rfl hl.1 rfl (Nat.le_of_ble_eq_true rfl) dX2_addPieces_91) ?_
            refine k_Wv (c_VW (As := [.int (zI (plC F A Fv v x i)), .int (zI ((F1 1) / (F 2)))]) (rest := []) ⟨hx, hb, hml, hown, hts⟩ hG hS hA (c_X1_append l G (vad ad (v)) T1 (P v) (S v) (Av v) F1 (plC F A Fv v x i) ((F1 1) / (F 2)) H.size (by omega) (by omega)) ⟨q_ml_RX2_236, q_im_X1_append, q_sel_X1_append, q_ini_RX1, q_code_X1_append⟩ hv_X1_append (VP.rec hK hV_v) hV_v ⟨Nat.le_of_ble_eq_true rfl, Nat.le_of_ble_eq_true rfl⟩ ⟨Nat.le_of_ble_eq_true rfl, Nat.le_of_ble_eq_true rfl⟩ rfl hl.1 rfl (Nat.le_of_ble_eq_true rfl) dX2_addPieces_94) hS (fA_v hv9 hS.1) (fun H1 locs1 hq hz1 hk1 hS => ?_)
            have hP := CP.wT hP hv9 hq hk1
            rw [zV_V, zV_V, show zV P v (P v) = P from zV_id P v] at hP
            refine z_iinc (lv' := [(4, .int (zI (i + 1))), (3, .int (zI (np))), (0, .ref (ad 0)), (1, .ref (vad ad v 0))]) hx hb dX2_addPieces_97 hl (k := 0) rfl (by decide) rfl (fun ls hl => ?_)
            refine lv_goto (tgt := 69) hx hb dX2_addPieces_100 (by decide) ?_
            exact ih (i + 1) (apS (F 2) (plC F A Fv v x i) (T1, F1)).1 (apS (F 2) (plC F A Fv v x i) (T1, F1)).2 (by omega) (by omega) (by rw [apF_s _ _ _ _ hi0, ← hap]) (by show F1 0 + 1 = _; omega) (by show 0 ≤ F1 1 + valT (plC F A Fv v x i) ∧ F1 1 + valT (plC F A Fv v x i) ≤ _; have := valT_rng hpi; omega) (by omega) H1 _ hP hS _ (lv_sub hl [0, 1, 2, 3] rfl)
      exact lp_69 57 0 (T v) (Fv v) (by omega) (by omega) rfl (by omega) (by omega) (by omega) H1 _ hP hS _ (lv_sub hl [0, 1, 2, 3] rfl)
    · skip
      exact z_thrIS hx hb hst hown hts hG hnt hS hA (text := "the voice would end behind the bar 99") (is := 234) (by decide +kernel) dX2_addPieces_56 dX2_addPieces_59 dX2_addPieces_60 dX2_addPieces_62 dX2_addPieces_65 (hl.1.trans hml.symm) ⟨by decide, by decide, by (show 0 + 1 ≤ _; first | exact Nat.le_of_ble_eq_true rfl | omega), by (show 0 + 6 ≤ _; first | exact Nat.le_of_ble_eq_true rfl | omega)⟩ hlk (fun H1 q1 q2 => ⟨(by first | exact ⟨rfl, by omega⟩), _, (show zW A 1 (plC F A Fv v x) 0 = A 0 from rfl), hP.grow q2⟩) (by first | exact Nat.le_of_ble_eq_true rfl | omega) (by first | exact Nat.le_of_ble_eq_true rfl | omega)
  · skip
    exact z_thrIS hx hb hst hown hts hG hnt hS hA (text := "the voice would have more than 200 elements") (is := 232) (by decide +kernel) dX2_addPieces_26 dX2_addPieces_29 dX2_addPieces_30 dX2_addPieces_32 dX2_addPieces_35 (hl.1.trans hml.symm) ⟨by decide, by decide, by (show 0 + 1 ≤ _; first | exact Nat.le_of_ble_eq_true rfl | omega), by (show 0 + 6 ≤ _; first | exact Nat.le_of_ble_eq_true rfl | omega)⟩ hlk (fun H1 q1 q2 => ⟨(by first | exact ⟨rfl, by omega⟩), _, (show zW A 1 (plC F A Fv v x) 0 = A 0 from rfl), hP.grow q2⟩) (by first | exact Nat.le_of_ble_eq_true rfl | omega) (by first | exact Nat.le_of_ble_eq_true rfl | omega)
