theorem gV_ok {t : Int} (h : 12 ≤ t) : (0 ≤ gV t ∧ gV t < 15) ∧ valT (gV t) ≤ t ∧ gV t = fp (fun k => valT k ≤ t) 15 := by
  have a := fp_le (q := fun k => valT k ≤ t) (n := 15) (by omega)
  have b := fp_spec (q := fun k => valT k ≤ t) (n := 15) (by omega)
  have d : fp (fun k => valT k ≤ t) 15 < 15 := by
    rcases (by omega : fp (fun k => valT k ≤ t) 15 < 15 ∨ 14 < fp (fun k => valT k ≤ t) 15) with z | z
    · exact z
    · exact absurd (show valT 14 ≤ t from h) (b.2 14 (by omega) z)
  unfold gV
  rw [if_pos d]
  exact ⟨⟨a.1, d⟩, b.1 d, rfl⟩
abbrev ppT : Type := Int × Int × (Int → Int)
def ppS (bar q : Int) (z : ppT) : ppT := (z.1 - valT (gV (min z.1 z.2.1)), if z.2.1 - valT (gV (min z.1 z.2.1)) ≤ 0 then bar else z.2.1 - valT (gV (min z.1 z.2.1)), zU z.2.2 q (gV (min z.1 z.2.1)))
def ppF (bar tk lb : Int) (pc : Int → Int) : Int → ppT := pf (tk, lb, pc) (ppS bar)
theorem ppF_s (bar tk lb : Int) (pc : Int → Int) {q : Int} (h : 0 ≤ q) : ppF bar tk lb pc (q + 1) = ppS bar q (ppF bar tk lb pc q) := pf_s _ _ h
def ppN (bar tk lb : Int) (pc : Int → Int) : Int := fp (fun n => (ppF bar tk lb pc n).1 ≤ 0) 57
theorem ppN_eq {bar tk lb q : Int} {pc : Int → Int} (h0 : 0 ≤ q) (h1 : fp (fun n => (ppF bar tk lb pc n).1 ≤ 0) q = q) (h2 : (ppF bar tk lb pc q).1 ≤ 0) (h3 : q < 57) : ppN bar tk lb pc = q := by
  unfold ppN
  exact fp_yes h0 h1 h2 h3
theorem valT_12' {k : Int} (h : 0 ≤ k ∧ k < 15) : valT k % 12 = 0 := co15 (q := fun k => valT k % 12 = 0) (by decide) h
set_option maxHeartbeats 2000000 in
theorem c_X2_planPieces (l : Launch) (G : zG) (ad : Nat → Nat) (F : Nat → Int) (A E : Nat → Int → Int) (T P S Av : Int → Nat → Int → Int) (Fv : Int → Nat → Int) (bg tk : Int) (sz : Nat) (hg1 : 0 ≤ bg ∧ bg ≤ 1000000 ∧ bg % 12 = 0) (ht1 : 12 ≤ tk ∧ tk ≤ 672 ∧ tk % 12 = 0) (hb1 : 48 ≤ F 2 ∧ F 2 ≤ 2304 ∧ F 2 % 12 = 0) : MW l yX2_planPieces cX2_planPieces 7 (some .int) 1 21 (0) (0) G [.ref (ad 0), .int (zI (bg)), .int (zI (tk))] (fA 94 ad sz) sz (CP G ad F A E T P S Av Fv) (QW (fA 94 ad sz) (fun r H => r = ppN (F 2) tk (F 2 - (bg - bg / F 2 * F 2)) (A 1) ∧ (1 ≤ r ∧ r ≤ 56) ∧ CP G ad F (zW A 1 (ppF (F 2) tk (F 2 - (bg - bg / F 2 * F 2)) (A 1) r).2.2) E T P S Av Fv H)) := by
  refine mw_of hp_X2_planPieces (Nat.le_of_ble_eq_true rfl) ?_
  intro p env s m below meth c ls hB hsz hP hl
  obtain ⟨hx, hb, hml, hr, hlk, hown, hts, hG⟩ := hB
  subst hsz
  have hK := hG.1
  have hS : va_S (fA 94 ad s.heap.size) s.heap s.heap [] := va_S.rf
  have hA : ∀ q : Nat, (fA 94 ad s.heap.size) q → G.2.2 ≤ q := fA_lo hP.1.2 hG.2.1
  have hD : ∀ k, k < 94 → (fA 94 ad s.heap.size) (ad k) := fun k hk => fA_in hk
  have hl : lv_has ls 7 [(0, .ref (ad 0)), (1, .int (zI (bg))), (2, .int (zI (tk)))] := hl
  have hlb : 12 ≤ (F 2 - (bg - bg / F 2 * F 2)) ∧ (F 2 - (bg - bg / F 2 * F 2)) ≤ F 2 ∧ (F 2 - (bg - bg / F 2 * F 2)) % 12 = 0 := by
    have e1 := Int.lt_ediv_add_one_mul_self bg (b := F 2) (by omega)
    have e2 := Int.ediv_mul_le bg (b := F 2) (by omega)
    have e3 : (bg / F 2 + 1) * F 2 = bg / F 2 * F 2 + F 2 := by rw [Int.add_mul, Int.one_mul]
    obtain ⟨y, hy⟩ : ∃ y, F 2 = 12 * y := ⟨F 2 / 12, by omega⟩
    have e4 : bg / F 2 * F 2 = 12 * (bg / F 2 * y) := by rw [show bg / F 2 * F 2 = bg / F 2 * (12 * y) by rw [← hy], Int.mul_left_comm]
    generalize bg / F 2 * y = z at e4
    omega
  refine lv_iload_n hx hb dX2_planPieces_0 rfl (lv_at hl 2 rfl) ?_
  refine lv_istore_n (lv' := [(3, .int (zI (tk))), (0, .ref (ad 0)), (1, .int (zI (bg))), (2, .int (zI (tk)))]) hx hb dX2_planPieces_1 rfl hl (by decide) rfl (fun ls hl => ?_)
  refine lv_aload_n hx hb dX2_planPieces_2 rfl (lv_at hl 1 rfl) ?_
  refine zs_get hx hb hK hts hown hP 5 (by decide) q_fl_RX2_33 (v := .int (zI (F 2))) rfl dX2_planPieces_3 ?_
  refine lv_iload_n hx hb dX2_planPieces_6 rfl (lv_at hl 2 rfl) ?_
  refine lv_iload_n hx hb dX2_planPieces_7 rfl (lv_at hl 2 rfl) ?_
  refine lv_aload_n hx hb dX2_planPieces_8 rfl (lv_at hl 1 rfl) ?_
  refine zs_get hx hb hK hts hown hP 5 (by decide) q_fl_RX2_33 (v := .int (zI (F 2))) rfl dX2_planPieces_9 ?_
  refine k_R (c_SR (As := [.int (zI (bg)), .int (zI (F 2))]) (rest := [.int (zI (bg)), .int (zI (F 2))]) ⟨hx, hb, hml, hown, hts⟩ hG hS hA (c_X2_wholeParts l G bg (F 2) (show 0 ≤ bg ∧ bg ≤ 2147483647 by omega) (show 0 < (F 2) ∧ (F 2) ≤ 2147483647 by omega)) ⟨q_ml_RX2_168, q_st_X2_wholeParts, q_ini_RX2, q_code_X2_wholeParts⟩ hs_X2_wholeParts trivial ⟨by decide, by decide⟩ ⟨Nat.zero_le _, Nat.zero_le _⟩ rfl hl.1 rfl (Nat.le_of_ble_eq_true rfl) dX2_planPieces_12) ?_
  refine lv_aload_n hx hb dX2_planPieces_15 rfl (lv_at hl 1 rfl) ?_
  refine zs_get hx hb hK hts hown hP 5 (by decide) q_fl_RX2_33 (v := .int (zI (F 2))) rfl dX2_planPieces_16 ?_
  refine z_imul (x := bg / (F 2)) (y := F 2) hx hb dX2_planPieces_19 ?_
  refine z_isub (x := bg) (y := (bg / (F 2)) * (F 2)) hx hb dX2_planPieces_20 ?_
  refine z_isub (x := F 2) (y := (bg) - ((bg / (F 2)) * (F 2))) hx hb dX2_planPieces_21 ?_
  refine lv_istore (lv' := [(4, .int (zI ((F 2) - ((bg) - ((bg / (F 2)) * (F 2)))))), (3, .int (zI (tk))), (0, .ref (ad 0)), (1, .int (zI (bg))), (2, .int (zI (tk)))]) hx hb dX2_planPieces_22 hl (by decide) rfl (fun ls hl => ?_)
  refine z_iconst hx hb dX2_planPieces_24 ?_
  refine lv_istore (lv' := [(5, .int (zI (0))), (4, .int (zI ((F 2) - ((bg) - ((bg / (F 2)) * (F 2)))))), (3, .int (zI (tk))), (0, .ref (ad 0)), (1, .int (zI (bg))), (2, .int (zI (tk)))]) hx hb dX2_planPieces_25 hl (by decide) rfl (fun ls hl => ?_)
  have hP : CP G ad F (zW A 1 (A 1)) E T P S Av Fv s.heap := by rw [zW_id]; exact hP
  have lp_27 : ∀ (n : Nat) (q a b : Int) (pc : Int → Int), 0 ≤ q → ppF (F 2) tk (F 2 - (bg - bg / F 2 * F 2)) (A 1) q = (a, b, pc) → fp (fun n => (ppF (F 2) tk (F 2 - (bg - bg / F 2 * F 2)) (A 1) n).1 ≤ 0) q = q → (0 ≤ a ∧ a ≤ tk - 12 * q ∧ a % 12 = 0) → (12 ≤ b ∧ b ≤ F 2 ∧ b % 12 = 0) → 57 - q < n → ∀ (H : Heap) (locs : List Loc), CP G ad F (zW A 1 pc) E T P S Av Fv H → va_S (fA 94 ad s.heap.size) s.heap H locs → ∀ (ls : Array Slot), lv_has ls 7 [(5, .int (zI (q))), (4, .int (zI (b))), (3, .int (zI (a))), (0, .ref (ad 0))] → W p l env (rmz 1 21 0 0) s m (([.ref (ad 0), .int (zI (bg)), .int (zI (tk))] : List Value).toArray) below meth c H locs 0 0 (MQ below (QW (fA 94 ad s.heap.size) (fun r H => r = ppN (F 2) tk (F 2 - (bg - bg / F 2 * F 2)) (A 1) ∧ (1 ≤ r ∧ r ≤ 56) ∧ CP G ad F (zW A 1 (ppF (F 2) tk (F 2 - (bg - bg / F 2 * F 2)) (A 1) r).2.2) E T P S Av Fv H)) (([.ref (ad 0), .int (zI (bg)), .int (zI (tk))] : List Value).toArray) s 0 0 (fA 94 ad s.heap.size)) (F0 m 27 ls []) := by
    intro n
    induction n with
    | zero => intro q a b pc h0 h2 hfp ha hbb hm H locs hP hS ls hl; exact absurd hm (by omega)
    | succ n ih =>
      intro q a b pc h0 h2 hfp ha hbb hm H locs hP hS ls hl
      have hs := ppF_s (F 2) tk (F 2 - (bg - bg / F 2 * F 2)) (A 1) h0
      refine lv_iload_n hx hb dX2_planPieces_27 rfl (lv_at hl 2 rfl) ?_
      refine z_if_le (a := a) (tgt := 95) hx hb dX2_planPieces_28 (by decide) (by omega) (fun h_28 => ?_) (fun h_28 => ?_)
      · skip
        refine lv_iload hx hb dX2_planPieces_95 (lv_at hl 0 rfl) ?_
        have hq1 : 1 ≤ q := by
          rcases (by omega : q = 0 ∨ 1 ≤ q) with z | z
          · rw [z] at h2
            have h3 : tk = a := congrArg Prod.fst h2
            omega
          · exact z
        exact e_Wi (r := q) hx hb hr hlk (n_i _) hS (by omega) (by omega) ⟨(ppN_eq h0 hfp (by rw [h2]; show a ≤ 0; omega) (by omega)).symm, (by omega), (by rw [h2]; exact hP)⟩ dX2_planPieces_97
      · skip
        refine lv_iload hx hb dX2_planPieces_31 (lv_at hl 0 rfl) ?_
        refine z_bipush hx hb dX2_planPieces_33 (by decide) ?_
        refine z_icmp_ge (a := q) (b := 56) (tgt := 95) hx hb dX2_planPieces_35 (by decide) (by omega) (by omega) (fun h_35 => ?_) (fun h_35 => ?_)
        · skip
          refine lv_iload hx hb dX2_planPieces_95 (lv_at hl 0 rfl) ?_
          have hq1 : 1 ≤ q := by
            rcases (by omega : q = 0 ∨ 1 ≤ q) with z | z
            · rw [z] at h2
              have h3 : tk = a := congrArg Prod.fst h2
              omega
            · exact z
          exact e_Wi (r := q) hx hb hr hlk (n_i _) hS (by omega) (by omega) ⟨(ppN_eq h0 hfp (by rw [h2]; show a ≤ 0; omega) (by omega)).symm, (by omega), (by rw [h2]; exact hP)⟩ dX2_planPieces_97
        · skip
          refine lv_iload_n hx hb dX2_planPieces_38 rfl (lv_at hl 2 rfl) ?_
          refine lv_iload hx hb dX2_planPieces_39 (lv_at hl 1 rfl) ?_
          refine k_R (c_SR (As := [.int (zI (a)), .int (zI (b))]) (rest := []) ⟨hx, hb, hml, hown, hts⟩ hG hS hA (c_J9_min_7cf53 l G a b (show -2147483648 ≤ a ∧ a ≤ 2147483647 by omega) (show -2147483648 ≤ b ∧ b ≤ 2147483647 by omega)) ⟨q_ml_RX2_239, q_st_J9_min_7cf53, q_ini_RJ9, q_code_J9_min_7cf53⟩ hs_J9_min_7cf53 trivial ⟨by decide, by decide⟩ ⟨Nat.zero_le _, Nat.zero_le _⟩ rfl hl.1 rfl (Nat.le_of_ble_eq_true rfl) dX2_planPieces_41) ?_
          refine k_R (c_SR (As := [.int (zI (min a b))]) (rest := []) ⟨hx, hb, hml, hown, hts⟩ hG hS hA (c_X2_greatestValue l G (min a b) (show -2147483648 ≤ (min a b) ∧ (min a b) ≤ 2147483647 by omega)) ⟨q_ml_RX2_242, q_st_X2_greatestValue, q_ini_RX2, q_code_X2_greatestValue⟩ hs_X2_greatestValue trivial ⟨by decide, by decide⟩ ⟨Nat.zero_le _, Nat.zero_le _⟩ rfl hl.1 rfl (Nat.le_of_ble_eq_true rfl) dX2_planPieces_44) ?_
          have hgv := gV_ok (t := min a b) (by omega)
          obtain ⟨v, hv9⟩ : ∃ v, v = gV (min a b) := ⟨_, rfl⟩
          rw [← hv9] at hgv ⊢
          have hvr := valT_rng hgv.1
          have hv12 := valT_12' hgv.1
          refine lv_istore (lv' := [(6, .int (zI (v))), (5, .int (zI (q))), (4, .int (zI (b))), (3, .int (zI (a))), (0, .ref (ad 0))]) hx hb dX2_planPieces_47 hl (by decide) rfl (fun ls hl => ?_)
          refine lv_aload_n hx hb dX2_planPieces_49 rfl (lv_at hl 4 rfl) ?_
          refine zs_get hx hb hK hts hown hP 2 (by decide) q_fl_RX2_22 (v := .ref (ad 9)) rfl dX2_planPieces_50 ?_
          refine lv_iload hx hb dX2_planPieces_53 (lv_at hl 1 rfl) ?_
          refine lv_iload hx hb dX2_planPieces_55 (lv_at hl 0 rfl) ?_
          refine zs_sA1 (x := v) hx hb hK hP hS (hD 9 (by decide)) (i := q) (by omega) dX2_planPieces_57 (fun H locs hP hz ho hS => ?_)
          rw [zW_R] at hP
          refine z_iinc (lv' := [(5, .int (zI (q + 1))), (6, .int (zI (v))), (4, .int (zI (b))), (3, .int (zI (a))), (0, .ref (ad 0))]) hx hb dX2_planPieces_58 hl (k := 1) rfl (by decide) rfl (fun ls hl => ?_)
          refine lv_iload_n hx hb dX2_planPieces_61 rfl (lv_at hl 3 rfl) ?_
          refine z_gets hx hb hG hts hS hA (own := RX2) (C := "ScorePress") (n := "VALUE_TICKS") (vs := [672, 576, 384, 336, 288, 192, 168, 144, 96, 84, 72, 48, 36, 24, 12]) (index := 90) (by decide) hown q_fl_RX2_90 dX2_planPieces_62 (fun t_1 ht_1 => ?_)
          refine lv_iload hx hb dX2_planPieces_65 (lv_at hl 1 rfl) ?_
          refine z_tld (vs := [672, 576, 384, 336, 288, 192, 168, 144, 96, 84, 72, 48, 36, 24, 12]) hx hb ht_1 hS (i := v) (by have h9 : ([672, 576, 384, 336, 288, 192, 168, 144, 96, 84, 72, 48, 36, 24, 12] : List Int).length = 15 := rfl; omega) (by decide) dX2_planPieces_67 ?_
          refine z_isub (x := a) (y := valT v) hx hb dX2_planPieces_68 ?_
          refine lv_istore_n (lv' := [(3, .int (zI ((a) - (valT v)))), (5, .int (zI (q + 1))), (6, .int (zI (v))), (4, .int (zI (b))), (0, .ref (ad 0))]) hx hb dX2_planPieces_69 rfl hl (by decide) rfl (fun ls hl => ?_)
          refine lv_iload hx hb dX2_planPieces_70 (lv_at hl 3 rfl) ?_
          refine z_gets hx hb hG hts hS hA (own := RX2) (C := "ScorePress") (n := "VALUE_TICKS") (vs := [672, 576, 384, 336, 288, 192, 168, 144, 96, 84, 72, 48, 36, 24, 12]) (index := 90) (by decide) hown q_fl_RX2_90 dX2_planPieces_72 (fun t_2 ht_2 => ?_)
          refine lv_iload hx hb dX2_planPieces_75 (lv_at hl 2 rfl) ?_
          refine z_tld (vs := [672, 576, 384, 336, 288, 192, 168, 144, 96, 84, 72, 48, 36, 24, 12]) hx hb ht_2 hS (i := v) (by have h9 : ([672, 576, 384, 336, 288, 192, 168, 144, 96, 84, 72, 48, 36, 24, 12] : List Int).length = 15 := rfl; omega) (by decide) dX2_planPieces_77 ?_
          refine z_isub (x := b) (y := valT v) hx hb dX2_planPieces_78 ?_
          refine lv_istore (lv' := [(4, .int (zI ((b) - (valT v)))), (3, .int (zI ((a) - (valT v)))), (5, .int (zI (q + 1))), (6, .int (zI (v))), (0, .ref (ad 0))]) hx hb dX2_planPieces_79 hl (by decide) rfl (fun ls hl => ?_)
          refine lv_iload hx hb dX2_planPieces_81 (lv_at hl 0 rfl) ?_
          refine z_if_gt (a := (b) - (valT v)) (tgt := 92) hx hb dX2_planPieces_83 (by decide) (by omega) (fun h_83 => ?_) (fun h_83 => ?_)
          · skip
            refine lv_goto (tgt := 27) hx hb dX2_planPieces_92 (by decide) ?_
            have hst : ppF (F 2) tk (F 2 - (bg - bg / F 2 * F 2)) (A 1) (q + 1) = ((a) - (valT v), (b) - (valT v), zU pc q v) := by
              rw [hs, h2]
              show (a - valT (gV (min a b)), (if b - valT (gV (min a b)) ≤ 0 then F 2 else b - valT (gV (min a b))), zU pc q (gV (min a b))) = _
              rw [← hv9]
              first | rw [if_pos (by omega)] | rw [if_neg (by omega)]
            exact ih (q + 1) ((a) - (valT v)) ((b) - (valT v)) _ (by omega) hst (fp_no h0 hfp (by rw [h2]; show ¬ a ≤ 0; omega)) (by omega) (by omega) (by omega) H _ hP hS _ (lv_sub hl [2, 0, 1, 4] rfl)
          · skip
            refine lv_aload_n hx hb dX2_planPieces_86 rfl (lv_at hl 4 rfl) ?_
            refine zs_get hx hb hK hts hown hP 5 (by decide) q_fl_RX2_33 (v := .int (zI (F 2))) rfl dX2_planPieces_87 ?_
            refine lv_istore (lv' := [(4, .int (zI (F 2))), (3, .int (zI ((a) - (valT v)))), (5, .int (zI (q + 1))), (6, .int (zI (v))), (0, .ref (ad 0))]) hx hb dX2_planPieces_90 hl (by decide) rfl (fun ls hl => ?_)
            refine lv_goto (tgt := 27) hx hb dX2_planPieces_92 (by decide) ?_
            have hst : ppF (F 2) tk (F 2 - (bg - bg / F 2 * F 2)) (A 1) (q + 1) = ((a) - (valT v), F 2, zU pc q v) := by
              rw [hs, h2]
              show (a - valT (gV (min a b)), (if b - valT (gV (min a b)) ≤ 0 then F 2 else b - valT (gV (min a b))), zU pc q (gV (min a b))) = _
              rw [← hv9]
              first | rw [if_pos (by omega)] | rw [if_neg (by omega)]
            exact ih (q + 1) ((a) - (valT v)) (F 2) _ (by omega) hst (fp_no h0 hfp (by rw [h2]; show ¬ a ≤ 0; omega)) (by omega) (by omega) (by omega) H _ hP hS _ (lv_sub hl [2, 0, 1, 4] rfl)
  exact lp_27 58 0 tk (F 2 - (bg - bg / F 2 * F 2)) (A 1) (by omega) rfl (fp_0 _) (by omega) hlb (by omega) s.heap _ hP hS _ (lv_sub hl [0, 1, 2, 3] rfl)
