/-- all voices are arranged anew -/
def arA (G : zG) (ad : Nat → Nat) (F : Nat → Int) (A E : Nat → Int → Int) (T P S Av : Int → Nat → Int → Int) (Fv : Int → Nat → Int) (H : Heap) : Prop := CP G ad (zN F 4 0) A E (upV (fun v => arT (T v) (P v) (Av v) (Fv v 0) (F 3) (F 1)) T (F 0)) P (upV (fun v => (arSo (T v) (S v) (Fv v 0)).2) S (F 0)) (upV (fun v => (arSg (T v) (P v) (Av v) (Fv v 0) (F 3)).2.1) Av (F 0)) (upV (fun v => arF (T v) (P v) (S v) (Av v) (Fv v) (Fv v 0) (F 3) (F 1)) Fv (F 0)) H
set_option maxHeartbeats 2000000 in
theorem c_X2_setKey (l : Launch) (G : zG) (ad : Nat → Nat) (F : Nat → Int) (A E : Nat → Int → Int) (T P S Av : Int → Nat → Int → Int) (Fv : Int → Nat → Int) (k : Int) (sz : Nat) (hst : l.stackTraces = false) (r_k : -2147483648 ≤ k ∧ k ≤ 2147483647) (hb99 : 0 < F 1 ∧ F 1 ≤ 1000000) (hVo : ∀ v, 0 ≤ v → v < 4 → VOK (T v) (P v) (Fv v 0)) (hVA : ∀ v, 0 ≤ v → v < 4 → ∀ p, 0 ≤ p → p < 63 → -2 ≤ Av v 1 p ∧ Av v 1 p ≤ 2) (hVC : COK F Fv) : MX l yX2_setKey cX2_setKey 3 (some .int) 6 130 (1) (6) G [.ref (ad 0), .int (zI (k))] (fA 94 ad sz) sz (CP G ad F A E T P S Av Fv) (QW (fA 94 ad sz) (fun r H => r = F 3 ∧ (-7 ≤ k ∧ k ≤ 7) ∧ arA G ad (zN F 3 k) A E T P S Av Fv H)) (fun E9 H => ((E9 = xIA ∧ ¬ (-7 ≤ k ∧ k ≤ 7))) ∧ CP G ad F A E T P S Av Fv H) := by
  refine mx_of hp_X2_setKey (Nat.le_of_ble_eq_true rfl) ?_
  intro p env s m below meth c ls hB hnt hsz hP hl
  obtain ⟨hx, hb, hml, hr, hlk, hown, hts, hG⟩ := hB
  subst hsz
  have hK := hG.1
  have hS : va_S (fA 94 ad s.heap.size) s.heap s.heap [] := va_S.rf
  have hA : ∀ q : Nat, (fA 94 ad s.heap.size) q → G.2.2 ≤ q := fA_lo hP.1.2 hG.2.1
  have hD : ∀ k, k < 94 → (fA 94 ad s.heap.size) (ad k) := fun k hk => fA_in hk
  have hl : lv_has ls 3 [(0, .ref (ad 0)), (1, .int (zI (k)))] := hl
  have h0b := hVC.1
  refine lv_iload_n hx hb dX2_setKey_0 rfl (lv_at hl 1 rfl) ?_
  refine k_R (c_SR (As := [.int (zI (k))]) (rest := []) ⟨hx, hb, hml, hown, hts⟩ hG hS hA (c_X2_isKey l G k (show -2147483648 ≤ k ∧ k ≤ 2147483647 by omega)) ⟨q_ml_RX2_60, q_st_X2_isKey, q_ini_RX2, q_code_X2_isKey⟩ hs_X2_isKey trivial ⟨Nat.le_of_ble_eq_true rfl, Nat.le_of_ble_eq_true rfl⟩ ⟨Nat.le_of_ble_eq_true rfl, Nat.le_of_ble_eq_true rfl⟩ rfl hl.1 rfl (Nat.le_of_ble_eq_true rfl) dX2_setKey_1) ?_
  refine z_bif_ne (q := -7 ≤ k ∧ k ≤ 7) (tgt := 17) hx hb dX2_setKey_4 (by decide) (fun h_4 => ?_) (fun h_4 => ?_)
  · skip
    refine lv_aload_n hx hb dX2_setKey_17 rfl (lv_at hl 0 rfl) ?_
    refine zs_get hx hb hK hts hown hP 6 (by decide) q_fl_RX2_36 (v := .int (zI (F 3))) rfl dX2_setKey_18 ?_
    refine lv_istore_n (lv' := [(2, .int (zI (F 3))), (0, .ref (ad 0)), (1, .int (zI (k)))]) hx hb dX2_setKey_21 rfl hl (by decide) rfl (fun ls hl => ?_)
    refine lv_aload_n hx hb dX2_setKey_22 rfl (lv_at hl 1 rfl) ?_
    refine lv_iload_n hx hb dX2_setKey_23 rfl (lv_at hl 2 rfl) ?_
    refine zs_put (x := k) hx hb hK hts hown hP hS (hD 0 (by decide)) 3 (by decide) (Or.inl (by decide)) q_fl_RX2_36 dX2_setKey_24 (fun H locs hP hz ho hS => ?_)
    refine lv_aload_n hx hb dX2_setKey_27 rfl (lv_at hl 1 rfl) ?_
    refine k_Wv (c_VW (As := []) (rest := []) ⟨hx, hb, hml, hown, hts⟩ hG hS hA (c_X2_arrangeAll l G ad (zN F 3 (k)) A E T P S Av Fv H.size (show -7 ≤ k ∧ k ≤ 7 by omega) (show 0 < F 1 ∧ F 1 ≤ 1000000 by omega) (fun v q0 q1 => have q2 : v < 4 := Int.lt_of_lt_of_le q1 h0b.2; ⟨hVo v q0 q2, hVA v q0 q2⟩) ⟨hVC.1, hVC.2⟩) ⟨q_ml_RX2_66, q_im_X2_arrangeAll, q_sel_X2_arrangeAll, q_ini_RX2, q_code_X2_arrangeAll⟩ hv_X2_arrangeAll (CP.rec hK hP) hP ⟨Nat.le_of_ble_eq_true rfl, Nat.le_of_ble_eq_true rfl⟩ ⟨Nat.le_of_ble_eq_true rfl, Nat.le_of_ble_eq_true rfl⟩ rfl hl.1 rfl (Nat.le_of_ble_eq_true rfl) dX2_setKey_28) hS (fA_mono hS.1) (fun H1 locs1 hq hz1 hk1 hS => ?_)
    have hQ : arA G ad (zN F 3 k) A E T P S Av Fv H1 := hq
    refine lv_iload_n hx hb dX2_setKey_31 rfl (lv_at hl 0 rfl) ?_
    exact vx_ret (e_Wi (r := F 3) hx hb hr hlk (n_i _) hS (by omega) (by omega) ⟨rfl, by omega, hQ⟩ dX2_setKey_32)
  · skip
    exact z_thrIA hx hb hst hown hts hG hnt hS hA (text := "no such key") (is := 64) (by decide +kernel) dX2_setKey_7 dX2_setKey_10 dX2_setKey_11 dX2_setKey_13 dX2_setKey_16 (hl.1.trans hml.symm) ⟨by decide, by decide, by (show 0 + 1 ≤ _; first | exact Nat.le_of_ble_eq_true rfl | omega), by (show 0 + 6 ≤ _; first | exact Nat.le_of_ble_eq_true rfl | omega)⟩ hlk (fun H1 q1 q2 => ⟨(by first | exact ⟨rfl, by omega⟩), hP.grow q2⟩) (by first | exact Nat.le_of_ble_eq_true rfl | omega) (by first | exact Nat.le_of_ble_eq_true rfl | omega)
abbrev trV (T P : Int → Nat → Int → Int) (Fv : Int → Nat → Int) (x y v : Int) : Prop := fp (trB (T v 4) (P v 0) (P v 2) x y) (Fv v 0) < Fv v 0
theorem mvF_ok {T P : Nat → Int → Int} {n u v : Int} (h : VOK T P n) (hb : ∀ i, 0 ≤ i → i < n → ¬ trB (T 4) (P 0) (P 2) u v i) : VOK (zW T 4 (mvF u v (T 4) P n).1) (mvF u v (T 4) P n).2 n := by
  have q : ∀ i, 0 ≤ i → i ≤ n → (∀ j, 0 ≤ j → j < n → -1 ≤ (mvF u v (T 4) P i).1 j ∧ (mvF u v (T 4) P i).1 j ≤ 1000) ∧ (∀ j, 0 ≤ j → j < 200 → 0 ≤ (mvF u v (T 4) P i).2 0 j ∧ (mvF u v (T 4) P i).2 0 j < 7 ∧ -2 ≤ (mvF u v (T 4) P i).2 1 j ∧ (mvF u v (T 4) P i).2 1 j ≤ 2 ∧ 0 ≤ (mvF u v (T 4) P i).2 2 j ∧ (mvF u v (T 4) P i).2 2 j < 9) := by
    intro i h0
    obtain ⟨k, rfl⟩ : ∃ k : Nat, i = (k : Int) := ⟨i.toNat, by omega⟩
    induction k with
    | zero =>
      intro _
      refine ⟨fun j q0 q1 => ?_, fun j q0 q1 => h.2.2.2 j q0 q1⟩
      have := h.2.2.1 j q0 q1
      show -1 ≤ T 4 j ∧ T 4 j ≤ 1000
      omega
    | succ k ih =>
      intro hk
      obtain ⟨i1, i2⟩ := ih (by omega) (by omega)
      have off := mvF_off (u := u) (v := v) (tn := T 4) (P := P) (i := (k : Int)) (by omega) (k : Int) (Int.le_refl _)
      have hbk := hb (k : Int) (by omega) (by omega)
      rw [show ((k + 1 : Nat) : Int) = (k : Int) + 1 by omega, show mvF u v (T 4) P ((k : Int) + 1) = mvS u v (k : Int) (mvF u v (T 4) P (k : Int)) from pf_s _ _ (by omega)]
      generalize mvF u v (T 4) P (k : Int) = z at i1 i2 off
      unfold mvS
      by_cases c : z.1 (k : Int) = -1
      · rw [if_pos c]; exact ⟨i1, i2⟩
      · rw [if_neg c, off.2 0, off.2 2, off.1]
        rw [off.1] at c
        have hok : okP ((7 * P 2 (k : Int) + P 0 (k : Int) + u) % 7) (T 4 (k : Int) + v - toneF ((7 * P 2 (k : Int) + P 0 (k : Int) + u) % 7) 0 ((7 * P 2 (k : Int) + P 0 (k : Int) + u) / 7)) ((7 * P 2 (k : Int) + P 0 (k : Int) + u) / 7) := Decidable.byContradiction fun q => hbk ⟨c, q⟩
        generalize (7 * P 2 (k : Int) + P 0 (k : Int) + u) % 7 = st at hok
        generalize (7 * P 2 (k : Int) + P 0 (k : Int) + u) / 7 = oc at hok
        generalize T 4 (k : Int) + v - toneF st 0 oc = sg at hok
        obtain ⟨o1, o2, o3, o4, o5, o6, o7⟩ := hok
        have hs := stepT_rng (k := st) ⟨o1, o2⟩
        have ht : toneF st sg oc = 12 * oc + stepT st + sg := rfl
        refine ⟨fun j q0 q1 => ?_, fun j q0 q1 => ?_⟩
        · show -1 ≤ zU z.1 (k : Int) (toneF st sg oc) j ∧ zU z.1 (k : Int) (toneF st sg oc) j ≤ 1000
          by_cases e : j = (k : Int)
          · rw [e, zU_s]; omega
          · rw [zU_n e]; exact i1 j q0 q1
        · have q9 := i2 j q0 q1
          by_cases e : j = (k : Int)
          · subst e
            simp only [zR]
            simp
            omega
          · have e' : ∀ w, zR (zR (zR z.2 0 (k : Int) st) 1 (k : Int) sg) 2 (k : Int) oc w j = z.2 w j := fun w => by rw [zR_n (Or.inr e), zR_n (Or.inr e), zR_n (Or.inr e)]
            simp only [e']
            exact q9
  obtain ⟨q1, q2⟩ := q n h.1 (Int.le_refl n)
  refine ⟨h.1, h.2.1, fun i h0 h1 => ?_, q2⟩
  have a := h.2.2.1 i h0 h1
  have b := q1 i h0 h1
  have e : ∀ w : Nat, w ≠ 4 → zW T 4 (mvF u v (T 4) P n).1 w = T w := fun w hw => zW_n _ hw
  rw [e 0 (by decide), e 1 (by decide), e 2 (by decide), e 3 (by decide), e 5 (by decide), e 6 (by decide), zW_s]
  omega
theorem fp_at {q : Int → Prop} [DecidablePred q] {n i : Int} (h0 : 0 ≤ i) (h : fp q n = n) (h1 : i < n) : ¬ q i := by
  have b := fp_spec (q := q) (n := n) (by omega)
  exact b.2 i h0 (by omega)
theorem trV_of {T P : Int → Nat → Int → Int} {Fv : Int → Nat → Int} {x y v i : Int} (h0 : 0 ≤ i) (h1 : i < Fv v 0) (h : trB (T v 4) (P v 0) (P v 2) x y i) : trV T P Fv x y v := by
  have a := fp_le (q := trB (T v 4) (P v 0) (P v 2) x y) (n := Fv v 0) (by omega)
  have b := fp_spec (q := trB (T v 4) (P v 0) (P v 2) x y) (n := Fv v 0) (by omega)
  rcases (by omega : fp (trB (T v 4) (P v 0) (P v 2) x y) (Fv v 0) < Fv v 0 ∨ i < fp (trB (T v 4) (P v 0) (P v 2) x y) (Fv v 0)) with z | z
  · exact z
  · exact absurd h (b.2 i h0 z)
abbrev trT (T P : Int → Nat → Int → Int) (Fv : Int → Nat → Int) (x y : Int) : Int → Nat → Int → Int := fun v => zW (T v) 4 (mvF x y (T v 4) (P v) (Fv v 0)).1
abbrev trP (T P : Int → Nat → Int → Int) (Fv : Int → Nat → Int) (x y : Int) : Int → Nat → Int → Int := fun v => (mvF x y (T v 4) (P v) (Fv v 0)).2
set_option maxHeartbeats 2000000 in
theorem c_X2_transpose (l : Launch) (G : zG) (ad : Nat → Nat) (F : Nat → Int) (A E : Nat → Int → Int) (T P S Av : Int → Nat → Int → Int) (Fv : Int → Nat → Int) (x y : Int) (sz : Nat) (hst : l.stackTraces = false) (r_x : -2147483648 ≤ x ∧ x ≤ 2147483647) (r_y : -2147483648 ≤ y ∧ y ≤ 2147483647) (hk9 : -7 ≤ F 3 ∧ F 3 ≤ 7) (hb99 : 0 < F 1 ∧ F 1 ≤ 1000000) (hVo : ∀ v, 0 ≤ v → v < 4 → VOK (T v) (P v) (Fv v 0)) (hVA : ∀ v, 0 ≤ v → v < 4 → ∀ p, 0 ≤ p → p < 63 → -2 ≤ Av v 1 p ∧ Av v 1 p ≤ 2) (hVC : COK F Fv) : MX l yX2_transpose cX2_transpose 5 (some .int) 6 130 (1) (6) G [.ref (ad 0), .int (zI (x)), .int (zI (y))] (fA 94 ad sz) sz (CP G ad F A E T P S Av Fv) (QW (fA 94 ad sz) (fun r H => r = (F 3 + 7 * y - 12 * x) ∧ (-14 ≤ x ∧ x ≤ 14 ∧ -24 ≤ y ∧ y ≤ 24) ∧ (-7 ≤ (F 3 + 7 * y - 12 * x) ∧ (F 3 + 7 * y - 12 * x) ≤ 7) ∧ ¬ fp (trV T P Fv x y) (F 0) < F 0 ∧ arA G ad (zN F 3 (F 3 + 7 * y - 12 * x)) A E (upV (trT T P Fv x y) T (F 0)) (upV (trP T P Fv x y) P (F 0)) S Av Fv H)) (fun E9 H => ((E9 = xIA ∧ ¬ (-14 ≤ x ∧ x ≤ 14 ∧ -24 ≤ y ∧ y ≤ 24)) ∨ (E9 = xIS ∧ (-14 ≤ x ∧ x ≤ 14 ∧ -24 ≤ y ∧ y ≤ 24) ∧ ((-7 ≤ (F 3 + 7 * y - 12 * x) ∧ (F 3 + 7 * y - 12 * x) ≤ 7) → fp (trV T P Fv x y) (F 0) < F 0))) ∧ CP G ad F A E T P S Av Fv H) := by
  refine mx_of hp_X2_transpose (Nat.le_of_ble_eq_true rfl) ?_
  intro p env s m below meth c ls hB hnt hsz hP hl
  obtain ⟨hx, hb, hml, hr, hlk, hown, hts, hG⟩ := hB
  subst hsz
  have hK := hG.1
  have hS : va_S (fA 94 ad s.heap.size) s.heap s.heap [] := va_S.rf
  have hA : ∀ q : Nat, (fA 94 ad s.heap.size) q → G.2.2 ≤ q := fA_lo hP.1.2 hG.2.1
  have hD : ∀ k, k < 94 → (fA 94 ad s.heap.size) (ad k) := fun k hk => fA_in hk
  have hl : lv_has ls 5 [(0, .ref (ad 0)), (1, .int (zI (x))), (2, .int (zI (y)))] := hl
  have h0b := hVC.1
  refine lv_iload_n hx hb dX2_transpose_0 rfl (lv_at hl 1 rfl) ?_
  refine z_bipush hx hb dX2_transpose_1 (by decide) ?_
  refine z_icmp_lt (a := x) (b := -14) (tgt := 24) hx hb dX2_transpose_3 (by decide) (by omega) (by omega) (fun h_3 => ?_) (fun h_3 => ?_)
  · skip
    exact z_thrIA hx hb hst hown hts hG hnt hS hA (text := "too far to transpose") (is := 152) (by decide +kernel) dX2_transpose_24 dX2_transpose_27 dX2_transpose_28 dX2_transpose_30 dX2_transpose_33 (hl.1.trans hml.symm) ⟨by decide, by decide, by (show 0 + 1 ≤ _; first | exact Nat.le_of_ble_eq_true rfl | omega), by (show 0 + 6 ≤ _; first | exact Nat.le_of_ble_eq_true rfl | omega)⟩ hlk (fun H1 q1 q2 => ⟨Or.inl ⟨rfl, by omega⟩, hP.grow q2⟩) (by first | exact Nat.le_of_ble_eq_true rfl | omega) (by first | exact Nat.le_of_ble_eq_true rfl | omega)
  · skip
    refine lv_iload_n hx hb dX2_transpose_6 rfl (lv_at hl 1 rfl) ?_
    refine z_bipush hx hb dX2_transpose_7 (by decide) ?_
    refine z_icmp_gt (a := x) (b := 14) (tgt := 24) hx hb dX2_transpose_9 (by decide) (by omega) (by omega) (fun h_9 => ?_) (fun h_9 => ?_)
    · skip
      exact z_thrIA hx hb hst hown hts hG hnt hS hA (text := "too far to transpose") (is := 152) (by decide +kernel) dX2_transpose_24 dX2_transpose_27 dX2_transpose_28 dX2_transpose_30 dX2_transpose_33 (hl.1.trans hml.symm) ⟨by decide, by decide, by (show 0 + 1 ≤ _; first | exact Nat.le_of_ble_eq_true rfl | omega), by (show 0 + 6 ≤ _; first | exact Nat.le_of_ble_eq_true rfl | omega)⟩ hlk (fun H1 q1 q2 => ⟨Or.inl ⟨rfl, by omega⟩, hP.grow q2⟩) (by first | exact Nat.le_of_ble_eq_true rfl | omega) (by first | exact Nat.le_of_ble_eq_true rfl | omega)
    · skip
      refine lv_iload_n hx hb dX2_transpose_12 rfl (lv_at hl 2 rfl) ?_
      refine z_bipush hx hb dX2_transpose_13 (by decide) ?_
      refine z_icmp_lt (a := y) (b := -24) (tgt := 24) hx hb dX2_transpose_15 (by decide) (by omega) (by omega) (fun h_15 => ?_) (fun h_15 => ?_)
      · skip
        exact z_thrIA hx hb hst hown hts hG hnt hS hA (text := "too far to transpose") (is := 152) (by decide +kernel) dX2_transpose_24 dX2_transpose_27 dX2_transpose_28 dX2_transpose_30 dX2_transpose_33 (hl.1.trans hml.symm) ⟨by decide, by decide, by (show 0 + 1 ≤ _; first | exact Nat.le_of_ble_eq_true rfl | omega), by (show 0 + 6 ≤ _; first | exact Nat.le_of_ble_eq_true rfl | omega)⟩ hlk (fun H1 q1 q2 => ⟨Or.inl ⟨rfl, by omega⟩, hP.grow q2⟩) (by first | exact Nat.le_of_ble_eq_true rfl | omega) (by first | exact Nat.le_of_ble_eq_true rfl | omega)
      · skip
        refine lv_iload_n hx hb dX2_transpose_18 rfl (lv_at hl 2 rfl) ?_
        refine z_bipush hx hb dX2_transpose_19 (by decide) ?_
        refine z_icmp_le (a := y) (b := 24) (tgt := 34) hx hb dX2_transpose_21 (by decide) (by omega) (by omega) (fun h_21 => ?_) (fun h_21 => ?_)
        · skip
          refine lv_aload_n hx hb dX2_transpose_34 rfl (lv_at hl 0 rfl) ?_
          refine zs_get hx hb hK hts hown hP 6 (by decide) q_fl_RX2_36 (v := .int (zI (F 3))) rfl dX2_transpose_35 ?_
          refine z_bipush hx hb dX2_transpose_38 (by decide) ?_
          refine lv_iload_n hx hb dX2_transpose_40 rfl (lv_at hl 2 rfl) ?_
          refine z_imul (x := 7) (y := y) hx hb dX2_transpose_41 ?_
          refine z_iadd (x := F 3) (y := (7) * (y)) hx hb dX2_transpose_42 ?_
          refine z_bipush hx hb dX2_transpose_43 (by decide) ?_
          refine lv_iload_n hx hb dX2_transpose_45 rfl (lv_at hl 1 rfl) ?_
          refine z_imul (x := 12) (y := x) hx hb dX2_transpose_46 ?_
          refine z_isub (x := (F 3) + ((7) * (y))) (y := (12) * (x)) hx hb dX2_transpose_47 ?_
          refine lv_istore_n (lv' := [(3, .int (zI (((F 3) + ((7) * (y))) - ((12) * (x))))), (0, .ref (ad 0)), (1, .int (zI (x))), (2, .int (zI (y)))]) hx hb dX2_transpose_48 rfl hl (by decide) rfl (fun ls hl => ?_)
          refine lv_iload_n hx hb dX2_transpose_49 rfl (lv_at hl 0 rfl) ?_
          refine k_R (c_SR (As := [.int (zI (((F 3) + ((7) * (y))) - ((12) * (x))))]) (rest := []) ⟨hx, hb, hml, hown, hts⟩ hG hS hA (c_X2_isKey l G (((F 3) + ((7) * (y))) - ((12) * (x))) (by omega)) ⟨q_ml_RX2_60, q_st_X2_isKey, q_ini_RX2, q_code_X2_isKey⟩ hs_X2_isKey trivial ⟨Nat.le_of_ble_eq_true rfl, Nat.le_of_ble_eq_true rfl⟩ ⟨Nat.le_of_ble_eq_true rfl, Nat.le_of_ble_eq_true rfl⟩ rfl hl.1 rfl (Nat.le_of_ble_eq_true rfl) dX2_transpose_50) ?_
          refine z_bif_ne (q := -7 ≤ (((F 3) + ((7) * (y))) - ((12) * (x))) ∧ (((F 3) + ((7) * (y))) - ((12) * (x))) ≤ 7) (tgt := 66) hx hb dX2_transpose_53 (by decide) (fun h_53 => ?_) (fun h_53 => ?_)
          · skip
            refine z_iconst hx hb dX2_transpose_66 ?_
            refine lv_istore (lv' := [(4, .int (zI (0))), (3, .int (zI (((F 3) + ((7) * (y))) - ((12) * (x))))), (0, .ref (ad 0)), (1, .int (zI (x))), (2, .int (zI (y)))]) hx hb dX2_transpose_67 hl (by decide) rfl (fun ls hl => ?_)
            have lp_69 : ∀ (n : Nat) (i : Int), 0 ≤ i → i ≤ F 0 → fp (trV T P Fv x y) i = i → F 0 - i < n → ∀ (H : Heap) (locs : List Loc), CP G ad F A E T P S Av Fv H → va_S (fA 94 ad s.heap.size) s.heap H locs → ∀ (ls : Array Slot), lv_has ls 5 [(4, .int (zI (i))), (3, .int (zI (((F 3) + ((7) * (y))) - ((12) * (x))))), (0, .ref (ad 0)), (1, .int (zI (x))), (2, .int (zI (y)))] → W p l env (rmz 6 130 1 6) s m (([.ref (ad 0), .int (zI (x)), .int (zI (y))] : List Value).toArray) below meth c H locs 0 0 (vx_MQ below (QW (fA 94 ad s.heap.size) (fun r H => r = (F 3 + 7 * y - 12 * x) ∧ (-14 ≤ x ∧ x ≤ 14 ∧ -24 ≤ y ∧ y ≤ 24) ∧ (-7 ≤ (F 3 + 7 * y - 12 * x) ∧ (F 3 + 7 * y - 12 * x) ≤ 7) ∧ ¬ fp (trV T P Fv x y) (F 0) < F 0 ∧ arA G ad (zN F 3 (F 3 + 7 * y - 12 * x)) A E (upV (trT T P Fv x y) T (F 0)) (upV (trP T P Fv x y) P (F 0)) S Av Fv H)) (XQ (fA 94 ad s.heap.size) (fun E9 H => ((E9 = xIA ∧ ¬ (-14 ≤ x ∧ x ≤ 14 ∧ -24 ≤ y ∧ y ≤ 24)) ∨ (E9 = xIS ∧ (-14 ≤ x ∧ x ≤ 14 ∧ -24 ≤ y ∧ y ≤ 24) ∧ ((-7 ≤ (F 3 + 7 * y - 12 * x) ∧ (F 3 + 7 * y - 12 * x) ≤ 7) → fp (trV T P Fv x y) (F 0) < F 0))) ∧ CP G ad F A E T P S Av Fv H)) (([.ref (ad 0), .int (zI (x)), .int (zI (y))] : List Value).toArray) s 1 6 (fA 94 ad s.heap.size)) (F0 m 69 ls []) := by
              intro n
              induction n with
              | zero => intro i h0 h1 h2 hm H locs hP hS ls hl; exact absurd hm (by omega)
              | succ n ih =>
                intro i h0 h1 h2 hm H locs hP hS ls hl
                refine lv_iload hx hb dX2_transpose_69 (lv_at hl 0 rfl) ?_
                refine lv_aload_n hx hb dX2_transpose_71 rfl (lv_at hl 2 rfl) ?_
                refine zs_get hx hb hK hts hown hP 3 (by decide) q_fl_RX2_26 (v := .int (zI (F 0))) rfl dX2_transpose_72 ?_
                refine z_icmp_ge (a := i) (b := F 0) (tgt := 109) hx hb dX2_transpose_75 (by decide) (by omega) (by omega) (fun h_75 => ?_) (fun h_75 => ?_)
                · skip
                  refine z_iconst hx hb dX2_transpose_109 ?_
                  refine lv_istore (lv' := [(4, .int (zI (0))), (3, .int (zI (((F 3) + ((7) * (y))) - ((12) * (x))))), (0, .ref (ad 0)), (1, .int (zI (x))), (2, .int (zI (y)))]) hx hb dX2_transpose_110 hl (by decide) rfl (fun ls hl => ?_)
                  have htr : fp (trV T P Fv x y) (F 0) = F 0 := by rw [show F 0 = i by omega]; exact h2
                  have hP : CP G ad F A E (upV (trT T P Fv x y) T (0)) (upV (trP T P Fv x y) P (0)) S Av Fv H := by rw [upV_0, upV_0]; exact hP
                  have lp_112 : ∀ (n : Nat) (j : Int), 0 ≤ j → j ≤ F 0 → F 0 - j < n → ∀ (H : Heap) (locs : List Loc), CP G ad F A E (upV (trT T P Fv x y) T (j)) (upV (trP T P Fv x y) P (j)) S Av Fv H → va_S (fA 94 ad s.heap.size) s.heap H locs → ∀ (ls : Array Slot), lv_has ls 5 [(4, .int (zI (j))), (3, .int (zI (((F 3) + ((7) * (y))) - ((12) * (x))))), (0, .ref (ad 0)), (1, .int (zI (x))), (2, .int (zI (y)))] → W p l env (rmz 6 130 1 6) s m (([.ref (ad 0), .int (zI (x)), .int (zI (y))] : List Value).toArray) below meth c H locs 0 0 (vx_MQ below (QW (fA 94 ad s.heap.size) (fun r H => r = (F 3 + 7 * y - 12 * x) ∧ (-14 ≤ x ∧ x ≤ 14 ∧ -24 ≤ y ∧ y ≤ 24) ∧ (-7 ≤ (F 3 + 7 * y - 12 * x) ∧ (F 3 + 7 * y - 12 * x) ≤ 7) ∧ ¬ fp (trV T P Fv x y) (F 0) < F 0 ∧ arA G ad (zN F 3 (F 3 + 7 * y - 12 * x)) A E (upV (trT T P Fv x y) T (F 0)) (upV (trP T P Fv x y) P (F 0)) S Av Fv H)) (XQ (fA 94 ad s.heap.size) (fun E9 H => ((E9 = xIA ∧ ¬ (-14 ≤ x ∧ x ≤ 14 ∧ -24 ≤ y ∧ y ≤ 24)) ∨ (E9 = xIS ∧ (-14 ≤ x ∧ x ≤ 14 ∧ -24 ≤ y ∧ y ≤ 24) ∧ ((-7 ≤ (F 3 + 7 * y - 12 * x) ∧ (F 3 + 7 * y - 12 * x) ≤ 7) → fp (trV T P Fv x y) (F 0) < F 0))) ∧ CP G ad F A E T P S Av Fv H)) (([.ref (ad 0), .int (zI (x)), .int (zI (y))] : List Value).toArray) s 1 6 (fA 94 ad s.heap.size)) (F0 m 112 ls []) := by
                    intro n
                    induction n with
                    | zero => intro j g0 g1 gm H locs hP hS ls hl; exact absurd gm (by omega)
                    | succ n ih =>
                      intro j g0 g1 gm H locs hP hS ls hl
                      refine lv_iload hx hb dX2_transpose_112 (lv_at hl 0 rfl) ?_
                      refine lv_aload_n hx hb dX2_transpose_114 rfl (lv_at hl 2 rfl) ?_
                      refine zs_get hx hb hK hts hown hP 3 (by decide) q_fl_RX2_26 (v := .int (zI (F 0))) rfl dX2_transpose_115 ?_
                      refine z_icmp_ge (a := j) (b := F 0) (tgt := 139) hx hb dX2_transpose_118 (by decide) (by omega) (by omega) (fun h_118 => ?_) (fun h_118 => ?_)
                      · skip
                        have hj9 : j = F 0 := by omega
                        rw [hj9] at hP
                        refine lv_aload_n hx hb dX2_transpose_139 rfl (lv_at hl 2 rfl) ?_
                        refine lv_iload_n hx hb dX2_transpose_140 rfl (lv_at hl 1 rfl) ?_
                        refine zs_put (x := ((F 3) + ((7) * (y))) - ((12) * (x))) hx hb hK hts hown hP hS (hD 0 (by decide)) 3 (by decide) (Or.inl (by decide)) q_fl_RX2_36 dX2_transpose_141 (fun H locs hP hz ho hS => ?_)
                        refine lv_aload_n hx hb dX2_transpose_144 rfl (lv_at hl 2 rfl) ?_
                        refine k_Wv (c_VW (As := []) (rest := []) ⟨hx, hb, hml, hown, hts⟩ hG hS hA (c_X2_arrangeAll l G ad (zN F 3 (((F 3) + ((7) * (y))) - ((12) * (x)))) A E (upV (trT T P Fv x y) T (F 0)) (upV (trP T P Fv x y) P (F 0)) S Av Fv H.size (show -7 ≤ (F 3 + 7 * y - 12 * x) ∧ (F 3 + 7 * y - 12 * x) ≤ 7 by omega) (show 0 < F 1 ∧ F 1 ≤ 1000000 by omega) (fun v q0 q1 => have q2 : v < 4 := Int.lt_of_lt_of_le q1 h0b.2; have q3 : upV (trT T P Fv x y) T (F 0) v = trT T P Fv x y v := if_pos ⟨q0, q1⟩; have q4 : upV (trP T P Fv x y) P (F 0) v = trP T P Fv x y v := if_pos ⟨q0, q1⟩; ⟨by rw [q3, q4]; exact mvF_ok (hVo v q0 q2) (fun i a0 a1 a2 => absurd (fp_at (q := trV T P Fv x y) q0 htr q1) (fun z => z (trV_of a0 a1 a2))), hVA v q0 q2⟩) ⟨hVC.1, hVC.2⟩) ⟨q_ml_RX2_66, q_im_X2_arrangeAll, q_sel_X2_arrangeAll, q_ini_RX2, q_code_X2_arrangeAll⟩ hv_X2_arrangeAll (CP.rec hK hP) hP ⟨Nat.le_of_ble_eq_true rfl, Nat.le_of_ble_eq_true rfl⟩ ⟨Nat.le_of_ble_eq_true rfl, Nat.le_of_ble_eq_true rfl⟩ rfl hl.1 rfl (Nat.le_of_ble_eq_true rfl) dX2_transpose_145) hS (fA_mono hS.1) (fun H1 locs1 hq hz1 hk1 hS => ?_)
                        have hQ : arA G ad (zN F 3 (F 3 + 7 * y - 12 * x)) A E (upV (trT T P Fv x y) T (F 0)) (upV (trP T P Fv x y) P (F 0)) S Av Fv H1 := hq
                        have hP := hq
                        refine lv_aload_n hx hb dX2_transpose_148 rfl (lv_at hl 2 rfl) ?_
                        refine zs_get hx hb hK hts hown hP 6 (by decide) q_fl_RX2_36 (v := .int (zI ((F 3 + 7 * y - 12 * x)))) rfl dX2_transpose_149 ?_
                        exact vx_ret (e_Wi (r := (F 3 + 7 * y - 12 * x)) hx hb hr hlk (n_i _) hS (by omega) (by omega) ⟨rfl, by omega, by omega, by omega, hQ⟩ dX2_transpose_152)
                      · skip
                        refine lv_aload_n hx hb dX2_transpose_121 rfl (lv_at hl 2 rfl) ?_
                        refine zs_get hx hb hK hts hown hP 0 (by decide) q_fl_RX2_11 (v := .ref (ad 1)) rfl dX2_transpose_122 ?_
                        refine lv_iload hx hb dX2_transpose_125 (lv_at hl 0 rfl) ?_
                        refine zs_aV hx hb hK hP (i := j) (by omega) dX2_transpose_127 ?_
                        have hV_j : VP G (vad ad (j)) ((upV (trT T P Fv x y) T (j)) (j)) ((upV (trP T P Fv x y) P (j)) (j)) (S (j)) (Av (j)) (Fv (j)) H := CP.voice hP (j) (by omega)
                        rw [upV_at, upV_at] at hV_j
                        refine lv_iload_n hx hb dX2_transpose_128 rfl (lv_at hl 3 rfl) ?_
                        refine lv_iload_n hx hb dX2_transpose_129 rfl (lv_at hl 4 rfl) ?_
                        refine k_Wv (c_VW (As := [.int (zI (x)), .int (zI (y))]) (rest := []) ⟨hx, hb, hml, hown, hts⟩ hG hS hA (c_X1_moveNotes l G (vad ad (j)) (T (j)) (P (j)) (S (j)) (Av (j)) (Fv (j)) x y H.size (by omega) (by omega) (hVo j g0 (by omega))) ⟨q_ml_RX2_162, q_im_X1_moveNotes, q_sel_X1_moveNotes, q_ini_RX1, q_code_X1_moveNotes⟩ hv_X1_moveNotes (VP.rec hK hV_j) hV_j ⟨Nat.le_of_ble_eq_true rfl, Nat.le_of_ble_eq_true rfl⟩ ⟨Nat.le_of_ble_eq_true rfl, Nat.le_of_ble_eq_true rfl⟩ rfl hl.1 rfl (Nat.le_of_ble_eq_true rfl) dX2_transpose_130) hS (fA_v (by omega) hS.1) (fun H1 locs1 hq hz1 hk1 hS => ?_)
                        have hP := CP.wT hP (v := j) (by omega) hq hk1
                        rw [show zV Fv j (Fv j) = Fv from zV_id Fv j, show zV (upV (trT T P Fv x y) T (j)) j (zW (T j) 4 (mvF x y (T j 4) (P j) (Fv j 0)).1) = (upV (trT T P Fv x y) T (j + 1)) from upV_s (trT T P Fv x y) T g0, show zV (upV (trP T P Fv x y) P (j)) j (mvF x y (T j 4) (P j) (Fv j 0)).2 = (upV (trP T P Fv x y) P (j + 1)) from upV_s (trP T P Fv x y) P g0] at hP
                        refine z_iinc (lv' := [(4, .int (zI (j + 1))), (3, .int (zI (((F 3) + ((7) * (y))) - ((12) * (x))))), (0, .ref (ad 0)), (1, .int (zI (x))), (2, .int (zI (y)))]) hx hb dX2_transpose_133 hl (k := 0) rfl (by decide) rfl (fun ls hl => ?_)
                        refine lv_goto (tgt := 112) hx hb dX2_transpose_136 (by decide) ?_
                        exact ih (j + 1) (by omega) (by omega) (by omega) H1 _ hP hS _ (lv_sub hl [0, 1, 2, 3, 4] rfl)
                  exact lp_112 5 0 (by omega) (by omega) (by omega) H _ hP hS _ (lv_sub hl [0, 1, 2, 3, 4] rfl)
                · skip
                  refine lv_aload_n hx hb dX2_transpose_78 rfl (lv_at hl 2 rfl) ?_
                  refine zs_get hx hb hK hts hown hP 0 (by decide) q_fl_RX2_11 (v := .ref (ad 1)) rfl dX2_transpose_79 ?_
                  refine lv_iload hx hb dX2_transpose_82 (lv_at hl 0 rfl) ?_
                  refine zs_aV hx hb hK hP (i := i) (by omega) dX2_transpose_84 ?_
                  have hV_i : VP G (vad ad (i)) (T (i)) (P (i)) (S (i)) (Av (i)) (Fv (i)) H := CP.voice hP (i) (by omega)
                  refine lv_iload_n hx hb dX2_transpose_85 rfl (lv_at hl 3 rfl) ?_
                  refine lv_iload_n hx hb dX2_transpose_86 rfl (lv_at hl 4 rfl) ?_
                  refine k_R (c_VR (As := [.int (zI (x)), .int (zI (y))]) (rest := []) ⟨hx, hb, hml, hown, hts⟩ hG hS hA (c_X1_canTranspose l G (vad ad (i)) (T (i)) (P (i)) (S (i)) (Av (i)) (Fv (i)) x y (by omega) (by omega) (hVo i h0 (by omega))) ⟨q_ml_RX2_156, q_im_X1_canTranspose, q_sel_X1_canTranspose, q_ini_RX1, q_code_X1_canTranspose⟩ hv_X1_canTranspose (VP.rec hK hV_i) hV_i ⟨Nat.le_of_ble_eq_true rfl, Nat.le_of_ble_eq_true rfl⟩ ⟨Nat.le_of_ble_eq_true rfl, Nat.le_of_ble_eq_true rfl⟩ rfl hl.1 rfl (Nat.le_of_ble_eq_true rfl) dX2_transpose_87) ?_
                  refine z_bif_ne (q := ¬ fp (trB ((T (i)) 4) ((P (i)) 0) ((P (i)) 2) x y) (((Fv (i)) 0)) < ((Fv (i)) 0)) (tgt := 103) hx hb dX2_transpose_90 (by decide) (fun h_90 => ?_) (fun h_90 => ?_)
                  · skip
                    have h_90 : ¬ trV T P Fv x y i := h_90
                    refine z_iinc (lv' := [(4, .int (zI (i + 1))), (3, .int (zI (((F 3) + ((7) * (y))) - ((12) * (x))))), (0, .ref (ad 0)), (1, .int (zI (x))), (2, .int (zI (y)))]) hx hb dX2_transpose_103 hl (k := 0) rfl (by decide) rfl (fun ls hl => ?_)
                    refine lv_goto (tgt := 69) hx hb dX2_transpose_106 (by decide) ?_
                    exact ih (i + 1) (by omega) (by omega) (fp_no h0 h2 (fun q => h_90 q)) (by omega) H _ hP hS _ (lv_sub hl [0, 1, 2, 3, 4] rfl)
                  · skip
                    have h_90 : trV T P Fv x y i := Decidable.byContradiction h_90
                    have hbad : fp (trV T P Fv x y) (F 0) = i := fp_yes h0 h2 h_90 (by omega)
                    exact z_thrIS hx hb hst hown hts hG hnt hS hA (text := "a pitch would not be one") (is := 160) (by decide +kernel) dX2_transpose_93 dX2_transpose_96 dX2_transpose_97 dX2_transpose_99 dX2_transpose_102 (hl.1.trans hml.symm) ⟨by decide, by decide, by (show 0 + 1 ≤ _; first | exact Nat.le_of_ble_eq_true rfl | omega), by (show 0 + 6 ≤ _; first | exact Nat.le_of_ble_eq_true rfl | omega)⟩ hlk (fun H1 q1 q2 => ⟨Or.inr ⟨rfl, by omega, fun _ => by omega⟩, hP.grow q2⟩) (by first | exact Nat.le_of_ble_eq_true rfl | omega) (by first | exact Nat.le_of_ble_eq_true rfl | omega)
            exact lp_69 5 0 (by omega) (by omega) rfl (by omega) s.heap _ hP hS _ (lv_sub hl [0, 1, 2, 3, 4] rfl)
          · skip
            exact z_thrIS hx hb hst hown hts hG hnt hS hA (text := "the key would not be one") (is := 154) (by decide +kernel) dX2_transpose_56 dX2_transpose_59 dX2_transpose_60 dX2_transpose_62 dX2_transpose_65 (hl.1.trans hml.symm) ⟨by decide, by decide, by (show 0 + 1 ≤ _; first | exact Nat.le_of_ble_eq_true rfl | omega), by (show 0 + 6 ≤ _; first | exact Nat.le_of_ble_eq_true rfl | omega)⟩ hlk (fun H1 q1 q2 => ⟨Or.inr ⟨rfl, by omega, fun q => absurd q (by omega)⟩, hP.grow q2⟩) (by first | exact Nat.le_of_ble_eq_true rfl | omega) (by first | exact Nat.le_of_ble_eq_true rfl | omega)
        · skip
          exact z_thrIA hx hb hst hown hts hG hnt hS hA (text := "too far to transpose") (is := 152) (by decide +kernel) dX2_transpose_24 dX2_transpose_27 dX2_transpose_28 dX2_transpose_30 dX2_transpose_33 (hl.1.trans hml.symm) ⟨by decide, by decide, by (show 0 + 1 ≤ _; first | exact Nat.le_of_ble_eq_true rfl | omega), by (show 0 + 6 ≤ _; first | exact Nat.le_of_ble_eq_true rfl | omega)⟩ hlk (fun H1 q1 q2 => ⟨Or.inl ⟨rfl, by omega⟩, hP.grow q2⟩) (by first | exact Nat.le_of_ble_eq_true rfl | omega) (by first | exact Nat.le_of_ble_eq_true rfl | omega)
