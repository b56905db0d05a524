/-- all voices are arranged anew -/
def arA (G : zG) (ad : Nat → Nat) (F : Nat → Int) (A E : Nat → Int → Int) (T P S Av : Int → Nat → Int → Int) (Fv : Int → Nat → Int) (H : Heap) : Prop := CP G ad (zN F 4 0) A E (upV (fun v => arT (T v) (P v) (Av v) (Fv v 0) (F 3) (F 1)) T (F 0)) P (upV (fun v => (arSo (T v) (S v) (Fv v 0)).2) S (F 0)) (upV (fun v => (arSg (T v) (P v) (Av v) (Fv v 0) (F 3)).2.1) Av (F 0)) (upV (fun v => arF (T v) (P v) (S v) (Av v) (Fv v) (Fv v 0) (F 3) (F 1)) Fv (F 0)) H
set_option maxHeartbeats 2000000 in
theorem c_X2_setKey (l : Launch) (G : zG) (ad : Nat → Nat) (F : Nat → Int) (A E : Nat → Int → Int) (T P S Av : Int → Nat → Int → Int) (Fv : Int → Nat → Int) (k : Int) (sz : Nat) (hst : l.stackTraces = false) (r_k : -2147483648 ≤ k ∧ k ≤ 2147483647) (hb99 : 0 < F 1 ∧ F 1 ≤ 1000000) (hVo : ∀ v, 0 ≤ v → v < 4 → VOK (T v) (P v) (Fv v 0)) (hVA : ∀ v, 0 ≤ v → v < 4 → ∀ p, 0 ≤ p → p < 63 → -2 ≤ Av v 1 p ∧ Av v 1 p ≤ 2) (hVC : COK F Fv) : MX l yX2_setKey cX2_setKey 3 (some .int) 6 130 (1) (6) G [.ref (ad 0), .int (zI (k))] (fA 94 ad sz) sz (CP G ad F A E T P S Av Fv) (QW (fA 94 ad sz) (fun r H => r = F 3 ∧ (-7 ≤ k ∧ k ≤ 7) ∧ arA G ad (zN F 3 k) A E T P S Av Fv H)) (fun E9 H => ((E9 = xIA ∧ ¬ (-7 ≤ k ∧ k ≤ 7))) ∧ CP G ad F A E T P S Av Fv H) := by
  refine mx_of hp_X2_setKey (Nat.le_of_ble_eq_true rfl) ?_
  intro p env s m below meth c ls hB hnt hsz hP hl
  obtain ⟨hx, hb, hml, hr, hlk, hown, hts, hG⟩ := hB
  subst hsz
  have hK := hG.1
  have hS : va_S (fA 94 ad s.heap.size) s.heap s.heap [] := va_S.rf
  have hA : ∀ q : Nat, (fA 94 ad s.heap.size) q → G.2.2 ≤ q := fA_lo hP.1.2 hG.2.1
  have hD : ∀ k, k < 94 → (fA 94 ad s.heap.size) (ad k) := fun k hk => fA_in hk
  have hl : lv_has ls 3 [(0, .ref (ad 0)), (1, .int (zI (k)))] := hl
  have h0b := hVC.1
  refine lv_iload_n hx hb dX2_setKey_0 rfl (lv_at hl 1 rfl) ?_
  refine k_R (c_SR (As := [.int (zI (k))]) (rest := []) ⟨hx, hb, hml, hown, hts⟩ hG hS hA (c_X2_isKey l G k (show -2147483648 ≤ k ∧ k ≤ 2147483647 by omega)) ⟨q_ml_RX2_60, q_st_X2_isKey, q_ini_RX2, q_code_X2_isKey⟩ hs_X2_isKey trivial ⟨Nat.le_of_ble_eq_true rfl, Nat.le_of_ble_eq_true rfl⟩ ⟨Nat.le_of_ble_eq_true rfl, Nat.le_of_ble_eq_true rfl⟩ rfl hl.1 rfl (Nat.le_of_ble_eq_true rfl) dX2_setKey_1) ?_
  refine z_bif_ne (q := -7 ≤ k ∧ k ≤ 7) (tgt := 17) hx hb dX2_setKey_4 (by decide) (fun h_4 => ?_) (fun h_4 => ?_)
  · skip
    refine lv_aload_n hx hb dX2_setKey_17 rfl (lv_at hl 0 rfl) ?_
    refine zs_get hx hb hK hts hown hP 6 (by decide) q_fl_RX2_36 (v := .int (zI (F 3))) rfl dX2_setKey_18 ?_
    refine lv_istore_n (lv' := [(2, .int (zI (F 3))), (0, .ref (ad 0)), (1, .int (zI (k)))]) hx hb dX2_setKey_21 rfl hl (by decide) rfl (fun ls hl => ?_)
    refine lv_aload_n hx hb dX2_setKey_22 rfl (lv_at hl 1 rfl) ?_
    refine lv_iload_n hx hb dX2_setKey_23 rfl (lv_at hl 2 rfl) ?_
    refine zs_put (x := k) hx hb hK hts hown hP hS (hD 0 (by decide)) 3 (by decide) (Or.inl (by decide)) q_fl_RX2_36 dX2_setKey_24 (fun H locs hP hz ho hS => ?_)
    refine lv_aload_n hx hb dX2_setKey_27 rfl (lv_at hl 1 rfl) ?_
    refine k_Wv (c_VW (As := []) (rest := []) ⟨hx, hb, hml, hown, hts⟩ hG hS hA (c_X2_arrangeAll l G ad (zN F 3 (k)) A E T P S Av Fv H.size (show -7 ≤ k ∧ k ≤ 7 by omega) (show 0 < F 1 ∧ F 1 ≤ 1000000 by omega) (fun v q0 q1 => have q2 : v < 4 := Int.lt_of_lt_of_le q1 h0b.2; ⟨hVo v q0 q2, hVA v q0 q2⟩) ⟨hVC.1, hVC.2⟩) ⟨q_ml_RX2_66, q_im_X2_arrangeAll, q_sel_X2_arrangeAll, q_ini_RX2, q_code_X2_arrangeAll⟩ hv_X2_arrangeAll (CP.rec hK hP) hP ⟨Nat.le_of_ble_eq_true rfl, Nat.le_of_ble_eq_true rfl⟩ ⟨Nat.le_of_ble_eq_true rfl, Nat.le_of_ble_eq_true rfl⟩ rfl hl.1 rfl (Nat.le_of_ble_eq_true rfl) dX2_setKey_28) hS (fA_mono hS.1) (fun H1 locs1 hq hz1 hk1 hS => ?_)
    have hQ : arA G ad (zN F 3 k) A E T P S Av Fv H1 := hq
    refine lv_iload_n hx hb dX2_setKey_31 rfl (lv_at hl 0 rfl) ?_
    exact vx_ret (e_Wi (r := F 3) hx hb hr hlk (n_i _) hS (by omega) (by omega) ⟨rfl, by omega, hQ⟩ dX2_setKey_32)
  · skip
    exact z_thrIA hx hb hst hown hts hG hnt hS hA (text := "no such key") (is := 64) (by decide +kernel) dX2_setKey_7 dX2_setKey_10 dX2_setKey_11 dX2_setKey_13 dX2_setKey_16 (hl.1.trans hml.symm) ⟨by decide, by decide, by (show 0 + 1 ≤ _; first | exact Nat.le_of_ble_eq_true rfl | omega), by (show 0 + 6 ≤ _; first | exact Nat.le_of_ble_eq_true rfl | omega)⟩ hlk (fun H1 q1 q2 => ⟨(by first | exact ⟨rfl, by omega⟩), hP.grow q2⟩) (by first | exact Nat.le_of_ble_eq_true rfl | omega) (by first | exact Nat.le_of_ble_eq_true rfl | omega)
abbrev trV (T P : Int → Nat → Int → Int) (Fv : Int → Nat → Int) (x y v : Int) : Prop := fp (trB (T v 4) (P v 0) (P v 2) x y) (Fv v 0) < Fv v 0
theorem mvF_ok {T P : Nat → Int → Int} {n u v : Int} (h : VOK T P n) (hb : ∀ i, 0 ≤ i → i < n → ¬ trB (T 4) (P 0) (P 2) u v i) : VOK (zW T 4 (mvF u v (T 4) P n).1) (mvF u v (T 4) P n).2 n := by
  have q : ∀ i, 0 ≤ i → i ≤ n → (∀ j, 0 ≤ j → j < n → -1 ≤ (mvF u v (T 4) P i).1 j ∧ (mvF u v (T 4) P i).1 j ≤ 1000) ∧ (∀ j, 0 ≤ j → j < 200 → 0 ≤ (mvF u v (T 4) P i).2 0 j ∧ (mvF u v (T 4) P i).2 0 j < 7 ∧ -2 ≤ (mvF u v (T 4) P i).2 1 j ∧ (mvF u v (T 4) P i).2 1 j ≤ 2 ∧ 0 ≤ (mvF u v (T 4) P i).2 2 j ∧ (mvF u v (T 4) P i).2 2 j < 9) := by
    intro i h0
    obtain ⟨k, rfl⟩ : ∃ k : Nat, i = (k : Int) := ⟨i.toNat, by omega⟩
    induction k with
    | zero =>
      intro _
      refine ⟨fun j q0 q1 => ?_, fun j q0 q1 => h.2.2.2 j q0 q1⟩
      have := h.2.2.1 j q0 q1
      show -1 ≤ T 4 j ∧ T 4 j ≤ 1000
      omega
    | succ k ih =>
      intro hk
      obtain ⟨i1, i2⟩ := ih (by omega) (by omega)
      have off := mvF_off (u := u) (v := v) (tn := T 4) (P := P) (i := (k : Int)) (by omega) (k : Int) (Int.le_refl _)
      have hbk := hb (k : Int) (by omega) (by omega)
      rw [show ((k + 1 : Nat) : Int) = (k : Int) + 1 by omega, show mvF u v (T 4) P ((k : Int) + 1) = mvS u v (k : Int) (mvF u v (T 4) P (k : Int)) from pf_s _ _ (by omega)]
      generalize mvF u v (T 4) P (k : Int) = z at i1 i2 off
      unfold mvS
      by_cases c : z.1 (k : Int) = -1
      · rw [if_pos c]; exact ⟨i1, i2⟩
      · rw [if_neg c, off.2 0, off.2 2, off.1]
        rw [off.1] at c
        have hok : okP ((7 * P 2 (k : Int) + P 0 (k : Int) + u) % 7) (T 4 (k : Int) + v - toneF ((7 * P 2 (k : Int) + P 0 (k : Int) + u) % 7) 0 ((7 * P 2 (k : Int) + P 0 (k : Int) + u) / 7)) ((7 * P 2 (k : Int) + P 0 (k : Int) + u) / 7) := Decidable.byContradiction fun q => hbk ⟨c, q⟩
        generalize (7 * P 2 (k : Int) + P 0 (k : Int) + u) % 7 = st at hok
        generalize (7 * P 2 (k : Int) + P 0 (k : Int) + u) / 7 = oc at hok
        generalize T 4 (k : Int) + v - toneF st 0 oc = sg at hok
        obtain ⟨o1, o2, o3, o4, o5, o6, o7⟩ := hok
        have hs := stepT_rng (k := st) ⟨o1, o2⟩
        have ht : toneF st sg oc = 12 * oc + stepT st + sg := rfl
        refine ⟨fun j q0 q1 => ?_, fun j q0 q1 => ?_⟩
        · show -1 ≤ zU z.1 (k : Int) (toneF st sg oc) j ∧ zU z.1 (k : Int) (toneF st sg oc) j ≤ 1000
          by_cases e : j = (k : Int)
          · rw [e, zU_s]; omega
          · rw [zU_n e]; exact i1 j q0 q1
        · have q9 := i2 j q0 q1
          by_cases e : j = (k : Int)
          · subst e
            simp only [zR]
            simp
            omega
          · have e' : ∀ w, zR (zR (zR z.2 0 (k : Int) st) 1 (k : Int) sg) 2 (k : Int) oc w j = z.2 w j := fun w => by rw [zR_n (Or.inr e), zR_n (Or.inr e), zR_n (Or.inr e)]
            simp only [e']
            exact q9
  obtain ⟨q1, q2⟩ := q n h.1 (Int.le_refl n)
  refine ⟨h.1, h.2.1, fun i h0 h1 => ?_, q2⟩
  have a := h.2.2.1 i h0 h1
  have b := q1 i h0 h1
  have e : ∀ w : Nat, w ≠ 4 → zW T 4 (mvF u v (T 4) P n).1 w = T w := fun w hw => zW_n _ hw
  rw [e 0 (by decide), e 1 (by decide), e 2 (by decide), e 3 (by decide), e 5 (by decide), e 6 (by decide), zW_s]
  omega
theorem fp_at {q : Int → Prop} [DecidablePred q] {n i : Int} (h0 : 0 ≤ i) (h : fp q n = n) (h1 : i < n) : ¬ q i := by
  have b := fp_spec (q := q) (n := n) (by omega)
  exact b.2 i h0 (by omega)
theorem trV_of {T P : Int → Nat → Int → Int} {Fv : Int → Nat → Int} {x y v i : Int} (h0 : 0 ≤ i) (h1 : i < Fv v 0) (h : trB (T v 4) (P v 0) (P v 2) x y i) : trV T P Fv x y v := by
  have a := fp_le (q := trB (T v 4) (P v 0) (P v 2) x y) (n := Fv v 0) (by omega)
  have b := fp_spec (q := trB (T v 4) (P v 0) (P v 2) x y) (n := Fv v 0) (by omega)
  rcases (by omega : fp (trB (T v 4) (P v 0) (P v 2) x y) (Fv v 0) < Fv v 0 ∨ i < fp (trB (T v 4) (P v 0) (P v 2) x y) (Fv v 0)) with z | z
  · exact z
  · exact absurd h (b.2 i h0 z)
abbrev trT (T P : Int → Nat → Int → Int) (Fv : Int → Nat → Int) (x y : Int) : Int → Nat → Int → Int := fun v => zW (T v) 4 (mvF x y (T v 4) (P v) (Fv v 0)).1
abbrev trP (T P : Int → Nat → Int → Int) (Fv : Int → Nat → Int) (x y : Int) : Int → Nat → Int → Int := fun v => (mvF x y (T v 4) (P v) (Fv v 0)).2
