theorem zL_ne {y : Int} (h : 1 ≤ y ∧ y ≤ 2147483647) : ¬ (zI y).toInt64 = 0 := by
  intro q
  have r := congrArg Int64.toInt q
  rw [Int32.toInt_toInt64, zI_toInt ⟨by omega, h.2⟩] at r
  have z : (0 : Int64).toInt = 0 := rfl
  omega
/-! what the holding's old contents are is no matter -/
theorem hoR_ind {F : Nat → Int} {A : Nat → Int → Int} {B : Int → Int → Int} (hM : MOK F A B) {v : Int} (hv : 0 ≤ v ∧ v < 4) {h h' : Int → Int} {e : Int} (he : 0 ≤ e ∧ e < A 0 v) (hh : e = 0 ∨ ∀ k, 0 ≤ k → k < 63 → h k = h' k) : ∀ k, 0 ≤ k → k < 63 → hoR F B v e h k = hoR F B v e h' k := by
  intro k k0 k1
  unfold hoR
  by_cases q : bgM B v e / (F 1 * 384 / F 2) = barP F B v e
  · rw [if_pos q, if_pos q]
    rcases hh with z | z
    · exfalso
      have hbr := bgM_rng hM hv (e := e) (by omega)
      have h1b := hM.1
      have h2b := hM.2.1
      have hba : 48 ≤ F 1 * 384 / F 2 ∧ F 1 * 384 / F 2 ≤ 2304 := by rcases h2b with h | h | h <;> rw [h] <;> omega
      have d1 : 0 ≤ bgM B v e / (F 1 * 384 / F 2) := Int.ediv_nonneg (by omega) (by omega)
      unfold barP at q
      rw [if_pos z] at q
      omega
    · exact z k k0 k1
  · rw [if_neg q, if_neg q]
    unfold hfil
    rw [if_pos ⟨k0, k1⟩, if_pos ⟨k0, k1⟩]
theorem hoF_ind {F : Nat → Int} {A : Nat → Int → Int} {B : Int → Int → Int} (hM : MOK F A B) {v : Int} (hv : 0 ≤ v ∧ v < 4) (h h' : Int → Int) {e : Int} (he : 0 ≤ e ∧ e ≤ A 0 v) : e = 0 ∨ ∀ k, 0 ≤ k → k < 63 → hoF F B v h e k = hoF F B v h' e k := by
  obtain ⟨m, rfl⟩ : ∃ m : Nat, e = (m : Int) := ⟨e.toNat, by omega⟩
  induction m with
  | zero => exact Or.inl rfl
  | succ m ih =>
    right
    have q := ih (by omega)
    intro k k0 k1
    rw [show ((m + 1 : Nat) : Int) = (m : Int) + 1 by omega, hoF_s F B v h (by omega), hoF_s F B v h' (by omega)]
    have r : ∀ k, 0 ≤ k → k < 63 → hoR F B v (m : Int) (hoF F B v h (m : Int)) k = hoR F B v (m : Int) (hoF F B v h' (m : Int)) k := hoR_ind hM hv (by omega) q
    unfold hoS
    split
    · exact r k k0 k1
    · unfold zU
      split
      · rfl
      · exact r k k0 k1
theorem shM_ind {F : Nat → Int} {A : Nat → Int → Int} {B : Int → Int → Int} (hM : MOK F A B) {v : Int} (hv : 0 ≤ v ∧ v < 4) (h h' : Int → Int) {e : Int} (he : 0 ≤ e ∧ e < A 0 v) : shM F A B v h e = shM F A B v h' e := by
  have el := hM.el hv he
  have hpl : plM B v e = 7 * B v (10 * e + 5) + B v (10 * e + 3) := rfl
  unfold shM
  rw [hoR_ind hM hv he (hoF_ind hM hv h h' (e := e) (by omega)) (plM B v e) (by omega) (by omega)]
theorem elP_ind {F : Nat → Int} {A : Nat → Int → Int} {B : Int → Int → Int} (hM : MOK F A B) {v : Int} (hv : 0 ≤ v ∧ v < 4) (h h' : Int → Int) {e : Int} (he : 0 ≤ e ∧ e < A 0 v) (w : Int) : elP F A B h v e w = elP F A B h' v e w := by
  unfold elP
  rw [shM_ind hM hv h h' he]
theorem vpM_ind {F : Nat → Int} {A : Nat → Int → Int} {B : Int → Int → Int} (hM : MOK F A B) {v : Int} (hv : 0 ≤ v ∧ v < 4) (h h' : Int → Int) (w : Int) : vpM F A B h v w = vpM F A B h' v w := by
  have q : pf (if 4 < w then -1 else 0) (vpS A B (shM F A B v h) v w) (A 0 v) = pf (if 4 < w then -1 else 0) (vpS A B (shM F A B v h') v w) (A 0 v) := pf_congr fun i a i0 i1 => by
    unfold vpS
    rw [shM_ind hM hv h h' ⟨i0, i1⟩]
  unfold vpM
  rw [q]
set_option maxHeartbeats 2000000 in
theorem c_X3_time (l : Launch) (G : zG) (ad : Nat → Nat) (F : Nat → Int) (A : Nat → Int → Int) (B : Int → Int → Int) (x y : Int) (sz : Nat) (r1 : -2147483648 ≤ x ∧ x ≤ 2147483647) (r2 : -2147483648 ≤ y ∧ y ≤ 2147483647) (hVM : MOK F A B) : MW l yX3_time cX3_time 3 (some .long) 1 22 (0) (0) G [.ref (ad 0), .int (zI (x)), .int (zI (y))] (fA 11 ad sz) sz (MP G ad F A B) (QL (fA 11 ad sz) (fun r H => (¬ ((0 ≤ x ∧ x ≤ 100000) ∧ 10 ≤ y ∧ y ≤ 400) ∧ r = 0 ∧ MP G ad (zN F 0 1) A B H) ∨ (((0 ≤ x ∧ x ≤ 100000) ∧ 10 ≤ y ∧ y ≤ 400) ∧ r = (zI x).toInt64 * 625000 / (zI y).toInt64 ∧ MP G ad (zN F 0 0) A B H))) := by
  refine mw_of hp_X3_time (Nat.le_of_ble_eq_true rfl) ?_
  intro p env s m below meth c ls hB hsz hP hl
  obtain ⟨hx, hb, hml, hr, hlk, hown, hts, hG⟩ := hB
  subst hsz
  have hK := hG.1
  have hS : va_S (fA 11 ad s.heap.size) s.heap s.heap [] := va_S.rf
  have hA : ∀ q : Nat, (fA 11 ad s.heap.size) q → G.2.2 ≤ q := fA_lo hP.1.2 hG.2.1
  have hD : ∀ k, k < 11 → (fA 11 ad s.heap.size) (ad k) := fun k hk => fA_in hk
  have hl : lv_has ls 3 [(0, .ref (ad 0)), (1, .int (zI (x))), (2, .int (zI (y)))] := hl
  have h1b := hVM.1
  have h2b := hVM.2.1
  have h3b := hVM.2.2.1
  have h4b := hVM.2.2.2.1
  refine lv_aload_n hx hb dX3_time_0 rfl (lv_at hl 0 rfl) ?_
  refine lv_iload_n hx hb dX3_time_1 rfl (lv_at hl 1 rfl) ?_
  refine z_iconst hx hb dX3_time_2 ?_
  refine lv_ldc (v := zI 100000) hx hb hown (hts _ q_k_RX3_189) dX3_time_3 ?_
  refine k_R (c_SR (As := [.int (zI (x)), .int (zI (0)), .int (zI (100000))]) (rest := [.ref (ad 0)]) ⟨hx, hb, hml, hown, hts⟩ hG hS hA (c_X3_isIn l G x 0 100000 (show -2147483648 ≤ x ∧ x ≤ 2147483647 by omega) (show -2147483648 ≤ 0 ∧ 0 ≤ 2147483647 by omega) (show -2147483648 ≤ 100000 ∧ 100000 ≤ 2147483647 by omega)) ⟨q_ml_RX3_43, q_st_X3_isIn, q_ini_RX3, q_code_X3_isIn⟩ hs_X3_isIn trivial ⟨by decide, by decide⟩ ⟨Nat.zero_le _, Nat.zero_le _⟩ rfl hl.1 rfl (Nat.le_of_ble_eq_true rfl) dX3_time_5) ?_
  refine z_bif_eq (q := 0 ≤ x ∧ x ≤ 100000) (tgt := 27) hx hb dX3_time_8 (by decide) (fun h_8 => ?_) (fun h_8 => ?_)
  · skip
    refine z_iconst hx hb dX3_time_27 ?_
    refine zm_put (x := 1) hx hb hK hts hown hP hS (hD 0 (by decide)) 0 (by decide) q_fl_RX3_37 dX3_time_28 (fun H locs hP hz ho hS => ?_)
    refine lv_aload_n hx hb dX3_time_31 rfl (lv_at hl 0 rfl) ?_
    refine zm_get hx hb hK hts hown hP 0 (by decide) q_fl_RX3_37 (v := .int (zI (1))) rfl dX3_time_32 ?_
    refine z_if_ne (a := 1) (tgt := 50) hx hb dX3_time_35 (by decide) (by omega) (fun h_35 => ?_) (fun h_35 => ?_)
    · skip
      refine lv_lconst (v := 0) hx hb dX3_time_50 rfl ?_
      exact e_Wl (r := 0) hx hb hr hlk hS (by omega) (by omega) (by first | (exfalso; omega) | exact Or.inr ⟨⟨h_8, h_20⟩, rfl, hP⟩ | exact Or.inl ⟨(fun q => by first | exact h_8 q.1 | exact h_20 q.2), rfl, hP⟩) dX3_time_51
    · skip
      refine lv_iload_n hx hb dX3_time_38 rfl (lv_at hl 1 rfl) ?_
      refine lv_i2l (v := (zI (x)).toInt64) hx hb dX3_time_39 rfl ?_
      refine lv_ldc2 hx hb hown (hts _ q_k_RX3_190) dX3_time_40 ?_
      refine lv_lmul hx hb dX3_time_43 ?_
      refine lv_iload_n hx hb dX3_time_44 rfl (lv_at hl 2 rfl) ?_
      refine lv_i2l (v := (zI (y)).toInt64) hx hb dX3_time_45 rfl ?_
      refine lv_ldiv hx hb dX3_time_46 (by first | (exfalso; omega) | exact zL_ne (by omega)) ?_
      refine lv_goto (tgt := 51) hx hb dX3_time_47 (by decide) ?_
      exact e_Wl (r := (((zI (x)).toInt64) * (625000)) / ((zI (y)).toInt64)) hx hb hr hlk hS (by omega) (by omega) (by first | (exfalso; omega) | exact Or.inr ⟨⟨h_8, h_20⟩, rfl, hP⟩ | exact Or.inl ⟨(fun q => by first | exact h_8 q.1 | exact h_20 q.2), rfl, hP⟩) dX3_time_51
  · skip
    refine lv_iload_n hx hb dX3_time_11 rfl (lv_at hl 2 rfl) ?_
    refine z_bipush hx hb dX3_time_12 (by decide) ?_
    refine z_sipush hx hb dX3_time_14 (by decide) ?_
    refine k_R (c_SR (As := [.int (zI (y)), .int (zI (10)), .int (zI (400))]) (rest := [.ref (ad 0)]) ⟨hx, hb, hml, hown, hts⟩ hG hS hA (c_X3_isIn l G y 10 400 (show -2147483648 ≤ y ∧ y ≤ 2147483647 by omega) (show -2147483648 ≤ 10 ∧ 10 ≤ 2147483647 by omega) (show -2147483648 ≤ 400 ∧ 400 ≤ 2147483647 by omega)) ⟨q_ml_RX3_43, q_st_X3_isIn, q_ini_RX3, q_code_X3_isIn⟩ hs_X3_isIn trivial ⟨by decide, by decide⟩ ⟨Nat.zero_le _, Nat.zero_le _⟩ rfl hl.1 rfl (Nat.le_of_ble_eq_true rfl) dX3_time_17) ?_
    refine z_bif_eq (q := 10 ≤ y ∧ y ≤ 400) (tgt := 27) hx hb dX3_time_20 (by decide) (fun h_20 => ?_) (fun h_20 => ?_)
    · skip
      refine z_iconst hx hb dX3_time_27 ?_
      refine zm_put (x := 1) hx hb hK hts hown hP hS (hD 0 (by decide)) 0 (by decide) q_fl_RX3_37 dX3_time_28 (fun H locs hP hz ho hS => ?_)
      refine lv_aload_n hx hb dX3_time_31 rfl (lv_at hl 0 rfl) ?_
      refine zm_get hx hb hK hts hown hP 0 (by decide) q_fl_RX3_37 (v := .int (zI (1))) rfl dX3_time_32 ?_
      refine z_if_ne (a := 1) (tgt := 50) hx hb dX3_time_35 (by decide) (by omega) (fun h_35 => ?_) (fun h_35 => ?_)
      · skip
        refine lv_lconst (v := 0) hx hb dX3_time_50 rfl ?_
        exact e_Wl (r := 0) hx hb hr hlk hS (by omega) (by omega) (by first | (exfalso; omega) | exact Or.inr ⟨⟨h_8, h_20⟩, rfl, hP⟩ | exact Or.inl ⟨(fun q => by first | exact h_8 q.1 | exact h_20 q.2), rfl, hP⟩) dX3_time_51
      · skip
        refine lv_iload_n hx hb dX3_time_38 rfl (lv_at hl 1 rfl) ?_
        refine lv_i2l (v := (zI (x)).toInt64) hx hb dX3_time_39 rfl ?_
        refine lv_ldc2 hx hb hown (hts _ q_k_RX3_190) dX3_time_40 ?_
        refine lv_lmul hx hb dX3_time_43 ?_
        refine lv_iload_n hx hb dX3_time_44 rfl (lv_at hl 2 rfl) ?_
        refine lv_i2l (v := (zI (y)).toInt64) hx hb dX3_time_45 rfl ?_
        refine lv_ldiv hx hb dX3_time_46 (by first | (exfalso; omega) | exact zL_ne (by omega)) ?_
        refine lv_goto (tgt := 51) hx hb dX3_time_47 (by decide) ?_
        exact e_Wl (r := (((zI (x)).toInt64) * (625000)) / ((zI (y)).toInt64)) hx hb hr hlk hS (by omega) (by omega) (by first | (exfalso; omega) | exact Or.inr ⟨⟨h_8, h_20⟩, rfl, hP⟩ | exact Or.inl ⟨(fun q => by first | exact h_8 q.1 | exact h_20 q.2), rfl, hP⟩) dX3_time_51
    · skip
      refine z_iconst hx hb dX3_time_23 ?_
      refine lv_goto (tgt := 28) hx hb dX3_time_24 (by decide) ?_
      refine zm_put (x := 0) hx hb hK hts hown hP hS (hD 0 (by decide)) 0 (by decide) q_fl_RX3_37 dX3_time_28 (fun H locs hP hz ho hS => ?_)
      refine lv_aload_n hx hb dX3_time_31 rfl (lv_at hl 0 rfl) ?_
      refine zm_get hx hb hK hts hown hP 0 (by decide) q_fl_RX3_37 (v := .int (zI (0))) rfl dX3_time_32 ?_
      refine z_if_ne (a := 0) (tgt := 50) hx hb dX3_time_35 (by decide) (by omega) (fun h_35 => ?_) (fun h_35 => ?_)
      · skip
        refine lv_lconst (v := 0) hx hb dX3_time_50 rfl ?_
        exact e_Wl (r := 0) hx hb hr hlk hS (by omega) (by omega) (by first | (exfalso; omega) | exact Or.inr ⟨⟨h_8, h_20⟩, rfl, hP⟩ | exact Or.inl ⟨(fun q => by first | exact h_8 q.1 | exact h_20 q.2), rfl, hP⟩) dX3_time_51
      · skip
        refine lv_iload_n hx hb dX3_time_38 rfl (lv_at hl 1 rfl) ?_
        refine lv_i2l (v := (zI (x)).toInt64) hx hb dX3_time_39 rfl ?_
        refine lv_ldc2 hx hb hown (hts _ q_k_RX3_190) dX3_time_40 ?_
        refine lv_lmul hx hb dX3_time_43 ?_
        refine lv_iload_n hx hb dX3_time_44 rfl (lv_at hl 2 rfl) ?_
        refine lv_i2l (v := (zI (y)).toInt64) hx hb dX3_time_45 rfl ?_
        refine lv_ldiv hx hb dX3_time_46 (by first | (exfalso; omega) | exact zL_ne (by omega)) ?_
        refine lv_goto (tgt := 51) hx hb dX3_time_47 (by decide) ?_
        exact e_Wl (r := (((zI (x)).toInt64) * (625000)) / ((zI (y)).toInt64)) hx hb hr hlk hS (by omega) (by omega) (by first | (exfalso; omega) | exact Or.inr ⟨⟨h_8, h_20⟩, rfl, hP⟩ | exact Or.inl ⟨(fun q => by first | exact h_8 q.1 | exact h_20 q.2), rfl, hP⟩) dX3_time_51
