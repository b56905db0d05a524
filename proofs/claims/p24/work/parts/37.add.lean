theorem apS_ok {bar v : Int} {T1 P : Nat → Int → Int} {F1 : Nat → Int} (h : VOK T1 P (F1 0)) (hv : 0 ≤ v ∧ v < 15) (hn : F1 0 < 200) (he : 0 ≤ F1 1 ∧ F1 1 ≤ 1000000 ∧ 0 ≤ F1 1 / bar ∧ F1 1 / bar ≤ 1000) : VOK (apS bar v (T1, F1)).1 P (F1 0 + 1) := by
  refine ⟨by have := h.1; omega, by omega, fun i h0 h1 => ?_, h.2.2.2⟩
  by_cases e : i = F1 0
  · have e0 : (apS bar v (T1, F1)).1 0 i = F1 1 := by simp [apS, zR, e]
    have e1 : (apS bar v (T1, F1)).1 1 i = valT v := by simp [apS, zR, e]
    have e2 : (apS bar v (T1, F1)).1 2 i = valP v := by simp [apS, zR, e]
    have e3 : (apS bar v (T1, F1)).1 3 i = valD v := by simp [apS, zR, e]
    have e4 : (apS bar v (T1, F1)).1 4 i = -1 := by simp [apS, zR, e]
    have e5 : (apS bar v (T1, F1)).1 5 i = 0 := by simp [apS, zR, e]
    have e6 : (apS bar v (T1, F1)).1 6 i = F1 1 / bar := by simp [apS, zR, e]
    have r1 := valT_rng hv
    have r2 := valP_rng hv
    have r3 := valD_rng hv
    rw [e0, e1, e2, e3, e4, e5, e6]
    omega
  · have q : ∀ w, (apS bar v (T1, F1)).1 w i = T1 w i := fun w => by simp [apS, zR, e]
    rw [q 0, q 1, q 2, q 3, q 4, q 5, q 6]
    exact h.2.2.1 i h0 (by omega)
theorem apF_ok {bar : Int} {pc : Int → Int} {T P : Nat → Int → Int} {F : Nat → Int} (h : VOK T P (F 0)) (hb : 48 ≤ bar ∧ bar ≤ 2304) (he : 0 ≤ F 1 ∧ F 1 ≤ 100 * bar) {n : Int} (hn : n ≤ 56) (hpc : ∀ k, 0 ≤ k → k < n → 0 ≤ pc k ∧ pc k < 15) (hf : F 0 + n ≤ 200) : ∀ k : Nat, (k : Int) ≤ n → VOK (apF bar pc T F k).1 P ((apF bar pc T F k).2 0) ∧ (apF bar pc T F k).2 0 = F 0 + k ∧ 0 ≤ (apF bar pc T F k).2 1 ∧ (apF bar pc T F k).2 1 ≤ F 1 + 672 * k := by
  intro k
  induction k with
  | zero => intro _; exact ⟨h, by show F 0 = F 0 + 0; omega, he.1, by show F 1 ≤ F 1 + 672 * 0; omega⟩
  | succ k ih =>
    intro hk
    have q := ih (by omega)
    have hp := hpc (k : Int) (by omega) (by omega)
    have s : apF bar pc T F ((k + 1 : Nat) : Int) = apS bar (pc (k : Int)) (apF bar pc T F (k : Int)) := apF_s bar pc T F (i := (k : Int)) (by omega)
    rw [s]
    generalize apF bar pc T F (k : Int) = z at q
    obtain ⟨T1, F1⟩ := z
    obtain ⟨q1, q2, q3, q4⟩ := q
    have r1 := valT_rng hp
    have d0 : 0 ≤ F1 1 / bar := Int.ediv_nonneg q3 (by omega)
    have d1 : F1 1 / bar ≤ 1000 := by
      have : F1 1 < bar * 1000 := by
        have : F1 1 ≤ F 1 + 672 * k := q4
        omega
      exact Int.le_of_lt (Int.ediv_lt_of_lt_mul (by omega) (by rw [Int.mul_comm]; exact this))
    have q2' : F1 0 = F 0 + k := q2
    have q4' : F1 1 ≤ F 1 + 672 * k := q4
    have q3' : 0 ≤ F1 1 := q3
    refine ⟨?_, ?_, ?_, ?_⟩
    · exact apS_ok q1 hp (by omega) ⟨q3', by omega, d0, d1⟩
    · show F1 0 + 1 = _; omega
    · show 0 ≤ F1 1 + valT (pc (k : Int)); omega
    · show F1 1 + valT (pc (k : Int)) ≤ _; omega
theorem plN_r (F : Nat → Int) (A : Nat → Int → Int) (Fv : Int → Nat → Int) (v x : Int) : 0 ≤ plN F A Fv v x := (fp_le (by omega)).1
theorem plA_ok {F : Nat → Int} {A : Nat → Int → Int} {T : Int → Nat → Int → Int} {P : Nat → Int → Int} {Fv : Int → Nat → Int} {v x : Int} (h : VOK (T v) P (Fv v 0)) (hb : 48 ≤ F 2 ∧ F 2 ≤ 2304) (he : 0 ≤ Fv v 1 ∧ Fv v 1 ≤ 100 * F 2) (hn : plN F A Fv v x ≤ 56) (hf : Fv v 0 + plN F A Fv v x ≤ 200) : VOK (plA F A T Fv v x).1 P ((plA F A T Fv v x).2 0) ∧ (plA F A T Fv v x).2 0 = Fv v 0 + plN F A Fv v x := by
  have hr := plN_r F A Fv v x
  have hpr : ∀ k, 0 ≤ k → k < plN F A Fv v x → 0 ≤ plC F A Fv v x k ∧ plC F A Fv v x k < 15 := ppF_r (F 2) (valT x) (F 2 - (Fv v 1 - Fv v 1 / F 2 * F 2)) (A 1) hr
  have q := apF_ok (bar := F 2) (pc := plC F A Fv v x) (T := T v) (F := Fv v) h hb he hn hpr hf (plN F A Fv v x).toNat (by omega)
  rw [Int.toNat_of_nonneg hr] at q
  unfold plA
  exact ⟨q.1, q.2.1⟩
/-- the pieces are made notes -/
def anS (n0 n1 st sg oc t : Int) (i : Int) (z : (Nat → Int → Int) × (Nat → Int → Int)) : (Nat → Int → Int) × (Nat → Int → Int) := if i < n0 then z else (zR (zR z.1 4 i (toneF st sg oc)) 5 i (if t = 0 ∧ i = n1 - 1 then 0 else 1), zR (zR (zR z.2 0 i st) 1 i sg) 2 i oc)
def anF (n0 n1 st sg oc t : Int) (T P : Nat → Int → Int) : Int → (Nat → Int → Int) × (Nat → Int → Int) := pf (T, P) (anS n0 n1 st sg oc t)
theorem anF_s (n0 n1 st sg oc t : Int) (T P : Nat → Int → Int) {i : Int} (h : 0 ≤ i) : anF n0 n1 st sg oc t T P (i + 1) = anS n0 n1 st sg oc t i (anF n0 n1 st sg oc t T P i) := pf_s _ _ h
theorem anF_low (n0 n1 st sg oc t : Int) (T P : Nat → Int → Int) {b : Int} (hb : 0 ≤ b ∧ b ≤ n0) : anF n0 n1 st sg oc t T P b = (T, P) := by
  obtain ⟨k, rfl⟩ : ∃ k : Nat, b = (k : Int) := ⟨b.toNat, by omega⟩
  induction k with
  | zero => rfl
  | succ k ih =>
    have q := ih (by omega)
    rw [show ((k + 1 : Nat) : Int) = (k : Int) + 1 by omega, anF_s _ _ _ _ _ _ _ _ (by omega), q]
    unfold anS
    rw [if_pos (by omega)]
theorem anF_ok {n n0 n1 st sg oc t : Int} {T P : Nat → Int → Int} (h : VOK T P n) (hp : 0 ≤ st ∧ st < 7 ∧ 0 ≤ oc ∧ oc < 9 ∧ -2 ≤ sg ∧ sg ≤ 2 ∧ 0 ≤ toneF st sg oc ∧ toneF st sg oc ≤ 1000) {i : Int} (hi : 0 ≤ i) : VOK (anF n0 n1 st sg oc t T P i).1 (anF n0 n1 st sg oc t T P i).2 n := by
  refine pf_ind (fun (_ : Int) (z : (Nat → Int → Int) × (Nat → Int → Int)) => VOK z.1 z.2 n) h ?_ hi
  intro k z hk ih
  unfold anS
  split
  · exact ih
  · refine ⟨ih.1, ih.2.1, fun j h0 h1 => ?_, fun j h0 h1 => ?_⟩
    · have q := ih.2.2.1 j h0 h1
      generalize hx9 : (if t = 0 ∧ k = n1 - 1 then (0 : Int) else 1) = x9
      have hx : x9 = 0 ∨ x9 = 1 := by
        rw [← hx9]
        split
        · exact Or.inl rfl
        · exact Or.inr rfl
      by_cases e : j = k
      · subst e
        simp only [zR]
        simp
        omega
      · have e' : ∀ w, zR (zR z.1 4 k (toneF st sg oc)) 5 k x9 w j = z.1 w j := fun w => by rw [zR_n (Or.inr e), zR_n (Or.inr e)]
        show 0 ≤ zR (zR z.1 4 k (toneF st sg oc)) 5 k x9 0 j ∧ _
        simp only [e']
        exact q
    · have q := ih.2.2.2 j h0 h1
      by_cases e : j = k
      · subst e
        simp only [zR]
        simp
        omega
      · have e' : ∀ w, zR (zR (zR z.2 0 k st) 1 k sg) 2 k oc w j = z.2 w j := fun w => by rw [zR_n (Or.inr e), zR_n (Or.inr e), zR_n (Or.inr e)]
        simp only [e']
        exact q
set_option maxHeartbeats 2000000 in
theorem c_X2_addRest (l : Launch) (G : zG) (ad : Nat → Nat) (F : Nat → Int) (A E : Nat → Int → Int) (T P S Av : Int → Nat → Int → Int) (Fv : Int → Nat → Int) (v pa d : Int) (sz : Nat) (hst : l.stackTraces = false) (r_v : -2147483648 ≤ v ∧ v ≤ 2147483647) (r_pa : -2147483648 ≤ pa ∧ pa ≤ 2147483647) (r_d : -2147483648 ≤ d ∧ d ≤ 2147483647) (hk9 : -7 ≤ F 3 ∧ F 3 ≤ 7) (hb99 : 0 < F 1 ∧ F 1 ≤ 1000000) (hVo : ∀ v, 0 ≤ v → v < 4 → VOK (T v) (P v) (Fv v 0)) (hVA : ∀ v, 0 ≤ v → v < 4 → ∀ p, 0 ≤ p → p < 63 → -2 ≤ Av v 1 p ∧ Av v 1 p ≤ 2) (hbt : 48 ≤ F 2 ∧ F 2 ≤ 2304 ∧ F 2 % 12 = 0) (hen : ∀ v, 0 ≤ v → v < 4 → Fv v 1 ≤ 100 * F 2 ∧ Fv v 1 % 12 = 0) (hVC : COK F Fv) : MX l yX2_addRest cX2_addRest 6 (some .int) 7 130 (2) (12) G [.ref (ad 0), .int (zI (v)), .int (zI (pa)), .int (zI (d))] (fA 94 ad sz) sz (CP G ad F A E T P S Av Fv) (QW (fA 94 ad sz) (fun r H => r = plN F A Fv v (findV pa d) ∧ (0 ≤ v ∧ v < F 0) ∧ 0 ≤ (findV pa d) ∧ ¬ (200 < Fv v 0 + plN F A Fv v (findV pa d) ∨ 100 * F 2 < Fv v 1 + valT (findV pa d)) ∧ arO G ad F (zW A 1 (plC F A Fv v (findV pa d))) E (zV T v (plA F A T Fv v (findV pa d)).1) P S Av (zV Fv v (plA F A T Fv v (findV pa d)).2) v H)) (fun E9 H => ((E9 = xIO ∧ ¬ (0 ≤ v ∧ v < F 0)) ∨ (E9 = xIA ∧ (0 ≤ v ∧ v < F 0) ∧ (findV pa d) < 0) ∨ (E9 = xIS ∧ (0 ≤ v ∧ v < F 0) ∧ 0 ≤ (findV pa d) ∧ (200 < Fv v 0 + plN F A Fv v (findV pa d) ∨ 100 * F 2 < Fv v 1 + valT (findV pa d)))) ∧ ∃ A', A' 0 = A 0 ∧ CP G ad F A' E T P S Av Fv H) := by
  refine mx_of hp_X2_addRest (Nat.le_of_ble_eq_true rfl) ?_
  intro p env s m below meth c ls hB hnt hsz hP hl
  obtain ⟨hx, hb, hml, hr, hlk, hown, hts, hG⟩ := hB
  subst hsz
  have hK := hG.1
  have hS : va_S (fA 94 ad s.heap.size) s.heap s.heap [] := va_S.rf
  have hA : ∀ q : Nat, (fA 94 ad s.heap.size) q → G.2.2 ≤ q := fA_lo hP.1.2 hG.2.1
  have hD : ∀ k, k < 94 → (fA 94 ad s.heap.size) (ad k) := fun k hk => fA_in hk
  have hl : lv_has ls 6 [(0, .ref (ad 0)), (1, .int (zI (v))), (2, .int (zI (pa))), (3, .int (zI (d)))] := hl
  have h0b := hVC.1
  refine lv_aload_n hx hb dX2_addRest_0 rfl (lv_at hl 0 rfl) ?_
  refine lv_iload_n hx hb dX2_addRest_1 rfl (lv_at hl 1 rfl) ?_
  refine k_Xv (c_VX (As := [.int (zI (v))]) (rest := []) ⟨hx, hb, hml, hown, hts⟩ hG hS hA (c_X2_requireVoice l G ad F A E T P S Av Fv v s.heap.size hst (show -2147483648 ≤ v ∧ v ≤ 2147483647 by omega) hVC) ⟨q_ml_RX2_93, q_im_X2_requireVoice, q_sel_X2_requireVoice, q_ini_RX2, q_code_X2_requireVoice⟩ hv_X2_requireVoice (CP.rec hK hP) hP ⟨Nat.le_of_ble_eq_true rfl, Nat.le_of_ble_eq_true rfl⟩ ⟨Nat.le_of_ble_eq_true rfl, Nat.le_of_ble_eq_true rfl⟩ rfl hl.1 rfl (Nat.le_of_ble_eq_true rfl) dX2_addRest_2) hS (fA_mono hS.1) (fun H1 locs1 hq hz1 hk1 hS => ?_) (fun E9 H1 locs1 q9 ce hq hz1 hk1 hS hce hcv hcl => x_out hnt hlk hce hcv hcl hS (by obtain ⟨hE, hC⟩ := hq; refine ⟨?_, A, rfl, hC⟩; obtain ⟨rfl, hE2⟩ := hE; first | exact Or.inl ⟨rfl, by omega⟩ | exact Or.inr (Or.inl ⟨rfl, by omega⟩) | exact Or.inr (Or.inr ⟨rfl, by omega⟩)) (by first | exact Nat.le_of_ble_eq_true rfl | omega) (by first | exact Nat.le_of_ble_eq_true rfl | omega))
  obtain ⟨hv9, hP⟩ := hq
  have hvi := hVC.2 v (by omega) (by omega)
  have hen9 := hen v (by omega) (by omega)
  refine lv_iload_n hx hb dX2_addRest_5 rfl (lv_at hl 2 rfl) ?_
  refine lv_iload_n hx hb dX2_addRest_6 rfl (lv_at hl 3 rfl) ?_
  refine k_R (c_SR (As := [.int (zI (pa)), .int (zI (d))]) (rest := []) ⟨hx, hb, hml, hown, hts⟩ hG hS hA (c_X2_findValue l G pa d (show -2147483648 ≤ pa ∧ pa ≤ 2147483647 by omega) (show -2147483648 ≤ d ∧ d ≤ 2147483647 by omega)) ⟨q_ml_RX2_85, q_st_X2_findValue, q_ini_RX2, q_code_X2_findValue⟩ hs_X2_findValue trivial ⟨Nat.le_of_ble_eq_true rfl, Nat.le_of_ble_eq_true rfl⟩ ⟨Nat.le_of_ble_eq_true rfl, Nat.le_of_ble_eq_true rfl⟩ rfl hl.1 rfl (Nat.le_of_ble_eq_true rfl) dX2_addRest_7) ?_
  have hfv := findV_rng pa d
  refine lv_istore (lv' := [(4, .int (zI (findV pa d))), (0, .ref (ad 0)), (1, .int (zI (v))), (2, .int (zI (pa))), (3, .int (zI (d)))]) hx hb dX2_addRest_10 hl (by decide) rfl (fun ls hl => ?_)
  refine lv_iload hx hb dX2_addRest_12 (lv_at hl 0 rfl) ?_
  refine z_if_ge (a := findV pa d) (tgt := 27) hx hb dX2_addRest_14 (by decide) (by omega) (fun h_14 => ?_) (fun h_14 => ?_)
  · skip
    refine lv_aload_n hx hb dX2_addRest_27 rfl (lv_at hl 1 rfl) ?_
    refine lv_aload_n hx hb dX2_addRest_28 rfl (lv_at hl 1 rfl) ?_
    refine zs_get hx hb hK hts hown hP 0 (by decide) q_fl_RX2_11 (v := .ref (ad 1)) rfl dX2_addRest_29 ?_
    refine lv_iload_n hx hb dX2_addRest_32 rfl (lv_at hl 2 rfl) ?_
    refine zs_aV hx hb hK hP (i := v) (by omega) dX2_addRest_33 ?_
    have hV_v : VP G (vad ad (v)) (T (v)) (P (v)) (S (v)) (Av (v)) (Fv (v)) H1 := CP.voice hP (v) (by omega)
    refine lv_iload hx hb dX2_addRest_34 (lv_at hl 0 rfl) ?_
    refine k_Xi (c_VX (As := [.ref (vad ad (v) 0), .int (zI (findV pa d))]) (rest := []) ⟨hx, hb, hml, hown, hts⟩ hG hS hA (c_X2_addPieces l G ad F A E T P S Av Fv v (findV pa d) H1.size hst (by omega) (by omega) (by omega) (by omega) (by omega) hVC) ⟨q_ml_RX2_106, q_im_X2_addPieces, q_sel_X2_addPieces, q_ini_RX2, q_code_X2_addPieces⟩ hv_X2_addPieces (CP.rec hK hP) hP ⟨Nat.le_of_ble_eq_true rfl, Nat.le_of_ble_eq_true rfl⟩ ⟨Nat.le_of_ble_eq_true rfl, Nat.le_of_ble_eq_true rfl⟩ rfl hl.1 rfl (Nat.le_of_ble_eq_true rfl) dX2_addRest_36) hS (fA_mono hS.1) (fun r_36 H1 locs1 hq hz1 hk1 hS => ?_) (fun E9 H1 locs1 q9 ce hq hz1 hk1 hS hce hcv hcl => x_out hnt hlk hce hcv hcl hS (by obtain ⟨hE, hC⟩ := hq; refine ⟨?_, hC⟩; obtain ⟨rfl, hE2⟩ := hE; first | exact Or.inl ⟨rfl, by omega⟩ | exact Or.inr (Or.inl ⟨rfl, by omega⟩) | exact Or.inr (Or.inr ⟨rfl, by omega⟩)) (by first | exact Nat.le_of_ble_eq_true rfl | omega) (by first | exact Nat.le_of_ble_eq_true rfl | omega))
    obtain ⟨hr9, hr56, hful, hP⟩ := hq
    have hpo := plA_ok (x := (findV pa d)) (A := A) (F := F) (hVo v (by omega) (by omega)) (by omega) (by omega) (by omega) (by omega)
    refine lv_istore (lv' := [(5, .int (zI (r_36))), (4, .int (zI (findV pa d))), (0, .ref (ad 0)), (1, .int (zI (v))), (2, .int (zI (pa))), (3, .int (zI (d)))]) hx hb dX2_addRest_39 hl (by decide) rfl (fun ls hl => ?_)
    refine lv_aload_n hx hb dX2_addRest_41 rfl (lv_at hl 2 rfl) ?_
    refine lv_aload_n hx hb dX2_addRest_42 rfl (lv_at hl 2 rfl) ?_
    refine zs_get hx hb hK hts hown hP 0 (by decide) q_fl_RX2_11 (v := .ref (ad 1)) rfl dX2_addRest_43 ?_
    refine lv_iload_n hx hb dX2_addRest_46 rfl (lv_at hl 3 rfl) ?_
    refine zs_aV hx hb hK hP (i := v) (by omega) dX2_addRest_47 ?_
    have hV_v : VP G (vad ad (v)) ((zV T v (plA F A T Fv v (findV pa d)).1) (v)) (P (v)) (S (v)) (Av (v)) ((zV Fv v (plA F A T Fv v (findV pa d)).2) (v)) H1 := CP.voice hP (v) (by omega)
    refine k_Wv (c_VW (As := [.ref (vad ad (v) 0)]) (rest := []) ⟨hx, hb, hml, hown, hts⟩ hG hS hA (c_X2_arrangeOne l G ad F (zW A 1 (plC F A Fv v (findV pa d))) E (zV T v (plA F A T Fv v (findV pa d)).1) P S Av (zV Fv v (plA F A T Fv v (findV pa d)).2) v H1.size (by omega) (by omega) (by omega) ⟨(by rw [zV_s, zV_s]; exact hpo.1), hVA v (by omega) (by omega)⟩) ⟨q_ml_RX2_118, q_im_X2_arrangeOne, q_sel_X2_arrangeOne, q_ini_RX2, q_code_X2_arrangeOne⟩ hv_X2_arrangeOne (CP.rec hK hP) hP ⟨Nat.le_of_ble_eq_true rfl, Nat.le_of_ble_eq_true rfl⟩ ⟨Nat.le_of_ble_eq_true rfl, Nat.le_of_ble_eq_true rfl⟩ rfl hl.1 rfl (Nat.le_of_ble_eq_true rfl) dX2_addRest_48) hS (fA_mono hS.1) (fun H1 locs1 hq hz1 hk1 hS => ?_)
    have hQ := hq
    refine lv_iload hx hb dX2_addRest_51 (lv_at hl 0 rfl) ?_
    exact vx_ret (e_Wi (r := r_36) hx hb hr hlk (n_i _) hS (by omega) (by omega) ⟨hr9, by omega, by omega, by omega, hQ⟩ dX2_addRest_53)
  · skip
    exact z_thrIA hx hb hst hown hts hG hnt hS hA (text := "no such value") (is := 88) (by decide +kernel) dX2_addRest_17 dX2_addRest_20 dX2_addRest_21 dX2_addRest_23 dX2_addRest_26 (hl.1.trans hml.symm) ⟨by decide, by decide, by (show 0 + (1) + 1 ≤ _; first | exact Nat.le_of_ble_eq_true rfl | omega), by (show 0 + (6) + 6 ≤ _; first | exact Nat.le_of_ble_eq_true rfl | omega)⟩ hlk (fun H1 q1 q2 => ⟨(by first | exact Or.inl ⟨rfl, by omega⟩ | exact Or.inr (Or.inl ⟨rfl, by omega⟩) | exact Or.inr (Or.inr ⟨rfl, by omega⟩)), _, rfl, hP.grow q2⟩) (by first | exact Nat.le_of_ble_eq_true rfl | omega) (by first | exact Nat.le_of_ble_eq_true rfl | omega)
set_option maxHeartbeats 2000000 in
theorem c_X2_addNote (l : Launch) (G : zG) (ad : Nat → Nat) (F : Nat → Int) (A E : Nat → Int → Int) (T P S Av : Int → Nat → Int → Int) (Fv : Int → Nat → Int) (v pa d st sg oc t : Int) (sz : Nat) (hst : l.stackTraces = false) (r_v : -2147483648 ≤ v ∧ v ≤ 2147483647) (r_pa : -2147483648 ≤ pa ∧ pa ≤ 2147483647) (r_d : -2147483648 ≤ d ∧ d ≤ 2147483647) (r_st : -2147483648 ≤ st ∧ st ≤ 2147483647) (r_sg : -2147483648 ≤ sg ∧ sg ≤ 2147483647) (r_oc : -2147483648 ≤ oc ∧ oc ≤ 2147483647) (r_t : -2147483648 ≤ t ∧ t ≤ 2147483647) (ht9 : t = 0 ∨ t = 1) (hk9 : -7 ≤ F 3 ∧ F 3 ≤ 7) (hb99 : 0 < F 1 ∧ F 1 ≤ 1000000) (hVo : ∀ v, 0 ≤ v → v < 4 → VOK (T v) (P v) (Fv v 0)) (hVA : ∀ v, 0 ≤ v → v < 4 → ∀ p, 0 ≤ p → p < 63 → -2 ≤ Av v 1 p ∧ Av v 1 p ≤ 2) (hbt : 48 ≤ F 2 ∧ F 2 ≤ 2304 ∧ F 2 % 12 = 0) (hen : ∀ v, 0 ≤ v → v < 4 → Fv v 1 ≤ 100 * F 2 ∧ Fv v 1 % 12 = 0) (hVC : COK F Fv) : MX l yX2_addNote cX2_addNote 14 (some .int) 7 130 (3) (18) G [.ref (ad 0), .int (zI (v)), .int (zI (pa)), .int (zI (d)), .int (zI (st)), .int (zI (sg)), .int (zI (oc)), .int (zI (t))] (fA 94 ad sz) sz (CP G ad F A E T P S Av Fv) (QW (fA 94 ad sz) (fun r H => r = plN F A Fv v (findV pa d) ∧ (0 ≤ v ∧ v < F 0) ∧ (0 ≤ (findV pa d) ∧ (0 ≤ st ∧ st < 7 ∧ 0 ≤ oc ∧ oc < 9 ∧ -2 ≤ sg ∧ sg ≤ 2 ∧ 0 ≤ toneF st sg oc)) ∧ ¬ (200 < Fv v 0 + plN F A Fv v (findV pa d) ∨ 100 * F 2 < Fv v 1 + valT (findV pa d)) ∧ arO G ad F (zW A 1 (plC F A Fv v (findV pa d))) E (zV T v (anF (Fv v 0) (Fv v 0 + plN F A Fv v (findV pa d)) st sg oc t (plA F A T Fv v (findV pa d)).1 (P v) (Fv v 0 + plN F A Fv v (findV pa d))).1) (zV P v (anF (Fv v 0) (Fv v 0 + plN F A Fv v (findV pa d)) st sg oc t (plA F A T Fv v (findV pa d)).1 (P v) (Fv v 0 + plN F A Fv v (findV pa d))).2) S Av (zV Fv v (plA F A T Fv v (findV pa d)).2) v H)) (fun E9 H => ((E9 = xIO ∧ ¬ (0 ≤ v ∧ v < F 0)) ∨ (E9 = xIA ∧ (0 ≤ v ∧ v < F 0) ∧ ¬ (0 ≤ (findV pa d) ∧ (0 ≤ st ∧ st < 7 ∧ 0 ≤ oc ∧ oc < 9 ∧ -2 ≤ sg ∧ sg ≤ 2 ∧ 0 ≤ toneF st sg oc))) ∨ (E9 = xIS ∧ (0 ≤ v ∧ v < F 0) ∧ (0 ≤ (findV pa d) ∧ (0 ≤ st ∧ st < 7 ∧ 0 ≤ oc ∧ oc < 9 ∧ -2 ≤ sg ∧ sg ≤ 2 ∧ 0 ≤ toneF st sg oc)) ∧ (200 < Fv v 0 + plN F A Fv v (findV pa d) ∨ 100 * F 2 < Fv v 1 + valT (findV pa d)))) ∧ ∃ A', A' 0 = A 0 ∧ CP G ad F A' E T P S Av Fv H) := by
  refine mx_of hp_X2_addNote (Nat.le_of_ble_eq_true rfl) ?_
  intro p env s m below meth c ls hB hnt hsz hP hl
  obtain ⟨hx, hb, hml, hr, hlk, hown, hts, hG⟩ := hB
  subst hsz
  have hK := hG.1
  have hS : va_S (fA 94 ad s.heap.size) s.heap s.heap [] := va_S.rf
  have hA : ∀ q : Nat, (fA 94 ad s.heap.size) q → G.2.2 ≤ q := fA_lo hP.1.2 hG.2.1
  have hD : ∀ k, k < 94 → (fA 94 ad s.heap.size) (ad k) := fun k hk => fA_in hk
  have hl : lv_has ls 14 [(0, .ref (ad 0)), (1, .int (zI (v))), (2, .int (zI (pa))), (3, .int (zI (d))), (4, .int (zI (st))), (5, .int (zI (sg))), (6, .int (zI (oc))), (7, .int (zI (t)))] := hl
  have h0b := hVC.1
  refine lv_aload_n hx hb dX2_addNote_0 rfl (lv_at hl 0 rfl) ?_
  refine lv_iload_n hx hb dX2_addNote_1 rfl (lv_at hl 1 rfl) ?_
  refine k_Xv (c_VX (As := [.int (zI (v))]) (rest := []) ⟨hx, hb, hml, hown, hts⟩ hG hS hA (c_X2_requireVoice l G ad F A E T P S Av Fv v s.heap.size hst (show -2147483648 ≤ v ∧ v ≤ 2147483647 by omega) hVC) ⟨q_ml_RX2_93, q_im_X2_requireVoice, q_sel_X2_requireVoice, q_ini_RX2, q_code_X2_requireVoice⟩ hv_X2_requireVoice (CP.rec hK hP) hP ⟨Nat.le_of_ble_eq_true rfl, Nat.le_of_ble_eq_true rfl⟩ ⟨Nat.le_of_ble_eq_true rfl, Nat.le_of_ble_eq_true rfl⟩ rfl hl.1 rfl (Nat.le_of_ble_eq_true rfl) dX2_addNote_2) hS (fA_mono hS.1) (fun H1 locs1 hq hz1 hk1 hS => ?_) (fun E9 H1 locs1 q9 ce hq hz1 hk1 hS hce hcv hcl => x_out hnt hlk hce hcv hcl hS (by obtain ⟨hE, hC⟩ := hq; refine ⟨?_, A, rfl, hC⟩; obtain ⟨rfl, hE2⟩ := hE; first | exact Or.inl ⟨rfl, by omega⟩ | exact Or.inr (Or.inl ⟨rfl, by omega⟩) | exact Or.inr (Or.inr ⟨rfl, by omega⟩)) (by first | exact Nat.le_of_ble_eq_true rfl | omega) (by first | exact Nat.le_of_ble_eq_true rfl | omega))
  obtain ⟨hv9, hP⟩ := hq
  have hvi := hVC.2 v (by omega) (by omega)
  have hen9 := hen v (by omega) (by omega)
  refine lv_iload_n hx hb dX2_addNote_5 rfl (lv_at hl 2 rfl) ?_
  refine lv_iload_n hx hb dX2_addNote_6 rfl (lv_at hl 3 rfl) ?_
  refine k_R (c_SR (As := [.int (zI (pa)), .int (zI (d))]) (rest := []) ⟨hx, hb, hml, hown, hts⟩ hG hS hA (c_X2_findValue l G pa d (show -2147483648 ≤ pa ∧ pa ≤ 2147483647 by omega) (show -2147483648 ≤ d ∧ d ≤ 2147483647 by omega)) ⟨q_ml_RX2_85, q_st_X2_findValue, q_ini_RX2, q_code_X2_findValue⟩ hs_X2_findValue trivial ⟨Nat.le_of_ble_eq_true rfl, Nat.le_of_ble_eq_true rfl⟩ ⟨Nat.le_of_ble_eq_true rfl, Nat.le_of_ble_eq_true rfl⟩ rfl hl.1 rfl (Nat.le_of_ble_eq_true rfl) dX2_addNote_7) ?_
  have hfv := findV_rng pa d
  refine lv_istore (lv' := [(8, .int (zI (findV pa d))), (0, .ref (ad 0)), (1, .int (zI (v))), (2, .int (zI (pa))), (3, .int (zI (d))), (4, .int (zI (st))), (5, .int (zI (sg))), (6, .int (zI (oc))), (7, .int (zI (t)))]) hx hb dX2_addNote_10 hl (by decide) rfl (fun ls hl => ?_)
  refine lv_iload hx hb dX2_addNote_12 (lv_at hl 0 rfl) ?_
  refine z_if_lt (a := findV pa d) (tgt := 29) hx hb dX2_addNote_14 (by decide) (by omega) (fun h_14 => ?_) (fun h_14 => ?_)
  · skip
    exact z_thrIA hx hb hst hown hts hG hnt hS hA (text := "no such value or pitch") (is := 101) (by decide +kernel) dX2_addNote_29 dX2_addNote_32 dX2_addNote_33 dX2_addNote_35 dX2_addNote_38 (hl.1.trans hml.symm) ⟨by decide, by decide, by (show 0 + (1) + 1 ≤ _; first | exact Nat.le_of_ble_eq_true rfl | omega), by (show 0 + (6) + 6 ≤ _; first | exact Nat.le_of_ble_eq_true rfl | omega)⟩ hlk (fun H1 q1 q2 => ⟨(by first | exact Or.inl ⟨rfl, by omega⟩ | exact Or.inr (Or.inl ⟨rfl, by omega⟩) | exact Or.inr (Or.inr ⟨rfl, by omega⟩)), _, rfl, hP.grow q2⟩) (by first | exact Nat.le_of_ble_eq_true rfl | omega) (by first | exact Nat.le_of_ble_eq_true rfl | omega)
  · skip
    refine lv_iload hx hb dX2_addNote_17 (lv_at hl 5 rfl) ?_
    refine lv_iload hx hb dX2_addNote_19 (lv_at hl 6 rfl) ?_
    refine lv_iload hx hb dX2_addNote_21 (lv_at hl 7 rfl) ?_
    refine k_R (c_SR (As := [.int (zI (st)), .int (zI (sg)), .int (zI (oc))]) (rest := []) ⟨hx, hb, hml, hown, hts⟩ hG hS hA (c_X2_isPitch l G st sg oc (show -2147483648 ≤ st ∧ st ≤ 2147483647 by omega) (show -2147483648 ≤ sg ∧ sg ≤ 2147483647 by omega) (show -2147483648 ≤ oc ∧ oc ≤ 2147483647 by omega)) ⟨q_ml_RX2_97, q_st_X2_isPitch, q_ini_RX2, q_code_X2_isPitch⟩ hs_X2_isPitch trivial ⟨Nat.le_of_ble_eq_true rfl, Nat.le_of_ble_eq_true rfl⟩ ⟨Nat.le_of_ble_eq_true rfl, Nat.le_of_ble_eq_true rfl⟩ rfl hl.1 rfl (Nat.le_of_ble_eq_true rfl) dX2_addNote_23) ?_
    refine z_bif_ne (q := 0 ≤ st ∧ st < 7 ∧ 0 ≤ oc ∧ oc < 9 ∧ -2 ≤ sg ∧ sg ≤ 2 ∧ 0 ≤ toneF st sg oc) (tgt := 39) hx hb dX2_addNote_26 (by decide) (fun h_26 => ?_) (fun h_26 => ?_)
    · skip
      refine lv_aload_n hx hb dX2_addNote_39 rfl (lv_at hl 1 rfl) ?_
      refine zs_get hx hb hK hts hown hP 0 (by decide) q_fl_RX2_11 (v := .ref (ad 1)) rfl dX2_addNote_40 ?_
      refine lv_iload_n hx hb dX2_addNote_43 rfl (lv_at hl 2 rfl) ?_
      refine zs_aV hx hb hK hP (i := v) (by omega) dX2_addNote_44 ?_
      have hV_v : VP G (vad ad (v)) (T (v)) (P (v)) (S (v)) (Av (v)) (Fv (v)) H1 := CP.voice hP (v) (by omega)
      have hDv : ∀ k, k < 21 → (fA 94 ad s.heap.size) (vad ad (v) k) := fun k hk => fA_v (by omega) hS.1 _ (fA_in hk)
      refine lv_astore (lv' := [(9, .ref (vad ad (v) 0)), (8, .int (zI (findV pa d))), (0, .ref (ad 0)), (1, .int (zI (v))), (2, .int (zI (pa))), (3, .int (zI (d))), (4, .int (zI (st))), (5, .int (zI (sg))), (6, .int (zI (oc))), (7, .int (zI (t)))]) hx hb dX2_addNote_45 hl (by decide) rfl (fun ls hl => ?_)
      refine lv_aload hx hb dX2_addNote_47 (lv_at hl 0 rfl) ?_
      refine zv_get hx hb hK hts hown hV_v 5 (by decide) q_fl_RX2_103 (v := .int (zI ((Fv (v)) 0))) rfl dX2_addNote_49 ?_
      refine lv_istore (lv' := [(10, .int (zI ((Fv (v)) 0))), (9, .ref (vad ad (v) 0)), (8, .int (zI (findV pa d))), (0, .ref (ad 0)), (1, .int (zI (v))), (2, .int (zI (pa))), (3, .int (zI (d))), (4, .int (zI (st))), (5, .int (zI (sg))), (6, .int (zI (oc))), (7, .int (zI (t)))]) hx hb dX2_addNote_52 hl (by decide) rfl (fun ls hl => ?_)
      refine lv_aload_n hx hb dX2_addNote_54 rfl (lv_at hl 3 rfl) ?_
      refine lv_aload hx hb dX2_addNote_55 (lv_at hl 1 rfl) ?_
      refine lv_iload hx hb dX2_addNote_57 (lv_at hl 2 rfl) ?_
      refine k_Xi (c_VX (As := [.ref (vad ad (v) 0), .int (zI (findV pa d))]) (rest := []) ⟨hx, hb, hml, hown, hts⟩ hG hS hA (c_X2_addPieces l G ad F A E T P S Av Fv v (findV pa d) H1.size hst (by omega) (by omega) (by omega) (by omega) (by omega) hVC) ⟨q_ml_RX2_106, q_im_X2_addPieces, q_sel_X2_addPieces, q_ini_RX2, q_code_X2_addPieces⟩ hv_X2_addPieces (CP.rec hK hP) hP ⟨Nat.le_of_ble_eq_true rfl, Nat.le_of_ble_eq_true rfl⟩ ⟨Nat.le_of_ble_eq_true rfl, Nat.le_of_ble_eq_true rfl⟩ rfl hl.1 rfl (Nat.le_of_ble_eq_true rfl) dX2_addNote_59) hS (fA_mono hS.1) (fun r_59 H1 locs1 hq hz1 hk1 hS => ?_) (fun E9 H1 locs1 q9 ce hq hz1 hk1 hS hce hcv hcl => x_out hnt hlk hce hcv hcl hS (by obtain ⟨hE, hC⟩ := hq; refine ⟨?_, hC⟩; obtain ⟨rfl, hE2⟩ := hE; first | exact Or.inl ⟨rfl, by omega⟩ | exact Or.inr (Or.inl ⟨rfl, by omega⟩) | exact Or.inr (Or.inr ⟨rfl, by omega⟩)) (by first | exact Nat.le_of_ble_eq_true rfl | omega) (by first | exact Nat.le_of_ble_eq_true rfl | omega))
      have hst9 := stepT_rng (k := st) (by omega)
      have hto : toneF st sg oc = 12 * oc + stepT st + sg := rfl
      obtain ⟨hr9, hr56, hful, hP⟩ := hq
      have hpo := plA_ok (x := (findV pa d)) (A := A) (F := F) (hVo v (by omega) (by omega)) (by omega) (by omega) (by omega) (by omega)
      obtain ⟨np, hnp⟩ : ∃ np, np = plN F A Fv v (findV pa d) := ⟨_, rfl⟩
      have hr9 : r_59 = np := hr9.trans hnp.symm
      have hpc : (plA F A T Fv v (findV pa d)).2 0 = Fv v 0 + np := by rw [hnp]; exact hpo.2
      refine lv_istore (lv' := [(11, .int (zI (r_59))), (10, .int (zI ((Fv (v)) 0))), (9, .ref (vad ad (v) 0)), (8, .int (zI (findV pa d))), (0, .ref (ad 0)), (1, .int (zI (v))), (2, .int (zI (pa))), (3, .int (zI (d))), (4, .int (zI (st))), (5, .int (zI (sg))), (6, .int (zI (oc))), (7, .int (zI (t)))]) hx hb dX2_addNote_62 hl (by decide) rfl (fun ls hl => ?_)
      refine lv_iload hx hb dX2_addNote_64 (lv_at hl 1 rfl) ?_
      refine lv_istore (lv' := [(12, .int (zI ((Fv (v)) 0))), (11, .int (zI (r_59))), (10, .int (zI ((Fv (v)) 0))), (9, .ref (vad ad (v) 0)), (8, .int (zI (findV pa d))), (0, .ref (ad 0)), (1, .int (zI (v))), (2, .int (zI (pa))), (3, .int (zI (d))), (4, .int (zI (st))), (5, .int (zI (sg))), (6, .int (zI (oc))), (7, .int (zI (t)))]) hx hb dX2_addNote_66 hl (by decide) rfl (fun ls hl => ?_)
      have hP : CP G ad F (zW A 1 (plC F A Fv v (findV pa d))) E (zV T v (plA F A T Fv v (findV pa d)).1) (zV P v (P v)) S Av (zV Fv v (plA F A T Fv v (findV pa d)).2) H1 := by rw [zV_id P v]; exact hP
      have lp_68 : ∀ (n : Nat) (i : Int) (T1 P1 : Nat → Int → Int), Fv v 0 ≤ i → i ≤ Fv v 0 + np → (T1, P1) = anF (Fv v 0) (Fv v 0 + plN F A Fv v (findV pa d)) st sg oc t (plA F A T Fv v (findV pa d)).1 (P v) i → Fv v 0 + np - i < n → ∀ (H : Heap) (locs : List Loc), CP G ad F (zW A 1 (plC F A Fv v (findV pa d))) E (zV T v T1) (zV P v P1) S Av (zV Fv v (plA F A T Fv v (findV pa d)).2) H → va_S (fA 94 ad s.heap.size) s.heap H locs → ∀ (ls : Array Slot), lv_has ls 14 [(12, .int (zI (i))), (11, .int (zI (r_59))), (9, .ref (vad ad (v) 0)), (0, .ref (ad 0)), (1, .int (zI (v))), (4, .int (zI (st))), (5, .int (zI (sg))), (6, .int (zI (oc))), (7, .int (zI (t)))] → W p l env (rmz 7 130 3 18) s m (([.ref (ad 0), .int (zI (v)), .int (zI (pa)), .int (zI (d)), .int (zI (st)), .int (zI (sg)), .int (zI (oc)), .int (zI (t))] : List Value).toArray) below meth c H locs (0 + (1) + (1)) (0 + (6) + (6)) (vx_MQ below (QW (fA 94 ad s.heap.size) (fun r H => r = plN F A Fv v (findV pa d) ∧ (0 ≤ v ∧ v < F 0) ∧ (0 ≤ (findV pa d) ∧ (0 ≤ st ∧ st < 7 ∧ 0 ≤ oc ∧ oc < 9 ∧ -2 ≤ sg ∧ sg ≤ 2 ∧ 0 ≤ toneF st sg oc)) ∧ ¬ (200 < Fv v 0 + plN F A Fv v (findV pa d) ∨ 100 * F 2 < Fv v 1 + valT (findV pa d)) ∧ arO G ad F (zW A 1 (plC F A Fv v (findV pa d))) E (zV T v (anF (Fv v 0) (Fv v 0 + plN F A Fv v (findV pa d)) st sg oc t (plA F A T Fv v (findV pa d)).1 (P v) (Fv v 0 + plN F A Fv v (findV pa d))).1) (zV P v (anF (Fv v 0) (Fv v 0 + plN F A Fv v (findV pa d)) st sg oc t (plA F A T Fv v (findV pa d)).1 (P v) (Fv v 0 + plN F A Fv v (findV pa d))).2) S Av (zV Fv v (plA F A T Fv v (findV pa d)).2) v H)) (XQ (fA 94 ad s.heap.size) (fun E9 H => ((E9 = xIO ∧ ¬ (0 ≤ v ∧ v < F 0)) ∨ (E9 = xIA ∧ (0 ≤ v ∧ v < F 0) ∧ ¬ (0 ≤ (findV pa d) ∧ (0 ≤ st ∧ st < 7 ∧ 0 ≤ oc ∧ oc < 9 ∧ -2 ≤ sg ∧ sg ≤ 2 ∧ 0 ≤ toneF st sg oc))) ∨ (E9 = xIS ∧ (0 ≤ v ∧ v < F 0) ∧ (0 ≤ (findV pa d) ∧ (0 ≤ st ∧ st < 7 ∧ 0 ≤ oc ∧ oc < 9 ∧ -2 ≤ sg ∧ sg ≤ 2 ∧ 0 ≤ toneF st sg oc)) ∧ (200 < Fv v 0 + plN F A Fv v (findV pa d) ∨ 100 * F 2 < Fv v 1 + valT (findV pa d)))) ∧ ∃ A', A' 0 = A 0 ∧ CP G ad F A' E T P S Av Fv H)) (([.ref (ad 0), .int (zI (v)), .int (zI (pa)), .int (zI (d)), .int (zI (st)), .int (zI (sg)), .int (zI (oc)), .int (zI (t))] : List Value).toArray) s 3 18 (fA 94 ad s.heap.size)) (F0 m 68 ls []) := by
        intro n
        induction n with
        | zero => intro i T1 P1 hi0 hi1 han hm H locs hP hS ls hl; exact absurd hm (by omega)
        | succ n ih =>
          intro i T1 P1 hi0 hi1 han hm H locs hP hS ls hl
          have hV_v := CP.voice hP v (by omega)
          rw [zV_s, zV_s, zV_s] at hV_v
          refine lv_iload hx hb dX2_addNote_68 (lv_at hl 0 rfl) ?_
          refine lv_aload hx hb dX2_addNote_70 (lv_at hl 2 rfl) ?_
          refine zv_get hx hb hK hts hown hV_v 5 (by decide) q_fl_RX2_103 (v := .int (zI ((plA F A T Fv v (findV pa d)).2 0))) rfl dX2_addNote_72 ?_
          rw [hpc]
          refine z_icmp_ge (a := i) (b := Fv v 0 + np) (tgt := 141) hx hb dX2_addNote_75 (by decide) (by omega) (by omega) (fun h_75 => ?_) (fun h_75 => ?_)
          · skip
            have hi9 : i = Fv v 0 + plN F A Fv v (findV pa d) := by omega
            have hvk := anF_ok (n := (plA F A T Fv v (findV pa d)).2 0) (n0 := Fv v 0) (n1 := Fv v 0 + plN F A Fv v (findV pa d)) (t := t) (st := st) (sg := sg) (oc := oc) hpo.1 (by omega) (i := i) (by omega)
            rw [← han] at hvk
            refine lv_aload_n hx hb dX2_addNote_141 rfl (lv_at hl 3 rfl) ?_
            refine lv_aload hx hb dX2_addNote_142 (lv_at hl 2 rfl) ?_
            refine k_Wv (c_VW (As := [.ref (vad ad (v) 0)]) (rest := []) ⟨hx, hb, hml, hown, hts⟩ hG hS hA (c_X2_arrangeOne l G ad F (zW A 1 (plC F A Fv v (findV pa d))) E (zV T v T1) (zV P v P1) S Av (zV Fv v (plA F A T Fv v (findV pa d)).2) v H.size (by omega) (by omega) (by omega) ⟨(by rw [zV_s, zV_s, zV_s]; exact hvk), hVA v (by omega) (by omega)⟩) ⟨q_ml_RX2_118, q_im_X2_arrangeOne, q_sel_X2_arrangeOne, q_ini_RX2, q_code_X2_arrangeOne⟩ hv_X2_arrangeOne (CP.rec hK hP) hP ⟨Nat.le_of_ble_eq_true rfl, Nat.le_of_ble_eq_true rfl⟩ ⟨Nat.le_of_ble_eq_true rfl, Nat.le_of_ble_eq_true rfl⟩ rfl hl.1 rfl (Nat.le_of_ble_eq_true rfl) dX2_addNote_144) hS (fA_mono hS.1) (fun H1 locs1 hq hz1 hk1 hS => ?_)
            have hQ := hq
            refine lv_iload hx hb dX2_addNote_147 (lv_at hl 1 rfl) ?_
            exact vx_ret (e_Wi (r := r_59) hx hb hr hlk (n_i _) hS (by omega) (by omega) ⟨hr9.trans hnp, by omega, by omega, by omega, (by have e := han; rw [hi9] at e; rw [← e]; exact hQ)⟩ dX2_addNote_149)
          · skip
            refine lv_aload hx hb dX2_addNote_78 (lv_at hl 2 rfl) ?_
            refine lv_iload hx hb dX2_addNote_80 (lv_at hl 0 rfl) ?_
            refine lv_iload hx hb dX2_addNote_82 (lv_at hl 5 rfl) ?_
            refine lv_iload hx hb dX2_addNote_84 (lv_at hl 6 rfl) ?_
            refine lv_iload hx hb dX2_addNote_86 (lv_at hl 7 rfl) ?_
            refine k_Wv (c_VW (As := [.int (zI (i)), .int (zI (st)), .int (zI (sg)), .int (zI (oc))]) (rest := []) ⟨hx, hb, hml, hown, hts⟩ hG hS hA (c_X1_putPitch l G (vad ad (v)) T1 P1 (S (v)) (Av (v)) (plA F A T Fv v (findV pa d)).2 i st sg oc H.size (by omega) (by omega)) ⟨q_ml_RX2_110, q_im_X1_putPitch, q_sel_X1_putPitch, q_ini_RX1, q_code_X1_putPitch⟩ hv_X1_putPitch (VP.rec hK hV_v) hV_v ⟨Nat.le_of_ble_eq_true rfl, Nat.le_of_ble_eq_true rfl⟩ ⟨Nat.le_of_ble_eq_true rfl, Nat.le_of_ble_eq_true rfl⟩ rfl hl.1 rfl (Nat.le_of_ble_eq_true rfl) dX2_addNote_88) hS (fA_v (by omega) hS.1) (fun H1 locs1 hq hz1 hk1 hS => ?_)
            have hP := CP.wT hP (v := v) (by omega) hq hk1
            rw [zV_V, zV_V, show zV (zV Fv v (plA F A T Fv v (findV pa d)).2) v (plA F A T Fv v (findV pa d)).2 = zV Fv v (plA F A T Fv v (findV pa d)).2 from zV_V _ _ _ _] at hP
            have hV_v := hq
            refine lv_iload hx hb dX2_addNote_91 (lv_at hl 0 rfl) ?_
            refine lv_aload hx hb dX2_addNote_93 (lv_at hl 2 rfl) ?_
            refine zv_get hx hb hK hts hown hV_v 5 (by decide) q_fl_RX2_103 (v := .int (zI ((plA F A T Fv v (findV pa d)).2 0))) rfl dX2_addNote_95 ?_
            rw [hpc]
            refine z_iconst hx hb dX2_addNote_98 ?_
            refine z_isub (x := Fv v 0 + np) (y := 1) hx hb dX2_addNote_99 ?_
            refine z_icmp_ne (a := i) (b := (Fv v 0 + np) - (1)) (tgt := 107) hx hb dX2_addNote_100 (by decide) (by omega) (by omega) (fun h_100 => ?_) (fun h_100 => ?_)
            · skip
              refine z_iconst hx hb dX2_addNote_107 ?_
              refine lv_istore (lv' := [(13, .int (zI (0))), (12, .int (zI (i))), (11, .int (zI (r_59))), (9, .ref (vad ad (v) 0)), (0, .ref (ad 0)), (1, .int (zI (v))), (4, .int (zI (st))), (5, .int (zI (sg))), (6, .int (zI (oc))), (7, .int (zI (t)))]) hx hb dX2_addNote_108 hl (by decide) rfl (fun ls hl => ?_)
              refine lv_aload hx hb dX2_addNote_110 (lv_at hl 3 rfl) ?_
              refine zv_get hx hb hK hts hown hV_v 0 (by decide) q_fl_RX2_114 (v := .ref ((vad ad (v)) 1)) rfl dX2_addNote_112 ?_
              refine z_iconst hx hb dX2_addNote_115 ?_
              refine zv_aT hx hb hK hV_v (5) (by decide) (i := 5) rfl dX2_addNote_116 ?_
              refine lv_iload hx hb dX2_addNote_117 (lv_at hl 1 rfl) ?_
              refine lv_iload hx hb dX2_addNote_119 (lv_at hl 9 rfl) ?_
              refine z_if_ne (a := t) (tgt := 129) hx hb dX2_addNote_121 (by decide) (by omega) (fun h_121 => ?_) (fun h_121 => ?_)
              · skip
                refine z_iconst hx hb dX2_addNote_129 ?_
                refine lv_goto (tgt := 134) hx hb dX2_addNote_130 (by decide) ?_
                refine zv_sT (x := 1) hx hb hK hV_v hS (5) (by decide) (hDv (2 + 5) (by omega)) (i := i) (by omega) dX2_addNote_134 (fun H locs hV_v hz ho hS => ?_)
                have hP := CP.wT hP (v := v) (by omega) hV_v (one9 (by decide) ho)
                rw [zV_V, zV_V, show zV (zV Fv v (plA F A T Fv v (findV pa d)).2) v (plA F A T Fv v (findV pa d)).2 = zV Fv v (plA F A T Fv v (findV pa d)).2 from zV_V _ _ _ _] at hP
                refine z_iinc (lv' := [(12, .int (zI (i + 1))), (13, .int (zI (0))), (11, .int (zI (r_59))), (9, .ref (vad ad (v) 0)), (0, .ref (ad 0)), (1, .int (zI (v))), (4, .int (zI (st))), (5, .int (zI (sg))), (6, .int (zI (oc))), (7, .int (zI (t)))]) hx hb dX2_addNote_135 hl (k := 1) rfl (by decide) rfl (fun ls hl => ?_)
                refine lv_goto (tgt := 68) hx hb dX2_addNote_138 (by decide) ?_
                exact ih (i + 1) _ _ (by omega) (by omega) (by first | (exfalso; omega) | (rw [anF_s _ _ _ _ _ _ _ _ (by omega), ← han]; unfold anS; rw [if_neg (by omega)]; first | rw [if_pos (by omega)] | rw [if_neg (by omega)])) (by omega) H _ hP hS _ (lv_sub hl [0, 2, 3, 4, 5, 6, 7, 8, 9] rfl)
              · skip
                refine lv_iload hx hb dX2_addNote_124 (lv_at hl 0 rfl) ?_
                refine z_if_ne (a := 0) (tgt := 133) hx hb dX2_addNote_126 (by decide) (by omega) (fun h_126 => ?_) (fun h_126 => ?_)
                · skip
                  refine z_iconst hx hb dX2_addNote_133 ?_
                  refine zv_sT (x := 0) hx hb hK hV_v hS (5) (by decide) (hDv (2 + 5) (by omega)) (i := i) (by omega) dX2_addNote_134 (fun H locs hV_v hz ho hS => ?_)
                  have hP := CP.wT hP (v := v) (by omega) hV_v (one9 (by decide) ho)
                  rw [zV_V, zV_V, show zV (zV Fv v (plA F A T Fv v (findV pa d)).2) v (plA F A T Fv v (findV pa d)).2 = zV Fv v (plA F A T Fv v (findV pa d)).2 from zV_V _ _ _ _] at hP
                  refine z_iinc (lv' := [(12, .int (zI (i + 1))), (13, .int (zI (0))), (11, .int (zI (r_59))), (9, .ref (vad ad (v) 0)), (0, .ref (ad 0)), (1, .int (zI (v))), (4, .int (zI (st))), (5, .int (zI (sg))), (6, .int (zI (oc))), (7, .int (zI (t)))]) hx hb dX2_addNote_135 hl (k := 1) rfl (by decide) rfl (fun ls hl => ?_)
                  refine lv_goto (tgt := 68) hx hb dX2_addNote_138 (by decide) ?_
                  exact ih (i + 1) _ _ (by omega) (by omega) (by first | (exfalso; omega) | (rw [anF_s _ _ _ _ _ _ _ _ (by omega), ← han]; unfold anS; rw [if_neg (by omega)]; first | rw [if_pos (by omega)] | rw [if_neg (by omega)])) (by omega) H _ hP hS _ (lv_sub hl [0, 2, 3, 4, 5, 6, 7, 8, 9] rfl)
                · skip
                  refine z_iconst hx hb dX2_addNote_129 ?_
                  refine lv_goto (tgt := 134) hx hb dX2_addNote_130 (by decide) ?_
                  refine zv_sT (x := 1) hx hb hK hV_v hS (5) (by decide) (hDv (2 + 5) (by omega)) (i := i) (by omega) dX2_addNote_134 (fun H locs hV_v hz ho hS => ?_)
                  have hP := CP.wT hP (v := v) (by omega) hV_v (one9 (by decide) ho)
                  rw [zV_V, zV_V, show zV (zV Fv v (plA F A T Fv v (findV pa d)).2) v (plA F A T Fv v (findV pa d)).2 = zV Fv v (plA F A T Fv v (findV pa d)).2 from zV_V _ _ _ _] at hP
                  refine z_iinc (lv' := [(12, .int (zI (i + 1))), (13, .int (zI (0))), (11, .int (zI (r_59))), (9, .ref (vad ad (v) 0)), (0, .ref (ad 0)), (1, .int (zI (v))), (4, .int (zI (st))), (5, .int (zI (sg))), (6, .int (zI (oc))), (7, .int (zI (t)))]) hx hb dX2_addNote_135 hl (k := 1) rfl (by decide) rfl (fun ls hl => ?_)
                  refine lv_goto (tgt := 68) hx hb dX2_addNote_138 (by decide) ?_
                  exact ih (i + 1) _ _ (by omega) (by omega) (by first | (exfalso; omega) | (rw [anF_s _ _ _ _ _ _ _ _ (by omega), ← han]; unfold anS; rw [if_neg (by omega)]; first | rw [if_pos (by omega)] | rw [if_neg (by omega)])) (by omega) H _ hP hS _ (lv_sub hl [0, 2, 3, 4, 5, 6, 7, 8, 9] rfl)
            · skip
              refine z_iconst hx hb dX2_addNote_103 ?_
              refine lv_goto (tgt := 108) hx hb dX2_addNote_104 (by decide) ?_
              refine lv_istore (lv' := [(13, .int (zI (1))), (12, .int (zI (i))), (11, .int (zI (r_59))), (9, .ref (vad ad (v) 0)), (0, .ref (ad 0)), (1, .int (zI (v))), (4, .int (zI (st))), (5, .int (zI (sg))), (6, .int (zI (oc))), (7, .int (zI (t)))]) hx hb dX2_addNote_108 hl (by decide) rfl (fun ls hl => ?_)
              refine lv_aload hx hb dX2_addNote_110 (lv_at hl 3 rfl) ?_
              refine zv_get hx hb hK hts hown hV_v 0 (by decide) q_fl_RX2_114 (v := .ref ((vad ad (v)) 1)) rfl dX2_addNote_112 ?_
              refine z_iconst hx hb dX2_addNote_115 ?_
              refine zv_aT hx hb hK hV_v (5) (by decide) (i := 5) rfl dX2_addNote_116 ?_
              refine lv_iload hx hb dX2_addNote_117 (lv_at hl 1 rfl) ?_
              refine lv_iload hx hb dX2_addNote_119 (lv_at hl 9 rfl) ?_
              refine z_if_ne (a := t) (tgt := 129) hx hb dX2_addNote_121 (by decide) (by omega) (fun h_121 => ?_) (fun h_121 => ?_)
              · skip
                refine z_iconst hx hb dX2_addNote_129 ?_
                refine lv_goto (tgt := 134) hx hb dX2_addNote_130 (by decide) ?_
                refine zv_sT (x := 1) hx hb hK hV_v hS (5) (by decide) (hDv (2 + 5) (by omega)) (i := i) (by omega) dX2_addNote_134 (fun H locs hV_v hz ho hS => ?_)
                have hP := CP.wT hP (v := v) (by omega) hV_v (one9 (by decide) ho)
                rw [zV_V, zV_V, show zV (zV Fv v (plA F A T Fv v (findV pa d)).2) v (plA F A T Fv v (findV pa d)).2 = zV Fv v (plA F A T Fv v (findV pa d)).2 from zV_V _ _ _ _] at hP
                refine z_iinc (lv' := [(12, .int (zI (i + 1))), (13, .int (zI (1))), (11, .int (zI (r_59))), (9, .ref (vad ad (v) 0)), (0, .ref (ad 0)), (1, .int (zI (v))), (4, .int (zI (st))), (5, .int (zI (sg))), (6, .int (zI (oc))), (7, .int (zI (t)))]) hx hb dX2_addNote_135 hl (k := 1) rfl (by decide) rfl (fun ls hl => ?_)
                refine lv_goto (tgt := 68) hx hb dX2_addNote_138 (by decide) ?_
                exact ih (i + 1) _ _ (by omega) (by omega) (by first | (exfalso; omega) | (rw [anF_s _ _ _ _ _ _ _ _ (by omega), ← han]; unfold anS; rw [if_neg (by omega)]; first | rw [if_pos (by omega)] | rw [if_neg (by omega)])) (by omega) H _ hP hS _ (lv_sub hl [0, 2, 3, 4, 5, 6, 7, 8, 9] rfl)
              · skip
                refine lv_iload hx hb dX2_addNote_124 (lv_at hl 0 rfl) ?_
                refine z_if_ne (a := 1) (tgt := 133) hx hb dX2_addNote_126 (by decide) (by omega) (fun h_126 => ?_) (fun h_126 => ?_)
                · skip
                  refine z_iconst hx hb dX2_addNote_133 ?_
                  refine zv_sT (x := 0) hx hb hK hV_v hS (5) (by decide) (hDv (2 + 5) (by omega)) (i := i) (by omega) dX2_addNote_134 (fun H locs hV_v hz ho hS => ?_)
                  have hP := CP.wT hP (v := v) (by omega) hV_v (one9 (by decide) ho)
                  rw [zV_V, zV_V, show zV (zV Fv v (plA F A T Fv v (findV pa d)).2) v (plA F A T Fv v (findV pa d)).2 = zV Fv v (plA F A T Fv v (findV pa d)).2 from zV_V _ _ _ _] at hP
                  refine z_iinc (lv' := [(12, .int (zI (i + 1))), (13, .int (zI (1))), (11, .int (zI (r_59))), (9, .ref (vad ad (v) 0)), (0, .ref (ad 0)), (1, .int (zI (v))), (4, .int (zI (st))), (5, .int (zI (sg))), (6, .int (zI (oc))), (7, .int (zI (t)))]) hx hb dX2_addNote_135 hl (k := 1) rfl (by decide) rfl (fun ls hl => ?_)
                  refine lv_goto (tgt := 68) hx hb dX2_addNote_138 (by decide) ?_
                  exact ih (i + 1) _ _ (by omega) (by omega) (by first | (exfalso; omega) | (rw [anF_s _ _ _ _ _ _ _ _ (by omega), ← han]; unfold anS; rw [if_neg (by omega)]; first | rw [if_pos (by omega)] | rw [if_neg (by omega)])) (by omega) H _ hP hS _ (lv_sub hl [0, 2, 3, 4, 5, 6, 7, 8, 9] rfl)
                · skip
                  refine z_iconst hx hb dX2_addNote_129 ?_
                  refine lv_goto (tgt := 134) hx hb dX2_addNote_130 (by decide) ?_
                  refine zv_sT (x := 1) hx hb hK hV_v hS (5) (by decide) (hDv (2 + 5) (by omega)) (i := i) (by omega) dX2_addNote_134 (fun H locs hV_v hz ho hS => ?_)
                  have hP := CP.wT hP (v := v) (by omega) hV_v (one9 (by decide) ho)
                  rw [zV_V, zV_V, show zV (zV Fv v (plA F A T Fv v (findV pa d)).2) v (plA F A T Fv v (findV pa d)).2 = zV Fv v (plA F A T Fv v (findV pa d)).2 from zV_V _ _ _ _] at hP
                  refine z_iinc (lv' := [(12, .int (zI (i + 1))), (13, .int (zI (1))), (11, .int (zI (r_59))), (9, .ref (vad ad (v) 0)), (0, .ref (ad 0)), (1, .int (zI (v))), (4, .int (zI (st))), (5, .int (zI (sg))), (6, .int (zI (oc))), (7, .int (zI (t)))]) hx hb dX2_addNote_135 hl (k := 1) rfl (by decide) rfl (fun ls hl => ?_)
                  refine lv_goto (tgt := 68) hx hb dX2_addNote_138 (by decide) ?_
                  exact ih (i + 1) _ _ (by omega) (by omega) (by first | (exfalso; omega) | (rw [anF_s _ _ _ _ _ _ _ _ (by omega), ← han]; unfold anS; rw [if_neg (by omega)]; first | rw [if_pos (by omega)] | rw [if_neg (by omega)])) (by omega) H _ hP hS _ (lv_sub hl [0, 2, 3, 4, 5, 6, 7, 8, 9] rfl)
      exact lp_68 57 (Fv v 0) (plA F A T Fv v (findV pa d)).1 (P v) (by omega) (by omega) (anF_low _ _ _ _ _ _ _ _ (by omega)).symm (by omega) H1 _ hP hS _ (lv_sub hl [0, 1, 3, 5, 6, 9, 10, 11, 12] rfl)
    · skip
      exact z_thrIA hx hb hst hown hts hG hnt hS hA (text := "no such value or pitch") (is := 101) (by decide +kernel) dX2_addNote_29 dX2_addNote_32 dX2_addNote_33 dX2_addNote_35 dX2_addNote_38 (hl.1.trans hml.symm) ⟨by decide, by decide, by (show 0 + (1) + 1 ≤ _; first | exact Nat.le_of_ble_eq_true rfl | omega), by (show 0 + (6) + 6 ≤ _; first | exact Nat.le_of_ble_eq_true rfl | omega)⟩ hlk (fun H1 q1 q2 => ⟨(by first | exact Or.inl ⟨rfl, by omega⟩ | exact Or.inr (Or.inl ⟨rfl, by omega⟩) | exact Or.inr (Or.inr ⟨rfl, by omega⟩)), _, rfl, hP.grow q2⟩) (by first | exact Nat.le_of_ble_eq_true rfl | omega) (by first | exact Nat.le_of_ble_eq_true rfl | omega)
