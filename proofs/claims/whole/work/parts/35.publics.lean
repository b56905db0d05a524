/-- the voice v is arranged anew -/
def arO (G : zG) (ad : Nat → Nat) (F : Nat → Int) (A E : Nat → Int → Int) (T P S Av : Int → Nat → Int → Int) (Fv : Int → Nat → Int) (v : Int) (H : Heap) : Prop := CP G ad (zN F 4 0) A E (zV T v (arT (T v) (P v) (Av v) (Fv v 0) (F 3) (F 1))) P (zV S v (arSo (T v) (S v) (Fv v 0)).2) (zV Av v (arSg (T v) (P v) (Av v) (Fv v 0) (F 3)).2.1) (zV Fv v (arF (T v) (P v) (S v) (Av v) (Fv v) (Fv v 0) (F 3) (F 1))) H
theorem CP.wT {G : zG} {ad : Nat → Nat} {F : Nat → Int} {A E : Nat → Int → Int} {T P S Av : Int → Nat → Int → Int} {Fv : Int → Nat → Int} {H H1 : Heap} {T1 P1 : Nat → Int → Int} {F1 : Nat → Int} (h : CP G ad F A E T P S Av Fv H) {v : Int} (hv : 0 ≤ v ∧ v < 4) (hV : VP G (vad ad v) T1 P1 (S v) (Av v) F1 H1) (ho : ∀ q : Nat, q < H.size → ¬ fA 21 (vad ad v) H.size q → H1[q]? = H[q]?) : CP G ad F A E (zV T v T1) (zV P v P1) S Av (zV Fv v F1) H1 := by
  have q := CP.putF h v hv hV ho
  rw [show zV S v (S v) = S from zV_id S v, show zV Av v (Av v) = Av from zV_id Av v] at q
  exact q
theorem one9 {H H1 : Heap} {ad : Nat → Nat} {v : Int} {k : Nat} (hk : k < 21) (ho : ∀ q : Nat, q ≠ vad ad v k → H1[q]? = H[q]?) : ∀ q : Nat, q < H.size → ¬ fA 21 (vad ad v) H.size q → H1[q]? = H[q]? := fun q _ hn => ho q (fun e => hn (Or.inl ⟨k, hk, e⟩))
theorem VOK.mono {T P : Nat → Int → Int} {n m : Int} (h : VOK T P n) (hm : 0 ≤ m ∧ m ≤ n) : VOK T P m := ⟨hm.1, by have := h.2.1; omega, fun i h0 h1 => h.2.2.1 i h0 (by omega), h.2.2.2⟩
theorem VOK.tied {T P : Nat → Int → Int} {n i t : Int} (h : VOK T P n) (ht : t = 0 ∨ t = 1) : VOK (zR T 5 i t) P n := by
  refine ⟨h.1, h.2.1, fun j h0 h1 => ?_, h.2.2.2⟩
  have q := h.2.2.1 j h0 h1
  have e : ∀ w : Nat, w ≠ 5 → zR T 5 i t w j = T w j := fun w hw => zR_n (Or.inl hw)
  rw [e 0 (by decide), e 1 (by decide), e 2 (by decide), e 3 (by decide), e 4 (by decide), e 6 (by decide)]
  have e5 : zR T 5 i t 5 j = t ∨ zR T 5 i t 5 j = T 5 j := by
    unfold zR
    split
    · exact Or.inl rfl
    · exact Or.inr rfl
  omega
set_option maxHeartbeats 2000000 in
theorem c_X2_removeLast (l : Launch) (G : zG) (ad : Nat → Nat) (F : Nat → Int) (A E : Nat → Int → Int) (T P S Av : Int → Nat → Int → Int) (Fv : Int → Nat → Int) (v : Int) (sz : Nat) (hst : l.stackTraces = false) (r_v : -2147483648 ≤ v ∧ v ≤ 2147483647) (hk9 : -7 ≤ F 3 ∧ F 3 ≤ 7) (hb99 : 0 < F 1 ∧ F 1 ≤ 1000000) (hVo : ∀ v, 0 ≤ v → v < 4 → VOK (T v) (P v) (Fv v 0)) (hVA : ∀ v, 0 ≤ v → v < 4 → ∀ p, 0 ≤ p → p < 63 → -2 ≤ Av v 1 p ∧ Av v 1 p ≤ 2) (hVC : COK F Fv) : MX l yX2_removeLast cX2_removeLast 3 (some .int) 7 130 (2) (12) G [.ref (ad 0), .int (zI (v))] (fA 94 ad sz) sz (CP G ad F A E T P S Av Fv) (QW (fA 94 ad sz) (fun r H => r = Fv v 0 - 1 ∧ (0 ≤ v ∧ v < F 0) ∧ 0 < Fv v 0 ∧ arO G ad F A E T P S Av (zV Fv v (zN (zN (Fv v) 0 (Fv v 0 - 1)) 1 (T v 0 (Fv v 0 - 1)))) v H)) (fun E9 H => ((E9 = xIO ∧ ¬ (0 ≤ v ∧ v < F 0)) ∨ (E9 = xIS ∧ (0 ≤ v ∧ v < F 0) ∧ Fv v 0 = 0)) ∧ CP G ad F A E T P S Av Fv H) := by
  refine mx_of hp_X2_removeLast (Nat.le_of_ble_eq_true rfl) ?_
  intro p env s m below meth c ls hB hnt hsz hP hl
  obtain ⟨hx, hb, hml, hr, hlk, hown, hts, hG⟩ := hB
  subst hsz
  have hK := hG.1
  have hS : va_S (fA 94 ad s.heap.size) s.heap s.heap [] := va_S.rf
  have hA : ∀ q : Nat, (fA 94 ad s.heap.size) q → G.2.2 ≤ q := fA_lo hP.1.2 hG.2.1
  have hD : ∀ k, k < 94 → (fA 94 ad s.heap.size) (ad k) := fun k hk => fA_in hk
  have hl : lv_has ls 3 [(0, .ref (ad 0)), (1, .int (zI (v)))] := hl
  have h0b := hVC.1
  refine lv_aload_n hx hb dX2_removeLast_0 rfl (lv_at hl 0 rfl) ?_
  refine lv_iload_n hx hb dX2_removeLast_1 rfl (lv_at hl 1 rfl) ?_
  refine k_Xv (c_VX (As := [.int (zI (v))]) (rest := []) ⟨hx, hb, hml, hown, hts⟩ hG hS hA (c_X2_requireVoice l G ad F A E T P S Av Fv v s.heap.size hst (show -2147483648 ≤ v ∧ v ≤ 2147483647 by omega) hVC) ⟨q_ml_RX2_93, q_im_X2_requireVoice, q_sel_X2_requireVoice, q_ini_RX2, q_code_X2_requireVoice⟩ hv_X2_requireVoice (CP.rec hK hP) hP ⟨Nat.le_of_ble_eq_true rfl, Nat.le_of_ble_eq_true rfl⟩ ⟨Nat.le_of_ble_eq_true rfl, Nat.le_of_ble_eq_true rfl⟩ rfl hl.1 rfl (Nat.le_of_ble_eq_true rfl) dX2_removeLast_2) hS (fA_mono hS.1) (fun H1 locs1 hq hz1 hk1 hS => ?_) (fun E9 H1 locs1 q9 ce hq hz1 hk1 hS hce hcv hcl => x_out hnt hlk hce hcv hcl hS (by obtain ⟨hE, hC⟩ := hq; refine ⟨?_, hC⟩; obtain ⟨rfl, hE2⟩ := hE; first | exact Or.inl ⟨rfl, by omega⟩ | exact Or.inr ⟨rfl, by omega⟩) (by first | exact Nat.le_of_ble_eq_true rfl | omega) (by first | exact Nat.le_of_ble_eq_true rfl | omega))
  obtain ⟨hv9, hP⟩ := hq
  have hvi := hVC.2 v (by omega) (by omega)
  refine lv_aload_n hx hb dX2_removeLast_5 rfl (lv_at hl 0 rfl) ?_
  refine zs_get hx hb hK hts hown hP 0 (by decide) q_fl_RX2_11 (v := .ref (ad 1)) rfl dX2_removeLast_6 ?_
  refine lv_iload_n hx hb dX2_removeLast_9 rfl (lv_at hl 1 rfl) ?_
  refine zs_aV hx hb hK hP (i := v) (by omega) dX2_removeLast_10 ?_
  have hV_v : VP G (vad ad (v)) (T (v)) (P (v)) (S (v)) (Av (v)) (Fv (v)) H1 := CP.voice hP (v) (by omega)
  refine lv_astore_n (lv' := [(2, .ref (vad ad (v) 0)), (0, .ref (ad 0)), (1, .int (zI (v)))]) hx hb dX2_removeLast_11 rfl hl (by decide) rfl (fun ls hl => ?_)
  refine lv_aload_n hx hb dX2_removeLast_12 rfl (lv_at hl 0 rfl) ?_
  refine zv_get hx hb hK hts hown hV_v 5 (by decide) q_fl_RX2_103 (v := .int (zI ((Fv (v)) 0))) rfl dX2_removeLast_13 ?_
  refine z_if_ne (a := (Fv (v)) 0) (tgt := 29) hx hb dX2_removeLast_16 (by decide) (by omega) (fun h_16 => ?_) (fun h_16 => ?_)
  · skip
    refine lv_aload_n hx hb dX2_removeLast_29 rfl (lv_at hl 0 rfl) ?_
    refine k_Wv (c_VW (As := []) (rest := []) ⟨hx, hb, hml, hown, hts⟩ hG hS hA (c_X1_dropLast l G (vad ad (v)) (T (v)) (P (v)) (S (v)) (Av (v)) (Fv (v)) H1.size (by omega)) ⟨q_ml_RX2_124, q_im_X1_dropLast, q_sel_X1_dropLast, q_ini_RX1, q_code_X1_dropLast⟩ hv_X1_dropLast (VP.rec hK hV_v) hV_v ⟨Nat.le_of_ble_eq_true rfl, Nat.le_of_ble_eq_true rfl⟩ ⟨Nat.le_of_ble_eq_true rfl, Nat.le_of_ble_eq_true rfl⟩ rfl hl.1 rfl (Nat.le_of_ble_eq_true rfl) dX2_removeLast_30) hS (fA_v (by omega) hS.1) (fun H1 locs1 hq hz1 hk1 hS => ?_)
    have hP := CP.wT hP (v := v) (by omega) hq hk1
    rw [show zV T v (T v) = T from zV_id T v, show zV P v (P v) = P from zV_id P v] at hP
    have hV_v := CP.voice hP v (by omega)
    rw [zV_s] at hV_v
    refine lv_aload_n hx hb dX2_removeLast_33 rfl (lv_at hl 1 rfl) ?_
    refine lv_aload_n hx hb dX2_removeLast_34 rfl (lv_at hl 0 rfl) ?_
    refine k_Wv (c_VW (As := [.ref (vad ad (v) 0)]) (rest := []) ⟨hx, hb, hml, hown, hts⟩ hG hS hA (c_X2_arrangeOne l G ad F A E T P S Av (zV Fv v (zN (zN (Fv v) 0 (Fv v 0 - 1)) 1 (T v 0 (Fv v 0 - 1)))) v H1.size (by omega) (by omega) (by omega) ⟨(by rw [zV_s]; exact (hVo v (by omega) (by omega)).mono (by show 0 ≤ Fv v 0 - 1 ∧ Fv v 0 - 1 ≤ Fv v 0; omega)), hVA v (by omega) (by omega)⟩) ⟨q_ml_RX2_118, q_im_X2_arrangeOne, q_sel_X2_arrangeOne, q_ini_RX2, q_code_X2_arrangeOne⟩ hv_X2_arrangeOne (CP.rec hK hP) hP ⟨Nat.le_of_ble_eq_true rfl, Nat.le_of_ble_eq_true rfl⟩ ⟨Nat.le_of_ble_eq_true rfl, Nat.le_of_ble_eq_true rfl⟩ rfl hl.1 rfl (Nat.le_of_ble_eq_true rfl) dX2_removeLast_35) hS (fA_mono hS.1) (fun H1 locs1 hq hz1 hk1 hS => ?_)
    have hQ : arO G ad F A E T P S Av (zV Fv v (zN (zN (Fv v) 0 (Fv v 0 - 1)) 1 (T v 0 (Fv v 0 - 1)))) v H1 := hq
    have hV_v := CP.voice hq v (by omega)
    rw [zV_s, zV_s, zV_s, zV_s, zV_s] at hV_v
    refine lv_aload_n hx hb dX2_removeLast_38 rfl (lv_at hl 0 rfl) ?_
    refine zv_get hx hb hK hts hown hV_v 5 (by decide) q_fl_RX2_103 (v := .int (zI ((arF (T v) (P v) (S v) (Av v) (zN (zN (Fv v) 0 (Fv v 0 - 1)) 1 (T v 0 (Fv v 0 - 1))) (Fv v 0 - 1) (F 3) (F 1)) 0))) rfl dX2_removeLast_39 ?_
    exact vx_ret (e_Wi (r := Fv v 0 - 1) hx hb hr hlk (n_i _) hS (by omega) (by omega) ⟨rfl, by omega, by omega, hQ⟩ dX2_removeLast_42)
  · skip
    exact z_thrIS hx hb hst hown hts hG hnt hS hA (text := "the voice has no elements") (is := 122) (by decide +kernel) dX2_removeLast_19 dX2_removeLast_22 dX2_removeLast_23 dX2_removeLast_25 dX2_removeLast_28 (hl.1.trans hml.symm) ⟨by decide, by decide, by (show 0 + (1) + 1 ≤ _; first | exact Nat.le_of_ble_eq_true rfl | omega), by (show 0 + (6) + 6 ≤ _; first | exact Nat.le_of_ble_eq_true rfl | omega)⟩ hlk (fun H1 q1 q2 => ⟨(by first | exact Or.inl ⟨rfl, by omega⟩ | exact Or.inr ⟨rfl, by omega⟩), hP.grow q2⟩) (by first | exact Nat.le_of_ble_eq_true rfl | omega) (by first | exact Nat.le_of_ble_eq_true rfl | omega)
set_option maxHeartbeats 2000000 in
theorem c_X2_tie (l : Launch) (G : zG) (ad : Nat → Nat) (F : Nat → Int) (A E : Nat → Int → Int) (T P S Av : Int → Nat → Int → Int) (Fv : Int → Nat → Int) (v i t : Int) (sz : Nat) (hst : l.stackTraces = false) (r_v : -2147483648 ≤ v ∧ v ≤ 2147483647) (r_i : -2147483648 ≤ i ∧ i ≤ 2147483647) (r_t : -2147483648 ≤ t ∧ t ≤ 2147483647) (ht9 : t = 0 ∨ t = 1) (hk9 : -7 ≤ F 3 ∧ F 3 ≤ 7) (hb99 : 0 < F 1 ∧ F 1 ≤ 1000000) (hVo : ∀ v, 0 ≤ v → v < 4 → VOK (T v) (P v) (Fv v 0)) (hVA : ∀ v, 0 ≤ v → v < 4 → ∀ p, 0 ≤ p → p < 63 → -2 ≤ Av v 1 p ∧ Av v 1 p ≤ 2) (hVC : COK F Fv) : MX l yX2_tie cX2_tie 6 (some .boolean) 8 133 (3) (18) G [.ref (ad 0), .int (zI (v)), .int (zI (i)), .int (zI (t))] (fA 94 ad sz) sz (CP G ad F A E T P S Av Fv) (QW (fA 94 ad sz) (fun r H => r = bI (T v 5 i = 1) ∧ (0 ≤ v ∧ v < F 0 ∧ 0 ≤ i ∧ i < Fv v 0) ∧ ¬ T v 4 i = -1 ∧ arO G ad F A E (zV T v (zR (T v) 5 i t)) P S Av Fv v H)) (fun E9 H => ((E9 = xIO ∧ ¬ (0 ≤ v ∧ v < F 0 ∧ 0 ≤ i ∧ i < Fv v 0)) ∨ (E9 = xIS ∧ (0 ≤ v ∧ v < F 0 ∧ 0 ≤ i ∧ i < Fv v 0) ∧ T v 4 i = -1)) ∧ CP G ad F A E T P S Av Fv H) := by
  refine mx_of hp_X2_tie (Nat.le_of_ble_eq_true rfl) ?_
  intro p env s m below meth c ls hB hnt hsz hP hl
  obtain ⟨hx, hb, hml, hr, hlk, hown, hts, hG⟩ := hB
  subst hsz
  have hK := hG.1
  have hS : va_S (fA 94 ad s.heap.size) s.heap s.heap [] := va_S.rf
  have hA : ∀ q : Nat, (fA 94 ad s.heap.size) q → G.2.2 ≤ q := fA_lo hP.1.2 hG.2.1
  have hD : ∀ k, k < 94 → (fA 94 ad s.heap.size) (ad k) := fun k hk => fA_in hk
  have hl : lv_has ls 6 [(0, .ref (ad 0)), (1, .int (zI (v))), (2, .int (zI (i))), (3, .int (zI (t)))] := hl
  have h0b := hVC.1
  refine lv_aload_n hx hb dX2_tie_0 rfl (lv_at hl 0 rfl) ?_
  refine lv_iload_n hx hb dX2_tie_1 rfl (lv_at hl 1 rfl) ?_
  refine lv_iload_n hx hb dX2_tie_2 rfl (lv_at hl 2 rfl) ?_
  refine k_Xv (c_VX (As := [.int (zI (v)), .int (zI (i))]) (rest := []) ⟨hx, hb, hml, hown, hts⟩ hG hS hA (c_X2_requireElement l G ad F A E T P S Av Fv v i s.heap.size hst (show -2147483648 ≤ v ∧ v ≤ 2147483647 by omega) (show -2147483648 ≤ i ∧ i ≤ 2147483647 by omega) hVC) ⟨q_ml_RX2_127, q_im_X2_requireElement, q_sel_X2_requireElement, q_ini_RX2, q_code_X2_requireElement⟩ hv_X2_requireElement (CP.rec hK hP) hP ⟨Nat.le_of_ble_eq_true rfl, Nat.le_of_ble_eq_true rfl⟩ ⟨Nat.le_of_ble_eq_true rfl, Nat.le_of_ble_eq_true rfl⟩ rfl hl.1 rfl (Nat.le_of_ble_eq_true rfl) dX2_tie_3) hS (fA_mono hS.1) (fun H1 locs1 hq hz1 hk1 hS => ?_) (fun E9 H1 locs1 q9 ce hq hz1 hk1 hS hce hcv hcl => x_out hnt hlk hce hcv hcl hS (by obtain ⟨hE, hC⟩ := hq; refine ⟨?_, hC⟩; obtain ⟨rfl, hE2⟩ := hE; first | exact Or.inl ⟨rfl, by omega⟩ | exact Or.inr ⟨rfl, by omega⟩) (by first | exact Nat.le_of_ble_eq_true rfl | omega) (by first | exact Nat.le_of_ble_eq_true rfl | omega))
  obtain ⟨hv9, hP⟩ := hq
  have hvi := hVC.2 v (by omega) (by omega)
  have hvv := (hVo v (by omega) (by omega)).2.2.1 i (by omega) (by omega)
  have hDv : ∀ k, k < 21 → (fA 94 ad s.heap.size) (vad ad (v) k) := fun k hk => fA_v (by omega) hS.1 _ (fA_in hk)
  refine lv_aload_n hx hb dX2_tie_6 rfl (lv_at hl 0 rfl) ?_
  refine zs_get hx hb hK hts hown hP 0 (by decide) q_fl_RX2_11 (v := .ref (ad 1)) rfl dX2_tie_7 ?_
  refine lv_iload_n hx hb dX2_tie_10 rfl (lv_at hl 1 rfl) ?_
  refine zs_aV hx hb hK hP (i := v) (by omega) dX2_tie_11 ?_
  have hV_v : VP G (vad ad (v)) (T (v)) (P (v)) (S (v)) (Av (v)) (Fv (v)) H1 := CP.voice hP (v) (by omega)
  refine lv_astore (lv' := [(4, .ref (vad ad (v) 0)), (0, .ref (ad 0)), (1, .int (zI (v))), (2, .int (zI (i))), (3, .int (zI (t)))]) hx hb dX2_tie_12 hl (by decide) rfl (fun ls hl => ?_)
  refine lv_aload hx hb dX2_tie_14 (lv_at hl 0 rfl) ?_
  refine lv_iload_n hx hb dX2_tie_16 rfl (lv_at hl 3 rfl) ?_
  refine k_R (c_VR (As := [.int (zI (i))]) (rest := []) ⟨hx, hb, hml, hown, hts⟩ hG hS hA (c_X1_isNote l G (vad ad (v)) (T (v)) (P (v)) (S (v)) (Av (v)) (Fv (v)) i (show 0 ≤ i ∧ i < 200 by omega) (show -2147483648 ≤ (T (v)) 4 i ∧ (T (v)) 4 i ≤ 2147483647 by omega)) ⟨q_ml_RX2_131, q_im_X1_isNote, q_sel_X1_isNote, q_ini_RX1, q_code_X1_isNote⟩ hv_X1_isNote (VP.rec hK hV_v) hV_v ⟨Nat.le_of_ble_eq_true rfl, Nat.le_of_ble_eq_true rfl⟩ ⟨Nat.le_of_ble_eq_true rfl, Nat.le_of_ble_eq_true rfl⟩ rfl hl.1 rfl (Nat.le_of_ble_eq_true rfl) dX2_tie_17) ?_
  refine z_bif_ne (q := ¬ (T (v)) 4 i = -1) (tgt := 33) hx hb dX2_tie_20 (by decide) (fun h_20 => ?_) (fun h_20 => ?_)
  · skip
    refine lv_aload hx hb dX2_tie_33 (lv_at hl 0 rfl) ?_
    refine lv_iload_n hx hb dX2_tie_35 rfl (lv_at hl 3 rfl) ?_
    refine k_R (c_VR (As := [.int (zI (i))]) (rest := []) ⟨hx, hb, hml, hown, hts⟩ hG hS hA (c_X1_isTied l G (vad ad (v)) (T (v)) (P (v)) (S (v)) (Av (v)) (Fv (v)) i (show 0 ≤ i ∧ i < 200 by omega) (show -2147483648 ≤ (T (v)) 5 i ∧ (T (v)) 5 i ≤ 2147483647 by omega)) ⟨q_ml_RX2_136, q_im_X1_isTied, q_sel_X1_isTied, q_ini_RX1, q_code_X1_isTied⟩ hv_X1_isTied (VP.rec hK hV_v) hV_v ⟨Nat.le_of_ble_eq_true rfl, Nat.le_of_ble_eq_true rfl⟩ ⟨Nat.le_of_ble_eq_true rfl, Nat.le_of_ble_eq_true rfl⟩ rfl hl.1 rfl (Nat.le_of_ble_eq_true rfl) dX2_tie_36) ?_
    obtain ⟨b9, hb9⟩ : ∃ b9, b9 = bI (T v 5 i = 1) := ⟨_, rfl⟩
    have hb01 : b9 = 0 ∨ b9 = 1 := by rw [hb9]; exact bI_01 _
    rw [← hb9]
    refine lv_istore (lv' := [(5, .int (zI (b9))), (4, .ref (vad ad (v) 0)), (0, .ref (ad 0)), (1, .int (zI (v))), (2, .int (zI (i))), (3, .int (zI (t)))]) hx hb dX2_tie_39 hl (by decide) rfl (fun ls hl => ?_)
    refine lv_aload hx hb dX2_tie_41 (lv_at hl 1 rfl) ?_
    refine zv_get hx hb hK hts hown hV_v 0 (by decide) q_fl_RX2_114 (v := .ref ((vad ad (v)) 1)) rfl dX2_tie_43 ?_
    refine z_iconst hx hb dX2_tie_46 ?_
    refine zv_aT hx hb hK hV_v (5) (by decide) (i := 5) rfl dX2_tie_47 ?_
    refine lv_iload_n hx hb dX2_tie_48 rfl (lv_at hl 4 rfl) ?_
    refine lv_iload_n hx hb dX2_tie_49 rfl (lv_at hl 5 rfl) ?_
    refine z_if_eq (a := t) (tgt := 57) hx hb dX2_tie_50 (by decide) (by omega) (fun h_50 => ?_) (fun h_50 => ?_)
    · skip
      refine z_iconst hx hb dX2_tie_57 ?_
      first | rw [show zI 1 = zI t by rw [show t = 1 by omega]] | rw [show zI 0 = zI t by rw [show t = 0 by omega]]
      refine zv_sT (x := t) hx hb hK hV_v hS (5) (by decide) (hDv (2 + 5) (by omega)) (i := i) (by omega) dX2_tie_58 (fun H locs hV_v hz ho hS => ?_)
      have hP := CP.wT hP (v := v) (by omega) hV_v (one9 (by decide) ho)
      rw [show zV P v (P v) = P from zV_id P v, show zV Fv v (Fv v) = Fv from zV_id Fv v] at hP
      refine lv_aload_n hx hb dX2_tie_59 rfl (lv_at hl 2 rfl) ?_
      refine lv_aload hx hb dX2_tie_60 (lv_at hl 1 rfl) ?_
      refine k_Wv (c_VW (As := [.ref (vad ad (v) 0)]) (rest := []) ⟨hx, hb, hml, hown, hts⟩ hG hS hA (c_X2_arrangeOne l G ad F A E (zV T v (zR (T v) 5 i t)) P S Av Fv v H.size (by omega) (by omega) (by omega) ⟨(by rw [zV_s]; exact (hVo v (by omega) (by omega)).tied ht9), hVA v (by omega) (by omega)⟩) ⟨q_ml_RX2_118, q_im_X2_arrangeOne, q_sel_X2_arrangeOne, q_ini_RX2, q_code_X2_arrangeOne⟩ hv_X2_arrangeOne (CP.rec hK hP) hP ⟨Nat.le_of_ble_eq_true rfl, Nat.le_of_ble_eq_true rfl⟩ ⟨Nat.le_of_ble_eq_true rfl, Nat.le_of_ble_eq_true rfl⟩ rfl hl.1 rfl (Nat.le_of_ble_eq_true rfl) dX2_tie_62) hS (fA_mono hS.1) (fun H1 locs1 hq hz1 hk1 hS => ?_)
      have hQ : arO G ad F A E (zV T v (zR (T v) 5 i t)) P S Av Fv v H1 := hq
      refine lv_iload hx hb dX2_tie_65 (lv_at hl 0 rfl) ?_
      exact vx_ret (e_Wi (r := b9) hx hb hr hlk (n_z (by first | exact bI_01 _ | (left; rfl) | (right; rfl) | omega)) hS (by omega) (by omega) ⟨rfl, by omega, by omega, hQ⟩ dX2_tie_67)
    · skip
      refine z_iconst hx hb dX2_tie_53 ?_
      refine lv_goto (tgt := 58) hx hb dX2_tie_54 (by decide) ?_
      first | rw [show zI 1 = zI t by rw [show t = 1 by omega]] | rw [show zI 0 = zI t by rw [show t = 0 by omega]]
      refine zv_sT (x := t) hx hb hK hV_v hS (5) (by decide) (hDv (2 + 5) (by omega)) (i := i) (by omega) dX2_tie_58 (fun H locs hV_v hz ho hS => ?_)
      have hP := CP.wT hP (v := v) (by omega) hV_v (one9 (by decide) ho)
      rw [show zV P v (P v) = P from zV_id P v, show zV Fv v (Fv v) = Fv from zV_id Fv v] at hP
      refine lv_aload_n hx hb dX2_tie_59 rfl (lv_at hl 2 rfl) ?_
      refine lv_aload hx hb dX2_tie_60 (lv_at hl 1 rfl) ?_
      refine k_Wv (c_VW (As := [.ref (vad ad (v) 0)]) (rest := []) ⟨hx, hb, hml, hown, hts⟩ hG hS hA (c_X2_arrangeOne l G ad F A E (zV T v (zR (T v) 5 i t)) P S Av Fv v H.size (by omega) (by omega) (by omega) ⟨(by rw [zV_s]; exact (hVo v (by omega) (by omega)).tied ht9), hVA v (by omega) (by omega)⟩) ⟨q_ml_RX2_118, q_im_X2_arrangeOne, q_sel_X2_arrangeOne, q_ini_RX2, q_code_X2_arrangeOne⟩ hv_X2_arrangeOne (CP.rec hK hP) hP ⟨Nat.le_of_ble_eq_true rfl, Nat.le_of_ble_eq_true rfl⟩ ⟨Nat.le_of_ble_eq_true rfl, Nat.le_of_ble_eq_true rfl⟩ rfl hl.1 rfl (Nat.le_of_ble_eq_true rfl) dX2_tie_62) hS (fA_mono hS.1) (fun H1 locs1 hq hz1 hk1 hS => ?_)
      have hQ : arO G ad F A E (zV T v (zR (T v) 5 i t)) P S Av Fv v H1 := hq
      refine lv_iload hx hb dX2_tie_65 (lv_at hl 0 rfl) ?_
      exact vx_ret (e_Wi (r := b9) hx hb hr hlk (n_z (by first | exact bI_01 _ | (left; rfl) | (right; rfl) | omega)) hS (by omega) (by omega) ⟨rfl, by omega, by omega, hQ⟩ dX2_tie_67)
  · skip
    exact z_thrIS hx hb hst hown hts hG hnt hS hA (text := "the element is a rest") (is := 134) (by decide +kernel) dX2_tie_23 dX2_tie_26 dX2_tie_27 dX2_tie_29 dX2_tie_32 (hl.1.trans hml.symm) ⟨by decide, by decide, by (show 0 + (2) + 1 ≤ _; first | exact Nat.le_of_ble_eq_true rfl | omega), by (show 0 + (12) + 6 ≤ _; first | exact Nat.le_of_ble_eq_true rfl | omega)⟩ hlk (fun H1 q1 q2 => ⟨(by first | exact Or.inl ⟨rfl, by omega⟩ | exact Or.inr ⟨rfl, by omega⟩), hP.grow q2⟩) (by first | exact Nat.le_of_ble_eq_true rfl | omega) (by first | exact Nat.le_of_ble_eq_true rfl | omega)
