theorem bgM_12 {F : Nat → Int} {A : Nat → Int → Int} {B : Int → Int → Int} (hM : MOK F A B) {v : Int} (hv : 0 ≤ v ∧ v < 4) {e : Int} (he : 0 ≤ e ∧ e ≤ A 0 v) : bgM B v e % 12 = 0 := by
  obtain ⟨k, rfl⟩ : ∃ k : Nat, e = (k : Int) := ⟨e.toNat, by omega⟩
  induction k with
  | zero => rfl
  | succ k ih =>
    have q := ih (by omega)
    have r := VK_12 ((hM.2.2.2.2 v hv.1 hv.2).2 (k : Int) (by omega) (by omega)).1
    have t : bgM B v ((k + 1 : Nat) : Int) = bgM B v k + tkO (B v (10 * (k : Int) + 0)) (B v (10 * (k : Int) + 1)) := bgM_s B v (e := (k : Int)) (by omega)
    rw [t]
    omega
def VKd (pa d : Int) : Prop := VK pa d
/-- what add leaves -/
def addQ (G : zG) (ad : Nat → Nat) (F : Nat → Int) (A : Nat → Int → Int) (B : Int → Int → Int) (x rt : Int) (sd : Int → Int) (b fr en r : Int) (H : Heap) : Prop :=
  (¬ (0 ≤ x ∧ x ≤ F 4 - 1) ∧ r = 0 ∧ MP G ad (zN F 0 1) A B H) ∨ ((0 ≤ x ∧ x ≤ F 4 - 1) ∧ rt = 0 ∧ r = 0 ∧ MP G ad (zN F 0 2) A B H) ∨
  ((0 ≤ x ∧ x ≤ F 4 - 1) ∧ rt = 1 ∧ (200 < A 0 x + cutN b en fr ∨ 100 * b < en) ∧ r = 0 ∧ ∃ A' B', MP G ad (zN F 0 3) A' B' H ∧ KP A B A' B') ∨
  ((0 ≤ x ∧ x ≤ F 4 - 1) ∧ rt = 1 ∧ ¬ (200 < A 0 x + cutN b en fr ∨ 100 * b < en) ∧ r = cutN b en fr ∧ (1 ≤ r ∧ r ≤ 56) ∧ ∃ A' B', MP G ad (zN F 0 0) (zR A' 0 x (A 0 x + r)) B' H ∧ A' 0 = A 0 ∧
    ∀ u e w, 0 ≤ w → w < 7 → B' u (10 * e + w) = if u = x ∧ A 0 x ≤ e ∧ e < A 0 x + r ∧ w < 7 then elC b en fr sd (e - A 0 x) w else B u (10 * e + w))
set_option maxHeartbeats 2000000 in
theorem c_X3_add (l : Launch) (G : zG) (ad : Nat → Nat) (F : Nat → Int) (A : Nat → Int → Int) (B : Int → Int → Int) (sa : Nat) (sd : Int → Int) (x rt : Int) (sz : Nat) (r1 : -2147483648 ≤ x ∧ x ≤ 2147483647) (hrt : rt = 0 ∨ rt = 1) (hVs : rt = 1 → VKd (sd 0) (sd 1)) (hVM : MOK F A B) : MW l yX3_add cX3_add 5 (some .int) 3 69 (0) (0) G [.ref (ad 0), .int (zI (x)), .int (zI (rt)), .ref (sa)] (fA 11 ad sz) sz (fun H => MP G ad F A B H ∧ va_at G.1 vwCl (sa, .inl (G.2.1 0, 7, .inl (zA sd))) H ∧ ∀ k, k < 11 → ad k ≠ sa) (QW (fA 11 ad sz) (fun r H => addQ G ad F A B x rt sd (F 1 * 384 / F 2) (bgM B x (A 0 x)) (bgM B x (A 0 x) + tkO (sd 0) (sd 1)) r H)) := by
  refine mw_of hp_X3_add (Nat.le_of_ble_eq_true rfl) ?_
  intro p env s m below meth c ls hB hsz hP hl
  obtain ⟨hx, hb, hml, hr, hlk, hown, hts, hG⟩ := hB
  subst hsz
  have hK := hG.1
  have hS : va_S (fA 11 ad s.heap.size) s.heap s.heap [] := va_S.rf
  have hA : ∀ q : Nat, (fA 11 ad s.heap.size) q → G.2.2 ≤ q := fA_lo hP.1.1.2 hG.2.1
  have hD : ∀ k, k < 11 → (fA 11 ad s.heap.size) (ad k) := fun k hk => fA_in hk
  have hl : lv_has ls 5 [(0, .ref (ad 0)), (1, .int (zI (x))), (2, .int (zI (rt))), (3, .ref (sa))] := hl
  obtain ⟨hP, hN0, hsa⟩ := hP
  have hnD := nD_of hN0.lt hsa
  have h1b := hVM.1
  have h2b := hVM.2.1
  have h4b := hVM.2.2.2.1
  have hba : 48 ≤ F 1 * 384 / F 2 ∧ F 1 * 384 / F 2 ≤ 2304 := by rcases h2b with h | h | h <;> rw [h] <;> omega
  refine lv_aload_n hx hb dX3_add_0 rfl (lv_at hl 0 rfl) ?_
  refine z_iconst hx hb dX3_add_1 ?_
  refine zm_put (x := 0) hx hb hK hts hown hP hS (hD 0 (by decide)) 0 (by decide) q_fl_RX3_37 dX3_add_2 (fun H locs hP hz ho hS => ?_)
  refine lv_aload_n hx hb dX3_add_5 rfl (lv_at hl 0 rfl) ?_
  refine lv_iload_n hx hb dX3_add_6 rfl (lv_at hl 1 rfl) ?_
  refine k_R (c_VR (As := [.int (zI (x))]) (rest := []) ⟨hx, hb, hml, hown, hts⟩ hG hS hA (c_X3_isVoice l G ad (zN F 0 (0)) A B x (by omega) (hVM.F0 0)) ⟨q_ml_RX3_47, q_im_X3_isVoice, q_sel_X3_isVoice, q_ini_RX3, q_code_X3_isVoice⟩ hv_X3_isVoice (MP.rec hK hP) hP ⟨by decide, by decide⟩ ⟨Nat.zero_le _, Nat.zero_le _⟩ rfl hl.1 rfl (Nat.le_of_ble_eq_true rfl) dX3_add_7) ?_
  refine z_bif_ne (q := 0 ≤ x ∧ x ≤ (F 4) - 1) (tgt := 19) hx hb dX3_add_10 (by decide) (fun h_10 => ?_) (fun h_10 => ?_)
  · skip
    refine lv_iload_n hx hb dX3_add_19 rfl (lv_at hl 2 rfl) ?_
    refine z_if_ne (a := rt) (tgt := 29) hx hb dX3_add_20 (by decide) (by omega) (fun h_20 => ?_) (fun h_20 => ?_)
    · skip
      have hvk : VK (sd 0) (sd 1) := hVs (by omega)
      have hvr := VK_rng hvk
      have hmn := hVM.many (v := x) (by omega)
      have hbr := bgM_rng hVM (v := x) (by omega) (e := A 0 x) (by omega)
      refine lv_aload_n hx hb dX3_add_29 rfl (lv_at hl 0 rfl) ?_
      refine lv_iload_n hx hb dX3_add_30 rfl (lv_at hl 1 rfl) ?_
      refine k_Wv (c_VW (As := [.int (zI (x))]) (rest := []) ⟨hx, hb, hml, hown, hts⟩ hG hS hA (c_X3_findTimes l G ad (zN F 0 (0)) A B x H.size (by omega) (hVM.F0 0)) ⟨q_ml_RX3_88, q_im_X3_findTimes, q_sel_X3_findTimes, q_ini_RX3, q_code_X3_findTimes⟩ hv_X3_findTimes (MP.rec hK hP) hP ⟨by decide, by decide⟩ ⟨Nat.zero_le _, Nat.zero_le _⟩ rfl hl.1 rfl (Nat.le_of_ble_eq_true rfl) dX3_add_31) hS (fA_mono hS.1) (fun H1 locs1 hq hz1 hk1 hS => ?_)
      obtain ⟨A2, B2, hP, kp2, tm2⟩ : ∃ A2 B2, MP G ad (zN F 0 0) A2 B2 H1 ∧ KP A B A2 B2 ∧ TM (A 0 x) B x A2 B2 := ⟨_, _, hq, ((KP.rfl' A B).A (by decide) x _).C x _ _ (by omega), TM.one x⟩
      have e0 : A2 0 x = A 0 x := by rw [kp2.1]
      refine lv_aload_n hx hb dX3_add_34 rfl (lv_at hl 0 rfl) ?_
      refine lv_iload_n hx hb dX3_add_35 rfl (lv_at hl 1 rfl) ?_
      refine lv_aload_n hx hb dX3_add_36 rfl (lv_at hl 0 rfl) ?_
      refine zm_get hx hb hK hts hown hP 7 (by decide) q_fl_RX3_25 (v := .ref (ad 7)) rfl dX3_add_37 ?_
      refine lv_iload_n hx hb dX3_add_40 rfl (lv_at hl 1 rfl) ?_
      refine zm_lA1 hx hb hK hP (i := x) (by omega) dX3_add_41 ?_
      rw [tm2.1]
      refine lv_aload_n hx hb dX3_add_42 rfl (lv_at hl 3 rfl) ?_
      refine z_iconst hx hb dX3_add_43 ?_
      refine k_Wi (c_VW (As := [.int (zI (x)), .int (zI ((bgM B x (A 0 x)))), .ref (sa), .int (zI (0))]) (rest := []) ⟨hx, hb, hml, hown, hts⟩ hG hS hA (c_X3_cut l G ad (zN F 0 (0)) A2 B2 sa sd (F 1 * 384 / F 2) (bgM B x (A 0 x) + tkO (sd 0) (sd 1)) x ((bgM B x (A 0 x))) 0 H1.size (by omega) hvk ⟨by omega, by omega, bgM_12 hVM (by omega) (by omega)⟩ (by omega) rfl rfl (fun z => absurd z (by omega)) ((kp2.ok hVM).F0 0)) ⟨q_ml_RX3_119, q_im_X3_cut, q_sel_X3_cut, q_ini_RX3, q_code_X3_cut⟩ hv_X3_cut (MP.rec hK hP) ⟨hP, (hN0.kept (hS.2.1 sa hN0.lt hnD)), hsa⟩ ⟨by decide, by decide⟩ ⟨Nat.zero_le _, Nat.zero_le _⟩ rfl hl.1 rfl (Nat.le_of_ble_eq_true rfl) dX3_add_44) hS (fA_mono hS.1) (fun r_44 H1 locs1 hq hz1 hk1 hS => ?_)
      obtain ⟨hr1, hr1b, B9, hP9, hb9, -⟩ := hq
      have hP := hP9
      rw [hb9 rfl] at hP
      refine lv_istore (lv' := [(4, .int (zI (r_44))), (0, .ref (ad 0)), (1, .int (zI (x))), (2, .int (zI (rt))), (3, .ref (sa))]) hx hb dX3_add_47 hl (by decide) rfl (fun ls hl => ?_)
      refine lv_aload_n hx hb dX3_add_49 rfl (lv_at hl 1 rfl) ?_
      refine zm_get hx hb hK hts hown hP 5 (by decide) q_fl_RX3_16 (v := .ref (ad 1)) rfl dX3_add_50 ?_
      refine lv_iload_n hx hb dX3_add_53 rfl (lv_at hl 2 rfl) ?_
      refine zm_lA0 hx hb hK hP (i := x) (by omega) dX3_add_54 ?_
      refine lv_iload hx hb dX3_add_55 (lv_at hl 0 rfl) ?_
      refine z_iadd (x := A2 0 (x)) (y := r_44) hx hb dX3_add_57 ?_
      refine z_sipush hx hb dX3_add_58 (by decide) ?_
      refine z_icmp_gt (a := (A2 0 (x)) + (r_44)) (b := 200) (tgt := 90) hx hb dX3_add_61 (by decide) (by omega) (by omega) (fun h_61 => ?_) (fun h_61 => ?_)
      · skip
        refine lv_aload_n hx hb dX3_add_90 rfl (lv_at hl 1 rfl) ?_
        refine z_iconst hx hb dX3_add_91 ?_
        refine k_Wi (c_VW (As := [.int (zI (3))]) (rest := []) ⟨hx, hb, hml, hown, hts⟩ hG hS hA (c_X3_fail l G ad (zN F 0 (0)) A2 B2 3 H1.size) ⟨q_ml_RX3_77, q_im_X3_fail, q_sel_X3_fail, q_ini_RX3, q_code_X3_fail⟩ hv_X3_fail (MP.rec hK hP) hP ⟨by decide, by decide⟩ ⟨Nat.zero_le _, Nat.zero_le _⟩ rfl hl.1 rfl (Nat.le_of_ble_eq_true rfl) dX3_add_92) hS (fA_mono hS.1) (fun r_92 H1 locs1 hq hz1 hk1 hS => ?_)
        obtain ⟨hrz, hPz⟩ := hq
        rw [zN_N] at hPz
        exact e_Wi (r := r_92) hx hb hr hlk (n_i _) hS (by omega) (by omega) (Or.inr (Or.inr (Or.inl ⟨h_10, by omega, by rw [← hr1]; omega, hrz, A2, B2, hPz, kp2⟩))) dX3_add_95
      · skip
        refine lv_aload_n hx hb dX3_add_64 rfl (lv_at hl 1 rfl) ?_
        refine zm_get hx hb hK hts hown hP 7 (by decide) q_fl_RX3_25 (v := .ref (ad 7)) rfl dX3_add_65 ?_
        refine lv_iload_n hx hb dX3_add_68 rfl (lv_at hl 2 rfl) ?_
        refine zm_lA1 hx hb hK hP (i := x) (by omega) dX3_add_69 ?_
        rw [tm2.1]
        refine lv_aload_n hx hb dX3_add_70 rfl (lv_at hl 4 rfl) ?_
        refine z_iconst hx hb dX3_add_71 ?_
        refine z_ald (n := 7) hx hb hK (hN0.kept (hS.2.1 sa hN0.lt hnD)) (i := 0) (by decide) (by decide) dX3_add_72 ?_
        refine lv_aload_n hx hb dX3_add_73 rfl (lv_at hl 4 rfl) ?_
        refine z_iconst hx hb dX3_add_74 ?_
        refine z_ald (n := 7) hx hb hK (hN0.kept (hS.2.1 sa hN0.lt hnD)) (i := 1) (by decide) (by decide) dX3_add_75 ?_
        refine k_R (c_SR (As := [.int (zI (sd 0)), .int (zI (sd 1))]) (rest := [.int (zI ((bgM B x (A 0 x))))]) ⟨hx, hb, hml, hown, hts⟩ hG hS hA (c_X3_ticksOf l G (sd 0) (sd 1) (show 1 ≤ (sd 0) ∧ (sd 0) ≤ 1000 by omega) (show -2147483648 ≤ (sd 1) ∧ (sd 1) ≤ 2147483647 by omega)) ⟨q_ml_RX3_61, q_st_X3_ticksOf, q_ini_RX3, q_code_X3_ticksOf⟩ hs_X3_ticksOf trivial ⟨by decide, by decide⟩ ⟨Nat.zero_le _, Nat.zero_le _⟩ rfl hl.1 rfl (Nat.le_of_ble_eq_true rfl) dX3_add_76) ?_
        refine z_iadd (x := (bgM B x (A 0 x))) (y := tkO (sd 0) (sd 1)) hx hb dX3_add_79 ?_
        refine z_bipush hx hb dX3_add_80 (by decide) ?_
        refine lv_aload_n hx hb dX3_add_82 rfl (lv_at hl 1 rfl) ?_
        refine k_R (c_VR (As := []) (rest := [.int (zI (100)), .int (zI (((bgM B x (A 0 x))) + (tkO (sd 0) (sd 1))))]) ⟨hx, hb, hml, hown, hts⟩ hG hS hA (c_X3_bar l G ad (zN F 0 (0)) A2 B2 ((kp2.ok hVM).F0 0)) ⟨q_ml_RX3_81, q_im_X3_bar, q_sel_X3_bar, q_ini_RX3, q_code_X3_bar⟩ hv_X3_bar (MP.rec hK hP) hP ⟨by decide, by decide⟩ ⟨Nat.zero_le _, Nat.zero_le _⟩ rfl hl.1 rfl (Nat.le_of_ble_eq_true rfl) dX3_add_83) ?_
        refine z_imul (x := 100) (y := (F 1) * 384 / (F 2)) hx hb dX3_add_86 ?_
        refine z_icmp_le (a := ((bgM B x (A 0 x))) + (tkO (sd 0) (sd 1))) (b := (100) * ((F 1) * 384 / (F 2))) (tgt := 96) hx hb dX3_add_87 (by decide) (by omega) (by omega) (fun h_87 => ?_) (fun h_87 => ?_)
        · skip
          refine lv_aload_n hx hb dX3_add_96 rfl (lv_at hl 1 rfl) ?_
          refine lv_iload_n hx hb dX3_add_97 rfl (lv_at hl 2 rfl) ?_
          refine lv_aload_n hx hb dX3_add_98 rfl (lv_at hl 1 rfl) ?_
          refine zm_get hx hb hK hts hown hP 7 (by decide) q_fl_RX3_25 (v := .ref (ad 7)) rfl dX3_add_99 ?_
          refine lv_iload_n hx hb dX3_add_102 rfl (lv_at hl 2 rfl) ?_
          refine zm_lA1 hx hb hK hP (i := x) (by omega) dX3_add_103 ?_
          rw [tm2.1]
          refine lv_aload_n hx hb dX3_add_104 rfl (lv_at hl 4 rfl) ?_
          refine z_iconst hx hb dX3_add_105 ?_
          refine k_Wi (c_VW (As := [.int (zI (x)), .int (zI ((bgM B x (A 0 x)))), .ref (sa), .int (zI (1))]) (rest := []) ⟨hx, hb, hml, hown, hts⟩ hG hS hA (c_X3_cut l G ad (zN F 0 (0)) A2 B2 sa sd (F 1 * 384 / F 2) (bgM B x (A 0 x) + tkO (sd 0) (sd 1)) x ((bgM B x (A 0 x))) 1 H1.size (by omega) hvk ⟨by omega, by omega, bgM_12 hVM (by omega) (by omega)⟩ (by omega) rfl rfl (fun _ => by rw [kp2.1, ← hr1]; omega) ((kp2.ok hVM).F0 0)) ⟨q_ml_RX3_119, q_im_X3_cut, q_sel_X3_cut, q_ini_RX3, q_code_X3_cut⟩ hv_X3_cut (MP.rec hK hP) ⟨hP, (hN0.kept (hS.2.1 sa hN0.lt hnD)), hsa⟩ ⟨by decide, by decide⟩ ⟨Nat.zero_le _, Nat.zero_le _⟩ rfl hl.1 rfl (Nat.le_of_ble_eq_true rfl) dX3_add_106) hS (fA_mono hS.1) (fun r_106 H1 locs1 hq hz1 hk1 hS => ?_)
          obtain ⟨hr2, hr2b, B4, hP, -, hlay⟩ := hq
          have hlay := hlay rfl
          refine lv_pop hx hb dX3_add_109 rfl ?_
          refine lv_aload_n hx hb dX3_add_110 rfl (lv_at hl 1 rfl) ?_
          refine zm_get hx hb hK hts hown hP 5 (by decide) q_fl_RX3_16 (v := .ref (ad 1)) rfl dX3_add_111 ?_
          refine lv_iload_n hx hb dX3_add_114 rfl (lv_at hl 2 rfl) ?_
          refine lv_dup2_11 hx hb dX3_add_115 rfl rfl ?_
          refine zm_lA0 hx hb hK hP (i := x) (by omega) dX3_add_116 ?_
          refine lv_iload hx hb dX3_add_117 (lv_at hl 0 rfl) ?_
          refine z_iadd (x := A2 0 (x)) (y := r_44) hx hb dX3_add_119 ?_
          refine zm_sA0 (x := (A2 0 (x)) + (r_44)) hx hb hK hP hS (hD 1 (by decide)) (i := x) (by omega) dX3_add_120 (fun H locs hP hz ho hS => ?_)
          refine lv_iload hx hb dX3_add_121 (lv_at hl 0 rfl) ?_
          exact e_Wi (r := r_44) hx hb hr hlk (n_i _) hS (by omega) (by omega) (Or.inr (Or.inr (Or.inr ⟨h_10, by omega, by rw [← hr1]; omega, hr1, hr1b, A2, B4, by rw [e0] at hP; exact hP, kp2.1, (fun u e w w0 w1 => by rw [hlay u e w w0 (by omega), kp2.1, kp2.2 u e w w0 w1, show r_106 = r_44 from hr2.trans hr1.symm])⟩))) dX3_add_123
        · skip
          refine lv_aload_n hx hb dX3_add_90 rfl (lv_at hl 1 rfl) ?_
          refine z_iconst hx hb dX3_add_91 ?_
          refine k_Wi (c_VW (As := [.int (zI (3))]) (rest := []) ⟨hx, hb, hml, hown, hts⟩ hG hS hA (c_X3_fail l G ad (zN F 0 (0)) A2 B2 3 H1.size) ⟨q_ml_RX3_77, q_im_X3_fail, q_sel_X3_fail, q_ini_RX3, q_code_X3_fail⟩ hv_X3_fail (MP.rec hK hP) hP ⟨by decide, by decide⟩ ⟨Nat.zero_le _, Nat.zero_le _⟩ rfl hl.1 rfl (Nat.le_of_ble_eq_true rfl) dX3_add_92) hS (fA_mono hS.1) (fun r_92 H1 locs1 hq hz1 hk1 hS => ?_)
          obtain ⟨hrz, hPz⟩ := hq
          rw [zN_N] at hPz
          exact e_Wi (r := r_92) hx hb hr hlk (n_i _) hS (by omega) (by omega) (Or.inr (Or.inr (Or.inl ⟨h_10, by omega, by rw [← hr1]; omega, hrz, A2, B2, hPz, kp2⟩))) dX3_add_95
    · skip
      refine lv_aload_n hx hb dX3_add_23 rfl (lv_at hl 0 rfl) ?_
      refine z_iconst hx hb dX3_add_24 ?_
      refine k_Wi (c_VW (As := [.int (zI (2))]) (rest := []) ⟨hx, hb, hml, hown, hts⟩ hG hS hA (c_X3_fail l G ad (zN F 0 (0)) A B 2 H.size) ⟨q_ml_RX3_77, q_im_X3_fail, q_sel_X3_fail, q_ini_RX3, q_code_X3_fail⟩ hv_X3_fail (MP.rec hK hP) hP ⟨by decide, by decide⟩ ⟨Nat.zero_le _, Nat.zero_le _⟩ rfl hl.1 rfl (Nat.le_of_ble_eq_true rfl) dX3_add_25) hS (fA_mono hS.1) (fun r_25 H1 locs1 hq hz1 hk1 hS => ?_)
      obtain ⟨hrz, hPz⟩ := hq
      rw [zN_N] at hPz
      exact e_Wi (r := r_25) hx hb hr hlk (n_i _) hS (by omega) (by omega) (Or.inr (Or.inl ⟨h_10, by omega, hrz, hPz⟩)) dX3_add_28
  · skip
    refine lv_aload_n hx hb dX3_add_13 rfl (lv_at hl 0 rfl) ?_
    refine z_iconst hx hb dX3_add_14 ?_
    refine k_Wi (c_VW (As := [.int (zI (1))]) (rest := []) ⟨hx, hb, hml, hown, hts⟩ hG hS hA (c_X3_fail l G ad (zN F 0 (0)) A B 1 H.size) ⟨q_ml_RX3_77, q_im_X3_fail, q_sel_X3_fail, q_ini_RX3, q_code_X3_fail⟩ hv_X3_fail (MP.rec hK hP) hP ⟨by decide, by decide⟩ ⟨Nat.zero_le _, Nat.zero_le _⟩ rfl hl.1 rfl (Nat.le_of_ble_eq_true rfl) dX3_add_15) hS (fA_mono hS.1) (fun r_15 H1 locs1 hq hz1 hk1 hS => ?_)
    obtain ⟨hrz, hPz⟩ := hq
    rw [zN_N] at hPz
    exact e_Wi (r := r_15) hx hb hr hlk (n_i _) hS (by omega) (by omega) (Or.inl ⟨h_10, hrz, hPz⟩) dX3_add_18
