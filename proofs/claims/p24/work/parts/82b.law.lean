/-! the law: its voices, the checksum, its beginning -/
section LO9
variable {p : Program} {l : Launch} {env : Env} {s : State} {m : MethodId} {args : Array Value} {below : List Frame} {meth : Method} {c : Code} {Q : State → Prop} {G : zG} {adp adq : Nat → Nat} {h vs : Nat} {bt pt ky nv : Int} {n : Int → Int} {B : Int → Int → Int} {CB SB : Nat}
set_option maxHeartbeats 8000000 in
theorem law_outer (X : LX9 p l s m args c G adp adq h) (hgp : GP bt pt ky nv n B) (hZ : RZ n B) (hnv : 1 ≤ nv ∧ nv ≤ 3) (hCB : CB + 50000 ≤ 600064) (hSB : SB + 300000 ≤ 7301640)
    (ke : ∀ (H : Heap) (locs : List Loc), va_S (AL s) s.heap H locs → ∀ ls : Array Slot, W p l env room_1 s m args below meth c H locs (CB + 50000) (SB + 300000) Q (F0 m 637 ls [.int (zI 1)])) :
    ∀ (w v : Nat), (v : Int) ≤ nv → nv - v < w → ∀ sn : Int, 2 * sn = ecT (ghA n) B v → ∀ (H : Heap) (locs : List Loc), LI9 G adp adq h vs bt pt ky nv n B bt pt ky v (nQ n v 0) H → va_S (AL s) s.heap H locs → ∀ ls : Array Slot, lv_has ls 19 [(8, .int (zI ((v : Int)))), (6, .long (lI (mtT (ghA n) B ((v : Int))))), (5, .int (zI (sn))), (4, .int (zI (bt * 384 / pt))), (3, .ref (adq 0)), (2, .ref h), (1, .ref (adp 0))] → W p l env room_1 s m args below meth c H locs (CB + 10100 * v) (SB + 60700 * v) Q (F0 m 69 ls []) := by
  have hx := X.1.1
  have hb := X.1.2.1
  have hts := X.1.2.2.2.2
  have hown := X.1.2.2.2.1
  have hK := X.2.1.1
  have hst := X.2.2.1
  have hA : ∀ q : Nat, AL s q → G.2.2 ≤ q := fun q hq => by rw [X.2.2.2.1]; exact hq
  have nms := hgp.nums
  have hbr := hgp.bar
  have hM := hgp.1
  intro w
  induction w with
  | zero => intro v v0 hm; omega
  | succ w ih =>
    intro v v0 hm sn hsn H locs hI hS ls hl
    have hv4 : 0 ≤ (v : Int) ∧ (v : Int) < 4 := by omega
    refine lv_iload hx hb dL_law_69 (lv_at hl 0 rfl) ?_
    refine lv_aload_n hx hb dL_law_71 rfl (lv_at hl 6 rfl) ?_
    refine z_iconst hx hb dL_law_72 ?_
    refine k_Wi (c_VW (As := [.int (zI 0)]) (rest := [.int (zI ((v : Int)))]) X.1 X.2.1 hS hA (g_score (sz := H.size) (w := 0) hst (by decide)) ⟨q_ml_RL_80, q_im_X2_score, q_sel_X2_score, q_ini_RX2, q_code_X2_score⟩ hv_X2_score (hI.1.rec hK) hI.1 ⟨Nat.le_of_ble_eq_true rfl, Nat.le_of_ble_eq_true rfl⟩ ⟨(by show CB + 10100 * v + 1 ≤ 600064; omega), (by show SB + 60700 * v + 6 ≤ 7301640; omega)⟩ rfl hl.1 rfl (Nat.le_of_ble_eq_true rfl) dL_law_73) hS (X.toP hS.1) (fun r H73 locs73 hq hz hk hS => ?_)
    obtain ⟨hr, hg⟩ := hq
    have hI := hI.toP X hg hk
    rw [show r = nv from hr]
    refine z_icmp_ge (a := (v : Int)) (b := nv) (tgt := 485) hx hb dL_law_76 (by decide) (by omega) (by omega) (fun h76 => ?_) (fun h76 => ?_)
    · skip
      have hve : (v : Int) = nv := by omega
      rw [hve] at hl hI hsn
      rw [nQ_end hgp hZ (by omega)] at hI
      have ev := hI.1.evs
      obtain ⟨⟨hM0, hM1⟩, hup, hrow, hop, hop0, hlas⟩ := ev
      refine lv_aload_n hx hb dL_law_485 rfl (lv_at hl 4 rfl) ?_
      refine k_Wl (c_VW (As := []) (rest := []) X.1 X.2.1 hS hA (g_digest (sz := H73.size)) ⟨q_ml_RL_93, q_im_X2_digest, q_sel_X2_digest, q_ini_RX2, q_code_X2_digest⟩ hv_X2_digest (hI.2.1.rec hK) hI.2.1 ⟨Nat.le_of_ble_eq_true rfl, Nat.le_of_ble_eq_true rfl⟩ ⟨(by show CB + 10100 * v + 1 + 0 ≤ 600064; omega), (by show SB + 60700 * v + 6 + 0 ≤ 7301640; omega)⟩ rfl hl.1 rfl (Nat.le_of_ble_eq_true rfl) dL_law_486) hS (X.toQ hS.1) (fun r H486 locs486 hq hz hk hS => ?_)
      obtain ⟨hr, hg⟩ := hq
      have hI := hI.toQ X hg hk
      rw [hr]
      refine lv_aload_n hx hb dL_law_489 rfl (lv_at hl 6 rfl) ?_
      refine k_Wl (c_VW (As := []) (rest := [.long (dgM (fmB bt pt ky nv) (ghA n) B h00)]) X.1 X.2.1 hS hA (g_digest (sz := H486.size)) ⟨q_ml_RL_93, q_im_X2_digest, q_sel_X2_digest, q_ini_RX2, q_code_X2_digest⟩ hv_X2_digest (hI.1.rec hK) hI.1 ⟨Nat.le_of_ble_eq_true rfl, Nat.le_of_ble_eq_true rfl⟩ ⟨(by show CB + 10100 * v + 1 + 0 + 0 ≤ 600064; omega), (by show SB + 60700 * v + 6 + 0 + 0 ≤ 7301640; omega)⟩ rfl hl.1 rfl (Nat.le_of_ble_eq_true rfl) dL_law_490) hS (X.toP hS.1) (fun r H490 locs490 hq hz hk hS => ?_)
      obtain ⟨hr, hg⟩ := hq
      have hI := hI.toP X hg hk
      rw [hr]
      refine z_lcmp hx hb dL_law_493 ?_
      rw [lC_self]
      refine z_if_ne (a := 0) (tgt := 508) hx hb dL_law_494 (by decide) (by decide) (fun h9 => absurd rfl h9) (fun _ => ?_)
      refine lv_aload_n hx hb dL_law_497 rfl (lv_at hl 6 rfl) ?_
      refine k_Wi (c_VW (As := []) (rest := []) X.1 X.2.1 hS hA (g_events (sz := H490.size)) ⟨q_ml_RL_97, q_im_X2_events, q_sel_X2_events, q_ini_RX2, q_code_X2_events⟩ hv_X2_events (hI.1.rec hK) hI.1 ⟨Nat.le_of_ble_eq_true rfl, Nat.le_of_ble_eq_true rfl⟩ ⟨(by show CB + 10100 * v + 1 + 0 + 0 + 0 ≤ 600064; omega), (by show SB + 60700 * v + 6 + 0 + 0 + 0 ≤ 7301640; omega)⟩ rfl hl.1 rfl (Nat.le_of_ble_eq_true rfl) dL_law_498) hS (X.toP hS.1) (fun r H498 locs498 hq hz hk hS => ?_)
      obtain ⟨hr, hg⟩ := hq
      have hI := hI.toP X hg hk
      rw [hr]
      refine z_iconst hx hb dL_law_501 ?_
      refine lv_iload hx hb dL_law_502 (lv_at hl 2 rfl) ?_
      refine z_imul (x := 2) (y := sn) hx hb dL_law_504 ?_
      rw [hsn]
      refine z_icmp_eq (a := ecT (ghA n) B nv) (b := ecT (ghA n) B nv) (tgt := 510) hx hb dL_law_505 (by decide) (by omega) (by omega) (fun _ => ?_) (fun h9 => absurd rfl h9)
      refine z_iconst hx hb dL_law_510 ?_
      refine lv_istore (lv' := [(8, .int (zI 0)), (6, .long (lI (mtT (ghA n) B (nv)))), (5, .int (zI (sn))), (4, .int (zI (bt * 384 / pt))), (3, .ref (adq 0)), (2, .ref h), (1, .ref (adp 0))]) hx hb dL_law_511 hl (by decide) rfl (fun ls hl => ?_)
      refine z_iconst hx hb dL_law_513 ?_
      refine lv_istore (lv' := [(9, .int (zI 0)), (8, .int (zI 0)), (6, .long (lI (mtT (ghA n) B (nv)))), (5, .int (zI (sn))), (4, .int (zI (bt * 384 / pt))), (3, .ref (adq 0)), (2, .ref h), (1, .ref (adp 0))]) hx hb dL_law_514 hl (by decide) rfl (fun ls hl => ?_)
      refine z_iconst hx hb dL_law_516 ?_
      refine lv_istore (lv' := [(10, .int (zI 0)), (9, .int (zI 0)), (8, .int (zI 0)), (6, .long (lI (mtT (ghA n) B (nv)))), (5, .int (zI (sn))), (4, .int (zI (bt * 384 / pt))), (3, .ref (adq 0)), (2, .ref h), (1, .ref (adp 0))]) hx hb dL_law_517 hl (by decide) rfl (fun ls hl => ?_)
      refine W.widen (k := (CB + 10100 * v + 1) + 6 * 0) (n := (SB + 60700 * v + 6) + 36 * 0) (by omega) (by omega) (law_events (CB := (CB + 10100 * v + 1)) (SB := (SB + 60700 * v + 6)) X hgp hnv rfl (by omega) (by omega) (fun H locs hS ls => W.widen (k := CB + 50000) (n := SB + 300000) (by omega) (by omega) (ke H locs hS ls)) ((ecT (ghA n) B nv).toNat + 1) 0 (by omega) (by omega) 0 ⟨by omega, by omega, fun z => (hrow 0 (by omega) z).1.1⟩ _ _ hI hS ls ?_)
      have z1 : opn (WE n B nv) ((0 : Nat) : Int) = 0 := rfl
      have z2 : las (XE n B nv) (WE n B nv) ((0 : Nat) : Int) = 0 := rfl
      rw [z1, z2, Int.sub_zero]
      exact (lv_sub hl [0, 1, 2, 3, 8] rfl)
    · skip
      have hv : 0 ≤ (v : Int) ∧ (v : Int) < nv := by omega
      have hmn := hgp.many hv4
      have hso := hI.1.sou hv4
      have hmt : mtT (ghA n) B ((v : Int) + 1) = mtT (ghA n) B v + mtV B v (n v) := pf_s _ _ hv.1
      have hec : ecT (ghA n) B ((v : Int) + 1) = ecT (ghA n) B v + ec (ghA n) B v (n v) := ecT_s _ _ hv.1
      refine lv_aload_n hx hb dL_law_79 rfl (lv_at hl 4 rfl) ?_
      refine k_Wi (c_VW (As := []) (rest := []) X.1 X.2.1 hS hA (g_addVoice (sz := H73.size) hst hv4.2) ⟨q_ml_RL_48, q_im_X2_addVoice, q_sel_X2_addVoice, q_ini_RX2, q_code_X2_addVoice⟩ hv_X2_addVoice (hI.2.1.rec hK) hI.2.1 ⟨Nat.le_of_ble_eq_true rfl, Nat.le_of_ble_eq_true rfl⟩ ⟨(by show CB + 10100 * v + 1 + 1 ≤ 600064; omega), (by show SB + 60700 * v + 6 + 6 ≤ 7301640; omega)⟩ rfl hl.1 rfl (Nat.le_of_ble_eq_true rfl) dL_law_80) hS (X.toQ hS.1) (fun r H80 locs80 hq hz hk hS => ?_)
      obtain ⟨hr, hg⟩ := hq
      have hI := hI.toQ X hg hk
      refine lv_pop hx hb dL_law_83 rfl ?_
      refine z_iconst hx hb dL_law_84 ?_
      refine lv_istore (lv' := [(9, .int (zI 0)), (8, .int (zI ((v : Int)))), (6, .long (lI (mtT (ghA n) B ((v : Int))))), (5, .int (zI (sn))), (4, .int (zI (bt * 384 / pt))), (3, .ref (adq 0)), (2, .ref h), (1, .ref (adp 0))]) hx hb dL_law_85 hl (by decide) rfl (fun ls hl => ?_)
      refine z_iconst hx hb dL_law_87 ?_
      refine lv_istore (lv' := [(10, .int (zI (-1))), (9, .int (zI 0)), (8, .int (zI ((v : Int)))), (6, .long (lI (mtT (ghA n) B ((v : Int))))), (5, .int (zI (sn))), (4, .int (zI (bt * 384 / pt))), (3, .ref (adq 0)), (2, .ref h), (1, .ref (adp 0))]) hx hb dL_law_88 hl (by decide) rfl (fun ls hl => ?_)
      refine lv_iload hx hb dL_law_90 (lv_at hl 4 rfl) ?_
      refine lv_aload_n hx hb dL_law_92 rfl (lv_at hl 8 rfl) ?_
      refine lv_iload hx hb dL_law_93 (lv_at hl 2 rfl) ?_
      refine z_iconst hx hb dL_law_95 ?_
      refine k_Wi (c_VW (As := [.int (zI (v : Int)), .int (zI 2)]) (rest := [.int (zI (sn))]) X.1 X.2.1 hS hA (g_voice (sz := H80.size) (v := (v : Int)) (w := 2) hst hv (by decide)) ⟨q_ml_RL_83, q_im_X2_voice, q_sel_X2_voice, q_ini_RX2, q_code_X2_voice⟩ hv_X2_voice (hI.1.rec hK) hI.1 ⟨Nat.le_of_ble_eq_true rfl, Nat.le_of_ble_eq_true rfl⟩ ⟨(by show CB + 10100 * v + 1 + 1 + 2 ≤ 600064; omega), (by show SB + 60700 * v + 6 + 6 + 12 ≤ 7301640; omega)⟩ rfl hl.1 rfl (Nat.le_of_ble_eq_true rfl) dL_law_96) hS (X.toP hS.1) (fun r H96 locs96 hq hz hk hS => ?_)
      obtain ⟨hr, hg⟩ := hq
      have hI := hI.toP X hg hk
      rw [hr]
      refine z_iadd (x := sn) (y := vpM (fmB bt pt ky nv) (ghA n) B h00 v 2) hx hb dL_law_99 ?_
      refine lv_istore (lv' := [(5, .int (zI (sn + vpM (fmB bt pt ky nv) (ghA n) B h00 v 2))), (10, .int (zI (-1))), (9, .int (zI 0)), (8, .int (zI ((v : Int)))), (6, .long (lI (mtT (ghA n) B ((v : Int))))), (4, .int (zI (bt * 384 / pt))), (3, .ref (adq 0)), (2, .ref h), (1, .ref (adp 0))]) hx hb dL_law_100 hl (by decide) rfl (fun ls hl => ?_)
      refine z_iconst hx hb dL_law_102 ?_
      refine lv_istore (lv' := [(11, .int (zI 0)), (5, .int (zI (sn + vpM (fmB bt pt ky nv) (ghA n) B h00 v 2))), (10, .int (zI (-1))), (9, .int (zI 0)), (8, .int (zI ((v : Int)))), (6, .long (lI (mtT (ghA n) B ((v : Int))))), (4, .int (zI (bt * 384 / pt))), (3, .ref (adq 0)), (2, .ref h), (1, .ref (adp 0))]) hx hb dL_law_103 hl (by decide) rfl (fun ls hl => ?_)
      refine W.widen (k := (CB + 10100 * v + 4) + 50 * 0) (n := (SB + 60700 * v + 24) + 300 * 0) (by omega) (by omega) (law_inner (CB := (CB + 10100 * v + 4)) (SB := (SB + 60700 * v + 24)) (v := (v : Int)) (sn := sn + vpM (fmB bt pt ky nv) (ghA n) B h00 v 2) (T0 := mtT (ghA n) B v) X hgp hZ hnv hv (by omega) (by omega) (fun H locs hI hS ls hl => ?_) ((n v).toNat + 1) 0 (by omega) (by omega) _ _ hI hS ls ?_)
      · skip
        have hsl := stC_le (g := gM (fmB bt pt ky nv) (ghA n) B v) (n v).toNat
        rw [Int.toNat_of_nonneg hmn.1] at hsl
        have hbg := hgp.bg (v := (v : Int)) (e := n v) hv4 ⟨hmn.1, Int.le_refl _⟩
        refine lv_iload hx hb dL_law_451 (lv_at hl 1 rfl) ?_
        refine lv_aload_n hx hb dL_law_453 rfl (lv_at hl 8 rfl) ?_
        refine lv_iload hx hb dL_law_454 (lv_at hl 3 rfl) ?_
        refine z_iconst hx hb dL_law_456 ?_
        refine k_Wi (c_VW (As := [.int (zI (v : Int)), .int (zI 1)]) (rest := [.int (zI (bgM B v (n v)))]) X.1 X.2.1 hS hA (g_voice (sz := H.size) (v := (v : Int)) (w := 1) hst hv (by decide)) ⟨q_ml_RL_83, q_im_X2_voice, q_sel_X2_voice, q_ini_RX2, q_code_X2_voice⟩ hv_X2_voice (hI.1.rec hK) hI.1 ⟨Nat.le_of_ble_eq_true rfl, Nat.le_of_ble_eq_true rfl⟩ ⟨(by show (CB + 10100 * v + 4) + 10060 + 2 ≤ 600064; omega), (by show (SB + 60700 * v + 24) + 60400 + 12 ≤ 7301640; omega)⟩ rfl hl.1 rfl (Nat.le_of_ble_eq_true rfl) dL_law_457) hS (X.toP hS.1) (fun r H457 locs457 hq hz hk hS => ?_)
        obtain ⟨hr, hg⟩ := hq
        have hI := hI.toP X hg hk
        rw [show r = bgM B v (n v) from hr]
        refine z_icmp_ne (a := bgM B v (n v)) (b := bgM B v (n v)) (tgt := 477) hx hb dL_law_460 (by decide) (by omega) (by omega) (fun h9 => absurd rfl h9) (fun _ => ?_)
        refine lv_iload hx hb dL_law_463 (lv_at hl 0 rfl) ?_
        refine z_iconst hx hb dL_law_465 ?_
        refine z_iadd (x := stC (gM (fmB bt pt ky nv) (ghA n) B v) (n v) - 1) (y := 1) hx hb dL_law_466 ?_
        refine lv_aload_n hx hb dL_law_467 rfl (lv_at hl 8 rfl) ?_
        refine lv_iload hx hb dL_law_468 (lv_at hl 3 rfl) ?_
        refine z_iconst hx hb dL_law_470 ?_
        refine k_Wi (c_VW (As := [.int (zI (v : Int)), .int (zI 3)]) (rest := [.int (zI (stC (gM (fmB bt pt ky nv) (ghA n) B v) (n v) - 1 + 1))]) X.1 X.2.1 hS hA (g_voice (sz := H457.size) (v := (v : Int)) (w := 3) hst hv (by decide)) ⟨q_ml_RL_83, q_im_X2_voice, q_sel_X2_voice, q_ini_RX2, q_code_X2_voice⟩ hv_X2_voice (hI.1.rec hK) hI.1 ⟨Nat.le_of_ble_eq_true rfl, Nat.le_of_ble_eq_true rfl⟩ ⟨(by show (CB + 10100 * v + 4) + 10060 + 2 + 2 ≤ 600064; omega), (by show (SB + 60700 * v + 24) + 60400 + 12 + 12 ≤ 7301640; omega)⟩ rfl hl.1 rfl (Nat.le_of_ble_eq_true rfl) dL_law_471) hS (X.toP hS.1) (fun r H471 locs471 hq hz hk hS => ?_)
        obtain ⟨hr, hg⟩ := hq
        have hI := hI.toP X hg hk
        rw [show r = stC (gM (fmB bt pt ky nv) (ghA n) B v) (n v) from hr]
        refine z_icmp_eq (a := stC (gM (fmB bt pt ky nv) (ghA n) B v) (n v) - 1 + 1) (b := stC (gM (fmB bt pt ky nv) (ghA n) B v) (n v)) (tgt := 479) hx hb dL_law_474 (by decide) (by omega) (by omega) (fun _ => ?_) (fun h9 => absurd (by omega) h9)
        refine z_iinc (lv' := [(8, .int (zI ((v : Int) + 1))), (10, .int (zI (stC (gM (fmB bt pt ky nv) (ghA n) B v) (n v) - 1))), (9, .int (zI (bgM B v (n v)))), (6, .long (lI (mtT (ghA n) B v + mtV B v (n v)))), (5, .int (zI (sn + vpM (fmB bt pt ky nv) (ghA n) B h00 v 2))), (4, .int (zI (bt * 384 / pt))), (3, .ref (adq 0)), (2, .ref h), (1, .ref (adp 0))]) hx hb dL_law_479 hl (k := 3) rfl (by decide) rfl (fun ls hl => ?_)
        refine lv_goto (tgt := 69) hx hb dL_law_482 (by decide) ?_
        rw [nQ_next n hv.1] at hI
        rw [← hmt] at hl
        refine W.widen (k := CB + 10100 * (v + 1)) (n := SB + 60700 * (v + 1)) (by omega) (by omega) (ih (v + 1) (by omega) (by omega) (sn + vpM (fmB bt pt ky nv) (ghA n) B h00 v 2) ?_ _ _ ?_ hS ls ?_)
        · rw [show ((v + 1 : Nat) : Int) = (v : Int) + 1 by omega, hec, hso]; omega
        · rw [show ((v + 1 : Nat) : Int) = (v : Int) + 1 by omega]; exact hI
        · rw [show ((v + 1 : Nat) : Int) = (v : Int) + 1 by omega]
          exact (lv_sub hl [0, 3, 4, 5, 6, 7, 8] rfl)
      · skip
        have z1 : stC (gM (fmB bt pt ky nv) (ghA n) B v) ((0 : Nat) : Int) = 0 := rfl
        have z2 : mtV B v ((0 : Nat) : Int) = 0 := rfl
        have z3 : bgM B v ((0 : Nat) : Int) = 0 := rfl
        rw [z1, z2, z3, Int.add_zero]
        exact (lv_sub hl [0, 2, 3, 5, 4, 1, 6, 7, 8, 9] rfl)
set_option maxHeartbeats 8000000 in
theorem law_run (X : LX9 p l s m args c G adp adq h) (hgp : GP bt pt ky nv n B) (hZ : RZ n B) (hnv : 1 ≤ nv ∧ nv ≤ 3) (hCB : CB + 60000 ≤ 600064) (hSB : SB + 400000 ≤ 7301640)
    (ke : ∀ (H : Heap) (locs : List Loc), va_S (AL s) s.heap H locs → ∀ ls : Array Slot, W p l env room_1 s m args below meth c H locs (CB + 60000) (SB + 400000) Q (F0 m 637 ls [.int (zI 1)])) {H : Heap} {locs : List Loc} (hI : LI9 G adp adq h vs bt pt ky nv n B 4 4 0 0 n00 H) (hS : va_S (AL s) s.heap H locs) {ls : Array Slot} (hl : lv_has ls 19 [(3, .ref (adq 0)), (2, .ref h), (1, .ref (adp 0))]) : W p l env room_1 s m args below meth c H locs CB SB Q (F0 m 30 ls []) := by
  have hx := X.1.1
  have hb := X.1.2.1
  have hts := X.1.2.2.2.2
  have hown := X.1.2.2.2.1
  have hK := X.2.1.1
  have hst := X.2.2.1
  have hA : ∀ q : Nat, AL s q → G.2.2 ≤ q := fun q hq => by rw [X.2.2.2.1]; exact hq
  have nms := hgp.nums
  have hbr := hgp.bar
  refine lv_aload_n hx hb dL_law_30 rfl (lv_at hl 0 rfl) ?_
  refine lv_aload_n hx hb dL_law_31 rfl (lv_at hl 1 rfl) ?_
  refine z_get (C := RX3) (T := TX3) (N := 4) hx hb hK hts u_in_X3 hown hI.2.2 rfl 0 (by decide) q_fl_RL_22 (v := .int (zI bt)) rfl dL_law_32 ?_
  refine lv_aload_n hx hb dL_law_35 rfl (lv_at hl 1 rfl) ?_
  refine z_get (C := RX3) (T := TX3) (N := 4) hx hb hK hts u_in_X3 hown hI.2.2 rfl 1 (by decide) q_fl_RL_26 (v := .int (zI pt)) rfl dL_law_36 ?_
  refine k_Wi (c_VW (As := [.int (zI bt), .int (zI pt)]) (rest := []) X.1 X.2.1 hS hA (g_setBars (sz := H.size) hst nms.1 nms.2.1 rfl) ⟨q_ml_RL_29, q_im_X2_setBars, q_sel_X2_setBars, q_ini_RX2, q_code_X2_setBars⟩ hv_X2_setBars (hI.2.1.rec hK) hI.2.1 ⟨Nat.le_of_ble_eq_true rfl, Nat.le_of_ble_eq_true rfl⟩ ⟨(by show CB + 1 ≤ 600064; omega), (by show SB + 6 ≤ 7301640; omega)⟩ rfl hl.1 rfl (Nat.le_of_ble_eq_true rfl) dL_law_39) hS (X.toQ hS.1) (fun r H39 locs39 hq hz hk hS => ?_)
  obtain ⟨hr, hg⟩ := hq
  have hI := hI.toQ X hg hk
  refine lv_pop hx hb dL_law_42 rfl ?_
  refine lv_aload_n hx hb dL_law_43 rfl (lv_at hl 0 rfl) ?_
  refine lv_aload_n hx hb dL_law_44 rfl (lv_at hl 2 rfl) ?_
  refine z_iconst hx hb dL_law_45 ?_
  refine k_Wi (c_VW (As := [.int (zI 2)]) (rest := [.ref (adq 0)]) X.1 X.2.1 hS hA (g_score (sz := H39.size) (w := 2) hst (by decide)) ⟨q_ml_RL_80, q_im_X2_score, q_sel_X2_score, q_ini_RX2, q_code_X2_score⟩ hv_X2_score (hI.1.rec hK) hI.1 ⟨Nat.le_of_ble_eq_true rfl, Nat.le_of_ble_eq_true rfl⟩ ⟨(by show CB + 1 + 1 ≤ 600064; omega), (by show SB + 6 + 6 ≤ 7301640; omega)⟩ rfl hl.1 rfl (Nat.le_of_ble_eq_true rfl) dL_law_46) hS (X.toP hS.1) (fun r H46 locs46 hq hz hk hS => ?_)
  obtain ⟨hr, hg⟩ := hq
  have hI := hI.toP X hg hk
  rw [show r = ky from hr]
  refine k_Wi (c_VW (As := [.int (zI ky)]) (rest := []) X.1 X.2.1 hS hA (g_setKey (sz := H46.size) hst nms.2.2.1) ⟨q_ml_RL_38, q_im_X2_setKey, q_sel_X2_setKey, q_ini_RX2, q_code_X2_setKey⟩ hv_X2_setKey (hI.2.1.rec hK) hI.2.1 ⟨Nat.le_of_ble_eq_true rfl, Nat.le_of_ble_eq_true rfl⟩ ⟨(by show CB + 1 + 1 + 1 ≤ 600064; omega), (by show SB + 6 + 6 + 6 ≤ 7301640; omega)⟩ rfl hl.1 rfl (Nat.le_of_ble_eq_true rfl) dL_law_49) hS (X.toQ hS.1) (fun r H49 locs49 hq hz hk hS => ?_)
  obtain ⟨hr, hg⟩ := hq
  have hI := hI.toQ X hg hk
  refine lv_pop hx hb dL_law_52 rfl ?_
  refine lv_aload_n hx hb dL_law_53 rfl (lv_at hl 2 rfl) ?_
  refine z_iconst hx hb dL_law_54 ?_
  refine k_Wi (c_VW (As := [.int (zI 1)]) (rest := []) X.1 X.2.1 hS hA (g_score (sz := H49.size) (w := 1) hst (by decide)) ⟨q_ml_RL_80, q_im_X2_score, q_sel_X2_score, q_ini_RX2, q_code_X2_score⟩ hv_X2_score (hI.1.rec hK) hI.1 ⟨Nat.le_of_ble_eq_true rfl, Nat.le_of_ble_eq_true rfl⟩ ⟨(by show CB + 1 + 1 + 1 + 1 ≤ 600064; omega), (by show SB + 6 + 6 + 6 + 6 ≤ 7301640; omega)⟩ rfl hl.1 rfl (Nat.le_of_ble_eq_true rfl) dL_law_55) hS (X.toP hS.1) (fun r H55 locs55 hq hz hk hS => ?_)
  obtain ⟨hr, hg⟩ := hq
  have hI := hI.toP X hg hk
  rw [show r = bt * 384 / pt from hr]
  refine lv_istore (lv' := [(4, .int (zI (bt * 384 / pt))), (3, .ref (adq 0)), (2, .ref h), (1, .ref (adp 0))]) hx hb dL_law_58 hl (by decide) rfl (fun ls hl => ?_)
  refine z_iconst hx hb dL_law_60 ?_
  refine lv_istore (lv' := [(5, .int (zI 0)), (4, .int (zI (bt * 384 / pt))), (3, .ref (adq 0)), (2, .ref h), (1, .ref (adp 0))]) hx hb dL_law_61 hl (by decide) rfl (fun ls hl => ?_)
  refine lv_lconst (v := 0) hx hb dL_law_63 rfl ?_
  refine lv_lstore (lv' := [(6, .long (0)), (5, .int (zI 0)), (4, .int (zI (bt * 384 / pt))), (3, .ref (adq 0)), (2, .ref h), (1, .ref (adp 0))]) hx hb dL_law_64 hl (by decide) rfl (fun ls hl => ?_)
  refine z_iconst hx hb dL_law_66 ?_
  refine lv_istore (lv' := [(8, .int (zI 0)), (6, .long (0)), (5, .int (zI 0)), (4, .int (zI (bt * 384 / pt))), (3, .ref (adq 0)), (2, .ref h), (1, .ref (adp 0))]) hx hb dL_law_67 hl (by decide) rfl (fun ls hl => ?_)
  rw [← nQ_0 n] at hI
  refine W.widen (k := CB + 10 + 10100 * 0) (n := SB + 60 + 60700 * 0) (by omega) (by omega) (law_outer (CB := CB + 10) (SB := SB + 60) X hgp hZ hnv (by omega) (by omega) (fun H locs hS ls => W.widen (k := CB + 60000) (n := SB + 400000) (by omega) (by omega) (ke H locs hS ls)) (nv.toNat + 1) 0 (by omega) (by omega) 0 rfl _ _ hI hS ls ?_)
  exact (lv_sub hl [0, 1, 2, 3, 4, 5, 6] rfl)
end LO9
