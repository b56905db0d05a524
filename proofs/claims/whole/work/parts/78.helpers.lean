def HP (G : zG) (oa : Nat) (O : Int64) (PO : Int64 → Heap → Prop) (ks : List (Int × String)) (PX : String → Heap → Prop) : Int → Heap → Prop := fun k H => (k = 0 ∧ ∃ w : Int64, OP G oa w H ∧ PO w H) ∨ (OP G oa O H ∧ ∃ q ∈ ks, k = q.1 ∧ PX q.2 H)
def PI (Post : Int → Heap → Prop) : Int64 → Heap → Prop := fun w H => ∃ r : Int, w = (zI r).toInt64 ∧ Post r H
theorem CP.kept {G : zG} {ad : Nat → Nat} {F : Nat → Int} {A E : Nat → Int → Int} {T P S Av : Int → Nat → Int → Int} {Fv : Int → Nat → Int} {H H1 : Heap} (h : CP G ad F A E T P S Av Fv H) (ho : ∀ k, k < 94 → H1[ad k]? = H[ad k]?) : CP G ad F A E T P S Av Fv H1 := PP.kept h ho
theorem hA9_n {ad : Nat → Nat} {oa sz : Nat} (hne : ∀ k, k < 94 → ad k ≠ oa) (hz : oa < sz) : ¬ fA 94 ad sz oa := fun h => h.elim (fun ⟨k, hk, e⟩ => hne k hk e.symm) (fun h => absurd hz (Nat.not_lt.mpr h))
set_option maxHeartbeats 1000000 in
theorem h_setBars (l : Launch) (G : zG) (oa : Nat) (O : Int64) (ad : Nat → Nat) (F : Nat → Int) (A : Nat → Int → Int) (E : Nat → Int → Int) (T : Int → Nat → Int → Int) (P : Int → Nat → Int → Int) (S : Int → Nat → Int → Int) (Av : Int → Nat → Int → Int) (Fv : Int → Nat → Int) (b : Int) (q : Int) (r_b : -2147483648 ≤ b ∧ b ≤ 2147483647) (r_q : -2147483648 ≤ q ∧ q ≤ 2147483647) (hVC : COK F Fv) (sz : Nat) (hst : l.stackTraces = false) (hg : G.2.2 ≤ oa) (hne : ∀ k, k < 94 → ad k ≠ oa) : HM l yL_setBars cL_setBars 5 [(0, 10, 13, 13), (0, 10, 17, 15)] 7 112 1 6 G [.ref (ad 0), .int (zI (b)), .int (zI (q)), .ref oa] (hA9 ad oa sz) sz (fun H => CP G ad F A E T P S Av Fv H ∧ OP G oa O H) (HP G oa O (PI (fun r H => r = b * (384 / q) ∧ (1 ≤ b ∧ b ≤ 12 ∧ (q = 2 ∨ q = 4 ∨ q = 8)) ∧ gEnd Fv (F 0) = 0 ∧ CP G ad (zN (zN F 1 (384 / q)) 2 (b * (384 / q))) A E T P S Av Fv H)) [(1, xIA), (2, xIS)] (fun E9 H => ((E9 = xIA ∧ ¬ (1 ≤ b ∧ b ≤ 12 ∧ (q = 2 ∨ q = 4 ∨ q = 8))) ∨ (E9 = xIS ∧ (1 ≤ b ∧ b ≤ 12 ∧ (q = 2 ∨ q = 4 ∨ q = 8)) ∧ 0 < gEnd Fv (F 0))) ∧ CP G ad F A E T P S Av Fv H)) := by
  refine hm_of hp_L_setBars (Nat.le_of_ble_eq_true rfl) ?_
  intro p env s m below meth c ls hB htab hC hsz hP9 hl
  obtain ⟨hP, hO⟩ := hP9
  obtain ⟨hx, hb, hml, hr, hlk, hown, hts, hG⟩ := hB
  subst hsz
  have hK := hG.1
  have hS : va_S (hA9 ad oa s.heap.size) s.heap s.heap [] := va_S.rf
  have hA : ∀ q : Nat, (hA9 ad oa s.heap.size) q → G.2.2 ≤ q := fun q h => h.elim (fun h => fA_lo hP.1.2 hG.2.1 q h) (fun h => h ▸ hg)
  have hl : lv_has ls 5 [(0, .ref (ad 0)), (1, .int (zI (b))), (2, .int (zI (q))), (3, .ref oa)] := hl
  refine lv_aload_n hx hb dL_setBars_0 rfl (lv_at hl 3 rfl) ?_
  refine z_iconst hx hb dL_setBars_1 ?_
  refine lv_aload_n hx hb dL_setBars_2 rfl (lv_at hl 0 rfl) ?_
  refine lv_iload_n hx hb dL_setBars_3 rfl (lv_at hl 1 rfl) ?_
  refine lv_iload_n hx hb dL_setBars_4 rfl (lv_at hl 2 rfl) ?_
  refine k_Xi (c_VX (As := [.int (zI (b)), .int (zI (q))]) (rest := [.int (zI 0), .ref oa]) ⟨hx, hb, hml, hown, hts⟩ hG hS hA (c_X2_setBars l G ad F A E T P S Av Fv b q s.heap.size hst r_b r_q hVC) ⟨q_ml_RL_7, q_im_X2_setBars, q_sel_X2_setBars, q_ini_RX2, q_code_X2_setBars⟩ hv_X2_setBars (CP.rec hK hP) hP ⟨Nat.le_of_ble_eq_true rfl, Nat.le_of_ble_eq_true rfl⟩ ⟨Nat.le_of_ble_eq_true rfl, Nat.le_of_ble_eq_true rfl⟩ rfl hl.1 rfl (Nat.le_of_ble_eq_true rfl) dL_setBars_5) hS (fun q h => Or.inl h) (fun r H1 locs1 hq hz1 hk1 hS => ?_) (fun E9 H1 locs1 q9 ce hq hz1 hk1 hS hce hcv hcl => ?_)
  · have hO1 : OP G oa O H1 := hO.kept (hk1 oa hO.lt (hA9_n hne hO.lt))
    refine lv_i2l (v := (zI r).toInt64) hx hb dL_setBars_8 rfl ?_
    refine z_last hx hb hK hS (Or.inr rfl) hO1 (x := (zI r).toInt64) dL_setBars_9 (fun H2 locs2 hO2 hz2 hk2 hS => ?_)
    refine lv_goto (tgt := 21) hx hb dL_setBars_10 (by decide) ?_
    refine z_iconst hx hb dL_setBars_21 ?_
    have hk9 : ∀ k, k < 94 → H2[ad k]? = H1[ad k]? := fun k hk => hk2 (ad k) (hne k hk)
    obtain ⟨a1, a2, a3, hC1⟩ := hq
    exact e_Wi (r := 0) hx hb hr hlk (n_i _) hS (by omega) (by omega) (Or.inl ⟨rfl, _, hO2, r, rfl, ⟨a1, a2, a3, CP.kept hC1 hk9⟩⟩) dL_setBars_22
  · have hO1 : OP G oa O H1 := hO.kept (hk1 oa hO.lt (hA9_n hne hO.lt))
    have hq0 := hq
    obtain ⟨hE, -⟩ := hq
    rcases hE with ⟨rfl, -⟩ | ⟨rfl, -⟩
    · refine catch9 hown hts htab [] ⟨0, 10, 13, 13⟩ [⟨0, 10, 17, 15⟩] rfl (fun z hz => absurd hz List.not_mem_nil) (by decide) ⟨rfl, by decide, rfl⟩ q_cl_RL_13 hC.1.1 hce hcv hcl ?_
      refine lv_astore (lv' := [(4, .ref q9), (0, .ref (ad 0)), (1, .int (zI (b))), (2, .int (zI (q))), (3, .ref oa)]) hx hb dL_setBars_13 hl (by decide) rfl (fun ls hl => ?_)
      refine z_iconst hx hb dL_setBars_15 ?_
      exact e_Wi (r := 1) hx hb hr hlk (n_i _) hS (by omega) (by omega) (Or.inr ⟨hO1, (1, xIA), List.mem_cons_self, rfl, hq0⟩) dL_setBars_16
    · refine catch9 hown hts htab [⟨0, 10, 13, 13⟩] ⟨0, 10, 17, 15⟩ [] rfl (fun z hz => by rcases List.mem_singleton.mp hz with rfl; exact ⟨by decide, xIA, q_cl_RL_13, hC.2.2.2.1⟩) (by decide) ⟨rfl, by decide, rfl⟩ q_cl_RL_15 hC.1.2.1 hce hcv hcl ?_
      refine lv_astore (lv' := [(4, .ref q9), (0, .ref (ad 0)), (1, .int (zI (b))), (2, .int (zI (q))), (3, .ref oa)]) hx hb dL_setBars_17 hl (by decide) rfl (fun ls hl => ?_)
      refine z_iconst hx hb dL_setBars_19 ?_
      exact e_Wi (r := 2) hx hb hr hlk (n_i _) hS (by omega) (by omega) (Or.inr ⟨hO1, (2, xIS), (List.mem_cons_of_mem _ List.mem_cons_self), rfl, hq0⟩) dL_setBars_20
set_option maxHeartbeats 1000000 in
theorem h_setKey (l : Launch) (G : zG) (oa : Nat) (O : Int64) (ad : Nat → Nat) (F : Nat → Int) (A : Nat → Int → Int) (E : Nat → Int → Int) (T : Int → Nat → Int → Int) (P : Int → Nat → Int → Int) (S : Int → Nat → Int → Int) (Av : Int → Nat → Int → Int) (Fv : Int → Nat → Int) (k : Int) (r_k : -2147483648 ≤ k ∧ k ≤ 2147483647) (hb99 : 0 < F 1 ∧ F 1 ≤ 1000000) (hVo : ∀ v, 0 ≤ v → v < 4 → VOK (T v) (P v) (Fv v 0)) (hVA : ∀ v, 0 ≤ v → v < 4 → ∀ p, 0 ≤ p → p < 63 → -2 ≤ Av v 1 p ∧ Av v 1 p ≤ 2) (hVC : COK F Fv) (sz : Nat) (hst : l.stackTraces = false) (hg : G.2.2 ≤ oa) (hne : ∀ k, k < 94 → ad k ≠ oa) : HM l yL_setKey cL_setKey 4 [(0, 9, 12, 13)] 7 152 1 6 G [.ref (ad 0), .int (zI (k)), .ref oa] (hA9 ad oa sz) sz (fun H => CP G ad F A E T P S Av Fv H ∧ OP G oa O H) (HP G oa O (PI (fun r H => r = F 3 ∧ (-7 ≤ k ∧ k ≤ 7) ∧ arA G ad (zN F 3 k) A E T P S Av Fv H)) [(1, xIA)] (fun E9 H => ((E9 = xIA ∧ ¬ (-7 ≤ k ∧ k ≤ 7))) ∧ CP G ad F A E T P S Av Fv H)) := by
  refine hm_of hp_L_setKey (Nat.le_of_ble_eq_true rfl) ?_
  intro p env s m below meth c ls hB htab hC hsz hP9 hl
  obtain ⟨hP, hO⟩ := hP9
  obtain ⟨hx, hb, hml, hr, hlk, hown, hts, hG⟩ := hB
  subst hsz
  have hK := hG.1
  have hS : va_S (hA9 ad oa s.heap.size) s.heap s.heap [] := va_S.rf
  have hA : ∀ q : Nat, (hA9 ad oa s.heap.size) q → G.2.2 ≤ q := fun q h => h.elim (fun h => fA_lo hP.1.2 hG.2.1 q h) (fun h => h ▸ hg)
  have hl : lv_has ls 4 [(0, .ref (ad 0)), (1, .int (zI (k))), (2, .ref oa)] := hl
  refine lv_aload_n hx hb dL_setKey_0 rfl (lv_at hl 2 rfl) ?_
  refine z_iconst hx hb dL_setKey_1 ?_
  refine lv_aload_n hx hb dL_setKey_2 rfl (lv_at hl 0 rfl) ?_
  refine lv_iload_n hx hb dL_setKey_3 rfl (lv_at hl 1 rfl) ?_
  refine k_Xi (c_VX (As := [.int (zI (k))]) (rest := [.int (zI 0), .ref oa]) ⟨hx, hb, hml, hown, hts⟩ hG hS hA (c_X2_setKey l G ad F A E T P S Av Fv k s.heap.size hst r_k hb99 hVo hVA hVC) ⟨q_ml_RL_17, q_im_X2_setKey, q_sel_X2_setKey, q_ini_RX2, q_code_X2_setKey⟩ hv_X2_setKey (CP.rec hK hP) hP ⟨Nat.le_of_ble_eq_true rfl, Nat.le_of_ble_eq_true rfl⟩ ⟨Nat.le_of_ble_eq_true rfl, Nat.le_of_ble_eq_true rfl⟩ rfl hl.1 rfl (Nat.le_of_ble_eq_true rfl) dL_setKey_4) hS (fun q h => Or.inl h) (fun r H1 locs1 hq hz1 hk1 hS => ?_) (fun E9 H1 locs1 q9 ce hq hz1 hk1 hS hce hcv hcl => ?_)
  · have hO1 : OP G oa O H1 := hO.kept (hk1 oa hO.lt (hA9_n hne hO.lt))
    refine lv_i2l (v := (zI r).toInt64) hx hb dL_setKey_7 rfl ?_
    refine z_last hx hb hK hS (Or.inr rfl) hO1 (x := (zI r).toInt64) dL_setKey_8 (fun H2 locs2 hO2 hz2 hk2 hS => ?_)
    refine lv_goto (tgt := 15) hx hb dL_setKey_9 (by decide) ?_
    refine z_iconst hx hb dL_setKey_15 ?_
    have hk9 : ∀ k, k < 94 → H2[ad k]? = H1[ad k]? := fun k hk => hk2 (ad k) (hne k hk)
    obtain ⟨a1, a2, hC1⟩ := hq
    exact e_Wi (r := 0) hx hb hr hlk (n_i _) hS (by omega) (by omega) (Or.inl ⟨rfl, _, hO2, r, rfl, ⟨a1, a2, CP.kept hC1 hk9⟩⟩) dL_setKey_16
  · have hO1 : OP G oa O H1 := hO.kept (hk1 oa hO.lt (hA9_n hne hO.lt))
    have hq0 := hq
    obtain ⟨hE, -⟩ := hq
    obtain ⟨rfl, -⟩ := hE
    refine catch9 hown hts htab [] ⟨0, 9, 12, 13⟩ [] rfl (fun z hz => absurd hz List.not_mem_nil) (by decide) ⟨rfl, by decide, rfl⟩ q_cl_RL_13 hC.1.1 hce hcv hcl ?_
    refine lv_astore_n (lv' := [(3, .ref q9), (0, .ref (ad 0)), (1, .int (zI (k))), (2, .ref oa)]) hx hb dL_setKey_12 rfl hl (by decide) rfl (fun ls hl => ?_)
    refine z_iconst hx hb dL_setKey_13 ?_
    exact e_Wi (r := 1) hx hb hr hlk (n_i _) hS (by omega) (by omega) (Or.inr ⟨hO1, (1, xIA), List.mem_cons_self, rfl, hq0⟩) dL_setKey_14
set_option maxHeartbeats 1000000 in
theorem h_addVoice (l : Launch) (G : zG) (oa : Nat) (O : Int64) (ad : Nat → Nat) (F : Nat → Int) (A : Nat → Int → Int) (E : Nat → Int → Int) (T : Int → Nat → Int → Int) (P : Int → Nat → Int → Int) (S : Int → Nat → Int → Int) (Av : Int → Nat → Int → Int) (Fv : Int → Nat → Int) (hVC : COK F Fv) (sz : Nat) (hst : l.stackTraces = false) (hg : G.2.2 ≤ oa) (hne : ∀ k, k < 94 → ad k ≠ oa) : HM l yL_addVoice cL_addVoice 3 [(0, 8, 11, 15)] 7 110 1 6 G [.ref (ad 0), .ref oa] (hA9 ad oa sz) sz (fun H => CP G ad F A E T P S Av Fv H ∧ OP G oa O H) (HP G oa O (PI (fun r H => r = F 0 ∧ F 0 < 4 ∧ CP G ad (zN F 0 (F 0 + 1)) A E T P S Av Fv H)) [(1, xIS)] (fun E9 H => ((E9 = xIS ∧ ¬ F 0 < 4)) ∧ CP G ad F A E T P S Av Fv H)) := by
  refine hm_of hp_L_addVoice (Nat.le_of_ble_eq_true rfl) ?_
  intro p env s m below meth c ls hB htab hC hsz hP9 hl
  obtain ⟨hP, hO⟩ := hP9
  obtain ⟨hx, hb, hml, hr, hlk, hown, hts, hG⟩ := hB
  subst hsz
  have hK := hG.1
  have hS : va_S (hA9 ad oa s.heap.size) s.heap s.heap [] := va_S.rf
  have hA : ∀ q : Nat, (hA9 ad oa s.heap.size) q → G.2.2 ≤ q := fun q h => h.elim (fun h => fA_lo hP.1.2 hG.2.1 q h) (fun h => h ▸ hg)
  have hl : lv_has ls 3 [(0, .ref (ad 0)), (1, .ref oa)] := hl
  refine lv_aload_n hx hb dL_addVoice_0 rfl (lv_at hl 1 rfl) ?_
  refine z_iconst hx hb dL_addVoice_1 ?_
  refine lv_aload_n hx hb dL_addVoice_2 rfl (lv_at hl 0 rfl) ?_
  refine k_Xi (c_VX (As := []) (rest := [.int (zI 0), .ref oa]) ⟨hx, hb, hml, hown, hts⟩ hG hS hA (c_X2_addVoice l G ad F A E T P S Av Fv s.heap.size hst hVC) ⟨q_ml_RL_21, q_im_X2_addVoice, q_sel_X2_addVoice, q_ini_RX2, q_code_X2_addVoice⟩ hv_X2_addVoice (CP.rec hK hP) hP ⟨Nat.le_of_ble_eq_true rfl, Nat.le_of_ble_eq_true rfl⟩ ⟨Nat.le_of_ble_eq_true rfl, Nat.le_of_ble_eq_true rfl⟩ rfl hl.1 rfl (Nat.le_of_ble_eq_true rfl) dL_addVoice_3) hS (fun q h => Or.inl h) (fun r H1 locs1 hq hz1 hk1 hS => ?_) (fun E9 H1 locs1 q9 ce hq hz1 hk1 hS hce hcv hcl => ?_)
  · have hO1 : OP G oa O H1 := hO.kept (hk1 oa hO.lt (hA9_n hne hO.lt))
    refine lv_i2l (v := (zI r).toInt64) hx hb dL_addVoice_6 rfl ?_
    refine z_last hx hb hK hS (Or.inr rfl) hO1 (x := (zI r).toInt64) dL_addVoice_7 (fun H2 locs2 hO2 hz2 hk2 hS => ?_)
    refine lv_goto (tgt := 14) hx hb dL_addVoice_8 (by decide) ?_
    refine z_iconst hx hb dL_addVoice_14 ?_
    have hk9 : ∀ k, k < 94 → H2[ad k]? = H1[ad k]? := fun k hk => hk2 (ad k) (hne k hk)
    obtain ⟨a1, a2, hC1⟩ := hq
    exact e_Wi (r := 0) hx hb hr hlk (n_i _) hS (by omega) (by omega) (Or.inl ⟨rfl, _, hO2, r, rfl, ⟨a1, a2, CP.kept hC1 hk9⟩⟩) dL_addVoice_15
  · have hO1 : OP G oa O H1 := hO.kept (hk1 oa hO.lt (hA9_n hne hO.lt))
    have hq0 := hq
    obtain ⟨hE, -⟩ := hq
    obtain ⟨rfl, -⟩ := hE
    refine catch9 hown hts htab [] ⟨0, 8, 11, 15⟩ [] rfl (fun z hz => absurd hz List.not_mem_nil) (by decide) ⟨rfl, by decide, rfl⟩ q_cl_RL_15 hC.1.2.1 hce hcv hcl ?_
    refine lv_astore_n (lv' := [(2, .ref q9), (0, .ref (ad 0)), (1, .ref oa)]) hx hb dL_addVoice_11 rfl hl (by decide) rfl (fun ls hl => ?_)
    refine z_iconst hx hb dL_addVoice_12 ?_
    exact e_Wi (r := 1) hx hb hr hlk (n_i _) hS (by omega) (by omega) (Or.inr ⟨hO1, (1, xIS), List.mem_cons_self, rfl, hq0⟩) dL_addVoice_13
set_option maxHeartbeats 1000000 in
theorem h_score (l : Launch) (G : zG) (oa : Nat) (O : Int64) (ad : Nat → Nat) (F : Nat → Int) (A : Nat → Int → Int) (E : Nat → Int → Int) (T : Int → Nat → Int → Int) (P : Int → Nat → Int → Int) (S : Int → Nat → Int → Int) (Av : Int → Nat → Int → Int) (Fv : Int → Nat → Int) (w : Int) (r_w : -2147483648 ≤ w ∧ w ≤ 2147483647) (hVT : ∀ v, 0 ≤ v → v < 4 → 0 < Fv v 0 → 0 ≤ T v 6 (Fv v 0 - 1) ∧ T v 6 (Fv v 0 - 1) ≤ 1000000) (hVC : COK F Fv) (sz : Nat) (hst : l.stackTraces = false) (hg : G.2.2 ≤ oa) (hne : ∀ k, k < 94 → ad k ≠ oa) : HM l yL_score cL_score 4 [(0, 9, 12, 28)] 7 111 1 6 G [.ref (ad 0), .int (zI (w)), .ref oa] (hA9 ad oa sz) sz (fun H => CP G ad F A E T P S Av Fv H ∧ OP G oa O H) (HP G oa O (PI (fun r H => r = scC F T Fv w ∧ (0 ≤ w ∧ w < 5) ∧ CP G ad F A E T P S Av Fv H)) [(1, xIO)] (fun E9 H => ((E9 = xIO ∧ ¬ (0 ≤ w ∧ w < 5))) ∧ CP G ad F A E T P S Av Fv H)) := by
  refine hm_of hp_L_score (Nat.le_of_ble_eq_true rfl) ?_
  intro p env s m below meth c ls hB htab hC hsz hP9 hl
  obtain ⟨hP, hO⟩ := hP9
  obtain ⟨hx, hb, hml, hr, hlk, hown, hts, hG⟩ := hB
  subst hsz
  have hK := hG.1
  have hS : va_S (hA9 ad oa s.heap.size) s.heap s.heap [] := va_S.rf
  have hA : ∀ q : Nat, (hA9 ad oa s.heap.size) q → G.2.2 ≤ q := fun q h => h.elim (fun h => fA_lo hP.1.2 hG.2.1 q h) (fun h => h ▸ hg)
  have hl : lv_has ls 4 [(0, .ref (ad 0)), (1, .int (zI (w))), (2, .ref oa)] := hl
  refine lv_aload_n hx hb dL_score_0 rfl (lv_at hl 2 rfl) ?_
  refine z_iconst hx hb dL_score_1 ?_
  refine lv_aload_n hx hb dL_score_2 rfl (lv_at hl 0 rfl) ?_
  refine lv_iload_n hx hb dL_score_3 rfl (lv_at hl 1 rfl) ?_
  refine k_Xi (c_VX (As := [.int (zI (w))]) (rest := [.int (zI 0), .ref oa]) ⟨hx, hb, hml, hown, hts⟩ hG hS hA (c_X2_score l G ad F A E T P S Av Fv w s.heap.size hst r_w hVT hVC) ⟨q_ml_RL_25, q_im_X2_score, q_sel_X2_score, q_ini_RX2, q_code_X2_score⟩ hv_X2_score (CP.rec hK hP) hP ⟨Nat.le_of_ble_eq_true rfl, Nat.le_of_ble_eq_true rfl⟩ ⟨Nat.le_of_ble_eq_true rfl, Nat.le_of_ble_eq_true rfl⟩ rfl hl.1 rfl (Nat.le_of_ble_eq_true rfl) dL_score_4) hS (fun q h => Or.inl h) (fun r H1 locs1 hq hz1 hk1 hS => ?_) (fun E9 H1 locs1 q9 ce hq hz1 hk1 hS hce hcv hcl => ?_)
  · have hO1 : OP G oa O H1 := hO.kept (hk1 oa hO.lt (hA9_n hne hO.lt))
    refine lv_i2l (v := (zI r).toInt64) hx hb dL_score_7 rfl ?_
    refine z_last hx hb hK hS (Or.inr rfl) hO1 (x := (zI r).toInt64) dL_score_8 (fun H2 locs2 hO2 hz2 hk2 hS => ?_)
    refine lv_goto (tgt := 15) hx hb dL_score_9 (by decide) ?_
    refine z_iconst hx hb dL_score_15 ?_
    have hk9 : ∀ k, k < 94 → H2[ad k]? = H1[ad k]? := fun k hk => hk2 (ad k) (hne k hk)
    obtain ⟨a1, a2, hC1⟩ := hq
    exact e_Wi (r := 0) hx hb hr hlk (n_i _) hS (by omega) (by omega) (Or.inl ⟨rfl, _, hO2, r, rfl, ⟨a1, a2, CP.kept hC1 hk9⟩⟩) dL_score_16
  · have hO1 : OP G oa O H1 := hO.kept (hk1 oa hO.lt (hA9_n hne hO.lt))
    have hq0 := hq
    obtain ⟨hE, -⟩ := hq
    obtain ⟨rfl, -⟩ := hE
    refine catch9 hown hts htab [] ⟨0, 9, 12, 28⟩ [] rfl (fun z hz => absurd hz List.not_mem_nil) (by decide) ⟨rfl, by decide, rfl⟩ q_cl_RL_28 hC.1.2.2 hce hcv hcl ?_
    refine lv_astore_n (lv' := [(3, .ref q9), (0, .ref (ad 0)), (1, .int (zI (w))), (2, .ref oa)]) hx hb dL_score_12 rfl hl (by decide) rfl (fun ls hl => ?_)
    refine z_iconst hx hb dL_score_13 ?_
    exact e_Wi (r := 1) hx hb hr hlk (n_i _) hS (by omega) (by omega) (Or.inr ⟨hO1, (1, xIO), List.mem_cons_self, rfl, hq0⟩) dL_score_14
set_option maxHeartbeats 1000000 in
theorem h_sign (l : Launch) (G : zG) (oa : Nat) (O : Int64) (ad : Nat → Nat) (F : Nat → Int) (A : Nat → Int → Int) (E : Nat → Int → Int) (T : Int → Nat → Int → Int) (P : Int → Nat → Int → Int) (S : Int → Nat → Int → Int) (Av : Int → Nat → Int → Int) (Fv : Int → Nat → Int) (st : Int) (r_st : -2147483648 ≤ st ∧ st ≤ 2147483647) (hk3 : -7 ≤ F 3 ∧ F 3 ≤ 7) (sz : Nat) (hst : l.stackTraces = false) (hg : G.2.2 ≤ oa) (hne : ∀ k, k < 94 → ad k ≠ oa) : HM l yL_sign cL_sign 4 [(0, 9, 12, 13)] 7 111 1 6 G [.ref (ad 0), .int (zI (st)), .ref oa] (hA9 ad oa sz) sz (fun H => CP G ad F A E T P S Av Fv H ∧ OP G oa O H) (HP G oa O (PI (fun r H => r = sgK (F 3) st ∧ (0 ≤ st ∧ st < 7) ∧ CP G ad F A E T P S Av Fv H)) [(1, xIA)] (fun E9 H => ((E9 = xIA ∧ ¬ (0 ≤ st ∧ st < 7))) ∧ CP G ad F A E T P S Av Fv H)) := by
  refine hm_of hp_L_sign (Nat.le_of_ble_eq_true rfl) ?_
  intro p env s m below meth c ls hB htab hC hsz hP9 hl
  obtain ⟨hP, hO⟩ := hP9
  obtain ⟨hx, hb, hml, hr, hlk, hown, hts, hG⟩ := hB
  subst hsz
  have hK := hG.1
  have hS : va_S (hA9 ad oa s.heap.size) s.heap s.heap [] := va_S.rf
  have hA : ∀ q : Nat, (hA9 ad oa s.heap.size) q → G.2.2 ≤ q := fun q h => h.elim (fun h => fA_lo hP.1.2 hG.2.1 q h) (fun h => h ▸ hg)
  have hl : lv_has ls 4 [(0, .ref (ad 0)), (1, .int (zI (st))), (2, .ref oa)] := hl
  refine lv_aload_n hx hb dL_sign_0 rfl (lv_at hl 2 rfl) ?_
  refine z_iconst hx hb dL_sign_1 ?_
  refine lv_aload_n hx hb dL_sign_2 rfl (lv_at hl 0 rfl) ?_
  refine lv_iload_n hx hb dL_sign_3 rfl (lv_at hl 1 rfl) ?_
  refine k_Xi (c_VX (As := [.int (zI (st))]) (rest := [.int (zI 0), .ref oa]) ⟨hx, hb, hml, hown, hts⟩ hG hS hA (c_X2_sign l G ad F A E T P S Av Fv st s.heap.size hst r_st hk3) ⟨q_ml_RL_30, q_im_X2_sign, q_sel_X2_sign, q_ini_RX2, q_code_X2_sign⟩ hv_X2_sign (CP.rec hK hP) hP ⟨Nat.le_of_ble_eq_true rfl, Nat.le_of_ble_eq_true rfl⟩ ⟨Nat.le_of_ble_eq_true rfl, Nat.le_of_ble_eq_true rfl⟩ rfl hl.1 rfl (Nat.le_of_ble_eq_true rfl) dL_sign_4) hS (fun q h => Or.inl h) (fun r H1 locs1 hq hz1 hk1 hS => ?_) (fun E9 H1 locs1 q9 ce hq hz1 hk1 hS hce hcv hcl => ?_)
  · have hO1 : OP G oa O H1 := hO.kept (hk1 oa hO.lt (hA9_n hne hO.lt))
    refine lv_i2l (v := (zI r).toInt64) hx hb dL_sign_7 rfl ?_
    refine z_last hx hb hK hS (Or.inr rfl) hO1 (x := (zI r).toInt64) dL_sign_8 (fun H2 locs2 hO2 hz2 hk2 hS => ?_)
    refine lv_goto (tgt := 15) hx hb dL_sign_9 (by decide) ?_
    refine z_iconst hx hb dL_sign_15 ?_
    have hk9 : ∀ k, k < 94 → H2[ad k]? = H1[ad k]? := fun k hk => hk2 (ad k) (hne k hk)
    obtain ⟨a1, a2, hC1⟩ := hq
    exact e_Wi (r := 0) hx hb hr hlk (n_i _) hS (by omega) (by omega) (Or.inl ⟨rfl, _, hO2, r, rfl, ⟨a1, a2, CP.kept hC1 hk9⟩⟩) dL_sign_16
  · have hO1 : OP G oa O H1 := hO.kept (hk1 oa hO.lt (hA9_n hne hO.lt))
    have hq0 := hq
    obtain ⟨hE, -⟩ := hq
    obtain ⟨rfl, -⟩ := hE
    refine catch9 hown hts htab [] ⟨0, 9, 12, 13⟩ [] rfl (fun z hz => absurd hz List.not_mem_nil) (by decide) ⟨rfl, by decide, rfl⟩ q_cl_RL_13 hC.1.1 hce hcv hcl ?_
    refine lv_astore_n (lv' := [(3, .ref q9), (0, .ref (ad 0)), (1, .int (zI (st))), (2, .ref oa)]) hx hb dL_sign_12 rfl hl (by decide) rfl (fun ls hl => ?_)
    refine z_iconst hx hb dL_sign_13 ?_
    exact e_Wi (r := 1) hx hb hr hlk (n_i _) hS (by omega) (by omega) (Or.inr ⟨hO1, (1, xIA), List.mem_cons_self, rfl, hq0⟩) dL_sign_14
set_option maxHeartbeats 1000000 in
theorem h_ticks (l : Launch) (G : zG) (oa : Nat) (O : Int64) (ad : Nat → Nat) (F : Nat → Int) (A : Nat → Int → Int) (E : Nat → Int → Int) (T : Int → Nat → Int → Int) (P : Int → Nat → Int → Int) (S : Int → Nat → Int → Int) (Av : Int → Nat → Int → Int) (Fv : Int → Nat → Int) (pa : Int) (d : Int) (r_pa : -2147483648 ≤ pa ∧ pa ≤ 2147483647) (r_d : -2147483648 ≤ d ∧ d ≤ 2147483647) (sz : Nat) (hst : l.stackTraces = false) (hg : G.2.2 ≤ oa) (hne : ∀ k, k < 94 → ad k ≠ oa) : HM l yL_ticks cL_ticks 5 [(0, 10, 13, 13)] 7 113 1 6 G [.ref (ad 0), .int (zI (pa)), .int (zI (d)), .ref oa] (hA9 ad oa sz) sz (fun H => CP G ad F A E T P S Av Fv H ∧ OP G oa O H) (HP G oa O (PI (fun r H => r = valT (findV pa d) ∧ 0 ≤ findV pa d ∧ CP G ad F A E T P S Av Fv H)) [(1, xIA)] (fun E9 H => ((E9 = xIA ∧ findV pa d < 0)) ∧ CP G ad F A E T P S Av Fv H)) := by
  refine hm_of hp_L_ticks (Nat.le_of_ble_eq_true rfl) ?_
  intro p env s m below meth c ls hB htab hC hsz hP9 hl
  obtain ⟨hP, hO⟩ := hP9
  obtain ⟨hx, hb, hml, hr, hlk, hown, hts, hG⟩ := hB
  subst hsz
  have hK := hG.1
  have hS : va_S (hA9 ad oa s.heap.size) s.heap s.heap [] := va_S.rf
  have hA : ∀ q : Nat, (hA9 ad oa s.heap.size) q → G.2.2 ≤ q := fun q h => h.elim (fun h => fA_lo hP.1.2 hG.2.1 q h) (fun h => h ▸ hg)
  have hl : lv_has ls 5 [(0, .ref (ad 0)), (1, .int (zI (pa))), (2, .int (zI (d))), (3, .ref oa)] := hl
  refine lv_aload_n hx hb dL_ticks_0 rfl (lv_at hl 3 rfl) ?_
  refine z_iconst hx hb dL_ticks_1 ?_
  refine lv_aload_n hx hb dL_ticks_2 rfl (lv_at hl 0 rfl) ?_
  refine lv_iload_n hx hb dL_ticks_3 rfl (lv_at hl 1 rfl) ?_
  refine lv_iload_n hx hb dL_ticks_4 rfl (lv_at hl 2 rfl) ?_
  refine k_Xi (c_VX (As := [.int (zI (pa)), .int (zI (d))]) (rest := [.int (zI 0), .ref oa]) ⟨hx, hb, hml, hown, hts⟩ hG hS hA (c_X2_ticks l G ad F A E T P S Av Fv pa d s.heap.size hst r_pa r_d) ⟨q_ml_RL_33, q_im_X2_ticks, q_sel_X2_ticks, q_ini_RX2, q_code_X2_ticks⟩ hv_X2_ticks (CP.rec hK hP) hP ⟨Nat.le_of_ble_eq_true rfl, Nat.le_of_ble_eq_true rfl⟩ ⟨Nat.le_of_ble_eq_true rfl, Nat.le_of_ble_eq_true rfl⟩ rfl hl.1 rfl (Nat.le_of_ble_eq_true rfl) dL_ticks_5) hS (fun q h => Or.inl h) (fun r H1 locs1 hq hz1 hk1 hS => ?_) (fun E9 H1 locs1 q9 ce hq hz1 hk1 hS hce hcv hcl => ?_)
  · have hO1 : OP G oa O H1 := hO.kept (hk1 oa hO.lt (hA9_n hne hO.lt))
    refine lv_i2l (v := (zI r).toInt64) hx hb dL_ticks_8 rfl ?_
    refine z_last hx hb hK hS (Or.inr rfl) hO1 (x := (zI r).toInt64) dL_ticks_9 (fun H2 locs2 hO2 hz2 hk2 hS => ?_)
    refine lv_goto (tgt := 17) hx hb dL_ticks_10 (by decide) ?_
    refine z_iconst hx hb dL_ticks_17 ?_
    have hk9 : ∀ k, k < 94 → H2[ad k]? = H1[ad k]? := fun k hk => hk2 (ad k) (hne k hk)
    obtain ⟨a1, a2, hC1⟩ := hq
    exact e_Wi (r := 0) hx hb hr hlk (n_i _) hS (by omega) (by omega) (Or.inl ⟨rfl, _, hO2, r, rfl, ⟨a1, a2, CP.kept hC1 hk9⟩⟩) dL_ticks_18
  · have hO1 : OP G oa O H1 := hO.kept (hk1 oa hO.lt (hA9_n hne hO.lt))
    have hq0 := hq
    obtain ⟨hE, -⟩ := hq
    obtain ⟨rfl, -⟩ := hE
    refine catch9 hown hts htab [] ⟨0, 10, 13, 13⟩ [] rfl (fun z hz => absurd hz List.not_mem_nil) (by decide) ⟨rfl, by decide, rfl⟩ q_cl_RL_13 hC.1.1 hce hcv hcl ?_
    refine lv_astore (lv' := [(4, .ref q9), (0, .ref (ad 0)), (1, .int (zI (pa))), (2, .int (zI (d))), (3, .ref oa)]) hx hb dL_ticks_13 hl (by decide) rfl (fun ls hl => ?_)
    refine z_iconst hx hb dL_ticks_15 ?_
    exact e_Wi (r := 1) hx hb hr hlk (n_i _) hS (by omega) (by omega) (Or.inr ⟨hO1, (1, xIA), List.mem_cons_self, rfl, hq0⟩) dL_ticks_16
set_option maxHeartbeats 1000000 in
theorem h_addNote (l : Launch) (G : zG) (oa : Nat) (O : Int64) (ad : Nat → Nat) (F : Nat → Int) (A : Nat → Int → Int) (E : Nat → Int → Int) (T : Int → Nat → Int → Int) (P : Int → Nat → Int → Int) (S : Int → Nat → Int → Int) (Av : Int → Nat → Int → Int) (Fv : Int → Nat → Int) (v : Int) (pa : Int) (d : Int) (st : Int) (sg : Int) (oc : Int) (t : Int) (r_v : -2147483648 ≤ v ∧ v ≤ 2147483647) (r_pa : -2147483648 ≤ pa ∧ pa ≤ 2147483647) (r_d : -2147483648 ≤ d ∧ d ≤ 2147483647) (r_st : -2147483648 ≤ st ∧ st ≤ 2147483647) (r_sg : -2147483648 ≤ sg ∧ sg ≤ 2147483647) (r_oc : -2147483648 ≤ oc ∧ oc ≤ 2147483647) (r_t : -2147483648 ≤ t ∧ t ≤ 2147483647) (ht9 : t = 0 ∨ t = 1) (hk9 : -7 ≤ F 3 ∧ F 3 ≤ 7) (hb99 : 0 < F 1 ∧ F 1 ≤ 1000000) (hVo : ∀ v, 0 ≤ v → v < 4 → VOK (T v) (P v) (Fv v 0)) (hVA : ∀ v, 0 ≤ v → v < 4 → ∀ p, 0 ≤ p → p < 63 → -2 ≤ Av v 1 p ∧ Av v 1 p ≤ 2) (hbt : 48 ≤ F 2 ∧ F 2 ≤ 2304 ∧ F 2 % 12 = 0) (hen : ∀ v, 0 ≤ v → v < 4 → Fv v 1 ≤ 100 * F 2 ∧ Fv v 1 % 12 = 0) (hVC : COK F Fv) (sz : Nat) (hst : l.stackTraces = false) (hg : G.2.2 ≤ oa) (hne : ∀ k, k < 94 → ad k ≠ oa) : HM l yL_addNote cL_addNote 10 [(0, 20, 23, 28), (0, 20, 27, 13), (0, 20, 31, 15)] 8 163 3 18 G [.ref (ad 0), .int (zI (v)), .int (zI (pa)), .int (zI (d)), .int (zI (st)), .int (zI (sg)), .int (zI (oc)), .int (zI (t)), .ref oa] (hA9 ad oa sz) sz (fun H => CP G ad F A E T P S Av Fv H ∧ OP G oa O H) (HP G oa O (PI (fun r H => r = plN F A Fv v (findV pa d) ∧ (0 ≤ v ∧ v < F 0) ∧ (0 ≤ (findV pa d) ∧ (0 ≤ st ∧ st < 7 ∧ 0 ≤ oc ∧ oc < 9 ∧ -2 ≤ sg ∧ sg ≤ 2 ∧ 0 ≤ toneF st sg oc)) ∧ ¬ (200 < Fv v 0 + plN F A Fv v (findV pa d) ∨ 100 * F 2 < Fv v 1 + valT (findV pa d)) ∧ arO G ad F (zW A 1 (plC F A Fv v (findV pa d))) E (zV T v (anF (Fv v 0) (Fv v 0 + plN F A Fv v (findV pa d)) st sg oc t (plA F A T Fv v (findV pa d)).1 (P v) (Fv v 0 + plN F A Fv v (findV pa d))).1) (zV P v (anF (Fv v 0) (Fv v 0 + plN F A Fv v (findV pa d)) st sg oc t (plA F A T Fv v (findV pa d)).1 (P v) (Fv v 0 + plN F A Fv v (findV pa d))).2) S Av (zV Fv v (plA F A T Fv v (findV pa d)).2) v H)) [(1, xIO), (2, xIA), (3, xIS)] (fun E9 H => ((E9 = xIO ∧ ¬ (0 ≤ v ∧ v < F 0)) ∨ (E9 = xIA ∧ (0 ≤ v ∧ v < F 0) ∧ ¬ (0 ≤ (findV pa d) ∧ (0 ≤ st ∧ st < 7 ∧ 0 ≤ oc ∧ oc < 9 ∧ -2 ≤ sg ∧ sg ≤ 2 ∧ 0 ≤ toneF st sg oc))) ∨ (E9 = xIS ∧ (0 ≤ v ∧ v < F 0) ∧ (0 ≤ (findV pa d) ∧ (0 ≤ st ∧ st < 7 ∧ 0 ≤ oc ∧ oc < 9 ∧ -2 ≤ sg ∧ sg ≤ 2 ∧ 0 ≤ toneF st sg oc)) ∧ (200 < Fv v 0 + plN F A Fv v (findV pa d) ∨ 100 * F 2 < Fv v 1 + valT (findV pa d)))) ∧ ∃ A', A' 0 = A 0 ∧ CP G ad F A' E T P S Av Fv H)) := by
  refine hm_of hp_L_addNote (Nat.le_of_ble_eq_true rfl) ?_
  intro p env s m below meth c ls hB htab hC hsz hP9 hl
  obtain ⟨hP, hO⟩ := hP9
  obtain ⟨hx, hb, hml, hr, hlk, hown, hts, hG⟩ := hB
  subst hsz
  have hK := hG.1
  have hS : va_S (hA9 ad oa s.heap.size) s.heap s.heap [] := va_S.rf
  have hA : ∀ q : Nat, (hA9 ad oa s.heap.size) q → G.2.2 ≤ q := fun q h => h.elim (fun h => fA_lo hP.1.2 hG.2.1 q h) (fun h => h ▸ hg)
  have hl : lv_has ls 10 [(0, .ref (ad 0)), (1, .int (zI (v))), (2, .int (zI (pa))), (3, .int (zI (d))), (4, .int (zI (st))), (5, .int (zI (sg))), (6, .int (zI (oc))), (7, .int (zI (t))), (8, .ref oa)] := hl
  refine lv_aload hx hb dL_addNote_0 (lv_at hl 8 rfl) ?_
  refine z_iconst hx hb dL_addNote_2 ?_
  refine lv_aload_n hx hb dL_addNote_3 rfl (lv_at hl 0 rfl) ?_
  refine lv_iload_n hx hb dL_addNote_4 rfl (lv_at hl 1 rfl) ?_
  refine lv_iload_n hx hb dL_addNote_5 rfl (lv_at hl 2 rfl) ?_
  refine lv_iload_n hx hb dL_addNote_6 rfl (lv_at hl 3 rfl) ?_
  refine lv_iload hx hb dL_addNote_7 (lv_at hl 4 rfl) ?_
  refine lv_iload hx hb dL_addNote_9 (lv_at hl 5 rfl) ?_
  refine lv_iload hx hb dL_addNote_11 (lv_at hl 6 rfl) ?_
  refine lv_iload hx hb dL_addNote_13 (lv_at hl 7 rfl) ?_
  refine k_Xi (c_VX (As := [.int (zI (v)), .int (zI (pa)), .int (zI (d)), .int (zI (st)), .int (zI (sg)), .int (zI (oc)), .int (zI (t))]) (rest := [.int (zI 0), .ref oa]) ⟨hx, hb, hml, hown, hts⟩ hG hS hA (c_X2_addNote l G ad F A E T P S Av Fv v pa d st sg oc t s.heap.size hst r_v r_pa r_d r_st r_sg r_oc r_t ht9 hk9 hb99 hVo hVA hbt hen hVC) ⟨q_ml_RL_36, q_im_X2_addNote, q_sel_X2_addNote, q_ini_RX2, q_code_X2_addNote⟩ hv_X2_addNote (CP.rec hK hP) hP ⟨Nat.le_of_ble_eq_true rfl, Nat.le_of_ble_eq_true rfl⟩ ⟨Nat.le_of_ble_eq_true rfl, Nat.le_of_ble_eq_true rfl⟩ rfl hl.1 rfl (Nat.le_of_ble_eq_true rfl) dL_addNote_15) hS (fun q h => Or.inl h) (fun r H1 locs1 hq hz1 hk1 hS => ?_) (fun E9 H1 locs1 q9 ce hq hz1 hk1 hS hce hcv hcl => ?_)
  · have hO1 : OP G oa O H1 := hO.kept (hk1 oa hO.lt (hA9_n hne hO.lt))
    refine lv_i2l (v := (zI r).toInt64) hx hb dL_addNote_18 rfl ?_
    refine z_last hx hb hK hS (Or.inr rfl) hO1 (x := (zI r).toInt64) dL_addNote_19 (fun H2 locs2 hO2 hz2 hk2 hS => ?_)
    refine lv_goto (tgt := 35) hx hb dL_addNote_20 (by decide) ?_
    refine z_iconst hx hb dL_addNote_35 ?_
    have hk9 : ∀ k, k < 94 → H2[ad k]? = H1[ad k]? := fun k hk => hk2 (ad k) (hne k hk)
    obtain ⟨a1, a2, a3, a4, hC1⟩ := hq
    exact e_Wi (r := 0) hx hb hr hlk (n_i _) hS (by omega) (by omega) (Or.inl ⟨rfl, _, hO2, r, rfl, ⟨a1, a2, a3, a4, CP.kept hC1 hk9⟩⟩) dL_addNote_36
  · have hO1 : OP G oa O H1 := hO.kept (hk1 oa hO.lt (hA9_n hne hO.lt))
    have hq0 := hq
    obtain ⟨hE, -⟩ := hq
    rcases hE with ⟨rfl, -⟩ | ⟨rfl, -⟩ | ⟨rfl, -⟩
    · refine catch9 hown hts htab [] ⟨0, 20, 23, 28⟩ [⟨0, 20, 27, 13⟩, ⟨0, 20, 31, 15⟩] rfl (fun z hz => absurd hz List.not_mem_nil) (by decide) ⟨rfl, by decide, rfl⟩ q_cl_RL_28 hC.1.2.2 hce hcv hcl ?_
      refine lv_astore (lv' := [(9, .ref q9), (0, .ref (ad 0)), (1, .int (zI (v))), (2, .int (zI (pa))), (3, .int (zI (d))), (4, .int (zI (st))), (5, .int (zI (sg))), (6, .int (zI (oc))), (7, .int (zI (t))), (8, .ref oa)]) hx hb dL_addNote_23 hl (by decide) rfl (fun ls hl => ?_)
      refine z_iconst hx hb dL_addNote_25 ?_
      exact e_Wi (r := 1) hx hb hr hlk (n_i _) hS (by omega) (by omega) (Or.inr ⟨hO1, (1, xIO), List.mem_cons_self, rfl, hq0⟩) dL_addNote_26
    · refine catch9 hown hts htab [⟨0, 20, 23, 28⟩] ⟨0, 20, 27, 13⟩ [⟨0, 20, 31, 15⟩] rfl (fun z hz => by rcases List.mem_singleton.mp hz with rfl; exact ⟨by decide, xIO, q_cl_RL_28, hC.2.2.1⟩) (by decide) ⟨rfl, by decide, rfl⟩ q_cl_RL_13 hC.1.1 hce hcv hcl ?_
      refine lv_astore (lv' := [(9, .ref q9), (0, .ref (ad 0)), (1, .int (zI (v))), (2, .int (zI (pa))), (3, .int (zI (d))), (4, .int (zI (st))), (5, .int (zI (sg))), (6, .int (zI (oc))), (7, .int (zI (t))), (8, .ref oa)]) hx hb dL_addNote_27 hl (by decide) rfl (fun ls hl => ?_)
      refine z_iconst hx hb dL_addNote_29 ?_
      exact e_Wi (r := 2) hx hb hr hlk (n_i _) hS (by omega) (by omega) (Or.inr ⟨hO1, (2, xIA), (List.mem_cons_of_mem _ List.mem_cons_self), rfl, hq0⟩) dL_addNote_30
    · refine catch9 hown hts htab [⟨0, 20, 23, 28⟩, ⟨0, 20, 27, 13⟩] ⟨0, 20, 31, 15⟩ [] rfl (fun z hz => by rcases List.mem_cons.mp hz with rfl | hz; exact ⟨by decide, xIO, q_cl_RL_28, hC.2.2.2.2.1⟩; rcases List.mem_singleton.mp hz with rfl; exact ⟨by decide, xIA, q_cl_RL_13, hC.2.2.2.1⟩) (by decide) ⟨rfl, by decide, rfl⟩ q_cl_RL_15 hC.1.2.1 hce hcv hcl ?_
      refine lv_astore (lv' := [(9, .ref q9), (0, .ref (ad 0)), (1, .int (zI (v))), (2, .int (zI (pa))), (3, .int (zI (d))), (4, .int (zI (st))), (5, .int (zI (sg))), (6, .int (zI (oc))), (7, .int (zI (t))), (8, .ref oa)]) hx hb dL_addNote_31 hl (by decide) rfl (fun ls hl => ?_)
      refine z_iconst hx hb dL_addNote_33 ?_
      exact e_Wi (r := 3) hx hb hr hlk (n_i _) hS (by omega) (by omega) (Or.inr ⟨hO1, (3, xIS), (List.mem_cons_of_mem _ (List.mem_cons_of_mem _ List.mem_cons_self)), rfl, hq0⟩) dL_addNote_34
set_option maxHeartbeats 1000000 in
theorem h_addRest (l : Launch) (G : zG) (oa : Nat) (O : Int64) (ad : Nat → Nat) (F : Nat → Int) (A : Nat → Int → Int) (E : Nat → Int → Int) (T : Int → Nat → Int → Int) (P : Int → Nat → Int → Int) (S : Int → Nat → Int → Int) (Av : Int → Nat → Int → Int) (Fv : Int → Nat → Int) (v : Int) (pa : Int) (d : Int) (r_v : -2147483648 ≤ v ∧ v ≤ 2147483647) (r_pa : -2147483648 ≤ pa ∧ pa ≤ 2147483647) (r_d : -2147483648 ≤ d ∧ d ≤ 2147483647) (hk9 : -7 ≤ F 3 ∧ F 3 ≤ 7) (hb99 : 0 < F 1 ∧ F 1 ≤ 1000000) (hVo : ∀ v, 0 ≤ v → v < 4 → VOK (T v) (P v) (Fv v 0)) (hVA : ∀ v, 0 ≤ v → v < 4 → ∀ p, 0 ≤ p → p < 63 → -2 ≤ Av v 1 p ∧ Av v 1 p ≤ 2) (hbt : 48 ≤ F 2 ∧ F 2 ≤ 2304 ∧ F 2 % 12 = 0) (hen : ∀ v, 0 ≤ v → v < 4 → Fv v 1 ≤ 100 * F 2 ∧ Fv v 1 % 12 = 0) (hVC : COK F Fv) (sz : Nat) (hst : l.stackTraces = false) (hg : G.2.2 ≤ oa) (hne : ∀ k, k < 94 → ad k ≠ oa) : HM l yL_addRest cL_addRest 6 [(0, 12, 15, 28), (0, 12, 19, 13), (0, 12, 23, 15)] 8 155 2 12 G [.ref (ad 0), .int (zI (v)), .int (zI (pa)), .int (zI (d)), .ref oa] (hA9 ad oa sz) sz (fun H => CP G ad F A E T P S Av Fv H ∧ OP G oa O H) (HP G oa O (PI (fun r H => r = plN F A Fv v (findV pa d) ∧ (0 ≤ v ∧ v < F 0) ∧ 0 ≤ (findV pa d) ∧ ¬ (200 < Fv v 0 + plN F A Fv v (findV pa d) ∨ 100 * F 2 < Fv v 1 + valT (findV pa d)) ∧ arO G ad F (zW A 1 (plC F A Fv v (findV pa d))) E (zV T v (plA F A T Fv v (findV pa d)).1) P S Av (zV Fv v (plA F A T Fv v (findV pa d)).2) v H)) [(1, xIO), (2, xIA), (3, xIS)] (fun E9 H => ((E9 = xIO ∧ ¬ (0 ≤ v ∧ v < F 0)) ∨ (E9 = xIA ∧ (0 ≤ v ∧ v < F 0) ∧ (findV pa d) < 0) ∨ (E9 = xIS ∧ (0 ≤ v ∧ v < F 0) ∧ 0 ≤ (findV pa d) ∧ (200 < Fv v 0 + plN F A Fv v (findV pa d) ∨ 100 * F 2 < Fv v 1 + valT (findV pa d)))) ∧ ∃ A', A' 0 = A 0 ∧ CP G ad F A' E T P S Av Fv H)) := by
  refine hm_of hp_L_addRest (Nat.le_of_ble_eq_true rfl) ?_
  intro p env s m below meth c ls hB htab hC hsz hP9 hl
  obtain ⟨hP, hO⟩ := hP9
  obtain ⟨hx, hb, hml, hr, hlk, hown, hts, hG⟩ := hB
  subst hsz
  have hK := hG.1
  have hS : va_S (hA9 ad oa s.heap.size) s.heap s.heap [] := va_S.rf
  have hA : ∀ q : Nat, (hA9 ad oa s.heap.size) q → G.2.2 ≤ q := fun q h => h.elim (fun h => fA_lo hP.1.2 hG.2.1 q h) (fun h => h ▸ hg)
  have hl : lv_has ls 6 [(0, .ref (ad 0)), (1, .int (zI (v))), (2, .int (zI (pa))), (3, .int (zI (d))), (4, .ref oa)] := hl
  refine lv_aload hx hb dL_addRest_0 (lv_at hl 4 rfl) ?_
  refine z_iconst hx hb dL_addRest_2 ?_
  refine lv_aload_n hx hb dL_addRest_3 rfl (lv_at hl 0 rfl) ?_
  refine lv_iload_n hx hb dL_addRest_4 rfl (lv_at hl 1 rfl) ?_
  refine lv_iload_n hx hb dL_addRest_5 rfl (lv_at hl 2 rfl) ?_
  refine lv_iload_n hx hb dL_addRest_6 rfl (lv_at hl 3 rfl) ?_
  refine k_Xi (c_VX (As := [.int (zI (v)), .int (zI (pa)), .int (zI (d))]) (rest := [.int (zI 0), .ref oa]) ⟨hx, hb, hml, hown, hts⟩ hG hS hA (c_X2_addRest l G ad F A E T P S Av Fv v pa d s.heap.size hst r_v r_pa r_d hk9 hb99 hVo hVA hbt hen hVC) ⟨q_ml_RL_40, q_im_X2_addRest, q_sel_X2_addRest, q_ini_RX2, q_code_X2_addRest⟩ hv_X2_addRest (CP.rec hK hP) hP ⟨Nat.le_of_ble_eq_true rfl, Nat.le_of_ble_eq_true rfl⟩ ⟨Nat.le_of_ble_eq_true rfl, Nat.le_of_ble_eq_true rfl⟩ rfl hl.1 rfl (Nat.le_of_ble_eq_true rfl) dL_addRest_7) hS (fun q h => Or.inl h) (fun r H1 locs1 hq hz1 hk1 hS => ?_) (fun E9 H1 locs1 q9 ce hq hz1 hk1 hS hce hcv hcl => ?_)
  · have hO1 : OP G oa O H1 := hO.kept (hk1 oa hO.lt (hA9_n hne hO.lt))
    refine lv_i2l (v := (zI r).toInt64) hx hb dL_addRest_10 rfl ?_
    refine z_last hx hb hK hS (Or.inr rfl) hO1 (x := (zI r).toInt64) dL_addRest_11 (fun H2 locs2 hO2 hz2 hk2 hS => ?_)
    refine lv_goto (tgt := 27) hx hb dL_addRest_12 (by decide) ?_
    refine z_iconst hx hb dL_addRest_27 ?_
    have hk9 : ∀ k, k < 94 → H2[ad k]? = H1[ad k]? := fun k hk => hk2 (ad k) (hne k hk)
    obtain ⟨a1, a2, a3, a4, hC1⟩ := hq
    exact e_Wi (r := 0) hx hb hr hlk (n_i _) hS (by omega) (by omega) (Or.inl ⟨rfl, _, hO2, r, rfl, ⟨a1, a2, a3, a4, CP.kept hC1 hk9⟩⟩) dL_addRest_28
  · have hO1 : OP G oa O H1 := hO.kept (hk1 oa hO.lt (hA9_n hne hO.lt))
    have hq0 := hq
    obtain ⟨hE, -⟩ := hq
    rcases hE with ⟨rfl, -⟩ | ⟨rfl, -⟩ | ⟨rfl, -⟩
    · refine catch9 hown hts htab [] ⟨0, 12, 15, 28⟩ [⟨0, 12, 19, 13⟩, ⟨0, 12, 23, 15⟩] rfl (fun z hz => absurd hz List.not_mem_nil) (by decide) ⟨rfl, by decide, rfl⟩ q_cl_RL_28 hC.1.2.2 hce hcv hcl ?_
      refine lv_astore (lv' := [(5, .ref q9), (0, .ref (ad 0)), (1, .int (zI (v))), (2, .int (zI (pa))), (3, .int (zI (d))), (4, .ref oa)]) hx hb dL_addRest_15 hl (by decide) rfl (fun ls hl => ?_)
      refine z_iconst hx hb dL_addRest_17 ?_
      exact e_Wi (r := 1) hx hb hr hlk (n_i _) hS (by omega) (by omega) (Or.inr ⟨hO1, (1, xIO), List.mem_cons_self, rfl, hq0⟩) dL_addRest_18
    · refine catch9 hown hts htab [⟨0, 12, 15, 28⟩] ⟨0, 12, 19, 13⟩ [⟨0, 12, 23, 15⟩] rfl (fun z hz => by rcases List.mem_singleton.mp hz with rfl; exact ⟨by decide, xIO, q_cl_RL_28, hC.2.2.1⟩) (by decide) ⟨rfl, by decide, rfl⟩ q_cl_RL_13 hC.1.1 hce hcv hcl ?_
      refine lv_astore (lv' := [(5, .ref q9), (0, .ref (ad 0)), (1, .int (zI (v))), (2, .int (zI (pa))), (3, .int (zI (d))), (4, .ref oa)]) hx hb dL_addRest_19 hl (by decide) rfl (fun ls hl => ?_)
      refine z_iconst hx hb dL_addRest_21 ?_
      exact e_Wi (r := 2) hx hb hr hlk (n_i _) hS (by omega) (by omega) (Or.inr ⟨hO1, (2, xIA), (List.mem_cons_of_mem _ List.mem_cons_self), rfl, hq0⟩) dL_addRest_22
    · refine catch9 hown hts htab [⟨0, 12, 15, 28⟩, ⟨0, 12, 19, 13⟩] ⟨0, 12, 23, 15⟩ [] rfl (fun z hz => by rcases List.mem_cons.mp hz with rfl | hz; exact ⟨by decide, xIO, q_cl_RL_28, hC.2.2.2.2.1⟩; rcases List.mem_singleton.mp hz with rfl; exact ⟨by decide, xIA, q_cl_RL_13, hC.2.2.2.1⟩) (by decide) ⟨rfl, by decide, rfl⟩ q_cl_RL_15 hC.1.2.1 hce hcv hcl ?_
      refine lv_astore (lv' := [(5, .ref q9), (0, .ref (ad 0)), (1, .int (zI (v))), (2, .int (zI (pa))), (3, .int (zI (d))), (4, .ref oa)]) hx hb dL_addRest_23 hl (by decide) rfl (fun ls hl => ?_)
      refine z_iconst hx hb dL_addRest_25 ?_
      exact e_Wi (r := 3) hx hb hr hlk (n_i _) hS (by omega) (by omega) (Or.inr ⟨hO1, (3, xIS), (List.mem_cons_of_mem _ (List.mem_cons_of_mem _ List.mem_cons_self)), rfl, hq0⟩) dL_addRest_26
set_option maxHeartbeats 1000000 in
theorem h_removeLast (l : Launch) (G : zG) (oa : Nat) (O : Int64) (ad : Nat → Nat) (F : Nat → Int) (A : Nat → Int → Int) (E : Nat → Int → Int) (T : Int → Nat → Int → Int) (P : Int → Nat → Int → Int) (S : Int → Nat → Int → Int) (Av : Int → Nat → Int → Int) (Fv : Int → Nat → Int) (v : Int) (r_v : -2147483648 ≤ v ∧ v ≤ 2147483647) (hk9 : -7 ≤ F 3 ∧ F 3 ≤ 7) (hb99 : 0 < F 1 ∧ F 1 ≤ 1000000) (hVo : ∀ v, 0 ≤ v → v < 4 → VOK (T v) (P v) (Fv v 0)) (hVA : ∀ v, 0 ≤ v → v < 4 → ∀ p, 0 ≤ p → p < 63 → -2 ≤ Av v 1 p ∧ Av v 1 p ≤ 2) (hVC : COK F Fv) (sz : Nat) (hst : l.stackTraces = false) (hg : G.2.2 ≤ oa) (hne : ∀ k, k < 94 → ad k ≠ oa) : HM l yL_removeLast cL_removeLast 4 [(0, 9, 12, 28), (0, 9, 15, 15)] 8 152 2 12 G [.ref (ad 0), .int (zI (v)), .ref oa] (hA9 ad oa sz) sz (fun H => CP G ad F A E T P S Av Fv H ∧ OP G oa O H) (HP G oa O (PI (fun r H => r = Fv v 0 - 1 ∧ (0 ≤ v ∧ v < F 0) ∧ 0 < Fv v 0 ∧ arO G ad F A E T P S Av (zV Fv v (zN (zN (Fv v) 0 (Fv v 0 - 1)) 1 (T v 0 (Fv v 0 - 1)))) v H)) [(1, xIO), (2, xIS)] (fun E9 H => ((E9 = xIO ∧ ¬ (0 ≤ v ∧ v < F 0)) ∨ (E9 = xIS ∧ (0 ≤ v ∧ v < F 0) ∧ Fv v 0 = 0)) ∧ CP G ad F A E T P S Av Fv H)) := by
  refine hm_of hp_L_removeLast (Nat.le_of_ble_eq_true rfl) ?_
  intro p env s m below meth c ls hB htab hC hsz hP9 hl
  obtain ⟨hP, hO⟩ := hP9
  obtain ⟨hx, hb, hml, hr, hlk, hown, hts, hG⟩ := hB
  subst hsz
  have hK := hG.1
  have hS : va_S (hA9 ad oa s.heap.size) s.heap s.heap [] := va_S.rf
  have hA : ∀ q : Nat, (hA9 ad oa s.heap.size) q → G.2.2 ≤ q := fun q h => h.elim (fun h => fA_lo hP.1.2 hG.2.1 q h) (fun h => h ▸ hg)
  have hl : lv_has ls 4 [(0, .ref (ad 0)), (1, .int (zI (v))), (2, .ref oa)] := hl
  refine lv_aload_n hx hb dL_removeLast_0 rfl (lv_at hl 2 rfl) ?_
  refine z_iconst hx hb dL_removeLast_1 ?_
  refine lv_aload_n hx hb dL_removeLast_2 rfl (lv_at hl 0 rfl) ?_
  refine lv_iload_n hx hb dL_removeLast_3 rfl (lv_at hl 1 rfl) ?_
  refine k_Xi (c_VX (As := [.int (zI (v))]) (rest := [.int (zI 0), .ref oa]) ⟨hx, hb, hml, hown, hts⟩ hG hS hA (c_X2_removeLast l G ad F A E T P S Av Fv v s.heap.size hst r_v hk9 hb99 hVo hVA hVC) ⟨q_ml_RL_44, q_im_X2_removeLast, q_sel_X2_removeLast, q_ini_RX2, q_code_X2_removeLast⟩ hv_X2_removeLast (CP.rec hK hP) hP ⟨Nat.le_of_ble_eq_true rfl, Nat.le_of_ble_eq_true rfl⟩ ⟨Nat.le_of_ble_eq_true rfl, Nat.le_of_ble_eq_true rfl⟩ rfl hl.1 rfl (Nat.le_of_ble_eq_true rfl) dL_removeLast_4) hS (fun q h => Or.inl h) (fun r H1 locs1 hq hz1 hk1 hS => ?_) (fun E9 H1 locs1 q9 ce hq hz1 hk1 hS hce hcv hcl => ?_)
  · have hO1 : OP G oa O H1 := hO.kept (hk1 oa hO.lt (hA9_n hne hO.lt))
    refine lv_i2l (v := (zI r).toInt64) hx hb dL_removeLast_7 rfl ?_
    refine z_last hx hb hK hS (Or.inr rfl) hO1 (x := (zI r).toInt64) dL_removeLast_8 (fun H2 locs2 hO2 hz2 hk2 hS => ?_)
    refine lv_goto (tgt := 18) hx hb dL_removeLast_9 (by decide) ?_
    refine z_iconst hx hb dL_removeLast_18 ?_
    have hk9 : ∀ k, k < 94 → H2[ad k]? = H1[ad k]? := fun k hk => hk2 (ad k) (hne k hk)
    obtain ⟨a1, a2, a3, hC1⟩ := hq
    exact e_Wi (r := 0) hx hb hr hlk (n_i _) hS (by omega) (by omega) (Or.inl ⟨rfl, _, hO2, r, rfl, ⟨a1, a2, a3, CP.kept hC1 hk9⟩⟩) dL_removeLast_19
  · have hO1 : OP G oa O H1 := hO.kept (hk1 oa hO.lt (hA9_n hne hO.lt))
    have hq0 := hq
    obtain ⟨hE, -⟩ := hq
    rcases hE with ⟨rfl, -⟩ | ⟨rfl, -⟩
    · refine catch9 hown hts htab [] ⟨0, 9, 12, 28⟩ [⟨0, 9, 15, 15⟩] rfl (fun z hz => absurd hz List.not_mem_nil) (by decide) ⟨rfl, by decide, rfl⟩ q_cl_RL_28 hC.1.2.2 hce hcv hcl ?_
      refine lv_astore_n (lv' := [(3, .ref q9), (0, .ref (ad 0)), (1, .int (zI (v))), (2, .ref oa)]) hx hb dL_removeLast_12 rfl hl (by decide) rfl (fun ls hl => ?_)
      refine z_iconst hx hb dL_removeLast_13 ?_
      exact e_Wi (r := 1) hx hb hr hlk (n_i _) hS (by omega) (by omega) (Or.inr ⟨hO1, (1, xIO), List.mem_cons_self, rfl, hq0⟩) dL_removeLast_14
    · refine catch9 hown hts htab [⟨0, 9, 12, 28⟩] ⟨0, 9, 15, 15⟩ [] rfl (fun z hz => by rcases List.mem_singleton.mp hz with rfl; exact ⟨by decide, xIO, q_cl_RL_28, hC.2.2.2.2.1⟩) (by decide) ⟨rfl, by decide, rfl⟩ q_cl_RL_15 hC.1.2.1 hce hcv hcl ?_
      refine lv_astore_n (lv' := [(3, .ref q9), (0, .ref (ad 0)), (1, .int (zI (v))), (2, .ref oa)]) hx hb dL_removeLast_15 rfl hl (by decide) rfl (fun ls hl => ?_)
      refine z_iconst hx hb dL_removeLast_16 ?_
      exact e_Wi (r := 2) hx hb hr hlk (n_i _) hS (by omega) (by omega) (Or.inr ⟨hO1, (2, xIS), (List.mem_cons_of_mem _ List.mem_cons_self), rfl, hq0⟩) dL_removeLast_17
set_option maxHeartbeats 1000000 in
theorem h_tie (l : Launch) (G : zG) (oa : Nat) (O : Int64) (ad : Nat → Nat) (F : Nat → Int) (A : Nat → Int → Int) (E : Nat → Int → Int) (T : Int → Nat → Int → Int) (P : Int → Nat → Int → Int) (S : Int → Nat → Int → Int) (Av : Int → Nat → Int → Int) (Fv : Int → Nat → Int) (v : Int) (i : Int) (t : Int) (r_v : -2147483648 ≤ v ∧ v ≤ 2147483647) (r_i : -2147483648 ≤ i ∧ i ≤ 2147483647) (r_t : -2147483648 ≤ t ∧ t ≤ 2147483647) (ht9 : t = 0 ∨ t = 1) (hk9 : -7 ≤ F 3 ∧ F 3 ≤ 7) (hb99 : 0 < F 1 ∧ F 1 ≤ 1000000) (hVo : ∀ v, 0 ≤ v → v < 4 → VOK (T v) (P v) (Fv v 0)) (hVA : ∀ v, 0 ≤ v → v < 4 → ∀ p, 0 ≤ p → p < 63 → -2 ≤ Av v 1 p ∧ Av v 1 p ≤ 2) (hVC : COK F Fv) (sz : Nat) (hst : l.stackTraces = false) (hg : G.2.2 ≤ oa) (hne : ∀ k, k < 94 → ad k ≠ oa) : HM l yL_tie cL_tie 6 [(0, 19, 22, 28), (0, 19, 26, 15)] 9 158 3 18 G [.ref (ad 0), .int (zI (v)), .int (zI (i)), .int (zI (t)), .ref oa] (hA9 ad oa sz) sz (fun H => CP G ad F A E T P S Av Fv H ∧ OP G oa O H) (HP G oa O (PI (fun r H => r = bI (T v 5 i = 1) ∧ (0 ≤ v ∧ v < F 0 ∧ 0 ≤ i ∧ i < Fv v 0) ∧ ¬ T v 4 i = -1 ∧ arO G ad F A E (zV T v (zR (T v) 5 i t)) P S Av Fv v H)) [(1, xIO), (2, xIS)] (fun E9 H => ((E9 = xIO ∧ ¬ (0 ≤ v ∧ v < F 0 ∧ 0 ≤ i ∧ i < Fv v 0)) ∨ (E9 = xIS ∧ (0 ≤ v ∧ v < F 0 ∧ 0 ≤ i ∧ i < Fv v 0) ∧ T v 4 i = -1)) ∧ CP G ad F A E T P S Av Fv H)) := by
  refine hm_of hp_L_tie (Nat.le_of_ble_eq_true rfl) ?_
  intro p env s m below meth c ls hB htab hC hsz hP9 hl
  obtain ⟨hP, hO⟩ := hP9
  obtain ⟨hx, hb, hml, hr, hlk, hown, hts, hG⟩ := hB
  subst hsz
  have hK := hG.1
  have hS : va_S (hA9 ad oa s.heap.size) s.heap s.heap [] := va_S.rf
  have hA : ∀ q : Nat, (hA9 ad oa s.heap.size) q → G.2.2 ≤ q := fun q h => h.elim (fun h => fA_lo hP.1.2 hG.2.1 q h) (fun h => h ▸ hg)
  have hl : lv_has ls 6 [(0, .ref (ad 0)), (1, .int (zI (v))), (2, .int (zI (i))), (3, .int (zI (t))), (4, .ref oa)] := hl
  refine lv_aload hx hb dL_tie_0 (lv_at hl 4 rfl) ?_
  refine z_iconst hx hb dL_tie_2 ?_
  refine lv_aload_n hx hb dL_tie_3 rfl (lv_at hl 0 rfl) ?_
  refine lv_iload_n hx hb dL_tie_4 rfl (lv_at hl 1 rfl) ?_
  refine lv_iload_n hx hb dL_tie_5 rfl (lv_at hl 2 rfl) ?_
  refine lv_iload_n hx hb dL_tie_6 rfl (lv_at hl 3 rfl) ?_
  refine k_Xi (c_VX (As := [.int (zI (v)), .int (zI (i)), .int (zI (t))]) (rest := [.int (zI 0), .ref oa]) ⟨hx, hb, hml, hown, hts⟩ hG hS hA (c_X2_tie l G ad F A E T P S Av Fv v i t s.heap.size hst r_v r_i r_t ht9 hk9 hb99 hVo hVA hVC) ⟨q_ml_RL_47, q_im_X2_tie, q_sel_X2_tie, q_ini_RX2, q_code_X2_tie⟩ hv_X2_tie (CP.rec hK hP) hP ⟨Nat.le_of_ble_eq_true rfl, Nat.le_of_ble_eq_true rfl⟩ ⟨Nat.le_of_ble_eq_true rfl, Nat.le_of_ble_eq_true rfl⟩ rfl hl.1 rfl (Nat.le_of_ble_eq_true rfl) dL_tie_7) hS (fun q h => Or.inl h) (fun r H1 locs1 hq hz1 hk1 hS => ?_) (fun E9 H1 locs1 q9 ce hq hz1 hk1 hS hce hcv hcl => ?_)
  · have hO1 : OP G oa O H1 := hO.kept (hk1 oa hO.lt (hA9_n hne hO.lt))
    have hr01 : r = 0 ∨ r = 1 := by rw [hq.1]; exact bI_01 _
    refine z_if_eq (a := r) (tgt := 17) hx hb dL_tie_10 (by decide) (by omega) (fun h9 => ?_) (fun h9 => ?_)
    · skip
      refine lv_lconst (v := 0) hx hb dL_tie_17 rfl ?_
      refine z_last hx hb hK hS (Or.inr rfl) hO1 (x := 0) dL_tie_18 (fun H2 locs2 hO2 hz2 hk2 hS => ?_)
      refine lv_goto (tgt := 30) hx hb dL_tie_19 (by decide) ?_
      refine z_iconst hx hb dL_tie_30 ?_
      have hk9 : ∀ k, k < 94 → H2[ad k]? = H1[ad k]? := fun k hk => hk2 (ad k) (hne k hk)
      obtain ⟨a1, a2, a3, hC1⟩ := hq
      exact e_Wi (r := 0) hx hb hr hlk (n_i _) hS (by omega) (by omega) (Or.inl ⟨rfl, _, hO2, r, (by rw [h9]; decide), ⟨a1, a2, a3, CP.kept hC1 hk9⟩⟩) dL_tie_31
    · skip
      refine lv_lconst (v := 1) hx hb dL_tie_13 rfl ?_
      refine lv_goto (tgt := 18) hx hb dL_tie_14 (by decide) ?_
      refine z_last hx hb hK hS (Or.inr rfl) hO1 (x := 1) dL_tie_18 (fun H2 locs2 hO2 hz2 hk2 hS => ?_)
      refine lv_goto (tgt := 30) hx hb dL_tie_19 (by decide) ?_
      refine z_iconst hx hb dL_tie_30 ?_
      have hk9 : ∀ k, k < 94 → H2[ad k]? = H1[ad k]? := fun k hk => hk2 (ad k) (hne k hk)
      obtain ⟨a1, a2, a3, hC1⟩ := hq
      exact e_Wi (r := 0) hx hb hr hlk (n_i _) hS (by omega) (by omega) (Or.inl ⟨rfl, _, hO2, r, (by rw [show r = 1 by omega]; decide), ⟨a1, a2, a3, CP.kept hC1 hk9⟩⟩) dL_tie_31
  · have hO1 : OP G oa O H1 := hO.kept (hk1 oa hO.lt (hA9_n hne hO.lt))
    have hq0 := hq
    obtain ⟨hE, -⟩ := hq
    rcases hE with ⟨rfl, -⟩ | ⟨rfl, -⟩
    · refine catch9 hown hts htab [] ⟨0, 19, 22, 28⟩ [⟨0, 19, 26, 15⟩] rfl (fun z hz => absurd hz List.not_mem_nil) (by decide) ⟨rfl, by decide, rfl⟩ q_cl_RL_28 hC.1.2.2 hce hcv hcl ?_
      refine lv_astore (lv' := [(5, .ref q9), (0, .ref (ad 0)), (1, .int (zI (v))), (2, .int (zI (i))), (3, .int (zI (t))), (4, .ref oa)]) hx hb dL_tie_22 hl (by decide) rfl (fun ls hl => ?_)
      refine z_iconst hx hb dL_tie_24 ?_
      exact e_Wi (r := 1) hx hb hr hlk (n_i _) hS (by omega) (by omega) (Or.inr ⟨hO1, (1, xIO), List.mem_cons_self, rfl, hq0⟩) dL_tie_25
    · refine catch9 hown hts htab [⟨0, 19, 22, 28⟩] ⟨0, 19, 26, 15⟩ [] rfl (fun z hz => by rcases List.mem_singleton.mp hz with rfl; exact ⟨by decide, xIO, q_cl_RL_28, hC.2.2.2.2.1⟩) (by decide) ⟨rfl, by decide, rfl⟩ q_cl_RL_15 hC.1.2.1 hce hcv hcl ?_
      refine lv_astore (lv' := [(5, .ref q9), (0, .ref (ad 0)), (1, .int (zI (v))), (2, .int (zI (i))), (3, .int (zI (t))), (4, .ref oa)]) hx hb dL_tie_26 hl (by decide) rfl (fun ls hl => ?_)
      refine z_iconst hx hb dL_tie_28 ?_
      exact e_Wi (r := 2) hx hb hr hlk (n_i _) hS (by omega) (by omega) (Or.inr ⟨hO1, (2, xIS), (List.mem_cons_of_mem _ List.mem_cons_self), rfl, hq0⟩) dL_tie_29
set_option maxHeartbeats 1000000 in
theorem h_element (l : Launch) (G : zG) (oa : Nat) (O : Int64) (ad : Nat → Nat) (F : Nat → Int) (A : Nat → Int → Int) (E : Nat → Int → Int) (T : Int → Nat → Int → Int) (P : Int → Nat → Int → Int) (S : Int → Nat → Int → Int) (Av : Int → Nat → Int → Int) (Fv : Int → Nat → Int) (v : Int) (i : Int) (w : Int) (r_v : -2147483648 ≤ v ∧ v ≤ 2147483647) (r_i : -2147483648 ≤ i ∧ i ≤ 2147483647) (r_w : -2147483648 ≤ w ∧ w ≤ 2147483647) (hVC : COK F Fv) (sz : Nat) (hst : l.stackTraces = false) (hg : G.2.2 ≤ oa) (hne : ∀ k, k < 94 → ad k ≠ oa) : HM l yL_element cL_element 6 [(0, 12, 15, 28)] 9 156 3 18 G [.ref (ad 0), .int (zI (v)), .int (zI (i)), .int (zI (w)), .ref oa] (hA9 ad oa sz) sz (fun H => CP G ad F A E T P S Av Fv H ∧ OP G oa O H) (HP G oa O (PI (fun r H => r = T v w.toNat i ∧ (0 ≤ v ∧ v < F 0 ∧ 0 ≤ i ∧ i < Fv v 0 ∧ 0 ≤ w ∧ w < 9) ∧ CP G ad F A E T P S Av Fv H)) [(1, xIO)] (fun E9 H => ((E9 = xIO ∧ ¬ (0 ≤ v ∧ v < F 0 ∧ 0 ≤ i ∧ i < Fv v 0 ∧ 0 ≤ w ∧ w < 9))) ∧ CP G ad F A E T P S Av Fv H)) := by
  refine hm_of hp_L_element (Nat.le_of_ble_eq_true rfl) ?_
  intro p env s m below meth c ls hB htab hC hsz hP9 hl
  obtain ⟨hP, hO⟩ := hP9
  obtain ⟨hx, hb, hml, hr, hlk, hown, hts, hG⟩ := hB
  subst hsz
  have hK := hG.1
  have hS : va_S (hA9 ad oa s.heap.size) s.heap s.heap [] := va_S.rf
  have hA : ∀ q : Nat, (hA9 ad oa s.heap.size) q → G.2.2 ≤ q := fun q h => h.elim (fun h => fA_lo hP.1.2 hG.2.1 q h) (fun h => h ▸ hg)
  have hl : lv_has ls 6 [(0, .ref (ad 0)), (1, .int (zI (v))), (2, .int (zI (i))), (3, .int (zI (w))), (4, .ref oa)] := hl
  refine lv_aload hx hb dL_element_0 (lv_at hl 4 rfl) ?_
  refine z_iconst hx hb dL_element_2 ?_
  refine lv_aload_n hx hb dL_element_3 rfl (lv_at hl 0 rfl) ?_
  refine lv_iload_n hx hb dL_element_4 rfl (lv_at hl 1 rfl) ?_
  refine lv_iload_n hx hb dL_element_5 rfl (lv_at hl 2 rfl) ?_
  refine lv_iload_n hx hb dL_element_6 rfl (lv_at hl 3 rfl) ?_
  refine k_Xi (c_VX (As := [.int (zI (v)), .int (zI (i)), .int (zI (w))]) (rest := [.int (zI 0), .ref oa]) ⟨hx, hb, hml, hown, hts⟩ hG hS hA (c_X2_element l G ad F A E T P S Av Fv v i w s.heap.size hst r_v r_i r_w hVC) ⟨q_ml_RL_51, q_im_X2_element, q_sel_X2_element, q_ini_RX2, q_code_X2_element⟩ hv_X2_element (CP.rec hK hP) hP ⟨Nat.le_of_ble_eq_true rfl, Nat.le_of_ble_eq_true rfl⟩ ⟨Nat.le_of_ble_eq_true rfl, Nat.le_of_ble_eq_true rfl⟩ rfl hl.1 rfl (Nat.le_of_ble_eq_true rfl) dL_element_7) hS (fun q h => Or.inl h) (fun r H1 locs1 hq hz1 hk1 hS => ?_) (fun E9 H1 locs1 q9 ce hq hz1 hk1 hS hce hcv hcl => ?_)
  · have hO1 : OP G oa O H1 := hO.kept (hk1 oa hO.lt (hA9_n hne hO.lt))
    refine lv_i2l (v := (zI r).toInt64) hx hb dL_element_10 rfl ?_
    refine z_last hx hb hK hS (Or.inr rfl) hO1 (x := (zI r).toInt64) dL_element_11 (fun H2 locs2 hO2 hz2 hk2 hS => ?_)
    refine lv_goto (tgt := 19) hx hb dL_element_12 (by decide) ?_
    refine z_iconst hx hb dL_element_19 ?_
    have hk9 : ∀ k, k < 94 → H2[ad k]? = H1[ad k]? := fun k hk => hk2 (ad k) (hne k hk)
    obtain ⟨a1, a2, hC1⟩ := hq
    exact e_Wi (r := 0) hx hb hr hlk (n_i _) hS (by omega) (by omega) (Or.inl ⟨rfl, _, hO2, r, rfl, ⟨a1, a2, CP.kept hC1 hk9⟩⟩) dL_element_20
  · have hO1 : OP G oa O H1 := hO.kept (hk1 oa hO.lt (hA9_n hne hO.lt))
    have hq0 := hq
    obtain ⟨hE, -⟩ := hq
    obtain ⟨rfl, -⟩ := hE
    refine catch9 hown hts htab [] ⟨0, 12, 15, 28⟩ [] rfl (fun z hz => absurd hz List.not_mem_nil) (by decide) ⟨rfl, by decide, rfl⟩ q_cl_RL_28 hC.1.2.2 hce hcv hcl ?_
    refine lv_astore (lv' := [(5, .ref q9), (0, .ref (ad 0)), (1, .int (zI (v))), (2, .int (zI (i))), (3, .int (zI (w))), (4, .ref oa)]) hx hb dL_element_15 hl (by decide) rfl (fun ls hl => ?_)
    refine z_iconst hx hb dL_element_17 ?_
    exact e_Wi (r := 1) hx hb hr hlk (n_i _) hS (by omega) (by omega) (Or.inr ⟨hO1, (1, xIO), List.mem_cons_self, rfl, hq0⟩) dL_element_18
set_option maxHeartbeats 1000000 in
theorem h_pitch (l : Launch) (G : zG) (oa : Nat) (O : Int64) (ad : Nat → Nat) (F : Nat → Int) (A : Nat → Int → Int) (E : Nat → Int → Int) (T : Int → Nat → Int → Int) (P : Int → Nat → Int → Int) (S : Int → Nat → Int → Int) (Av : Int → Nat → Int → Int) (Fv : Int → Nat → Int) (v : Int) (i : Int) (w : Int) (r_v : -2147483648 ≤ v ∧ v ≤ 2147483647) (r_i : -2147483648 ≤ i ∧ i ≤ 2147483647) (r_w : -2147483648 ≤ w ∧ w ≤ 2147483647) (hVo : ∀ v, 0 ≤ v → v < 4 → VOK (T v) (P v) (Fv v 0)) (hVC : COK F Fv) (sz : Nat) (hst : l.stackTraces = false) (hg : G.2.2 ≤ oa) (hne : ∀ k, k < 94 → ad k ≠ oa) : HM l yL_pitch cL_pitch 6 [(0, 12, 15, 28), (0, 12, 19, 15)] 9 156 3 18 G [.ref (ad 0), .int (zI (v)), .int (zI (i)), .int (zI (w)), .ref oa] (hA9 ad oa sz) sz (fun H => CP G ad F A E T P S Av Fv H ∧ OP G oa O H) (HP G oa O (PI (fun r H => r = P v w.toNat i ∧ (0 ≤ v ∧ v < F 0 ∧ 0 ≤ i ∧ i < Fv v 0 ∧ 0 ≤ w ∧ w < 3) ∧ ¬ T v 4 i = -1 ∧ CP G ad F A E T P S Av Fv H)) [(1, xIO), (2, xIS)] (fun E9 H => ((E9 = xIO ∧ ¬ (0 ≤ v ∧ v < F 0 ∧ 0 ≤ i ∧ i < Fv v 0 ∧ 0 ≤ w ∧ w < 3)) ∨ (E9 = xIS ∧ (0 ≤ v ∧ v < F 0 ∧ 0 ≤ i ∧ i < Fv v 0 ∧ 0 ≤ w ∧ w < 3) ∧ T v 4 i = -1)) ∧ CP G ad F A E T P S Av Fv H)) := by
  refine hm_of hp_L_pitch (Nat.le_of_ble_eq_true rfl) ?_
  intro p env s m below meth c ls hB htab hC hsz hP9 hl
  obtain ⟨hP, hO⟩ := hP9
  obtain ⟨hx, hb, hml, hr, hlk, hown, hts, hG⟩ := hB
  subst hsz
  have hK := hG.1
  have hS : va_S (hA9 ad oa s.heap.size) s.heap s.heap [] := va_S.rf
  have hA : ∀ q : Nat, (hA9 ad oa s.heap.size) q → G.2.2 ≤ q := fun q h => h.elim (fun h => fA_lo hP.1.2 hG.2.1 q h) (fun h => h ▸ hg)
  have hl : lv_has ls 6 [(0, .ref (ad 0)), (1, .int (zI (v))), (2, .int (zI (i))), (3, .int (zI (w))), (4, .ref oa)] := hl
  refine lv_aload hx hb dL_pitch_0 (lv_at hl 4 rfl) ?_
  refine z_iconst hx hb dL_pitch_2 ?_
  refine lv_aload_n hx hb dL_pitch_3 rfl (lv_at hl 0 rfl) ?_
  refine lv_iload_n hx hb dL_pitch_4 rfl (lv_at hl 1 rfl) ?_
  refine lv_iload_n hx hb dL_pitch_5 rfl (lv_at hl 2 rfl) ?_
  refine lv_iload_n hx hb dL_pitch_6 rfl (lv_at hl 3 rfl) ?_
  refine k_Xi (c_VX (As := [.int (zI (v)), .int (zI (i)), .int (zI (w))]) (rest := [.int (zI 0), .ref oa]) ⟨hx, hb, hml, hown, hts⟩ hG hS hA (c_X2_pitch l G ad F A E T P S Av Fv v i w s.heap.size hst r_v r_i r_w hVo hVC) ⟨q_ml_RL_54, q_im_X2_pitch, q_sel_X2_pitch, q_ini_RX2, q_code_X2_pitch⟩ hv_X2_pitch (CP.rec hK hP) hP ⟨Nat.le_of_ble_eq_true rfl, Nat.le_of_ble_eq_true rfl⟩ ⟨Nat.le_of_ble_eq_true rfl, Nat.le_of_ble_eq_true rfl⟩ rfl hl.1 rfl (Nat.le_of_ble_eq_true rfl) dL_pitch_7) hS (fun q h => Or.inl h) (fun r H1 locs1 hq hz1 hk1 hS => ?_) (fun E9 H1 locs1 q9 ce hq hz1 hk1 hS hce hcv hcl => ?_)
  · have hO1 : OP G oa O H1 := hO.kept (hk1 oa hO.lt (hA9_n hne hO.lt))
    refine lv_i2l (v := (zI r).toInt64) hx hb dL_pitch_10 rfl ?_
    refine z_last hx hb hK hS (Or.inr rfl) hO1 (x := (zI r).toInt64) dL_pitch_11 (fun H2 locs2 hO2 hz2 hk2 hS => ?_)
    refine lv_goto (tgt := 23) hx hb dL_pitch_12 (by decide) ?_
    refine z_iconst hx hb dL_pitch_23 ?_
    have hk9 : ∀ k, k < 94 → H2[ad k]? = H1[ad k]? := fun k hk => hk2 (ad k) (hne k hk)
    obtain ⟨a1, a2, a3, hC1⟩ := hq
    exact e_Wi (r := 0) hx hb hr hlk (n_i _) hS (by omega) (by omega) (Or.inl ⟨rfl, _, hO2, r, rfl, ⟨a1, a2, a3, CP.kept hC1 hk9⟩⟩) dL_pitch_24
  · have hO1 : OP G oa O H1 := hO.kept (hk1 oa hO.lt (hA9_n hne hO.lt))
    have hq0 := hq
    obtain ⟨hE, -⟩ := hq
    rcases hE with ⟨rfl, -⟩ | ⟨rfl, -⟩
    · refine catch9 hown hts htab [] ⟨0, 12, 15, 28⟩ [⟨0, 12, 19, 15⟩] rfl (fun z hz => absurd hz List.not_mem_nil) (by decide) ⟨rfl, by decide, rfl⟩ q_cl_RL_28 hC.1.2.2 hce hcv hcl ?_
      refine lv_astore (lv' := [(5, .ref q9), (0, .ref (ad 0)), (1, .int (zI (v))), (2, .int (zI (i))), (3, .int (zI (w))), (4, .ref oa)]) hx hb dL_pitch_15 hl (by decide) rfl (fun ls hl => ?_)
      refine z_iconst hx hb dL_pitch_17 ?_
      exact e_Wi (r := 1) hx hb hr hlk (n_i _) hS (by omega) (by omega) (Or.inr ⟨hO1, (1, xIO), List.mem_cons_self, rfl, hq0⟩) dL_pitch_18
    · refine catch9 hown hts htab [⟨0, 12, 15, 28⟩] ⟨0, 12, 19, 15⟩ [] rfl (fun z hz => by rcases List.mem_singleton.mp hz with rfl; exact ⟨by decide, xIO, q_cl_RL_28, hC.2.2.2.2.1⟩) (by decide) ⟨rfl, by decide, rfl⟩ q_cl_RL_15 hC.1.2.1 hce hcv hcl ?_
      refine lv_astore (lv' := [(5, .ref q9), (0, .ref (ad 0)), (1, .int (zI (v))), (2, .int (zI (i))), (3, .int (zI (w))), (4, .ref oa)]) hx hb dL_pitch_19 hl (by decide) rfl (fun ls hl => ?_)
      refine z_iconst hx hb dL_pitch_21 ?_
      exact e_Wi (r := 2) hx hb hr hlk (n_i _) hS (by omega) (by omega) (Or.inr ⟨hO1, (2, xIS), (List.mem_cons_of_mem _ List.mem_cons_self), rfl, hq0⟩) dL_pitch_22
set_option maxHeartbeats 1000000 in
theorem h_voice (l : Launch) (G : zG) (oa : Nat) (O : Int64) (ad : Nat → Nat) (F : Nat → Int) (A : Nat → Int → Int) (E : Nat → Int → Int) (T : Int → Nat → Int → Int) (P : Int → Nat → Int → Int) (S : Int → Nat → Int → Int) (Av : Int → Nat → Int → Int) (Fv : Int → Nat → Int) (v : Int) (w : Int) (r_v : -2147483648 ≤ v ∧ v ≤ 2147483647) (r_w : -2147483648 ≤ w ∧ w ≤ 2147483647) (hVC : COK F Fv) (sz : Nat) (hst : l.stackTraces = false) (hg : G.2.2 ≤ oa) (hne : ∀ k, k < 94 → ad k ≠ oa) : HM l yL_voice cL_voice 5 [(0, 10, 13, 28)] 8 133 2 12 G [.ref (ad 0), .int (zI (v)), .int (zI (w)), .ref oa] (hA9 ad oa sz) sz (fun H => CP G ad F A E T P S Av Fv H ∧ OP G oa O H) (HP G oa O (PI (fun r H => r = vTell (Fv v) w ∧ (0 ≤ v ∧ v < F 0 ∧ 0 ≤ w ∧ w < 7) ∧ CP G ad F A E T P S Av Fv H)) [(1, xIO)] (fun E9 H => ((E9 = xIO ∧ ¬ (0 ≤ v ∧ v < F 0 ∧ 0 ≤ w ∧ w < 7))) ∧ CP G ad F A E T P S Av Fv H)) := by
  refine hm_of hp_L_voice (Nat.le_of_ble_eq_true rfl) ?_
  intro p env s m below meth c ls hB htab hC hsz hP9 hl
  obtain ⟨hP, hO⟩ := hP9
  obtain ⟨hx, hb, hml, hr, hlk, hown, hts, hG⟩ := hB
  subst hsz
  have hK := hG.1
  have hS : va_S (hA9 ad oa s.heap.size) s.heap s.heap [] := va_S.rf
  have hA : ∀ q : Nat, (hA9 ad oa s.heap.size) q → G.2.2 ≤ q := fun q h => h.elim (fun h => fA_lo hP.1.2 hG.2.1 q h) (fun h => h ▸ hg)
  have hl : lv_has ls 5 [(0, .ref (ad 0)), (1, .int (zI (v))), (2, .int (zI (w))), (3, .ref oa)] := hl
  refine lv_aload_n hx hb dL_voice_0 rfl (lv_at hl 3 rfl) ?_
  refine z_iconst hx hb dL_voice_1 ?_
  refine lv_aload_n hx hb dL_voice_2 rfl (lv_at hl 0 rfl) ?_
  refine lv_iload_n hx hb dL_voice_3 rfl (lv_at hl 1 rfl) ?_
  refine lv_iload_n hx hb dL_voice_4 rfl (lv_at hl 2 rfl) ?_
  refine k_Xi (c_VX (As := [.int (zI (v)), .int (zI (w))]) (rest := [.int (zI 0), .ref oa]) ⟨hx, hb, hml, hown, hts⟩ hG hS hA (c_X2_voice l G ad F A E T P S Av Fv v w s.heap.size hst r_v r_w hVC) ⟨q_ml_RL_57, q_im_X2_voice, q_sel_X2_voice, q_ini_RX2, q_code_X2_voice⟩ hv_X2_voice (CP.rec hK hP) hP ⟨Nat.le_of_ble_eq_true rfl, Nat.le_of_ble_eq_true rfl⟩ ⟨Nat.le_of_ble_eq_true rfl, Nat.le_of_ble_eq_true rfl⟩ rfl hl.1 rfl (Nat.le_of_ble_eq_true rfl) dL_voice_5) hS (fun q h => Or.inl h) (fun r H1 locs1 hq hz1 hk1 hS => ?_) (fun E9 H1 locs1 q9 ce hq hz1 hk1 hS hce hcv hcl => ?_)
  · have hO1 : OP G oa O H1 := hO.kept (hk1 oa hO.lt (hA9_n hne hO.lt))
    refine lv_i2l (v := (zI r).toInt64) hx hb dL_voice_8 rfl ?_
    refine z_last hx hb hK hS (Or.inr rfl) hO1 (x := (zI r).toInt64) dL_voice_9 (fun H2 locs2 hO2 hz2 hk2 hS => ?_)
    refine lv_goto (tgt := 17) hx hb dL_voice_10 (by decide) ?_
    refine z_iconst hx hb dL_voice_17 ?_
    have hk9 : ∀ k, k < 94 → H2[ad k]? = H1[ad k]? := fun k hk => hk2 (ad k) (hne k hk)
    obtain ⟨a1, a2, hC1⟩ := hq
    exact e_Wi (r := 0) hx hb hr hlk (n_i _) hS (by omega) (by omega) (Or.inl ⟨rfl, _, hO2, r, rfl, ⟨a1, a2, CP.kept hC1 hk9⟩⟩) dL_voice_18
  · have hO1 : OP G oa O H1 := hO.kept (hk1 oa hO.lt (hA9_n hne hO.lt))
    have hq0 := hq
    obtain ⟨hE, -⟩ := hq
    obtain ⟨rfl, -⟩ := hE
    refine catch9 hown hts htab [] ⟨0, 10, 13, 28⟩ [] rfl (fun z hz => absurd hz List.not_mem_nil) (by decide) ⟨rfl, by decide, rfl⟩ q_cl_RL_28 hC.1.2.2 hce hcv hcl ?_
    refine lv_astore (lv' := [(4, .ref q9), (0, .ref (ad 0)), (1, .int (zI (v))), (2, .int (zI (w))), (3, .ref oa)]) hx hb dL_voice_13 hl (by decide) rfl (fun ls hl => ?_)
    refine z_iconst hx hb dL_voice_15 ?_
    exact e_Wi (r := 1) hx hb hr hlk (n_i _) hS (by omega) (by omega) (Or.inr ⟨hO1, (1, xIO), List.mem_cons_self, rfl, hq0⟩) dL_voice_16
set_option maxHeartbeats 1000000 in
theorem h_transpose (l : Launch) (G : zG) (oa : Nat) (O : Int64) (ad : Nat → Nat) (F : Nat → Int) (A : Nat → Int → Int) (E : Nat → Int → Int) (T : Int → Nat → Int → Int) (P : Int → Nat → Int → Int) (S : Int → Nat → Int → Int) (Av : Int → Nat → Int → Int) (Fv : Int → Nat → Int) (x : Int) (y : Int) (r_x : -2147483648 ≤ x ∧ x ≤ 2147483647) (r_y : -2147483648 ≤ y ∧ y ≤ 2147483647) (hk9 : -7 ≤ F 3 ∧ F 3 ≤ 7) (hb99 : 0 < F 1 ∧ F 1 ≤ 1000000) (hVo : ∀ v, 0 ≤ v → v < 4 → VOK (T v) (P v) (Fv v 0)) (hVA : ∀ v, 0 ≤ v → v < 4 → ∀ p, 0 ≤ p → p < 63 → -2 ≤ Av v 1 p ∧ Av v 1 p ≤ 2) (hVC : COK F Fv) (sz : Nat) (hst : l.stackTraces = false) (hg : G.2.2 ≤ oa) (hne : ∀ k, k < 94 → ad k ≠ oa) : HM l yL_transpose cL_transpose 5 [(0, 10, 13, 13), (0, 10, 17, 15)] 7 154 1 6 G [.ref (ad 0), .int (zI (x)), .int (zI (y)), .ref oa] (hA9 ad oa sz) sz (fun H => CP G ad F A E T P S Av Fv H ∧ OP G oa O H) (HP G oa O (PI (fun r H => r = (F 3 + 7 * y - 12 * x) ∧ (-14 ≤ x ∧ x ≤ 14 ∧ -24 ≤ y ∧ y ≤ 24) ∧ (-7 ≤ (F 3 + 7 * y - 12 * x) ∧ (F 3 + 7 * y - 12 * x) ≤ 7) ∧ ¬ fp (trV T P Fv x y) (F 0) < F 0 ∧ arA G ad (zN F 3 (F 3 + 7 * y - 12 * x)) A E (upV (trT T P Fv x y) T (F 0)) (upV (trP T P Fv x y) P (F 0)) S Av Fv H)) [(1, xIA), (2, xIS)] (fun E9 H => ((E9 = xIA ∧ ¬ (-14 ≤ x ∧ x ≤ 14 ∧ -24 ≤ y ∧ y ≤ 24)) ∨ (E9 = xIS ∧ (-14 ≤ x ∧ x ≤ 14 ∧ -24 ≤ y ∧ y ≤ 24) ∧ ((-7 ≤ (F 3 + 7 * y - 12 * x) ∧ (F 3 + 7 * y - 12 * x) ≤ 7) → fp (trV T P Fv x y) (F 0) < F 0))) ∧ CP G ad F A E T P S Av Fv H)) := by
  refine hm_of hp_L_transpose (Nat.le_of_ble_eq_true rfl) ?_
  intro p env s m below meth c ls hB htab hC hsz hP9 hl
  obtain ⟨hP, hO⟩ := hP9
  obtain ⟨hx, hb, hml, hr, hlk, hown, hts, hG⟩ := hB
  subst hsz
  have hK := hG.1
  have hS : va_S (hA9 ad oa s.heap.size) s.heap s.heap [] := va_S.rf
  have hA : ∀ q : Nat, (hA9 ad oa s.heap.size) q → G.2.2 ≤ q := fun q h => h.elim (fun h => fA_lo hP.1.2 hG.2.1 q h) (fun h => h ▸ hg)
  have hl : lv_has ls 5 [(0, .ref (ad 0)), (1, .int (zI (x))), (2, .int (zI (y))), (3, .ref oa)] := hl
  refine lv_aload_n hx hb dL_transpose_0 rfl (lv_at hl 3 rfl) ?_
  refine z_iconst hx hb dL_transpose_1 ?_
  refine lv_aload_n hx hb dL_transpose_2 rfl (lv_at hl 0 rfl) ?_
  refine lv_iload_n hx hb dL_transpose_3 rfl (lv_at hl 1 rfl) ?_
  refine lv_iload_n hx hb dL_transpose_4 rfl (lv_at hl 2 rfl) ?_
  refine k_Xi (c_VX (As := [.int (zI (x)), .int (zI (y))]) (rest := [.int (zI 0), .ref oa]) ⟨hx, hb, hml, hown, hts⟩ hG hS hA (c_X2_transpose l G ad F A E T P S Av Fv x y s.heap.size hst r_x r_y hk9 hb99 hVo hVA hVC) ⟨q_ml_RL_60, q_im_X2_transpose, q_sel_X2_transpose, q_ini_RX2, q_code_X2_transpose⟩ hv_X2_transpose (CP.rec hK hP) hP ⟨Nat.le_of_ble_eq_true rfl, Nat.le_of_ble_eq_true rfl⟩ ⟨Nat.le_of_ble_eq_true rfl, Nat.le_of_ble_eq_true rfl⟩ rfl hl.1 rfl (Nat.le_of_ble_eq_true rfl) dL_transpose_5) hS (fun q h => Or.inl h) (fun r H1 locs1 hq hz1 hk1 hS => ?_) (fun E9 H1 locs1 q9 ce hq hz1 hk1 hS hce hcv hcl => ?_)
  · have hO1 : OP G oa O H1 := hO.kept (hk1 oa hO.lt (hA9_n hne hO.lt))
    refine lv_i2l (v := (zI r).toInt64) hx hb dL_transpose_8 rfl ?_
    refine z_last hx hb hK hS (Or.inr rfl) hO1 (x := (zI r).toInt64) dL_transpose_9 (fun H2 locs2 hO2 hz2 hk2 hS => ?_)
    refine lv_goto (tgt := 21) hx hb dL_transpose_10 (by decide) ?_
    refine z_iconst hx hb dL_transpose_21 ?_
    have hk9 : ∀ k, k < 94 → H2[ad k]? = H1[ad k]? := fun k hk => hk2 (ad k) (hne k hk)
    obtain ⟨a1, a2, a3, a4, hC1⟩ := hq
    exact e_Wi (r := 0) hx hb hr hlk (n_i _) hS (by omega) (by omega) (Or.inl ⟨rfl, _, hO2, r, rfl, ⟨a1, a2, a3, a4, CP.kept hC1 hk9⟩⟩) dL_transpose_22
  · have hO1 : OP G oa O H1 := hO.kept (hk1 oa hO.lt (hA9_n hne hO.lt))
    have hq0 := hq
    obtain ⟨hE, -⟩ := hq
    rcases hE with ⟨rfl, -⟩ | ⟨rfl, -⟩
    · refine catch9 hown hts htab [] ⟨0, 10, 13, 13⟩ [⟨0, 10, 17, 15⟩] rfl (fun z hz => absurd hz List.not_mem_nil) (by decide) ⟨rfl, by decide, rfl⟩ q_cl_RL_13 hC.1.1 hce hcv hcl ?_
      refine lv_astore (lv' := [(4, .ref q9), (0, .ref (ad 0)), (1, .int (zI (x))), (2, .int (zI (y))), (3, .ref oa)]) hx hb dL_transpose_13 hl (by decide) rfl (fun ls hl => ?_)
      refine z_iconst hx hb dL_transpose_15 ?_
      exact e_Wi (r := 1) hx hb hr hlk (n_i _) hS (by omega) (by omega) (Or.inr ⟨hO1, (1, xIA), List.mem_cons_self, rfl, hq0⟩) dL_transpose_16
    · refine catch9 hown hts htab [⟨0, 10, 13, 13⟩] ⟨0, 10, 17, 15⟩ [] rfl (fun z hz => by rcases List.mem_singleton.mp hz with rfl; exact ⟨by decide, xIA, q_cl_RL_13, hC.2.2.2.1⟩) (by decide) ⟨rfl, by decide, rfl⟩ q_cl_RL_15 hC.1.2.1 hce hcv hcl ?_
      refine lv_astore (lv' := [(4, .ref q9), (0, .ref (ad 0)), (1, .int (zI (x))), (2, .int (zI (y))), (3, .ref oa)]) hx hb dL_transpose_17 hl (by decide) rfl (fun ls hl => ?_)
      refine z_iconst hx hb dL_transpose_19 ?_
      exact e_Wi (r := 2) hx hb hr hlk (n_i _) hS (by omega) (by omega) (Or.inr ⟨hO1, (2, xIS), (List.mem_cons_of_mem _ List.mem_cons_self), rfl, hq0⟩) dL_transpose_20
set_option maxHeartbeats 1000000 in
theorem h_interval (l : Launch) (G : zG) (oa : Nat) (O : Int64) (ad : Nat → Nat) (F : Nat → Int) (A : Nat → Int → Int) (E : Nat → Int → Int) (T : Int → Nat → Int → Int) (P : Int → Nat → Int → Int) (S : Int → Nat → Int → Int) (Av : Int → Nat → Int → Int) (Fv : Int → Nat → Int) (a : Int) (b : Int) (t : Int) (r_a : -2147483648 ≤ a ∧ a ≤ 2147483647) (r_b : -2147483648 ≤ b ∧ b ≤ 2147483647) (r_t : -2147483648 ≤ t ∧ t ≤ 2147483647) (hVo : ∀ v, 0 ≤ v → v < 4 → VOK (T v) (P v) (Fv v 0)) (hVC : COK F Fv) (sz : Nat) (hst : l.stackTraces = false) (hg : G.2.2 ≤ oa) (hne : ∀ k, k < 94 → ad k ≠ oa) : HM l yL_interval cL_interval 6 [(0, 12, 15, 28), (0, 12, 19, 13)] 8 136 3 18 G [.ref (ad 0), .int (zI (a)), .int (zI (b)), .int (zI (t)), .ref oa] (hA9 ad oa sz) sz (fun H => CP G ad F A E T P S Av Fv H ∧ OP G oa O H) (HP G oa O (PI (fun r H => r = (if tAt (T a 0) (T a 1) (T a 4) (Fv a 0) t = -1 ∨ tAt (T b 0) (T b 1) (T b 4) (Fv b 0) t = -1 then -100 else tAt (T b 0) (T b 1) (T b 4) (Fv b 0) t - tAt (T a 0) (T a 1) (T a 4) (Fv a 0) t) ∧ (0 ≤ a ∧ a < F 0 ∧ 0 ≤ b ∧ b < F 0) ∧ 0 ≤ t ∧ CP G ad F A E T P S Av Fv H)) [(1, xIO), (2, xIA)] (fun E9 H => ((E9 = xIO ∧ ¬ (0 ≤ a ∧ a < F 0 ∧ 0 ≤ b ∧ b < F 0)) ∨ (E9 = xIA ∧ (0 ≤ a ∧ a < F 0 ∧ 0 ≤ b ∧ b < F 0) ∧ t < 0)) ∧ CP G ad F A E T P S Av Fv H)) := by
  refine hm_of hp_L_interval (Nat.le_of_ble_eq_true rfl) ?_
  intro p env s m below meth c ls hB htab hC hsz hP9 hl
  obtain ⟨hP, hO⟩ := hP9
  obtain ⟨hx, hb, hml, hr, hlk, hown, hts, hG⟩ := hB
  subst hsz
  have hK := hG.1
  have hS : va_S (hA9 ad oa s.heap.size) s.heap s.heap [] := va_S.rf
  have hA : ∀ q : Nat, (hA9 ad oa s.heap.size) q → G.2.2 ≤ q := fun q h => h.elim (fun h => fA_lo hP.1.2 hG.2.1 q h) (fun h => h ▸ hg)
  have hl : lv_has ls 6 [(0, .ref (ad 0)), (1, .int (zI (a))), (2, .int (zI (b))), (3, .int (zI (t))), (4, .ref oa)] := hl
  refine lv_aload hx hb dL_interval_0 (lv_at hl 4 rfl) ?_
  refine z_iconst hx hb dL_interval_2 ?_
  refine lv_aload_n hx hb dL_interval_3 rfl (lv_at hl 0 rfl) ?_
  refine lv_iload_n hx hb dL_interval_4 rfl (lv_at hl 1 rfl) ?_
  refine lv_iload_n hx hb dL_interval_5 rfl (lv_at hl 2 rfl) ?_
  refine lv_iload_n hx hb dL_interval_6 rfl (lv_at hl 3 rfl) ?_
  refine k_Xi (c_VX (As := [.int (zI (a)), .int (zI (b)), .int (zI (t))]) (rest := [.int (zI 0), .ref oa]) ⟨hx, hb, hml, hown, hts⟩ hG hS hA (c_X2_interval l G ad F A E T P S Av Fv a b t s.heap.size hst r_a r_b r_t hVo hVC) ⟨q_ml_RL_63, q_im_X2_interval, q_sel_X2_interval, q_ini_RX2, q_code_X2_interval⟩ hv_X2_interval (CP.rec hK hP) hP ⟨Nat.le_of_ble_eq_true rfl, Nat.le_of_ble_eq_true rfl⟩ ⟨Nat.le_of_ble_eq_true rfl, Nat.le_of_ble_eq_true rfl⟩ rfl hl.1 rfl (Nat.le_of_ble_eq_true rfl) dL_interval_7) hS (fun q h => Or.inl h) (fun r H1 locs1 hq hz1 hk1 hS => ?_) (fun E9 H1 locs1 q9 ce hq hz1 hk1 hS hce hcv hcl => ?_)
  · have hO1 : OP G oa O H1 := hO.kept (hk1 oa hO.lt (hA9_n hne hO.lt))
    refine lv_i2l (v := (zI r).toInt64) hx hb dL_interval_10 rfl ?_
    refine z_last hx hb hK hS (Or.inr rfl) hO1 (x := (zI r).toInt64) dL_interval_11 (fun H2 locs2 hO2 hz2 hk2 hS => ?_)
    refine lv_goto (tgt := 23) hx hb dL_interval_12 (by decide) ?_
    refine z_iconst hx hb dL_interval_23 ?_
    have hk9 : ∀ k, k < 94 → H2[ad k]? = H1[ad k]? := fun k hk => hk2 (ad k) (hne k hk)
    obtain ⟨a1, a2, a3, hC1⟩ := hq
    exact e_Wi (r := 0) hx hb hr hlk (n_i _) hS (by omega) (by omega) (Or.inl ⟨rfl, _, hO2, r, rfl, ⟨a1, a2, a3, CP.kept hC1 hk9⟩⟩) dL_interval_24
  · have hO1 : OP G oa O H1 := hO.kept (hk1 oa hO.lt (hA9_n hne hO.lt))
    have hq0 := hq
    obtain ⟨hE, -⟩ := hq
    rcases hE with ⟨rfl, -⟩ | ⟨rfl, -⟩
    · refine catch9 hown hts htab [] ⟨0, 12, 15, 28⟩ [⟨0, 12, 19, 13⟩] rfl (fun z hz => absurd hz List.not_mem_nil) (by decide) ⟨rfl, by decide, rfl⟩ q_cl_RL_28 hC.1.2.2 hce hcv hcl ?_
      refine lv_astore (lv' := [(5, .ref q9), (0, .ref (ad 0)), (1, .int (zI (a))), (2, .int (zI (b))), (3, .int (zI (t))), (4, .ref oa)]) hx hb dL_interval_15 hl (by decide) rfl (fun ls hl => ?_)
      refine z_iconst hx hb dL_interval_17 ?_
      exact e_Wi (r := 1) hx hb hr hlk (n_i _) hS (by omega) (by omega) (Or.inr ⟨hO1, (1, xIO), List.mem_cons_self, rfl, hq0⟩) dL_interval_18
    · refine catch9 hown hts htab [⟨0, 12, 15, 28⟩] ⟨0, 12, 19, 13⟩ [] rfl (fun z hz => by rcases List.mem_singleton.mp hz with rfl; exact ⟨by decide, xIO, q_cl_RL_28, hC.2.2.1⟩) (by decide) ⟨rfl, by decide, rfl⟩ q_cl_RL_13 hC.1.1 hce hcv hcl ?_
      refine lv_astore (lv' := [(5, .ref q9), (0, .ref (ad 0)), (1, .int (zI (a))), (2, .int (zI (b))), (3, .int (zI (t))), (4, .ref oa)]) hx hb dL_interval_19 hl (by decide) rfl (fun ls hl => ?_)
      refine z_iconst hx hb dL_interval_21 ?_
      exact e_Wi (r := 2) hx hb hr hlk (n_i _) hS (by omega) (by omega) (Or.inr ⟨hO1, (2, xIA), (List.mem_cons_of_mem _ List.mem_cons_self), rfl, hq0⟩) dL_interval_22
set_option maxHeartbeats 1000000 in
theorem h_event (l : Launch) (G : zG) (oa : Nat) (O : Int64) (ad : Nat → Nat) (F : Nat → Int) (A : Nat → Int → Int) (E : Nat → Int → Int) (T : Int → Nat → Int → Int) (P : Int → Nat → Int → Int) (S : Int → Nat → Int → Int) (Av : Int → Nat → Int → Int) (Fv : Int → Nat → Int) (i : Int) (w : Int) (r_i : -2147483648 ≤ i ∧ i ≤ 2147483647) (r_w : -2147483648 ≤ w ∧ w ≤ 2147483647) (hf4 : F 4 = 0 ∨ F 4 = 1) (hVS : ∀ v j, 0 ≤ v → v < F 0 → 0 ≤ j → j < Fv v 2 → (0 ≤ S v 0 j ∧ S v 0 j ≤ 1000000) ∧ (0 ≤ S v 1 j ∧ S v 1 j ≤ 1000000)) (hVC : COK F Fv) (sz : Nat) (hst : l.stackTraces = false) (hg : G.2.2 ≤ oa) (hne : ∀ k, k < 94 → ad k ≠ oa) : HM l yL_event cL_event 5 [(0, 10, 13, 28)] 7 155 1 6 G [.ref (ad 0), .int (zI (i)), .int (zI (w)), .ref oa] (hA9 ad oa sz) sz (fun H => CP G ad F A E T P S Av Fv H ∧ OP G oa O H) (HP G oa O (PI (fun r H => (0 ≤ i ∧ i < 2 * nSou Fv (F 0) ∧ 0 ≤ w ∧ w < 4) ∧ ∃ F2 A2 E2, rfQ F A E S Fv F2 A2 E2 ∧ r = E2 w.toNat i ∧ CP G ad F2 A2 E2 T P S Av Fv H)) [(1, xIO)] (fun E9 H => ((E9 = xIO ∧ ¬ (0 ≤ i ∧ i < 2 * nSou Fv (F 0) ∧ 0 ≤ w ∧ w < 4))) ∧ CP G ad F A E T P S Av Fv H)) := by
  refine hm_of hp_L_event (Nat.le_of_ble_eq_true rfl) ?_
  intro p env s m below meth c ls hB htab hC hsz hP9 hl
  obtain ⟨hP, hO⟩ := hP9
  obtain ⟨hx, hb, hml, hr, hlk, hown, hts, hG⟩ := hB
  subst hsz
  have hK := hG.1
  have hS : va_S (hA9 ad oa s.heap.size) s.heap s.heap [] := va_S.rf
  have hA : ∀ q : Nat, (hA9 ad oa s.heap.size) q → G.2.2 ≤ q := fun q h => h.elim (fun h => fA_lo hP.1.2 hG.2.1 q h) (fun h => h ▸ hg)
  have hl : lv_has ls 5 [(0, .ref (ad 0)), (1, .int (zI (i))), (2, .int (zI (w))), (3, .ref oa)] := hl
  refine lv_aload_n hx hb dL_event_0 rfl (lv_at hl 3 rfl) ?_
  refine z_iconst hx hb dL_event_1 ?_
  refine lv_aload_n hx hb dL_event_2 rfl (lv_at hl 0 rfl) ?_
  refine lv_iload_n hx hb dL_event_3 rfl (lv_at hl 1 rfl) ?_
  refine lv_iload_n hx hb dL_event_4 rfl (lv_at hl 2 rfl) ?_
  refine k_Xi (c_VX (As := [.int (zI (i)), .int (zI (w))]) (rest := [.int (zI 0), .ref oa]) ⟨hx, hb, hml, hown, hts⟩ hG hS hA (c_X2_event l G ad F A E T P S Av Fv i w s.heap.size hst r_i r_w hf4 hVS hVC) ⟨q_ml_RL_66, q_im_X2_event, q_sel_X2_event, q_ini_RX2, q_code_X2_event⟩ hv_X2_event (CP.rec hK hP) hP ⟨Nat.le_of_ble_eq_true rfl, Nat.le_of_ble_eq_true rfl⟩ ⟨Nat.le_of_ble_eq_true rfl, Nat.le_of_ble_eq_true rfl⟩ rfl hl.1 rfl (Nat.le_of_ble_eq_true rfl) dL_event_5) hS (fun q h => Or.inl h) (fun r H1 locs1 hq hz1 hk1 hS => ?_) (fun E9 H1 locs1 q9 ce hq hz1 hk1 hS hce hcv hcl => ?_)
  · have hO1 : OP G oa O H1 := hO.kept (hk1 oa hO.lt (hA9_n hne hO.lt))
    refine lv_i2l (v := (zI r).toInt64) hx hb dL_event_8 rfl ?_
    refine z_last hx hb hK hS (Or.inr rfl) hO1 (x := (zI r).toInt64) dL_event_9 (fun H2 locs2 hO2 hz2 hk2 hS => ?_)
    refine lv_goto (tgt := 17) hx hb dL_event_10 (by decide) ?_
    refine z_iconst hx hb dL_event_17 ?_
    have hk9 : ∀ k, k < 94 → H2[ad k]? = H1[ad k]? := fun k hk => hk2 (ad k) (hne k hk)
    obtain ⟨a1, F2, A2, E2, b1, b2, hC1⟩ := hq
    exact e_Wi (r := 0) hx hb hr hlk (n_i _) hS (by omega) (by omega) (Or.inl ⟨rfl, _, hO2, r, rfl, ⟨a1, F2, A2, E2, b1, b2, CP.kept hC1 hk9⟩⟩) dL_event_18
  · have hO1 : OP G oa O H1 := hO.kept (hk1 oa hO.lt (hA9_n hne hO.lt))
    have hq0 := hq
    obtain ⟨hE, -⟩ := hq
    obtain ⟨rfl, -⟩ := hE
    refine catch9 hown hts htab [] ⟨0, 10, 13, 28⟩ [] rfl (fun z hz => absurd hz List.not_mem_nil) (by decide) ⟨rfl, by decide, rfl⟩ q_cl_RL_28 hC.1.2.2 hce hcv hcl ?_
    refine lv_astore (lv' := [(4, .ref q9), (0, .ref (ad 0)), (1, .int (zI (i))), (2, .int (zI (w))), (3, .ref oa)]) hx hb dL_event_13 hl (by decide) rfl (fun ls hl => ?_)
    refine z_iconst hx hb dL_event_15 ?_
    exact e_Wi (r := 1) hx hb hr hlk (n_i _) hS (by omega) (by omega) (Or.inr ⟨hO1, (1, xIO), List.mem_cons_self, rfl, hq0⟩) dL_event_16
set_option maxHeartbeats 1000000 in
theorem h_time (l : Launch) (G : zG) (oa : Nat) (O : Int64) (ad : Nat → Nat) (F : Nat → Int) (A : Nat → Int → Int) (E : Nat → Int → Int) (T : Int → Nat → Int → Int) (P : Int → Nat → Int → Int) (S : Int → Nat → Int → Int) (Av : Int → Nat → Int → Int) (Fv : Int → Nat → Int) (x : Int) (y : Int) (r_x : -2147483648 ≤ x ∧ x ≤ 2147483647) (r_y : -2147483648 ≤ y ∧ y ≤ 2147483647) (sz : Nat) (hst : l.stackTraces = false) (hg : G.2.2 ≤ oa) (hne : ∀ k, k < 94 → ad k ≠ oa) : HM l yL_time cL_time 5 [(0, 9, 12, 13)] 7 112 1 6 G [.ref (ad 0), .int (zI (x)), .int (zI (y)), .ref oa] (hA9 ad oa sz) sz (fun H => CP G ad F A E T P S Av Fv H ∧ OP G oa O H) (HP G oa O (fun r H => r = (zI x).toInt64 * 625000 / (zI y).toInt64 ∧ (0 ≤ x ∧ x ≤ 100000 ∧ 10 ≤ y ∧ y ≤ 400) ∧ CP G ad F A E T P S Av Fv H) [(1, xIA)] (fun E9 H => ((E9 = xIA ∧ ¬ (0 ≤ x ∧ x ≤ 100000 ∧ 10 ≤ y ∧ y ≤ 400))) ∧ CP G ad F A E T P S Av Fv H)) := by
  refine hm_of hp_L_time (Nat.le_of_ble_eq_true rfl) ?_
  intro p env s m below meth c ls hB htab hC hsz hP9 hl
  obtain ⟨hP, hO⟩ := hP9
  obtain ⟨hx, hb, hml, hr, hlk, hown, hts, hG⟩ := hB
  subst hsz
  have hK := hG.1
  have hS : va_S (hA9 ad oa s.heap.size) s.heap s.heap [] := va_S.rf
  have hA : ∀ q : Nat, (hA9 ad oa s.heap.size) q → G.2.2 ≤ q := fun q h => h.elim (fun h => fA_lo hP.1.2 hG.2.1 q h) (fun h => h ▸ hg)
  have hl : lv_has ls 5 [(0, .ref (ad 0)), (1, .int (zI (x))), (2, .int (zI (y))), (3, .ref oa)] := hl
  refine lv_aload_n hx hb dL_time_0 rfl (lv_at hl 3 rfl) ?_
  refine z_iconst hx hb dL_time_1 ?_
  refine lv_aload_n hx hb dL_time_2 rfl (lv_at hl 0 rfl) ?_
  refine lv_iload_n hx hb dL_time_3 rfl (lv_at hl 1 rfl) ?_
  refine lv_iload_n hx hb dL_time_4 rfl (lv_at hl 2 rfl) ?_
  refine k_Xl (c_VX (As := [.int (zI (x)), .int (zI (y))]) (rest := [.int (zI 0), .ref oa]) ⟨hx, hb, hml, hown, hts⟩ hG hS hA (c_X2_time l G ad F A E T P S Av Fv x y s.heap.size hst r_x r_y) ⟨q_ml_RL_69, q_im_X2_time, q_sel_X2_time, q_ini_RX2, q_code_X2_time⟩ hv_X2_time (CP.rec hK hP) hP ⟨Nat.le_of_ble_eq_true rfl, Nat.le_of_ble_eq_true rfl⟩ ⟨Nat.le_of_ble_eq_true rfl, Nat.le_of_ble_eq_true rfl⟩ rfl hl.1 rfl (Nat.le_of_ble_eq_true rfl) dL_time_5) hS (fun q h => Or.inl h) (fun r H1 locs1 hq hz1 hk1 hS => ?_) (fun E9 H1 locs1 q9 ce hq hz1 hk1 hS hce hcv hcl => ?_)
  · have hO1 : OP G oa O H1 := hO.kept (hk1 oa hO.lt (hA9_n hne hO.lt))
    refine z_last hx hb hK hS (Or.inr rfl) hO1 (x := r) dL_time_8 (fun H2 locs2 hO2 hz2 hk2 hS => ?_)
    refine lv_goto (tgt := 16) hx hb dL_time_9 (by decide) ?_
    refine z_iconst hx hb dL_time_16 ?_
    have hk9 : ∀ k, k < 94 → H2[ad k]? = H1[ad k]? := fun k hk => hk2 (ad k) (hne k hk)
    obtain ⟨a1, a2, hC1⟩ := hq
    exact e_Wi (r := 0) hx hb hr hlk (n_i _) hS (by omega) (by omega) (Or.inl ⟨rfl, _, hO2, ⟨a1, a2, CP.kept hC1 hk9⟩⟩) dL_time_17
  · have hO1 : OP G oa O H1 := hO.kept (hk1 oa hO.lt (hA9_n hne hO.lt))
    have hq0 := hq
    obtain ⟨hE, -⟩ := hq
    obtain ⟨rfl, -⟩ := hE
    refine catch9 hown hts htab [] ⟨0, 9, 12, 13⟩ [] rfl (fun z hz => absurd hz List.not_mem_nil) (by decide) ⟨rfl, by decide, rfl⟩ q_cl_RL_13 hC.1.1 hce hcv hcl ?_
    refine lv_astore (lv' := [(4, .ref q9), (0, .ref (ad 0)), (1, .int (zI (x))), (2, .int (zI (y))), (3, .ref oa)]) hx hb dL_time_12 hl (by decide) rfl (fun ls hl => ?_)
    refine z_iconst hx hb dL_time_14 ?_
    exact e_Wi (r := 1) hx hb hr hlk (n_i _) hS (by omega) (by omega) (Or.inr ⟨hO1, (1, xIA), List.mem_cons_self, rfl, hq0⟩) dL_time_15
