section LC9
variable {p : Program} {l : Launch} {e : Env} {s : State} {m : MethodId} {args : Array Value} {below : List Frame} {meth : Method} {c : Code} {H : Heap} {locs : List Loc} {cells slots : Nat} {Q : State → Prop} {ls : Array Slot} {G : zG} {b L : Nat} {xs : Nat → Int32} {i tb : Int} {ad am : Nat → Nat} {oa : Nat}
variable {F : Nat → Int} {AC E : Nat → Int → Int} {T P S Av : Int → Nat → Int → Int} {Fv : Int → Nat → Int} {O : Int64} {FM : Nat → Int} {A : Nat → Int → Int} {B : Int → Int → Int}
set_option maxHeartbeats 2000000 in
theorem w_setBars (X : LX p l s m args c G b L xs) (D : AD ad am oa s.heap.size) (hi : 0 ≤ i ∧ i + 7 < L) (hL : L ≤ 4096) (h : REL F E T P S Av Fv FM A B) (ht : ecT A B (FM 4) ≤ tb) (htb : tb ≤ 1024) (hC : CP G ad F AC E T P S Av Fv H) (hO : OP G oa O H) (hM : MP G am FM A B H) (hA4 : rngI (A 4)) (hS : va_S (AL s) s.heap H locs) (hl : lv_has ls 9 [(4, .int (zI i)), (3, .ref oa), (2, .ref (am 0)), (1, .ref (ad 0)), (0, .ref b)]) (hfc : cells + 1028 ≤ 601024) (hfs : slots + 4121 ≤ 7293034)
    (kk : ∀ (H1 : Heap) (locs1 : List Loc) (ls1 : Array Slot), JI G ad am oa (tb + 2) H1 → va_S (AL s) s.heap H1 locs1 → lv_has ls1 9 [(4, .int (zI i)), (3, .ref oa), (2, .ref (am 0)), (1, .ref (ad 0)), (0, .ref b)] → W p l e room_1 s m args below meth c H1 locs1 (cells + 1028) (slots + 4121) Q (F0 m 1467 ls1 [])) : W p l e room_1 s m args below meth c H locs cells slots Q (F0 m 140 ls []) := by
  have n := h.2.1.nums h.1
  have hx := X.1.1
  have hb := X.1.2.1
  have hG := X.2.1
  have hK := hG.1
  have hA : ∀ q, AL s q → G.2.2 ≤ q := fun q h => by rw [X.2.2.2.2.2.2]; exact h
  refine lv_aload_n hx hb dL_law_140 rfl (lv_at hl 3 rfl) ?_
  refine lv_aload_n hx hb dL_law_141 rfl (lv_at hl 4 rfl) ?_
  refine lv_iload hx hb dL_law_142 (lv_at hl 0 rfl) ?_
  refine z_iconst hx hb dL_law_144 ?_
  refine z_iadd (x := i) (y := 1) hx hb dL_law_145 ?_
  refine z_sld X hS (j := i + 1) (by omega) hL dL_law_146 ?_
  refine lv_aload_n hx hb dL_law_147 rfl (lv_at hl 4 rfl) ?_
  refine lv_iload hx hb dL_law_148 (lv_at hl 0 rfl) ?_
  refine z_iconst hx hb dL_law_150 ?_
  refine z_iadd (x := i) (y := 2) hx hb dL_law_151 ?_
  refine z_sld X hS (j := i + 2) (by omega) hL dL_law_152 ?_
  refine lv_aload_n hx hb dL_law_153 rfl (lv_at hl 1 rfl) ?_
  refine k_Wi (c_H (As := [.ref (ad 0), .int (zI (sx xs (i + 1))), .int (zI (sx xs (i + 2))), .ref oa]) (rest := []) X.1 hG X.2.2.1 hS hA (h_setBars l G oa O ad F AC E T P S Av Fv (sx xs (i + 1)) (sx xs (i + 2)) (sx_rng _ _) (sx_rng _ _) h.cok H.size X.2.2.2.2.2.1 (hA _ D.2.2) D.ne) ⟨q_ml_RL_77, q_st_L_setBars, q_ini_RL, q_code_L_setBars⟩ hs_L_setBars ⟨hC, hO⟩ ⟨Nat.le_of_ble_eq_true rfl, Nat.le_of_ble_eq_true rfl⟩ ⟨(by show cells + 1 ≤ 601024; omega), (by show slots + 6 ≤ 7293034; omega)⟩ rfl hl.1 rfl (Nat.le_of_ble_eq_true rfl) dL_law_154) hS (D.sh hS.1) (fun k H1 locs1 hq1 hz1 hk1 hS => ?_)
  refine lv_istore (lv' := [(5, .int (zI k)), (4, .int (zI i)), (3, .ref oa), (2, .ref (am 0)), (1, .ref (ad 0)), (0, .ref b)]) hx hb dL_law_157 hl (by decide) rfl (fun ls hl => ?_)
  have hM1 := MP.k9 hM (fun j hj => hk1 (am j) (PP.lt hM hj) (D.amh hj (PP.lt hM hj)))
  refine lv_aload_n hx hb dL_law_159 rfl (lv_at hl 3 rfl) ?_
  refine lv_aload_n hx hb dL_law_160 rfl (lv_at hl 5 rfl) ?_
  refine lv_iload hx hb dL_law_161 (lv_at hl 1 rfl) ?_
  refine z_iconst hx hb dL_law_163 ?_
  refine z_iadd (x := i) (y := 1) hx hb dL_law_164 ?_
  refine z_sld X hS (j := i + 1) (by omega) hL dL_law_165 ?_
  refine lv_aload_n hx hb dL_law_166 rfl (lv_at hl 5 rfl) ?_
  refine lv_iload hx hb dL_law_167 (lv_at hl 1 rfl) ?_
  refine z_iconst hx hb dL_law_169 ?_
  refine z_iadd (x := i) (y := 2) hx hb dL_law_170 ?_
  refine z_sld X hS (j := i + 2) (by omega) hL dL_law_171 ?_
  refine k_Wi (c_VW (As := [.int (zI (sx xs (i + 1))), .int (zI (sx xs (i + 2)))]) (rest := []) X.1 hG hS hA (c_X3_setBars l G am FM A B (sx xs (i + 1)) (sx xs (i + 2)) H1.size (sx_rng _ _) (sx_rng _ _) h.1) ⟨q_ml_RL_82, q_im_X3_setBars, q_sel_X3_setBars, q_ini_RX3, q_code_X3_setBars⟩ hv_X3_setBars (MP.rec hK hM1) hM1 ⟨Nat.le_of_ble_eq_true rfl, Nat.le_of_ble_eq_true rfl⟩ ⟨(by show cells + 1 + (0) ≤ 601024; omega), (by show slots + 6 + (0) ≤ 7293034; omega)⟩ rfl hl.1 rfl (Nat.le_of_ble_eq_true rfl) dL_law_172) hS (D.sm hS.1) (fun r H2 locs2 hq2 hz2 hk2 hS => ?_)
  refine lv_istore (lv' := [(6, .int (zI r)), (5, .int (zI k)), (4, .int (zI i)), (3, .ref oa), (2, .ref (am 0)), (1, .ref (ad 0)), (0, .ref b)]) hx hb dL_law_175 hl (by decide) rfl (fun ls hl => ?_)
  have hr := HP.kr hq1 (by decide)
  obtain ⟨F9, AC9, E9, T9, P9, S9, Av9, Fv9, O9, FM9, A9, B9, gC, gO, gM, gk, gv, gR, gc⟩ := j_setBars h ht hq1 hq2
  have gC := CP.kept gC (fun k hk => hk2 (ad k) (PP.lt gC hk) (D.adm hk (PP.lt gC hk)))
  have gO : OP G oa O9 H2 := gO.kept (hk2 oa gO.lt (D.oam gO.lt))
  have gJ : JI G ad am oa (tb + 2) H2 := ⟨_, _, _, _, _, _, _, _, _, _, _, _, gC, gO, gM, gR, gc⟩
  refine lv_aload_n hx hb dL_law_177 rfl (lv_at hl 4 rfl) ?_
  refine k_R (c_VR (As := []) (rest := []) X.1 hG hS hA (c_X3_thrown l G am FM9 A9 B9) ⟨q_ml_RL_83, q_im_X3_thrown, q_sel_X3_thrown, q_ini_RX3, q_code_X3_thrown⟩ hv_X3_thrown (MP.rec hK gM) gM ⟨Nat.le_of_ble_eq_true rfl, Nat.le_of_ble_eq_true rfl⟩ ⟨(by show cells + 1 + (0) ≤ 601024; omega), (by show slots + 6 + (0) ≤ 7293034; omega)⟩ rfl hl.1 rfl (Nat.le_of_ble_eq_true rfl) dL_law_178) ?_
  rw [gk]
  refine lv_iload hx hb dL_law_181 (lv_at hl 1 rfl) ?_
  refine z_icmp_eq (a := k) (b := k) (tgt := 188) hx hb dL_law_183 (by decide) hr hr (fun _ => ?_) (fun z => absurd rfl z)
  refine lv_iload hx hb dL_law_188 (lv_at hl 1 rfl) ?_
  refine z_if_ne (a := k) (tgt := 205) hx hb dL_law_190 (by decide) hr (fun hk0 => ?_) (fun hk0 => ?_)
  · refine lv_goto (tgt := 1467) hx hb dL_law_205 (by decide) ?_
    exact W.widen (by omega) (by omega) (kk H2 locs2 _ gJ hS (lv_sub hl [2, 3, 4, 5, 6] rfl))
  · refine lv_aload_n hx hb dL_law_193 rfl (lv_at hl 3 rfl) ?_
    refine z_iconst hx hb dL_law_194 ?_
    refine z_lald hx hb hK gO dL_law_195 ?_
    refine lv_iload hx hb dL_law_196 (lv_at hl 0 rfl) ?_
    refine lv_i2l (v := (zI r).toInt64) hx hb dL_law_198 rfl ?_
    refine z_lcmp hx hb dL_law_199 ?_
    refine z_if_eq (a := lC O9 ((zI r).toInt64)) (tgt := 205) hx hb dL_law_200 (by decide) (lC_rng _ _) (fun _ => ?_) (fun z => absurd (by rw [gv hk0]; exact lC_self _) z)
    refine lv_goto (tgt := 1467) hx hb dL_law_205 (by decide) ?_
    exact W.widen (by omega) (by omega) (kk H2 locs2 _ gJ hS (lv_sub hl [2, 3, 4, 5, 6] rfl))
set_option maxHeartbeats 2000000 in
theorem w_setKey (X : LX p l s m args c G b L xs) (D : AD ad am oa s.heap.size) (hi : 0 ≤ i ∧ i + 7 < L) (hL : L ≤ 4096) (h : REL F E T P S Av Fv FM A B) (ht : ecT A B (FM 4) ≤ tb) (htb : tb ≤ 1024) (hC : CP G ad F AC E T P S Av Fv H) (hO : OP G oa O H) (hM : MP G am FM A B H) (hA4 : rngI (A 4)) (hS : va_S (AL s) s.heap H locs) (hl : lv_has ls 9 [(4, .int (zI i)), (3, .ref oa), (2, .ref (am 0)), (1, .ref (ad 0)), (0, .ref b)]) (hfc : cells + 1028 ≤ 601024) (hfs : slots + 4121 ≤ 7293034)
    (kk : ∀ (H1 : Heap) (locs1 : List Loc) (ls1 : Array Slot), JI G ad am oa (tb + 2) H1 → va_S (AL s) s.heap H1 locs1 → lv_has ls1 9 [(4, .int (zI i)), (3, .ref oa), (2, .ref (am 0)), (1, .ref (ad 0)), (0, .ref b)] → W p l e room_1 s m args below meth c H1 locs1 (cells + 1028) (slots + 4121) Q (F0 m 1467 ls1 [])) : W p l e room_1 s m args below meth c H locs cells slots Q (F0 m 208 ls []) := by
  have n := h.2.1.nums h.1
  have hx := X.1.1
  have hb := X.1.2.1
  have hG := X.2.1
  have hK := hG.1
  have hA : ∀ q, AL s q → G.2.2 ≤ q := fun q h => by rw [X.2.2.2.2.2.2]; exact h
  refine lv_aload_n hx hb dL_law_208 rfl (lv_at hl 3 rfl) ?_
  refine lv_aload_n hx hb dL_law_209 rfl (lv_at hl 4 rfl) ?_
  refine lv_iload hx hb dL_law_210 (lv_at hl 0 rfl) ?_
  refine z_iconst hx hb dL_law_212 ?_
  refine z_iadd (x := i) (y := 1) hx hb dL_law_213 ?_
  refine z_sld X hS (j := i + 1) (by omega) hL dL_law_214 ?_
  refine lv_aload_n hx hb dL_law_215 rfl (lv_at hl 1 rfl) ?_
  refine k_Wi (c_H (As := [.ref (ad 0), .int (zI (sx xs (i + 1))), .ref oa]) (rest := []) X.1 hG X.2.2.1 hS hA (h_setKey l G oa O ad F AC E T P S Av Fv (sx xs (i + 1)) (sx_rng _ _) (by omega) h.vok h.hva h.cok H.size X.2.2.2.2.2.1 (hA _ D.2.2) D.ne) ⟨q_ml_RL_86, q_st_L_setKey, q_ini_RL, q_code_L_setKey⟩ hs_L_setKey ⟨hC, hO⟩ ⟨Nat.le_of_ble_eq_true rfl, Nat.le_of_ble_eq_true rfl⟩ ⟨(by show cells + 1 ≤ 601024; omega), (by show slots + 6 ≤ 7293034; omega)⟩ rfl hl.1 rfl (Nat.le_of_ble_eq_true rfl) dL_law_216) hS (D.sh hS.1) (fun k H1 locs1 hq1 hz1 hk1 hS => ?_)
  refine lv_istore (lv' := [(5, .int (zI k)), (4, .int (zI i)), (3, .ref oa), (2, .ref (am 0)), (1, .ref (ad 0)), (0, .ref b)]) hx hb dL_law_219 hl (by decide) rfl (fun ls hl => ?_)
  have hM1 := MP.k9 hM (fun j hj => hk1 (am j) (PP.lt hM hj) (D.amh hj (PP.lt hM hj)))
  refine lv_aload_n hx hb dL_law_221 rfl (lv_at hl 3 rfl) ?_
  refine lv_aload_n hx hb dL_law_222 rfl (lv_at hl 5 rfl) ?_
  refine lv_iload hx hb dL_law_223 (lv_at hl 1 rfl) ?_
  refine z_iconst hx hb dL_law_225 ?_
  refine z_iadd (x := i) (y := 1) hx hb dL_law_226 ?_
  refine z_sld X hS (j := i + 1) (by omega) hL dL_law_227 ?_
  refine k_Wi (c_VW (As := [.int (zI (sx xs (i + 1)))]) (rest := []) X.1 hG hS hA (c_X3_setKey l G am FM A B (sx xs (i + 1)) H1.size (sx_rng _ _) h.1) ⟨q_ml_RL_89, q_im_X3_setKey, q_sel_X3_setKey, q_ini_RX3, q_code_X3_setKey⟩ hv_X3_setKey (MP.rec hK hM1) hM1 ⟨Nat.le_of_ble_eq_true rfl, Nat.le_of_ble_eq_true rfl⟩ ⟨(by show cells + 1 + (0) ≤ 601024; omega), (by show slots + 6 + (0) ≤ 7293034; omega)⟩ rfl hl.1 rfl (Nat.le_of_ble_eq_true rfl) dL_law_228) hS (D.sm hS.1) (fun r H2 locs2 hq2 hz2 hk2 hS => ?_)
  refine lv_istore (lv' := [(6, .int (zI r)), (5, .int (zI k)), (4, .int (zI i)), (3, .ref oa), (2, .ref (am 0)), (1, .ref (ad 0)), (0, .ref b)]) hx hb dL_law_231 hl (by decide) rfl (fun ls hl => ?_)
  have hr := HP.kr hq1 (by decide)
  obtain ⟨F9, AC9, E9, T9, P9, S9, Av9, Fv9, O9, FM9, A9, B9, gC, gO, gM, gk, gv, gR, gc⟩ := j_setKey h ht hq1 hq2
  have gC := CP.kept gC (fun k hk => hk2 (ad k) (PP.lt gC hk) (D.adm hk (PP.lt gC hk)))
  have gO : OP G oa O9 H2 := gO.kept (hk2 oa gO.lt (D.oam gO.lt))
  have gJ : JI G ad am oa (tb + 2) H2 := ⟨_, _, _, _, _, _, _, _, _, _, _, _, gC, gO, gM, gR, gc⟩
  refine lv_aload_n hx hb dL_law_233 rfl (lv_at hl 4 rfl) ?_
  refine k_R (c_VR (As := []) (rest := []) X.1 hG hS hA (c_X3_thrown l G am FM9 A9 B9) ⟨q_ml_RL_83, q_im_X3_thrown, q_sel_X3_thrown, q_ini_RX3, q_code_X3_thrown⟩ hv_X3_thrown (MP.rec hK gM) gM ⟨Nat.le_of_ble_eq_true rfl, Nat.le_of_ble_eq_true rfl⟩ ⟨(by show cells + 1 + (0) ≤ 601024; omega), (by show slots + 6 + (0) ≤ 7293034; omega)⟩ rfl hl.1 rfl (Nat.le_of_ble_eq_true rfl) dL_law_234) ?_
  rw [gk]
  refine lv_iload hx hb dL_law_237 (lv_at hl 1 rfl) ?_
  refine z_icmp_eq (a := k) (b := k) (tgt := 244) hx hb dL_law_239 (by decide) hr hr (fun _ => ?_) (fun z => absurd rfl z)
  refine lv_iload hx hb dL_law_244 (lv_at hl 1 rfl) ?_
  refine z_if_ne (a := k) (tgt := 261) hx hb dL_law_246 (by decide) hr (fun hk0 => ?_) (fun hk0 => ?_)
  · refine lv_goto (tgt := 1467) hx hb dL_law_261 (by decide) ?_
    exact W.widen (by omega) (by omega) (kk H2 locs2 _ gJ hS (lv_sub hl [2, 3, 4, 5, 6] rfl))
  · refine lv_aload_n hx hb dL_law_249 rfl (lv_at hl 3 rfl) ?_
    refine z_iconst hx hb dL_law_250 ?_
    refine z_lald hx hb hK gO dL_law_251 ?_
    refine lv_iload hx hb dL_law_252 (lv_at hl 0 rfl) ?_
    refine lv_i2l (v := (zI r).toInt64) hx hb dL_law_254 rfl ?_
    refine z_lcmp hx hb dL_law_255 ?_
    refine z_if_eq (a := lC O9 ((zI r).toInt64)) (tgt := 261) hx hb dL_law_256 (by decide) (lC_rng _ _) (fun _ => ?_) (fun z => absurd (by rw [gv hk0]; exact lC_self _) z)
    refine lv_goto (tgt := 1467) hx hb dL_law_261 (by decide) ?_
    exact W.widen (by omega) (by omega) (kk H2 locs2 _ gJ hS (lv_sub hl [2, 3, 4, 5, 6] rfl))
set_option maxHeartbeats 2000000 in
theorem w_addVoice (X : LX p l s m args c G b L xs) (D : AD ad am oa s.heap.size) (hi : 0 ≤ i ∧ i + 7 < L) (hL : L ≤ 4096) (h : REL F E T P S Av Fv FM A B) (ht : ecT A B (FM 4) ≤ tb) (htb : tb ≤ 1024) (hC : CP G ad F AC E T P S Av Fv H) (hO : OP G oa O H) (hM : MP G am FM A B H) (hA4 : rngI (A 4)) (hS : va_S (AL s) s.heap H locs) (hl : lv_has ls 9 [(4, .int (zI i)), (3, .ref oa), (2, .ref (am 0)), (1, .ref (ad 0)), (0, .ref b)]) (hfc : cells + 1028 ≤ 601024) (hfs : slots + 4121 ≤ 7293034)
    (kk : ∀ (H1 : Heap) (locs1 : List Loc) (ls1 : Array Slot), JI G ad am oa (tb + 2) H1 → va_S (AL s) s.heap H1 locs1 → lv_has ls1 9 [(4, .int (zI i)), (3, .ref oa), (2, .ref (am 0)), (1, .ref (ad 0)), (0, .ref b)] → W p l e room_1 s m args below meth c H1 locs1 (cells + 1028) (slots + 4121) Q (F0 m 1467 ls1 [])) : W p l e room_1 s m args below meth c H locs cells slots Q (F0 m 264 ls []) := by
  have n := h.2.1.nums h.1
  have hx := X.1.1
  have hb := X.1.2.1
  have hG := X.2.1
  have hK := hG.1
  have hA : ∀ q, AL s q → G.2.2 ≤ q := fun q h => by rw [X.2.2.2.2.2.2]; exact h
  refine lv_aload_n hx hb dL_law_264 rfl (lv_at hl 3 rfl) ?_
  refine lv_aload_n hx hb dL_law_265 rfl (lv_at hl 1 rfl) ?_
  refine k_Wi (c_H (As := [.ref (ad 0), .ref oa]) (rest := []) X.1 hG X.2.2.1 hS hA (h_addVoice l G oa O ad F AC E T P S Av Fv  h.cok H.size X.2.2.2.2.2.1 (hA _ D.2.2) D.ne) ⟨q_ml_RL_90, q_st_L_addVoice, q_ini_RL, q_code_L_addVoice⟩ hs_L_addVoice ⟨hC, hO⟩ ⟨Nat.le_of_ble_eq_true rfl, Nat.le_of_ble_eq_true rfl⟩ ⟨(by show cells + 1 ≤ 601024; omega), (by show slots + 6 ≤ 7293034; omega)⟩ rfl hl.1 rfl (Nat.le_of_ble_eq_true rfl) dL_law_266) hS (D.sh hS.1) (fun k H1 locs1 hq1 hz1 hk1 hS => ?_)
  refine lv_istore (lv' := [(5, .int (zI k)), (4, .int (zI i)), (3, .ref oa), (2, .ref (am 0)), (1, .ref (ad 0)), (0, .ref b)]) hx hb dL_law_269 hl (by decide) rfl (fun ls hl => ?_)
  have hM1 := MP.k9 hM (fun j hj => hk1 (am j) (PP.lt hM hj) (D.amh hj (PP.lt hM hj)))
  refine lv_aload_n hx hb dL_law_271 rfl (lv_at hl 3 rfl) ?_
  refine k_Wi (c_VW (As := []) (rest := []) X.1 hG hS hA (c_X3_addVoice l G am FM A B  H1.size h.1) ⟨q_ml_RL_93, q_im_X3_addVoice, q_sel_X3_addVoice, q_ini_RX3, q_code_X3_addVoice⟩ hv_X3_addVoice (MP.rec hK hM1) hM1 ⟨Nat.le_of_ble_eq_true rfl, Nat.le_of_ble_eq_true rfl⟩ ⟨(by show cells + 1 + (0) ≤ 601024; omega), (by show slots + 6 + (0) ≤ 7293034; omega)⟩ rfl hl.1 rfl (Nat.le_of_ble_eq_true rfl) dL_law_272) hS (D.sm hS.1) (fun r H2 locs2 hq2 hz2 hk2 hS => ?_)
  refine lv_istore (lv' := [(6, .int (zI r)), (5, .int (zI k)), (4, .int (zI i)), (3, .ref oa), (2, .ref (am 0)), (1, .ref (ad 0)), (0, .ref b)]) hx hb dL_law_275 hl (by decide) rfl (fun ls hl => ?_)
  have hr := HP.kr hq1 (by decide)
  obtain ⟨F9, AC9, E9, T9, P9, S9, Av9, Fv9, O9, FM9, A9, B9, gC, gO, gM, gk, gv, gR, gc⟩ := j_addVoice h ht hq1 hq2
  have gC := CP.kept gC (fun k hk => hk2 (ad k) (PP.lt gC hk) (D.adm hk (PP.lt gC hk)))
  have gO : OP G oa O9 H2 := gO.kept (hk2 oa gO.lt (D.oam gO.lt))
  have gJ : JI G ad am oa (tb + 2) H2 := ⟨_, _, _, _, _, _, _, _, _, _, _, _, gC, gO, gM, gR, gc⟩
  refine lv_aload_n hx hb dL_law_277 rfl (lv_at hl 4 rfl) ?_
  refine k_R (c_VR (As := []) (rest := []) X.1 hG hS hA (c_X3_thrown l G am FM9 A9 B9) ⟨q_ml_RL_83, q_im_X3_thrown, q_sel_X3_thrown, q_ini_RX3, q_code_X3_thrown⟩ hv_X3_thrown (MP.rec hK gM) gM ⟨Nat.le_of_ble_eq_true rfl, Nat.le_of_ble_eq_true rfl⟩ ⟨(by show cells + 1 + (0) ≤ 601024; omega), (by show slots + 6 + (0) ≤ 7293034; omega)⟩ rfl hl.1 rfl (Nat.le_of_ble_eq_true rfl) dL_law_278) ?_
  rw [gk]
  refine lv_iload hx hb dL_law_281 (lv_at hl 1 rfl) ?_
  refine z_icmp_eq (a := k) (b := k) (tgt := 288) hx hb dL_law_283 (by decide) hr hr (fun _ => ?_) (fun z => absurd rfl z)
  refine lv_iload hx hb dL_law_288 (lv_at hl 1 rfl) ?_
  refine z_if_ne (a := k) (tgt := 305) hx hb dL_law_290 (by decide) hr (fun hk0 => ?_) (fun hk0 => ?_)
  · refine lv_goto (tgt := 1467) hx hb dL_law_305 (by decide) ?_
    exact W.widen (by omega) (by omega) (kk H2 locs2 _ gJ hS (lv_sub hl [2, 3, 4, 5, 6] rfl))
  · refine lv_aload_n hx hb dL_law_293 rfl (lv_at hl 3 rfl) ?_
    refine z_iconst hx hb dL_law_294 ?_
    refine z_lald hx hb hK gO dL_law_295 ?_
    refine lv_iload hx hb dL_law_296 (lv_at hl 0 rfl) ?_
    refine lv_i2l (v := (zI r).toInt64) hx hb dL_law_298 rfl ?_
    refine z_lcmp hx hb dL_law_299 ?_
    refine z_if_eq (a := lC O9 ((zI r).toInt64)) (tgt := 305) hx hb dL_law_300 (by decide) (lC_rng _ _) (fun _ => ?_) (fun z => absurd (by rw [gv hk0]; exact lC_self _) z)
    refine lv_goto (tgt := 1467) hx hb dL_law_305 (by decide) ?_
    exact W.widen (by omega) (by omega) (kk H2 locs2 _ gJ hS (lv_sub hl [2, 3, 4, 5, 6] rfl))
set_option maxHeartbeats 2000000 in
theorem w_score (X : LX p l s m args c G b L xs) (D : AD ad am oa s.heap.size) (hi : 0 ≤ i ∧ i + 7 < L) (hL : L ≤ 4096) (h : REL F E T P S Av Fv FM A B) (ht : ecT A B (FM 4) ≤ tb) (htb : tb ≤ 1024) (hC : CP G ad F AC E T P S Av Fv H) (hO : OP G oa O H) (hM : MP G am FM A B H) (hA4 : rngI (A 4)) (hS : va_S (AL s) s.heap H locs) (hl : lv_has ls 9 [(4, .int (zI i)), (3, .ref oa), (2, .ref (am 0)), (1, .ref (ad 0)), (0, .ref b)]) (hfc : cells + 1028 ≤ 601024) (hfs : slots + 4121 ≤ 7293034)
    (kk : ∀ (H1 : Heap) (locs1 : List Loc) (ls1 : Array Slot), JI G ad am oa (tb + 2) H1 → va_S (AL s) s.heap H1 locs1 → lv_has ls1 9 [(4, .int (zI i)), (3, .ref oa), (2, .ref (am 0)), (1, .ref (ad 0)), (0, .ref b)] → W p l e room_1 s m args below meth c H1 locs1 (cells + 1028) (slots + 4121) Q (F0 m 1467 ls1 [])) : W p l e room_1 s m args below meth c H locs cells slots Q (F0 m 308 ls []) := by
  have n := h.2.1.nums h.1
  have hx := X.1.1
  have hb := X.1.2.1
  have hG := X.2.1
  have hK := hG.1
  have hA : ∀ q, AL s q → G.2.2 ≤ q := fun q h => by rw [X.2.2.2.2.2.2]; exact h
  refine lv_aload_n hx hb dL_law_308 rfl (lv_at hl 3 rfl) ?_
  refine lv_aload_n hx hb dL_law_309 rfl (lv_at hl 4 rfl) ?_
  refine lv_iload hx hb dL_law_310 (lv_at hl 0 rfl) ?_
  refine z_iconst hx hb dL_law_312 ?_
  refine z_iadd (x := i) (y := 1) hx hb dL_law_313 ?_
  refine z_sld X hS (j := i + 1) (by omega) hL dL_law_314 ?_
  refine lv_aload_n hx hb dL_law_315 rfl (lv_at hl 1 rfl) ?_
  refine k_Wi (c_H (As := [.ref (ad 0), .int (zI (sx xs (i + 1))), .ref oa]) (rest := []) X.1 hG X.2.2.1 hS hA (h_score l G oa O ad F AC E T P S Av Fv (sx xs (i + 1)) (sx_rng _ _) h.hvt h.cok H.size X.2.2.2.2.2.1 (hA _ D.2.2) D.ne) ⟨q_ml_RL_94, q_st_L_score, q_ini_RL, q_code_L_score⟩ hs_L_score ⟨hC, hO⟩ ⟨Nat.le_of_ble_eq_true rfl, Nat.le_of_ble_eq_true rfl⟩ ⟨(by show cells + 1 ≤ 601024; omega), (by show slots + 6 ≤ 7293034; omega)⟩ rfl hl.1 rfl (Nat.le_of_ble_eq_true rfl) dL_law_316) hS (D.sh hS.1) (fun k H1 locs1 hq1 hz1 hk1 hS => ?_)
  refine lv_istore (lv' := [(5, .int (zI k)), (4, .int (zI i)), (3, .ref oa), (2, .ref (am 0)), (1, .ref (ad 0)), (0, .ref b)]) hx hb dL_law_319 hl (by decide) rfl (fun ls hl => ?_)
  have hM1 := MP.k9 hM (fun j hj => hk1 (am j) (PP.lt hM hj) (D.amh hj (PP.lt hM hj)))
  refine lv_aload_n hx hb dL_law_321 rfl (lv_at hl 3 rfl) ?_
  refine lv_aload_n hx hb dL_law_322 rfl (lv_at hl 5 rfl) ?_
  refine lv_iload hx hb dL_law_323 (lv_at hl 1 rfl) ?_
  refine z_iconst hx hb dL_law_325 ?_
  refine z_iadd (x := i) (y := 1) hx hb dL_law_326 ?_
  refine z_sld X hS (j := i + 1) (by omega) hL dL_law_327 ?_
  refine k_Wi (c_VW (As := [.int (zI (sx xs (i + 1)))]) (rest := []) X.1 hG hS hA (c_X3_score l G am FM A B (sx xs (i + 1)) H1.size (sx_rng _ _) h.1) ⟨q_ml_RL_96, q_im_X3_score, q_sel_X3_score, q_ini_RX3, q_code_X3_score⟩ hv_X3_score (MP.rec hK hM1) hM1 ⟨Nat.le_of_ble_eq_true rfl, Nat.le_of_ble_eq_true rfl⟩ ⟨(by show cells + 1 + (0) ≤ 601024; omega), (by show slots + 6 + (0) ≤ 7293034; omega)⟩ rfl hl.1 rfl (Nat.le_of_ble_eq_true rfl) dL_law_328) hS (D.sm hS.1) (fun r H2 locs2 hq2 hz2 hk2 hS => ?_)
  refine lv_istore (lv' := [(6, .int (zI r)), (5, .int (zI k)), (4, .int (zI i)), (3, .ref oa), (2, .ref (am 0)), (1, .ref (ad 0)), (0, .ref b)]) hx hb dL_law_331 hl (by decide) rfl (fun ls hl => ?_)
  have hr := HP.kr hq1 (by decide)
  obtain ⟨F9, AC9, E9, T9, P9, S9, Av9, Fv9, O9, FM9, A9, B9, gC, gO, gM, gk, gv, gR, gc⟩ := j_score h ht hq1 hq2
  have gC := CP.kept gC (fun k hk => hk2 (ad k) (PP.lt gC hk) (D.adm hk (PP.lt gC hk)))
  have gO : OP G oa O9 H2 := gO.kept (hk2 oa gO.lt (D.oam gO.lt))
  have gJ : JI G ad am oa (tb + 2) H2 := ⟨_, _, _, _, _, _, _, _, _, _, _, _, gC, gO, gM, gR, gc⟩
  refine lv_aload_n hx hb dL_law_333 rfl (lv_at hl 4 rfl) ?_
  refine k_R (c_VR (As := []) (rest := []) X.1 hG hS hA (c_X3_thrown l G am FM9 A9 B9) ⟨q_ml_RL_83, q_im_X3_thrown, q_sel_X3_thrown, q_ini_RX3, q_code_X3_thrown⟩ hv_X3_thrown (MP.rec hK gM) gM ⟨Nat.le_of_ble_eq_true rfl, Nat.le_of_ble_eq_true rfl⟩ ⟨(by show cells + 1 + (0) ≤ 601024; omega), (by show slots + 6 + (0) ≤ 7293034; omega)⟩ rfl hl.1 rfl (Nat.le_of_ble_eq_true rfl) dL_law_334) ?_
  rw [gk]
  refine lv_iload hx hb dL_law_337 (lv_at hl 1 rfl) ?_
  refine z_icmp_eq (a := k) (b := k) (tgt := 344) hx hb dL_law_339 (by decide) hr hr (fun _ => ?_) (fun z => absurd rfl z)
  refine lv_iload hx hb dL_law_344 (lv_at hl 1 rfl) ?_
  refine z_if_ne (a := k) (tgt := 361) hx hb dL_law_346 (by decide) hr (fun hk0 => ?_) (fun hk0 => ?_)
  · refine lv_goto (tgt := 1467) hx hb dL_law_361 (by decide) ?_
    exact W.widen (by omega) (by omega) (kk H2 locs2 _ gJ hS (lv_sub hl [2, 3, 4, 5, 6] rfl))
  · refine lv_aload_n hx hb dL_law_349 rfl (lv_at hl 3 rfl) ?_
    refine z_iconst hx hb dL_law_350 ?_
    refine z_lald hx hb hK gO dL_law_351 ?_
    refine lv_iload hx hb dL_law_352 (lv_at hl 0 rfl) ?_
    refine lv_i2l (v := (zI r).toInt64) hx hb dL_law_354 rfl ?_
    refine z_lcmp hx hb dL_law_355 ?_
    refine z_if_eq (a := lC O9 ((zI r).toInt64)) (tgt := 361) hx hb dL_law_356 (by decide) (lC_rng _ _) (fun _ => ?_) (fun z => absurd (by rw [gv hk0]; exact lC_self _) z)
    refine lv_goto (tgt := 1467) hx hb dL_law_361 (by decide) ?_
    exact W.widen (by omega) (by omega) (kk H2 locs2 _ gJ hS (lv_sub hl [2, 3, 4, 5, 6] rfl))
set_option maxHeartbeats 2000000 in
theorem w_sign (X : LX p l s m args c G b L xs) (D : AD ad am oa s.heap.size) (hi : 0 ≤ i ∧ i + 7 < L) (hL : L ≤ 4096) (h : REL F E T P S Av Fv FM A B) (ht : ecT A B (FM 4) ≤ tb) (htb : tb ≤ 1024) (hC : CP G ad F AC E T P S Av Fv H) (hO : OP G oa O H) (hM : MP G am FM A B H) (hA4 : rngI (A 4)) (hS : va_S (AL s) s.heap H locs) (hl : lv_has ls 9 [(4, .int (zI i)), (3, .ref oa), (2, .ref (am 0)), (1, .ref (ad 0)), (0, .ref b)]) (hfc : cells + 1028 ≤ 601024) (hfs : slots + 4121 ≤ 7293034)
    (kk : ∀ (H1 : Heap) (locs1 : List Loc) (ls1 : Array Slot), JI G ad am oa (tb + 2) H1 → va_S (AL s) s.heap H1 locs1 → lv_has ls1 9 [(4, .int (zI i)), (3, .ref oa), (2, .ref (am 0)), (1, .ref (ad 0)), (0, .ref b)] → W p l e room_1 s m args below meth c H1 locs1 (cells + 1028) (slots + 4121) Q (F0 m 1467 ls1 [])) : W p l e room_1 s m args below meth c H locs cells slots Q (F0 m 364 ls []) := by
  have n := h.2.1.nums h.1
  have hx := X.1.1
  have hb := X.1.2.1
  have hG := X.2.1
  have hK := hG.1
  have hA : ∀ q, AL s q → G.2.2 ≤ q := fun q h => by rw [X.2.2.2.2.2.2]; exact h
  refine lv_aload_n hx hb dL_law_364 rfl (lv_at hl 3 rfl) ?_
  refine lv_aload_n hx hb dL_law_365 rfl (lv_at hl 4 rfl) ?_
  refine lv_iload hx hb dL_law_366 (lv_at hl 0 rfl) ?_
  refine z_iconst hx hb dL_law_368 ?_
  refine z_iadd (x := i) (y := 1) hx hb dL_law_369 ?_
  refine z_sld X hS (j := i + 1) (by omega) hL dL_law_370 ?_
  refine lv_aload_n hx hb dL_law_371 rfl (lv_at hl 1 rfl) ?_
  refine k_Wi (c_H (As := [.ref (ad 0), .int (zI (sx xs (i + 1))), .ref oa]) (rest := []) X.1 hG X.2.2.1 hS hA (h_sign l G oa O ad F AC E T P S Av Fv (sx xs (i + 1)) (sx_rng _ _) (by omega) H.size X.2.2.2.2.2.1 (hA _ D.2.2) D.ne) ⟨q_ml_RL_97, q_st_L_sign, q_ini_RL, q_code_L_sign⟩ hs_L_sign ⟨hC, hO⟩ ⟨Nat.le_of_ble_eq_true rfl, Nat.le_of_ble_eq_true rfl⟩ ⟨(by show cells + 1 ≤ 601024; omega), (by show slots + 6 ≤ 7293034; omega)⟩ rfl hl.1 rfl (Nat.le_of_ble_eq_true rfl) dL_law_372) hS (D.sh hS.1) (fun k H1 locs1 hq1 hz1 hk1 hS => ?_)
  refine lv_istore (lv' := [(5, .int (zI k)), (4, .int (zI i)), (3, .ref oa), (2, .ref (am 0)), (1, .ref (ad 0)), (0, .ref b)]) hx hb dL_law_375 hl (by decide) rfl (fun ls hl => ?_)
  have hM1 := MP.k9 hM (fun j hj => hk1 (am j) (PP.lt hM hj) (D.amh hj (PP.lt hM hj)))
  refine lv_aload_n hx hb dL_law_377 rfl (lv_at hl 3 rfl) ?_
  refine lv_aload_n hx hb dL_law_378 rfl (lv_at hl 5 rfl) ?_
  refine lv_iload hx hb dL_law_379 (lv_at hl 1 rfl) ?_
  refine z_iconst hx hb dL_law_381 ?_
  refine z_iadd (x := i) (y := 1) hx hb dL_law_382 ?_
  refine z_sld X hS (j := i + 1) (by omega) hL dL_law_383 ?_
  refine k_Wi (c_VW (As := [.int (zI (sx xs (i + 1)))]) (rest := []) X.1 hG hS hA (c_X3_sign l G am FM A B (sx xs (i + 1)) H1.size (sx_rng _ _) h.1) ⟨q_ml_RL_99, q_im_X3_sign, q_sel_X3_sign, q_ini_RX3, q_code_X3_sign⟩ hv_X3_sign (MP.rec hK hM1) hM1 ⟨Nat.le_of_ble_eq_true rfl, Nat.le_of_ble_eq_true rfl⟩ ⟨(by show cells + 1 + (0) ≤ 601024; omega), (by show slots + 6 + (0) ≤ 7293034; omega)⟩ rfl hl.1 rfl (Nat.le_of_ble_eq_true rfl) dL_law_384) hS (D.sm hS.1) (fun r H2 locs2 hq2 hz2 hk2 hS => ?_)
  refine lv_istore (lv' := [(6, .int (zI r)), (5, .int (zI k)), (4, .int (zI i)), (3, .ref oa), (2, .ref (am 0)), (1, .ref (ad 0)), (0, .ref b)]) hx hb dL_law_387 hl (by decide) rfl (fun ls hl => ?_)
  have hr := HP.kr hq1 (by decide)
  obtain ⟨F9, AC9, E9, T9, P9, S9, Av9, Fv9, O9, FM9, A9, B9, gC, gO, gM, gk, gv, gR, gc⟩ := j_sign h ht hq1 hq2
  have gC := CP.kept gC (fun k hk => hk2 (ad k) (PP.lt gC hk) (D.adm hk (PP.lt gC hk)))
  have gO : OP G oa O9 H2 := gO.kept (hk2 oa gO.lt (D.oam gO.lt))
  have gJ : JI G ad am oa (tb + 2) H2 := ⟨_, _, _, _, _, _, _, _, _, _, _, _, gC, gO, gM, gR, gc⟩
  refine lv_aload_n hx hb dL_law_389 rfl (lv_at hl 4 rfl) ?_
  refine k_R (c_VR (As := []) (rest := []) X.1 hG hS hA (c_X3_thrown l G am FM9 A9 B9) ⟨q_ml_RL_83, q_im_X3_thrown, q_sel_X3_thrown, q_ini_RX3, q_code_X3_thrown⟩ hv_X3_thrown (MP.rec hK gM) gM ⟨Nat.le_of_ble_eq_true rfl, Nat.le_of_ble_eq_true rfl⟩ ⟨(by show cells + 1 + (0) ≤ 601024; omega), (by show slots + 6 + (0) ≤ 7293034; omega)⟩ rfl hl.1 rfl (Nat.le_of_ble_eq_true rfl) dL_law_390) ?_
  rw [gk]
  refine lv_iload hx hb dL_law_393 (lv_at hl 1 rfl) ?_
  refine z_icmp_eq (a := k) (b := k) (tgt := 400) hx hb dL_law_395 (by decide) hr hr (fun _ => ?_) (fun z => absurd rfl z)
  refine lv_iload hx hb dL_law_400 (lv_at hl 1 rfl) ?_
  refine z_if_ne (a := k) (tgt := 417) hx hb dL_law_402 (by decide) hr (fun hk0 => ?_) (fun hk0 => ?_)
  · refine lv_goto (tgt := 1467) hx hb dL_law_417 (by decide) ?_
    exact W.widen (by omega) (by omega) (kk H2 locs2 _ gJ hS (lv_sub hl [2, 3, 4, 5, 6] rfl))
  · refine lv_aload_n hx hb dL_law_405 rfl (lv_at hl 3 rfl) ?_
    refine z_iconst hx hb dL_law_406 ?_
    refine z_lald hx hb hK gO dL_law_407 ?_
    refine lv_iload hx hb dL_law_408 (lv_at hl 0 rfl) ?_
    refine lv_i2l (v := (zI r).toInt64) hx hb dL_law_410 rfl ?_
    refine z_lcmp hx hb dL_law_411 ?_
    refine z_if_eq (a := lC O9 ((zI r).toInt64)) (tgt := 417) hx hb dL_law_412 (by decide) (lC_rng _ _) (fun _ => ?_) (fun z => absurd (by rw [gv hk0]; exact lC_self _) z)
    refine lv_goto (tgt := 1467) hx hb dL_law_417 (by decide) ?_
    exact W.widen (by omega) (by omega) (kk H2 locs2 _ gJ hS (lv_sub hl [2, 3, 4, 5, 6] rfl))
set_option maxHeartbeats 2000000 in
theorem w_ticks (X : LX p l s m args c G b L xs) (D : AD ad am oa s.heap.size) (hi : 0 ≤ i ∧ i + 7 < L) (hL : L ≤ 4096) (h : REL F E T P S Av Fv FM A B) (ht : ecT A B (FM 4) ≤ tb) (htb : tb ≤ 1024) (hC : CP G ad F AC E T P S Av Fv H) (hO : OP G oa O H) (hM : MP G am FM A B H) (hA4 : rngI (A 4)) (hS : va_S (AL s) s.heap H locs) (hl : lv_has ls 9 [(4, .int (zI i)), (3, .ref oa), (2, .ref (am 0)), (1, .ref (ad 0)), (0, .ref b)]) (hfc : cells + 1028 ≤ 601024) (hfs : slots + 4121 ≤ 7293034)
    (kk : ∀ (H1 : Heap) (locs1 : List Loc) (ls1 : Array Slot), JI G ad am oa (tb + 2) H1 → va_S (AL s) s.heap H1 locs1 → lv_has ls1 9 [(4, .int (zI i)), (3, .ref oa), (2, .ref (am 0)), (1, .ref (ad 0)), (0, .ref b)] → W p l e room_1 s m args below meth c H1 locs1 (cells + 1028) (slots + 4121) Q (F0 m 1467 ls1 [])) : W p l e room_1 s m args below meth c H locs cells slots Q (F0 m 420 ls []) := by
  have n := h.2.1.nums h.1
  have hx := X.1.1
  have hb := X.1.2.1
  have hG := X.2.1
  have hK := hG.1
  have hA : ∀ q, AL s q → G.2.2 ≤ q := fun q h => by rw [X.2.2.2.2.2.2]; exact h
  refine lv_aload_n hx hb dL_law_420 rfl (lv_at hl 3 rfl) ?_
  refine lv_aload_n hx hb dL_law_421 rfl (lv_at hl 4 rfl) ?_
  refine lv_iload hx hb dL_law_422 (lv_at hl 0 rfl) ?_
  refine z_iconst hx hb dL_law_424 ?_
  refine z_iadd (x := i) (y := 1) hx hb dL_law_425 ?_
  refine z_sld X hS (j := i + 1) (by omega) hL dL_law_426 ?_
  refine lv_aload_n hx hb dL_law_427 rfl (lv_at hl 4 rfl) ?_
  refine lv_iload hx hb dL_law_428 (lv_at hl 0 rfl) ?_
  refine z_iconst hx hb dL_law_430 ?_
  refine z_iadd (x := i) (y := 2) hx hb dL_law_431 ?_
  refine z_sld X hS (j := i + 2) (by omega) hL dL_law_432 ?_
  refine lv_aload_n hx hb dL_law_433 rfl (lv_at hl 1 rfl) ?_
  refine k_Wi (c_H (As := [.ref (ad 0), .int (zI (sx xs (i + 1))), .int (zI (sx xs (i + 2))), .ref oa]) (rest := []) X.1 hG X.2.2.1 hS hA (h_ticks l G oa O ad F AC E T P S Av Fv (sx xs (i + 1)) (sx xs (i + 2)) (sx_rng _ _) (sx_rng _ _) H.size X.2.2.2.2.2.1 (hA _ D.2.2) D.ne) ⟨q_ml_RL_100, q_st_L_ticks, q_ini_RL, q_code_L_ticks⟩ hs_L_ticks ⟨hC, hO⟩ ⟨Nat.le_of_ble_eq_true rfl, Nat.le_of_ble_eq_true rfl⟩ ⟨(by show cells + 1 ≤ 601024; omega), (by show slots + 6 ≤ 7293034; omega)⟩ rfl hl.1 rfl (Nat.le_of_ble_eq_true rfl) dL_law_434) hS (D.sh hS.1) (fun k H1 locs1 hq1 hz1 hk1 hS => ?_)
  refine lv_istore (lv' := [(5, .int (zI k)), (4, .int (zI i)), (3, .ref oa), (2, .ref (am 0)), (1, .ref (ad 0)), (0, .ref b)]) hx hb dL_law_437 hl (by decide) rfl (fun ls hl => ?_)
  have hM1 := MP.k9 hM (fun j hj => hk1 (am j) (PP.lt hM hj) (D.amh hj (PP.lt hM hj)))
  refine lv_aload_n hx hb dL_law_439 rfl (lv_at hl 3 rfl) ?_
  refine lv_aload_n hx hb dL_law_440 rfl (lv_at hl 5 rfl) ?_
  refine lv_iload hx hb dL_law_441 (lv_at hl 1 rfl) ?_
  refine z_iconst hx hb dL_law_443 ?_
  refine z_iadd (x := i) (y := 1) hx hb dL_law_444 ?_
  refine z_sld X hS (j := i + 1) (by omega) hL dL_law_445 ?_
  refine lv_aload_n hx hb dL_law_446 rfl (lv_at hl 5 rfl) ?_
  refine lv_iload hx hb dL_law_447 (lv_at hl 1 rfl) ?_
  refine z_iconst hx hb dL_law_449 ?_
  refine z_iadd (x := i) (y := 2) hx hb dL_law_450 ?_
  refine z_sld X hS (j := i + 2) (by omega) hL dL_law_451 ?_
  refine k_Wi (c_VW (As := [.int (zI (sx xs (i + 1))), .int (zI (sx xs (i + 2)))]) (rest := []) X.1 hG hS hA (c_X3_ticks l G am FM A B (sx xs (i + 1)) (sx xs (i + 2)) H1.size (sx_rng _ _) (sx_rng _ _) h.1) ⟨q_ml_RL_102, q_im_X3_ticks, q_sel_X3_ticks, q_ini_RX3, q_code_X3_ticks⟩ hv_X3_ticks (MP.rec hK hM1) hM1 ⟨Nat.le_of_ble_eq_true rfl, Nat.le_of_ble_eq_true rfl⟩ ⟨(by show cells + 1 + (0) ≤ 601024; omega), (by show slots + 6 + (0) ≤ 7293034; omega)⟩ rfl hl.1 rfl (Nat.le_of_ble_eq_true rfl) dL_law_452) hS (D.sm hS.1) (fun r H2 locs2 hq2 hz2 hk2 hS => ?_)
  refine lv_istore (lv' := [(6, .int (zI r)), (5, .int (zI k)), (4, .int (zI i)), (3, .ref oa), (2, .ref (am 0)), (1, .ref (ad 0)), (0, .ref b)]) hx hb dL_law_455 hl (by decide) rfl (fun ls hl => ?_)
  have hr := HP.kr hq1 (by decide)
  obtain ⟨F9, AC9, E9, T9, P9, S9, Av9, Fv9, O9, FM9, A9, B9, gC, gO, gM, gk, gv, gR, gc⟩ := j_ticks h ht hq1 hq2
  have gC := CP.kept gC (fun k hk => hk2 (ad k) (PP.lt gC hk) (D.adm hk (PP.lt gC hk)))
  have gO : OP G oa O9 H2 := gO.kept (hk2 oa gO.lt (D.oam gO.lt))
  have gJ : JI G ad am oa (tb + 2) H2 := ⟨_, _, _, _, _, _, _, _, _, _, _, _, gC, gO, gM, gR, gc⟩
  refine lv_aload_n hx hb dL_law_457 rfl (lv_at hl 4 rfl) ?_
  refine k_R (c_VR (As := []) (rest := []) X.1 hG hS hA (c_X3_thrown l G am FM9 A9 B9) ⟨q_ml_RL_83, q_im_X3_thrown, q_sel_X3_thrown, q_ini_RX3, q_code_X3_thrown⟩ hv_X3_thrown (MP.rec hK gM) gM ⟨Nat.le_of_ble_eq_true rfl, Nat.le_of_ble_eq_true rfl⟩ ⟨(by show cells + 1 + (0) ≤ 601024; omega), (by show slots + 6 + (0) ≤ 7293034; omega)⟩ rfl hl.1 rfl (Nat.le_of_ble_eq_true rfl) dL_law_458) ?_
  rw [gk]
  refine lv_iload hx hb dL_law_461 (lv_at hl 1 rfl) ?_
  refine z_icmp_eq (a := k) (b := k) (tgt := 468) hx hb dL_law_463 (by decide) hr hr (fun _ => ?_) (fun z => absurd rfl z)
  refine lv_iload hx hb dL_law_468 (lv_at hl 1 rfl) ?_
  refine z_if_ne (a := k) (tgt := 485) hx hb dL_law_470 (by decide) hr (fun hk0 => ?_) (fun hk0 => ?_)
  · refine lv_goto (tgt := 1467) hx hb dL_law_485 (by decide) ?_
    exact W.widen (by omega) (by omega) (kk H2 locs2 _ gJ hS (lv_sub hl [2, 3, 4, 5, 6] rfl))
  · refine lv_aload_n hx hb dL_law_473 rfl (lv_at hl 3 rfl) ?_
    refine z_iconst hx hb dL_law_474 ?_
    refine z_lald hx hb hK gO dL_law_475 ?_
    refine lv_iload hx hb dL_law_476 (lv_at hl 0 rfl) ?_
    refine lv_i2l (v := (zI r).toInt64) hx hb dL_law_478 rfl ?_
    refine z_lcmp hx hb dL_law_479 ?_
    refine z_if_eq (a := lC O9 ((zI r).toInt64)) (tgt := 485) hx hb dL_law_480 (by decide) (lC_rng _ _) (fun _ => ?_) (fun z => absurd (by rw [gv hk0]; exact lC_self _) z)
    refine lv_goto (tgt := 1467) hx hb dL_law_485 (by decide) ?_
    exact W.widen (by omega) (by omega) (kk H2 locs2 _ gJ hS (lv_sub hl [2, 3, 4, 5, 6] rfl))
set_option maxHeartbeats 2000000 in
theorem w_addNote (X : LX p l s m args c G b L xs) (D : AD ad am oa s.heap.size) (hi : 0 ≤ i ∧ i + 7 < L) (hL : L ≤ 4096) (h : REL F E T P S Av Fv FM A B) (ht : ecT A B (FM 4) ≤ tb) (htb : tb ≤ 1024) (hC : CP G ad F AC E T P S Av Fv H) (hO : OP G oa O H) (hM : MP G am FM A B H) (hA4 : rngI (A 4)) (hS : va_S (AL s) s.heap H locs) (hl : lv_has ls 9 [(4, .int (zI i)), (3, .ref oa), (2, .ref (am 0)), (1, .ref (ad 0)), (0, .ref b)]) (hfc : cells + 1028 ≤ 601024) (hfs : slots + 4121 ≤ 7293034)
    (kk : ∀ (H1 : Heap) (locs1 : List Loc) (ls1 : Array Slot), JI G ad am oa (tb + 2) H1 → va_S (AL s) s.heap H1 locs1 → lv_has ls1 9 [(4, .int (zI i)), (3, .ref oa), (2, .ref (am 0)), (1, .ref (ad 0)), (0, .ref b)] → W p l e room_1 s m args below meth c H1 locs1 (cells + 1028) (slots + 4121) Q (F0 m 1467 ls1 [])) : W p l e room_1 s m args below meth c H locs cells slots Q (F0 m 488 ls []) := by
  have n := h.2.1.nums h.1
  have hx := X.1.1
  have hb := X.1.2.1
  have hG := X.2.1
  have hK := hG.1
  have hA : ∀ q, AL s q → G.2.2 ≤ q := fun q h => by rw [X.2.2.2.2.2.2]; exact h
  refine lv_aload_n hx hb dL_law_488 rfl (lv_at hl 3 rfl) ?_
  refine lv_aload_n hx hb dL_law_489 rfl (lv_at hl 4 rfl) ?_
  refine lv_iload hx hb dL_law_490 (lv_at hl 0 rfl) ?_
  refine z_iconst hx hb dL_law_492 ?_
  refine z_iadd (x := i) (y := 1) hx hb dL_law_493 ?_
  refine z_sld X hS (j := i + 1) (by omega) hL dL_law_494 ?_
  refine lv_aload_n hx hb dL_law_495 rfl (lv_at hl 4 rfl) ?_
  refine lv_iload hx hb dL_law_496 (lv_at hl 0 rfl) ?_
  refine z_iconst hx hb dL_law_498 ?_
  refine z_iadd (x := i) (y := 2) hx hb dL_law_499 ?_
  refine z_sld X hS (j := i + 2) (by omega) hL dL_law_500 ?_
  refine lv_aload_n hx hb dL_law_501 rfl (lv_at hl 4 rfl) ?_
  refine lv_iload hx hb dL_law_502 (lv_at hl 0 rfl) ?_
  refine z_iconst hx hb dL_law_504 ?_
  refine z_iadd (x := i) (y := 3) hx hb dL_law_505 ?_
  refine z_sld X hS (j := i + 3) (by omega) hL dL_law_506 ?_
  refine lv_aload_n hx hb dL_law_507 rfl (lv_at hl 4 rfl) ?_
  refine lv_iload hx hb dL_law_508 (lv_at hl 0 rfl) ?_
  refine z_iconst hx hb dL_law_510 ?_
  refine z_iadd (x := i) (y := 4) hx hb dL_law_511 ?_
  refine z_sld X hS (j := i + 4) (by omega) hL dL_law_512 ?_
  refine lv_aload_n hx hb dL_law_513 rfl (lv_at hl 4 rfl) ?_
  refine lv_iload hx hb dL_law_514 (lv_at hl 0 rfl) ?_
  refine z_iconst hx hb dL_law_516 ?_
  refine z_iadd (x := i) (y := 5) hx hb dL_law_517 ?_
  refine z_sld X hS (j := i + 5) (by omega) hL dL_law_518 ?_
  refine lv_aload_n hx hb dL_law_519 rfl (lv_at hl 4 rfl) ?_
  refine lv_iload hx hb dL_law_520 (lv_at hl 0 rfl) ?_
  refine z_bipush hx hb dL_law_522 (by decide) ?_
  refine z_iadd (x := i) (y := 6) hx hb dL_law_524 ?_
  refine z_sld X hS (j := i + 6) (by omega) hL dL_law_525 ?_
  refine lv_aload_n hx hb dL_law_526 rfl (lv_at hl 4 rfl) ?_
  refine lv_iload hx hb dL_law_527 (lv_at hl 0 rfl) ?_
  refine z_bipush hx hb dL_law_529 (by decide) ?_
  refine z_iadd (x := i) (y := 7) hx hb dL_law_531 ?_
  refine z_sld X hS (j := i + 7) (by omega) hL dL_law_532 ?_
  refine z_nz hx hb (sx_rng _ _) dL_law_533 dL_law_536 dL_law_537 dL_law_540 ?_
  refine lv_aload_n hx hb dL_law_541 rfl (lv_at hl 1 rfl) ?_
  refine k_Wi (c_H (As := [.ref (ad 0), .int (zI (sx xs (i + 1))), .int (zI (sx xs (i + 2))), .int (zI (sx xs (i + 3))), .int (zI (sx xs (i + 4))), .int (zI (sx xs (i + 5))), .int (zI (sx xs (i + 6))), .int (zI (bI (¬ sx xs (i + 7) = 0))), .ref oa]) (rest := []) X.1 hG X.2.2.1 hS hA (h_addNote l G oa O ad F AC E T P S Av Fv (sx xs (i + 1)) (sx xs (i + 2)) (sx xs (i + 3)) (sx xs (i + 4)) (sx xs (i + 5)) (sx xs (i + 6)) (bI (¬ sx xs (i + 7) = 0)) (sx_rng _ _) (sx_rng _ _) (sx_rng _ _) (sx_rng _ _) (sx_rng _ _) (sx_rng _ _) (bI_rng _) (bI_01 _) (by omega) (by omega) h.vok h.hva (by omega) h.hen h.cok H.size X.2.2.2.2.2.1 (hA _ D.2.2) D.ne) ⟨q_ml_RL_103, q_st_L_addNote, q_ini_RL, q_code_L_addNote⟩ hs_L_addNote ⟨hC, hO⟩ ⟨Nat.le_of_ble_eq_true rfl, Nat.le_of_ble_eq_true rfl⟩ ⟨(by show cells + 3 ≤ 601024; omega), (by show slots + 18 ≤ 7293034; omega)⟩ rfl hl.1 rfl (Nat.le_of_ble_eq_true rfl) dL_law_542) hS (D.sh hS.1) (fun k H1 locs1 hq1 hz1 hk1 hS => ?_)
  refine lv_istore (lv' := [(5, .int (zI k)), (4, .int (zI i)), (3, .ref oa), (2, .ref (am 0)), (1, .ref (ad 0)), (0, .ref b)]) hx hb dL_law_545 hl (by decide) rfl (fun ls hl => ?_)
  have hM1 := MP.k9 hM (fun j hj => hk1 (am j) (PP.lt hM hj) (D.amh hj (PP.lt hM hj)))
  refine lv_aload_n hx hb dL_law_547 rfl (lv_at hl 3 rfl) ?_
  refine lv_aload_n hx hb dL_law_548 rfl (lv_at hl 5 rfl) ?_
  refine lv_iload hx hb dL_law_549 (lv_at hl 1 rfl) ?_
  refine z_iconst hx hb dL_law_551 ?_
  refine z_iadd (x := i) (y := 1) hx hb dL_law_552 ?_
  refine z_sld X hS (j := i + 1) (by omega) hL dL_law_553 ?_
  refine lv_aload_n hx hb dL_law_554 rfl (lv_at hl 5 rfl) ?_
  refine lv_iload hx hb dL_law_555 (lv_at hl 1 rfl) ?_
  refine z_iconst hx hb dL_law_557 ?_
  refine z_iadd (x := i) (y := 2) hx hb dL_law_558 ?_
  refine z_sld X hS (j := i + 2) (by omega) hL dL_law_559 ?_
  refine lv_aload_n hx hb dL_law_560 rfl (lv_at hl 5 rfl) ?_
  refine lv_iload hx hb dL_law_561 (lv_at hl 1 rfl) ?_
  refine z_iconst hx hb dL_law_563 ?_
  refine z_iadd (x := i) (y := 3) hx hb dL_law_564 ?_
  refine z_sld X hS (j := i + 3) (by omega) hL dL_law_565 ?_
  refine lv_aload_n hx hb dL_law_566 rfl (lv_at hl 5 rfl) ?_
  refine lv_iload hx hb dL_law_567 (lv_at hl 1 rfl) ?_
  refine z_iconst hx hb dL_law_569 ?_
  refine z_iadd (x := i) (y := 4) hx hb dL_law_570 ?_
  refine z_sld X hS (j := i + 4) (by omega) hL dL_law_571 ?_
  refine lv_aload_n hx hb dL_law_572 rfl (lv_at hl 5 rfl) ?_
  refine lv_iload hx hb dL_law_573 (lv_at hl 1 rfl) ?_
  refine z_iconst hx hb dL_law_575 ?_
  refine z_iadd (x := i) (y := 5) hx hb dL_law_576 ?_
  refine z_sld X hS (j := i + 5) (by omega) hL dL_law_577 ?_
  refine lv_aload_n hx hb dL_law_578 rfl (lv_at hl 5 rfl) ?_
  refine lv_iload hx hb dL_law_579 (lv_at hl 1 rfl) ?_
  refine z_bipush hx hb dL_law_581 (by decide) ?_
  refine z_iadd (x := i) (y := 6) hx hb dL_law_583 ?_
  refine z_sld X hS (j := i + 6) (by omega) hL dL_law_584 ?_
  refine lv_aload_n hx hb dL_law_585 rfl (lv_at hl 5 rfl) ?_
  refine lv_iload hx hb dL_law_586 (lv_at hl 1 rfl) ?_
  refine z_bipush hx hb dL_law_588 (by decide) ?_
  refine z_iadd (x := i) (y := 7) hx hb dL_law_590 ?_
  refine z_sld X hS (j := i + 7) (by omega) hL dL_law_591 ?_
  refine z_nz hx hb (sx_rng _ _) dL_law_592 dL_law_595 dL_law_596 dL_law_599 ?_
  refine k_Wi (c_VW (As := [.int (zI (sx xs (i + 1))), .int (zI (sx xs (i + 2))), .int (zI (sx xs (i + 3))), .int (zI (sx xs (i + 4))), .int (zI (sx xs (i + 5))), .int (zI (sx xs (i + 6))), .int (zI (bI (¬ sx xs (i + 7) = 0)))]) (rest := []) X.1 hG hS hA (c_X3_addNote l G am FM A B (sx xs (i + 1)) (sx xs (i + 2)) (sx xs (i + 3)) (sx xs (i + 4)) (sx xs (i + 5)) (sx xs (i + 6)) (bI (¬ sx xs (i + 7) = 0)) H1.size (sx_rng _ _) (sx_rng _ _) (sx_rng _ _) (sx_rng _ _) (sx_rng _ _) (sx_rng _ _) (bI_rng _) (bI_01 _) h.1) ⟨q_ml_RL_106, q_im_X3_addNote, q_sel_X3_addNote, q_ini_RX3, q_code_X3_addNote⟩ hv_X3_addNote (MP.rec hK hM1) hM1 ⟨Nat.le_of_ble_eq_true rfl, Nat.le_of_ble_eq_true rfl⟩ ⟨(by show cells + 3 + (1) ≤ 601024; omega), (by show slots + 18 + (7) ≤ 7293034; omega)⟩ rfl hl.1 rfl (Nat.le_of_ble_eq_true rfl) dL_law_600) hS (D.sm hS.1) (fun r H2 locs2 hq2 hz2 hk2 hS => ?_)
  refine lv_istore (lv' := [(6, .int (zI r)), (5, .int (zI k)), (4, .int (zI i)), (3, .ref oa), (2, .ref (am 0)), (1, .ref (ad 0)), (0, .ref b)]) hx hb dL_law_603 hl (by decide) rfl (fun ls hl => ?_)
  have hr := HP.kr hq1 (by decide)
  obtain ⟨F9, AC9, E9, T9, P9, S9, Av9, Fv9, O9, FM9, A9, B9, gC, gO, gM, gk, gv, gR, gc⟩ := j_addNote (bI_01 _) h ht hq1 hq2
  have gC := CP.kept gC (fun k hk => hk2 (ad k) (PP.lt gC hk) (D.adm hk (PP.lt gC hk)))
  have gO : OP G oa O9 H2 := gO.kept (hk2 oa gO.lt (D.oam gO.lt))
  have gJ : JI G ad am oa (tb + 2) H2 := ⟨_, _, _, _, _, _, _, _, _, _, _, _, gC, gO, gM, gR, gc⟩
  refine lv_aload_n hx hb dL_law_605 rfl (lv_at hl 4 rfl) ?_
  refine k_R (c_VR (As := []) (rest := []) X.1 hG hS hA (c_X3_thrown l G am FM9 A9 B9) ⟨q_ml_RL_83, q_im_X3_thrown, q_sel_X3_thrown, q_ini_RX3, q_code_X3_thrown⟩ hv_X3_thrown (MP.rec hK gM) gM ⟨Nat.le_of_ble_eq_true rfl, Nat.le_of_ble_eq_true rfl⟩ ⟨(by show cells + 3 + (1) ≤ 601024; omega), (by show slots + 18 + (7) ≤ 7293034; omega)⟩ rfl hl.1 rfl (Nat.le_of_ble_eq_true rfl) dL_law_606) ?_
  rw [gk]
  refine lv_iload hx hb dL_law_609 (lv_at hl 1 rfl) ?_
  refine z_icmp_eq (a := k) (b := k) (tgt := 616) hx hb dL_law_611 (by decide) hr hr (fun _ => ?_) (fun z => absurd rfl z)
  refine lv_iload hx hb dL_law_616 (lv_at hl 1 rfl) ?_
  refine z_if_ne (a := k) (tgt := 633) hx hb dL_law_618 (by decide) hr (fun hk0 => ?_) (fun hk0 => ?_)
  · refine lv_goto (tgt := 1467) hx hb dL_law_633 (by decide) ?_
    exact W.widen (by omega) (by omega) (kk H2 locs2 _ gJ hS (lv_sub hl [2, 3, 4, 5, 6] rfl))
  · refine lv_aload_n hx hb dL_law_621 rfl (lv_at hl 3 rfl) ?_
    refine z_iconst hx hb dL_law_622 ?_
    refine z_lald hx hb hK gO dL_law_623 ?_
    refine lv_iload hx hb dL_law_624 (lv_at hl 0 rfl) ?_
    refine lv_i2l (v := (zI r).toInt64) hx hb dL_law_626 rfl ?_
    refine z_lcmp hx hb dL_law_627 ?_
    refine z_if_eq (a := lC O9 ((zI r).toInt64)) (tgt := 633) hx hb dL_law_628 (by decide) (lC_rng _ _) (fun _ => ?_) (fun z => absurd (by rw [gv hk0]; exact lC_self _) z)
    refine lv_goto (tgt := 1467) hx hb dL_law_633 (by decide) ?_
    exact W.widen (by omega) (by omega) (kk H2 locs2 _ gJ hS (lv_sub hl [2, 3, 4, 5, 6] rfl))
set_option maxHeartbeats 2000000 in
theorem w_addRest (X : LX p l s m args c G b L xs) (D : AD ad am oa s.heap.size) (hi : 0 ≤ i ∧ i + 7 < L) (hL : L ≤ 4096) (h : REL F E T P S Av Fv FM A B) (ht : ecT A B (FM 4) ≤ tb) (htb : tb ≤ 1024) (hC : CP G ad F AC E T P S Av Fv H) (hO : OP G oa O H) (hM : MP G am FM A B H) (hA4 : rngI (A 4)) (hS : va_S (AL s) s.heap H locs) (hl : lv_has ls 9 [(4, .int (zI i)), (3, .ref oa), (2, .ref (am 0)), (1, .ref (ad 0)), (0, .ref b)]) (hfc : cells + 1028 ≤ 601024) (hfs : slots + 4121 ≤ 7293034)
    (kk : ∀ (H1 : Heap) (locs1 : List Loc) (ls1 : Array Slot), JI G ad am oa (tb + 2) H1 → va_S (AL s) s.heap H1 locs1 → lv_has ls1 9 [(4, .int (zI i)), (3, .ref oa), (2, .ref (am 0)), (1, .ref (ad 0)), (0, .ref b)] → W p l e room_1 s m args below meth c H1 locs1 (cells + 1028) (slots + 4121) Q (F0 m 1467 ls1 [])) : W p l e room_1 s m args below meth c H locs cells slots Q (F0 m 636 ls []) := by
  have n := h.2.1.nums h.1
  have hx := X.1.1
  have hb := X.1.2.1
  have hG := X.2.1
  have hK := hG.1
  have hA : ∀ q, AL s q → G.2.2 ≤ q := fun q h => by rw [X.2.2.2.2.2.2]; exact h
  refine lv_aload_n hx hb dL_law_636 rfl (lv_at hl 3 rfl) ?_
  refine lv_aload_n hx hb dL_law_637 rfl (lv_at hl 4 rfl) ?_
  refine lv_iload hx hb dL_law_638 (lv_at hl 0 rfl) ?_
  refine z_iconst hx hb dL_law_640 ?_
  refine z_iadd (x := i) (y := 1) hx hb dL_law_641 ?_
  refine z_sld X hS (j := i + 1) (by omega) hL dL_law_642 ?_
  refine lv_aload_n hx hb dL_law_643 rfl (lv_at hl 4 rfl) ?_
  refine lv_iload hx hb dL_law_644 (lv_at hl 0 rfl) ?_
  refine z_iconst hx hb dL_law_646 ?_
  refine z_iadd (x := i) (y := 2) hx hb dL_law_647 ?_
  refine z_sld X hS (j := i + 2) (by omega) hL dL_law_648 ?_
  refine lv_aload_n hx hb dL_law_649 rfl (lv_at hl 4 rfl) ?_
  refine lv_iload hx hb dL_law_650 (lv_at hl 0 rfl) ?_
  refine z_iconst hx hb dL_law_652 ?_
  refine z_iadd (x := i) (y := 3) hx hb dL_law_653 ?_
  refine z_sld X hS (j := i + 3) (by omega) hL dL_law_654 ?_
  refine lv_aload_n hx hb dL_law_655 rfl (lv_at hl 1 rfl) ?_
  refine k_Wi (c_H (As := [.ref (ad 0), .int (zI (sx xs (i + 1))), .int (zI (sx xs (i + 2))), .int (zI (sx xs (i + 3))), .ref oa]) (rest := []) X.1 hG X.2.2.1 hS hA (h_addRest l G oa O ad F AC E T P S Av Fv (sx xs (i + 1)) (sx xs (i + 2)) (sx xs (i + 3)) (sx_rng _ _) (sx_rng _ _) (sx_rng _ _) (by omega) (by omega) h.vok h.hva (by omega) h.hen h.cok H.size X.2.2.2.2.2.1 (hA _ D.2.2) D.ne) ⟨q_ml_RL_107, q_st_L_addRest, q_ini_RL, q_code_L_addRest⟩ hs_L_addRest ⟨hC, hO⟩ ⟨Nat.le_of_ble_eq_true rfl, Nat.le_of_ble_eq_true rfl⟩ ⟨(by show cells + 2 ≤ 601024; omega), (by show slots + 12 ≤ 7293034; omega)⟩ rfl hl.1 rfl (Nat.le_of_ble_eq_true rfl) dL_law_656) hS (D.sh hS.1) (fun k H1 locs1 hq1 hz1 hk1 hS => ?_)
  refine lv_istore (lv' := [(5, .int (zI k)), (4, .int (zI i)), (3, .ref oa), (2, .ref (am 0)), (1, .ref (ad 0)), (0, .ref b)]) hx hb dL_law_659 hl (by decide) rfl (fun ls hl => ?_)
  have hM1 := MP.k9 hM (fun j hj => hk1 (am j) (PP.lt hM hj) (D.amh hj (PP.lt hM hj)))
  refine lv_aload_n hx hb dL_law_661 rfl (lv_at hl 3 rfl) ?_
  refine lv_aload_n hx hb dL_law_662 rfl (lv_at hl 5 rfl) ?_
  refine lv_iload hx hb dL_law_663 (lv_at hl 1 rfl) ?_
  refine z_iconst hx hb dL_law_665 ?_
  refine z_iadd (x := i) (y := 1) hx hb dL_law_666 ?_
  refine z_sld X hS (j := i + 1) (by omega) hL dL_law_667 ?_
  refine lv_aload_n hx hb dL_law_668 rfl (lv_at hl 5 rfl) ?_
  refine lv_iload hx hb dL_law_669 (lv_at hl 1 rfl) ?_
  refine z_iconst hx hb dL_law_671 ?_
  refine z_iadd (x := i) (y := 2) hx hb dL_law_672 ?_
  refine z_sld X hS (j := i + 2) (by omega) hL dL_law_673 ?_
  refine lv_aload_n hx hb dL_law_674 rfl (lv_at hl 5 rfl) ?_
  refine lv_iload hx hb dL_law_675 (lv_at hl 1 rfl) ?_
  refine z_iconst hx hb dL_law_677 ?_
  refine z_iadd (x := i) (y := 3) hx hb dL_law_678 ?_
  refine z_sld X hS (j := i + 3) (by omega) hL dL_law_679 ?_
  refine k_Wi (c_VW (As := [.int (zI (sx xs (i + 1))), .int (zI (sx xs (i + 2))), .int (zI (sx xs (i + 3)))]) (rest := []) X.1 hG hS hA (c_X3_addRest l G am FM A B (sx xs (i + 1)) (sx xs (i + 2)) (sx xs (i + 3)) H1.size (sx_rng _ _) (sx_rng _ _) (sx_rng _ _) h.1) ⟨q_ml_RL_110, q_im_X3_addRest, q_sel_X3_addRest, q_ini_RX3, q_code_X3_addRest⟩ hv_X3_addRest (MP.rec hK hM1) hM1 ⟨Nat.le_of_ble_eq_true rfl, Nat.le_of_ble_eq_true rfl⟩ ⟨(by show cells + 2 + (1) ≤ 601024; omega), (by show slots + 12 + (7) ≤ 7293034; omega)⟩ rfl hl.1 rfl (Nat.le_of_ble_eq_true rfl) dL_law_680) hS (D.sm hS.1) (fun r H2 locs2 hq2 hz2 hk2 hS => ?_)
  refine lv_istore (lv' := [(6, .int (zI r)), (5, .int (zI k)), (4, .int (zI i)), (3, .ref oa), (2, .ref (am 0)), (1, .ref (ad 0)), (0, .ref b)]) hx hb dL_law_683 hl (by decide) rfl (fun ls hl => ?_)
  have hr := HP.kr hq1 (by decide)
  obtain ⟨F9, AC9, E9, T9, P9, S9, Av9, Fv9, O9, FM9, A9, B9, gC, gO, gM, gk, gv, gR, gc⟩ := j_addRest h ht hq1 hq2
  have gC := CP.kept gC (fun k hk => hk2 (ad k) (PP.lt gC hk) (D.adm hk (PP.lt gC hk)))
  have gO : OP G oa O9 H2 := gO.kept (hk2 oa gO.lt (D.oam gO.lt))
  have gJ : JI G ad am oa (tb + 2) H2 := ⟨_, _, _, _, _, _, _, _, _, _, _, _, gC, gO, gM, gR, gc⟩
  refine lv_aload_n hx hb dL_law_685 rfl (lv_at hl 4 rfl) ?_
  refine k_R (c_VR (As := []) (rest := []) X.1 hG hS hA (c_X3_thrown l G am FM9 A9 B9) ⟨q_ml_RL_83, q_im_X3_thrown, q_sel_X3_thrown, q_ini_RX3, q_code_X3_thrown⟩ hv_X3_thrown (MP.rec hK gM) gM ⟨Nat.le_of_ble_eq_true rfl, Nat.le_of_ble_eq_true rfl⟩ ⟨(by show cells + 2 + (1) ≤ 601024; omega), (by show slots + 12 + (7) ≤ 7293034; omega)⟩ rfl hl.1 rfl (Nat.le_of_ble_eq_true rfl) dL_law_686) ?_
  rw [gk]
  refine lv_iload hx hb dL_law_689 (lv_at hl 1 rfl) ?_
  refine z_icmp_eq (a := k) (b := k) (tgt := 696) hx hb dL_law_691 (by decide) hr hr (fun _ => ?_) (fun z => absurd rfl z)
  refine lv_iload hx hb dL_law_696 (lv_at hl 1 rfl) ?_
  refine z_if_ne (a := k) (tgt := 713) hx hb dL_law_698 (by decide) hr (fun hk0 => ?_) (fun hk0 => ?_)
  · refine lv_goto (tgt := 1467) hx hb dL_law_713 (by decide) ?_
    exact W.widen (by omega) (by omega) (kk H2 locs2 _ gJ hS (lv_sub hl [2, 3, 4, 5, 6] rfl))
  · refine lv_aload_n hx hb dL_law_701 rfl (lv_at hl 3 rfl) ?_
    refine z_iconst hx hb dL_law_702 ?_
    refine z_lald hx hb hK gO dL_law_703 ?_
    refine lv_iload hx hb dL_law_704 (lv_at hl 0 rfl) ?_
    refine lv_i2l (v := (zI r).toInt64) hx hb dL_law_706 rfl ?_
    refine z_lcmp hx hb dL_law_707 ?_
    refine z_if_eq (a := lC O9 ((zI r).toInt64)) (tgt := 713) hx hb dL_law_708 (by decide) (lC_rng _ _) (fun _ => ?_) (fun z => absurd (by rw [gv hk0]; exact lC_self _) z)
    refine lv_goto (tgt := 1467) hx hb dL_law_713 (by decide) ?_
    exact W.widen (by omega) (by omega) (kk H2 locs2 _ gJ hS (lv_sub hl [2, 3, 4, 5, 6] rfl))
set_option maxHeartbeats 2000000 in
theorem w_removeLast (X : LX p l s m args c G b L xs) (D : AD ad am oa s.heap.size) (hi : 0 ≤ i ∧ i + 7 < L) (hL : L ≤ 4096) (h : REL F E T P S Av Fv FM A B) (ht : ecT A B (FM 4) ≤ tb) (htb : tb ≤ 1024) (hC : CP G ad F AC E T P S Av Fv H) (hO : OP G oa O H) (hM : MP G am FM A B H) (hA4 : rngI (A 4)) (hS : va_S (AL s) s.heap H locs) (hl : lv_has ls 9 [(4, .int (zI i)), (3, .ref oa), (2, .ref (am 0)), (1, .ref (ad 0)), (0, .ref b)]) (hfc : cells + 1028 ≤ 601024) (hfs : slots + 4121 ≤ 7293034)
    (kk : ∀ (H1 : Heap) (locs1 : List Loc) (ls1 : Array Slot), JI G ad am oa (tb + 2) H1 → va_S (AL s) s.heap H1 locs1 → lv_has ls1 9 [(4, .int (zI i)), (3, .ref oa), (2, .ref (am 0)), (1, .ref (ad 0)), (0, .ref b)] → W p l e room_1 s m args below meth c H1 locs1 (cells + 1028) (slots + 4121) Q (F0 m 1467 ls1 [])) : W p l e room_1 s m args below meth c H locs cells slots Q (F0 m 716 ls []) := by
  have n := h.2.1.nums h.1
  have hx := X.1.1
  have hb := X.1.2.1
  have hG := X.2.1
  have hK := hG.1
  have hA : ∀ q, AL s q → G.2.2 ≤ q := fun q h => by rw [X.2.2.2.2.2.2]; exact h
  refine lv_aload_n hx hb dL_law_716 rfl (lv_at hl 3 rfl) ?_
  refine lv_aload_n hx hb dL_law_717 rfl (lv_at hl 4 rfl) ?_
  refine lv_iload hx hb dL_law_718 (lv_at hl 0 rfl) ?_
  refine z_iconst hx hb dL_law_720 ?_
  refine z_iadd (x := i) (y := 1) hx hb dL_law_721 ?_
  refine z_sld X hS (j := i + 1) (by omega) hL dL_law_722 ?_
  refine lv_aload_n hx hb dL_law_723 rfl (lv_at hl 1 rfl) ?_
  refine k_Wi (c_H (As := [.ref (ad 0), .int (zI (sx xs (i + 1))), .ref oa]) (rest := []) X.1 hG X.2.2.1 hS hA (h_removeLast l G oa O ad F AC E T P S Av Fv (sx xs (i + 1)) (sx_rng _ _) (by omega) (by omega) h.vok h.hva h.cok H.size X.2.2.2.2.2.1 (hA _ D.2.2) D.ne) ⟨q_ml_RL_111, q_st_L_removeLast, q_ini_RL, q_code_L_removeLast⟩ hs_L_removeLast ⟨hC, hO⟩ ⟨Nat.le_of_ble_eq_true rfl, Nat.le_of_ble_eq_true rfl⟩ ⟨(by show cells + 2 ≤ 601024; omega), (by show slots + 12 ≤ 7293034; omega)⟩ rfl hl.1 rfl (Nat.le_of_ble_eq_true rfl) dL_law_724) hS (D.sh hS.1) (fun k H1 locs1 hq1 hz1 hk1 hS => ?_)
  refine lv_istore (lv' := [(5, .int (zI k)), (4, .int (zI i)), (3, .ref oa), (2, .ref (am 0)), (1, .ref (ad 0)), (0, .ref b)]) hx hb dL_law_727 hl (by decide) rfl (fun ls hl => ?_)
  have hM1 := MP.k9 hM (fun j hj => hk1 (am j) (PP.lt hM hj) (D.amh hj (PP.lt hM hj)))
  refine lv_aload_n hx hb dL_law_729 rfl (lv_at hl 3 rfl) ?_
  refine lv_aload_n hx hb dL_law_730 rfl (lv_at hl 5 rfl) ?_
  refine lv_iload hx hb dL_law_731 (lv_at hl 1 rfl) ?_
  refine z_iconst hx hb dL_law_733 ?_
  refine z_iadd (x := i) (y := 1) hx hb dL_law_734 ?_
  refine z_sld X hS (j := i + 1) (by omega) hL dL_law_735 ?_
  refine k_Wi (c_VW (As := [.int (zI (sx xs (i + 1)))]) (rest := []) X.1 hG hS hA (c_X3_removeLast l G am FM A B (sx xs (i + 1)) H1.size (sx_rng _ _) h.1) ⟨q_ml_RL_113, q_im_X3_removeLast, q_sel_X3_removeLast, q_ini_RX3, q_code_X3_removeLast⟩ hv_X3_removeLast (MP.rec hK hM1) hM1 ⟨Nat.le_of_ble_eq_true rfl, Nat.le_of_ble_eq_true rfl⟩ ⟨(by show cells + 2 + (0) ≤ 601024; omega), (by show slots + 12 + (0) ≤ 7293034; omega)⟩ rfl hl.1 rfl (Nat.le_of_ble_eq_true rfl) dL_law_736) hS (D.sm hS.1) (fun r H2 locs2 hq2 hz2 hk2 hS => ?_)
  refine lv_istore (lv' := [(6, .int (zI r)), (5, .int (zI k)), (4, .int (zI i)), (3, .ref oa), (2, .ref (am 0)), (1, .ref (ad 0)), (0, .ref b)]) hx hb dL_law_739 hl (by decide) rfl (fun ls hl => ?_)
  have hr := HP.kr hq1 (by decide)
  obtain ⟨F9, AC9, E9, T9, P9, S9, Av9, Fv9, O9, FM9, A9, B9, gC, gO, gM, gk, gv, gR, gc⟩ := j_removeLast h ht hq1 hq2
  have gC := CP.kept gC (fun k hk => hk2 (ad k) (PP.lt gC hk) (D.adm hk (PP.lt gC hk)))
  have gO : OP G oa O9 H2 := gO.kept (hk2 oa gO.lt (D.oam gO.lt))
  have gJ : JI G ad am oa (tb + 2) H2 := ⟨_, _, _, _, _, _, _, _, _, _, _, _, gC, gO, gM, gR, gc⟩
  refine lv_aload_n hx hb dL_law_741 rfl (lv_at hl 4 rfl) ?_
  refine k_R (c_VR (As := []) (rest := []) X.1 hG hS hA (c_X3_thrown l G am FM9 A9 B9) ⟨q_ml_RL_83, q_im_X3_thrown, q_sel_X3_thrown, q_ini_RX3, q_code_X3_thrown⟩ hv_X3_thrown (MP.rec hK gM) gM ⟨Nat.le_of_ble_eq_true rfl, Nat.le_of_ble_eq_true rfl⟩ ⟨(by show cells + 2 + (0) ≤ 601024; omega), (by show slots + 12 + (0) ≤ 7293034; omega)⟩ rfl hl.1 rfl (Nat.le_of_ble_eq_true rfl) dL_law_742) ?_
  rw [gk]
  refine lv_iload hx hb dL_law_745 (lv_at hl 1 rfl) ?_
  refine z_icmp_eq (a := k) (b := k) (tgt := 752) hx hb dL_law_747 (by decide) hr hr (fun _ => ?_) (fun z => absurd rfl z)
  refine lv_iload hx hb dL_law_752 (lv_at hl 1 rfl) ?_
  refine z_if_ne (a := k) (tgt := 769) hx hb dL_law_754 (by decide) hr (fun hk0 => ?_) (fun hk0 => ?_)
  · refine lv_goto (tgt := 1467) hx hb dL_law_769 (by decide) ?_
    exact W.widen (by omega) (by omega) (kk H2 locs2 _ gJ hS (lv_sub hl [2, 3, 4, 5, 6] rfl))
  · refine lv_aload_n hx hb dL_law_757 rfl (lv_at hl 3 rfl) ?_
    refine z_iconst hx hb dL_law_758 ?_
    refine z_lald hx hb hK gO dL_law_759 ?_
    refine lv_iload hx hb dL_law_760 (lv_at hl 0 rfl) ?_
    refine lv_i2l (v := (zI r).toInt64) hx hb dL_law_762 rfl ?_
    refine z_lcmp hx hb dL_law_763 ?_
    refine z_if_eq (a := lC O9 ((zI r).toInt64)) (tgt := 769) hx hb dL_law_764 (by decide) (lC_rng _ _) (fun _ => ?_) (fun z => absurd (by rw [gv hk0]; exact lC_self _) z)
    refine lv_goto (tgt := 1467) hx hb dL_law_769 (by decide) ?_
    exact W.widen (by omega) (by omega) (kk H2 locs2 _ gJ hS (lv_sub hl [2, 3, 4, 5, 6] rfl))
set_option maxHeartbeats 2000000 in
theorem w_tie (X : LX p l s m args c G b L xs) (D : AD ad am oa s.heap.size) (hi : 0 ≤ i ∧ i + 7 < L) (hL : L ≤ 4096) (h : REL F E T P S Av Fv FM A B) (ht : ecT A B (FM 4) ≤ tb) (htb : tb ≤ 1024) (hC : CP G ad F AC E T P S Av Fv H) (hO : OP G oa O H) (hM : MP G am FM A B H) (hA4 : rngI (A 4)) (hS : va_S (AL s) s.heap H locs) (hl : lv_has ls 9 [(4, .int (zI i)), (3, .ref oa), (2, .ref (am 0)), (1, .ref (ad 0)), (0, .ref b)]) (hfc : cells + 1028 ≤ 601024) (hfs : slots + 4121 ≤ 7293034)
    (kk : ∀ (H1 : Heap) (locs1 : List Loc) (ls1 : Array Slot), JI G ad am oa (tb + 2) H1 → va_S (AL s) s.heap H1 locs1 → lv_has ls1 9 [(4, .int (zI i)), (3, .ref oa), (2, .ref (am 0)), (1, .ref (ad 0)), (0, .ref b)] → W p l e room_1 s m args below meth c H1 locs1 (cells + 1028) (slots + 4121) Q (F0 m 1467 ls1 [])) : W p l e room_1 s m args below meth c H locs cells slots Q (F0 m 772 ls []) := by
  have n := h.2.1.nums h.1
  have hx := X.1.1
  have hb := X.1.2.1
  have hG := X.2.1
  have hK := hG.1
  have hA : ∀ q, AL s q → G.2.2 ≤ q := fun q h => by rw [X.2.2.2.2.2.2]; exact h
  refine lv_aload_n hx hb dL_law_772 rfl (lv_at hl 3 rfl) ?_
  refine lv_aload_n hx hb dL_law_773 rfl (lv_at hl 4 rfl) ?_
  refine lv_iload hx hb dL_law_774 (lv_at hl 0 rfl) ?_
  refine z_iconst hx hb dL_law_776 ?_
  refine z_iadd (x := i) (y := 1) hx hb dL_law_777 ?_
  refine z_sld X hS (j := i + 1) (by omega) hL dL_law_778 ?_
  refine lv_aload_n hx hb dL_law_779 rfl (lv_at hl 4 rfl) ?_
  refine lv_iload hx hb dL_law_780 (lv_at hl 0 rfl) ?_
  refine z_iconst hx hb dL_law_782 ?_
  refine z_iadd (x := i) (y := 2) hx hb dL_law_783 ?_
  refine z_sld X hS (j := i + 2) (by omega) hL dL_law_784 ?_
  refine lv_aload_n hx hb dL_law_785 rfl (lv_at hl 4 rfl) ?_
  refine lv_iload hx hb dL_law_786 (lv_at hl 0 rfl) ?_
  refine z_iconst hx hb dL_law_788 ?_
  refine z_iadd (x := i) (y := 3) hx hb dL_law_789 ?_
  refine z_sld X hS (j := i + 3) (by omega) hL dL_law_790 ?_
  refine z_nz hx hb (sx_rng _ _) dL_law_791 dL_law_794 dL_law_795 dL_law_798 ?_
  refine lv_aload_n hx hb dL_law_799 rfl (lv_at hl 1 rfl) ?_
  refine k_Wi (c_H (As := [.ref (ad 0), .int (zI (sx xs (i + 1))), .int (zI (sx xs (i + 2))), .int (zI (bI (¬ sx xs (i + 3) = 0))), .ref oa]) (rest := []) X.1 hG X.2.2.1 hS hA (h_tie l G oa O ad F AC E T P S Av Fv (sx xs (i + 1)) (sx xs (i + 2)) (bI (¬ sx xs (i + 3) = 0)) (sx_rng _ _) (sx_rng _ _) (bI_rng _) (bI_01 _) (by omega) (by omega) h.vok h.hva h.cok H.size X.2.2.2.2.2.1 (hA _ D.2.2) D.ne) ⟨q_ml_RL_114, q_st_L_tie, q_ini_RL, q_code_L_tie⟩ hs_L_tie ⟨hC, hO⟩ ⟨Nat.le_of_ble_eq_true rfl, Nat.le_of_ble_eq_true rfl⟩ ⟨(by show cells + 3 ≤ 601024; omega), (by show slots + 18 ≤ 7293034; omega)⟩ rfl hl.1 rfl (Nat.le_of_ble_eq_true rfl) dL_law_800) hS (D.sh hS.1) (fun k H1 locs1 hq1 hz1 hk1 hS => ?_)
  refine lv_istore (lv' := [(5, .int (zI k)), (4, .int (zI i)), (3, .ref oa), (2, .ref (am 0)), (1, .ref (ad 0)), (0, .ref b)]) hx hb dL_law_803 hl (by decide) rfl (fun ls hl => ?_)
  have hM1 := MP.k9 hM (fun j hj => hk1 (am j) (PP.lt hM hj) (D.amh hj (PP.lt hM hj)))
  refine lv_aload_n hx hb dL_law_805 rfl (lv_at hl 3 rfl) ?_
  refine lv_aload_n hx hb dL_law_806 rfl (lv_at hl 5 rfl) ?_
  refine lv_iload hx hb dL_law_807 (lv_at hl 1 rfl) ?_
  refine z_iconst hx hb dL_law_809 ?_
  refine z_iadd (x := i) (y := 1) hx hb dL_law_810 ?_
  refine z_sld X hS (j := i + 1) (by omega) hL dL_law_811 ?_
  refine lv_aload_n hx hb dL_law_812 rfl (lv_at hl 5 rfl) ?_
  refine lv_iload hx hb dL_law_813 (lv_at hl 1 rfl) ?_
  refine z_iconst hx hb dL_law_815 ?_
  refine z_iadd (x := i) (y := 2) hx hb dL_law_816 ?_
  refine z_sld X hS (j := i + 2) (by omega) hL dL_law_817 ?_
  refine lv_aload_n hx hb dL_law_818 rfl (lv_at hl 5 rfl) ?_
  refine lv_iload hx hb dL_law_819 (lv_at hl 1 rfl) ?_
  refine z_iconst hx hb dL_law_821 ?_
  refine z_iadd (x := i) (y := 3) hx hb dL_law_822 ?_
  refine z_sld X hS (j := i + 3) (by omega) hL dL_law_823 ?_
  refine z_nz hx hb (sx_rng _ _) dL_law_824 dL_law_827 dL_law_828 dL_law_831 ?_
  refine k_Wi (c_VW (As := [.int (zI (sx xs (i + 1))), .int (zI (sx xs (i + 2))), .int (zI (bI (¬ sx xs (i + 3) = 0)))]) (rest := []) X.1 hG hS hA (c_X3_tie l G am FM A B (sx xs (i + 1)) (sx xs (i + 2)) (bI (¬ sx xs (i + 3) = 0)) H1.size (sx_rng _ _) (sx_rng _ _) (bI_rng _) (bI_01 _) h.1) ⟨q_ml_RL_117, q_im_X3_tie, q_sel_X3_tie, q_ini_RX3, q_code_X3_tie⟩ hv_X3_tie (MP.rec hK hM1) hM1 ⟨Nat.le_of_ble_eq_true rfl, Nat.le_of_ble_eq_true rfl⟩ ⟨(by show cells + 3 + (0) ≤ 601024; omega), (by show slots + 18 + (0) ≤ 7293034; omega)⟩ rfl hl.1 rfl (Nat.le_of_ble_eq_true rfl) dL_law_832) hS (D.sm hS.1) (fun r H2 locs2 hq2 hz2 hk2 hS => ?_)
  refine lv_istore (lv' := [(6, .int (zI r)), (5, .int (zI k)), (4, .int (zI i)), (3, .ref oa), (2, .ref (am 0)), (1, .ref (ad 0)), (0, .ref b)]) hx hb dL_law_835 hl (by decide) rfl (fun ls hl => ?_)
  have hr := HP.kr hq1 (by decide)
  have r01 : r = 0 ∨ r = 1 := by
    rcases hq2 with ⟨-, z, -⟩ | ⟨-, -, z, -⟩ | ⟨-, -, z, -⟩
    · exact Or.inl z
    · exact Or.inl z
    · rw [z]; exact bI_01 _
  obtain ⟨F9, AC9, E9, T9, P9, S9, Av9, Fv9, O9, FM9, A9, B9, gC, gO, gM, gk, gv, gR, gc⟩ := j_tie (bI_01 _) h ht hq1 hq2
  have gC := CP.kept gC (fun k hk => hk2 (ad k) (PP.lt gC hk) (D.adm hk (PP.lt gC hk)))
  have gO : OP G oa O9 H2 := gO.kept (hk2 oa gO.lt (D.oam gO.lt))
  have gJ : JI G ad am oa (tb + 2) H2 := ⟨_, _, _, _, _, _, _, _, _, _, _, _, gC, gO, gM, gR, gc⟩
  refine lv_aload_n hx hb dL_law_837 rfl (lv_at hl 4 rfl) ?_
  refine k_R (c_VR (As := []) (rest := []) X.1 hG hS hA (c_X3_thrown l G am FM9 A9 B9) ⟨q_ml_RL_83, q_im_X3_thrown, q_sel_X3_thrown, q_ini_RX3, q_code_X3_thrown⟩ hv_X3_thrown (MP.rec hK gM) gM ⟨Nat.le_of_ble_eq_true rfl, Nat.le_of_ble_eq_true rfl⟩ ⟨(by show cells + 3 + (0) ≤ 601024; omega), (by show slots + 18 + (0) ≤ 7293034; omega)⟩ rfl hl.1 rfl (Nat.le_of_ble_eq_true rfl) dL_law_838) ?_
  rw [gk]
  refine lv_iload hx hb dL_law_841 (lv_at hl 1 rfl) ?_
  refine z_icmp_eq (a := k) (b := k) (tgt := 848) hx hb dL_law_843 (by decide) hr hr (fun _ => ?_) (fun z => absurd rfl z)
  refine lv_iload hx hb dL_law_848 (lv_at hl 1 rfl) ?_
  refine z_if_ne (a := k) (tgt := 872) hx hb dL_law_850 (by decide) hr (fun hk0 => ?_) (fun hk0 => ?_)
  · refine lv_goto (tgt := 1467) hx hb dL_law_872 (by decide) ?_
    exact W.widen (by omega) (by omega) (kk H2 locs2 _ gJ hS (lv_sub hl [2, 3, 4, 5, 6] rfl))
  · refine lv_aload_n hx hb dL_law_853 rfl (lv_at hl 3 rfl) ?_
    refine z_iconst hx hb dL_law_854 ?_
    refine z_lald hx hb hK gO dL_law_855 ?_
    refine lv_iload hx hb dL_law_856 (lv_at hl 0 rfl) ?_
    refine z_if_eq (a := r) (tgt := 865) hx hb dL_law_858 (by decide) (by omega) (fun h9 => ?_) (fun h9 => ?_)
    · refine lv_lconst (v := 0) hx hb dL_law_865 rfl ?_
      refine z_lcmp hx hb dL_law_866 ?_
      refine z_if_eq (a := lC O9 0) (tgt := 872) hx hb dL_law_867 (by decide) (lC_rng _ _) (fun _ => ?_) (fun z => absurd (by rw [gv hk0, h9]; exact lC_self _) z)
      refine lv_goto (tgt := 1467) hx hb dL_law_872 (by decide) ?_
      exact W.widen (by omega) (by omega) (kk H2 locs2 _ gJ hS (lv_sub hl [2, 3, 4, 5, 6] rfl))
    · refine lv_lconst (v := 1) hx hb dL_law_861 rfl ?_
      refine lv_goto (tgt := 866) hx hb dL_law_862 (by decide) ?_
      refine z_lcmp hx hb dL_law_866 ?_
      refine z_if_eq (a := lC O9 1) (tgt := 872) hx hb dL_law_867 (by decide) (lC_rng _ _) (fun _ => ?_) (fun z => absurd (by rw [gv hk0, (show r = 1 by omega)]; exact lC_self _) z)
      refine lv_goto (tgt := 1467) hx hb dL_law_872 (by decide) ?_
      exact W.widen (by omega) (by omega) (kk H2 locs2 _ gJ hS (lv_sub hl [2, 3, 4, 5, 6] rfl))
set_option maxHeartbeats 2000000 in
theorem w_element (X : LX p l s m args c G b L xs) (D : AD ad am oa s.heap.size) (hi : 0 ≤ i ∧ i + 7 < L) (hL : L ≤ 4096) (h : REL F E T P S Av Fv FM A B) (ht : ecT A B (FM 4) ≤ tb) (htb : tb ≤ 1024) (hC : CP G ad F AC E T P S Av Fv H) (hO : OP G oa O H) (hM : MP G am FM A B H) (hA4 : rngI (A 4)) (hS : va_S (AL s) s.heap H locs) (hl : lv_has ls 9 [(4, .int (zI i)), (3, .ref oa), (2, .ref (am 0)), (1, .ref (ad 0)), (0, .ref b)]) (hfc : cells + 1028 ≤ 601024) (hfs : slots + 4121 ≤ 7293034)
    (kk : ∀ (H1 : Heap) (locs1 : List Loc) (ls1 : Array Slot), JI G ad am oa (tb + 2) H1 → va_S (AL s) s.heap H1 locs1 → lv_has ls1 9 [(4, .int (zI i)), (3, .ref oa), (2, .ref (am 0)), (1, .ref (ad 0)), (0, .ref b)] → W p l e room_1 s m args below meth c H1 locs1 (cells + 1028) (slots + 4121) Q (F0 m 1467 ls1 [])) : W p l e room_1 s m args below meth c H locs cells slots Q (F0 m 875 ls []) := by
  have n := h.2.1.nums h.1
  have hx := X.1.1
  have hb := X.1.2.1
  have hG := X.2.1
  have hK := hG.1
  have hA : ∀ q, AL s q → G.2.2 ≤ q := fun q h => by rw [X.2.2.2.2.2.2]; exact h
  refine lv_aload_n hx hb dL_law_875 rfl (lv_at hl 3 rfl) ?_
  refine lv_aload_n hx hb dL_law_876 rfl (lv_at hl 4 rfl) ?_
  refine lv_iload hx hb dL_law_877 (lv_at hl 0 rfl) ?_
  refine z_iconst hx hb dL_law_879 ?_
  refine z_iadd (x := i) (y := 1) hx hb dL_law_880 ?_
  refine z_sld X hS (j := i + 1) (by omega) hL dL_law_881 ?_
  refine lv_aload_n hx hb dL_law_882 rfl (lv_at hl 4 rfl) ?_
  refine lv_iload hx hb dL_law_883 (lv_at hl 0 rfl) ?_
  refine z_iconst hx hb dL_law_885 ?_
  refine z_iadd (x := i) (y := 2) hx hb dL_law_886 ?_
  refine z_sld X hS (j := i + 2) (by omega) hL dL_law_887 ?_
  refine lv_aload_n hx hb dL_law_888 rfl (lv_at hl 4 rfl) ?_
  refine lv_iload hx hb dL_law_889 (lv_at hl 0 rfl) ?_
  refine z_iconst hx hb dL_law_891 ?_
  refine z_iadd (x := i) (y := 3) hx hb dL_law_892 ?_
  refine z_sld X hS (j := i + 3) (by omega) hL dL_law_893 ?_
  refine lv_aload_n hx hb dL_law_894 rfl (lv_at hl 1 rfl) ?_
  refine k_Wi (c_H (As := [.ref (ad 0), .int (zI (sx xs (i + 1))), .int (zI (sx xs (i + 2))), .int (zI (sx xs (i + 3))), .ref oa]) (rest := []) X.1 hG X.2.2.1 hS hA (h_element l G oa O ad F AC E T P S Av Fv (sx xs (i + 1)) (sx xs (i + 2)) (sx xs (i + 3)) (sx_rng _ _) (sx_rng _ _) (sx_rng _ _) h.cok H.size X.2.2.2.2.2.1 (hA _ D.2.2) D.ne) ⟨q_ml_RL_118, q_st_L_element, q_ini_RL, q_code_L_element⟩ hs_L_element ⟨hC, hO⟩ ⟨Nat.le_of_ble_eq_true rfl, Nat.le_of_ble_eq_true rfl⟩ ⟨(by show cells + 3 ≤ 601024; omega), (by show slots + 18 ≤ 7293034; omega)⟩ rfl hl.1 rfl (Nat.le_of_ble_eq_true rfl) dL_law_895) hS (D.sh hS.1) (fun k H1 locs1 hq1 hz1 hk1 hS => ?_)
  refine lv_istore (lv' := [(5, .int (zI k)), (4, .int (zI i)), (3, .ref oa), (2, .ref (am 0)), (1, .ref (ad 0)), (0, .ref b)]) hx hb dL_law_898 hl (by decide) rfl (fun ls hl => ?_)
  have hM1 := MP.k9 hM (fun j hj => hk1 (am j) (PP.lt hM hj) (D.amh hj (PP.lt hM hj)))
  refine lv_aload_n hx hb dL_law_900 rfl (lv_at hl 3 rfl) ?_
  refine lv_aload_n hx hb dL_law_901 rfl (lv_at hl 5 rfl) ?_
  refine lv_iload hx hb dL_law_902 (lv_at hl 1 rfl) ?_
  refine z_iconst hx hb dL_law_904 ?_
  refine z_iadd (x := i) (y := 1) hx hb dL_law_905 ?_
  refine z_sld X hS (j := i + 1) (by omega) hL dL_law_906 ?_
  refine lv_aload_n hx hb dL_law_907 rfl (lv_at hl 5 rfl) ?_
  refine lv_iload hx hb dL_law_908 (lv_at hl 1 rfl) ?_
  refine z_iconst hx hb dL_law_910 ?_
  refine z_iadd (x := i) (y := 2) hx hb dL_law_911 ?_
  refine z_sld X hS (j := i + 2) (by omega) hL dL_law_912 ?_
  refine lv_aload_n hx hb dL_law_913 rfl (lv_at hl 5 rfl) ?_
  refine lv_iload hx hb dL_law_914 (lv_at hl 1 rfl) ?_
  refine z_iconst hx hb dL_law_916 ?_
  refine z_iadd (x := i) (y := 3) hx hb dL_law_917 ?_
  refine z_sld X hS (j := i + 3) (by omega) hL dL_law_918 ?_
  refine k_Wi (c_VW (As := [.int (zI (sx xs (i + 1))), .int (zI (sx xs (i + 2))), .int (zI (sx xs (i + 3)))]) (rest := []) X.1 hG hS hA (c_X3_element l G am FM A B (sx xs (i + 1)) (sx xs (i + 2)) (sx xs (i + 3)) H1.size (sx_rng _ _) (sx_rng _ _) (sx_rng _ _) h.1) ⟨q_ml_RL_120, q_im_X3_element, q_sel_X3_element, q_ini_RX3, q_code_X3_element⟩ hv_X3_element (MP.rec hK hM1) hM1 ⟨Nat.le_of_ble_eq_true rfl, Nat.le_of_ble_eq_true rfl⟩ ⟨(by show cells + 3 + (0) ≤ 601024; omega), (by show slots + 18 + (0) ≤ 7293034; omega)⟩ rfl hl.1 rfl (Nat.le_of_ble_eq_true rfl) dL_law_919) hS (D.sm hS.1) (fun r H2 locs2 hq2 hz2 hk2 hS => ?_)
  refine lv_istore (lv' := [(6, .int (zI r)), (5, .int (zI k)), (4, .int (zI i)), (3, .ref oa), (2, .ref (am 0)), (1, .ref (ad 0)), (0, .ref b)]) hx hb dL_law_922 hl (by decide) rfl (fun ls hl => ?_)
  have hr := HP.kr hq1 (by decide)
  obtain ⟨F9, AC9, E9, T9, P9, S9, Av9, Fv9, O9, FM9, A9, B9, gC, gO, gM, gk, gv, gR, gc⟩ := j_element h ht hq1 hq2
  have gC := CP.kept gC (fun k hk => hk2 (ad k) (PP.lt gC hk) (D.adm hk (PP.lt gC hk)))
  have gO : OP G oa O9 H2 := gO.kept (hk2 oa gO.lt (D.oam gO.lt))
  have gJ : JI G ad am oa (tb + 2) H2 := ⟨_, _, _, _, _, _, _, _, _, _, _, _, gC, gO, gM, gR, gc⟩
  refine lv_aload_n hx hb dL_law_924 rfl (lv_at hl 4 rfl) ?_
  refine k_R (c_VR (As := []) (rest := []) X.1 hG hS hA (c_X3_thrown l G am FM9 A9 B9) ⟨q_ml_RL_83, q_im_X3_thrown, q_sel_X3_thrown, q_ini_RX3, q_code_X3_thrown⟩ hv_X3_thrown (MP.rec hK gM) gM ⟨Nat.le_of_ble_eq_true rfl, Nat.le_of_ble_eq_true rfl⟩ ⟨(by show cells + 3 + (0) ≤ 601024; omega), (by show slots + 18 + (0) ≤ 7293034; omega)⟩ rfl hl.1 rfl (Nat.le_of_ble_eq_true rfl) dL_law_925) ?_
  rw [gk]
  refine lv_iload hx hb dL_law_928 (lv_at hl 1 rfl) ?_
  refine z_icmp_eq (a := k) (b := k) (tgt := 935) hx hb dL_law_930 (by decide) hr hr (fun _ => ?_) (fun z => absurd rfl z)
  refine lv_iload hx hb dL_law_935 (lv_at hl 1 rfl) ?_
  refine z_if_ne (a := k) (tgt := 952) hx hb dL_law_937 (by decide) hr (fun hk0 => ?_) (fun hk0 => ?_)
  · refine lv_goto (tgt := 1467) hx hb dL_law_952 (by decide) ?_
    exact W.widen (by omega) (by omega) (kk H2 locs2 _ gJ hS (lv_sub hl [2, 3, 4, 5, 6] rfl))
  · refine lv_aload_n hx hb dL_law_940 rfl (lv_at hl 3 rfl) ?_
    refine z_iconst hx hb dL_law_941 ?_
    refine z_lald hx hb hK gO dL_law_942 ?_
    refine lv_iload hx hb dL_law_943 (lv_at hl 0 rfl) ?_
    refine lv_i2l (v := (zI r).toInt64) hx hb dL_law_945 rfl ?_
    refine z_lcmp hx hb dL_law_946 ?_
    refine z_if_eq (a := lC O9 ((zI r).toInt64)) (tgt := 952) hx hb dL_law_947 (by decide) (lC_rng _ _) (fun _ => ?_) (fun z => absurd (by rw [gv hk0]; exact lC_self _) z)
    refine lv_goto (tgt := 1467) hx hb dL_law_952 (by decide) ?_
    exact W.widen (by omega) (by omega) (kk H2 locs2 _ gJ hS (lv_sub hl [2, 3, 4, 5, 6] rfl))
set_option maxHeartbeats 2000000 in
theorem w_pitch (X : LX p l s m args c G b L xs) (D : AD ad am oa s.heap.size) (hi : 0 ≤ i ∧ i + 7 < L) (hL : L ≤ 4096) (h : REL F E T P S Av Fv FM A B) (ht : ecT A B (FM 4) ≤ tb) (htb : tb ≤ 1024) (hC : CP G ad F AC E T P S Av Fv H) (hO : OP G oa O H) (hM : MP G am FM A B H) (hA4 : rngI (A 4)) (hS : va_S (AL s) s.heap H locs) (hl : lv_has ls 9 [(4, .int (zI i)), (3, .ref oa), (2, .ref (am 0)), (1, .ref (ad 0)), (0, .ref b)]) (hfc : cells + 1028 ≤ 601024) (hfs : slots + 4121 ≤ 7293034)
    (kk : ∀ (H1 : Heap) (locs1 : List Loc) (ls1 : Array Slot), JI G ad am oa (tb + 2) H1 → va_S (AL s) s.heap H1 locs1 → lv_has ls1 9 [(4, .int (zI i)), (3, .ref oa), (2, .ref (am 0)), (1, .ref (ad 0)), (0, .ref b)] → W p l e room_1 s m args below meth c H1 locs1 (cells + 1028) (slots + 4121) Q (F0 m 1467 ls1 [])) : W p l e room_1 s m args below meth c H locs cells slots Q (F0 m 955 ls []) := by
  have n := h.2.1.nums h.1
  have hx := X.1.1
  have hb := X.1.2.1
  have hG := X.2.1
  have hK := hG.1
  have hA : ∀ q, AL s q → G.2.2 ≤ q := fun q h => by rw [X.2.2.2.2.2.2]; exact h
  refine lv_aload_n hx hb dL_law_955 rfl (lv_at hl 3 rfl) ?_
  refine lv_aload_n hx hb dL_law_956 rfl (lv_at hl 4 rfl) ?_
  refine lv_iload hx hb dL_law_957 (lv_at hl 0 rfl) ?_
  refine z_iconst hx hb dL_law_959 ?_
  refine z_iadd (x := i) (y := 1) hx hb dL_law_960 ?_
  refine z_sld X hS (j := i + 1) (by omega) hL dL_law_961 ?_
  refine lv_aload_n hx hb dL_law_962 rfl (lv_at hl 4 rfl) ?_
  refine lv_iload hx hb dL_law_963 (lv_at hl 0 rfl) ?_
  refine z_iconst hx hb dL_law_965 ?_
  refine z_iadd (x := i) (y := 2) hx hb dL_law_966 ?_
  refine z_sld X hS (j := i + 2) (by omega) hL dL_law_967 ?_
  refine lv_aload_n hx hb dL_law_968 rfl (lv_at hl 4 rfl) ?_
  refine lv_iload hx hb dL_law_969 (lv_at hl 0 rfl) ?_
  refine z_iconst hx hb dL_law_971 ?_
  refine z_iadd (x := i) (y := 3) hx hb dL_law_972 ?_
  refine z_sld X hS (j := i + 3) (by omega) hL dL_law_973 ?_
  refine lv_aload_n hx hb dL_law_974 rfl (lv_at hl 1 rfl) ?_
  refine k_Wi (c_H (As := [.ref (ad 0), .int (zI (sx xs (i + 1))), .int (zI (sx xs (i + 2))), .int (zI (sx xs (i + 3))), .ref oa]) (rest := []) X.1 hG X.2.2.1 hS hA (h_pitch l G oa O ad F AC E T P S Av Fv (sx xs (i + 1)) (sx xs (i + 2)) (sx xs (i + 3)) (sx_rng _ _) (sx_rng _ _) (sx_rng _ _) h.vok h.cok H.size X.2.2.2.2.2.1 (hA _ D.2.2) D.ne) ⟨q_ml_RL_121, q_st_L_pitch, q_ini_RL, q_code_L_pitch⟩ hs_L_pitch ⟨hC, hO⟩ ⟨Nat.le_of_ble_eq_true rfl, Nat.le_of_ble_eq_true rfl⟩ ⟨(by show cells + 3 ≤ 601024; omega), (by show slots + 18 ≤ 7293034; omega)⟩ rfl hl.1 rfl (Nat.le_of_ble_eq_true rfl) dL_law_975) hS (D.sh hS.1) (fun k H1 locs1 hq1 hz1 hk1 hS => ?_)
  refine lv_istore (lv' := [(5, .int (zI k)), (4, .int (zI i)), (3, .ref oa), (2, .ref (am 0)), (1, .ref (ad 0)), (0, .ref b)]) hx hb dL_law_978 hl (by decide) rfl (fun ls hl => ?_)
  have hM1 := MP.k9 hM (fun j hj => hk1 (am j) (PP.lt hM hj) (D.amh hj (PP.lt hM hj)))
  refine lv_aload_n hx hb dL_law_980 rfl (lv_at hl 3 rfl) ?_
  refine lv_aload_n hx hb dL_law_981 rfl (lv_at hl 5 rfl) ?_
  refine lv_iload hx hb dL_law_982 (lv_at hl 1 rfl) ?_
  refine z_iconst hx hb dL_law_984 ?_
  refine z_iadd (x := i) (y := 1) hx hb dL_law_985 ?_
  refine z_sld X hS (j := i + 1) (by omega) hL dL_law_986 ?_
  refine lv_aload_n hx hb dL_law_987 rfl (lv_at hl 5 rfl) ?_
  refine lv_iload hx hb dL_law_988 (lv_at hl 1 rfl) ?_
  refine z_iconst hx hb dL_law_990 ?_
  refine z_iadd (x := i) (y := 2) hx hb dL_law_991 ?_
  refine z_sld X hS (j := i + 2) (by omega) hL dL_law_992 ?_
  refine lv_aload_n hx hb dL_law_993 rfl (lv_at hl 5 rfl) ?_
  refine lv_iload hx hb dL_law_994 (lv_at hl 1 rfl) ?_
  refine z_iconst hx hb dL_law_996 ?_
  refine z_iadd (x := i) (y := 3) hx hb dL_law_997 ?_
  refine z_sld X hS (j := i + 3) (by omega) hL dL_law_998 ?_
  refine k_Wi (c_VW (As := [.int (zI (sx xs (i + 1))), .int (zI (sx xs (i + 2))), .int (zI (sx xs (i + 3)))]) (rest := []) X.1 hG hS hA (c_X3_pitch l G am FM A B (sx xs (i + 1)) (sx xs (i + 2)) (sx xs (i + 3)) H1.size (sx_rng _ _) (sx_rng _ _) (sx_rng _ _) h.1) ⟨q_ml_RL_123, q_im_X3_pitch, q_sel_X3_pitch, q_ini_RX3, q_code_X3_pitch⟩ hv_X3_pitch (MP.rec hK hM1) hM1 ⟨Nat.le_of_ble_eq_true rfl, Nat.le_of_ble_eq_true rfl⟩ ⟨(by show cells + 3 + (0) ≤ 601024; omega), (by show slots + 18 + (0) ≤ 7293034; omega)⟩ rfl hl.1 rfl (Nat.le_of_ble_eq_true rfl) dL_law_999) hS (D.sm hS.1) (fun r H2 locs2 hq2 hz2 hk2 hS => ?_)
  refine lv_istore (lv' := [(6, .int (zI r)), (5, .int (zI k)), (4, .int (zI i)), (3, .ref oa), (2, .ref (am 0)), (1, .ref (ad 0)), (0, .ref b)]) hx hb dL_law_1002 hl (by decide) rfl (fun ls hl => ?_)
  have hr := HP.kr hq1 (by decide)
  obtain ⟨F9, AC9, E9, T9, P9, S9, Av9, Fv9, O9, FM9, A9, B9, gC, gO, gM, gk, gv, gR, gc⟩ := j_pitch h ht hq1 hq2
  have gC := CP.kept gC (fun k hk => hk2 (ad k) (PP.lt gC hk) (D.adm hk (PP.lt gC hk)))
  have gO : OP G oa O9 H2 := gO.kept (hk2 oa gO.lt (D.oam gO.lt))
  have gJ : JI G ad am oa (tb + 2) H2 := ⟨_, _, _, _, _, _, _, _, _, _, _, _, gC, gO, gM, gR, gc⟩
  refine lv_aload_n hx hb dL_law_1004 rfl (lv_at hl 4 rfl) ?_
  refine k_R (c_VR (As := []) (rest := []) X.1 hG hS hA (c_X3_thrown l G am FM9 A9 B9) ⟨q_ml_RL_83, q_im_X3_thrown, q_sel_X3_thrown, q_ini_RX3, q_code_X3_thrown⟩ hv_X3_thrown (MP.rec hK gM) gM ⟨Nat.le_of_ble_eq_true rfl, Nat.le_of_ble_eq_true rfl⟩ ⟨(by show cells + 3 + (0) ≤ 601024; omega), (by show slots + 18 + (0) ≤ 7293034; omega)⟩ rfl hl.1 rfl (Nat.le_of_ble_eq_true rfl) dL_law_1005) ?_
  rw [gk]
  refine lv_iload hx hb dL_law_1008 (lv_at hl 1 rfl) ?_
  refine z_icmp_eq (a := k) (b := k) (tgt := 1015) hx hb dL_law_1010 (by decide) hr hr (fun _ => ?_) (fun z => absurd rfl z)
  refine lv_iload hx hb dL_law_1015 (lv_at hl 1 rfl) ?_
  refine z_if_ne (a := k) (tgt := 1032) hx hb dL_law_1017 (by decide) hr (fun hk0 => ?_) (fun hk0 => ?_)
  · refine lv_goto (tgt := 1467) hx hb dL_law_1032 (by decide) ?_
    exact W.widen (by omega) (by omega) (kk H2 locs2 _ gJ hS (lv_sub hl [2, 3, 4, 5, 6] rfl))
  · refine lv_aload_n hx hb dL_law_1020 rfl (lv_at hl 3 rfl) ?_
    refine z_iconst hx hb dL_law_1021 ?_
    refine z_lald hx hb hK gO dL_law_1022 ?_
    refine lv_iload hx hb dL_law_1023 (lv_at hl 0 rfl) ?_
    refine lv_i2l (v := (zI r).toInt64) hx hb dL_law_1025 rfl ?_
    refine z_lcmp hx hb dL_law_1026 ?_
    refine z_if_eq (a := lC O9 ((zI r).toInt64)) (tgt := 1032) hx hb dL_law_1027 (by decide) (lC_rng _ _) (fun _ => ?_) (fun z => absurd (by rw [gv hk0]; exact lC_self _) z)
    refine lv_goto (tgt := 1467) hx hb dL_law_1032 (by decide) ?_
    exact W.widen (by omega) (by omega) (kk H2 locs2 _ gJ hS (lv_sub hl [2, 3, 4, 5, 6] rfl))
set_option maxHeartbeats 2000000 in
theorem w_voice (X : LX p l s m args c G b L xs) (D : AD ad am oa s.heap.size) (hi : 0 ≤ i ∧ i + 7 < L) (hL : L ≤ 4096) (h : REL F E T P S Av Fv FM A B) (ht : ecT A B (FM 4) ≤ tb) (htb : tb ≤ 1024) (hC : CP G ad F AC E T P S Av Fv H) (hO : OP G oa O H) (hM : MP G am FM A B H) (hA4 : rngI (A 4)) (hS : va_S (AL s) s.heap H locs) (hl : lv_has ls 9 [(4, .int (zI i)), (3, .ref oa), (2, .ref (am 0)), (1, .ref (ad 0)), (0, .ref b)]) (hfc : cells + 1028 ≤ 601024) (hfs : slots + 4121 ≤ 7293034)
    (kk : ∀ (H1 : Heap) (locs1 : List Loc) (ls1 : Array Slot), JI G ad am oa (tb + 2) H1 → va_S (AL s) s.heap H1 locs1 → lv_has ls1 9 [(4, .int (zI i)), (3, .ref oa), (2, .ref (am 0)), (1, .ref (ad 0)), (0, .ref b)] → W p l e room_1 s m args below meth c H1 locs1 (cells + 1028) (slots + 4121) Q (F0 m 1467 ls1 [])) : W p l e room_1 s m args below meth c H locs cells slots Q (F0 m 1035 ls []) := by
  have n := h.2.1.nums h.1
  have hx := X.1.1
  have hb := X.1.2.1
  have hG := X.2.1
  have hK := hG.1
  have hA : ∀ q, AL s q → G.2.2 ≤ q := fun q h => by rw [X.2.2.2.2.2.2]; exact h
  refine lv_aload_n hx hb dL_law_1035 rfl (lv_at hl 3 rfl) ?_
  refine lv_aload_n hx hb dL_law_1036 rfl (lv_at hl 4 rfl) ?_
  refine lv_iload hx hb dL_law_1037 (lv_at hl 0 rfl) ?_
  refine z_iconst hx hb dL_law_1039 ?_
  refine z_iadd (x := i) (y := 1) hx hb dL_law_1040 ?_
  refine z_sld X hS (j := i + 1) (by omega) hL dL_law_1041 ?_
  refine lv_aload_n hx hb dL_law_1042 rfl (lv_at hl 4 rfl) ?_
  refine lv_iload hx hb dL_law_1043 (lv_at hl 0 rfl) ?_
  refine z_iconst hx hb dL_law_1045 ?_
  refine z_iadd (x := i) (y := 2) hx hb dL_law_1046 ?_
  refine z_sld X hS (j := i + 2) (by omega) hL dL_law_1047 ?_
  refine lv_aload_n hx hb dL_law_1048 rfl (lv_at hl 1 rfl) ?_
  refine k_Wi (c_H (As := [.ref (ad 0), .int (zI (sx xs (i + 1))), .int (zI (sx xs (i + 2))), .ref oa]) (rest := []) X.1 hG X.2.2.1 hS hA (h_voice l G oa O ad F AC E T P S Av Fv (sx xs (i + 1)) (sx xs (i + 2)) (sx_rng _ _) (sx_rng _ _) h.cok H.size X.2.2.2.2.2.1 (hA _ D.2.2) D.ne) ⟨q_ml_RL_124, q_st_L_voice, q_ini_RL, q_code_L_voice⟩ hs_L_voice ⟨hC, hO⟩ ⟨Nat.le_of_ble_eq_true rfl, Nat.le_of_ble_eq_true rfl⟩ ⟨(by show cells + 2 ≤ 601024; omega), (by show slots + 12 ≤ 7293034; omega)⟩ rfl hl.1 rfl (Nat.le_of_ble_eq_true rfl) dL_law_1049) hS (D.sh hS.1) (fun k H1 locs1 hq1 hz1 hk1 hS => ?_)
  refine lv_istore (lv' := [(5, .int (zI k)), (4, .int (zI i)), (3, .ref oa), (2, .ref (am 0)), (1, .ref (ad 0)), (0, .ref b)]) hx hb dL_law_1052 hl (by decide) rfl (fun ls hl => ?_)
  have hM1 := MP.k9 hM (fun j hj => hk1 (am j) (PP.lt hM hj) (D.amh hj (PP.lt hM hj)))
  refine lv_aload_n hx hb dL_law_1054 rfl (lv_at hl 3 rfl) ?_
  refine lv_aload_n hx hb dL_law_1055 rfl (lv_at hl 5 rfl) ?_
  refine lv_iload hx hb dL_law_1056 (lv_at hl 1 rfl) ?_
  refine z_iconst hx hb dL_law_1058 ?_
  refine z_iadd (x := i) (y := 1) hx hb dL_law_1059 ?_
  refine z_sld X hS (j := i + 1) (by omega) hL dL_law_1060 ?_
  refine lv_aload_n hx hb dL_law_1061 rfl (lv_at hl 5 rfl) ?_
  refine lv_iload hx hb dL_law_1062 (lv_at hl 1 rfl) ?_
  refine z_iconst hx hb dL_law_1064 ?_
  refine z_iadd (x := i) (y := 2) hx hb dL_law_1065 ?_
  refine z_sld X hS (j := i + 2) (by omega) hL dL_law_1066 ?_
  refine k_Wi (c_VW (As := [.int (zI (sx xs (i + 1))), .int (zI (sx xs (i + 2)))]) (rest := []) X.1 hG hS hA (c_X3_voice l G am FM A B (sx xs (i + 1)) (sx xs (i + 2)) H1.size (sx_rng _ _) (sx_rng _ _) h.1) ⟨q_ml_RL_126, q_im_X3_voice, q_sel_X3_voice, q_ini_RX3, q_code_X3_voice⟩ hv_X3_voice (MP.rec hK hM1) hM1 ⟨Nat.le_of_ble_eq_true rfl, Nat.le_of_ble_eq_true rfl⟩ ⟨(by show cells + 2 + (0) ≤ 601024; omega), (by show slots + 12 + (0) ≤ 7293034; omega)⟩ rfl hl.1 rfl (Nat.le_of_ble_eq_true rfl) dL_law_1067) hS (D.sm hS.1) (fun r H2 locs2 hq2 hz2 hk2 hS => ?_)
  refine lv_istore (lv' := [(6, .int (zI r)), (5, .int (zI k)), (4, .int (zI i)), (3, .ref oa), (2, .ref (am 0)), (1, .ref (ad 0)), (0, .ref b)]) hx hb dL_law_1070 hl (by decide) rfl (fun ls hl => ?_)
  have hr := HP.kr hq1 (by decide)
  obtain ⟨F9, AC9, E9, T9, P9, S9, Av9, Fv9, O9, FM9, A9, B9, gC, gO, gM, gk, gv, gR, gc⟩ := j_voice h ht hq1 hq2
  have gC := CP.kept gC (fun k hk => hk2 (ad k) (PP.lt gC hk) (D.adm hk (PP.lt gC hk)))
  have gO : OP G oa O9 H2 := gO.kept (hk2 oa gO.lt (D.oam gO.lt))
  have gJ : JI G ad am oa (tb + 2) H2 := ⟨_, _, _, _, _, _, _, _, _, _, _, _, gC, gO, gM, gR, gc⟩
  refine lv_aload_n hx hb dL_law_1072 rfl (lv_at hl 4 rfl) ?_
  refine k_R (c_VR (As := []) (rest := []) X.1 hG hS hA (c_X3_thrown l G am FM9 A9 B9) ⟨q_ml_RL_83, q_im_X3_thrown, q_sel_X3_thrown, q_ini_RX3, q_code_X3_thrown⟩ hv_X3_thrown (MP.rec hK gM) gM ⟨Nat.le_of_ble_eq_true rfl, Nat.le_of_ble_eq_true rfl⟩ ⟨(by show cells + 2 + (0) ≤ 601024; omega), (by show slots + 12 + (0) ≤ 7293034; omega)⟩ rfl hl.1 rfl (Nat.le_of_ble_eq_true rfl) dL_law_1073) ?_
  rw [gk]
  refine lv_iload hx hb dL_law_1076 (lv_at hl 1 rfl) ?_
  refine z_icmp_eq (a := k) (b := k) (tgt := 1083) hx hb dL_law_1078 (by decide) hr hr (fun _ => ?_) (fun z => absurd rfl z)
  refine lv_iload hx hb dL_law_1083 (lv_at hl 1 rfl) ?_
  refine z_if_ne (a := k) (tgt := 1100) hx hb dL_law_1085 (by decide) hr (fun hk0 => ?_) (fun hk0 => ?_)
  · refine lv_goto (tgt := 1467) hx hb dL_law_1100 (by decide) ?_
    exact W.widen (by omega) (by omega) (kk H2 locs2 _ gJ hS (lv_sub hl [2, 3, 4, 5, 6] rfl))
  · refine lv_aload_n hx hb dL_law_1088 rfl (lv_at hl 3 rfl) ?_
    refine z_iconst hx hb dL_law_1089 ?_
    refine z_lald hx hb hK gO dL_law_1090 ?_
    refine lv_iload hx hb dL_law_1091 (lv_at hl 0 rfl) ?_
    refine lv_i2l (v := (zI r).toInt64) hx hb dL_law_1093 rfl ?_
    refine z_lcmp hx hb dL_law_1094 ?_
    refine z_if_eq (a := lC O9 ((zI r).toInt64)) (tgt := 1100) hx hb dL_law_1095 (by decide) (lC_rng _ _) (fun _ => ?_) (fun z => absurd (by rw [gv hk0]; exact lC_self _) z)
    refine lv_goto (tgt := 1467) hx hb dL_law_1100 (by decide) ?_
    exact W.widen (by omega) (by omega) (kk H2 locs2 _ gJ hS (lv_sub hl [2, 3, 4, 5, 6] rfl))
set_option maxHeartbeats 2000000 in
theorem w_transpose (X : LX p l s m args c G b L xs) (D : AD ad am oa s.heap.size) (hi : 0 ≤ i ∧ i + 7 < L) (hL : L ≤ 4096) (h : REL F E T P S Av Fv FM A B) (ht : ecT A B (FM 4) ≤ tb) (htb : tb ≤ 1024) (hC : CP G ad F AC E T P S Av Fv H) (hO : OP G oa O H) (hM : MP G am FM A B H) (hA4 : rngI (A 4)) (hS : va_S (AL s) s.heap H locs) (hl : lv_has ls 9 [(4, .int (zI i)), (3, .ref oa), (2, .ref (am 0)), (1, .ref (ad 0)), (0, .ref b)]) (hfc : cells + 1028 ≤ 601024) (hfs : slots + 4121 ≤ 7293034)
    (kk : ∀ (H1 : Heap) (locs1 : List Loc) (ls1 : Array Slot), JI G ad am oa (tb + 2) H1 → va_S (AL s) s.heap H1 locs1 → lv_has ls1 9 [(4, .int (zI i)), (3, .ref oa), (2, .ref (am 0)), (1, .ref (ad 0)), (0, .ref b)] → W p l e room_1 s m args below meth c H1 locs1 (cells + 1028) (slots + 4121) Q (F0 m 1467 ls1 [])) : W p l e room_1 s m args below meth c H locs cells slots Q (F0 m 1103 ls []) := by
  have n := h.2.1.nums h.1
  have hx := X.1.1
  have hb := X.1.2.1
  have hG := X.2.1
  have hK := hG.1
  have hA : ∀ q, AL s q → G.2.2 ≤ q := fun q h => by rw [X.2.2.2.2.2.2]; exact h
  refine lv_aload_n hx hb dL_law_1103 rfl (lv_at hl 3 rfl) ?_
  refine lv_aload_n hx hb dL_law_1104 rfl (lv_at hl 4 rfl) ?_
  refine lv_iload hx hb dL_law_1105 (lv_at hl 0 rfl) ?_
  refine z_iconst hx hb dL_law_1107 ?_
  refine z_iadd (x := i) (y := 1) hx hb dL_law_1108 ?_
  refine z_sld X hS (j := i + 1) (by omega) hL dL_law_1109 ?_
  refine lv_aload_n hx hb dL_law_1110 rfl (lv_at hl 4 rfl) ?_
  refine lv_iload hx hb dL_law_1111 (lv_at hl 0 rfl) ?_
  refine z_iconst hx hb dL_law_1113 ?_
  refine z_iadd (x := i) (y := 2) hx hb dL_law_1114 ?_
  refine z_sld X hS (j := i + 2) (by omega) hL dL_law_1115 ?_
  refine lv_aload_n hx hb dL_law_1116 rfl (lv_at hl 1 rfl) ?_
  refine k_Wi (c_H (As := [.ref (ad 0), .int (zI (sx xs (i + 1))), .int (zI (sx xs (i + 2))), .ref oa]) (rest := []) X.1 hG X.2.2.1 hS hA (h_transpose l G oa O ad F AC E T P S Av Fv (sx xs (i + 1)) (sx xs (i + 2)) (sx_rng _ _) (sx_rng _ _) (by omega) (by omega) h.vok h.hva h.cok H.size X.2.2.2.2.2.1 (hA _ D.2.2) D.ne) ⟨q_ml_RL_127, q_st_L_transpose, q_ini_RL, q_code_L_transpose⟩ hs_L_transpose ⟨hC, hO⟩ ⟨Nat.le_of_ble_eq_true rfl, Nat.le_of_ble_eq_true rfl⟩ ⟨(by show cells + 1 ≤ 601024; omega), (by show slots + 6 ≤ 7293034; omega)⟩ rfl hl.1 rfl (Nat.le_of_ble_eq_true rfl) dL_law_1117) hS (D.sh hS.1) (fun k H1 locs1 hq1 hz1 hk1 hS => ?_)
  refine lv_istore (lv' := [(5, .int (zI k)), (4, .int (zI i)), (3, .ref oa), (2, .ref (am 0)), (1, .ref (ad 0)), (0, .ref b)]) hx hb dL_law_1120 hl (by decide) rfl (fun ls hl => ?_)
  have hM1 := MP.k9 hM (fun j hj => hk1 (am j) (PP.lt hM hj) (D.amh hj (PP.lt hM hj)))
  refine lv_aload_n hx hb dL_law_1122 rfl (lv_at hl 3 rfl) ?_
  refine lv_aload_n hx hb dL_law_1123 rfl (lv_at hl 5 rfl) ?_
  refine lv_iload hx hb dL_law_1124 (lv_at hl 1 rfl) ?_
  refine z_iconst hx hb dL_law_1126 ?_
  refine z_iadd (x := i) (y := 1) hx hb dL_law_1127 ?_
  refine z_sld X hS (j := i + 1) (by omega) hL dL_law_1128 ?_
  refine lv_aload_n hx hb dL_law_1129 rfl (lv_at hl 5 rfl) ?_
  refine lv_iload hx hb dL_law_1130 (lv_at hl 1 rfl) ?_
  refine z_iconst hx hb dL_law_1132 ?_
  refine z_iadd (x := i) (y := 2) hx hb dL_law_1133 ?_
  refine z_sld X hS (j := i + 2) (by omega) hL dL_law_1134 ?_
  refine k_Wi (c_VW (As := [.int (zI (sx xs (i + 1))), .int (zI (sx xs (i + 2)))]) (rest := []) X.1 hG hS hA (c_X3_transpose l G am FM A B (sx xs (i + 1)) (sx xs (i + 2)) H1.size (sx_rng _ _) (sx_rng _ _) h.1) ⟨q_ml_RL_129, q_im_X3_transpose, q_sel_X3_transpose, q_ini_RX3, q_code_X3_transpose⟩ hv_X3_transpose (MP.rec hK hM1) hM1 ⟨Nat.le_of_ble_eq_true rfl, Nat.le_of_ble_eq_true rfl⟩ ⟨(by show cells + 1 + (0) ≤ 601024; omega), (by show slots + 6 + (0) ≤ 7293034; omega)⟩ rfl hl.1 rfl (Nat.le_of_ble_eq_true rfl) dL_law_1135) hS (D.sm hS.1) (fun r H2 locs2 hq2 hz2 hk2 hS => ?_)
  refine lv_istore (lv' := [(6, .int (zI r)), (5, .int (zI k)), (4, .int (zI i)), (3, .ref oa), (2, .ref (am 0)), (1, .ref (ad 0)), (0, .ref b)]) hx hb dL_law_1138 hl (by decide) rfl (fun ls hl => ?_)
  have hr := HP.kr hq1 (by decide)
  obtain ⟨F9, AC9, E9, T9, P9, S9, Av9, Fv9, O9, FM9, A9, B9, gC, gO, gM, gk, gv, gR, gc⟩ := j_transpose h ht hq1 hq2
  have gC := CP.kept gC (fun k hk => hk2 (ad k) (PP.lt gC hk) (D.adm hk (PP.lt gC hk)))
  have gO : OP G oa O9 H2 := gO.kept (hk2 oa gO.lt (D.oam gO.lt))
  have gJ : JI G ad am oa (tb + 2) H2 := ⟨_, _, _, _, _, _, _, _, _, _, _, _, gC, gO, gM, gR, gc⟩
  refine lv_aload_n hx hb dL_law_1140 rfl (lv_at hl 4 rfl) ?_
  refine k_R (c_VR (As := []) (rest := []) X.1 hG hS hA (c_X3_thrown l G am FM9 A9 B9) ⟨q_ml_RL_83, q_im_X3_thrown, q_sel_X3_thrown, q_ini_RX3, q_code_X3_thrown⟩ hv_X3_thrown (MP.rec hK gM) gM ⟨Nat.le_of_ble_eq_true rfl, Nat.le_of_ble_eq_true rfl⟩ ⟨(by show cells + 1 + (0) ≤ 601024; omega), (by show slots + 6 + (0) ≤ 7293034; omega)⟩ rfl hl.1 rfl (Nat.le_of_ble_eq_true rfl) dL_law_1141) ?_
  rw [gk]
  refine lv_iload hx hb dL_law_1144 (lv_at hl 1 rfl) ?_
  refine z_icmp_eq (a := k) (b := k) (tgt := 1151) hx hb dL_law_1146 (by decide) hr hr (fun _ => ?_) (fun z => absurd rfl z)
  refine lv_iload hx hb dL_law_1151 (lv_at hl 1 rfl) ?_
  refine z_if_ne (a := k) (tgt := 1168) hx hb dL_law_1153 (by decide) hr (fun hk0 => ?_) (fun hk0 => ?_)
  · refine lv_goto (tgt := 1467) hx hb dL_law_1168 (by decide) ?_
    exact W.widen (by omega) (by omega) (kk H2 locs2 _ gJ hS (lv_sub hl [2, 3, 4, 5, 6] rfl))
  · refine lv_aload_n hx hb dL_law_1156 rfl (lv_at hl 3 rfl) ?_
    refine z_iconst hx hb dL_law_1157 ?_
    refine z_lald hx hb hK gO dL_law_1158 ?_
    refine lv_iload hx hb dL_law_1159 (lv_at hl 0 rfl) ?_
    refine lv_i2l (v := (zI r).toInt64) hx hb dL_law_1161 rfl ?_
    refine z_lcmp hx hb dL_law_1162 ?_
    refine z_if_eq (a := lC O9 ((zI r).toInt64)) (tgt := 1168) hx hb dL_law_1163 (by decide) (lC_rng _ _) (fun _ => ?_) (fun z => absurd (by rw [gv hk0]; exact lC_self _) z)
    refine lv_goto (tgt := 1467) hx hb dL_law_1168 (by decide) ?_
    exact W.widen (by omega) (by omega) (kk H2 locs2 _ gJ hS (lv_sub hl [2, 3, 4, 5, 6] rfl))
set_option maxHeartbeats 2000000 in
theorem w_faults (X : LX p l s m args c G b L xs) (D : AD ad am oa s.heap.size) (hi : 0 ≤ i ∧ i + 7 < L) (hL : L ≤ 4096) (h : REL F E T P S Av Fv FM A B) (ht : ecT A B (FM 4) ≤ tb) (htb : tb ≤ 1024) (hC : CP G ad F AC E T P S Av Fv H) (hO : OP G oa O H) (hM : MP G am FM A B H) (hA4 : rngI (A 4)) (hS : va_S (AL s) s.heap H locs) (hl : lv_has ls 9 [(4, .int (zI i)), (3, .ref oa), (2, .ref (am 0)), (1, .ref (ad 0)), (0, .ref b)]) (hfc : cells + 1028 ≤ 601024) (hfs : slots + 4121 ≤ 7293034)
    (kk : ∀ (H1 : Heap) (locs1 : List Loc) (ls1 : Array Slot), JI G ad am oa (tb + 2) H1 → va_S (AL s) s.heap H1 locs1 → lv_has ls1 9 [(4, .int (zI i)), (3, .ref oa), (2, .ref (am 0)), (1, .ref (ad 0)), (0, .ref b)] → W p l e room_1 s m args below meth c H1 locs1 (cells + 1028) (slots + 4121) Q (F0 m 1467 ls1 [])) : W p l e room_1 s m args below meth c H locs cells slots Q (F0 m 1171 ls []) := by
  have n := h.2.1.nums h.1
  have hx := X.1.1
  have hb := X.1.2.1
  have hG := X.2.1
  have hK := hG.1
  have hA : ∀ q, AL s q → G.2.2 ≤ q := fun q h => by rw [X.2.2.2.2.2.2]; exact h
  refine lv_aload_n hx hb dL_law_1171 rfl (lv_at hl 3 rfl) ?_
  refine k_R (c_VR (As := []) (rest := []) X.1 hG hS hA (c_X2_faults l G ad F AC E T P S Av Fv (by omega) h.vok h.hvm h.hvt h.cok) ⟨q_ml_RL_130, q_im_X2_faults, q_sel_X2_faults, q_ini_RX2, q_code_X2_faults⟩ hv_X2_faults (CP.rec hK hC) hC ⟨Nat.le_of_ble_eq_true rfl, Nat.le_of_ble_eq_true rfl⟩ ⟨(by show cells ≤ 601024; omega), (by show slots ≤ 7293034; omega)⟩ rfl hl.1 rfl (Nat.le_of_ble_eq_true rfl) dL_law_1172) ?_
  refine lv_aload_n hx hb dL_law_1175 rfl (lv_at hl 2 rfl) ?_
  refine k_Wi (c_VW (As := []) (rest := [.int (zI (fcF F T Fv (F 0)))]) X.1 hG hS hA (c_X3_faults l G am FM A B H.size h.1) ⟨q_ml_RL_133, q_im_X3_faults, q_sel_X3_faults, q_ini_RX3, q_code_X3_faults⟩ hv_X3_faults (MP.rec hK hM) hM ⟨Nat.le_of_ble_eq_true rfl, Nat.le_of_ble_eq_true rfl⟩ ⟨(by show cells + (0) ≤ 601024; omega), (by show slots + (0) ≤ 7293034; omega)⟩ rfl hl.1 rfl (Nat.le_of_ble_eq_true rfl) dL_law_1176) hS (D.sm hS.1) (fun r H2 locs2 hq2 hz2 hk2 hS => ?_)
  obtain ⟨⟨F9, AC9, E9, T9, P9, S9, Av9, Fv9, O9, FM9, A9, B9, gC, gO, gM, gk, gv, gR, gc⟩, ge⟩ := j_faults h ht hC hO hq2
  have gC := CP.kept gC (fun k hk => hk2 (ad k) (PP.lt gC hk) (D.adm hk (PP.lt gC hk)))
  have gO : OP G oa O9 H2 := gO.kept (hk2 oa gO.lt (D.oam gO.lt))
  have gJ : JI G ad am oa (tb + 2) H2 := ⟨_, _, _, _, _, _, _, _, _, _, _, _, gC, gO, gM, gR, gc⟩
  rw [ge]
  rw [← zI_of (zI r)]
  refine z_icmp_eq (a := (zI r).toInt) (b := (zI r).toInt) (tgt := 1467) hx hb dL_law_1179 (by decide) (zI_rng _) (zI_rng _) (fun _ => ?_) (fun z => absurd rfl z)
  exact W.widen (by omega) (by omega) (kk H2 locs2 _ gJ hS (lv_sub hl [0, 1, 2, 3, 4] rfl))
set_option maxHeartbeats 2000000 in
theorem w_interval (X : LX p l s m args c G b L xs) (D : AD ad am oa s.heap.size) (hi : 0 ≤ i ∧ i + 7 < L) (hL : L ≤ 4096) (h : REL F E T P S Av Fv FM A B) (ht : ecT A B (FM 4) ≤ tb) (htb : tb ≤ 1024) (hC : CP G ad F AC E T P S Av Fv H) (hO : OP G oa O H) (hM : MP G am FM A B H) (hA4 : rngI (A 4)) (hS : va_S (AL s) s.heap H locs) (hl : lv_has ls 9 [(4, .int (zI i)), (3, .ref oa), (2, .ref (am 0)), (1, .ref (ad 0)), (0, .ref b)]) (hfc : cells + 1028 ≤ 601024) (hfs : slots + 4121 ≤ 7293034)
    (kk : ∀ (H1 : Heap) (locs1 : List Loc) (ls1 : Array Slot), JI G ad am oa (tb + 2) H1 → va_S (AL s) s.heap H1 locs1 → lv_has ls1 9 [(4, .int (zI i)), (3, .ref oa), (2, .ref (am 0)), (1, .ref (ad 0)), (0, .ref b)] → W p l e room_1 s m args below meth c H1 locs1 (cells + 1028) (slots + 4121) Q (F0 m 1467 ls1 [])) : W p l e room_1 s m args below meth c H locs cells slots Q (F0 m 1184 ls []) := by
  have n := h.2.1.nums h.1
  have hx := X.1.1
  have hb := X.1.2.1
  have hG := X.2.1
  have hK := hG.1
  have hA : ∀ q, AL s q → G.2.2 ≤ q := fun q h => by rw [X.2.2.2.2.2.2]; exact h
  refine lv_aload_n hx hb dL_law_1184 rfl (lv_at hl 3 rfl) ?_
  refine lv_aload_n hx hb dL_law_1185 rfl (lv_at hl 4 rfl) ?_
  refine lv_iload hx hb dL_law_1186 (lv_at hl 0 rfl) ?_
  refine z_iconst hx hb dL_law_1188 ?_
  refine z_iadd (x := i) (y := 1) hx hb dL_law_1189 ?_
  refine z_sld X hS (j := i + 1) (by omega) hL dL_law_1190 ?_
  refine lv_aload_n hx hb dL_law_1191 rfl (lv_at hl 4 rfl) ?_
  refine lv_iload hx hb dL_law_1192 (lv_at hl 0 rfl) ?_
  refine z_iconst hx hb dL_law_1194 ?_
  refine z_iadd (x := i) (y := 2) hx hb dL_law_1195 ?_
  refine z_sld X hS (j := i + 2) (by omega) hL dL_law_1196 ?_
  refine lv_aload_n hx hb dL_law_1197 rfl (lv_at hl 4 rfl) ?_
  refine lv_iload hx hb dL_law_1198 (lv_at hl 0 rfl) ?_
  refine z_iconst hx hb dL_law_1200 ?_
  refine z_iadd (x := i) (y := 3) hx hb dL_law_1201 ?_
  refine z_sld X hS (j := i + 3) (by omega) hL dL_law_1202 ?_
  refine lv_aload_n hx hb dL_law_1203 rfl (lv_at hl 1 rfl) ?_
  refine k_Wi (c_H (As := [.ref (ad 0), .int (zI (sx xs (i + 1))), .int (zI (sx xs (i + 2))), .int (zI (sx xs (i + 3))), .ref oa]) (rest := []) X.1 hG X.2.2.1 hS hA (h_interval l G oa O ad F AC E T P S Av Fv (sx xs (i + 1)) (sx xs (i + 2)) (sx xs (i + 3)) (sx_rng _ _) (sx_rng _ _) (sx_rng _ _) h.vok h.cok H.size X.2.2.2.2.2.1 (hA _ D.2.2) D.ne) ⟨q_ml_RL_134, q_st_L_interval, q_ini_RL, q_code_L_interval⟩ hs_L_interval ⟨hC, hO⟩ ⟨Nat.le_of_ble_eq_true rfl, Nat.le_of_ble_eq_true rfl⟩ ⟨(by show cells + 3 ≤ 601024; omega), (by show slots + 18 ≤ 7293034; omega)⟩ rfl hl.1 rfl (Nat.le_of_ble_eq_true rfl) dL_law_1204) hS (D.sh hS.1) (fun k H1 locs1 hq1 hz1 hk1 hS => ?_)
  refine lv_istore (lv' := [(5, .int (zI k)), (4, .int (zI i)), (3, .ref oa), (2, .ref (am 0)), (1, .ref (ad 0)), (0, .ref b)]) hx hb dL_law_1207 hl (by decide) rfl (fun ls hl => ?_)
  have hM1 := MP.k9 hM (fun j hj => hk1 (am j) (PP.lt hM hj) (D.amh hj (PP.lt hM hj)))
  refine lv_aload_n hx hb dL_law_1209 rfl (lv_at hl 3 rfl) ?_
  refine lv_aload_n hx hb dL_law_1210 rfl (lv_at hl 5 rfl) ?_
  refine lv_iload hx hb dL_law_1211 (lv_at hl 1 rfl) ?_
  refine z_iconst hx hb dL_law_1213 ?_
  refine z_iadd (x := i) (y := 1) hx hb dL_law_1214 ?_
  refine z_sld X hS (j := i + 1) (by omega) hL dL_law_1215 ?_
  refine lv_aload_n hx hb dL_law_1216 rfl (lv_at hl 5 rfl) ?_
  refine lv_iload hx hb dL_law_1217 (lv_at hl 1 rfl) ?_
  refine z_iconst hx hb dL_law_1219 ?_
  refine z_iadd (x := i) (y := 2) hx hb dL_law_1220 ?_
  refine z_sld X hS (j := i + 2) (by omega) hL dL_law_1221 ?_
  refine lv_aload_n hx hb dL_law_1222 rfl (lv_at hl 5 rfl) ?_
  refine lv_iload hx hb dL_law_1223 (lv_at hl 1 rfl) ?_
  refine z_iconst hx hb dL_law_1225 ?_
  refine z_iadd (x := i) (y := 3) hx hb dL_law_1226 ?_
  refine z_sld X hS (j := i + 3) (by omega) hL dL_law_1227 ?_
  refine k_Wi (c_VW (As := [.int (zI (sx xs (i + 1))), .int (zI (sx xs (i + 2))), .int (zI (sx xs (i + 3)))]) (rest := []) X.1 hG hS hA (c_X3_interval l G am FM A B (sx xs (i + 1)) (sx xs (i + 2)) (sx xs (i + 3)) H1.size (sx_rng _ _) (sx_rng _ _) (sx_rng _ _) h.1) ⟨q_ml_RL_136, q_im_X3_interval, q_sel_X3_interval, q_ini_RX3, q_code_X3_interval⟩ hv_X3_interval (MP.rec hK hM1) hM1 ⟨Nat.le_of_ble_eq_true rfl, Nat.le_of_ble_eq_true rfl⟩ ⟨(by show cells + 3 + (0) ≤ 601024; omega), (by show slots + 18 + (0) ≤ 7293034; omega)⟩ rfl hl.1 rfl (Nat.le_of_ble_eq_true rfl) dL_law_1228) hS (D.sm hS.1) (fun r H2 locs2 hq2 hz2 hk2 hS => ?_)
  refine lv_istore (lv' := [(6, .int (zI r)), (5, .int (zI k)), (4, .int (zI i)), (3, .ref oa), (2, .ref (am 0)), (1, .ref (ad 0)), (0, .ref b)]) hx hb dL_law_1231 hl (by decide) rfl (fun ls hl => ?_)
  have hr := HP.kr hq1 (by decide)
  obtain ⟨F9, AC9, E9, T9, P9, S9, Av9, Fv9, O9, FM9, A9, B9, gC, gO, gM, gk, gv, gR, gc⟩ := j_interval h ht hq1 hq2
  have gC := CP.kept gC (fun k hk => hk2 (ad k) (PP.lt gC hk) (D.adm hk (PP.lt gC hk)))
  have gO : OP G oa O9 H2 := gO.kept (hk2 oa gO.lt (D.oam gO.lt))
  have gJ : JI G ad am oa (tb + 2) H2 := ⟨_, _, _, _, _, _, _, _, _, _, _, _, gC, gO, gM, gR, gc⟩
  refine lv_aload_n hx hb dL_law_1233 rfl (lv_at hl 4 rfl) ?_
  refine k_R (c_VR (As := []) (rest := []) X.1 hG hS hA (c_X3_thrown l G am FM9 A9 B9) ⟨q_ml_RL_83, q_im_X3_thrown, q_sel_X3_thrown, q_ini_RX3, q_code_X3_thrown⟩ hv_X3_thrown (MP.rec hK gM) gM ⟨Nat.le_of_ble_eq_true rfl, Nat.le_of_ble_eq_true rfl⟩ ⟨(by show cells + 3 + (0) ≤ 601024; omega), (by show slots + 18 + (0) ≤ 7293034; omega)⟩ rfl hl.1 rfl (Nat.le_of_ble_eq_true rfl) dL_law_1234) ?_
  rw [gk]
  refine lv_iload hx hb dL_law_1237 (lv_at hl 1 rfl) ?_
  refine z_icmp_eq (a := k) (b := k) (tgt := 1244) hx hb dL_law_1239 (by decide) hr hr (fun _ => ?_) (fun z => absurd rfl z)
  refine lv_iload hx hb dL_law_1244 (lv_at hl 1 rfl) ?_
  refine z_if_ne (a := k) (tgt := 1261) hx hb dL_law_1246 (by decide) hr (fun hk0 => ?_) (fun hk0 => ?_)
  · refine lv_goto (tgt := 1467) hx hb dL_law_1261 (by decide) ?_
    exact W.widen (by omega) (by omega) (kk H2 locs2 _ gJ hS (lv_sub hl [2, 3, 4, 5, 6] rfl))
  · refine lv_aload_n hx hb dL_law_1249 rfl (lv_at hl 3 rfl) ?_
    refine z_iconst hx hb dL_law_1250 ?_
    refine z_lald hx hb hK gO dL_law_1251 ?_
    refine lv_iload hx hb dL_law_1252 (lv_at hl 0 rfl) ?_
    refine lv_i2l (v := (zI r).toInt64) hx hb dL_law_1254 rfl ?_
    refine z_lcmp hx hb dL_law_1255 ?_
    refine z_if_eq (a := lC O9 ((zI r).toInt64)) (tgt := 1261) hx hb dL_law_1256 (by decide) (lC_rng _ _) (fun _ => ?_) (fun z => absurd (by rw [gv hk0]; exact lC_self _) z)
    refine lv_goto (tgt := 1467) hx hb dL_law_1261 (by decide) ?_
    exact W.widen (by omega) (by omega) (kk H2 locs2 _ gJ hS (lv_sub hl [2, 3, 4, 5, 6] rfl))
set_option maxHeartbeats 2000000 in
theorem w_event (X : LX p l s m args c G b L xs) (D : AD ad am oa s.heap.size) (hi : 0 ≤ i ∧ i + 7 < L) (hL : L ≤ 4096) (h : REL F E T P S Av Fv FM A B) (ht : ecT A B (FM 4) ≤ tb) (htb : tb ≤ 1024) (hC : CP G ad F AC E T P S Av Fv H) (hO : OP G oa O H) (hM : MP G am FM A B H) (hA4 : rngI (A 4)) (hS : va_S (AL s) s.heap H locs) (hl : lv_has ls 9 [(4, .int (zI i)), (3, .ref oa), (2, .ref (am 0)), (1, .ref (ad 0)), (0, .ref b)]) (hfc : cells + 1028 ≤ 601024) (hfs : slots + 4121 ≤ 7293034)
    (kk : ∀ (H1 : Heap) (locs1 : List Loc) (ls1 : Array Slot), JI G ad am oa (tb + 2) H1 → va_S (AL s) s.heap H1 locs1 → lv_has ls1 9 [(4, .int (zI i)), (3, .ref oa), (2, .ref (am 0)), (1, .ref (ad 0)), (0, .ref b)] → W p l e room_1 s m args below meth c H1 locs1 (cells + 1028) (slots + 4121) Q (F0 m 1467 ls1 [])) : W p l e room_1 s m args below meth c H locs cells slots Q (F0 m 1264 ls []) := by
  have n := h.2.1.nums h.1
  have hx := X.1.1
  have hb := X.1.2.1
  have hG := X.2.1
  have hK := hG.1
  have hA : ∀ q, AL s q → G.2.2 ≤ q := fun q h => by rw [X.2.2.2.2.2.2]; exact h
  refine lv_aload_n hx hb dL_law_1264 rfl (lv_at hl 3 rfl) ?_
  refine lv_aload_n hx hb dL_law_1265 rfl (lv_at hl 4 rfl) ?_
  refine lv_iload hx hb dL_law_1266 (lv_at hl 0 rfl) ?_
  refine z_iconst hx hb dL_law_1268 ?_
  refine z_iadd (x := i) (y := 1) hx hb dL_law_1269 ?_
  refine z_sld X hS (j := i + 1) (by omega) hL dL_law_1270 ?_
  refine lv_aload_n hx hb dL_law_1271 rfl (lv_at hl 4 rfl) ?_
  refine lv_iload hx hb dL_law_1272 (lv_at hl 0 rfl) ?_
  refine z_iconst hx hb dL_law_1274 ?_
  refine z_iadd (x := i) (y := 2) hx hb dL_law_1275 ?_
  refine z_sld X hS (j := i + 2) (by omega) hL dL_law_1276 ?_
  refine lv_aload_n hx hb dL_law_1277 rfl (lv_at hl 1 rfl) ?_
  refine k_Wi (c_H (As := [.ref (ad 0), .int (zI (sx xs (i + 1))), .int (zI (sx xs (i + 2))), .ref oa]) (rest := []) X.1 hG X.2.2.1 hS hA (h_event l G oa O ad F AC E T P S Av Fv (sx xs (i + 1)) (sx xs (i + 2)) (sx_rng _ _) (sx_rng _ _) h.2.1.2.2.2.2 h.hvs h.cok H.size X.2.2.2.2.2.1 (hA _ D.2.2) D.ne) ⟨q_ml_RL_137, q_st_L_event, q_ini_RL, q_code_L_event⟩ hs_L_event ⟨hC, hO⟩ ⟨Nat.le_of_ble_eq_true rfl, Nat.le_of_ble_eq_true rfl⟩ ⟨(by show cells + 1 ≤ 601024; omega), (by show slots + 6 ≤ 7293034; omega)⟩ rfl hl.1 rfl (Nat.le_of_ble_eq_true rfl) dL_law_1278) hS (D.sh hS.1) (fun k H1 locs1 hq1 hz1 hk1 hS => ?_)
  refine lv_istore (lv' := [(5, .int (zI k)), (4, .int (zI i)), (3, .ref oa), (2, .ref (am 0)), (1, .ref (ad 0)), (0, .ref b)]) hx hb dL_law_1281 hl (by decide) rfl (fun ls hl => ?_)
  have hM1 := MP.k9 hM (fun j hj => hk1 (am j) (PP.lt hM hj) (D.amh hj (PP.lt hM hj)))
  refine lv_aload_n hx hb dL_law_1283 rfl (lv_at hl 3 rfl) ?_
  refine lv_aload_n hx hb dL_law_1284 rfl (lv_at hl 5 rfl) ?_
  refine lv_iload hx hb dL_law_1285 (lv_at hl 1 rfl) ?_
  refine z_iconst hx hb dL_law_1287 ?_
  refine z_iadd (x := i) (y := 1) hx hb dL_law_1288 ?_
  refine z_sld X hS (j := i + 1) (by omega) hL dL_law_1289 ?_
  refine lv_aload_n hx hb dL_law_1290 rfl (lv_at hl 5 rfl) ?_
  refine lv_iload hx hb dL_law_1291 (lv_at hl 1 rfl) ?_
  refine z_iconst hx hb dL_law_1293 ?_
  refine z_iadd (x := i) (y := 2) hx hb dL_law_1294 ?_
  refine z_sld X hS (j := i + 2) (by omega) hL dL_law_1295 ?_
  refine k_Wi (c_VW (As := [.int (zI (sx xs (i + 1))), .int (zI (sx xs (i + 2)))]) (rest := []) X.1 hG hS hA (c_X3_event l G am FM A B (sx xs (i + 1)) (sx xs (i + 2)) H1.size (sx_rng _ _) (sx_rng _ _) hA4 h.1) ⟨q_ml_RL_139, q_im_X3_event, q_sel_X3_event, q_ini_RX3, q_code_X3_event⟩ hv_X3_event (MP.rec hK hM1) hM1 ⟨Nat.le_of_ble_eq_true rfl, Nat.le_of_ble_eq_true rfl⟩ ⟨(by show cells + 1 + ((ecT A B (FM 4)).toNat) ≤ 601024; omega), (by show slots + 6 + (4 * (ecT A B (FM 4)).toNat) ≤ 7293034; omega)⟩ rfl hl.1 rfl (Nat.le_of_ble_eq_true rfl) dL_law_1296) hS (D.sm hS.1) (fun r H2 locs2 hq2 hz2 hk2 hS => ?_)
  refine lv_istore (lv' := [(6, .int (zI r)), (5, .int (zI k)), (4, .int (zI i)), (3, .ref oa), (2, .ref (am 0)), (1, .ref (ad 0)), (0, .ref b)]) hx hb dL_law_1299 hl (by decide) rfl (fun ls hl => ?_)
  have hr := HP.kr hq1 (by decide)
  obtain ⟨F9, AC9, E9, T9, P9, S9, Av9, Fv9, O9, FM9, A9, B9, gC, gO, gM, gk, gv, gR, gc⟩ := j_event h ht hq1 hq2
  have gC := CP.kept gC (fun k hk => hk2 (ad k) (PP.lt gC hk) (D.adm hk (PP.lt gC hk)))
  have gO : OP G oa O9 H2 := gO.kept (hk2 oa gO.lt (D.oam gO.lt))
  have gJ : JI G ad am oa (tb + 2) H2 := ⟨_, _, _, _, _, _, _, _, _, _, _, _, gC, gO, gM, gR, gc⟩
  refine lv_aload_n hx hb dL_law_1301 rfl (lv_at hl 4 rfl) ?_
  refine k_R (c_VR (As := []) (rest := []) X.1 hG hS hA (c_X3_thrown l G am FM9 A9 B9) ⟨q_ml_RL_83, q_im_X3_thrown, q_sel_X3_thrown, q_ini_RX3, q_code_X3_thrown⟩ hv_X3_thrown (MP.rec hK gM) gM ⟨Nat.le_of_ble_eq_true rfl, Nat.le_of_ble_eq_true rfl⟩ ⟨(by show cells + 1 + ((ecT A B (FM 4)).toNat) ≤ 601024; omega), (by show slots + 6 + (4 * (ecT A B (FM 4)).toNat) ≤ 7293034; omega)⟩ rfl hl.1 rfl (Nat.le_of_ble_eq_true rfl) dL_law_1302) ?_
  rw [gk]
  refine lv_iload hx hb dL_law_1305 (lv_at hl 1 rfl) ?_
  refine z_icmp_eq (a := k) (b := k) (tgt := 1312) hx hb dL_law_1307 (by decide) hr hr (fun _ => ?_) (fun z => absurd rfl z)
  refine lv_iload hx hb dL_law_1312 (lv_at hl 1 rfl) ?_
  refine z_if_ne (a := k) (tgt := 1329) hx hb dL_law_1314 (by decide) hr (fun hk0 => ?_) (fun hk0 => ?_)
  · refine lv_goto (tgt := 1467) hx hb dL_law_1329 (by decide) ?_
    exact W.widen (by omega) (by omega) (kk H2 locs2 _ gJ hS (lv_sub hl [2, 3, 4, 5, 6] rfl))
  · refine lv_aload_n hx hb dL_law_1317 rfl (lv_at hl 3 rfl) ?_
    refine z_iconst hx hb dL_law_1318 ?_
    refine z_lald hx hb hK gO dL_law_1319 ?_
    refine lv_iload hx hb dL_law_1320 (lv_at hl 0 rfl) ?_
    refine lv_i2l (v := (zI r).toInt64) hx hb dL_law_1322 rfl ?_
    refine z_lcmp hx hb dL_law_1323 ?_
    refine z_if_eq (a := lC O9 ((zI r).toInt64)) (tgt := 1329) hx hb dL_law_1324 (by decide) (lC_rng _ _) (fun _ => ?_) (fun z => absurd (by rw [gv hk0]; exact lC_self _) z)
    refine lv_goto (tgt := 1467) hx hb dL_law_1329 (by decide) ?_
    exact W.widen (by omega) (by omega) (kk H2 locs2 _ gJ hS (lv_sub hl [2, 3, 4, 5, 6] rfl))
set_option maxHeartbeats 2000000 in
theorem w_events (X : LX p l s m args c G b L xs) (D : AD ad am oa s.heap.size) (hi : 0 ≤ i ∧ i + 7 < L) (hL : L ≤ 4096) (h : REL F E T P S Av Fv FM A B) (ht : ecT A B (FM 4) ≤ tb) (htb : tb ≤ 1024) (hC : CP G ad F AC E T P S Av Fv H) (hO : OP G oa O H) (hM : MP G am FM A B H) (hA4 : rngI (A 4)) (hS : va_S (AL s) s.heap H locs) (hl : lv_has ls 9 [(4, .int (zI i)), (3, .ref oa), (2, .ref (am 0)), (1, .ref (ad 0)), (0, .ref b)]) (hfc : cells + 1028 ≤ 601024) (hfs : slots + 4121 ≤ 7293034)
    (kk : ∀ (H1 : Heap) (locs1 : List Loc) (ls1 : Array Slot), JI G ad am oa (tb + 2) H1 → va_S (AL s) s.heap H1 locs1 → lv_has ls1 9 [(4, .int (zI i)), (3, .ref oa), (2, .ref (am 0)), (1, .ref (ad 0)), (0, .ref b)] → W p l e room_1 s m args below meth c H1 locs1 (cells + 1028) (slots + 4121) Q (F0 m 1467 ls1 [])) : W p l e room_1 s m args below meth c H locs cells slots Q (F0 m 1332 ls []) := by
  have n := h.2.1.nums h.1
  have hx := X.1.1
  have hb := X.1.2.1
  have hG := X.2.1
  have hK := hG.1
  have hA : ∀ q, AL s q → G.2.2 ≤ q := fun q h => by rw [X.2.2.2.2.2.2]; exact h
  refine lv_aload_n hx hb dL_law_1332 rfl (lv_at hl 3 rfl) ?_
  refine k_R (c_VR (As := []) (rest := []) X.1 hG hS hA (c_X2_events l G ad F AC E T P S Av Fv h.cok) ⟨q_ml_RL_140, q_im_X2_events, q_sel_X2_events, q_ini_RX2, q_code_X2_events⟩ hv_X2_events (CP.rec hK hC) hC ⟨Nat.le_of_ble_eq_true rfl, Nat.le_of_ble_eq_true rfl⟩ ⟨(by show cells ≤ 601024; omega), (by show slots ≤ 7293034; omega)⟩ rfl hl.1 rfl (Nat.le_of_ble_eq_true rfl) dL_law_1333) ?_
  refine lv_aload_n hx hb dL_law_1336 rfl (lv_at hl 2 rfl) ?_
  refine k_Wi (c_VW (As := []) (rest := [.int (zI (2 * nSou Fv (F 0)))]) X.1 hG hS hA (c_X3_events l G am FM A B H.size hA4 h.1) ⟨q_ml_RL_143, q_im_X3_events, q_sel_X3_events, q_ini_RX3, q_code_X3_events⟩ hv_X3_events (MP.rec hK hM) hM ⟨Nat.le_of_ble_eq_true rfl, Nat.le_of_ble_eq_true rfl⟩ ⟨(by show cells + ((ecT A B (FM 4)).toNat) ≤ 601024; omega), (by show slots + (4 * (ecT A B (FM 4)).toNat) ≤ 7293034; omega)⟩ rfl hl.1 rfl (Nat.le_of_ble_eq_true rfl) dL_law_1337) hS (D.sm hS.1) (fun r H2 locs2 hq2 hz2 hk2 hS => ?_)
  obtain ⟨⟨F9, AC9, E9, T9, P9, S9, Av9, Fv9, O9, FM9, A9, B9, gC, gO, gM, gk, gv, gR, gc⟩, ge⟩ := j_events h ht hC hO hq2
  have gC := CP.kept gC (fun k hk => hk2 (ad k) (PP.lt gC hk) (D.adm hk (PP.lt gC hk)))
  have gO : OP G oa O9 H2 := gO.kept (hk2 oa gO.lt (D.oam gO.lt))
  have gJ : JI G ad am oa (tb + 2) H2 := ⟨_, _, _, _, _, _, _, _, _, _, _, _, gC, gO, gM, gR, gc⟩
  rw [ge]
  rw [← zI_of (zI r)]
  refine z_icmp_eq (a := (zI r).toInt) (b := (zI r).toInt) (tgt := 1467) hx hb dL_law_1340 (by decide) (zI_rng _) (zI_rng _) (fun _ => ?_) (fun z => absurd rfl z)
  exact W.widen (by omega) (by omega) (kk H2 locs2 _ gJ hS (lv_sub hl [0, 1, 2, 3, 4] rfl))
set_option maxHeartbeats 2000000 in
theorem w_time (X : LX p l s m args c G b L xs) (D : AD ad am oa s.heap.size) (hi : 0 ≤ i ∧ i + 7 < L) (hL : L ≤ 4096) (h : REL F E T P S Av Fv FM A B) (ht : ecT A B (FM 4) ≤ tb) (htb : tb ≤ 1024) (hC : CP G ad F AC E T P S Av Fv H) (hO : OP G oa O H) (hM : MP G am FM A B H) (hA4 : rngI (A 4)) (hS : va_S (AL s) s.heap H locs) (hl : lv_has ls 9 [(4, .int (zI i)), (3, .ref oa), (2, .ref (am 0)), (1, .ref (ad 0)), (0, .ref b)]) (hfc : cells + 1028 ≤ 601024) (hfs : slots + 4121 ≤ 7293034)
    (kk : ∀ (H1 : Heap) (locs1 : List Loc) (ls1 : Array Slot), JI G ad am oa (tb + 2) H1 → va_S (AL s) s.heap H1 locs1 → lv_has ls1 9 [(4, .int (zI i)), (3, .ref oa), (2, .ref (am 0)), (1, .ref (ad 0)), (0, .ref b)] → W p l e room_1 s m args below meth c H1 locs1 (cells + 1028) (slots + 4121) Q (F0 m 1467 ls1 [])) : W p l e room_1 s m args below meth c H locs cells slots Q (F0 m 1345 ls []) := by
  have n := h.2.1.nums h.1
  have hx := X.1.1
  have hb := X.1.2.1
  have hG := X.2.1
  have hK := hG.1
  have hA : ∀ q, AL s q → G.2.2 ≤ q := fun q h => by rw [X.2.2.2.2.2.2]; exact h
  refine lv_aload_n hx hb dL_law_1345 rfl (lv_at hl 3 rfl) ?_
  refine lv_aload_n hx hb dL_law_1346 rfl (lv_at hl 4 rfl) ?_
  refine lv_iload hx hb dL_law_1347 (lv_at hl 0 rfl) ?_
  refine z_iconst hx hb dL_law_1349 ?_
  refine z_iadd (x := i) (y := 1) hx hb dL_law_1350 ?_
  refine z_sld X hS (j := i + 1) (by omega) hL dL_law_1351 ?_
  refine lv_aload_n hx hb dL_law_1352 rfl (lv_at hl 4 rfl) ?_
  refine lv_iload hx hb dL_law_1353 (lv_at hl 0 rfl) ?_
  refine z_iconst hx hb dL_law_1355 ?_
  refine z_iadd (x := i) (y := 2) hx hb dL_law_1356 ?_
  refine z_sld X hS (j := i + 2) (by omega) hL dL_law_1357 ?_
  refine lv_aload_n hx hb dL_law_1358 rfl (lv_at hl 1 rfl) ?_
  refine k_Wi (c_H (As := [.ref (ad 0), .int (zI (sx xs (i + 1))), .int (zI (sx xs (i + 2))), .ref oa]) (rest := []) X.1 hG X.2.2.1 hS hA (h_time l G oa O ad F AC E T P S Av Fv (sx xs (i + 1)) (sx xs (i + 2)) (sx_rng _ _) (sx_rng _ _) H.size X.2.2.2.2.2.1 (hA _ D.2.2) D.ne) ⟨q_ml_RL_144, q_st_L_time, q_ini_RL, q_code_L_time⟩ hs_L_time ⟨hC, hO⟩ ⟨Nat.le_of_ble_eq_true rfl, Nat.le_of_ble_eq_true rfl⟩ ⟨(by show cells + 1 ≤ 601024; omega), (by show slots + 6 ≤ 7293034; omega)⟩ rfl hl.1 rfl (Nat.le_of_ble_eq_true rfl) dL_law_1359) hS (D.sh hS.1) (fun k H1 locs1 hq1 hz1 hk1 hS => ?_)
  refine lv_istore (lv' := [(5, .int (zI k)), (4, .int (zI i)), (3, .ref oa), (2, .ref (am 0)), (1, .ref (ad 0)), (0, .ref b)]) hx hb dL_law_1362 hl (by decide) rfl (fun ls hl => ?_)
  have hM1 := MP.k9 hM (fun j hj => hk1 (am j) (PP.lt hM hj) (D.amh hj (PP.lt hM hj)))
  refine lv_aload_n hx hb dL_law_1364 rfl (lv_at hl 3 rfl) ?_
  refine lv_aload_n hx hb dL_law_1365 rfl (lv_at hl 5 rfl) ?_
  refine lv_iload hx hb dL_law_1366 (lv_at hl 1 rfl) ?_
  refine z_iconst hx hb dL_law_1368 ?_
  refine z_iadd (x := i) (y := 1) hx hb dL_law_1369 ?_
  refine z_sld X hS (j := i + 1) (by omega) hL dL_law_1370 ?_
  refine lv_aload_n hx hb dL_law_1371 rfl (lv_at hl 5 rfl) ?_
  refine lv_iload hx hb dL_law_1372 (lv_at hl 1 rfl) ?_
  refine z_iconst hx hb dL_law_1374 ?_
  refine z_iadd (x := i) (y := 2) hx hb dL_law_1375 ?_
  refine z_sld X hS (j := i + 2) (by omega) hL dL_law_1376 ?_
  refine k_Wl (c_VW (As := [.int (zI (sx xs (i + 1))), .int (zI (sx xs (i + 2)))]) (rest := []) X.1 hG hS hA (c_X3_time l G am FM A B (sx xs (i + 1)) (sx xs (i + 2)) H1.size (sx_rng _ _) (sx_rng _ _) h.1) ⟨q_ml_RL_146, q_im_X3_time, q_sel_X3_time, q_ini_RX3, q_code_X3_time⟩ hv_X3_time (MP.rec hK hM1) hM1 ⟨Nat.le_of_ble_eq_true rfl, Nat.le_of_ble_eq_true rfl⟩ ⟨(by show cells + 1 + (0) ≤ 601024; omega), (by show slots + 6 + (0) ≤ 7293034; omega)⟩ rfl hl.1 rfl (Nat.le_of_ble_eq_true rfl) dL_law_1377) hS (D.sm hS.1) (fun r H2 locs2 hq2 hz2 hk2 hS => ?_)
  refine lv_lstore (lv' := [(6, .long r), (5, .int (zI k)), (4, .int (zI i)), (3, .ref oa), (2, .ref (am 0)), (1, .ref (ad 0)), (0, .ref b)]) hx hb dL_law_1380 hl (by decide) rfl (fun ls hl => ?_)
  have hr := HP.kr hq1 (by decide)
  obtain ⟨F9, AC9, E9, T9, P9, S9, Av9, Fv9, O9, FM9, A9, B9, gC, gO, gM, gk, gv, gR, gc⟩ := j_time h ht hq1 hq2
  have gC := CP.kept gC (fun k hk => hk2 (ad k) (PP.lt gC hk) (D.adm hk (PP.lt gC hk)))
  have gO : OP G oa O9 H2 := gO.kept (hk2 oa gO.lt (D.oam gO.lt))
  have gJ : JI G ad am oa (tb + 2) H2 := ⟨_, _, _, _, _, _, _, _, _, _, _, _, gC, gO, gM, gR, gc⟩
  refine lv_aload_n hx hb dL_law_1382 rfl (lv_at hl 4 rfl) ?_
  refine k_R (c_VR (As := []) (rest := []) X.1 hG hS hA (c_X3_thrown l G am FM9 A9 B9) ⟨q_ml_RL_83, q_im_X3_thrown, q_sel_X3_thrown, q_ini_RX3, q_code_X3_thrown⟩ hv_X3_thrown (MP.rec hK gM) gM ⟨Nat.le_of_ble_eq_true rfl, Nat.le_of_ble_eq_true rfl⟩ ⟨(by show cells + 1 + (0) ≤ 601024; omega), (by show slots + 6 + (0) ≤ 7293034; omega)⟩ rfl hl.1 rfl (Nat.le_of_ble_eq_true rfl) dL_law_1383) ?_
  rw [gk]
  refine lv_iload hx hb dL_law_1386 (lv_at hl 1 rfl) ?_
  refine z_icmp_eq (a := k) (b := k) (tgt := 1393) hx hb dL_law_1388 (by decide) hr hr (fun _ => ?_) (fun z => absurd rfl z)
  refine lv_iload hx hb dL_law_1393 (lv_at hl 1 rfl) ?_
  refine z_if_ne (a := k) (tgt := 1409) hx hb dL_law_1395 (by decide) hr (fun hk0 => ?_) (fun hk0 => ?_)
  · refine lv_goto (tgt := 1467) hx hb dL_law_1409 (by decide) ?_
    exact W.widen (by omega) (by omega) (kk H2 locs2 _ gJ hS (lv_sub hl [2, 3, 4, 5, 6] rfl))
  · refine lv_aload_n hx hb dL_law_1398 rfl (lv_at hl 3 rfl) ?_
    refine z_iconst hx hb dL_law_1399 ?_
    refine z_lald hx hb hK gO dL_law_1400 ?_
    refine lv_lload hx hb dL_law_1401 (lv_at hl 0 rfl) ?_
    refine z_lcmp hx hb dL_law_1403 ?_
    refine z_if_eq (a := lC O9 r) (tgt := 1409) hx hb dL_law_1404 (by decide) (lC_rng _ _) (fun _ => ?_) (fun z => absurd (by rw [gv hk0]; exact lC_self _) z)
    refine lv_goto (tgt := 1467) hx hb dL_law_1409 (by decide) ?_
    exact W.widen (by omega) (by omega) (kk H2 locs2 _ gJ hS (lv_sub hl [2, 3, 4, 5, 6] rfl))
set_option maxHeartbeats 2000000 in
theorem w_meanTone (X : LX p l s m args c G b L xs) (D : AD ad am oa s.heap.size) (hi : 0 ≤ i ∧ i + 7 < L) (hL : L ≤ 4096) (h : REL F E T P S Av Fv FM A B) (ht : ecT A B (FM 4) ≤ tb) (htb : tb ≤ 1024) (hC : CP G ad F AC E T P S Av Fv H) (hO : OP G oa O H) (hM : MP G am FM A B H) (hA4 : rngI (A 4)) (hS : va_S (AL s) s.heap H locs) (hl : lv_has ls 9 [(4, .int (zI i)), (3, .ref oa), (2, .ref (am 0)), (1, .ref (ad 0)), (0, .ref b)]) (hfc : cells + 1028 ≤ 601024) (hfs : slots + 4121 ≤ 7293034)
    (kk : ∀ (H1 : Heap) (locs1 : List Loc) (ls1 : Array Slot), JI G ad am oa (tb + 2) H1 → va_S (AL s) s.heap H1 locs1 → lv_has ls1 9 [(4, .int (zI i)), (3, .ref oa), (2, .ref (am 0)), (1, .ref (ad 0)), (0, .ref b)] → W p l e room_1 s m args below meth c H1 locs1 (cells + 1028) (slots + 4121) Q (F0 m 1467 ls1 [])) : W p l e room_1 s m args below meth c H locs cells slots Q (F0 m 1412 ls []) := by
  have n := h.2.1.nums h.1
  have hx := X.1.1
  have hb := X.1.2.1
  have hG := X.2.1
  have hK := hG.1
  have hA : ∀ q, AL s q → G.2.2 ≤ q := fun q h => by rw [X.2.2.2.2.2.2]; exact h
  refine lv_aload_n hx hb dL_law_1412 rfl (lv_at hl 3 rfl) ?_
  refine k_Wd (c_VW (As := []) (rest := []) X.1 hG hS hA (c_X2_meanTone l G ad F AC E T P S Av Fv H.size h.mean.2.1 h.mean.2.2 h.vok h.cok) ⟨q_ml_RL_147, q_im_X2_meanTone, q_sel_X2_meanTone, q_ini_RX2, q_code_X2_meanTone⟩ hv_X2_meanTone (CP.rec hK hC) hC ⟨Nat.le_of_ble_eq_true rfl, Nat.le_of_ble_eq_true rfl⟩ ⟨(by show cells + 0 ≤ 601024; omega), (by show slots + 0 ≤ 7293034; omega)⟩ rfl hl.1 rfl (Nat.le_of_ble_eq_true rfl) dL_law_1413) hS (D.sc hS.1) (fun x H1 locs1 hq1 hz1 hk1 hS => ?_)
  have hM1 := MP.k9 hM (fun j hj => hk1 (am j) (PP.lt hM hj) (D.amc hj (PP.lt hM hj)))
  have hO1 : OP G oa O H1 := hO.kept (hk1 oa hO.lt (hA9_n D.ne hO.lt))
  refine lv_dstore (lv' := [(5, .double x), (4, .int (zI i)), (3, .ref oa), (2, .ref (am 0)), (1, .ref (ad 0)), (0, .ref b)]) hx hb dL_law_1416 hl (by decide) rfl (fun ls hl => ?_)
  refine lv_aload_n hx hb dL_law_1418 rfl (lv_at hl 3 rfl) ?_
  refine k_Wd (c_VW (As := []) (rest := []) X.1 hG hS hA (c_X3_meanTone l G am FM A B H1.size nnan h.1) ⟨q_ml_RL_151, q_im_X3_meanTone, q_sel_X3_meanTone, q_ini_RX3, q_code_X3_meanTone⟩ hv_X3_meanTone (MP.rec hK hM1) hM1 ⟨Nat.le_of_ble_eq_true rfl, Nat.le_of_ble_eq_true rfl⟩ ⟨(by show cells + 0 + (0) ≤ 601024; omega), (by show slots + 0 + (0) ≤ 7293034; omega)⟩ rfl hl.1 rfl (Nat.le_of_ble_eq_true rfl) dL_law_1419) hS (D.sm hS.1) (fun y H2 locs2 hq2 hz2 hk2 hS => ?_)
  obtain ⟨⟨F9, AC9, E9, T9, P9, S9, Av9, Fv9, O9, FM9, A9, B9, gC, gO, gM, gk, gv, gR, gc⟩, ge⟩ := j_meanTone h ht hO1 hq1 hq2
  have gC := CP.kept gC (fun k hk => hk2 (ad k) (PP.lt gC hk) (D.adm hk (PP.lt gC hk)))
  have gO : OP G oa O9 H2 := gO.kept (hk2 oa gO.lt (D.oam gO.lt))
  have gJ : JI G ad am oa (tb + 2) H2 := ⟨_, _, _, _, _, _, _, _, _, _, _, _, gC, gO, gM, gR, gc⟩
  subst ge
  refine lv_dstore (lv' := [(7, .double x), (5, .double x), (4, .int (zI i)), (3, .ref oa), (2, .ref (am 0)), (1, .ref (ad 0)), (0, .ref b)]) hx hb dL_law_1422 hl (by decide) rfl (fun ls hl => ?_)
  refine lv_dload hx hb dL_law_1424 (lv_at hl 1 rfl) ?_
  refine lv_dload hx hb dL_law_1426 (lv_at hl 0 rfl) ?_
  refine lv_dcmp hx hb dL_law_1428 ?_
  generalize hz9 : Op.cmpValue (FP.dcmp x x) .l = z9
  rw [← zI_of z9]
  refine z_if_eq (a := z9.toInt) (tgt := 1450) hx hb dL_law_1429 (by decide) (zI_rng _) (fun _ => ?_) (fun z => ?_)
  · refine lv_goto (tgt := 1467) hx hb dL_law_1450 (by decide) ?_
    exact W.widen (by omega) (by omega) (kk H2 locs2 _ gJ hS (lv_sub hl [2, 3, 4, 5, 6] rfl))
  · skip
    refine lv_dload hx hb dL_law_1432 (lv_at hl 1 rfl) ?_
    refine lv_dload hx hb dL_law_1434 (lv_at hl 1 rfl) ?_
    refine lv_dcmp hx hb dL_law_1436 ?_
    rw [hz9, ← zI_of z9]
    refine z_if_eq (a := z9.toInt) (tgt := 1448) hx hb dL_law_1437 (by decide) (zI_rng _) (fun w => absurd w z) (fun _ => ?_)
    refine lv_dload hx hb dL_law_1440 (lv_at hl 0 rfl) ?_
    refine lv_dload hx hb dL_law_1442 (lv_at hl 0 rfl) ?_
    refine lv_dcmp hx hb dL_law_1444 ?_
    rw [hz9, ← zI_of z9]
    refine z_if_ne (a := z9.toInt) (tgt := 1450) hx hb dL_law_1445 (by decide) (zI_rng _) (fun _ => ?_) (fun w => absurd w z)
    refine lv_goto (tgt := 1467) hx hb dL_law_1450 (by decide) ?_
    exact W.widen (by omega) (by omega) (kk H2 locs2 _ gJ hS (lv_sub hl [2, 3, 4, 5, 6] rfl))
set_option maxHeartbeats 2000000 in
theorem w_digest (X : LX p l s m args c G b L xs) (D : AD ad am oa s.heap.size) (hi : 0 ≤ i ∧ i + 7 < L) (hL : L ≤ 4096) (h : REL F E T P S Av Fv FM A B) (ht : ecT A B (FM 4) ≤ tb) (htb : tb ≤ 1024) (hC : CP G ad F AC E T P S Av Fv H) (hO : OP G oa O H) (hM : MP G am FM A B H) (hA4 : rngI (A 4)) (hS : va_S (AL s) s.heap H locs) (hl : lv_has ls 9 [(4, .int (zI i)), (3, .ref oa), (2, .ref (am 0)), (1, .ref (ad 0)), (0, .ref b)]) (hfc : cells + 1028 ≤ 601024) (hfs : slots + 4121 ≤ 7293034)
    (kk : ∀ (H1 : Heap) (locs1 : List Loc) (ls1 : Array Slot), JI G ad am oa (tb + 2) H1 → va_S (AL s) s.heap H1 locs1 → lv_has ls1 9 [(4, .int (zI i)), (3, .ref oa), (2, .ref (am 0)), (1, .ref (ad 0)), (0, .ref b)] → W p l e room_1 s m args below meth c H1 locs1 (cells + 1028) (slots + 4121) Q (F0 m 1467 ls1 [])) : W p l e room_1 s m args below meth c H locs cells slots Q (F0 m 1453 ls []) := by
  have n := h.2.1.nums h.1
  have hx := X.1.1
  have hb := X.1.2.1
  have hG := X.2.1
  have hK := hG.1
  have hA : ∀ q, AL s q → G.2.2 ≤ q := fun q h => by rw [X.2.2.2.2.2.2]; exact h
  refine lv_aload_n hx hb dL_law_1453 rfl (lv_at hl 3 rfl) ?_
  refine k_Wl (c_VW (As := []) (rest := []) X.1 hG hS hA (c_X2_digest l G ad F AC E T P S Av Fv H.size (by omega) h.2.1.2.2.2.2 h.vok h.hvm h.hvt h.hvs h.cok) ⟨q_ml_RL_152, q_im_X2_digest, q_sel_X2_digest, q_ini_RX2, q_code_X2_digest⟩ hv_X2_digest (CP.rec hK hC) hC ⟨Nat.le_of_ble_eq_true rfl, Nat.le_of_ble_eq_true rfl⟩ ⟨(by show cells + 0 ≤ 601024; omega), (by show slots + 0 ≤ 7293034; omega)⟩ rfl hl.1 rfl (Nat.le_of_ble_eq_true rfl) dL_law_1454) hS (D.sc hS.1) (fun x H1 locs1 hq1 hz1 hk1 hS => ?_)
  have hM1 := MP.k9 hM (fun j hj => hk1 (am j) (PP.lt hM hj) (D.amc hj (PP.lt hM hj)))
  have hO1 : OP G oa O H1 := hO.kept (hk1 oa hO.lt (hA9_n D.ne hO.lt))
  refine lv_aload_n hx hb dL_law_1457 rfl (lv_at hl 2 rfl) ?_
  refine k_Wl (c_VW (As := []) (rest := [.long x]) X.1 hG hS hA (c_X3_digest l G am FM A B H1.size h.1) ⟨q_ml_RL_156, q_im_X3_digest, q_sel_X3_digest, q_ini_RX3, q_code_X3_digest⟩ hv_X3_digest (MP.rec hK hM1) hM1 ⟨Nat.le_of_ble_eq_true rfl, Nat.le_of_ble_eq_true rfl⟩ ⟨(by show cells + 0 + ((ecT A B (FM 4)).toNat) ≤ 601024; omega), (by show slots + 0 + (4 * (ecT A B (FM 4)).toNat) ≤ 7293034; omega)⟩ rfl hl.1 rfl (Nat.le_of_ble_eq_true rfl) dL_law_1458) hS (D.sm hS.1) (fun y H2 locs2 hq2 hz2 hk2 hS => ?_)
  obtain ⟨⟨F9, AC9, E9, T9, P9, S9, Av9, Fv9, O9, FM9, A9, B9, gC, gO, gM, gk, gv, gR, gc⟩, ge⟩ := j_digest h ht hO1 hq1 hq2
  have gC := CP.kept gC (fun k hk => hk2 (ad k) (PP.lt gC hk) (D.adm hk (PP.lt gC hk)))
  have gO : OP G oa O9 H2 := gO.kept (hk2 oa gO.lt (D.oam gO.lt))
  have gJ : JI G ad am oa (tb + 2) H2 := ⟨_, _, _, _, _, _, _, _, _, _, _, _, gC, gO, gM, gR, gc⟩
  subst ge
  refine z_lcmp hx hb dL_law_1461 ?_
  refine z_if_eq (a := lC x x) (tgt := 1467) hx hb dL_law_1462 (by decide) (lC_rng _ _) (fun _ => ?_) (fun z => absurd (lC_self _) z)
  exact W.widen (by omega) (by omega) (kk H2 locs2 _ gJ hS (lv_sub hl [0, 1, 2, 3, 4] rfl))
end LC9
