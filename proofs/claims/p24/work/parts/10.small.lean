theorem zm_ofF {l : Launch} {y : MethodName} {cc : ByteArray} {n f lo mc ms : Nat} {ret : Option FieldType} {G : zG} {av : List Value} {Pic : Heap → Prop} {Qc : Array Value → State → Outcome → State → Prop} {free : Addr → Prop} (hy : plainFor y = true) (hlen : (lg_sl av).length ≤ n)
    (body : ∀ (p : Program) (e : Env) (s : State) (m : MethodId) (below : List Frame) (meth : Method) (c : Code) (ls : Array Slot), BF p s m av.toArray meth c cc n ret y.cls G → Pic s.heap → lv_has ls n (lv_args 0 av) → W p l e (rmz f lo mc ms) s m av.toArray below meth c s.heap [] 0 0 (MQ below Qc av.toArray s mc ms free) (F0 m 0 ls [])) :
    Met l y (lw_m y cc n ret) (rmz f lo mc ms) (va_Pc av (fun U => GK G U ∧ Pic U.heap)) Qc mc ms free := by
  refine MetFree.of_bodySF (code := cc) (maxLocals := n) (ret := ret) hy ?_ ?_
  · intro args s m h hn
    obtain ⟨meth, c, h1, h2, h3, h4, h5, h6, -, -⟩ := Cond.code_spec hn (atoms_spec (ws := lw_m y cc n ret) h _ List.mem_cons_self)
    exact ⟨meth, c, h1, h2, h3, h4, h5, h6⟩
  · intro p e s m args below meth c s₁ B hml hv _
    obtain ⟨rfl, hG, hP⟩ := hv
    have hts := atoms_spec (ws := lw_m y cc n ret) B.pre
    have hl := lv_entry av (n := n) hlen
    have hh0 : s₁.heap = s.heap := by rw [B.state]; rfl
    have K := body p e s m below meth c _ ⟨B.exec, B.bytes, hml, B.returns, B.notSynchronized, findClass_of_methodNamed B.named, fun w hw => hts w (List.mem_cons_of_mem _ hw), hG⟩ hP hl
    rw [← lg_entry_eq] at K
    obtain ⟨t, a1, o, b1, b2, b3⟩ := K s₁ hh0 (Stand.of_body B)
    exact ⟨t, o, a1, b1, b2, ⟨b3.1, b3.2⟩⟩
theorem mr_of {l : Launch} {y : MethodName} {cc : ByteArray} {n f lo : Nat} {ret : Option FieldType} {G : zG} {av : List Value} {Pic : Heap → Prop} {v : Value} (hy : plainName y.cls = true) (hlen : (lg_sl av).length ≤ n) (body : ∀ (p : Program) (e : Env) (s : State) (m : MethodId) (below : List Frame) (meth : Method) (c : Code) (ls : Array Slot), BF p s m av.toArray meth c cc n ret y.cls G → Pic s.heap → lv_has ls n (lv_args 0 av) → W p l e (rmz f lo 0 0) s m av.toArray below meth c s.heap [] 0 0 (MQ below (QR v) av.toArray s 0 0 (fun _ => False)) (F0 m 0 ls [])) : MR l y cc n ret f lo G av Pic v := zm_of hy hlen body
theorem mr_ofF {l : Launch} {y : MethodName} {cc : ByteArray} {n f lo : Nat} {ret : Option FieldType} {G : zG} {av : List Value} {Pic : Heap → Prop} {v : Value} (hy : plainFor y = true) (hlen : (lg_sl av).length ≤ n) (body : ∀ (p : Program) (e : Env) (s : State) (m : MethodId) (below : List Frame) (meth : Method) (c : Code) (ls : Array Slot), BF p s m av.toArray meth c cc n ret y.cls G → Pic s.heap → lv_has ls n (lv_args 0 av) → W p l e (rmz f lo 0 0) s m av.toArray below meth c s.heap [] 0 0 (MQ below (QR v) av.toArray s 0 0 (fun _ => False)) (F0 m 0 ls [])) : MR l y cc n ret f lo G av Pic v := zm_ofF hy hlen body
theorem hf_J9_floorMod_7cf53 : plainFor yJ9_floorMod_7cf53 = true := by decide +kernel
theorem hf_J9_max_7cf53 : plainFor yJ9_max_7cf53 = true := by decide +kernel
theorem hf_J9_min_7cf53 : plainFor yJ9_min_7cf53 = true := by decide +kernel
set_option maxHeartbeats 600000 in
theorem c_J9_max_7cf53 (l : Launch) (G : zG)  (a b : Int) (ha : -2147483648 ≤ a ∧ a ≤ 2147483647) (hb9 : -2147483648 ≤ b ∧ b ≤ 2147483647) : MR l yJ9_max_7cf53 cJ9_max_7cf53 2 (some .int) 0 0 G [.int (zI (a)), .int (zI (b))] ((fun _ => True)) (.int (zI (max a b))) := by
  refine mr_ofF hf_J9_max_7cf53 (Nat.le_of_ble_eq_true rfl) ?_
  intro p env s m below meth c ls hB hP hl
  obtain ⟨hx, hb, hml, hr, hlk, hown, hts, hG⟩ := hB
  have hK := hG.1
  have hS : va_S (fun _ => False) s.heap s.heap [] := va_S.rf
  have hA : ∀ q : Nat, (fun _ : Nat => False) q → G.2.2 ≤ q := fun _ h => h.elim
  have hl : lv_has ls 2 [(0, .int (zI (a))), (1, .int (zI (b)))] := hl
  refine lv_iload_n hx hb dJ9_max_7cf53_0 rfl (lv_at hl 0 rfl) ?_
  refine lv_iload_n hx hb dJ9_max_7cf53_1 rfl (lv_at hl 1 rfl) ?_
  refine z_icmp_lt (a := a) (b := b) (tgt := 9) hx hb dJ9_max_7cf53_2 (by decide) (by omega) (by omega) (fun h_2 => ?_) (fun h_2 => ?_)
  · skip
    refine lv_iload_n hx hb dJ9_max_7cf53_9 rfl (lv_at hl 1 rfl) ?_
    exact e_R (r' := b) hx hb hr hlk (n_i _) (by first | rfl | omega) dJ9_max_7cf53_10
  · skip
    refine lv_iload_n hx hb dJ9_max_7cf53_5 rfl (lv_at hl 0 rfl) ?_
    refine lv_goto (tgt := 10) hx hb dJ9_max_7cf53_6 (by decide) ?_
    exact e_R (r' := a) hx hb hr hlk (n_i _) (by first | rfl | omega) dJ9_max_7cf53_10
set_option maxHeartbeats 600000 in
theorem c_J9_min_7cf53 (l : Launch) (G : zG)  (a b : Int) (ha : -2147483648 ≤ a ∧ a ≤ 2147483647) (hb9 : -2147483648 ≤ b ∧ b ≤ 2147483647) : MR l yJ9_min_7cf53 cJ9_min_7cf53 2 (some .int) 0 0 G [.int (zI (a)), .int (zI (b))] ((fun _ => True)) (.int (zI (min a b))) := by
  refine mr_ofF hf_J9_min_7cf53 (Nat.le_of_ble_eq_true rfl) ?_
  intro p env s m below meth c ls hB hP hl
  obtain ⟨hx, hb, hml, hr, hlk, hown, hts, hG⟩ := hB
  have hK := hG.1
  have hS : va_S (fun _ => False) s.heap s.heap [] := va_S.rf
  have hA : ∀ q : Nat, (fun _ : Nat => False) q → G.2.2 ≤ q := fun _ h => h.elim
  have hl : lv_has ls 2 [(0, .int (zI (a))), (1, .int (zI (b)))] := hl
  refine lv_iload_n hx hb dJ9_min_7cf53_0 rfl (lv_at hl 0 rfl) ?_
  refine lv_iload_n hx hb dJ9_min_7cf53_1 rfl (lv_at hl 1 rfl) ?_
  refine z_icmp_gt (a := a) (b := b) (tgt := 9) hx hb dJ9_min_7cf53_2 (by decide) (by omega) (by omega) (fun h_2 => ?_) (fun h_2 => ?_)
  · skip
    refine lv_iload_n hx hb dJ9_min_7cf53_9 rfl (lv_at hl 1 rfl) ?_
    exact e_R (r' := b) hx hb hr hlk (n_i _) (by first | rfl | omega) dJ9_min_7cf53_10
  · skip
    refine lv_iload_n hx hb dJ9_min_7cf53_5 rfl (lv_at hl 0 rfl) ?_
    refine lv_goto (tgt := 10) hx hb dJ9_min_7cf53_6 (by decide) ?_
    exact e_R (r' := a) hx hb hr hlk (n_i _) (by first | rfl | omega) dJ9_min_7cf53_10
set_option maxHeartbeats 600000 in
theorem c_X1_isNote (l : Launch) (G : zG) (ad : Nat → Nat) (T P S A : Nat → Int → Int) (F : Nat → Int) (i : Int) (hi : 0 ≤ i ∧ i < 200) (h4 : -2147483648 ≤ T 4 i ∧ T 4 i ≤ 2147483647) : MR l yX1_isNote cX1_isNote 2 (some .boolean) 0 0 G [.ref (ad 0), .int (zI (i))] (VP G ad T P S A F) (.int (zI (bI (¬ T 4 i = -1)))) := by
  refine mr_of hp_X1_isNote (Nat.le_of_ble_eq_true rfl) ?_
  intro p env s m below meth c ls hB hP hl
  obtain ⟨hx, hb, hml, hr, hlk, hown, hts, hG⟩ := hB
  have hK := hG.1
  have hS : va_S (fun _ => False) s.heap s.heap [] := va_S.rf
  have hA : ∀ q : Nat, (fun _ : Nat => False) q → G.2.2 ≤ q := fun _ h => h.elim
  have hl : lv_has ls 2 [(0, .ref (ad 0)), (1, .int (zI (i)))] := hl
  refine lv_aload_n hx hb dX1_isNote_0 rfl (lv_at hl 0 rfl) ?_
  refine zv_get hx hb hK hts hown hP 0 (by decide) q_fl_RX1_11 (v := .ref (ad 1)) rfl dX1_isNote_1 ?_
  refine z_iconst hx hb dX1_isNote_4 ?_
  refine zv_aT hx hb hK hP (4) (by decide) (i := 4) rfl dX1_isNote_5 ?_
  refine lv_iload_n hx hb dX1_isNote_6 rfl (lv_at hl 1 rfl) ?_
  refine zv_lT hx hb hK hP (4) (by decide) (i := i) (by omega) dX1_isNote_7 ?_
  refine z_iconst hx hb dX1_isNote_8 ?_
  refine z_icmp_eq (a := T 4 (i)) (b := -1) (tgt := 16) hx hb dX1_isNote_9 (by decide) (by omega) (by omega) (fun h_9 => ?_) (fun h_9 => ?_)
  · skip
    refine z_iconst hx hb dX1_isNote_16 ?_
    exact e_R (r' := 0) hx hb hr hlk (n_z (by first | exact bI_01 _ | (left; rfl) | (right; rfl) | omega)) (bI_f (by omega)) dX1_isNote_17
  · skip
    refine z_iconst hx hb dX1_isNote_12 ?_
    refine lv_goto (tgt := 17) hx hb dX1_isNote_13 (by decide) ?_
    exact e_R (r' := 1) hx hb hr hlk (n_z (by first | exact bI_01 _ | (left; rfl) | (right; rfl) | omega)) (bI_t (by omega)) dX1_isNote_17
set_option maxHeartbeats 600000 in
theorem c_X1_isTied (l : Launch) (G : zG) (ad : Nat → Nat) (T P S A : Nat → Int → Int) (F : Nat → Int) (i : Int) (hi : 0 ≤ i ∧ i < 200) (h5 : -2147483648 ≤ T 5 i ∧ T 5 i ≤ 2147483647) : MR l yX1_isTied cX1_isTied 2 (some .boolean) 0 0 G [.ref (ad 0), .int (zI (i))] (VP G ad T P S A F) (.int (zI (bI (T 5 i = 1)))) := by
  refine mr_of hp_X1_isTied (Nat.le_of_ble_eq_true rfl) ?_
  intro p env s m below meth c ls hB hP hl
  obtain ⟨hx, hb, hml, hr, hlk, hown, hts, hG⟩ := hB
  have hK := hG.1
  have hS : va_S (fun _ => False) s.heap s.heap [] := va_S.rf
  have hA : ∀ q : Nat, (fun _ : Nat => False) q → G.2.2 ≤ q := fun _ h => h.elim
  have hl : lv_has ls 2 [(0, .ref (ad 0)), (1, .int (zI (i)))] := hl
  refine lv_aload_n hx hb dX1_isTied_0 rfl (lv_at hl 0 rfl) ?_
  refine zv_get hx hb hK hts hown hP 0 (by decide) q_fl_RX1_11 (v := .ref (ad 1)) rfl dX1_isTied_1 ?_
  refine z_iconst hx hb dX1_isTied_4 ?_
  refine zv_aT hx hb hK hP (5) (by decide) (i := 5) rfl dX1_isTied_5 ?_
  refine lv_iload_n hx hb dX1_isTied_6 rfl (lv_at hl 1 rfl) ?_
  refine zv_lT hx hb hK hP (5) (by decide) (i := i) (by omega) dX1_isTied_7 ?_
  refine z_iconst hx hb dX1_isTied_8 ?_
  refine z_icmp_ne (a := T 5 (i)) (b := 1) (tgt := 16) hx hb dX1_isTied_9 (by decide) (by omega) (by omega) (fun h_9 => ?_) (fun h_9 => ?_)
  · skip
    refine z_iconst hx hb dX1_isTied_16 ?_
    exact e_R (r' := 0) hx hb hr hlk (n_z (by first | exact bI_01 _ | (left; rfl) | (right; rfl) | omega)) (bI_f (by omega)) dX1_isTied_17
  · skip
    refine z_iconst hx hb dX1_isTied_12 ?_
    refine lv_goto (tgt := 17) hx hb dX1_isTied_13 (by decide) ?_
    exact e_R (r' := 1) hx hb hr hlk (n_z (by first | exact bI_01 _ | (left; rfl) | (right; rfl) | omega)) (bI_t (by omega)) dX1_isTied_17
set_option maxHeartbeats 600000 in
theorem c_X1_placeOf (l : Launch) (G : zG) (ad : Nat → Nat) (T P S A : Nat → Int → Int) (F : Nat → Int) (i : Int) (hi : 0 ≤ i ∧ i < 200) : MR l yX1_placeOf cX1_placeOf 2 (some .int) 0 0 G [.ref (ad 0), .int (zI (i))] (VP G ad T P S A F) (.int (zI (7 * P 2 i + P 0 i))) := by
  refine mr_of hp_X1_placeOf (Nat.le_of_ble_eq_true rfl) ?_
  intro p env s m below meth c ls hB hP hl
  obtain ⟨hx, hb, hml, hr, hlk, hown, hts, hG⟩ := hB
  have hK := hG.1
  have hS : va_S (fun _ => False) s.heap s.heap [] := va_S.rf
  have hA : ∀ q : Nat, (fun _ : Nat => False) q → G.2.2 ≤ q := fun _ h => h.elim
  have hl : lv_has ls 2 [(0, .ref (ad 0)), (1, .int (zI (i)))] := hl
  refine z_bipush hx hb dX1_placeOf_0 (by decide) ?_
  refine lv_aload_n hx hb dX1_placeOf_2 rfl (lv_at hl 0 rfl) ?_
  refine zv_get hx hb hK hts hown hP 1 (by decide) q_fl_RX1_16 (v := .ref (ad 11)) rfl dX1_placeOf_3 ?_
  refine z_iconst hx hb dX1_placeOf_6 ?_
  refine zv_aP hx hb hK hP (2) (by decide) (i := 2) rfl dX1_placeOf_7 ?_
  refine lv_iload_n hx hb dX1_placeOf_8 rfl (lv_at hl 1 rfl) ?_
  refine zv_lP hx hb hK hP (2) (by decide) (i := i) (by omega) dX1_placeOf_9 ?_
  refine z_imul (x := 7) (y := P 2 (i)) hx hb dX1_placeOf_10 ?_
  refine lv_aload_n hx hb dX1_placeOf_11 rfl (lv_at hl 0 rfl) ?_
  refine zv_get hx hb hK hts hown hP 1 (by decide) q_fl_RX1_16 (v := .ref (ad 11)) rfl dX1_placeOf_12 ?_
  refine z_iconst hx hb dX1_placeOf_15 ?_
  refine zv_aP hx hb hK hP (0) (by decide) (i := 0) rfl dX1_placeOf_16 ?_
  refine lv_iload_n hx hb dX1_placeOf_17 rfl (lv_at hl 1 rfl) ?_
  refine zv_lP hx hb hK hP (0) (by decide) (i := i) (by omega) dX1_placeOf_18 ?_
  refine z_iadd (x := (7) * (P 2 (i))) (y := P 0 (i)) hx hb dX1_placeOf_19 ?_
  exact e_R (r' := ((7) * (P 2 (i))) + (P 0 (i))) hx hb hr hlk (n_i _) (by first | rfl | omega) dX1_placeOf_20
set_option maxHeartbeats 600000 in
theorem c_X1_isShortNote (l : Launch) (G : zG) (ad : Nat → Nat) (T P S A : Nat → Int → Int) (F : Nat → Int) (i : Int) (hi : 0 ≤ i ∧ i < 200) (h4 : -2147483648 ≤ T 4 i ∧ T 4 i ≤ 2147483647) (h2 : -2147483648 ≤ T 2 i ∧ T 2 i ≤ 2147483647) : MR l yX1_isShortNote cX1_isShortNote 2 (some .boolean) 1 21 G [.ref (ad 0), .int (zI (i))] (VP G ad T P S A F) (.int (zI (bI (¬ T 4 i = -1 ∧ 8 ≤ T 2 i)))) := by
  refine mr_of hp_X1_isShortNote (Nat.le_of_ble_eq_true rfl) ?_
  intro p env s m below meth c ls hB hP hl
  obtain ⟨hx, hb, hml, hr, hlk, hown, hts, hG⟩ := hB
  have hK := hG.1
  have hS : va_S (fun _ => False) s.heap s.heap [] := va_S.rf
  have hA : ∀ q : Nat, (fun _ : Nat => False) q → G.2.2 ≤ q := fun _ h => h.elim
  have hl : lv_has ls 2 [(0, .ref (ad 0)), (1, .int (zI (i)))] := hl
  refine lv_aload_n hx hb dX1_isShortNote_0 rfl (lv_at hl 0 rfl) ?_
  refine lv_iload_n hx hb dX1_isShortNote_1 rfl (lv_at hl 1 rfl) ?_
  refine k_R (c_VR (As := [.int (zI (i))]) (rest := []) ⟨hx, hb, hml, hown, hts⟩ hG hS hA (c_X1_isNote l G ad T P S A F i (show 0 ≤ i ∧ i < 200 by omega) (show -2147483648 ≤ T 4 i ∧ T 4 i ≤ 2147483647 by omega)) ⟨q_ml_RX1_76, q_im_X1_isNote, q_sel_X1_isNote, q_ini_RX1, q_code_X1_isNote⟩ hv_X1_isNote (VP.rec hK hP) hP ⟨by decide, by decide⟩ ⟨Nat.zero_le _, Nat.zero_le _⟩ rfl hl.1 rfl (Nat.le_of_ble_eq_true rfl) dX1_isShortNote_2) ?_
  refine z_bif_eq (q := ¬ T 4 i = -1) (tgt := 25) hx hb dX1_isShortNote_5 (by decide) (fun h_5 => ?_) (fun h_5 => ?_)
  · skip
    refine z_iconst hx hb dX1_isShortNote_25 ?_
    exact e_R (r' := 0) hx hb hr hlk (n_z (by first | exact bI_01 _ | (left; rfl) | (right; rfl) | omega)) (bI_f (by omega)) dX1_isShortNote_26
  · skip
    refine lv_aload_n hx hb dX1_isShortNote_8 rfl (lv_at hl 0 rfl) ?_
    refine zv_get hx hb hK hts hown hP 0 (by decide) q_fl_RX1_11 (v := .ref (ad 1)) rfl dX1_isShortNote_9 ?_
    refine z_iconst hx hb dX1_isShortNote_12 ?_
    refine zv_aT hx hb hK hP (2) (by decide) (i := 2) rfl dX1_isShortNote_13 ?_
    refine lv_iload_n hx hb dX1_isShortNote_14 rfl (lv_at hl 1 rfl) ?_
    refine zv_lT hx hb hK hP (2) (by decide) (i := i) (by omega) dX1_isShortNote_15 ?_
    refine z_bipush hx hb dX1_isShortNote_16 (by decide) ?_
    refine z_icmp_lt (a := T 2 (i)) (b := 8) (tgt := 25) hx hb dX1_isShortNote_18 (by decide) (by omega) (by omega) (fun h_18 => ?_) (fun h_18 => ?_)
    · skip
      refine z_iconst hx hb dX1_isShortNote_25 ?_
      exact e_R (r' := 0) hx hb hr hlk (n_z (by first | exact bI_01 _ | (left; rfl) | (right; rfl) | omega)) (bI_f (by omega)) dX1_isShortNote_26
    · skip
      refine z_iconst hx hb dX1_isShortNote_21 ?_
      refine lv_goto (tgt := 26) hx hb dX1_isShortNote_22 (by decide) ?_
      exact e_R (r' := 1) hx hb hr hlk (n_z (by first | exact bI_01 _ | (left; rfl) | (right; rfl) | omega)) (bI_t (by omega)) dX1_isShortNote_26
