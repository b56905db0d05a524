set_option maxHeartbeats 1000000 in
theorem c_X3_more (l : Launch) (G : zG) (lo x vs k r sz : Nat) (C : Nat → Int → Int) (R9 : Int → Int) (hk : k ≤ 240) (hlo : lo ≤ sz) (hvs : vs < sz) : MW l yX3_more cX3_more 4 (some (.array (.array .int))) 0 0 (1) (250) G [.ref x, .ref r] (fun q : Nat => sz ≤ q) sz (fun H => HV G lo x vs k C H ∧ (lo ≤ r ∧ r ≠ vs) ∧ va_at G.1 vwCl (r, rw9 G R9) H) (QWA (fun q : Nat => sz ≤ q) (fun a H => a = sz ∧ HV G lo a vs (k + 1) (fun e => if e = k then R9 else C e) H)) := by
  refine mw_of hp_X3_more (Nat.le_of_ble_eq_true rfl) ?_
  intro p env s m below meth c ls hB hsz hP hl
  obtain ⟨hx, hb, hml, hr, hlk, hown, hts, hG⟩ := hB
  subst hsz
  have hK := hG.1
  have hov := hG.2.2.2.2.2.2.2.2.2.1.1
  have hS : va_S (fun q : Nat => s.heap.size ≤ q) s.heap s.heap [] := va_S.rf
  have hl : lv_has ls 4 [(0, .ref x), (1, .ref r)] := hl
  obtain ⟨⟨g, hx9, hg, hr9⟩, hrl, hR⟩ := hP
  refine lv_aload_n hx hb dX3_more_0 rfl (lv_at hl 0 rfl) ?_
  refine z_alenA hx hb hK (t0 := 1) rfl hg dX3_more_1 ?_
  refine z_iconst hx hb dX3_more_2 ?_
  refine z_iadd (x := (k : Int)) (y := 1) hx hb dX3_more_3 ?_
  rw [show (k : Int) + 1 = ((k + 1 : Nat) : Int) by omega]
  refine z_anewA (t0 := 1) (t := .int) hx hb hts hov hown q_cl_A30 hK rfl hS (n := k + 1) (by omega) (by show 0 + 1 ≤ 1; decide) (by show 0 + (k + 1) ≤ 250; omega) dX3_more_4 (fun H1 hN z1 o1 hS => ?_)
  refine lv_astore_n (lv' := [(2, .ref s.heap.size), (0, .ref x), (1, .ref r)]) hx hb dX3_more_7 rfl hl (by decide) rfl (fun ls hl => ?_)
  refine z_iconst hx hb dX3_more_8 ?_
  refine lv_istore_n (lv' := [(3, .int (zI 0)), (2, .ref s.heap.size), (0, .ref x), (1, .ref r)]) hx hb dX3_more_9 rfl hl (by decide) rfl (fun ls hl => ?_)
  have lp : ∀ (n i : Nat), i ≤ k → k - i < n → ∀ (H : Heap) (locs : List Loc), va_at G.1 vwCl (s.heap.size, va_refs G 1 (k + 1) (fun j => if j < i then some (g j) else none)) H → (∀ q : Nat, q < s.heap.size → H[q]? = s.heap[q]?) → va_S (fun q : Nat => s.heap.size ≤ q) s.heap H locs → ∀ ls : Array Slot, lv_has ls 4 [(3, .int (zI (i : Int))), (2, .ref s.heap.size), (0, .ref x), (1, .ref r)] → W p l env (rmz 0 0 1 250) s m (([.ref x, .ref r] : List Value).toArray) below meth c H locs (0 + 1) (0 + (k + 1)) (MQ below (QWA (fun q : Nat => s.heap.size ≤ q) (fun a H => a = s.heap.size ∧ HV G lo a vs (k + 1) (fun e => if e = k then R9 else C e) H)) (([.ref x, .ref r] : List Value).toArray) s 1 250 (fun q : Nat => s.heap.size ≤ q)) (F0 m 10 ls []) := by
    intro n
    induction n with
    | zero => intro i i0 hm; omega
    | succ n ih =>
      intro i i0 hm H locs hN ho hS ls hl
      have hg1 := hg.kept (ho _ hg.lt)
      refine lv_iload_n hx hb dX3_more_10 rfl (lv_at hl 0 rfl) ?_
      refine lv_aload_n hx hb dX3_more_11 rfl (lv_at hl 2 rfl) ?_
      refine z_alenA hx hb hK (t0 := 1) rfl hg1 dX3_more_12 ?_
      refine z_icmp_ge (a := (i : Int)) (b := (k : Int)) (tgt := 28) hx hb dX3_more_13 (by decide) (by omega) (by omega) (fun h9 => ?_) (fun h9 => ?_)
      · have hi : i = k := by omega
        subst hi
        refine lv_aload_n hx hb dX3_more_28 rfl (lv_at hl 1 rfl) ?_
        refine lv_aload_n hx hb dX3_more_29 rfl (lv_at hl 2 rfl) ?_
        refine z_alenA hx hb hK (t0 := 1) rfl hg1 dX3_more_30 ?_
        refine lv_aload_n hx hb dX3_more_31 rfl (lv_at hl 3 rfl) ?_
        refine z_aastA (t0 := 1) (t1 := 0) (t := .int) hx hb hK hov (hK.2 1 _ rfl).2 (hK.2 0 _ rfl).2 hS (Nat.le_refl _) rfl hN (hR.kept (ho _ hR.lt)) (i := (i : Int)) ⟨by omega, by omega⟩ (by omega) dX3_more_32 (fun H1 locs1 hN1 z2 o2 hS => ?_)
        refine lv_aload_n hx hb dX3_more_33 rfl (lv_at hl 1 rfl) ?_
        have ho1 : ∀ q : Nat, q < s.heap.size → H1[q]? = s.heap[q]? := fun q hq => (o2 q (by omega)).trans (ho q hq)
        refine e_Wa hx hb hr (Or.inr ⟨_, rfl⟩) hlk hS (by omega) (by omega) ⟨rfl, fun j => if j < i then g j else r, ⟨hlo, by omega⟩, va_r9 hN1 (fun j hj => ?_), fun e he => ?_⟩ dX3_more_34
        · rw [Int.toNat_natCast]
          show (if j = i then some r else if j < i then some (g j) else none) = some (if j < i then g j else r)
          by_cases c1 : j = i
          · rw [if_pos c1, if_neg (by omega)]
          · rw [if_neg c1, if_pos (by omega), if_pos (by omega)]
        · by_cases c1 : e = i
          · subst c1
            show (lo ≤ (if e < e then g e else r) ∧ (if e < e then g e else r) ≠ vs) ∧ va_at G.1 vwCl ((if e < e then g e else r), rw9 G (if e = e then R9 else C e)) H1
            rw [if_neg (Nat.lt_irrefl e), if_pos rfl]
            exact ⟨hrl, hR.kept (ho1 _ hR.lt)⟩
          · have q := hr9 e (by omega)
            show (lo ≤ (if e < i then g e else r) ∧ (if e < i then g e else r) ≠ vs) ∧ va_at G.1 vwCl ((if e < i then g e else r), rw9 G (if e = i then R9 else C e)) H1
            rw [if_pos (by omega), if_neg c1]
            exact ⟨q.1, q.2.kept (ho1 _ q.2.lt)⟩
      · have q := hr9 i (by omega)
        refine lv_aload_n hx hb dX3_more_16 rfl (lv_at hl 1 rfl) ?_
        refine lv_iload_n hx hb dX3_more_17 rfl (lv_at hl 0 rfl) ?_
        refine lv_aload_n hx hb dX3_more_18 rfl (lv_at hl 2 rfl) ?_
        refine lv_iload_n hx hb dX3_more_19 rfl (lv_at hl 0 rfl) ?_
        refine z_aldr (t0 := 1) (n := k) hx hb hK rfl rfl hg1 (i := (i : Int)) (by omega) (by omega) (q := g i) (by rw [Int.toNat_natCast]) dX3_more_20 ?_
        refine z_aastA (t0 := 1) (t1 := 0) (t := .int) hx hb hK hov (hK.2 1 _ rfl).2 (hK.2 0 _ rfl).2 hS (Nat.le_refl _) rfl hN (q.2.kept (ho _ q.2.lt)) (i := (i : Int)) ⟨by omega, by omega⟩ (by omega) dX3_more_21 (fun H1 locs1 hN1 z2 o2 hS => ?_)
        refine z_iinc (lv' := [(3, .int (zI ((i : Int) + 1))), (2, .ref s.heap.size), (0, .ref x), (1, .ref r)]) hx hb dX3_more_22 hl (k := 0) rfl (by decide) rfl (fun ls hl => ?_)
        refine lv_goto (tgt := 10) hx hb dX3_more_25 (by decide) ?_
        refine ih (i + 1) (by omega) (by omega) H1 locs1 (va_r9 hN1 (fun j hj => ?_)) (fun q hq => (o2 q (by omega)).trans (ho q hq)) hS ls (by rw [show ((i + 1 : Nat) : Int) = (i : Int) + 1 by omega]; exact hl)
        rw [Int.toNat_natCast]
        by_cases c1 : j = i
        · rw [if_pos c1, if_pos (by omega), c1]
        · rw [if_neg c1]
          by_cases c2 : j < i
          · rw [if_pos c2, if_pos (by omega)]
          · rw [if_neg c2, if_neg (by omega)]
  exact lp (k + 1) 0 (by omega) (by omega) H1 _ (va_r9 hN (fun j _ => by rw [if_neg (by omega)])) o1 hS ls hl
set_option maxHeartbeats 1000000 in
theorem c_X3_addVoice (l : Launch) (G : zG) (h lo vs : Nat) (f : Nat → Nat) (bt pt ky nv : Int) (n : Int → Int) (B : Int → Int → Int) (sz : Nat) (hnv : 0 ≤ nv ∧ nv ≤ 3) (hn0 : n nv = 0) (hgh : G.2.2 ≤ h) : MW l yX3_addVoice cX3_addVoice 3 none 0 0 (2) (10) G [.ref h] (fun q : Nat => q = h ∨ sz ≤ q) sz (HP9 G h lo vs f bt pt ky nv n B) (QV (fun q : Nat => q = h ∨ sz ≤ q) (fun H => ∃ (vs1 : Nat) (f1 : Nat → Nat), HP9 G h lo vs1 f1 bt pt ky (nv + 1) n B H)) := by
  refine mw_of hp_X3_addVoice (Nat.le_of_ble_eq_true rfl) ?_
  intro p env s m below meth c ls hB hsz hP hl
  obtain ⟨hx, hb, hml, hr, hlk, hown, hts, hG⟩ := hB
  subst hsz
  have hK := hG.1
  have hov1 := hG.2.2.2.2.2.2.2.2.2.1.1
  have hov := hG.2.2.2.2.2.2.2.2.2.1.2.1
  have hS : va_S (fun q : Nat => q = h ∨ s.heap.size ≤ q) s.heap s.heap [] := va_S.rf
  have hl : lv_has ls 3 [(0, .ref h)] := hl
  obtain ⟨⟨hlo, hlv⟩, hO, hVs, hVv⟩ := hP
  obtain ⟨k, hk⟩ : ∃ k : Nat, k = nv.toNat := ⟨_, rfl⟩
  have hkn : (k : Int) = nv := by omega
  rw [← hk] at hVs
  have hlh : h < s.heap.size := va_at.lt hO
  have hvl : vs < s.heap.size := hVs.lt
  have hP := hO
  refine lv_aload_n hx hb dX3_addVoice_0 rfl (lv_at hl 0 rfl) ?_
  refine z_get (C := RX3) (T := TX3) (N := 4) hx hb hK hts u_in_X3 hown hP rfl 3 (by decide) q_fl_RX3_18 (v := .ref vs) rfl dX3_addVoice_1 ?_
  refine z_alenA hx hb hK (t0 := 3) rfl hVs dX3_addVoice_4 ?_
  refine z_iconst hx hb dX3_addVoice_5 ?_
  refine z_iadd (x := (k : Int)) (y := 1) hx hb dX3_addVoice_6 ?_
  rw [show (k : Int) + 1 = ((k + 1 : Nat) : Int) by omega]
  refine z_anewA (t0 := 3) (t := .array .int) hx hb hts hov hown q_cl_A16 hK rfl hS (n := k + 1) (by omega) (by show 0 + 1 ≤ 2; decide) (by show 0 + (k + 1) ≤ 10; omega) dX3_addVoice_7 (fun H1 hN z1 o1 hS => ?_)
  refine lv_astore_n (lv' := [(1, .ref s.heap.size), (0, .ref h)]) hx hb dX3_addVoice_10 rfl hl (by decide) rfl (fun ls hl => ?_)
  refine z_iconst hx hb dX3_addVoice_11 ?_
  refine lv_istore_n (lv' := [(2, .int (zI 0)), (1, .ref s.heap.size), (0, .ref h)]) hx hb dX3_addVoice_12 rfl hl (by decide) rfl (fun ls hl => ?_)
  have lp : ∀ (w i : Nat), i ≤ k → k - i < w → ∀ (H : Heap) (locs : List Loc), va_at G.1 vwCl (s.heap.size, va_refs G 3 (k + 1) (fun j => if j < i then some (f j) else none)) H → (∀ q : Nat, q < s.heap.size → H[q]? = s.heap[q]?) → H.size = s.heap.size + 1 → va_S (fun q : Nat => q = h ∨ s.heap.size ≤ q) s.heap H locs → ∀ ls : Array Slot, lv_has ls 3 [(2, .int (zI (i : Int))), (1, .ref s.heap.size), (0, .ref h)] → W p l env (rmz 0 0 2 10) s m (([.ref h] : List Value).toArray) below meth c H locs (0 + 1) (0 + (k + 1)) (MQ below (QV (fun q : Nat => q = h ∨ s.heap.size ≤ q) (fun H => ∃ (vs1 : Nat) (f1 : Nat → Nat), HP9 G h lo vs1 f1 bt pt ky (nv + 1) n B H)) (([.ref h] : List Value).toArray) s 2 10 (fun q : Nat => q = h ∨ s.heap.size ≤ q)) (F0 m 13 ls []) := by
    intro w
    induction w with
    | zero => intro i i0 hm; omega
    | succ w ih =>
      intro i i0 hm H locs hN ho hz hS ls hl
      have hP := va_at.kept hO (ho _ hlh)
      have hVs1 := hVs.kept (ho _ hvl)
      refine lv_iload_n hx hb dX3_addVoice_13 rfl (lv_at hl 0 rfl) ?_
      refine lv_aload_n hx hb dX3_addVoice_14 rfl (lv_at hl 2 rfl) ?_
      refine z_get (C := RX3) (T := TX3) (N := 4) hx hb hK hts u_in_X3 hown hP rfl 3 (by decide) q_fl_RX3_18 (v := .ref vs) rfl dX3_addVoice_15 ?_
      refine z_alenA hx hb hK (t0 := 3) rfl hVs1 dX3_addVoice_18 ?_
      refine z_icmp_ge (a := (i : Int)) (b := (k : Int)) (tgt := 37) hx hb dX3_addVoice_19 (by decide) (by omega) (by omega) (fun h9 => ?_) (fun h9 => ?_)
      · have hi : i = k := by omega
        subst hi
        refine lv_aload_n hx hb dX3_addVoice_37 rfl (lv_at hl 1 rfl) ?_
        refine lv_aload_n hx hb dX3_addVoice_38 rfl (lv_at hl 2 rfl) ?_
        refine z_get (C := RX3) (T := TX3) (N := 4) hx hb hK hts u_in_X3 hown hP rfl 3 (by decide) q_fl_RX3_18 (v := .ref vs) rfl dX3_addVoice_39 ?_
        refine z_alenA hx hb hK (t0 := 3) rfl hVs1 dX3_addVoice_42 ?_
        refine z_iconst hx hb dX3_addVoice_43 ?_
        refine z_anewA (t0 := 1) (t := .int) hx hb hts hov1 hown q_cl_A30 hK rfl hS (n := 0) (by decide) (by show 0 + 1 + 1 ≤ 2; decide) (by show 0 + (i + 1) + 0 ≤ 10; omega) dX3_addVoice_44 (fun H2 hE z2 o2 hS => ?_)
        rw [hz] at hE z2 o2 ⊢
        have hN2 := hN.kept (o2 _ (by show s.heap.size < s.heap.size + 1; omega))
        refine z_aastA (t0 := 3) (t1 := 1) (t := .array .int) hx hb hK hov (hK.2 3 _ rfl).2 (hK.2 1 _ rfl).2 hS (Or.inr (Nat.le_refl _)) rfl hN2 hE (i := (i : Int)) ⟨by omega, by omega⟩ (by omega) dX3_addVoice_47 (fun H3 locs3 hN3 z3 o3 hS => ?_)
        have hP3 := va_at.kept hO (((o3 _ (by show h ≠ s.heap.size; omega)).trans (o2 _ (by show h < s.heap.size + 1; omega))).trans (ho _ hlh))
        have hE3 := hE.kept (o3 _ (by show s.heap.size + 1 ≠ s.heap.size; omega))
        refine lv_aload_n hx hb dX3_addVoice_48 rfl (lv_at hl 2 rfl) ?_
        refine lv_aload_n hx hb dX3_addVoice_49 rfl (lv_at hl 1 rfl) ?_
        refine z_put (C := RX3) (T := TX3) (N := 4) (v := .ref s.heap.size) hx hb hK hts u_in_X3 tyX3 tyX3_ok nmX3 hown hS (Or.inl rfl) hP3 rfl 3 (by decide) q_fl_RX3_18 rfl rfl rfl (by show 3 < 4; decide) dX3_addVoice_50 (fun H4 locs4 hT z4 o4 hS => ?_)
        have hT : HO G h s.heap.size bt pt ky H4 := hT
        have ho4 : ∀ q : Nat, q < s.heap.size → q ≠ h → H4[q]? = s.heap[q]? := fun q hq hqh => ((o4 q hqh).trans (o3 q (by omega))).trans ((o2 q (by omega)).trans (ho q hq))
        have hN4 := hN3.kept (o4 _ (by show s.heap.size ≠ h; omega))
        have hE4 := hE3.kept (o4 _ (by show s.heap.size + 1 ≠ h; omega))
        refine e_Wv hx hb hr hlk hS (by omega) (by omega) ⟨s.heap.size, fun j => if j < i then f j else s.heap.size + 1, ⟨hlo, by omega⟩, hT, ?_, fun v hv => ?_⟩ dX3_addVoice_53
        · rw [show (nv + 1).toNat = i + 1 by omega]
          refine va_r9 hN4 (fun j hj => ?_)
          rw [Int.toNat_natCast]
          show (if j = i then some (s.heap.size + 1) else if j < i then some (f j) else none) = some (if j < i then f j else s.heap.size + 1)
          by_cases c1 : j = i
          · rw [if_pos c1, if_neg (by omega)]
          · rw [if_neg c1, if_pos (by omega), if_pos (by omega)]
        · by_cases c1 : v < i
          · obtain ⟨g, a1, a2, a3⟩ := hVv v (by omega)
            show HV G lo (if v < i then f v else s.heap.size + 1) s.heap.size (n v).toNat (fun e => hD B v e) H4
            rw [if_pos c1]
            have e2 := a2.lt
            refine ⟨g, ⟨a1.1, fun z => by have : f v < s.heap.size := e2; omega⟩, a2.kept (ho4 _ e2 (by show f v ≠ h; omega)), fun e he => ?_⟩
            obtain ⟨b1, b2⟩ := a3 e he
            have e3 := b2.lt
            exact ⟨⟨b1.1, fun z => by have : g e < s.heap.size := e3; omega⟩, b2.kept (ho4 _ e3 (by show g e ≠ h; omega))⟩
          · have c2 : v = i := by omega
            subst c2
            show HV G lo (if v < v then f v else s.heap.size + 1) s.heap.size (n v).toNat (fun e => hD B v e) H4
            rw [if_neg c1, hkn, hn0]
            exact ⟨fun _ => 0, ⟨by omega, by omega⟩, va_r9 hE4 (fun j hj => absurd hj (by omega)), fun e he => absurd he (by show ¬ e < 0; omega)⟩
      · refine lv_aload_n hx hb dX3_addVoice_22 rfl (lv_at hl 1 rfl) ?_
        refine lv_iload_n hx hb dX3_addVoice_23 rfl (lv_at hl 0 rfl) ?_
        refine lv_aload_n hx hb dX3_addVoice_24 rfl (lv_at hl 2 rfl) ?_
        refine z_get (C := RX3) (T := TX3) (N := 4) hx hb hK hts u_in_X3 hown hP rfl 3 (by decide) q_fl_RX3_18 (v := .ref vs) rfl dX3_addVoice_25 ?_
        refine lv_iload_n hx hb dX3_addVoice_28 rfl (lv_at hl 0 rfl) ?_
        refine z_aldr (t0 := 3) (n := k) hx hb hK rfl rfl hVs1 (i := (i : Int)) (by omega) (by omega) (q := f i) (by rw [Int.toNat_natCast]) dX3_addVoice_29 ?_
        obtain ⟨g, a1, a2, a3⟩ := hVv i (by omega)
        refine z_aastA (t0 := 3) (t1 := 1) (t := .array .int) hx hb hK hov (hK.2 3 _ rfl).2 (hK.2 1 _ rfl).2 hS (Or.inr (Nat.le_refl _)) rfl hN (a2.kept (ho _ a2.lt)) (i := (i : Int)) ⟨by omega, by omega⟩ (by omega) dX3_addVoice_30 (fun H1 locs1 hN1 z2 o2 hS => ?_)
        refine z_iinc (lv' := [(2, .int (zI ((i : Int) + 1))), (1, .ref s.heap.size), (0, .ref h)]) hx hb dX3_addVoice_31 hl (k := 0) rfl (by decide) rfl (fun ls hl => ?_)
        refine lv_goto (tgt := 13) hx hb dX3_addVoice_34 (by decide) ?_
        refine ih (i + 1) (by omega) (by omega) H1 locs1 (va_r9 hN1 (fun j hj => ?_)) (fun q hq => (o2 q (by omega)).trans (ho q hq)) (z2.trans hz) hS ls (by rw [show ((i + 1 : Nat) : Int) = (i : Int) + 1 by omega]; exact hl)
        rw [Int.toNat_natCast]
        by_cases c1 : j = i
        · rw [if_pos c1, if_pos (by omega), c1]
        · rw [if_neg c1]
          by_cases c2 : j < i
          · rw [if_pos c2, if_pos (by omega)]
          · rw [if_neg c2, if_neg (by omega)]
  exact lp (k + 1) 0 (by omega) (by omega) H1 _ (va_r9 hN (fun j _ => by rw [if_neg (by omega)])) o1 z1 hS ls hl
theorem c_X3_init (l : Launch) (G : zG) (a sz : Nat) (ha : G.2.2 ≤ a) : CI l yX3_init cX3_init 1 1 20 1 0 G a (AI a sz) sz (fun H => va_at G.1 vwCl (a, .inr (3, [.int 0, .int 0, .int 0, .null])) H) (fun H => HO G a sz 4 4 0 H ∧ va_at G.1 vwCl (sz, va_refs G 3 0 (fun _ => none)) H ∧ H.size = sz + 1) := by
  refine ci_of hp_X3_init (Nat.le_of_ble_eq_true rfl) rfl ?_
  intro p env s m below meth c ls hB hin2 hov9 hsz hT hl
  obtain ⟨hx, hb, hml, hr, hlk, hown, hts, hG⟩ := hB
  have hK := hG.1
  have hov := hG.2.2.2.2.2.2.2.2.2.1.2.1
  have hz : s.heap.size = sz := hsz
  have haz : a < sz := by rw [← hsz]; exact hT.lt
  have hS : va_S (AI a sz) s.heap s.heap [] := va_S.rf
  refine lv_aload_n hx hb dX3_init_0 rfl (lv_at hl 0 rfl) ?_
  refine z_obj hx hb hts hown q_o_RX3 q_o_im q_o_code (hl.1.trans hml.symm) ⟨by decide, by decide⟩ dX3_init_1 ?_
  refine lv_aload_n hx hb dX3_init_4 rfl (lv_at hl 0 rfl) ?_
  refine z_iconst hx hb dX3_init_5 ?_
  refine z_put (C := RX3) (T := TX3) (N := 4) (v := .int (zI 4)) hx hb hK hts u_in_X3 tyX3 tyX3_ok nmX3 hown hS (Or.inl rfl) hT rfl 0 (by decide) q_fl_RX3_7 rfl rfl rfl (by show 0 < 4; decide) dX3_init_6 (fun H2 locs hT hz2 ho hS => ?_)
  have hz := hz2.trans hz
  refine lv_aload_n hx hb dX3_init_9 rfl (lv_at hl 0 rfl) ?_
  refine z_iconst hx hb dX3_init_10 ?_
  refine z_put (C := RX3) (T := TX3) (N := 4) (v := .int (zI 4)) hx hb hK hts u_in_X3 tyX3 tyX3_ok nmX3 hown hS (Or.inl rfl) hT rfl 1 (by decide) q_fl_RX3_13 rfl rfl rfl (by show 1 < 4; decide) dX3_init_11 (fun H2 locs hT hz2 ho hS => ?_)
  have hz := hz2.trans hz
  refine lv_aload_n hx hb dX3_init_14 rfl (lv_at hl 0 rfl) ?_
  refine z_iconst hx hb dX3_init_15 ?_
  refine z_anewA (t0 := 3) (t := .array .int) hx hb hts hov hown q_cl_A16 hK rfl hS (n := 0) (by decide) (by show 0 + 1 ≤ 1; decide) (by show 0 + 0 ≤ 0; decide) dX3_init_16 (fun H3 hN z3 o3 hS => ?_)
  rw [hz] at hN z3 o3 ⊢
  have hT := va_at.kept hT (o3 _ (by show a < sz; omega))
  refine z_put (C := RX3) (T := TX3) (N := 4) (v := .ref sz) hx hb hK hts u_in_X3 tyX3 tyX3_ok nmX3 hown hS (Or.inl rfl) hT rfl 3 (by decide) q_fl_RX3_18 rfl rfl rfl (by show 3 < 4; decide) dX3_init_19 (fun H4 locs hT hz4 ho hS => ?_)
  refine e_Wv hx hb hr hlk hS (by show 0 + 1 ≤ 1; decide) (by show 0 + 0 ≤ 0; decide) ⟨hT, hN.kept (ho _ (by show sz ≠ a; omega)), by omega⟩ dX3_init_22
