theorem TM.next {A A1 : Nat → Int → Int} {B B1 : Int → Int → Int} {i : Int} (h : ∀ u, 0 ≤ u → u < i → TM (A 0 u) B u A1 B1) : ∀ u, 0 ≤ u → u < i + 1 → TM (A 0 u) B u (zR A1 1 i (bgM B i (A 0 i))) (zC B1 i 7 (A 0 i) (bgM B i)) := by
  intro u h0 h1
  by_cases e : u = i
  · subst e
    exact ⟨zR_s A1 1 u _, fun k k0 k1 => zC_in B1 u _ (by omega) ⟨k0, k1⟩⟩
  · have q := h u h0 (by omega)
    exact ⟨(zR_n (Or.inr e)).trans q.1, fun k k0 k1 => (zC_v B1 _ _ _ e _).trans (q.2 k k0 k1)⟩
theorem TM.one {A A1 : Nat → Int → Int} {B B1 : Int → Int → Int} (v : Int) : TM (A 0 v) B v (zR A1 1 v (bgM B v (A 0 v))) (zC B1 v 7 (A 0 v) (bgM B v)) := ⟨zR_s A1 1 v _, fun k k0 k1 => zC_in B1 v _ (by omega) ⟨k0, k1⟩⟩
def barsM (F : Nat → Int) (A : Nat → Int → Int) (B : Int → Int → Int) : Int → Int := pf 0 (fun v a => if 0 < A 0 v then max a (bgM B v (A 0 v - 1) / (F 1 * 384 / F 2) + 1) else a)
def endM (A : Nat → Int → Int) (B : Int → Int → Int) : Int → Int := pf 0 (fun v a => max a (bgM B v (A 0 v)))
def scM (F : Nat → Int) (A : Nat → Int → Int) (B : Int → Int → Int) (w : Int) : Int := if w = 0 then F 4 else if w = 1 then F 1 * 384 / F 2 else if w < 3 then F 3 else if w = 3 then barsM F A B (F 4) else endM A B (F 4)
set_option maxHeartbeats 2000000 in
theorem c_X3_barsBegun (l : Launch) (G : zG) (ad : Nat → Nat) (F : Nat → Int) (A : Nat → Int → Int) (B : Int → Int → Int) (sz : Nat) (hVM : MOK F A B) : MW l yX3_barsBegun cX3_barsBegun 3 (some .int) 3 68 (0) (0) G [.ref (ad 0)] (fA 11 ad sz) sz (MP G ad F A B) (QW (fA 11 ad sz) (fun r H => r = barsM F A B (F 4) ∧ (0 ≤ r ∧ r ≤ 1000000) ∧ ∃ A' B', MP G ad F A' B' H ∧ KP A B A' B' ∧ (∀ u, 0 ≤ u → u < F 4 → TM (A 0 u) B u A' B') ∧ A' 4 = A 4)) := by
  refine mw_of hp_X3_barsBegun (Nat.le_of_ble_eq_true rfl) ?_
  intro p env s m below meth c ls hB hsz hP hl
  obtain ⟨hx, hb, hml, hr, hlk, hown, hts, hG⟩ := hB
  subst hsz
  have hK := hG.1
  have hS : va_S (fA 11 ad s.heap.size) s.heap s.heap [] := va_S.rf
  have hA : ∀ q : Nat, (fA 11 ad s.heap.size) q → G.2.2 ≤ q := fA_lo hP.1.2 hG.2.1
  have hD : ∀ k, k < 11 → (fA 11 ad s.heap.size) (ad k) := fun k hk => fA_in hk
  have hl : lv_has ls 3 [(0, .ref (ad 0))] := hl
  have h1b := hVM.1
  have h2b := hVM.2.1
  have h4b := hVM.2.2.2.1
  have hba : 48 ≤ F 1 * 384 / F 2 ∧ F 1 * 384 / F 2 ≤ 2304 := by rcases h2b with h | h | h <;> rw [h] <;> omega
  refine z_iconst hx hb dX3_barsBegun_0 ?_
  refine lv_istore_n (lv' := [(1, .int (zI (0))), (0, .ref (ad 0))]) hx hb dX3_barsBegun_1 rfl hl (by decide) rfl (fun ls hl => ?_)
  refine z_iconst hx hb dX3_barsBegun_2 ?_
  refine lv_istore_n (lv' := [(2, .int (zI (0))), (1, .int (zI (0))), (0, .ref (ad 0))]) hx hb dX3_barsBegun_3 rfl hl (by decide) rfl (fun ls hl => ?_)
  have lp_4 : ∀ (n : Nat) (i a : Int) (A1 : Nat → Int → Int) (B1 : Int → Int → Int), 0 ≤ i → i ≤ F 4 → a = barsM F A B i → (0 ≤ a ∧ a ≤ 1000000) → KP A B A1 B1 → (∀ u, 0 ≤ u → u < i → TM (A 0 u) B u A1 B1) → A1 4 = A 4 → F 4 - i < n → ∀ (H : Heap) (locs : List Loc), MP G ad F A1 B1 H → va_S (fA 11 ad s.heap.size) s.heap H locs → ∀ (ls : Array Slot), lv_has ls 3 [(2, .int (zI (i))), (1, .int (zI (a))), (0, .ref (ad 0))] → W p l env (rmz 3 68 0 0) s m (([.ref (ad 0)] : List Value).toArray) below meth c H locs 0 0 (MQ below (QW (fA 11 ad s.heap.size) (fun r H => r = barsM F A B (F 4) ∧ (0 ≤ r ∧ r ≤ 1000000) ∧ ∃ A' B', MP G ad F A' B' H ∧ KP A B A' B' ∧ (∀ u, 0 ≤ u → u < F 4 → TM (A 0 u) B u A' B') ∧ A' 4 = A 4)) (([.ref (ad 0)] : List Value).toArray) s 0 0 (fA 11 ad s.heap.size)) (F0 m 4 ls []) := by
    intro n
    induction n with
    | zero => intro i a A1 B1 h0 h1 h2 h3 hkp htm he4 hm H locs hP hS ls hl; exact absurd hm (by omega)
    | succ n ih =>
      intro i a A1 B1 h0 h1 h2 h3 hkp htm he4 hm H locs hP hS ls hl
      have hs : barsM F A B (i + 1) = if 0 < A 0 i then max (barsM F A B i) (bgM B i (A 0 i - 1) / (F 1 * 384 / F 2) + 1) else barsM F A B i := pf_s _ _ h0
      refine lv_iload_n hx hb dX3_barsBegun_4 rfl (lv_at hl 0 rfl) ?_
      refine lv_aload_n hx hb dX3_barsBegun_5 rfl (lv_at hl 2 rfl) ?_
      refine zm_get hx hb hK hts hown hP 4 (by decide) q_fl_RX3_40 (v := .int (zI (F 4))) rfl dX3_barsBegun_6 ?_
      refine z_icmp_ge (a := i) (b := F 4) (tgt := 59) hx hb dX3_barsBegun_9 (by decide) (by omega) (by omega) (fun h_9 => ?_) (fun h_9 => ?_)
      · skip
        refine lv_iload_n hx hb dX3_barsBegun_59 rfl (lv_at hl 1 rfl) ?_
        exact e_Wi (r := a) hx hb hr hlk (n_i _) hS (by omega) (by omega) ⟨by have h9 : F 4 = i := (by omega); rw [h2, h9], h3, A1, B1, hP, hkp, (fun u q0 q1 => htm u q0 (by omega)), he4⟩ dX3_barsBegun_60
      · skip
        refine lv_aload_n hx hb dX3_barsBegun_12 rfl (lv_at hl 2 rfl) ?_
        refine lv_iload_n hx hb dX3_barsBegun_13 rfl (lv_at hl 0 rfl) ?_
        refine k_Wv (c_VW (As := [.int (zI (i))]) (rest := []) ⟨hx, hb, hml, hown, hts⟩ hG hS hA (c_X3_findTimes l G ad F A1 B1 i H.size (by omega) (hkp.ok hVM)) ⟨q_ml_RX3_88, q_im_X3_findTimes, q_sel_X3_findTimes, q_ini_RX3, q_code_X3_findTimes⟩ hv_X3_findTimes (MP.rec hK hP) hP ⟨by decide, by decide⟩ ⟨Nat.zero_le _, Nat.zero_le _⟩ rfl hl.1 rfl (Nat.le_of_ble_eq_true rfl) dX3_barsBegun_14) hS (fA_mono hS.1) (fun H1 locs1 hq hz1 hk1 hS => ?_)
        rw [hkp.bg' i, hkp.1] at hq
        obtain ⟨A2, B2, hP, kp2, tm2, e24⟩ : ∃ A2 B2, MP G ad F A2 B2 H1 ∧ KP A B A2 B2 ∧ (∀ u, 0 ≤ u → u < i + 1 → TM (A 0 u) B u A2 B2) ∧ A2 4 = A1 4 := ⟨_, _, hq, (hkp.A (by decide) i _).C i _ _ (by omega), TM.next htm, zR_off _ _ (by decide)⟩
        have hok2 := kp2.ok hVM
        have hmn := hVM.many (v := i) (by omega)
        have e0 : A2 0 i = A 0 i := by rw [kp2.1]
        refine lv_aload_n hx hb dX3_barsBegun_17 rfl (lv_at hl 2 rfl) ?_
        refine zm_get hx hb hK hts hown hP 5 (by decide) q_fl_RX3_16 (v := .ref (ad 1)) rfl dX3_barsBegun_18 ?_
        refine lv_iload_n hx hb dX3_barsBegun_21 rfl (lv_at hl 0 rfl) ?_
        refine zm_lA0 hx hb hK hP (i := i) (by omega) dX3_barsBegun_22 ?_
        refine z_if_le (a := A2 0 (i)) (tgt := 53) hx hb dX3_barsBegun_23 (by decide) (by omega) (fun h_23 => ?_) (fun h_23 => ?_)
        · skip
          refine z_iinc (lv' := [(2, .int (zI (i + 1))), (1, .int (zI (a))), (0, .ref (ad 0))]) hx hb dX3_barsBegun_53 hl (k := 0) rfl (by decide) rfl (fun ls hl => ?_)
          refine lv_goto (tgt := 4) hx hb dX3_barsBegun_56 (by decide) ?_
          exact ih (i + 1) (a) A2 B2 (by omega) (by omega) (by rw [hs, ← h2]; first | rw [if_pos (by omega)] | rw [if_neg (by omega)]) (by omega) kp2 tm2 (e24.trans he4) (by omega) H1 _ hP hS _ (lv_sub hl [0, 1, 2] rfl)
        · skip
          have hg : B2 i (10 * (A2 0 i - 1) + 7) = bgM B i (A 0 i - 1) := by rw [kp2.1]; exact (tm2 i h0 (by omega)).2 _ (by omega) (by omega)
          have hbr := bgM_rng hVM (v := i) (by omega) (e := A 0 i - 1) (by omega)
          have d1 : 0 ≤ bgM B i (A 0 i - 1) / (F 1 * 384 / F 2) := Int.ediv_nonneg (by omega) (by omega)
          have d2 : bgM B i (A 0 i - 1) / (F 1 * 384 / F 2) ≤ bgM B i (A 0 i - 1) := Int.ediv_le_self _ (by omega)
          refine lv_iload_n hx hb dX3_barsBegun_26 rfl (lv_at hl 1 rfl) ?_
          refine lv_aload_n hx hb dX3_barsBegun_27 rfl (lv_at hl 2 rfl) ?_
          refine lv_iload_n hx hb dX3_barsBegun_28 rfl (lv_at hl 0 rfl) ?_
          refine lv_aload_n hx hb dX3_barsBegun_29 rfl (lv_at hl 2 rfl) ?_
          refine zm_get hx hb hK hts hown hP 5 (by decide) q_fl_RX3_16 (v := .ref (ad 1)) rfl dX3_barsBegun_30 ?_
          refine lv_iload_n hx hb dX3_barsBegun_33 rfl (lv_at hl 0 rfl) ?_
          refine zm_lA0 hx hb hK hP (i := i) (by omega) dX3_barsBegun_34 ?_
          refine z_iconst hx hb dX3_barsBegun_35 ?_
          refine z_isub (x := A2 0 (i)) (y := 1) hx hb dX3_barsBegun_36 ?_
          refine z_bipush hx hb dX3_barsBegun_37 (by decide) ?_
          refine k_R (c_VR (As := [.int (zI (i)), .int (zI ((A2 0 (i)) - (1))), .int (zI (7))]) (rest := [.int (zI (a))]) ⟨hx, hb, hml, hown, hts⟩ hG hS hA (c_X3_get l G ad F A2 B2 i ((A2 0 (i)) - (1)) 7 (show 0 ≤ i ∧ i < 4 by omega) (show 0 ≤ 10 * ((A2 0 (i)) - (1)) + 7 ∧ 10 * ((A2 0 (i)) - (1)) + 7 < 2000 by omega)) ⟨q_ml_RX3_57, q_im_X3_get, q_sel_X3_get, q_ini_RX3, q_code_X3_get⟩ hv_X3_get (MP.rec hK hP) hP ⟨by decide, by decide⟩ ⟨Nat.zero_le _, Nat.zero_le _⟩ rfl hl.1 rfl (Nat.le_of_ble_eq_true rfl) dX3_barsBegun_39) ?_
          rw [hg]
          refine lv_aload_n hx hb dX3_barsBegun_42 rfl (lv_at hl 2 rfl) ?_
          refine k_R (c_VR (As := []) (rest := [.int (zI (bgM B i (A 0 i - 1))), .int (zI (a))]) ⟨hx, hb, hml, hown, hts⟩ hG hS hA (c_X3_bar l G ad F A2 B2 hok2) ⟨q_ml_RX3_81, q_im_X3_bar, q_sel_X3_bar, q_ini_RX3, q_code_X3_bar⟩ hv_X3_bar (MP.rec hK hP) hP ⟨by decide, by decide⟩ ⟨Nat.zero_le _, Nat.zero_le _⟩ rfl hl.1 rfl (Nat.le_of_ble_eq_true rfl) dX3_barsBegun_43) ?_
          refine z_idiv hx hb dX3_barsBegun_46 (by omega) (by omega) ?_
          refine z_iconst hx hb dX3_barsBegun_47 ?_
          refine z_iadd (x := (bgM B i (A 0 i - 1)) / ((F 1) * 384 / (F 2))) (y := 1) hx hb dX3_barsBegun_48 ?_
          refine k_R (c_SR (As := [.int (zI (a)), .int (zI (((bgM B i (A 0 i - 1)) / ((F 1) * 384 / (F 2))) + (1)))]) (rest := []) ⟨hx, hb, hml, hown, hts⟩ hG hS hA (c_J9_max_7cf53 l G a (((bgM B i (A 0 i - 1)) / ((F 1) * 384 / (F 2))) + (1)) (show -2147483648 ≤ a ∧ a ≤ 2147483647 by omega) (show -2147483648 ≤ (((bgM B i (A 0 i - 1)) / ((F 1) * 384 / (F 2))) + (1)) ∧ (((bgM B i (A 0 i - 1)) / ((F 1) * 384 / (F 2))) + (1)) ≤ 2147483647 by omega)) ⟨q_ml_RX3_92, q_st_J9_max_7cf53, q_ini_RJ9, q_code_J9_max_7cf53⟩ hs_J9_max_7cf53 trivial ⟨by decide, by decide⟩ ⟨Nat.zero_le _, Nat.zero_le _⟩ rfl hl.1 rfl (Nat.le_of_ble_eq_true rfl) dX3_barsBegun_49) ?_
          refine lv_istore_n (lv' := [(1, .int (zI (max a (((bgM B i (A 0 i - 1)) / ((F 1) * 384 / (F 2))) + (1))))), (2, .int (zI (i))), (0, .ref (ad 0))]) hx hb dX3_barsBegun_52 rfl hl (by decide) rfl (fun ls hl => ?_)
          refine z_iinc (lv' := [(2, .int (zI (i + 1))), (1, .int (zI (max a (((bgM B i (A 0 i - 1)) / ((F 1) * 384 / (F 2))) + (1))))), (0, .ref (ad 0))]) hx hb dX3_barsBegun_53 hl (k := 1) rfl (by decide) rfl (fun ls hl => ?_)
          refine lv_goto (tgt := 4) hx hb dX3_barsBegun_56 (by decide) ?_
          exact ih (i + 1) (max a (((bgM B i (A 0 i - 1)) / ((F 1) * 384 / (F 2))) + (1))) A2 B2 (by omega) (by omega) (by rw [hs, ← h2]; first | rw [if_pos (by omega)] | rw [if_neg (by omega)]) (by omega) kp2 tm2 (e24.trans he4) (by omega) H1 _ hP hS _ (lv_sub hl [0, 1, 2] rfl)
  exact lp_4 5 0 0 A B (by omega) (by omega) rfl (by omega) (KP.rfl' A B) (fun u q0 q1 => absurd q1 (by omega)) rfl (by omega) s.heap _ hP hS _ (lv_sub hl [0, 1, 2] rfl)
set_option maxHeartbeats 2000000 in
theorem c_X3_scoreTold (l : Launch) (G : zG) (ad : Nat → Nat) (F : Nat → Int) (A : Nat → Int → Int) (B : Int → Int → Int) (w : Int) (sz : Nat) (hw : 0 ≤ w ∧ w ≤ 4) (hVM : MOK F A B) : MW l yX3_scoreTold cX3_scoreTold 5 (some .int) 4 90 (0) (0) G [.ref (ad 0), .int (zI (w))] (fA 11 ad sz) sz (MP G ad F A B) (QW (fA 11 ad sz) (fun r H => r = scM F A B w ∧ ∃ A' B', MP G ad F A' B' H ∧ KP A B A' B')) := by
  refine mw_of hp_X3_scoreTold (Nat.le_of_ble_eq_true rfl) ?_
  intro p env s m below meth c ls hB hsz hP hl
  obtain ⟨hx, hb, hml, hr, hlk, hown, hts, hG⟩ := hB
  subst hsz
  have hK := hG.1
  have hS : va_S (fA 11 ad s.heap.size) s.heap s.heap [] := va_S.rf
  have hA : ∀ q : Nat, (fA 11 ad s.heap.size) q → G.2.2 ≤ q := fA_lo hP.1.2 hG.2.1
  have hD : ∀ k, k < 11 → (fA 11 ad s.heap.size) (ad k) := fun k hk => fA_in hk
  have hl : lv_has ls 5 [(0, .ref (ad 0)), (1, .int (zI (w)))] := hl
  have h1b := hVM.1
  have h2b := hVM.2.1
  have h4b := hVM.2.2.2.1
  have hba : 48 ≤ F 1 * 384 / F 2 ∧ F 1 * 384 / F 2 ≤ 2304 := by rcases h2b with h | h | h <;> rw [h] <;> omega
  refine lv_iload_n hx hb dX3_scoreTold_0 rfl (lv_at hl 1 rfl) ?_
  refine z_iconst hx hb dX3_scoreTold_1 ?_
  refine z_icmp_ge (a := w) (b := 3) (tgt := 33) hx hb dX3_scoreTold_2 (by decide) (by omega) (by omega) (fun h_2 => ?_) (fun h_2 => ?_)
  · skip
    refine lv_aload_n hx hb dX3_scoreTold_33 rfl (lv_at hl 0 rfl) ?_
    refine k_Wi (c_VW (As := []) (rest := []) ⟨hx, hb, hml, hown, hts⟩ hG hS hA (c_X3_barsBegun l G ad F A B s.heap.size hVM) ⟨q_ml_RX3_97, q_im_X3_barsBegun, q_sel_X3_barsBegun, q_ini_RX3, q_code_X3_barsBegun⟩ hv_X3_barsBegun (MP.rec hK hP) hP ⟨by decide, by decide⟩ ⟨Nat.zero_le _, Nat.zero_le _⟩ rfl hl.1 rfl (Nat.le_of_ble_eq_true rfl) dX3_scoreTold_34) hS (fA_mono hS.1) (fun r_34 H1 locs1 hq hz1 hk1 hS => ?_)
    obtain ⟨hr1, hr2, A2, B2, hP, kp2, tm2, -⟩ := hq
    refine lv_istore_n (lv' := [(2, .int (zI (r_34))), (0, .ref (ad 0)), (1, .int (zI (w)))]) hx hb dX3_scoreTold_37 rfl hl (by decide) rfl (fun ls hl => ?_)
    refine lv_iload_n hx hb dX3_scoreTold_38 rfl (lv_at hl 2 rfl) ?_
    refine z_iconst hx hb dX3_scoreTold_39 ?_
    refine z_icmp_ne (a := w) (b := 3) (tgt := 45) hx hb dX3_scoreTold_40 (by decide) (by omega) (by omega) (fun h_40 => ?_) (fun h_40 => ?_)
    · skip
      refine z_iconst hx hb dX3_scoreTold_45 ?_
      refine lv_istore_n (lv' := [(3, .int (zI (0))), (2, .int (zI (r_34))), (0, .ref (ad 0)), (1, .int (zI (w)))]) hx hb dX3_scoreTold_46 rfl hl (by decide) rfl (fun ls hl => ?_)
      refine z_iconst hx hb dX3_scoreTold_47 ?_
      refine lv_istore (lv' := [(4, .int (zI (0))), (3, .int (zI (0))), (2, .int (zI (r_34))), (0, .ref (ad 0)), (1, .int (zI (w)))]) hx hb dX3_scoreTold_48 hl (by decide) rfl (fun ls hl => ?_)
      have lp_50 : ∀ (n : Nat) (i a : Int), 0 ≤ i → i ≤ F 4 → a = endM A B i → (0 ≤ a ∧ a ≤ 1000000) → F 4 - i < n → ∀ (H : Heap) (locs : List Loc), MP G ad F A2 B2 H → va_S (fA 11 ad s.heap.size) s.heap H locs → ∀ (ls : Array Slot), lv_has ls 5 [(4, .int (zI (i))), (3, .int (zI (a))), (0, .ref (ad 0)), (1, .int (zI (w)))] → W p l env (rmz 4 90 0 0) s m (([.ref (ad 0), .int (zI (w))] : List Value).toArray) below meth c H locs 0 0 (MQ below (QW (fA 11 ad s.heap.size) (fun r H => r = scM F A B w ∧ ∃ A' B', MP G ad F A' B' H ∧ KP A B A' B')) (([.ref (ad 0), .int (zI (w))] : List Value).toArray) s 0 0 (fA 11 ad s.heap.size)) (F0 m 50 ls []) := by
        intro n
        induction n with
        | zero => intro i a h0 h1 h2 h3 hm H locs hP hS ls hl; exact absurd hm (by omega)
        | succ n ih =>
          intro i a h0 h1 h2 h3 hm H locs hP hS ls hl
          have hs : endM A B (i + 1) = max (endM A B i) (bgM B i (A 0 i)) := pf_s _ _ h0
          have hg : A2 1 i = bgM B i (A 0 i) ∨ F 4 ≤ i := (by omega : i < F 4 ∨ F 4 ≤ i).imp (fun q => (tm2 i h0 q).1) id
          refine lv_iload hx hb dX3_scoreTold_50 (lv_at hl 0 rfl) ?_
          refine lv_aload_n hx hb dX3_scoreTold_52 rfl (lv_at hl 2 rfl) ?_
          refine zm_get hx hb hK hts hown hP 4 (by decide) q_fl_RX3_40 (v := .int (zI (F 4))) rfl dX3_scoreTold_53 ?_
          refine z_icmp_ge (a := i) (b := F 4) (tgt := 77) hx hb dX3_scoreTold_56 (by decide) (by omega) (by omega) (fun h_56 => ?_) (fun h_56 => ?_)
          · skip
            refine lv_iload_n hx hb dX3_scoreTold_77 rfl (lv_at hl 1 rfl) ?_
            exact e_Wi (r := a) hx hb hr hlk (n_i _) hS (by omega) (by omega) ⟨by have h9 : F 4 = i := (by omega); unfold scM; rw [h2, h9]; (repeat' split) <;> omega, A2, B2, hP, kp2⟩ dX3_scoreTold_78
          · skip
            have hg2 : A2 1 i = bgM B i (A 0 i) := (tm2 i h0 (by omega)).1
            have hmn := hVM.many (v := i) (by omega)
            have hbr := bgM_rng hVM (v := i) (by omega) (e := A 0 i) (by omega)
            refine lv_iload_n hx hb dX3_scoreTold_59 rfl (lv_at hl 1 rfl) ?_
            refine lv_aload_n hx hb dX3_scoreTold_60 rfl (lv_at hl 2 rfl) ?_
            refine zm_get hx hb hK hts hown hP 7 (by decide) q_fl_RX3_25 (v := .ref (ad 7)) rfl dX3_scoreTold_61 ?_
            refine lv_iload hx hb dX3_scoreTold_64 (lv_at hl 0 rfl) ?_
            refine zm_lA1 hx hb hK hP (i := i) (by omega) dX3_scoreTold_66 ?_
            rw [hg2]
            refine k_R (c_SR (As := [.int (zI (a)), .int (zI (bgM B i (A 0 i)))]) (rest := []) ⟨hx, hb, hml, hown, hts⟩ hG hS hA (c_J9_max_7cf53 l G a (bgM B i (A 0 i)) (show -2147483648 ≤ a ∧ a ≤ 2147483647 by omega) (show -2147483648 ≤ (bgM B i (A 0 i)) ∧ (bgM B i (A 0 i)) ≤ 2147483647 by omega)) ⟨q_ml_RX3_92, q_st_J9_max_7cf53, q_ini_RJ9, q_code_J9_max_7cf53⟩ hs_J9_max_7cf53 trivial ⟨by decide, by decide⟩ ⟨Nat.zero_le _, Nat.zero_le _⟩ rfl hl.1 rfl (Nat.le_of_ble_eq_true rfl) dX3_scoreTold_67) ?_
            refine lv_istore_n (lv' := [(3, .int (zI (max a (bgM B i (A 0 i))))), (4, .int (zI (i))), (0, .ref (ad 0)), (1, .int (zI (w)))]) hx hb dX3_scoreTold_70 rfl hl (by decide) rfl (fun ls hl => ?_)
            refine z_iinc (lv' := [(4, .int (zI (i + 1))), (3, .int (zI (max a (bgM B i (A 0 i))))), (0, .ref (ad 0)), (1, .int (zI (w)))]) hx hb dX3_scoreTold_71 hl (k := 1) rfl (by decide) rfl (fun ls hl => ?_)
            refine lv_goto (tgt := 50) hx hb dX3_scoreTold_74 (by decide) ?_
            exact ih (i + 1) (max a (bgM B i (A 0 i))) (by omega) (by omega) (by rw [hs, ← h2]) (by omega) (by omega) H _ hP hS _ (lv_sub hl [0, 1, 2, 3] rfl)
      exact lp_50 5 0 0 (by omega) (by omega) rfl (by omega) (by omega) H1 _ hP hS _ (lv_sub hl [0, 1, 3, 4] rfl)
    · skip
      refine lv_iload_n hx hb dX3_scoreTold_43 rfl (lv_at hl 0 rfl) ?_
      exact e_Wi (r := r_34) hx hb hr hlk (n_i _) hS (by omega) (by omega) ⟨by unfold scM; rw [hr1]; (repeat' split) <;> omega, A2, B2, hP, kp2⟩ dX3_scoreTold_44
  · skip
    refine lv_iload_n hx hb dX3_scoreTold_5 rfl (lv_at hl 1 rfl) ?_
    refine z_if_ne (a := w) (tgt := 16) hx hb dX3_scoreTold_6 (by decide) (by omega) (fun h_6 => ?_) (fun h_6 => ?_)
    · skip
      refine lv_iload_n hx hb dX3_scoreTold_16 rfl (lv_at hl 1 rfl) ?_
      refine z_iconst hx hb dX3_scoreTold_17 ?_
      refine z_icmp_ne (a := w) (b := 1) (tgt := 28) hx hb dX3_scoreTold_18 (by decide) (by omega) (by omega) (fun h_18 => ?_) (fun h_18 => ?_)
      · skip
        refine lv_aload_n hx hb dX3_scoreTold_28 rfl (lv_at hl 0 rfl) ?_
        refine zm_get hx hb hK hts hown hP 3 (by decide) q_fl_RX3_74 (v := .int (zI (F 3))) rfl dX3_scoreTold_29 ?_
        exact e_Wi (r := F 3) hx hb hr hlk (n_i _) hS (by omega) (by omega) ⟨by unfold scM; (repeat' split) <;> omega, A, B, hP, KP.rfl' A B⟩ dX3_scoreTold_32
      · skip
        refine lv_aload_n hx hb dX3_scoreTold_21 rfl (lv_at hl 0 rfl) ?_
        refine k_R (c_VR (As := []) (rest := []) ⟨hx, hb, hml, hown, hts⟩ hG hS hA (c_X3_bar l G ad F A B hVM) ⟨q_ml_RX3_81, q_im_X3_bar, q_sel_X3_bar, q_ini_RX3, q_code_X3_bar⟩ hv_X3_bar (MP.rec hK hP) hP ⟨by decide, by decide⟩ ⟨Nat.zero_le _, Nat.zero_le _⟩ rfl hl.1 rfl (Nat.le_of_ble_eq_true rfl) dX3_scoreTold_22) ?_
        refine lv_goto (tgt := 32) hx hb dX3_scoreTold_25 (by decide) ?_
        exact e_Wi (r := (F 1) * 384 / (F 2)) hx hb hr hlk (n_i _) hS (by omega) (by omega) ⟨by unfold scM; (repeat' split) <;> omega, A, B, hP, KP.rfl' A B⟩ dX3_scoreTold_32
    · skip
      refine lv_aload_n hx hb dX3_scoreTold_9 rfl (lv_at hl 0 rfl) ?_
      refine zm_get hx hb hK hts hown hP 4 (by decide) q_fl_RX3_40 (v := .int (zI (F 4))) rfl dX3_scoreTold_10 ?_
      refine lv_goto (tgt := 32) hx hb dX3_scoreTold_13 (by decide) ?_
      exact e_Wi (r := F 4) hx hb hr hlk (n_i _) hS (by omega) (by omega) ⟨by unfold scM; (repeat' split) <;> omega, A, B, hP, KP.rfl' A B⟩ dX3_scoreTold_32
set_option maxHeartbeats 2000000 in
theorem c_X3_sounding (l : Launch) (G : zG) (ad : Nat → Nat) (F : Nat → Int) (A : Nat → Int → Int) (B : Int → Int → Int) (v x : Int) (sz : Nat) (hv : 0 ≤ v ∧ v < 4) (r1 : -2147483648 ≤ x ∧ x ≤ 2147483647) (hVM : MOK F A B) : MW l yX3_sounding cX3_sounding 4 (some .int) 3 68 (0) (0) G [.ref (ad 0), .int (zI (v)), .int (zI (x))] (fA 11 ad sz) sz (MP G ad F A B) (QW (fA 11 ad sz) (fun r H => r = tAt (bgM B v) (mTk B v) (mTn B v) (A 0 v) x ∧ ∃ A' B', MP G ad F A' B' H ∧ KP A B A' B')) := by
  refine mw_of hp_X3_sounding (Nat.le_of_ble_eq_true rfl) ?_
  intro p env s m below meth c ls hB hsz hP hl
  obtain ⟨hx, hb, hml, hr, hlk, hown, hts, hG⟩ := hB
  subst hsz
  have hK := hG.1
  have hS : va_S (fA 11 ad s.heap.size) s.heap s.heap [] := va_S.rf
  have hA : ∀ q : Nat, (fA 11 ad s.heap.size) q → G.2.2 ≤ q := fA_lo hP.1.2 hG.2.1
  have hD : ∀ k, k < 11 → (fA 11 ad s.heap.size) (ad k) := fun k hk => fA_in hk
  have hl : lv_has ls 4 [(0, .ref (ad 0)), (1, .int (zI (v))), (2, .int (zI (x)))] := hl
  have hmn := hVM.many hv
  refine lv_aload_n hx hb dX3_sounding_0 rfl (lv_at hl 0 rfl) ?_
  refine lv_iload_n hx hb dX3_sounding_1 rfl (lv_at hl 1 rfl) ?_
  refine k_Wv (c_VW (As := [.int (zI (v))]) (rest := []) ⟨hx, hb, hml, hown, hts⟩ hG hS hA (c_X3_findTimes l G ad F A B v s.heap.size (show 0 ≤ v ∧ v < 4 by omega) hVM) ⟨q_ml_RX3_88, q_im_X3_findTimes, q_sel_X3_findTimes, q_ini_RX3, q_code_X3_findTimes⟩ hv_X3_findTimes (MP.rec hK hP) hP ⟨by decide, by decide⟩ ⟨Nat.zero_le _, Nat.zero_le _⟩ rfl hl.1 rfl (Nat.le_of_ble_eq_true rfl) dX3_sounding_2) hS (fA_mono hS.1) (fun H1 locs1 hq hz1 hk1 hS => ?_)
  obtain ⟨A2, B2, hP, kp2, tm2⟩ : ∃ A2 B2, MP G ad F A2 B2 H1 ∧ KP A B A2 B2 ∧ TM (A 0 v) B v A2 B2 := ⟨_, _, hq, ((KP.rfl' A B).A (by decide) v _).C v _ _ (by omega), TM.one v⟩
  have hok2 := kp2.ok hVM
  have e0 : A2 0 v = A 0 v := by rw [kp2.1]
  refine z_iconst hx hb dX3_sounding_5 ?_
  refine lv_istore_n (lv' := [(3, .int (zI (0))), (0, .ref (ad 0)), (1, .int (zI (v))), (2, .int (zI (x)))]) hx hb dX3_sounding_6 rfl hl (by decide) rfl (fun ls hl => ?_)
  have lp_7 : ∀ (n : Nat) (i : Int), 0 ≤ i → i ≤ A 0 v → fp (fun i => bgM B v i ≤ x ∧ x < bgM B v i + mTk B v i) i = i → A 0 v - i < n → ∀ (H : Heap) (locs : List Loc), MP G ad F A2 B2 H → va_S (fA 11 ad s.heap.size) s.heap H locs → ∀ (ls : Array Slot), lv_has ls 4 [(3, .int (zI (i))), (0, .ref (ad 0)), (1, .int (zI (v))), (2, .int (zI (x)))] → W p l env (rmz 3 68 0 0) s m (([.ref (ad 0), .int (zI (v)), .int (zI (x))] : List Value).toArray) below meth c H locs 0 0 (MQ below (QW (fA 11 ad s.heap.size) (fun r H => r = tAt (bgM B v) (mTk B v) (mTn B v) (A 0 v) x ∧ ∃ A' B', MP G ad F A' B' H ∧ KP A B A' B')) (([.ref (ad 0), .int (zI (v)), .int (zI (x))] : List Value).toArray) s 0 0 (fA 11 ad s.heap.size)) (F0 m 7 ls []) := by
    intro n
    induction n with
    | zero => intro i h0 h1 h2 hm H locs hP hS ls hl; exact absurd hm (by omega)
    | succ n ih =>
      intro i h0 h1 h2 hm H locs hP hS ls hl
      refine lv_iload_n hx hb dX3_sounding_7 rfl (lv_at hl 0 rfl) ?_
      refine lv_aload_n hx hb dX3_sounding_8 rfl (lv_at hl 1 rfl) ?_
      refine zm_get hx hb hK hts hown hP 5 (by decide) q_fl_RX3_16 (v := .ref (ad 1)) rfl dX3_sounding_9 ?_
      refine lv_iload_n hx hb dX3_sounding_12 rfl (lv_at hl 2 rfl) ?_
      refine zm_lA0 hx hb hK hP (i := v) (by omega) dX3_sounding_13 ?_
      refine z_icmp_ge (a := i) (b := A2 0 (v)) (tgt := 61) hx hb dX3_sounding_14 (by decide) (by omega) (by omega) (fun h_14 => ?_) (fun h_14 => ?_)
      · skip
        refine z_iconst hx hb dX3_sounding_61 ?_
        exact e_Wi (r := -1) hx hb hr hlk (n_i _) hS (by omega) (by omega) ⟨(by have h9 : A 0 v = i := (by omega); unfold tAt; rw [if_neg (by rw [h9, h2]; omega)]), A2, B2, hP, kp2⟩ dX3_sounding_62
      · skip
        have hg : B2 v (10 * i + 7) = bgM B v i := tm2.2 i h0 (by omega)
        have hbr := bgM_rng hVM hv (e := i) (by omega)
        have hel : 12 ≤ mTk B v i ∧ mTk B v i ≤ 672 := (hVM.el hv (e := i) (by omega)).2.2.1
        refine lv_aload_n hx hb dX3_sounding_17 rfl (lv_at hl 1 rfl) ?_
        refine lv_iload_n hx hb dX3_sounding_18 rfl (lv_at hl 2 rfl) ?_
        refine lv_iload_n hx hb dX3_sounding_19 rfl (lv_at hl 0 rfl) ?_
        refine z_bipush hx hb dX3_sounding_20 (by decide) ?_
        refine k_R (c_VR (As := [.int (zI (v)), .int (zI (i)), .int (zI (7))]) (rest := []) ⟨hx, hb, hml, hown, hts⟩ hG hS hA (c_X3_get l G ad F A2 B2 v i 7 (show 0 ≤ v ∧ v < 4 by omega) (show 0 ≤ 10 * i + 7 ∧ 10 * i + 7 < 2000 by omega)) ⟨q_ml_RX3_57, q_im_X3_get, q_sel_X3_get, q_ini_RX3, q_code_X3_get⟩ hv_X3_get (MP.rec hK hP) hP ⟨by decide, by decide⟩ ⟨Nat.zero_le _, Nat.zero_le _⟩ rfl hl.1 rfl (Nat.le_of_ble_eq_true rfl) dX3_sounding_22) ?_
        rw [hg]
        refine lv_iload_n hx hb dX3_sounding_25 rfl (lv_at hl 3 rfl) ?_
        refine z_icmp_gt (a := bgM B v i) (b := x) (tgt := 55) hx hb dX3_sounding_26 (by decide) (by omega) (by omega) (fun h_26 => ?_) (fun h_26 => ?_)
        · skip
          refine z_iinc (lv' := [(3, .int (zI (i + 1))), (0, .ref (ad 0)), (1, .int (zI (v))), (2, .int (zI (x)))]) hx hb dX3_sounding_55 hl (k := 0) rfl (by decide) rfl (fun ls hl => ?_)
          refine lv_goto (tgt := 7) hx hb dX3_sounding_58 (by decide) ?_
          exact ih (i + 1) (by omega) (by omega) (fp_no h0 h2 (by show ¬ (bgM B v i ≤ x ∧ x < bgM B v i + mTk B v i); omega)) (by omega) H _ hP hS _ (lv_sub hl [0, 1, 2, 3] rfl)
        · skip
          refine lv_iload_n hx hb dX3_sounding_29 rfl (lv_at hl 3 rfl) ?_
          refine lv_aload_n hx hb dX3_sounding_30 rfl (lv_at hl 1 rfl) ?_
          refine lv_iload_n hx hb dX3_sounding_31 rfl (lv_at hl 2 rfl) ?_
          refine lv_iload_n hx hb dX3_sounding_32 rfl (lv_at hl 0 rfl) ?_
          refine z_bipush hx hb dX3_sounding_33 (by decide) ?_
          refine k_R (c_VR (As := [.int (zI (v)), .int (zI (i)), .int (zI (7))]) (rest := [.int (zI (x))]) ⟨hx, hb, hml, hown, hts⟩ hG hS hA (c_X3_get l G ad F A2 B2 v i 7 (show 0 ≤ v ∧ v < 4 by omega) (show 0 ≤ 10 * i + 7 ∧ 10 * i + 7 < 2000 by omega)) ⟨q_ml_RX3_57, q_im_X3_get, q_sel_X3_get, q_ini_RX3, q_code_X3_get⟩ hv_X3_get (MP.rec hK hP) hP ⟨by decide, by decide⟩ ⟨Nat.zero_le _, Nat.zero_le _⟩ rfl hl.1 rfl (Nat.le_of_ble_eq_true rfl) dX3_sounding_35) ?_
          rw [hg]
          refine lv_aload_n hx hb dX3_sounding_38 rfl (lv_at hl 1 rfl) ?_
          refine lv_iload_n hx hb dX3_sounding_39 rfl (lv_at hl 2 rfl) ?_
          refine lv_iload_n hx hb dX3_sounding_40 rfl (lv_at hl 0 rfl) ?_
          refine k_R (c_VR (As := [.int (zI (v)), .int (zI (i))]) (rest := [.int (zI (bgM B v i)), .int (zI (x))]) ⟨hx, hb, hml, hown, hts⟩ hG hS hA (c_X3_length l G ad F A2 B2 v i (by omega) (by omega) hok2) ⟨q_ml_RX3_85, q_im_X3_length, q_sel_X3_length, q_ini_RX3, q_code_X3_length⟩ hv_X3_length (MP.rec hK hP) hP ⟨by decide, by decide⟩ ⟨Nat.zero_le _, Nat.zero_le _⟩ rfl hl.1 rfl (Nat.le_of_ble_eq_true rfl) dX3_sounding_41) ?_
          rw [kp2.tk v i]
          refine z_iadd (x := bgM B v i) (y := mTk B v i) hx hb dX3_sounding_44 ?_
          refine z_icmp_ge (a := x) (b := (bgM B v i) + (mTk B v i)) (tgt := 55) hx hb dX3_sounding_45 (by decide) (by omega) (by omega) (fun h_45 => ?_) (fun h_45 => ?_)
          · skip
            refine z_iinc (lv' := [(3, .int (zI (i + 1))), (0, .ref (ad 0)), (1, .int (zI (v))), (2, .int (zI (x)))]) hx hb dX3_sounding_55 hl (k := 0) rfl (by decide) rfl (fun ls hl => ?_)
            refine lv_goto (tgt := 7) hx hb dX3_sounding_58 (by decide) ?_
            exact ih (i + 1) (by omega) (by omega) (fp_no h0 h2 (by show ¬ (bgM B v i ≤ x ∧ x < bgM B v i + mTk B v i); omega)) (by omega) H _ hP hS _ (lv_sub hl [0, 1, 2, 3] rfl)
          · skip
            refine lv_aload_n hx hb dX3_sounding_48 rfl (lv_at hl 1 rfl) ?_
            refine lv_iload_n hx hb dX3_sounding_49 rfl (lv_at hl 2 rfl) ?_
            refine lv_iload_n hx hb dX3_sounding_50 rfl (lv_at hl 0 rfl) ?_
            refine k_R (c_VR (As := [.int (zI (v)), .int (zI (i))]) (rest := []) ⟨hx, hb, hml, hown, hts⟩ hG hS hA (c_X3_tone l G ad F A2 B2 v i (by omega) (by omega) hok2) ⟨q_ml_RX3_133, q_im_X3_tone, q_sel_X3_tone, q_ini_RX3, q_code_X3_tone⟩ hv_X3_tone (MP.rec hK hP) hP ⟨by decide, by decide⟩ ⟨Nat.zero_le _, Nat.zero_le _⟩ rfl hl.1 rfl (Nat.le_of_ble_eq_true rfl) dX3_sounding_51) ?_
            rw [kp2.tn v i]
            exact e_Wi (r := mTn B v i) hx hb hr hlk (n_i _) hS (by omega) (by omega) ⟨(by have h9 := fp_yes (q := (fun i => bgM B v i ≤ x ∧ x < bgM B v i + mTk B v i)) (n := A 0 v) h0 h2 (by show bgM B v i ≤ x ∧ x < bgM B v i + mTk B v i; omega) (by omega); unfold tAt; rw [if_pos (by rw [h9]; omega), h9]), A2, B2, hP, kp2⟩ dX3_sounding_54
  exact lp_7 201 0 (by omega) (by omega) rfl (by omega) H1 _ hP hS _ (lv_sub hl [0, 1, 2, 3] rfl)
abbrev jmM (A : Nat → Int → Int) (B : Int → Int → Int) (v e : Int) : Prop := 0 ≤ e ∧ e + 1 < A 0 v ∧ B v (10 * e + 6) = 1 ∧ ¬ mTn B v e = -1 ∧ mTn B v e = mTn B v (e + 1)
def vtS (A : Nat → Int → Int) (B : Int → Int → Int) (v w : Int) (k a : Int) : Int :=
  if mTn B v k = -1 then a else if w = 2 then (if jmM A B v (k - 1) then a + 0 else a + 1) else if w = 4 then a + B v (10 * k + 8) else if w = 5 then max a (mTn B v k) else if a = -1 then mTn B v k else min a (mTn B v k)
def vtF (A : Nat → Int → Int) (B : Int → Int → Int) (v w : Int) : Int → Int := pf (if 4 < w then -1 else 0) (vtS A B v w)
def vtM (A : Nat → Int → Int) (B : Int → Int → Int) (v w : Int) : Int := if w = 0 then A 0 v else if w = 1 then A 1 v else if w = 3 then A 2 v else vtF A B v w (A 0 v)
set_option maxHeartbeats 600000 in
theorem c_X3_voiceTold (l : Launch) (G : zG) (ad : Nat → Nat) (F : Nat → Int) (A : Nat → Int → Int) (B : Int → Int → Int) (v w : Int) (hv : 0 ≤ v ∧ v < 4) (hw : 0 ≤ w ∧ w ≤ 6) (hVs : ∀ e, 0 ≤ e → e < A 0 v → 0 ≤ B v (10 * e + 8) ∧ B v (10 * e + 8) ≤ 1) (hVM : MOK F A B) : MR l yX3_voiceTold cX3_voiceTold 6 (some .int) 3 67 G [.ref (ad 0), .int (zI (v)), .int (zI (w))] (MP G ad F A B) (.int (zI (vtM A B v w))) := by
  refine mr_of hp_X3_voiceTold (Nat.le_of_ble_eq_true rfl) ?_
  intro p env s m below meth c ls hB hP hl
  obtain ⟨hx, hb, hml, hr, hlk, hown, hts, hG⟩ := hB
  have hK := hG.1
  have hS : va_S (fun _ => False) s.heap s.heap [] := va_S.rf
  have hA : ∀ q : Nat, (fun _ : Nat => False) q → G.2.2 ≤ q := fun _ h => h.elim
  have hl : lv_has ls 6 [(0, .ref (ad 0)), (1, .int (zI (v))), (2, .int (zI (w)))] := hl
  have hmn := hVM.many hv
  refine lv_iload_n hx hb dX3_voiceTold_0 rfl (lv_at hl 2 rfl) ?_
  refine z_if_ne (a := w) (tgt := 11) hx hb dX3_voiceTold_1 (by decide) (by omega) (fun h_1 => ?_) (fun h_1 => ?_)
  · skip
    refine lv_iload_n hx hb dX3_voiceTold_11 rfl (lv_at hl 2 rfl) ?_
    refine z_iconst hx hb dX3_voiceTold_12 ?_
    refine z_icmp_ne (a := w) (b := 1) (tgt := 23) hx hb dX3_voiceTold_13 (by decide) (by omega) (by omega) (fun h_13 => ?_) (fun h_13 => ?_)
    · skip
      refine lv_iload_n hx hb dX3_voiceTold_23 rfl (lv_at hl 2 rfl) ?_
      refine z_iconst hx hb dX3_voiceTold_24 ?_
      refine z_icmp_ne (a := w) (b := 3) (tgt := 35) hx hb dX3_voiceTold_25 (by decide) (by omega) (by omega) (fun h_25 => ?_) (fun h_25 => ?_)
      · skip
        refine lv_iload_n hx hb dX3_voiceTold_35 rfl (lv_at hl 2 rfl) ?_
        refine z_iconst hx hb dX3_voiceTold_36 ?_
        refine z_icmp_le (a := w) (b := 4) (tgt := 44) hx hb dX3_voiceTold_37 (by decide) (by omega) (by omega) (fun h_37 => ?_) (fun h_37 => ?_)
        · skip
          refine z_iconst hx hb dX3_voiceTold_44 ?_
          refine lv_istore_n (lv' := [(3, .int (zI (0))), (0, .ref (ad 0)), (1, .int (zI (v))), (2, .int (zI (w)))]) hx hb dX3_voiceTold_45 rfl hl (by decide) rfl (fun ls hl => ?_)
          refine z_iconst hx hb dX3_voiceTold_46 ?_
          refine lv_istore (lv' := [(4, .int (zI (0))), (3, .int (zI (0))), (0, .ref (ad 0)), (1, .int (zI (v))), (2, .int (zI (w)))]) hx hb dX3_voiceTold_47 hl (by decide) rfl (fun ls hl => ?_)
          have lp_49 : ∀ (n : Nat) (i a : Int), 0 ≤ i → i ≤ A 0 v → a = vtF A B v w i → (-2 ≤ a ∧ a ≤ i + 1000) → A 0 v - i < n → ∀ (ls : Array Slot), lv_has ls 6 [(4, .int (zI (i))), (3, .int (zI (a))), (0, .ref (ad 0)), (1, .int (zI (v))), (2, .int (zI (w)))] → W p l env (rmz 3 67 0 0) s m (([.ref (ad 0), .int (zI (v)), .int (zI (w))] : List Value).toArray) below meth c s.heap [] 0 0 (MQ below (QR (.int (zI (vtM A B v w)))) (([.ref (ad 0), .int (zI (v)), .int (zI (w))] : List Value).toArray) s 0 0 (fun _ => False)) (F0 m 49 ls []) := by
            intro n
            induction n with
            | zero => intro i a h0 h1 h2 h3 hm ls hl; exact absurd hm (by omega)
            | succ n ih =>
              intro i a h0 h1 h2 h3 hm ls hl
              have hs : vtF A B v w (i + 1) = vtS A B v w i (vtF A B v w i) := pf_s _ _ h0
              refine lv_iload hx hb dX3_voiceTold_49 (lv_at hl 0 rfl) ?_
              refine lv_aload_n hx hb dX3_voiceTold_51 rfl (lv_at hl 2 rfl) ?_
              refine zm_get hx hb hK hts hown hP 5 (by decide) q_fl_RX3_16 (v := .ref (ad 1)) rfl dX3_voiceTold_52 ?_
              refine lv_iload_n hx hb dX3_voiceTold_55 rfl (lv_at hl 3 rfl) ?_
              refine zm_lA0 hx hb hK hP (i := v) (by omega) dX3_voiceTold_56 ?_
              refine z_icmp_ge (a := i) (b := A 0 (v)) (tgt := 164) hx hb dX3_voiceTold_57 (by decide) (by omega) (by omega) (fun h_57 => ?_) (fun h_57 => ?_)
              · skip
                refine lv_iload_n hx hb dX3_voiceTold_164 rfl (lv_at hl 1 rfl) ?_
                exact e_R (r' := a) hx hb hr hlk (n_i _) (by have h9 : A 0 v = i := (by omega); unfold vtM; rw [h2, h9]; (repeat' split) <;> first | rfl | omega) dX3_voiceTold_165
              · skip
                have hel := hVM.el hv (e := i) (by omega)
                have hsh := hVs i h0 (by omega)
                have htr := mTn_rng hVM hv (e := i) (by omega)
                refine lv_aload_n hx hb dX3_voiceTold_60 rfl (lv_at hl 2 rfl) ?_
                refine lv_iload_n hx hb dX3_voiceTold_61 rfl (lv_at hl 3 rfl) ?_
                refine lv_iload hx hb dX3_voiceTold_62 (lv_at hl 0 rfl) ?_
                refine k_R (c_VR (As := [.int (zI (v)), .int (zI (i))]) (rest := []) ⟨hx, hb, hml, hown, hts⟩ hG hS hA (c_X3_tone l G ad F A B v i (show 0 ≤ v ∧ v < 4 by omega) (show 0 ≤ i ∧ i < A 0 v by omega) hVM) ⟨q_ml_RX3_133, q_im_X3_tone, q_sel_X3_tone, q_ini_RX3, q_code_X3_tone⟩ hv_X3_tone (MP.rec hK hP) hP ⟨by decide, by decide⟩ ⟨Nat.zero_le _, Nat.zero_le _⟩ rfl hl.1 rfl (Nat.le_of_ble_eq_true rfl) dX3_voiceTold_64) ?_
                refine lv_istore (lv' := [(5, .int (zI (mTn B v i))), (4, .int (zI (i))), (3, .int (zI (a))), (0, .ref (ad 0)), (1, .int (zI (v))), (2, .int (zI (w)))]) hx hb dX3_voiceTold_67 hl (by decide) rfl (fun ls hl => ?_)
                refine lv_iload hx hb dX3_voiceTold_69 (lv_at hl 0 rfl) ?_
                refine z_iconst hx hb dX3_voiceTold_71 ?_
                refine z_icmp_ne (a := mTn B v i) (b := -1) (tgt := 78) hx hb dX3_voiceTold_72 (by decide) (by omega) (by omega) (fun h_72 => ?_) (fun h_72 => ?_)
                · skip
                  refine lv_iload_n hx hb dX3_voiceTold_78 rfl (lv_at hl 5 rfl) ?_
                  refine z_iconst hx hb dX3_voiceTold_79 ?_
                  refine z_icmp_ne (a := w) (b := 2) (tgt := 106) hx hb dX3_voiceTold_80 (by decide) (by omega) (by omega) (fun h_80 => ?_) (fun h_80 => ?_)
                  · skip
                    refine lv_iload_n hx hb dX3_voiceTold_106 rfl (lv_at hl 5 rfl) ?_
                    refine z_iconst hx hb dX3_voiceTold_107 ?_
                    refine z_icmp_ne (a := w) (b := 4) (tgt := 126) hx hb dX3_voiceTold_108 (by decide) (by omega) (by omega) (fun h_108 => ?_) (fun h_108 => ?_)
                    · skip
                      refine lv_iload_n hx hb dX3_voiceTold_126 rfl (lv_at hl 5 rfl) ?_
                      refine z_iconst hx hb dX3_voiceTold_127 ?_
                      refine z_icmp_ne (a := w) (b := 5) (tgt := 141) hx hb dX3_voiceTold_128 (by decide) (by omega) (by omega) (fun h_128 => ?_) (fun h_128 => ?_)
                      · skip
                        refine lv_iload_n hx hb dX3_voiceTold_141 rfl (lv_at hl 2 rfl) ?_
                        refine z_iconst hx hb dX3_voiceTold_142 ?_
                        refine z_icmp_ne (a := a) (b := -1) (tgt := 151) hx hb dX3_voiceTold_143 (by decide) (by omega) (by omega) (fun h_143 => ?_) (fun h_143 => ?_)
                        · skip
                          refine lv_iload_n hx hb dX3_voiceTold_151 rfl (lv_at hl 2 rfl) ?_
                          refine lv_iload hx hb dX3_voiceTold_152 (lv_at hl 0 rfl) ?_
                          refine k_R (c_SR (As := [.int (zI (a)), .int (zI (mTn B v i))]) (rest := []) ⟨hx, hb, hml, hown, hts⟩ hG hS hA (c_J9_min_7cf53 l G a (mTn B v i) (show -2147483648 ≤ a ∧ a ≤ 2147483647 by omega) (show -2147483648 ≤ (mTn B v i) ∧ (mTn B v i) ≤ 2147483647 by omega)) ⟨q_ml_RX3_110, q_st_J9_min_7cf53, q_ini_RJ9, q_code_J9_min_7cf53⟩ hs_J9_min_7cf53 trivial ⟨by decide, by decide⟩ ⟨Nat.zero_le _, Nat.zero_le _⟩ rfl hl.1 rfl (Nat.le_of_ble_eq_true rfl) dX3_voiceTold_154) ?_
                          refine lv_istore_n (lv' := [(3, .int (zI (min a (mTn B v i)))), (5, .int (zI (mTn B v i))), (4, .int (zI (i))), (0, .ref (ad 0)), (1, .int (zI (v))), (2, .int (zI (w)))]) hx hb dX3_voiceTold_157 rfl hl (by decide) rfl (fun ls hl => ?_)
                          refine z_iinc (lv' := [(4, .int (zI (i + 1))), (3, .int (zI (min a (mTn B v i)))), (5, .int (zI (mTn B v i))), (0, .ref (ad 0)), (1, .int (zI (v))), (2, .int (zI (w)))]) hx hb dX3_voiceTold_158 hl (k := 2) rfl (by decide) rfl (fun ls hl => ?_)
                          refine lv_goto (tgt := 49) hx hb dX3_voiceTold_161 (by decide) ?_
                          exact ih (i + 1) (min a (mTn B v i)) (by omega) (by omega) (by rw [hs, ← h2]; unfold vtS jmM; (repeat' split) <;> first | rfl | (exfalso; omega)) (by omega) (by omega) _ (lv_sub hl [0, 1, 3, 4, 5] rfl)
                        · skip
                          refine lv_iload hx hb dX3_voiceTold_146 (lv_at hl 0 rfl) ?_
                          refine lv_goto (tgt := 157) hx hb dX3_voiceTold_148 (by decide) ?_
                          refine lv_istore_n (lv' := [(3, .int (zI (mTn B v i))), (5, .int (zI (mTn B v i))), (4, .int (zI (i))), (0, .ref (ad 0)), (1, .int (zI (v))), (2, .int (zI (w)))]) hx hb dX3_voiceTold_157 rfl hl (by decide) rfl (fun ls hl => ?_)
                          refine z_iinc (lv' := [(4, .int (zI (i + 1))), (3, .int (zI (mTn B v i))), (5, .int (zI (mTn B v i))), (0, .ref (ad 0)), (1, .int (zI (v))), (2, .int (zI (w)))]) hx hb dX3_voiceTold_158 hl (k := 2) rfl (by decide) rfl (fun ls hl => ?_)
                          refine lv_goto (tgt := 49) hx hb dX3_voiceTold_161 (by decide) ?_
                          exact ih (i + 1) (mTn B v i) (by omega) (by omega) (by rw [hs, ← h2]; unfold vtS jmM; (repeat' split) <;> first | rfl | (exfalso; omega)) (by omega) (by omega) _ (lv_sub hl [0, 1, 3, 4, 5] rfl)
                      · skip
                        refine lv_iload_n hx hb dX3_voiceTold_131 rfl (lv_at hl 2 rfl) ?_
                        refine lv_iload hx hb dX3_voiceTold_132 (lv_at hl 0 rfl) ?_
                        refine k_R (c_SR (As := [.int (zI (a)), .int (zI (mTn B v i))]) (rest := []) ⟨hx, hb, hml, hown, hts⟩ hG hS hA (c_J9_max_7cf53 l G a (mTn B v i) (show -2147483648 ≤ a ∧ a ≤ 2147483647 by omega) (show -2147483648 ≤ (mTn B v i) ∧ (mTn B v i) ≤ 2147483647 by omega)) ⟨q_ml_RX3_92, q_st_J9_max_7cf53, q_ini_RJ9, q_code_J9_max_7cf53⟩ hs_J9_max_7cf53 trivial ⟨by decide, by decide⟩ ⟨Nat.zero_le _, Nat.zero_le _⟩ rfl hl.1 rfl (Nat.le_of_ble_eq_true rfl) dX3_voiceTold_134) ?_
                        refine lv_istore_n (lv' := [(3, .int (zI (max a (mTn B v i)))), (5, .int (zI (mTn B v i))), (4, .int (zI (i))), (0, .ref (ad 0)), (1, .int (zI (v))), (2, .int (zI (w)))]) hx hb dX3_voiceTold_137 rfl hl (by decide) rfl (fun ls hl => ?_)
                        refine lv_goto (tgt := 158) hx hb dX3_voiceTold_138 (by decide) ?_
                        refine z_iinc (lv' := [(4, .int (zI (i + 1))), (3, .int (zI (max a (mTn B v i)))), (5, .int (zI (mTn B v i))), (0, .ref (ad 0)), (1, .int (zI (v))), (2, .int (zI (w)))]) hx hb dX3_voiceTold_158 hl (k := 2) rfl (by decide) rfl (fun ls hl => ?_)
                        refine lv_goto (tgt := 49) hx hb dX3_voiceTold_161 (by decide) ?_
                        exact ih (i + 1) (max a (mTn B v i)) (by omega) (by omega) (by rw [hs, ← h2]; unfold vtS jmM; (repeat' split) <;> first | rfl | (exfalso; omega)) (by omega) (by omega) _ (lv_sub hl [0, 1, 3, 4, 5] rfl)
                    · skip
                      refine lv_iload_n hx hb dX3_voiceTold_111 rfl (lv_at hl 2 rfl) ?_
                      refine lv_aload_n hx hb dX3_voiceTold_112 rfl (lv_at hl 3 rfl) ?_
                      refine lv_iload_n hx hb dX3_voiceTold_113 rfl (lv_at hl 4 rfl) ?_
                      refine lv_iload hx hb dX3_voiceTold_114 (lv_at hl 1 rfl) ?_
                      refine z_bipush hx hb dX3_voiceTold_116 (by decide) ?_
                      refine k_R (c_VR (As := [.int (zI (v)), .int (zI (i)), .int (zI (8))]) (rest := [.int (zI (a))]) ⟨hx, hb, hml, hown, hts⟩ hG hS hA (c_X3_get l G ad F A B v i 8 (show 0 ≤ v ∧ v < 4 by omega) (show 0 ≤ 10 * i + 8 ∧ 10 * i + 8 < 2000 by omega)) ⟨q_ml_RX3_57, q_im_X3_get, q_sel_X3_get, q_ini_RX3, q_code_X3_get⟩ hv_X3_get (MP.rec hK hP) hP ⟨by decide, by decide⟩ ⟨Nat.zero_le _, Nat.zero_le _⟩ rfl hl.1 rfl (Nat.le_of_ble_eq_true rfl) dX3_voiceTold_118) ?_
                      refine z_iadd (x := a) (y := B v (10 * i + 8)) hx hb dX3_voiceTold_121 ?_
                      refine lv_istore_n (lv' := [(3, .int (zI ((a) + (B v (10 * i + 8))))), (5, .int (zI (mTn B v i))), (4, .int (zI (i))), (0, .ref (ad 0)), (1, .int (zI (v))), (2, .int (zI (w)))]) hx hb dX3_voiceTold_122 rfl hl (by decide) rfl (fun ls hl => ?_)
                      refine lv_goto (tgt := 158) hx hb dX3_voiceTold_123 (by decide) ?_
                      refine z_iinc (lv' := [(4, .int (zI (i + 1))), (3, .int (zI ((a) + (B v (10 * i + 8))))), (5, .int (zI (mTn B v i))), (0, .ref (ad 0)), (1, .int (zI (v))), (2, .int (zI (w)))]) hx hb dX3_voiceTold_158 hl (k := 2) rfl (by decide) rfl (fun ls hl => ?_)
                      refine lv_goto (tgt := 49) hx hb dX3_voiceTold_161 (by decide) ?_
                      exact ih (i + 1) ((a) + (B v (10 * i + 8))) (by omega) (by omega) (by rw [hs, ← h2]; unfold vtS jmM; (repeat' split) <;> first | rfl | (exfalso; omega)) (by omega) (by omega) _ (lv_sub hl [0, 1, 3, 4, 5] rfl)
                  · skip
                    refine lv_iload_n hx hb dX3_voiceTold_83 rfl (lv_at hl 2 rfl) ?_
                    refine lv_aload_n hx hb dX3_voiceTold_84 rfl (lv_at hl 3 rfl) ?_
                    refine lv_iload_n hx hb dX3_voiceTold_85 rfl (lv_at hl 4 rfl) ?_
                    refine lv_iload hx hb dX3_voiceTold_86 (lv_at hl 1 rfl) ?_
                    refine z_iconst hx hb dX3_voiceTold_88 ?_
                    refine z_isub (x := i) (y := 1) hx hb dX3_voiceTold_89 ?_
                    refine k_R (c_VR (As := [.int (zI (v)), .int (zI ((i) - (1)))]) (rest := [.int (zI (a))]) ⟨hx, hb, hml, hown, hts⟩ hG hS hA (c_X3_isJoined l G ad F A B v ((i) - (1)) (show 0 ≤ v ∧ v < 4 by omega) (show -1 ≤ ((i) - (1)) ∧ ((i) - (1)) < 200 by omega) hVM) ⟨q_ml_RX3_136, q_im_X3_isJoined, q_sel_X3_isJoined, q_ini_RX3, q_code_X3_isJoined⟩ hv_X3_isJoined (MP.rec hK hP) hP ⟨by decide, by decide⟩ ⟨Nat.zero_le _, Nat.zero_le _⟩ rfl hl.1 rfl (Nat.le_of_ble_eq_true rfl) dX3_voiceTold_90) ?_
                    refine z_bif_eq (q := 0 ≤ ((i) - (1)) ∧ ((i) - (1)) + 1 < A 0 v ∧ B v (10 * ((i) - (1)) + 6) = 1 ∧ ¬ mTn B v ((i) - (1)) = -1 ∧ mTn B v ((i) - (1)) = mTn B v (((i) - (1)) + 1)) (tgt := 100) hx hb dX3_voiceTold_93 (by decide) (fun h_93 => ?_) (fun h_93 => ?_)
                    · skip
                      refine z_iconst hx hb dX3_voiceTold_100 ?_
                      refine z_iadd (x := a) (y := 1) hx hb dX3_voiceTold_101 ?_
                      refine lv_istore_n (lv' := [(3, .int (zI ((a) + (1)))), (5, .int (zI (mTn B v i))), (4, .int (zI (i))), (0, .ref (ad 0)), (1, .int (zI (v))), (2, .int (zI (w)))]) hx hb dX3_voiceTold_102 rfl hl (by decide) rfl (fun ls hl => ?_)
                      refine lv_goto (tgt := 158) hx hb dX3_voiceTold_103 (by decide) ?_
                      refine z_iinc (lv' := [(4, .int (zI (i + 1))), (3, .int (zI ((a) + (1)))), (5, .int (zI (mTn B v i))), (0, .ref (ad 0)), (1, .int (zI (v))), (2, .int (zI (w)))]) hx hb dX3_voiceTold_158 hl (k := 2) rfl (by decide) rfl (fun ls hl => ?_)
                      refine lv_goto (tgt := 49) hx hb dX3_voiceTold_161 (by decide) ?_
                      exact ih (i + 1) ((a) + (1)) (by omega) (by omega) (by rw [hs, ← h2]; unfold vtS jmM; (repeat' split) <;> first | rfl | (exfalso; omega)) (by omega) (by omega) _ (lv_sub hl [0, 1, 3, 4, 5] rfl)
                    · skip
                      refine z_iconst hx hb dX3_voiceTold_96 ?_
                      refine lv_goto (tgt := 101) hx hb dX3_voiceTold_97 (by decide) ?_
                      refine z_iadd (x := a) (y := 0) hx hb dX3_voiceTold_101 ?_
                      refine lv_istore_n (lv' := [(3, .int (zI ((a) + (0)))), (5, .int (zI (mTn B v i))), (4, .int (zI (i))), (0, .ref (ad 0)), (1, .int (zI (v))), (2, .int (zI (w)))]) hx hb dX3_voiceTold_102 rfl hl (by decide) rfl (fun ls hl => ?_)
                      refine lv_goto (tgt := 158) hx hb dX3_voiceTold_103 (by decide) ?_
                      refine z_iinc (lv' := [(4, .int (zI (i + 1))), (3, .int (zI ((a) + (0)))), (5, .int (zI (mTn B v i))), (0, .ref (ad 0)), (1, .int (zI (v))), (2, .int (zI (w)))]) hx hb dX3_voiceTold_158 hl (k := 2) rfl (by decide) rfl (fun ls hl => ?_)
                      refine lv_goto (tgt := 49) hx hb dX3_voiceTold_161 (by decide) ?_
                      exact ih (i + 1) ((a) + (0)) (by omega) (by omega) (by rw [hs, ← h2]; unfold vtS jmM; (repeat' split) <;> first | rfl | (exfalso; omega)) (by omega) (by omega) _ (lv_sub hl [0, 1, 3, 4, 5] rfl)
                · skip
                  refine lv_goto (tgt := 158) hx hb dX3_voiceTold_75 (by decide) ?_
                  refine z_iinc (lv' := [(4, .int (zI (i + 1))), (5, .int (zI (mTn B v i))), (3, .int (zI (a))), (0, .ref (ad 0)), (1, .int (zI (v))), (2, .int (zI (w)))]) hx hb dX3_voiceTold_158 hl (k := 1) rfl (by decide) rfl (fun ls hl => ?_)
                  refine lv_goto (tgt := 49) hx hb dX3_voiceTold_161 (by decide) ?_
                  exact ih (i + 1) (a) (by omega) (by omega) (by rw [hs, ← h2]; unfold vtS jmM; (repeat' split) <;> first | rfl | (exfalso; omega)) (by omega) (by omega) _ (lv_sub hl [0, 2, 3, 4, 5] rfl)
          exact lp_49 201 0 (0) (by omega) (by omega) (by unfold vtF; rw [pf_0]; split <;> omega) (by omega) (by omega) _ (lv_sub hl [0, 1, 2, 3, 4] rfl)
        · skip
          refine z_iconst hx hb dX3_voiceTold_40 ?_
          refine lv_goto (tgt := 45) hx hb dX3_voiceTold_41 (by decide) ?_
          refine lv_istore_n (lv' := [(3, .int (zI (-1))), (0, .ref (ad 0)), (1, .int (zI (v))), (2, .int (zI (w)))]) hx hb dX3_voiceTold_45 rfl hl (by decide) rfl (fun ls hl => ?_)
          refine z_iconst hx hb dX3_voiceTold_46 ?_
          refine lv_istore (lv' := [(4, .int (zI (0))), (3, .int (zI (-1))), (0, .ref (ad 0)), (1, .int (zI (v))), (2, .int (zI (w)))]) hx hb dX3_voiceTold_47 hl (by decide) rfl (fun ls hl => ?_)
          have lp_49 : ∀ (n : Nat) (i a : Int), 0 ≤ i → i ≤ A 0 v → a = vtF A B v w i → (-2 ≤ a ∧ a ≤ i + 1000) → A 0 v - i < n → ∀ (ls : Array Slot), lv_has ls 6 [(4, .int (zI (i))), (3, .int (zI (a))), (0, .ref (ad 0)), (1, .int (zI (v))), (2, .int (zI (w)))] → W p l env (rmz 3 67 0 0) s m (([.ref (ad 0), .int (zI (v)), .int (zI (w))] : List Value).toArray) below meth c s.heap [] 0 0 (MQ below (QR (.int (zI (vtM A B v w)))) (([.ref (ad 0), .int (zI (v)), .int (zI (w))] : List Value).toArray) s 0 0 (fun _ => False)) (F0 m 49 ls []) := by
            intro n
            induction n with
            | zero => intro i a h0 h1 h2 h3 hm ls hl; exact absurd hm (by omega)
            | succ n ih =>
              intro i a h0 h1 h2 h3 hm ls hl
              have hs : vtF A B v w (i + 1) = vtS A B v w i (vtF A B v w i) := pf_s _ _ h0
              refine lv_iload hx hb dX3_voiceTold_49 (lv_at hl 0 rfl) ?_
              refine lv_aload_n hx hb dX3_voiceTold_51 rfl (lv_at hl 2 rfl) ?_
              refine zm_get hx hb hK hts hown hP 5 (by decide) q_fl_RX3_16 (v := .ref (ad 1)) rfl dX3_voiceTold_52 ?_
              refine lv_iload_n hx hb dX3_voiceTold_55 rfl (lv_at hl 3 rfl) ?_
              refine zm_lA0 hx hb hK hP (i := v) (by omega) dX3_voiceTold_56 ?_
              refine z_icmp_ge (a := i) (b := A 0 (v)) (tgt := 164) hx hb dX3_voiceTold_57 (by decide) (by omega) (by omega) (fun h_57 => ?_) (fun h_57 => ?_)
              · skip
                refine lv_iload_n hx hb dX3_voiceTold_164 rfl (lv_at hl 1 rfl) ?_
                exact e_R (r' := a) hx hb hr hlk (n_i _) (by have h9 : A 0 v = i := (by omega); unfold vtM; rw [h2, h9]; (repeat' split) <;> first | rfl | omega) dX3_voiceTold_165
              · skip
                have hel := hVM.el hv (e := i) (by omega)
                have hsh := hVs i h0 (by omega)
                have htr := mTn_rng hVM hv (e := i) (by omega)
                refine lv_aload_n hx hb dX3_voiceTold_60 rfl (lv_at hl 2 rfl) ?_
                refine lv_iload_n hx hb dX3_voiceTold_61 rfl (lv_at hl 3 rfl) ?_
                refine lv_iload hx hb dX3_voiceTold_62 (lv_at hl 0 rfl) ?_
                refine k_R (c_VR (As := [.int (zI (v)), .int (zI (i))]) (rest := []) ⟨hx, hb, hml, hown, hts⟩ hG hS hA (c_X3_tone l G ad F A B v i (show 0 ≤ v ∧ v < 4 by omega) (show 0 ≤ i ∧ i < A 0 v by omega) hVM) ⟨q_ml_RX3_133, q_im_X3_tone, q_sel_X3_tone, q_ini_RX3, q_code_X3_tone⟩ hv_X3_tone (MP.rec hK hP) hP ⟨by decide, by decide⟩ ⟨Nat.zero_le _, Nat.zero_le _⟩ rfl hl.1 rfl (Nat.le_of_ble_eq_true rfl) dX3_voiceTold_64) ?_
                refine lv_istore (lv' := [(5, .int (zI (mTn B v i))), (4, .int (zI (i))), (3, .int (zI (a))), (0, .ref (ad 0)), (1, .int (zI (v))), (2, .int (zI (w)))]) hx hb dX3_voiceTold_67 hl (by decide) rfl (fun ls hl => ?_)
                refine lv_iload hx hb dX3_voiceTold_69 (lv_at hl 0 rfl) ?_
                refine z_iconst hx hb dX3_voiceTold_71 ?_
                refine z_icmp_ne (a := mTn B v i) (b := -1) (tgt := 78) hx hb dX3_voiceTold_72 (by decide) (by omega) (by omega) (fun h_72 => ?_) (fun h_72 => ?_)
                · skip
                  refine lv_iload_n hx hb dX3_voiceTold_78 rfl (lv_at hl 5 rfl) ?_
                  refine z_iconst hx hb dX3_voiceTold_79 ?_
                  refine z_icmp_ne (a := w) (b := 2) (tgt := 106) hx hb dX3_voiceTold_80 (by decide) (by omega) (by omega) (fun h_80 => ?_) (fun h_80 => ?_)
                  · skip
                    refine lv_iload_n hx hb dX3_voiceTold_106 rfl (lv_at hl 5 rfl) ?_
                    refine z_iconst hx hb dX3_voiceTold_107 ?_
                    refine z_icmp_ne (a := w) (b := 4) (tgt := 126) hx hb dX3_voiceTold_108 (by decide) (by omega) (by omega) (fun h_108 => ?_) (fun h_108 => ?_)
                    · skip
                      refine lv_iload_n hx hb dX3_voiceTold_126 rfl (lv_at hl 5 rfl) ?_
                      refine z_iconst hx hb dX3_voiceTold_127 ?_
                      refine z_icmp_ne (a := w) (b := 5) (tgt := 141) hx hb dX3_voiceTold_128 (by decide) (by omega) (by omega) (fun h_128 => ?_) (fun h_128 => ?_)
                      · skip
                        refine lv_iload_n hx hb dX3_voiceTold_141 rfl (lv_at hl 2 rfl) ?_
                        refine z_iconst hx hb dX3_voiceTold_142 ?_
                        refine z_icmp_ne (a := a) (b := -1) (tgt := 151) hx hb dX3_voiceTold_143 (by decide) (by omega) (by omega) (fun h_143 => ?_) (fun h_143 => ?_)
                        · skip
                          refine lv_iload_n hx hb dX3_voiceTold_151 rfl (lv_at hl 2 rfl) ?_
                          refine lv_iload hx hb dX3_voiceTold_152 (lv_at hl 0 rfl) ?_
                          refine k_R (c_SR (As := [.int (zI (a)), .int (zI (mTn B v i))]) (rest := []) ⟨hx, hb, hml, hown, hts⟩ hG hS hA (c_J9_min_7cf53 l G a (mTn B v i) (show -2147483648 ≤ a ∧ a ≤ 2147483647 by omega) (show -2147483648 ≤ (mTn B v i) ∧ (mTn B v i) ≤ 2147483647 by omega)) ⟨q_ml_RX3_110, q_st_J9_min_7cf53, q_ini_RJ9, q_code_J9_min_7cf53⟩ hs_J9_min_7cf53 trivial ⟨by decide, by decide⟩ ⟨Nat.zero_le _, Nat.zero_le _⟩ rfl hl.1 rfl (Nat.le_of_ble_eq_true rfl) dX3_voiceTold_154) ?_
                          refine lv_istore_n (lv' := [(3, .int (zI (min a (mTn B v i)))), (5, .int (zI (mTn B v i))), (4, .int (zI (i))), (0, .ref (ad 0)), (1, .int (zI (v))), (2, .int (zI (w)))]) hx hb dX3_voiceTold_157 rfl hl (by decide) rfl (fun ls hl => ?_)
                          refine z_iinc (lv' := [(4, .int (zI (i + 1))), (3, .int (zI (min a (mTn B v i)))), (5, .int (zI (mTn B v i))), (0, .ref (ad 0)), (1, .int (zI (v))), (2, .int (zI (w)))]) hx hb dX3_voiceTold_158 hl (k := 2) rfl (by decide) rfl (fun ls hl => ?_)
                          refine lv_goto (tgt := 49) hx hb dX3_voiceTold_161 (by decide) ?_
                          exact ih (i + 1) (min a (mTn B v i)) (by omega) (by omega) (by rw [hs, ← h2]; unfold vtS jmM; (repeat' split) <;> first | rfl | (exfalso; omega)) (by omega) (by omega) _ (lv_sub hl [0, 1, 3, 4, 5] rfl)
                        · skip
                          refine lv_iload hx hb dX3_voiceTold_146 (lv_at hl 0 rfl) ?_
                          refine lv_goto (tgt := 157) hx hb dX3_voiceTold_148 (by decide) ?_
                          refine lv_istore_n (lv' := [(3, .int (zI (mTn B v i))), (5, .int (zI (mTn B v i))), (4, .int (zI (i))), (0, .ref (ad 0)), (1, .int (zI (v))), (2, .int (zI (w)))]) hx hb dX3_voiceTold_157 rfl hl (by decide) rfl (fun ls hl => ?_)
                          refine z_iinc (lv' := [(4, .int (zI (i + 1))), (3, .int (zI (mTn B v i))), (5, .int (zI (mTn B v i))), (0, .ref (ad 0)), (1, .int (zI (v))), (2, .int (zI (w)))]) hx hb dX3_voiceTold_158 hl (k := 2) rfl (by decide) rfl (fun ls hl => ?_)
                          refine lv_goto (tgt := 49) hx hb dX3_voiceTold_161 (by decide) ?_
                          exact ih (i + 1) (mTn B v i) (by omega) (by omega) (by rw [hs, ← h2]; unfold vtS jmM; (repeat' split) <;> first | rfl | (exfalso; omega)) (by omega) (by omega) _ (lv_sub hl [0, 1, 3, 4, 5] rfl)
                      · skip
                        refine lv_iload_n hx hb dX3_voiceTold_131 rfl (lv_at hl 2 rfl) ?_
                        refine lv_iload hx hb dX3_voiceTold_132 (lv_at hl 0 rfl) ?_
                        refine k_R (c_SR (As := [.int (zI (a)), .int (zI (mTn B v i))]) (rest := []) ⟨hx, hb, hml, hown, hts⟩ hG hS hA (c_J9_max_7cf53 l G a (mTn B v i) (show -2147483648 ≤ a ∧ a ≤ 2147483647 by omega) (show -2147483648 ≤ (mTn B v i) ∧ (mTn B v i) ≤ 2147483647 by omega)) ⟨q_ml_RX3_92, q_st_J9_max_7cf53, q_ini_RJ9, q_code_J9_max_7cf53⟩ hs_J9_max_7cf53 trivial ⟨by decide, by decide⟩ ⟨Nat.zero_le _, Nat.zero_le _⟩ rfl hl.1 rfl (Nat.le_of_ble_eq_true rfl) dX3_voiceTold_134) ?_
                        refine lv_istore_n (lv' := [(3, .int (zI (max a (mTn B v i)))), (5, .int (zI (mTn B v i))), (4, .int (zI (i))), (0, .ref (ad 0)), (1, .int (zI (v))), (2, .int (zI (w)))]) hx hb dX3_voiceTold_137 rfl hl (by decide) rfl (fun ls hl => ?_)
                        refine lv_goto (tgt := 158) hx hb dX3_voiceTold_138 (by decide) ?_
                        refine z_iinc (lv' := [(4, .int (zI (i + 1))), (3, .int (zI (max a (mTn B v i)))), (5, .int (zI (mTn B v i))), (0, .ref (ad 0)), (1, .int (zI (v))), (2, .int (zI (w)))]) hx hb dX3_voiceTold_158 hl (k := 2) rfl (by decide) rfl (fun ls hl => ?_)
                        refine lv_goto (tgt := 49) hx hb dX3_voiceTold_161 (by decide) ?_
                        exact ih (i + 1) (max a (mTn B v i)) (by omega) (by omega) (by rw [hs, ← h2]; unfold vtS jmM; (repeat' split) <;> first | rfl | (exfalso; omega)) (by omega) (by omega) _ (lv_sub hl [0, 1, 3, 4, 5] rfl)
                    · skip
                      refine lv_iload_n hx hb dX3_voiceTold_111 rfl (lv_at hl 2 rfl) ?_
                      refine lv_aload_n hx hb dX3_voiceTold_112 rfl (lv_at hl 3 rfl) ?_
                      refine lv_iload_n hx hb dX3_voiceTold_113 rfl (lv_at hl 4 rfl) ?_
                      refine lv_iload hx hb dX3_voiceTold_114 (lv_at hl 1 rfl) ?_
                      refine z_bipush hx hb dX3_voiceTold_116 (by decide) ?_
                      refine k_R (c_VR (As := [.int (zI (v)), .int (zI (i)), .int (zI (8))]) (rest := [.int (zI (a))]) ⟨hx, hb, hml, hown, hts⟩ hG hS hA (c_X3_get l G ad F A B v i 8 (show 0 ≤ v ∧ v < 4 by omega) (show 0 ≤ 10 * i + 8 ∧ 10 * i + 8 < 2000 by omega)) ⟨q_ml_RX3_57, q_im_X3_get, q_sel_X3_get, q_ini_RX3, q_code_X3_get⟩ hv_X3_get (MP.rec hK hP) hP ⟨by decide, by decide⟩ ⟨Nat.zero_le _, Nat.zero_le _⟩ rfl hl.1 rfl (Nat.le_of_ble_eq_true rfl) dX3_voiceTold_118) ?_
                      refine z_iadd (x := a) (y := B v (10 * i + 8)) hx hb dX3_voiceTold_121 ?_
                      refine lv_istore_n (lv' := [(3, .int (zI ((a) + (B v (10 * i + 8))))), (5, .int (zI (mTn B v i))), (4, .int (zI (i))), (0, .ref (ad 0)), (1, .int (zI (v))), (2, .int (zI (w)))]) hx hb dX3_voiceTold_122 rfl hl (by decide) rfl (fun ls hl => ?_)
                      refine lv_goto (tgt := 158) hx hb dX3_voiceTold_123 (by decide) ?_
                      refine z_iinc (lv' := [(4, .int (zI (i + 1))), (3, .int (zI ((a) + (B v (10 * i + 8))))), (5, .int (zI (mTn B v i))), (0, .ref (ad 0)), (1, .int (zI (v))), (2, .int (zI (w)))]) hx hb dX3_voiceTold_158 hl (k := 2) rfl (by decide) rfl (fun ls hl => ?_)
                      refine lv_goto (tgt := 49) hx hb dX3_voiceTold_161 (by decide) ?_
                      exact ih (i + 1) ((a) + (B v (10 * i + 8))) (by omega) (by omega) (by rw [hs, ← h2]; unfold vtS jmM; (repeat' split) <;> first | rfl | (exfalso; omega)) (by omega) (by omega) _ (lv_sub hl [0, 1, 3, 4, 5] rfl)
                  · skip
                    refine lv_iload_n hx hb dX3_voiceTold_83 rfl (lv_at hl 2 rfl) ?_
                    refine lv_aload_n hx hb dX3_voiceTold_84 rfl (lv_at hl 3 rfl) ?_
                    refine lv_iload_n hx hb dX3_voiceTold_85 rfl (lv_at hl 4 rfl) ?_
                    refine lv_iload hx hb dX3_voiceTold_86 (lv_at hl 1 rfl) ?_
                    refine z_iconst hx hb dX3_voiceTold_88 ?_
                    refine z_isub (x := i) (y := 1) hx hb dX3_voiceTold_89 ?_
                    refine k_R (c_VR (As := [.int (zI (v)), .int (zI ((i) - (1)))]) (rest := [.int (zI (a))]) ⟨hx, hb, hml, hown, hts⟩ hG hS hA (c_X3_isJoined l G ad F A B v ((i) - (1)) (show 0 ≤ v ∧ v < 4 by omega) (show -1 ≤ ((i) - (1)) ∧ ((i) - (1)) < 200 by omega) hVM) ⟨q_ml_RX3_136, q_im_X3_isJoined, q_sel_X3_isJoined, q_ini_RX3, q_code_X3_isJoined⟩ hv_X3_isJoined (MP.rec hK hP) hP ⟨by decide, by decide⟩ ⟨Nat.zero_le _, Nat.zero_le _⟩ rfl hl.1 rfl (Nat.le_of_ble_eq_true rfl) dX3_voiceTold_90) ?_
                    refine z_bif_eq (q := 0 ≤ ((i) - (1)) ∧ ((i) - (1)) + 1 < A 0 v ∧ B v (10 * ((i) - (1)) + 6) = 1 ∧ ¬ mTn B v ((i) - (1)) = -1 ∧ mTn B v ((i) - (1)) = mTn B v (((i) - (1)) + 1)) (tgt := 100) hx hb dX3_voiceTold_93 (by decide) (fun h_93 => ?_) (fun h_93 => ?_)
                    · skip
                      refine z_iconst hx hb dX3_voiceTold_100 ?_
                      refine z_iadd (x := a) (y := 1) hx hb dX3_voiceTold_101 ?_
                      refine lv_istore_n (lv' := [(3, .int (zI ((a) + (1)))), (5, .int (zI (mTn B v i))), (4, .int (zI (i))), (0, .ref (ad 0)), (1, .int (zI (v))), (2, .int (zI (w)))]) hx hb dX3_voiceTold_102 rfl hl (by decide) rfl (fun ls hl => ?_)
                      refine lv_goto (tgt := 158) hx hb dX3_voiceTold_103 (by decide) ?_
                      refine z_iinc (lv' := [(4, .int (zI (i + 1))), (3, .int (zI ((a) + (1)))), (5, .int (zI (mTn B v i))), (0, .ref (ad 0)), (1, .int (zI (v))), (2, .int (zI (w)))]) hx hb dX3_voiceTold_158 hl (k := 2) rfl (by decide) rfl (fun ls hl => ?_)
                      refine lv_goto (tgt := 49) hx hb dX3_voiceTold_161 (by decide) ?_
                      exact ih (i + 1) ((a) + (1)) (by omega) (by omega) (by rw [hs, ← h2]; unfold vtS jmM; (repeat' split) <;> first | rfl | (exfalso; omega)) (by omega) (by omega) _ (lv_sub hl [0, 1, 3, 4, 5] rfl)
                    · skip
                      refine z_iconst hx hb dX3_voiceTold_96 ?_
                      refine lv_goto (tgt := 101) hx hb dX3_voiceTold_97 (by decide) ?_
                      refine z_iadd (x := a) (y := 0) hx hb dX3_voiceTold_101 ?_
                      refine lv_istore_n (lv' := [(3, .int (zI ((a) + (0)))), (5, .int (zI (mTn B v i))), (4, .int (zI (i))), (0, .ref (ad 0)), (1, .int (zI (v))), (2, .int (zI (w)))]) hx hb dX3_voiceTold_102 rfl hl (by decide) rfl (fun ls hl => ?_)
                      refine lv_goto (tgt := 158) hx hb dX3_voiceTold_103 (by decide) ?_
                      refine z_iinc (lv' := [(4, .int (zI (i + 1))), (3, .int (zI ((a) + (0)))), (5, .int (zI (mTn B v i))), (0, .ref (ad 0)), (1, .int (zI (v))), (2, .int (zI (w)))]) hx hb dX3_voiceTold_158 hl (k := 2) rfl (by decide) rfl (fun ls hl => ?_)
                      refine lv_goto (tgt := 49) hx hb dX3_voiceTold_161 (by decide) ?_
                      exact ih (i + 1) ((a) + (0)) (by omega) (by omega) (by rw [hs, ← h2]; unfold vtS jmM; (repeat' split) <;> first | rfl | (exfalso; omega)) (by omega) (by omega) _ (lv_sub hl [0, 1, 3, 4, 5] rfl)
                · skip
                  refine lv_goto (tgt := 158) hx hb dX3_voiceTold_75 (by decide) ?_
                  refine z_iinc (lv' := [(4, .int (zI (i + 1))), (5, .int (zI (mTn B v i))), (3, .int (zI (a))), (0, .ref (ad 0)), (1, .int (zI (v))), (2, .int (zI (w)))]) hx hb dX3_voiceTold_158 hl (k := 1) rfl (by decide) rfl (fun ls hl => ?_)
                  refine lv_goto (tgt := 49) hx hb dX3_voiceTold_161 (by decide) ?_
                  exact ih (i + 1) (a) (by omega) (by omega) (by rw [hs, ← h2]; unfold vtS jmM; (repeat' split) <;> first | rfl | (exfalso; omega)) (by omega) (by omega) _ (lv_sub hl [0, 2, 3, 4, 5] rfl)
          exact lp_49 201 0 (-1) (by omega) (by omega) (by unfold vtF; rw [pf_0]; split <;> omega) (by omega) (by omega) _ (lv_sub hl [0, 1, 2, 3, 4] rfl)
      · skip
        refine lv_aload_n hx hb dX3_voiceTold_28 rfl (lv_at hl 0 rfl) ?_
        refine zm_get hx hb hK hts hown hP 8 (by decide) q_fl_RX3_28 (v := .ref (ad 8)) rfl dX3_voiceTold_29 ?_
        refine lv_iload_n hx hb dX3_voiceTold_32 rfl (lv_at hl 1 rfl) ?_
        refine zm_lA2 hx hb hK hP (i := v) (by omega) dX3_voiceTold_33 ?_
        exact e_R (r' := A 2 (v)) hx hb hr hlk (n_i _) (by first | rfl | omega | (simp only [vtM]; (repeat' split) <;> omega)) dX3_voiceTold_34
    · skip
      refine lv_aload_n hx hb dX3_voiceTold_16 rfl (lv_at hl 0 rfl) ?_
      refine zm_get hx hb hK hts hown hP 7 (by decide) q_fl_RX3_25 (v := .ref (ad 7)) rfl dX3_voiceTold_17 ?_
      refine lv_iload_n hx hb dX3_voiceTold_20 rfl (lv_at hl 1 rfl) ?_
      refine zm_lA1 hx hb hK hP (i := v) (by omega) dX3_voiceTold_21 ?_
      exact e_R (r' := A 1 (v)) hx hb hr hlk (n_i _) (by first | rfl | omega | (simp only [vtM]; (repeat' split) <;> omega)) dX3_voiceTold_22
  · skip
    refine lv_aload_n hx hb dX3_voiceTold_4 rfl (lv_at hl 0 rfl) ?_
    refine zm_get hx hb hK hts hown hP 5 (by decide) q_fl_RX3_16 (v := .ref (ad 1)) rfl dX3_voiceTold_5 ?_
    refine lv_iload_n hx hb dX3_voiceTold_8 rfl (lv_at hl 1 rfl) ?_
    refine zm_lA0 hx hb hK hP (i := v) (by omega) dX3_voiceTold_9 ?_
    exact e_R (r' := A 0 (v)) hx hb hr hlk (n_i _) (by first | rfl | omega | (simp only [vtM]; (repeat' split) <;> omega)) dX3_voiceTold_10
