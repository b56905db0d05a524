/-- column w of voice v, rewritten by f for the first n elements -/
def zC (B : Int → Int → Int) (v w n : Int) (f : Int → Int) : Int → Int → Int := fun u j => if u = v ∧ j % 10 = w ∧ 0 ≤ j / 10 ∧ j / 10 < n then f (j / 10) else B u j
theorem zC_0 (B : Int → Int → Int) (v w : Int) (f : Int → Int) : zC B v w 0 f = B := by
  funext u j
  unfold zC
  rw [if_neg (by omega)]
theorem zC_s (B : Int → Int → Int) (v : Int) {w i : Int} (f : Int → Int) (hw : 0 ≤ w ∧ w < 10) (hi : 0 ≤ i) : zB (zC B v w i f) v (10 * i + w) (f i) = zC B v w (i + 1) f := by
  funext u j
  unfold zB zC
  by_cases h1 : u = v ∧ j = 10 * i + w
  · rw [if_pos h1, if_pos ⟨h1.1, by omega, by omega, by omega⟩, show j / 10 = i by omega]
  · rw [if_neg h1]
    by_cases h2 : u = v ∧ j % 10 = w ∧ 0 ≤ j / 10 ∧ j / 10 < i
    · rw [if_pos h2, if_pos ⟨h2.1, h2.2.1, by omega, by omega⟩]
    · rw [if_neg h2, if_neg (fun q => h1 ⟨q.1, by have := h2; omega⟩)]
theorem zC_in (B : Int → Int → Int) (v : Int) {w n e : Int} (f : Int → Int) (hw : 0 ≤ w ∧ w < 10) (he : 0 ≤ e ∧ e < n) : zC B v w n f v (10 * e + w) = f e := by
  unfold zC
  rw [if_pos ⟨rfl, by omega, by omega, by omega⟩, show (10 * e + w) / 10 = e by omega]
theorem zC_off (B : Int → Int → Int) (v u : Int) {w n e x : Int} (f : Int → Int) (h : 0 ≤ x ∧ x < 10) (hx : x ≠ w) : zC B v w n f u (10 * e + x) = B u (10 * e + x) := by
  unfold zC
  rw [if_neg (by omega)]
theorem zC_v (B : Int → Int → Int) {v u : Int} (w n : Int) (f : Int → Int) (h : u ≠ v) (j : Int) : zC B v w n f u j = B u j := by
  unfold zC
  rw [if_neg (fun q => h q.1)]
/-- the lasting columns stay -/
def KP (A : Nat → Int → Int) (B : Int → Int → Int) (A' : Nat → Int → Int) (B' : Int → Int → Int) : Prop := A' 0 = A 0 ∧ ∀ u e w, 0 ≤ w → w < 7 → B' u (10 * e + w) = B u (10 * e + w)
theorem KP.rfl' (A : Nat → Int → Int) (B : Int → Int → Int) : KP A B A B := ⟨rfl, fun _ _ _ _ _ => rfl⟩
theorem KP.trans {A A' A'' : Nat → Int → Int} {B B' B'' : Int → Int → Int} (h : KP A B A' B') (h2 : KP A' B' A'' B'') : KP A B A'' B'' := ⟨h2.1.trans h.1, fun u e w h0 h1 => (h2.2 u e w h0 h1).trans (h.2 u e w h0 h1)⟩
theorem KP.C {A A' : Nat → Int → Int} {B B' : Int → Int → Int} (h : KP A B A' B') (v : Int) {w : Int} (n : Int) (f : Int → Int) (hw : 7 ≤ w) : KP A B A' (zC B' v w n f) := ⟨h.1, fun u e x h0 h1 => (zC_off B' v u f ⟨h0, by omega⟩ (by omega)).trans (h.2 u e x h0 h1)⟩
theorem KP.Bw {A A' : Nat → Int → Int} {B B' : Int → Int → Int} (h : KP A B A' B') (v i x : Int) (hw : 7 ≤ i % 10) : KP A B A' (zB B' v i x) := ⟨h.1, fun u e w h0 h1 => by
  unfold zB
  rw [if_neg (by omega)]
  exact h.2 u e w h0 h1⟩
theorem KP.A {A A' : Nat → Int → Int} {B B' : Int → Int → Int} (h : KP A B A' B') {j : Nat} (hj : j ≠ 0) (i x : Int) : KP A B (zR A' j i x) B' := ⟨(zR_off i x (fun q => hj q.symm)).trans h.1, h.2⟩
theorem KP.W {A A' : Nat → Int → Int} {B B' : Int → Int → Int} (h : KP A B A' B') {j : Nat} (hj : j ≠ 0) (f : Int → Int) : KP A B (zW A' j f) B' := ⟨(zW_n f (fun q => hj q.symm)).trans h.1, h.2⟩
theorem KP.ok {F : Nat → Int} {A A' : Nat → Int → Int} {B B' : Int → Int → Int} (h : KP A B A' B') (hM : MOK F A B) : MOK F A' B' := by
  obtain ⟨h1, h2, h3, h4, h5⟩ := hM
  refine ⟨h1, h2, h3, h4, fun v hv hv2 => ?_⟩
  rw [h.1]
  refine ⟨(h5 v hv hv2).1, fun e he he2 => ?_⟩
  rw [h.2 v e 0 (by omega) (by omega), h.2 v e 1 (by omega) (by omega), h.2 v e 2 (by omega) (by omega), h.2 v e 3 (by omega) (by omega), h.2 v e 4 (by omega) (by omega), h.2 v e 5 (by omega) (by omega), h.2 v e 6 (by omega) (by omega)]
  exact (h5 v hv hv2).2 e he he2
theorem MOK.F0 {F : Nat → Int} {A : Nat → Int → Int} {B : Int → Int → Int} (h : MOK F A B) (x : Int) : MOK (zN F 0 x) A B := h
theorem MOK.F5 {F : Nat → Int} {A : Nat → Int → Int} {B : Int → Int → Int} (h : MOK F A B) (x : Int) : MOK (zN F 5 x) A B := h
theorem KP.tk {A A' : Nat → Int → Int} {B B' : Int → Int → Int} (h : KP A B A' B') (v e : Int) : mTk B' v e = mTk B v e := by
  unfold mTk; rw [h.2 v e 0 (by omega) (by omega), h.2 v e 1 (by omega) (by omega)]
theorem KP.tn {A A' : Nat → Int → Int} {B B' : Int → Int → Int} (h : KP A B A' B') (v e : Int) : mTn B' v e = mTn B v e := by
  unfold mTn; rw [h.2 v e 2 (by omega) (by omega), h.2 v e 3 (by omega) (by omega), h.2 v e 4 (by omega) (by omega), h.2 v e 5 (by omega) (by omega)]
/-- beginnings -/
def bgM (B : Int → Int → Int) (v : Int) : Int → Int := pf 0 (fun e a => a + mTk B v e)
theorem KP.bg {A A' : Nat → Int → Int} {B B' : Int → Int → Int} (h : KP A B A' B') (v e : Int) : bgM B' v e = bgM B v e := pf_congr fun i a _ _ => by rw [h.tk]
theorem KP.bg' {A A' : Nat → Int → Int} {B B' : Int → Int → Int} (h : KP A B A' B') (v : Int) : bgM B' v = bgM B v := funext fun e => h.bg v e
theorem bgM_s (B : Int → Int → Int) (v : Int) {e : Int} (h : 0 ≤ e) : bgM B v (e + 1) = bgM B v e + mTk B v e := pf_s _ _ h
theorem bgM_rng {F : Nat → Int} {A : Nat → Int → Int} {B : Int → Int → Int} (hM : MOK F A B) {v : Int} (hv : 0 ≤ v ∧ v < 4) {e : Int} (he : 0 ≤ e ∧ e ≤ A 0 v) : 12 * e ≤ bgM B v e ∧ bgM B v e ≤ 672 * e := by
  have key : ∀ k : Nat, (k : Int) ≤ A 0 v → 12 * (k : Int) ≤ bgM B v k ∧ bgM B v k ≤ 672 * (k : Int) := by
    intro k
    induction k with
    | zero => intro _; exact ⟨Int.le_refl 0, Int.le_refl 0⟩
    | succ k ih =>
      intro hk
      have q := ih (by omega)
      have r := (hM.el hv (e := (k : Int)) (by omega)).2.2.1
      have t : bgM B v ((k + 1 : Nat) : Int) = bgM B v k + tkO (B v (10 * (k : Int) + 0)) (B v (10 * (k : Int) + 1)) := bgM_s B v (e := (k : Int)) (by omega)
      rw [t]
      omega
  have := key e.toNat (by omega)
  rw [Int.toNat_of_nonneg he.1] at this
  exact this
/-- the beginnings stand in the table -/
def TM (n : Int) (B : Int → Int → Int) (v : Int) (A' : Nat → Int → Int) (B' : Int → Int → Int) : Prop := A' 1 v = bgM B v n ∧ ∀ e, 0 ≤ e → e < n → B' v (10 * e + 7) = bgM B v e
set_option maxHeartbeats 2000000 in
theorem c_X3_fail (l : Launch) (G : zG) (ad : Nat → Nat) (F : Nat → Int) (A : Nat → Int → Int) (B : Int → Int → Int) (x : Int) (sz : Nat)  : MW l yX3_fail cX3_fail 2 (some .int) 0 0 (0) (0) G [.ref (ad 0), .int (zI (x))] (fA 11 ad sz) sz (MP G ad F A B) (QW (fA 11 ad sz) (fun r H => r = 0 ∧ MP G ad (zN F 0 x) A B H)) := by
  refine mw_of hp_X3_fail (Nat.le_of_ble_eq_true rfl) ?_
  intro p env s m below meth c ls hB hsz hP hl
  obtain ⟨hx, hb, hml, hr, hlk, hown, hts, hG⟩ := hB
  subst hsz
  have hK := hG.1
  have hS : va_S (fA 11 ad s.heap.size) s.heap s.heap [] := va_S.rf
  have hA : ∀ q : Nat, (fA 11 ad s.heap.size) q → G.2.2 ≤ q := fA_lo hP.1.2 hG.2.1
  have hD : ∀ k, k < 11 → (fA 11 ad s.heap.size) (ad k) := fun k hk => fA_in hk
  have hl : lv_has ls 2 [(0, .ref (ad 0)), (1, .int (zI (x)))] := hl
  refine lv_aload_n hx hb dX3_fail_0 rfl (lv_at hl 0 rfl) ?_
  refine lv_iload_n hx hb dX3_fail_1 rfl (lv_at hl 1 rfl) ?_
  refine zm_put (x := x) hx hb hK hts hown hP hS (hD 0 (by decide)) 0 (by decide) q_fl_RX3_37 dX3_fail_2 (fun H locs hP hz ho hS => ?_)
  refine z_iconst hx hb dX3_fail_5 ?_
  exact e_Wi (r := 0) hx hb hr hlk (n_i _) hS (by omega) (by omega) ⟨rfl, hP⟩ dX3_fail_6
set_option maxHeartbeats 2000000 in
theorem c_X3_findTimes (l : Launch) (G : zG) (ad : Nat → Nat) (F : Nat → Int) (A : Nat → Int → Int) (B : Int → Int → Int) (v : Int) (sz : Nat) (hv : 0 ≤ v ∧ v < 4) (hVM : MOK F A B) : MW l yX3_findTimes cX3_findTimes 4 none 2 45 (0) (0) G [.ref (ad 0), .int (zI (v))] (fA 11 ad sz) sz (MP G ad F A B) (QV (fA 11 ad sz) (fun H => MP G ad F (zR A 1 v (bgM B v (A 0 v))) (zC B v 7 (A 0 v) (bgM B v)) H)) := by
  refine mw_of hp_X3_findTimes (Nat.le_of_ble_eq_true rfl) ?_
  intro p env s m below meth c ls hB hsz hP hl
  obtain ⟨hx, hb, hml, hr, hlk, hown, hts, hG⟩ := hB
  subst hsz
  have hK := hG.1
  have hS : va_S (fA 11 ad s.heap.size) s.heap s.heap [] := va_S.rf
  have hA : ∀ q : Nat, (fA 11 ad s.heap.size) q → G.2.2 ≤ q := fA_lo hP.1.2 hG.2.1
  have hD : ∀ k, k < 11 → (fA 11 ad s.heap.size) (ad k) := fun k hk => fA_in hk
  have hl : lv_has ls 4 [(0, .ref (ad 0)), (1, .int (zI (v)))] := hl
  have hmn := hVM.many hv
  refine z_iconst hx hb dX3_findTimes_0 ?_
  refine lv_istore_n (lv' := [(2, .int (zI (0))), (0, .ref (ad 0)), (1, .int (zI (v)))]) hx hb dX3_findTimes_1 rfl hl (by decide) rfl (fun ls hl => ?_)
  refine z_iconst hx hb dX3_findTimes_2 ?_
  refine lv_istore_n (lv' := [(3, .int (zI (0))), (2, .int (zI (0))), (0, .ref (ad 0)), (1, .int (zI (v)))]) hx hb dX3_findTimes_3 rfl hl (by decide) rfl (fun ls hl => ?_)
  have hP : MP G ad F A (zC B v 7 0 (bgM B v)) s.heap := by rw [zC_0]; exact hP
  have lp_4 : ∀ (n : Nat) (i : Int), 0 ≤ i → i ≤ A 0 v → A 0 v - i < n → ∀ (H : Heap) (locs : List Loc), MP G ad F A (zC B v 7 i (bgM B v)) H → va_S (fA 11 ad s.heap.size) s.heap H locs → ∀ (ls : Array Slot), lv_has ls 4 [(3, .int (zI (i))), (2, .int (zI (bgM B v i))), (0, .ref (ad 0)), (1, .int (zI (v)))] → W p l env (rmz 2 45 0 0) s m (([.ref (ad 0), .int (zI (v))] : List Value).toArray) below meth c H locs 0 0 (MQ below (QV (fA 11 ad s.heap.size) (fun H => MP G ad F (zR A 1 v (bgM B v (A 0 v))) (zC B v 7 (A 0 v) (bgM B v)) H)) (([.ref (ad 0), .int (zI (v))] : List Value).toArray) s 0 0 (fA 11 ad s.heap.size)) (F0 m 4 ls []) := by
    intro n
    induction n with
    | zero => intro i h0 h1 hm H locs hP hS ls hl; exact absurd hm (by omega)
    | succ n ih =>
      intro i h0 h1 hm H locs hP hS ls hl
      have hs := bgM_s B v h0
      have hbr := bgM_rng hVM hv (e := i) (by omega)
      have hkp : KP A B A (zC B v 7 i (bgM B v)) := (KP.rfl' A B).C v i _ (by omega)
      have hkp1 : KP A B A (zC B v 7 (i + 1) (bgM B v)) := (KP.rfl' A B).C v (i + 1) _ (by omega)
      refine lv_iload_n hx hb dX3_findTimes_4 rfl (lv_at hl 0 rfl) ?_
      refine lv_aload_n hx hb dX3_findTimes_5 rfl (lv_at hl 2 rfl) ?_
      refine zm_get hx hb hK hts hown hP 5 (by decide) q_fl_RX3_16 (v := .ref (ad 1)) rfl dX3_findTimes_6 ?_
      refine lv_iload_n hx hb dX3_findTimes_9 rfl (lv_at hl 3 rfl) ?_
      refine zm_lA0 hx hb hK hP (i := v) (by omega) dX3_findTimes_10 ?_
      refine z_icmp_ge (a := i) (b := A 0 (v)) (tgt := 44) hx hb dX3_findTimes_11 (by decide) (by omega) (by omega) (fun h_11 => ?_) (fun h_11 => ?_)
      · skip
        have h9 : i = A 0 v := by omega
        rw [h9] at hP
        refine lv_aload_n hx hb dX3_findTimes_44 rfl (lv_at hl 2 rfl) ?_
        refine zm_get hx hb hK hts hown hP 7 (by decide) q_fl_RX3_25 (v := .ref (ad 7)) rfl dX3_findTimes_45 ?_
        refine lv_iload_n hx hb dX3_findTimes_48 rfl (lv_at hl 3 rfl) ?_
        refine lv_iload_n hx hb dX3_findTimes_49 rfl (lv_at hl 1 rfl) ?_
        refine zm_sA1 (x := bgM B v i) hx hb hK hP hS (hD 7 (by decide)) (i := v) (by omega) dX3_findTimes_50 (fun H locs hP hz ho hS => ?_)
        exact e_Wv hx hb hr hlk hS (by omega) (by omega) (by rw [h9] at hP; exact hP) dX3_findTimes_51
      · skip
        refine lv_aload_n hx hb dX3_findTimes_14 rfl (lv_at hl 2 rfl) ?_
        refine zm_get hx hb hK hts hown hP 6 (by decide) q_fl_RX3_22 (v := .ref (ad 2)) rfl dX3_findTimes_15 ?_
        refine lv_iload_n hx hb dX3_findTimes_18 rfl (lv_at hl 3 rfl) ?_
        refine zm_aB hx hb hK hP (i := v) (by omega) dX3_findTimes_19 ?_
        refine z_bipush hx hb dX3_findTimes_20 (by decide) ?_
        refine lv_iload_n hx hb dX3_findTimes_22 rfl (lv_at hl 0 rfl) ?_
        refine z_imul (x := 10) (y := i) hx hb dX3_findTimes_23 ?_
        refine z_bipush hx hb dX3_findTimes_24 (by decide) ?_
        refine z_iadd (x := (10) * (i)) (y := 7) hx hb dX3_findTimes_26 ?_
        refine lv_iload_n hx hb dX3_findTimes_27 rfl (lv_at hl 1 rfl) ?_
        refine zm_sB (x := bgM B v i) hx hb hK hP hS (v := v) (by omega) (hD (3 + (v).toNat) (by omega)) (i := ((10) * (i)) + (7)) (by omega) dX3_findTimes_28 (fun H locs hP hz ho hS => ?_)
        rw [zC_s B v (bgM B v) (by omega) h0] at hP
        refine lv_iload_n hx hb dX3_findTimes_29 rfl (lv_at hl 1 rfl) ?_
        refine lv_aload_n hx hb dX3_findTimes_30 rfl (lv_at hl 2 rfl) ?_
        refine lv_iload_n hx hb dX3_findTimes_31 rfl (lv_at hl 3 rfl) ?_
        refine lv_iload_n hx hb dX3_findTimes_32 rfl (lv_at hl 0 rfl) ?_
        refine k_R (c_VR (As := [.int (zI (v)), .int (zI (i))]) (rest := [.int (zI (bgM B v i))]) ⟨hx, hb, hml, hown, hts⟩ hG hS hA (c_X3_length l G ad F A (zC B v 7 (i + 1) (bgM B v)) v i (by omega) (by omega) (hkp1.ok hVM)) ⟨q_ml_RX3_85, q_im_X3_length, q_sel_X3_length, q_ini_RX3, q_code_X3_length⟩ hv_X3_length (MP.rec hK hP) hP ⟨by decide, by decide⟩ ⟨Nat.zero_le _, Nat.zero_le _⟩ rfl hl.1 rfl (Nat.le_of_ble_eq_true rfl) dX3_findTimes_33) ?_
        rw [hkp1.tk v i]
        refine z_iadd (x := bgM B v i) (y := mTk B v i) hx hb dX3_findTimes_36 ?_
        rw [← hs]
        refine lv_istore_n (lv' := [(2, .int (zI (bgM B v (i + 1)))), (3, .int (zI (i))), (0, .ref (ad 0)), (1, .int (zI (v)))]) hx hb dX3_findTimes_37 rfl hl (by decide) rfl (fun ls hl => ?_)
        refine z_iinc (lv' := [(3, .int (zI (i + 1))), (2, .int (zI (bgM B v (i + 1)))), (0, .ref (ad 0)), (1, .int (zI (v)))]) hx hb dX3_findTimes_38 hl (k := 1) rfl (by decide) rfl (fun ls hl => ?_)
        refine lv_goto (tgt := 4) hx hb dX3_findTimes_41 (by decide) ?_
        exact ih (i + 1) (by omega) (by omega) (by omega) H _ hP hS _ (lv_sub hl [0, 1, 2, 3] rfl)
  exact lp_4 201 0 (by omega) (by omega) (by omega) s.heap _ hP hS _ (lv_sub hl [0, 1, 2, 3] rfl)
