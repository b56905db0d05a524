theorem zR_R (T : Nat → Int → Int) (w : Nat) (i x y : Int) : zR (zR T w i x) w i y = zR T w i y := by
  funext u j
  unfold zR
  split <;> rfl
theorem zB_B (B : Int → Int → Int) (v i x y : Int) : zB (zB B v i x) v i y = zB B v i y := by
  funext u j
  unfold zB
  split <;> rfl
theorem zW_same (T : Nat → Int → Int) (w : Nat) {f g : Int → Int} (h : f = g) : zW T w f = zW T w g := by rw [h]
theorem sgM_rng (key st : Int) : -1 ≤ sgM key st ∧ sgM key st ≤ 1 := by
  unfold sgM
  repeat' split
  all_goals omega
/-! signs -/
def hfil (h : Int → Int) (key n : Int) : Int → Int := fun k => if 0 ≤ k ∧ k < n then sgM key (k % 7) else h k
theorem hfil_0 (h : Int → Int) (key : Int) : hfil h key 0 = h := by
  funext k
  unfold hfil
  rw [if_neg (by omega)]
theorem hfil_s (h : Int → Int) (key : Int) {n : Int} (hn : 0 ≤ n) : zU (hfil h key n) n (sgM key (n % 7)) = hfil h key (n + 1) := by
  funext k
  unfold hfil zU
  by_cases e : k = n
  · rw [if_pos e, if_pos (by omega), e]
  · rw [if_neg e]
    by_cases q : 0 ≤ k ∧ k < n
    · show (if 0 ≤ k ∧ k < n then sgM key (k % 7) else h k) = _
      rw [if_pos q, if_pos (by omega)]
    · show (if 0 ≤ k ∧ k < n then sgM key (k % 7) else h k) = _
      rw [if_neg q, if_neg (by omega)]
def barP (F : Nat → Int) (B : Int → Int → Int) (v e : Int) : Int := if e = 0 then -1 else bgM B v (e - 1) / (F 1 * 384 / F 2)
def hoR (F : Nat → Int) (B : Int → Int → Int) (v e : Int) (h : Int → Int) : Int → Int := if bgM B v e / (F 1 * 384 / F 2) = barP F B v e then h else hfil h (F 3) 63
abbrev plM (B : Int → Int → Int) (v e : Int) : Int := 7 * B v (10 * e + 5) + B v (10 * e + 3)
def hoS (F : Nat → Int) (B : Int → Int → Int) (v e : Int) (h : Int → Int) : Int → Int := if B v (10 * e + 2) = 0 then hoR F B v e h else zU (hoR F B v e h) (plM B v e) (B v (10 * e + 4))
def hoF (F : Nat → Int) (B : Int → Int → Int) (v : Int) (h : Int → Int) : Int → Int → Int := pf h (hoS F B v)
theorem hoF_s (F : Nat → Int) (B : Int → Int → Int) (v : Int) (h : Int → Int) {e : Int} (he : 0 ≤ e) : hoF F B v h (e + 1) = hoS F B v e (hoF F B v h e) := pf_s _ _ he
def shM (F : Nat → Int) (A : Nat → Int → Int) (B : Int → Int → Int) (v : Int) (h : Int → Int) (e : Int) : Int := if B v (10 * e + 2) = 0 then 0 else if ¬ hoR F B v e (hoF F B v h e) (plM B v e) = B v (10 * e + 4) ∧ ¬ jmM A B v (e - 1) then 1 else 0
/-! beams -/
abbrev cbM (B : Int → Int → Int) (v e : Int) : Prop := B v (10 * e + 2) = 1 ∧ 8 ≤ B v (10 * e + 0)
theorem KP.cb {A A' : Nat → Int → Int} {B B' : Int → Int → Int} (h : KP A B A' B') (v e : Int) : cbM B' v e = cbM B v e := by
  unfold cbM
  rw [h.2 v e 2 (by omega) (by omega), h.2 v e 0 (by omega) (by omega)]
abbrev gM (F : Nat → Int) (A : Nat → Int → Int) (B : Int → Int → Int) (v e : Int) : Prop := 0 ≤ e ∧ e + 1 < A 0 v ∧ cbM B v e ∧ cbM B v (e + 1) ∧ bgM B v e / (384 / F 2) = bgM B v (e + 1) / (384 / F 2)
def stC (g : Int → Prop) [DecidablePred g] : Int → Int := pf 0 (fun k a => a + (if ¬ g (k - 1) ∧ g k then 1 else 0))
def bmN (g : Int → Prop) [DecidablePred g] (e : Int) : Int := if g (e - 1) ∨ g e then stC g (e + 1) - 1 else -1
theorem stC_s (g : Int → Prop) [DecidablePred g] {e : Int} (h : 0 ≤ e) : stC g (e + 1) = stC g e + (if ¬ g (e - 1) ∧ g e then 1 else 0) := pf_s _ _ h
theorem stC_rng (g : Int → Prop) [DecidablePred g] {e : Int} (h : 0 ≤ e) : 0 ≤ stC g e ∧ stC g e ≤ e := by
  have q := pf_add_mono (f := fun k => if ¬ g (k - 1) ∧ g k then 1 else 0) (lo := 0) (hi := 1) (a := 0) (Int.le_refl 0) h (fun i _ _ => by split <;> omega)
  have r : pf 0 (fun e z => z + (fun k => if ¬ g (k - 1) ∧ g k then (1 : Int) else 0) e) 0 = 0 := rfl
  rw [r] at q
  unfold stC
  omega
theorem stC_run {g : Int → Prop} [DecidablePred g] {a b : Int} (h0 : 0 ≤ a) (h1 : ¬ g (a - 1)) (h2 : ∀ k, a ≤ k → k < b - 1 → g k) (h3 : ¬ g (b - 1)) (h4 : a < b) : ∀ e, a ≤ e → e < b → stC g (e + 1) = stC g a + (if a + 1 < b then 1 else 0) := by
  intro e q0 q1
  obtain ⟨k, rfl⟩ : ∃ k : Nat, e = a + k := ⟨(e - a).toNat, by omega⟩
  induction k with
  | zero =>
    rw [show a + ((0 : Nat) : Int) = a by omega, stC_s g h0]
    by_cases e : a + 1 < b
    · rw [if_pos e, if_pos ⟨h1, h2 a (by omega) (by omega)⟩]
    · rw [if_neg e, if_neg (fun q => h3 (by rw [show b - 1 = a by omega]; exact q.2))]
  | succ k ih =>
    have z : ¬ (¬ g (a + k + 1 - 1) ∧ g (a + (k : Int) + 1)) := fun q => q.1 (by rw [show a + (k : Int) + 1 - 1 = a + k by omega]; exact h2 _ (by omega) (by omega))
    rw [show a + ((k + 1 : Nat) : Int) + 1 = (a + k + 1) + 1 by omega, stC_s g (by omega), if_neg z, Int.add_zero]
    exact ih (by omega) (by omega)
theorem bmN_run {g : Int → Prop} [DecidablePred g] {a b : Int} (h0 : 0 ≤ a) (h1 : ¬ g (a - 1)) (h2 : ∀ k, a ≤ k → k < b - 1 → g k) (h3 : ¬ g (b - 1)) (h4 : a < b) : ∀ e, a ≤ e → e < b → bmN g e = if a + 1 < b then stC g a else -1 := by
  intro e q0 q1
  have q := stC_run h0 h1 h2 h3 h4 e q0 q1
  unfold bmN
  by_cases c : a + 1 < b
  · rw [if_pos c] at q ⊢
    by_cases d : e = a
    · rw [if_pos (Or.inr (d ▸ h2 a (by omega) (by omega)))]; omega
    · rw [if_pos (Or.inl (h2 _ (by omega) (by omega)))]; omega
  · have d : e = a := by omega
    rw [if_neg c, if_neg]
    intro r
    rcases r with r | r
    · exact h1 (d ▸ r)
    · exact h3 (by rw [show b - 1 = e by omega]; exact r)
theorem gM_low {F : Nat → Int} {A : Nat → Int → Int} {B : Int → Int → Int} {v : Int} : ¬ gM F A B v (0 - 1) := fun h => by have := h.1; omega
set_option maxHeartbeats 2000000 in
theorem c_X3_find (l : Launch) (G : zG) (ad : Nat → Nat) (F : Nat → Int) (A : Nat → Int → Int) (B : Int → Int → Int) (v : Int) (sz : Nat) (hv : 0 ≤ v ∧ v < 4) (hVM : MOK F A B) : MW l yX3_find cX3_find 6 none 3 68 (0) (0) G [.ref (ad 0), .int (zI (v))] (fA 11 ad sz) sz (MP G ad F A B) (QV (fA 11 ad sz) (fun H => ∃ A' B', MP G ad F A' B' H ∧ KP A B A' B' ∧ TM (A 0 v) B v A' B' ∧ (∀ e, 0 ≤ e → e < A 0 v → B' v (10 * e + 8) = shM F A B v (A 3) e) ∧ (∀ e, 0 ≤ e → e < A 0 v → B' v (10 * e + 9) = bmN (gM F A B v) e) ∧ A' 2 v = stC (gM F A B v) (A 0 v))) := by
  refine mw_of hp_X3_find (Nat.le_of_ble_eq_true rfl) ?_
  intro p env s m below meth c ls hB hsz hP hl
  obtain ⟨hx, hb, hml, hr, hlk, hown, hts, hG⟩ := hB
  subst hsz
  have hK := hG.1
  have hS : va_S (fA 11 ad s.heap.size) s.heap s.heap [] := va_S.rf
  have hA : ∀ q : Nat, (fA 11 ad s.heap.size) q → G.2.2 ≤ q := fA_lo hP.1.2 hG.2.1
  have hD : ∀ k, k < 11 → (fA 11 ad s.heap.size) (ad k) := fun k hk => fA_in hk
  have hl : lv_has ls 6 [(0, .ref (ad 0)), (1, .int (zI (v)))] := hl
  have hmn := hVM.many hv
  have h1b := hVM.1
  have h2b := hVM.2.1
  have h3b := hVM.2.2.1
  have hba : 48 ≤ F 1 * 384 / F 2 ∧ F 1 * 384 / F 2 ≤ 2304 := by rcases h2b with h | h | h <;> rw [h] <;> omega
  refine lv_aload_n hx hb dX3_find_0 rfl (lv_at hl 0 rfl) ?_
  refine lv_iload_n hx hb dX3_find_1 rfl (lv_at hl 1 rfl) ?_
  refine k_Wv (c_VW (As := [.int (zI (v))]) (rest := []) ⟨hx, hb, hml, hown, hts⟩ hG hS hA (c_X3_findTimes l G ad F A B v s.heap.size (show 0 ≤ v ∧ v < 4 by omega) hVM) ⟨q_ml_RX3_88, q_im_X3_findTimes, q_sel_X3_findTimes, q_ini_RX3, q_code_X3_findTimes⟩ hv_X3_findTimes (MP.rec hK hP) hP ⟨by decide, by decide⟩ ⟨Nat.zero_le _, Nat.zero_le _⟩ rfl hl.1 rfl (Nat.le_of_ble_eq_true rfl) dX3_find_2) hS (fA_mono hS.1) (fun H1 locs1 hq hz1 hk1 hS => ?_)
  obtain ⟨A2, B2, hP, kp2, tm2, e3⟩ : ∃ A2 B2, MP G ad F A2 B2 H1 ∧ KP A B A2 B2 ∧ TM (A 0 v) B v A2 B2 ∧ A2 3 = A 3 := ⟨_, _, hq, ((KP.rfl' A B).A (by decide) v _).C v _ _ (by omega), TM.one v, zR_off _ _ (by decide)⟩
  refine z_iconst hx hb dX3_find_5 ?_
  refine lv_istore_n (lv' := [(2, .int (zI (-1))), (0, .ref (ad 0)), (1, .int (zI (v)))]) hx hb dX3_find_6 rfl hl (by decide) rfl (fun ls hl => ?_)
  refine z_iconst hx hb dX3_find_7 ?_
  refine lv_istore_n (lv' := [(3, .int (zI (0))), (2, .int (zI (-1))), (0, .ref (ad 0)), (1, .int (zI (v)))]) hx hb dX3_find_8 rfl hl (by decide) rfl (fun ls hl => ?_)
  have hP : MP G ad F (zW A2 3 (hoF F B v (A 3) 0)) (zC B2 v 8 0 (shM F A B v (A 3))) H1 := by rw [zC_0, show hoF F B v (A 3) 0 = A2 3 from e3.symm, zW_id]; exact hP
  have lp_9 : ∀ (n : Nat) (i : Int), 0 ≤ i → i ≤ A 0 v → (i = 0 ∨ ∀ k, 0 ≤ k → k < 63 → -2 ≤ (hoF F B v (A 3) i) k ∧ (hoF F B v (A 3) i) k ≤ 2) → A 0 v - i < n → ∀ (H : Heap) (locs : List Loc), MP G ad F (zW A2 3 (hoF F B v (A 3) i)) (zC B2 v 8 i (shM F A B v (A 3))) H → va_S (fA 11 ad s.heap.size) s.heap H locs → ∀ (ls : Array Slot), lv_has ls 6 [(3, .int (zI (i))), (2, .int (zI (barP F B v i))), (0, .ref (ad 0)), (1, .int (zI (v)))] → W p l env (rmz 3 68 0 0) s m (([.ref (ad 0), .int (zI (v))] : List Value).toArray) below meth c H locs 0 0 (MQ below (QV (fA 11 ad s.heap.size) (fun H => ∃ A' B', MP G ad F A' B' H ∧ KP A B A' B' ∧ TM (A 0 v) B v A' B' ∧ (∀ e, 0 ≤ e → e < A 0 v → B' v (10 * e + 8) = shM F A B v (A 3) e) ∧ (∀ e, 0 ≤ e → e < A 0 v → B' v (10 * e + 9) = bmN (gM F A B v) e) ∧ A' 2 v = stC (gM F A B v) (A 0 v))) (([.ref (ad 0), .int (zI (v))] : List Value).toArray) s 0 0 (fA 11 ad s.heap.size)) (F0 m 9 ls []) := by
    intro n
    induction n with
    | zero => intro i h0 h1 hho hm H locs hP hS ls hl; exact absurd hm (by omega)
    | succ n ih =>
      intro i h0 h1 hho hm H locs hP hS ls hl
      have hs := hoF_s F B v (A 3) h0
      have kpA : KP A B (zW A2 3 (hoF F B v (A 3) i)) (zC B2 v 8 i (shM F A B v (A 3))) := ((kp2.W (by decide) _).C v i _ (by omega))
      have eA0 : A2 0 v = A 0 v := by rw [kp2.1]
      have hbp : -1 ≤ barP F B v i ∧ barP F B v i ≤ 1000000 := by
        unfold barP
        by_cases q : i = 0
        · rw [if_pos q]; omega
        · have hbr := bgM_rng hVM hv (e := i - 1) (by omega)
          have d1 := Int.ediv_nonneg (a := bgM B v (i - 1)) (b := F 1 * 384 / F 2) (by omega) (by omega)
          have d2 := Int.ediv_le_self (a := bgM B v (i - 1)) (F 1 * 384 / F 2) (by omega)
          rw [if_neg q]; omega
      refine lv_iload_n hx hb dX3_find_9 rfl (lv_at hl 0 rfl) ?_
      refine lv_aload_n hx hb dX3_find_10 rfl (lv_at hl 2 rfl) ?_
      refine zm_get hx hb hK hts hown hP 5 (by decide) q_fl_RX3_16 (v := .ref (ad 1)) rfl dX3_find_11 ?_
      refine lv_iload_n hx hb dX3_find_14 rfl (lv_at hl 3 rfl) ?_
      refine zm_lA0 hx hb hK hP (i := v) (by omega) dX3_find_15 ?_
      refine z_icmp_ge (a := i) (b := A2 0 (v)) (tgt := 198) hx hb dX3_find_16 (by decide) (by omega) (by omega) (fun h_16 => ?_) (fun h_16 => ?_)
      · skip
        have h9 : A 0 v = i := by omega
        obtain ⟨A3, B3, hP, kp3, tm3, h83⟩ : ∃ A3 B3, MP G ad F A3 B3 H ∧ KP A B A3 B3 ∧ TM (A 0 v) B v A3 B3 ∧ (∀ e, 0 ≤ e → e < A 0 v → B3 v (10 * e + 8) = (shM F A B v (A 3)) e) := ⟨_, _, hP, kpA, ⟨(congrFun (zW_n _ (by decide)) v).trans tm2.1, fun e q0 q1 => (zC_off B2 v v _ (by omega) (by omega)).trans (tm2.2 e q0 q1)⟩, fun e q0 q1 => zC_in B2 v _ (by omega) (by omega)⟩
        have eA3 : A3 0 v = A 0 v := by rw [kp3.1]
        have hbt : 48 ≤ 384 / F 2 ∧ 384 / F 2 ≤ 192 := by rcases h2b with h | h | h <;> rw [h] <;> omega
        have hq : ∀ e, 0 ≤ e → e < A 0 v → (0 ≤ bgM B v e / (384 / F 2) ∧ bgM B v e / (384 / F 2) ≤ 1000000) ∧ (0 ≤ bgM B v e ∧ bgM B v e ≤ 1000000) := fun e q0 q1 => by
          have hbr := bgM_rng hVM hv (e := e) (by omega)
          have d1 := Int.ediv_nonneg (a := bgM B v e) (b := 384 / F 2) (by omega) (by omega)
          have d2 := Int.ediv_le_self (a := bgM B v e) (384 / F 2) (by omega)
          omega
        refine lv_aload_n hx hb dX3_find_198 rfl (lv_at hl 2 rfl) ?_
        refine zm_get hx hb hK hts hown hP 8 (by decide) q_fl_RX3_28 (v := .ref (ad 8)) rfl dX3_find_199 ?_
        refine lv_iload_n hx hb dX3_find_202 rfl (lv_at hl 3 rfl) ?_
        refine z_iconst hx hb dX3_find_203 ?_
        refine zm_sA2 (x := 0) hx hb hK hP hS (hD 8 (by decide)) (i := v) (by omega) dX3_find_204 (fun H locs hP hz ho hS => ?_)
        refine z_iconst hx hb dX3_find_205 ?_
        refine lv_istore_n (lv' := [(3, .int (zI (0))), (2, .int (zI (barP F B v i))), (0, .ref (ad 0)), (1, .int (zI (v)))]) hx hb dX3_find_206 rfl hl (by decide) rfl (fun ls hl => ?_)
        have hP : MP G ad F (zR A3 2 v (stC (gM F A B v) 0)) (zC B3 v 9 0 (bmN (gM F A B v))) H := by rw [zC_0]; exact hP
        have lp_207 : ∀ (n : Nat) (f : Int), 0 ≤ f → f ≤ A 0 v → ¬ gM F A B v (f - 1) → A 0 v - f < n → ∀ (H : Heap) (locs : List Loc), MP G ad F (zR A3 2 (v) ((stC (gM F A B v) f))) (zC B3 v 9 f (bmN (gM F A B v))) H → va_S (fA 11 ad s.heap.size) s.heap H locs → ∀ (ls : Array Slot), lv_has ls 6 [(3, .int (zI (f))), (0, .ref (ad 0)), (1, .int (zI (v)))] → W p l env (rmz 3 68 0 0) s m (([.ref (ad 0), .int (zI (v))] : List Value).toArray) below meth c H locs 0 0 (MQ below (QV (fA 11 ad s.heap.size) (fun H => ∃ A' B', MP G ad F A' B' H ∧ KP A B A' B' ∧ TM (A 0 v) B v A' B' ∧ (∀ e, 0 ≤ e → e < A 0 v → B' v (10 * e + 8) = shM F A B v (A 3) e) ∧ (∀ e, 0 ≤ e → e < A 0 v → B' v (10 * e + 9) = bmN (gM F A B v) e) ∧ A' 2 v = stC (gM F A B v) (A 0 v))) (([.ref (ad 0), .int (zI (v))] : List Value).toArray) s 0 0 (fA 11 ad s.heap.size)) (F0 m 207 ls []) := by
          intro n
          induction n with
          | zero => intro f hf0 hf1 hgf hmf H locs hP hS ls hl; exact absurd hmf (by omega)
          | succ n ih =>
            intro f hf0 hf1 hgf hmf H locs hP hS ls hl
            have kpB : KP A B (zR A3 2 v (stC (gM F A B v) f)) (zC B3 v 9 f (bmN (gM F A B v))) := (kp3.A (by decide) v _).C v f _ (by omega)
            have okB := kpB.ok hVM
            have hgB : ∀ e, 0 ≤ e → e < A 0 v → (zC B3 v 9 f (bmN (gM F A B v))) v (10 * e + 7) = bgM B v e := fun e q0 q1 => (zC_off B3 v v _ (by omega) (by omega)).trans (tm3.2 e q0 q1)
            refine lv_iload_n hx hb dX3_find_207 rfl (lv_at hl 0 rfl) ?_
            refine lv_aload_n hx hb dX3_find_208 rfl (lv_at hl 1 rfl) ?_
            refine zm_get hx hb hK hts hown hP 5 (by decide) q_fl_RX3_16 (v := .ref (ad 1)) rfl dX3_find_209 ?_
            refine lv_iload_n hx hb dX3_find_212 rfl (lv_at hl 2 rfl) ?_
            refine zm_lA0 hx hb hK hP (i := v) (by omega) dX3_find_213 ?_
            refine z_icmp_ge (a := f) (b := A3 0 (v)) (tgt := 351) hx hb dX3_find_214 (by decide) (by omega) (by omega) (fun h_214 => ?_) (fun h_214 => ?_)
            · skip
              have h8 : A 0 v = f := by omega
              exact e_Wv hx hb hr hlk hS (by omega) (by omega) ⟨_, _, hP, kpB, ⟨(zR_n (Or.inl (by decide))).trans tm3.1, fun e q0 q1 => (zC_off B3 v v _ (by omega) (by omega)).trans (tm3.2 e q0 q1)⟩, (fun e q0 q1 => (zC_off B3 v v _ (by omega) (by omega)).trans (h83 e q0 q1)), (fun e q0 q1 => zC_in B3 v _ (by omega) ⟨q0, by omega⟩), by rw [zR_s]; exact congrArg (stC (gM F A B v)) h8.symm⟩ dX3_find_351
            · skip
              refine lv_iload_n hx hb dX3_find_217 rfl (lv_at hl 0 rfl) ?_
              refine z_iconst hx hb dX3_find_218 ?_
              refine z_iadd (x := f) (y := 1) hx hb dX3_find_219 ?_
              refine lv_istore (lv' := [(4, .int (zI ((f) + (1)))), (3, .int (zI (f))), (0, .ref (ad 0)), (1, .int (zI (v)))]) hx hb dX3_find_220 hl (by decide) rfl (fun ls hl => ?_)
              have lp_222 : ∀ (n : Nat) (t : Int), f < t → t ≤ A 0 v → (t = f + 1 ∨ cbM B v f ∧ cbM B v (t - 1) ∧ bgM B v f / (384 / F 2) = bgM B v (t - 1) / (384 / F 2)) → (∀ k, f ≤ k → k < t - 1 → gM F A B v k) → A 0 v - t < n → ∀ (H : Heap) (locs : List Loc), MP G ad F (zR A3 2 (v) ((stC (gM F A B v) f))) (zC B3 v 9 f (bmN (gM F A B v))) H → va_S (fA 11 ad s.heap.size) s.heap H locs → ∀ (ls : Array Slot), lv_has ls 6 [(4, .int (zI (t))), (3, .int (zI (f))), (0, .ref (ad 0)), (1, .int (zI (v)))] → W p l env (rmz 3 68 0 0) s m (([.ref (ad 0), .int (zI (v))] : List Value).toArray) below meth c H locs 0 0 (MQ below (QV (fA 11 ad s.heap.size) (fun H => ∃ A' B', MP G ad F A' B' H ∧ KP A B A' B' ∧ TM (A 0 v) B v A' B' ∧ (∀ e, 0 ≤ e → e < A 0 v → B' v (10 * e + 8) = shM F A B v (A 3) e) ∧ (∀ e, 0 ≤ e → e < A 0 v → B' v (10 * e + 9) = bmN (gM F A B v) e) ∧ A' 2 v = stC (gM F A B v) (A 0 v))) (([.ref (ad 0), .int (zI (v))] : List Value).toArray) s 0 0 (fA 11 ad s.heap.size)) (F0 m 222 ls []) := by
                intro n
                induction n with
                | zero => intro t hft ht1 hin hrun hmt H locs hP hS ls hl; exact absurd hmt (by omega)
                | succ n ih2 =>
                  intro t hft ht1 hin hrun hmt H locs hP hS ls hl
                  refine lv_iload hx hb dX3_find_222 (lv_at hl 0 rfl) ?_
                  refine lv_aload_n hx hb dX3_find_224 rfl (lv_at hl 2 rfl) ?_
                  refine zm_get hx hb hK hts hown hP 5 (by decide) q_fl_RX3_16 (v := .ref (ad 1)) rfl dX3_find_225 ?_
                  refine lv_iload_n hx hb dX3_find_228 rfl (lv_at hl 3 rfl) ?_
                  refine zm_lA0 hx hb hK hP (i := v) (by omega) dX3_find_229 ?_
                  refine z_icmp_ge (a := t) (b := A3 0 (v)) (tgt := 274) hx hb dX3_find_230 (by decide) (by omega) (by omega) (fun h_230 => ?_) (fun h_230 => ?_)
                  · skip
                    have hgt : ¬ gM F A B v (t - 1) := fun q => by have := q.2.1; omega
                    have hru := stC_run hf0 hgf hrun hgt hft (t - 1) (by omega) (by omega)
                    rw [show t - 1 + 1 = t by omega] at hru
                    have hbm := bmN_run hf0 hgf hrun hgt hft
                    refine lv_iload_n hx hb dX3_find_274 rfl (lv_at hl 1 rfl) ?_
                    refine lv_istore (lv' := [(5, .int (zI (f))), (4, .int (zI (t))), (3, .int (zI (f))), (0, .ref (ad 0)), (1, .int (zI (v)))]) hx hb dX3_find_275 hl (by decide) rfl (fun ls hl => ?_)
                    have lp_277 : ∀ (n : Nat) (k : Int), f ≤ k → k ≤ t → t - k < n → ∀ (H : Heap) (locs : List Loc), MP G ad F (zR A3 2 (v) ((stC (gM F A B v) f))) (zC B3 v 9 k (bmN (gM F A B v))) H → va_S (fA 11 ad s.heap.size) s.heap H locs → ∀ (ls : Array Slot), lv_has ls 6 [(5, .int (zI (k))), (4, .int (zI (t))), (3, .int (zI (f))), (0, .ref (ad 0)), (1, .int (zI (v)))] → W p l env (rmz 3 68 0 0) s m (([.ref (ad 0), .int (zI (v))] : List Value).toArray) below meth c H locs 0 0 (MQ below (QV (fA 11 ad s.heap.size) (fun H => ∃ A' B', MP G ad F A' B' H ∧ KP A B A' B' ∧ TM (A 0 v) B v A' B' ∧ (∀ e, 0 ≤ e → e < A 0 v → B' v (10 * e + 8) = shM F A B v (A 3) e) ∧ (∀ e, 0 ≤ e → e < A 0 v → B' v (10 * e + 9) = bmN (gM F A B v) e) ∧ A' 2 v = stC (gM F A B v) (A 0 v))) (([.ref (ad 0), .int (zI (v))] : List Value).toArray) s 0 0 (fA 11 ad s.heap.size)) (F0 m 277 ls []) := by
                      intro n
                      induction n with
                      | zero => intro k hk0 hk1 hmk H locs hP hS ls hl; exact absurd hmk (by omega)
                      | succ n ih3 =>
                        intro k hk0 hk1 hmk H locs hP hS ls hl
                        refine lv_iload hx hb dX3_find_277 (lv_at hl 0 rfl) ?_
                        refine lv_iload hx hb dX3_find_279 (lv_at hl 1 rfl) ?_
                        refine z_icmp_ge (a := k) (b := t) (tgt := 323) hx hb dX3_find_281 (by decide) (by omega) (by omega) (fun h_281 => ?_) (fun h_281 => ?_)
                        · skip
                          have hk9 : k = t := by omega
                          rw [hk9] at hP
                          refine lv_aload_n hx hb dX3_find_323 rfl (lv_at hl 3 rfl) ?_
                          refine zm_get hx hb hK hts hown hP 8 (by decide) q_fl_RX3_28 (v := .ref (ad 8)) rfl dX3_find_324 ?_
                          refine lv_iload_n hx hb dX3_find_327 rfl (lv_at hl 4 rfl) ?_
                          refine lv_dup2_11 hx hb dX3_find_328 rfl rfl ?_
                          have hsr := stC_rng (gM F A B v) hf0
                          refine zm_lA2 hx hb hK hP (i := v) (by omega) dX3_find_329 ?_
                          rw [zR_s]
                          refine lv_iload hx hb dX3_find_330 (lv_at hl 1 rfl) ?_
                          refine lv_iload_n hx hb dX3_find_332 rfl (lv_at hl 2 rfl) ?_
                          refine z_isub (x := t) (y := f) hx hb dX3_find_333 ?_
                          refine z_iconst hx hb dX3_find_334 ?_
                          refine z_icmp_le (a := (t) - (f)) (b := 1) (tgt := 342) hx hb dX3_find_335 (by decide) (by omega) (by omega) (fun h_335 => ?_) (fun h_335 => ?_)
                          · skip
                            rw [if_neg (by omega)] at hru
                            refine z_iconst hx hb dX3_find_342 ?_
                            refine z_iadd (x := stC (gM F A B v) f) (y := 0) hx hb dX3_find_343 ?_
                            refine zm_sA2 (x := (stC (gM F A B v) f) + (0)) hx hb hK hP hS (hD 8 (by decide)) (i := v) (by omega) dX3_find_344 (fun H locs hP hz ho hS => ?_)
                            have hP : MP G ad F (zR A3 2 v (stC (gM F A B v) t)) (zC B3 v 9 t (bmN (gM F A B v))) H := by rw [zR_R] at hP; rw [hru]; exact hP
                            refine lv_iload hx hb dX3_find_345 (lv_at hl 1 rfl) ?_
                            refine lv_istore_n (lv' := [(3, .int (zI (t))), (5, .int (zI (k))), (4, .int (zI (t))), (0, .ref (ad 0)), (1, .int (zI (v)))]) hx hb dX3_find_347 rfl hl (by decide) rfl (fun ls hl => ?_)
                            refine lv_goto (tgt := 207) hx hb dX3_find_348 (by decide) ?_
                            exact ih (t) (by omega) (by omega) hgt (by omega) H _ hP hS _ (lv_sub hl [0, 3, 4] rfl)
                          · skip
                            rw [if_pos (by omega)] at hru
                            refine z_iconst hx hb dX3_find_338 ?_
                            refine lv_goto (tgt := 343) hx hb dX3_find_339 (by decide) ?_
                            refine z_iadd (x := stC (gM F A B v) f) (y := 1) hx hb dX3_find_343 ?_
                            refine zm_sA2 (x := (stC (gM F A B v) f) + (1)) hx hb hK hP hS (hD 8 (by decide)) (i := v) (by omega) dX3_find_344 (fun H locs hP hz ho hS => ?_)
                            have hP : MP G ad F (zR A3 2 v (stC (gM F A B v) t)) (zC B3 v 9 t (bmN (gM F A B v))) H := by rw [zR_R] at hP; rw [hru]; exact hP
                            refine lv_iload hx hb dX3_find_345 (lv_at hl 1 rfl) ?_
                            refine lv_istore_n (lv' := [(3, .int (zI (t))), (5, .int (zI (k))), (4, .int (zI (t))), (0, .ref (ad 0)), (1, .int (zI (v)))]) hx hb dX3_find_347 rfl hl (by decide) rfl (fun ls hl => ?_)
                            refine lv_goto (tgt := 207) hx hb dX3_find_348 (by decide) ?_
                            exact ih (t) (by omega) (by omega) hgt (by omega) H _ hP hS _ (lv_sub hl [0, 3, 4] rfl)
                        · skip
                          refine lv_aload_n hx hb dX3_find_284 rfl (lv_at hl 3 rfl) ?_
                          refine zm_get hx hb hK hts hown hP 6 (by decide) q_fl_RX3_22 (v := .ref (ad 2)) rfl dX3_find_285 ?_
                          refine lv_iload_n hx hb dX3_find_288 rfl (lv_at hl 4 rfl) ?_
                          refine zm_aB hx hb hK hP (i := v) (by omega) dX3_find_289 ?_
                          refine z_bipush hx hb dX3_find_290 (by decide) ?_
                          refine lv_iload hx hb dX3_find_292 (lv_at hl 0 rfl) ?_
                          refine z_imul (x := 10) (y := k) hx hb dX3_find_294 ?_
                          refine z_bipush hx hb dX3_find_295 (by decide) ?_
                          refine z_iadd (x := (10) * (k)) (y := 9) hx hb dX3_find_297 ?_
                          refine lv_iload hx hb dX3_find_298 (lv_at hl 1 rfl) ?_
                          refine lv_iload_n hx hb dX3_find_300 rfl (lv_at hl 2 rfl) ?_
                          refine z_isub (x := t) (y := f) hx hb dX3_find_301 ?_
                          refine z_iconst hx hb dX3_find_302 ?_
                          have hbk := hbm k hk0 (by omega)
                          refine z_icmp_le (a := (t) - (f)) (b := 1) (tgt := 315) hx hb dX3_find_303 (by decide) (by omega) (by omega) (fun h_303 => ?_) (fun h_303 => ?_)
                          · skip
                            rw [if_neg (by omega)] at hbk
                            refine z_iconst hx hb dX3_find_315 ?_
                            refine zm_sB (x := -1) hx hb hK hP hS (v := v) (by omega) (hD (3 + (v).toNat) (by omega)) (i := ((10) * (k)) + (9)) (by omega) dX3_find_316 (fun H locs hP hz ho hS => ?_)
                            have hP : MP G ad F (zR A3 2 v (stC (gM F A B v) f)) (zC B3 v 9 (k + 1) (bmN (gM F A B v))) H := by rw [← zC_s B3 v (bmN (gM F A B v)) (by omega) (by omega), hbk]; exact hP
                            refine z_iinc (lv' := [(5, .int (zI (k + 1))), (4, .int (zI (t))), (3, .int (zI (f))), (0, .ref (ad 0)), (1, .int (zI (v)))]) hx hb dX3_find_317 hl (k := 0) rfl (by decide) rfl (fun ls hl => ?_)
                            refine lv_goto (tgt := 277) hx hb dX3_find_320 (by decide) ?_
                            exact ih3 (k + 1) (by omega) (by omega) (by omega) H _ hP hS _ (lv_sub hl [0, 1, 2, 3, 4] rfl)
                          · skip
                            rw [if_pos (by omega)] at hbk
                            refine lv_aload_n hx hb dX3_find_306 rfl (lv_at hl 3 rfl) ?_
                            refine zm_get hx hb hK hts hown hP 8 (by decide) q_fl_RX3_28 (v := .ref (ad 8)) rfl dX3_find_307 ?_
                            refine lv_iload_n hx hb dX3_find_310 rfl (lv_at hl 4 rfl) ?_
                            refine zm_lA2 hx hb hK hP (i := v) (by omega) dX3_find_311 ?_
                            rw [zR_s]
                            refine lv_goto (tgt := 316) hx hb dX3_find_312 (by decide) ?_
                            refine zm_sB (x := stC (gM F A B v) f) hx hb hK hP hS (v := v) (by omega) (hD (3 + (v).toNat) (by omega)) (i := ((10) * (k)) + (9)) (by omega) dX3_find_316 (fun H locs hP hz ho hS => ?_)
                            have hP : MP G ad F (zR A3 2 v (stC (gM F A B v) f)) (zC B3 v 9 (k + 1) (bmN (gM F A B v))) H := by rw [← zC_s B3 v (bmN (gM F A B v)) (by omega) (by omega), hbk]; exact hP
                            refine z_iinc (lv' := [(5, .int (zI (k + 1))), (4, .int (zI (t))), (3, .int (zI (f))), (0, .ref (ad 0)), (1, .int (zI (v)))]) hx hb dX3_find_317 hl (k := 0) rfl (by decide) rfl (fun ls hl => ?_)
                            refine lv_goto (tgt := 277) hx hb dX3_find_320 (by decide) ?_
                            exact ih3 (k + 1) (by omega) (by omega) (by omega) H _ hP hS _ (lv_sub hl [0, 1, 2, 3, 4] rfl)
                    exact lp_277 201 f (by omega) (by omega) (by omega) H _ hP hS _ (lv_sub hl [0, 1, 2, 3, 4] rfl)
                  · skip
                    refine lv_aload_n hx hb dX3_find_233 rfl (lv_at hl 2 rfl) ?_
                    refine lv_iload_n hx hb dX3_find_234 rfl (lv_at hl 3 rfl) ?_
                    refine lv_iload_n hx hb dX3_find_235 rfl (lv_at hl 1 rfl) ?_
                    refine k_R (c_VR (As := [.int (zI (v)), .int (zI (f))]) (rest := []) ⟨hx, hb, hml, hown, hts⟩ hG hS hA (c_X3_canBeam l G ad F (zR A3 2 (v) ((stC (gM F A B v) f))) (zC B3 v 9 f (bmN (gM F A B v))) v f (by omega) (by rw [kpB.1]; omega) okB) ⟨q_ml_RX3_139, q_im_X3_canBeam, q_sel_X3_canBeam, q_ini_RX3, q_code_X3_canBeam⟩ hv_X3_canBeam (MP.rec hK hP) hP ⟨by decide, by decide⟩ ⟨Nat.zero_le _, Nat.zero_le _⟩ rfl hl.1 rfl (Nat.le_of_ble_eq_true rfl) dX3_find_236) ?_
                    rw [bI_eqP (kpB.cb v f)]
                    refine z_bif_eq (q := cbM B v f) (tgt := 274) hx hb dX3_find_239 (by decide) (fun h_239 => ?_) (fun h_239 => ?_)
                    · skip
                      have hgt : ¬ gM F A B v (t - 1) := fun q => by
                        rcases hin with z | z
                        · exact h_239 (by have := q.2.2.1; rw [show t - 1 = f by omega] at this; exact this)
                        · exact h_239 z.1
                      have hru := stC_run hf0 hgf hrun hgt hft (t - 1) (by omega) (by omega)
                      rw [show t - 1 + 1 = t by omega] at hru
                      have hbm := bmN_run hf0 hgf hrun hgt hft
                      refine lv_iload_n hx hb dX3_find_274 rfl (lv_at hl 1 rfl) ?_
                      refine lv_istore (lv' := [(5, .int (zI (f))), (4, .int (zI (t))), (3, .int (zI (f))), (0, .ref (ad 0)), (1, .int (zI (v)))]) hx hb dX3_find_275 hl (by decide) rfl (fun ls hl => ?_)
                      have lp_277 : ∀ (n : Nat) (k : Int), f ≤ k → k ≤ t → t - k < n → ∀ (H : Heap) (locs : List Loc), MP G ad F (zR A3 2 (v) ((stC (gM F A B v) f))) (zC B3 v 9 k (bmN (gM F A B v))) H → va_S (fA 11 ad s.heap.size) s.heap H locs → ∀ (ls : Array Slot), lv_has ls 6 [(5, .int (zI (k))), (4, .int (zI (t))), (3, .int (zI (f))), (0, .ref (ad 0)), (1, .int (zI (v)))] → W p l env (rmz 3 68 0 0) s m (([.ref (ad 0), .int (zI (v))] : List Value).toArray) below meth c H locs 0 0 (MQ below (QV (fA 11 ad s.heap.size) (fun H => ∃ A' B', MP G ad F A' B' H ∧ KP A B A' B' ∧ TM (A 0 v) B v A' B' ∧ (∀ e, 0 ≤ e → e < A 0 v → B' v (10 * e + 8) = shM F A B v (A 3) e) ∧ (∀ e, 0 ≤ e → e < A 0 v → B' v (10 * e + 9) = bmN (gM F A B v) e) ∧ A' 2 v = stC (gM F A B v) (A 0 v))) (([.ref (ad 0), .int (zI (v))] : List Value).toArray) s 0 0 (fA 11 ad s.heap.size)) (F0 m 277 ls []) := by
                        intro n
                        induction n with
                        | zero => intro k hk0 hk1 hmk H locs hP hS ls hl; exact absurd hmk (by omega)
                        | succ n ih3 =>
                          intro k hk0 hk1 hmk H locs hP hS ls hl
                          refine lv_iload hx hb dX3_find_277 (lv_at hl 0 rfl) ?_
                          refine lv_iload hx hb dX3_find_279 (lv_at hl 1 rfl) ?_
                          refine z_icmp_ge (a := k) (b := t) (tgt := 323) hx hb dX3_find_281 (by decide) (by omega) (by omega) (fun h_281 => ?_) (fun h_281 => ?_)
                          · skip
                            have hk9 : k = t := by omega
                            rw [hk9] at hP
                            refine lv_aload_n hx hb dX3_find_323 rfl (lv_at hl 3 rfl) ?_
                            refine zm_get hx hb hK hts hown hP 8 (by decide) q_fl_RX3_28 (v := .ref (ad 8)) rfl dX3_find_324 ?_
                            refine lv_iload_n hx hb dX3_find_327 rfl (lv_at hl 4 rfl) ?_
                            refine lv_dup2_11 hx hb dX3_find_328 rfl rfl ?_
                            have hsr := stC_rng (gM F A B v) hf0
                            refine zm_lA2 hx hb hK hP (i := v) (by omega) dX3_find_329 ?_
                            rw [zR_s]
                            refine lv_iload hx hb dX3_find_330 (lv_at hl 1 rfl) ?_
                            refine lv_iload_n hx hb dX3_find_332 rfl (lv_at hl 2 rfl) ?_
                            refine z_isub (x := t) (y := f) hx hb dX3_find_333 ?_
                            refine z_iconst hx hb dX3_find_334 ?_
                            refine z_icmp_le (a := (t) - (f)) (b := 1) (tgt := 342) hx hb dX3_find_335 (by decide) (by omega) (by omega) (fun h_335 => ?_) (fun h_335 => ?_)
                            · skip
                              rw [if_neg (by omega)] at hru
                              refine z_iconst hx hb dX3_find_342 ?_
                              refine z_iadd (x := stC (gM F A B v) f) (y := 0) hx hb dX3_find_343 ?_
                              refine zm_sA2 (x := (stC (gM F A B v) f) + (0)) hx hb hK hP hS (hD 8 (by decide)) (i := v) (by omega) dX3_find_344 (fun H locs hP hz ho hS => ?_)
                              have hP : MP G ad F (zR A3 2 v (stC (gM F A B v) t)) (zC B3 v 9 t (bmN (gM F A B v))) H := by rw [zR_R] at hP; rw [hru]; exact hP
                              refine lv_iload hx hb dX3_find_345 (lv_at hl 1 rfl) ?_
                              refine lv_istore_n (lv' := [(3, .int (zI (t))), (5, .int (zI (k))), (4, .int (zI (t))), (0, .ref (ad 0)), (1, .int (zI (v)))]) hx hb dX3_find_347 rfl hl (by decide) rfl (fun ls hl => ?_)
                              refine lv_goto (tgt := 207) hx hb dX3_find_348 (by decide) ?_
                              exact ih (t) (by omega) (by omega) hgt (by omega) H _ hP hS _ (lv_sub hl [0, 3, 4] rfl)
                            · skip
                              rw [if_pos (by omega)] at hru
                              refine z_iconst hx hb dX3_find_338 ?_
                              refine lv_goto (tgt := 343) hx hb dX3_find_339 (by decide) ?_
                              refine z_iadd (x := stC (gM F A B v) f) (y := 1) hx hb dX3_find_343 ?_
                              refine zm_sA2 (x := (stC (gM F A B v) f) + (1)) hx hb hK hP hS (hD 8 (by decide)) (i := v) (by omega) dX3_find_344 (fun H locs hP hz ho hS => ?_)
                              have hP : MP G ad F (zR A3 2 v (stC (gM F A B v) t)) (zC B3 v 9 t (bmN (gM F A B v))) H := by rw [zR_R] at hP; rw [hru]; exact hP
                              refine lv_iload hx hb dX3_find_345 (lv_at hl 1 rfl) ?_
                              refine lv_istore_n (lv' := [(3, .int (zI (t))), (5, .int (zI (k))), (4, .int (zI (t))), (0, .ref (ad 0)), (1, .int (zI (v)))]) hx hb dX3_find_347 rfl hl (by decide) rfl (fun ls hl => ?_)
                              refine lv_goto (tgt := 207) hx hb dX3_find_348 (by decide) ?_
                              exact ih (t) (by omega) (by omega) hgt (by omega) H _ hP hS _ (lv_sub hl [0, 3, 4] rfl)
                          · skip
                            refine lv_aload_n hx hb dX3_find_284 rfl (lv_at hl 3 rfl) ?_
                            refine zm_get hx hb hK hts hown hP 6 (by decide) q_fl_RX3_22 (v := .ref (ad 2)) rfl dX3_find_285 ?_
                            refine lv_iload_n hx hb dX3_find_288 rfl (lv_at hl 4 rfl) ?_
                            refine zm_aB hx hb hK hP (i := v) (by omega) dX3_find_289 ?_
                            refine z_bipush hx hb dX3_find_290 (by decide) ?_
                            refine lv_iload hx hb dX3_find_292 (lv_at hl 0 rfl) ?_
                            refine z_imul (x := 10) (y := k) hx hb dX3_find_294 ?_
                            refine z_bipush hx hb dX3_find_295 (by decide) ?_
                            refine z_iadd (x := (10) * (k)) (y := 9) hx hb dX3_find_297 ?_
                            refine lv_iload hx hb dX3_find_298 (lv_at hl 1 rfl) ?_
                            refine lv_iload_n hx hb dX3_find_300 rfl (lv_at hl 2 rfl) ?_
                            refine z_isub (x := t) (y := f) hx hb dX3_find_301 ?_
                            refine z_iconst hx hb dX3_find_302 ?_
                            have hbk := hbm k hk0 (by omega)
                            refine z_icmp_le (a := (t) - (f)) (b := 1) (tgt := 315) hx hb dX3_find_303 (by decide) (by omega) (by omega) (fun h_303 => ?_) (fun h_303 => ?_)
                            · skip
                              rw [if_neg (by omega)] at hbk
                              refine z_iconst hx hb dX3_find_315 ?_
                              refine zm_sB (x := -1) hx hb hK hP hS (v := v) (by omega) (hD (3 + (v).toNat) (by omega)) (i := ((10) * (k)) + (9)) (by omega) dX3_find_316 (fun H locs hP hz ho hS => ?_)
                              have hP : MP G ad F (zR A3 2 v (stC (gM F A B v) f)) (zC B3 v 9 (k + 1) (bmN (gM F A B v))) H := by rw [← zC_s B3 v (bmN (gM F A B v)) (by omega) (by omega), hbk]; exact hP
                              refine z_iinc (lv' := [(5, .int (zI (k + 1))), (4, .int (zI (t))), (3, .int (zI (f))), (0, .ref (ad 0)), (1, .int (zI (v)))]) hx hb dX3_find_317 hl (k := 0) rfl (by decide) rfl (fun ls hl => ?_)
                              refine lv_goto (tgt := 277) hx hb dX3_find_320 (by decide) ?_
                              exact ih3 (k + 1) (by omega) (by omega) (by omega) H _ hP hS _ (lv_sub hl [0, 1, 2, 3, 4] rfl)
                            · skip
                              rw [if_pos (by omega)] at hbk
                              refine lv_aload_n hx hb dX3_find_306 rfl (lv_at hl 3 rfl) ?_
                              refine zm_get hx hb hK hts hown hP 8 (by decide) q_fl_RX3_28 (v := .ref (ad 8)) rfl dX3_find_307 ?_
                              refine lv_iload_n hx hb dX3_find_310 rfl (lv_at hl 4 rfl) ?_
                              refine zm_lA2 hx hb hK hP (i := v) (by omega) dX3_find_311 ?_
                              rw [zR_s]
                              refine lv_goto (tgt := 316) hx hb dX3_find_312 (by decide) ?_
                              refine zm_sB (x := stC (gM F A B v) f) hx hb hK hP hS (v := v) (by omega) (hD (3 + (v).toNat) (by omega)) (i := ((10) * (k)) + (9)) (by omega) dX3_find_316 (fun H locs hP hz ho hS => ?_)
                              have hP : MP G ad F (zR A3 2 v (stC (gM F A B v) f)) (zC B3 v 9 (k + 1) (bmN (gM F A B v))) H := by rw [← zC_s B3 v (bmN (gM F A B v)) (by omega) (by omega), hbk]; exact hP
                              refine z_iinc (lv' := [(5, .int (zI (k + 1))), (4, .int (zI (t))), (3, .int (zI (f))), (0, .ref (ad 0)), (1, .int (zI (v)))]) hx hb dX3_find_317 hl (k := 0) rfl (by decide) rfl (fun ls hl => ?_)
                              refine lv_goto (tgt := 277) hx hb dX3_find_320 (by decide) ?_
                              exact ih3 (k + 1) (by omega) (by omega) (by omega) H _ hP hS _ (lv_sub hl [0, 1, 2, 3, 4] rfl)
                      exact lp_277 201 f (by omega) (by omega) (by omega) H _ hP hS _ (lv_sub hl [0, 1, 2, 3, 4] rfl)
                    · skip
                      refine lv_aload_n hx hb dX3_find_242 rfl (lv_at hl 2 rfl) ?_
                      refine lv_iload_n hx hb dX3_find_243 rfl (lv_at hl 3 rfl) ?_
                      refine lv_iload hx hb dX3_find_244 (lv_at hl 0 rfl) ?_
                      refine k_R (c_VR (As := [.int (zI (v)), .int (zI (t))]) (rest := []) ⟨hx, hb, hml, hown, hts⟩ hG hS hA (c_X3_canBeam l G ad F (zR A3 2 (v) ((stC (gM F A B v) f))) (zC B3 v 9 f (bmN (gM F A B v))) v t (by omega) (by rw [kpB.1]; omega) okB) ⟨q_ml_RX3_139, q_im_X3_canBeam, q_sel_X3_canBeam, q_ini_RX3, q_code_X3_canBeam⟩ hv_X3_canBeam (MP.rec hK hP) hP ⟨by decide, by decide⟩ ⟨Nat.zero_le _, Nat.zero_le _⟩ rfl hl.1 rfl (Nat.le_of_ble_eq_true rfl) dX3_find_246) ?_
                      rw [bI_eqP (kpB.cb v t)]
                      refine z_bif_eq (q := cbM B v t) (tgt := 274) hx hb dX3_find_249 (by decide) (fun h_249 => ?_) (fun h_249 => ?_)
                      · skip
                        have hgt : ¬ gM F A B v (t - 1) := fun q => h_249 (by have := q.2.2.2.1; rw [show t - 1 + 1 = t by omega] at this; exact this)
                        have hru := stC_run hf0 hgf hrun hgt hft (t - 1) (by omega) (by omega)
                        rw [show t - 1 + 1 = t by omega] at hru
                        have hbm := bmN_run hf0 hgf hrun hgt hft
                        refine lv_iload_n hx hb dX3_find_274 rfl (lv_at hl 1 rfl) ?_
                        refine lv_istore (lv' := [(5, .int (zI (f))), (4, .int (zI (t))), (3, .int (zI (f))), (0, .ref (ad 0)), (1, .int (zI (v)))]) hx hb dX3_find_275 hl (by decide) rfl (fun ls hl => ?_)
                        have lp_277 : ∀ (n : Nat) (k : Int), f ≤ k → k ≤ t → t - k < n → ∀ (H : Heap) (locs : List Loc), MP G ad F (zR A3 2 (v) ((stC (gM F A B v) f))) (zC B3 v 9 k (bmN (gM F A B v))) H → va_S (fA 11 ad s.heap.size) s.heap H locs → ∀ (ls : Array Slot), lv_has ls 6 [(5, .int (zI (k))), (4, .int (zI (t))), (3, .int (zI (f))), (0, .ref (ad 0)), (1, .int (zI (v)))] → W p l env (rmz 3 68 0 0) s m (([.ref (ad 0), .int (zI (v))] : List Value).toArray) below meth c H locs 0 0 (MQ below (QV (fA 11 ad s.heap.size) (fun H => ∃ A' B', MP G ad F A' B' H ∧ KP A B A' B' ∧ TM (A 0 v) B v A' B' ∧ (∀ e, 0 ≤ e → e < A 0 v → B' v (10 * e + 8) = shM F A B v (A 3) e) ∧ (∀ e, 0 ≤ e → e < A 0 v → B' v (10 * e + 9) = bmN (gM F A B v) e) ∧ A' 2 v = stC (gM F A B v) (A 0 v))) (([.ref (ad 0), .int (zI (v))] : List Value).toArray) s 0 0 (fA 11 ad s.heap.size)) (F0 m 277 ls []) := by
                          intro n
                          induction n with
                          | zero => intro k hk0 hk1 hmk H locs hP hS ls hl; exact absurd hmk (by omega)
                          | succ n ih3 =>
                            intro k hk0 hk1 hmk H locs hP hS ls hl
                            refine lv_iload hx hb dX3_find_277 (lv_at hl 0 rfl) ?_
                            refine lv_iload hx hb dX3_find_279 (lv_at hl 1 rfl) ?_
                            refine z_icmp_ge (a := k) (b := t) (tgt := 323) hx hb dX3_find_281 (by decide) (by omega) (by omega) (fun h_281 => ?_) (fun h_281 => ?_)
                            · skip
                              have hk9 : k = t := by omega
                              rw [hk9] at hP
                              refine lv_aload_n hx hb dX3_find_323 rfl (lv_at hl 3 rfl) ?_
                              refine zm_get hx hb hK hts hown hP 8 (by decide) q_fl_RX3_28 (v := .ref (ad 8)) rfl dX3_find_324 ?_
                              refine lv_iload_n hx hb dX3_find_327 rfl (lv_at hl 4 rfl) ?_
                              refine lv_dup2_11 hx hb dX3_find_328 rfl rfl ?_
                              have hsr := stC_rng (gM F A B v) hf0
                              refine zm_lA2 hx hb hK hP (i := v) (by omega) dX3_find_329 ?_
                              rw [zR_s]
                              refine lv_iload hx hb dX3_find_330 (lv_at hl 1 rfl) ?_
                              refine lv_iload_n hx hb dX3_find_332 rfl (lv_at hl 2 rfl) ?_
                              refine z_isub (x := t) (y := f) hx hb dX3_find_333 ?_
                              refine z_iconst hx hb dX3_find_334 ?_
                              refine z_icmp_le (a := (t) - (f)) (b := 1) (tgt := 342) hx hb dX3_find_335 (by decide) (by omega) (by omega) (fun h_335 => ?_) (fun h_335 => ?_)
                              · skip
                                rw [if_neg (by omega)] at hru
                                refine z_iconst hx hb dX3_find_342 ?_
                                refine z_iadd (x := stC (gM F A B v) f) (y := 0) hx hb dX3_find_343 ?_
                                refine zm_sA2 (x := (stC (gM F A B v) f) + (0)) hx hb hK hP hS (hD 8 (by decide)) (i := v) (by omega) dX3_find_344 (fun H locs hP hz ho hS => ?_)
                                have hP : MP G ad F (zR A3 2 v (stC (gM F A B v) t)) (zC B3 v 9 t (bmN (gM F A B v))) H := by rw [zR_R] at hP; rw [hru]; exact hP
                                refine lv_iload hx hb dX3_find_345 (lv_at hl 1 rfl) ?_
                                refine lv_istore_n (lv' := [(3, .int (zI (t))), (5, .int (zI (k))), (4, .int (zI (t))), (0, .ref (ad 0)), (1, .int (zI (v)))]) hx hb dX3_find_347 rfl hl (by decide) rfl (fun ls hl => ?_)
                                refine lv_goto (tgt := 207) hx hb dX3_find_348 (by decide) ?_
                                exact ih (t) (by omega) (by omega) hgt (by omega) H _ hP hS _ (lv_sub hl [0, 3, 4] rfl)
                              · skip
                                rw [if_pos (by omega)] at hru
                                refine z_iconst hx hb dX3_find_338 ?_
                                refine lv_goto (tgt := 343) hx hb dX3_find_339 (by decide) ?_
                                refine z_iadd (x := stC (gM F A B v) f) (y := 1) hx hb dX3_find_343 ?_
                                refine zm_sA2 (x := (stC (gM F A B v) f) + (1)) hx hb hK hP hS (hD 8 (by decide)) (i := v) (by omega) dX3_find_344 (fun H locs hP hz ho hS => ?_)
                                have hP : MP G ad F (zR A3 2 v (stC (gM F A B v) t)) (zC B3 v 9 t (bmN (gM F A B v))) H := by rw [zR_R] at hP; rw [hru]; exact hP
                                refine lv_iload hx hb dX3_find_345 (lv_at hl 1 rfl) ?_
                                refine lv_istore_n (lv' := [(3, .int (zI (t))), (5, .int (zI (k))), (4, .int (zI (t))), (0, .ref (ad 0)), (1, .int (zI (v)))]) hx hb dX3_find_347 rfl hl (by decide) rfl (fun ls hl => ?_)
                                refine lv_goto (tgt := 207) hx hb dX3_find_348 (by decide) ?_
                                exact ih (t) (by omega) (by omega) hgt (by omega) H _ hP hS _ (lv_sub hl [0, 3, 4] rfl)
                            · skip
                              refine lv_aload_n hx hb dX3_find_284 rfl (lv_at hl 3 rfl) ?_
                              refine zm_get hx hb hK hts hown hP 6 (by decide) q_fl_RX3_22 (v := .ref (ad 2)) rfl dX3_find_285 ?_
                              refine lv_iload_n hx hb dX3_find_288 rfl (lv_at hl 4 rfl) ?_
                              refine zm_aB hx hb hK hP (i := v) (by omega) dX3_find_289 ?_
                              refine z_bipush hx hb dX3_find_290 (by decide) ?_
                              refine lv_iload hx hb dX3_find_292 (lv_at hl 0 rfl) ?_
                              refine z_imul (x := 10) (y := k) hx hb dX3_find_294 ?_
                              refine z_bipush hx hb dX3_find_295 (by decide) ?_
                              refine z_iadd (x := (10) * (k)) (y := 9) hx hb dX3_find_297 ?_
                              refine lv_iload hx hb dX3_find_298 (lv_at hl 1 rfl) ?_
                              refine lv_iload_n hx hb dX3_find_300 rfl (lv_at hl 2 rfl) ?_
                              refine z_isub (x := t) (y := f) hx hb dX3_find_301 ?_
                              refine z_iconst hx hb dX3_find_302 ?_
                              have hbk := hbm k hk0 (by omega)
                              refine z_icmp_le (a := (t) - (f)) (b := 1) (tgt := 315) hx hb dX3_find_303 (by decide) (by omega) (by omega) (fun h_303 => ?_) (fun h_303 => ?_)
                              · skip
                                rw [if_neg (by omega)] at hbk
                                refine z_iconst hx hb dX3_find_315 ?_
                                refine zm_sB (x := -1) hx hb hK hP hS (v := v) (by omega) (hD (3 + (v).toNat) (by omega)) (i := ((10) * (k)) + (9)) (by omega) dX3_find_316 (fun H locs hP hz ho hS => ?_)
                                have hP : MP G ad F (zR A3 2 v (stC (gM F A B v) f)) (zC B3 v 9 (k + 1) (bmN (gM F A B v))) H := by rw [← zC_s B3 v (bmN (gM F A B v)) (by omega) (by omega), hbk]; exact hP
                                refine z_iinc (lv' := [(5, .int (zI (k + 1))), (4, .int (zI (t))), (3, .int (zI (f))), (0, .ref (ad 0)), (1, .int (zI (v)))]) hx hb dX3_find_317 hl (k := 0) rfl (by decide) rfl (fun ls hl => ?_)
                                refine lv_goto (tgt := 277) hx hb dX3_find_320 (by decide) ?_
                                exact ih3 (k + 1) (by omega) (by omega) (by omega) H _ hP hS _ (lv_sub hl [0, 1, 2, 3, 4] rfl)
                              · skip
                                rw [if_pos (by omega)] at hbk
                                refine lv_aload_n hx hb dX3_find_306 rfl (lv_at hl 3 rfl) ?_
                                refine zm_get hx hb hK hts hown hP 8 (by decide) q_fl_RX3_28 (v := .ref (ad 8)) rfl dX3_find_307 ?_
                                refine lv_iload_n hx hb dX3_find_310 rfl (lv_at hl 4 rfl) ?_
                                refine zm_lA2 hx hb hK hP (i := v) (by omega) dX3_find_311 ?_
                                rw [zR_s]
                                refine lv_goto (tgt := 316) hx hb dX3_find_312 (by decide) ?_
                                refine zm_sB (x := stC (gM F A B v) f) hx hb hK hP hS (v := v) (by omega) (hD (3 + (v).toNat) (by omega)) (i := ((10) * (k)) + (9)) (by omega) dX3_find_316 (fun H locs hP hz ho hS => ?_)
                                have hP : MP G ad F (zR A3 2 v (stC (gM F A B v) f)) (zC B3 v 9 (k + 1) (bmN (gM F A B v))) H := by rw [← zC_s B3 v (bmN (gM F A B v)) (by omega) (by omega), hbk]; exact hP
                                refine z_iinc (lv' := [(5, .int (zI (k + 1))), (4, .int (zI (t))), (3, .int (zI (f))), (0, .ref (ad 0)), (1, .int (zI (v)))]) hx hb dX3_find_317 hl (k := 0) rfl (by decide) rfl (fun ls hl => ?_)
                                refine lv_goto (tgt := 277) hx hb dX3_find_320 (by decide) ?_
                                exact ih3 (k + 1) (by omega) (by omega) (by omega) H _ hP hS _ (lv_sub hl [0, 1, 2, 3, 4] rfl)
                        exact lp_277 201 f (by omega) (by omega) (by omega) H _ hP hS _ (lv_sub hl [0, 1, 2, 3, 4] rfl)
                      · skip
                        have hqf := hq f (by omega) (by omega)
                        have hqt := hq t (by omega) (by omega)
                        refine lv_aload_n hx hb dX3_find_252 rfl (lv_at hl 2 rfl) ?_
                        refine lv_iload_n hx hb dX3_find_253 rfl (lv_at hl 3 rfl) ?_
                        refine lv_iload_n hx hb dX3_find_254 rfl (lv_at hl 1 rfl) ?_
                        refine k_R (c_VR (As := [.int (zI (v)), .int (zI (f))]) (rest := []) ⟨hx, hb, hml, hown, hts⟩ hG hS hA (c_X3_beat l G ad F (zR A3 2 (v) ((stC (gM F A B v) f))) (zC B3 v 9 f (bmN (gM F A B v))) v f (by omega) (by rw [kpB.1]; omega) (by rw [hgB f (by omega) (by omega)]; omega) okB) ⟨q_ml_RX3_142, q_im_X3_beat, q_sel_X3_beat, q_ini_RX3, q_code_X3_beat⟩ hv_X3_beat (MP.rec hK hP) hP ⟨by decide, by decide⟩ ⟨Nat.zero_le _, Nat.zero_le _⟩ rfl hl.1 rfl (Nat.le_of_ble_eq_true rfl) dX3_find_255) ?_
                        rw [hgB f (by omega) (by omega)]
                        refine lv_aload_n hx hb dX3_find_258 rfl (lv_at hl 2 rfl) ?_
                        refine lv_iload_n hx hb dX3_find_259 rfl (lv_at hl 3 rfl) ?_
                        refine lv_iload hx hb dX3_find_260 (lv_at hl 0 rfl) ?_
                        refine k_R (c_VR (As := [.int (zI (v)), .int (zI (t))]) (rest := [.int (zI (bgM B v f / (384 / F 2)))]) ⟨hx, hb, hml, hown, hts⟩ hG hS hA (c_X3_beat l G ad F (zR A3 2 (v) ((stC (gM F A B v) f))) (zC B3 v 9 f (bmN (gM F A B v))) v t (by omega) (by rw [kpB.1]; omega) (by rw [hgB t (by omega) (by omega)]; omega) okB) ⟨q_ml_RX3_142, q_im_X3_beat, q_sel_X3_beat, q_ini_RX3, q_code_X3_beat⟩ hv_X3_beat (MP.rec hK hP) hP ⟨by decide, by decide⟩ ⟨Nat.zero_le _, Nat.zero_le _⟩ rfl hl.1 rfl (Nat.le_of_ble_eq_true rfl) dX3_find_262) ?_
                        rw [hgB t (by omega) (by omega)]
                        refine z_icmp_ne (a := bgM B v f / (384 / F 2)) (b := bgM B v t / (384 / F 2)) (tgt := 274) hx hb dX3_find_265 (by decide) (by omega) (by omega) (fun h_265 => ?_) (fun h_265 => ?_)
                        · skip
                          have hgt : ¬ gM F A B v (t - 1) := fun q => by
                            have z9 := q.2.2.2.2
                            rw [show t - 1 + 1 = t by omega] at z9
                            rcases hin with z | z
                            · rw [show t - 1 = f by omega] at z9; omega
                            · have := z.2.2; omega
                          have hru := stC_run hf0 hgf hrun hgt hft (t - 1) (by omega) (by omega)
                          rw [show t - 1 + 1 = t by omega] at hru
                          have hbm := bmN_run hf0 hgf hrun hgt hft
                          refine lv_iload_n hx hb dX3_find_274 rfl (lv_at hl 1 rfl) ?_
                          refine lv_istore (lv' := [(5, .int (zI (f))), (4, .int (zI (t))), (3, .int (zI (f))), (0, .ref (ad 0)), (1, .int (zI (v)))]) hx hb dX3_find_275 hl (by decide) rfl (fun ls hl => ?_)
                          have lp_277 : ∀ (n : Nat) (k : Int), f ≤ k → k ≤ t → t - k < n → ∀ (H : Heap) (locs : List Loc), MP G ad F (zR A3 2 (v) ((stC (gM F A B v) f))) (zC B3 v 9 k (bmN (gM F A B v))) H → va_S (fA 11 ad s.heap.size) s.heap H locs → ∀ (ls : Array Slot), lv_has ls 6 [(5, .int (zI (k))), (4, .int (zI (t))), (3, .int (zI (f))), (0, .ref (ad 0)), (1, .int (zI (v)))] → W p l env (rmz 3 68 0 0) s m (([.ref (ad 0), .int (zI (v))] : List Value).toArray) below meth c H locs 0 0 (MQ below (QV (fA 11 ad s.heap.size) (fun H => ∃ A' B', MP G ad F A' B' H ∧ KP A B A' B' ∧ TM (A 0 v) B v A' B' ∧ (∀ e, 0 ≤ e → e < A 0 v → B' v (10 * e + 8) = shM F A B v (A 3) e) ∧ (∀ e, 0 ≤ e → e < A 0 v → B' v (10 * e + 9) = bmN (gM F A B v) e) ∧ A' 2 v = stC (gM F A B v) (A 0 v))) (([.ref (ad 0), .int (zI (v))] : List Value).toArray) s 0 0 (fA 11 ad s.heap.size)) (F0 m 277 ls []) := by
                            intro n
                            induction n with
                            | zero => intro k hk0 hk1 hmk H locs hP hS ls hl; exact absurd hmk (by omega)
                            | succ n ih3 =>
                              intro k hk0 hk1 hmk H locs hP hS ls hl
                              refine lv_iload hx hb dX3_find_277 (lv_at hl 0 rfl) ?_
                              refine lv_iload hx hb dX3_find_279 (lv_at hl 1 rfl) ?_
                              refine z_icmp_ge (a := k) (b := t) (tgt := 323) hx hb dX3_find_281 (by decide) (by omega) (by omega) (fun h_281 => ?_) (fun h_281 => ?_)
                              · skip
                                have hk9 : k = t := by omega
                                rw [hk9] at hP
                                refine lv_aload_n hx hb dX3_find_323 rfl (lv_at hl 3 rfl) ?_
                                refine zm_get hx hb hK hts hown hP 8 (by decide) q_fl_RX3_28 (v := .ref (ad 8)) rfl dX3_find_324 ?_
                                refine lv_iload_n hx hb dX3_find_327 rfl (lv_at hl 4 rfl) ?_
                                refine lv_dup2_11 hx hb dX3_find_328 rfl rfl ?_
                                have hsr := stC_rng (gM F A B v) hf0
                                refine zm_lA2 hx hb hK hP (i := v) (by omega) dX3_find_329 ?_
                                rw [zR_s]
                                refine lv_iload hx hb dX3_find_330 (lv_at hl 1 rfl) ?_
                                refine lv_iload_n hx hb dX3_find_332 rfl (lv_at hl 2 rfl) ?_
                                refine z_isub (x := t) (y := f) hx hb dX3_find_333 ?_
                                refine z_iconst hx hb dX3_find_334 ?_
                                refine z_icmp_le (a := (t) - (f)) (b := 1) (tgt := 342) hx hb dX3_find_335 (by decide) (by omega) (by omega) (fun h_335 => ?_) (fun h_335 => ?_)
                                · skip
                                  rw [if_neg (by omega)] at hru
                                  refine z_iconst hx hb dX3_find_342 ?_
                                  refine z_iadd (x := stC (gM F A B v) f) (y := 0) hx hb dX3_find_343 ?_
                                  refine zm_sA2 (x := (stC (gM F A B v) f) + (0)) hx hb hK hP hS (hD 8 (by decide)) (i := v) (by omega) dX3_find_344 (fun H locs hP hz ho hS => ?_)
                                  have hP : MP G ad F (zR A3 2 v (stC (gM F A B v) t)) (zC B3 v 9 t (bmN (gM F A B v))) H := by rw [zR_R] at hP; rw [hru]; exact hP
                                  refine lv_iload hx hb dX3_find_345 (lv_at hl 1 rfl) ?_
                                  refine lv_istore_n (lv' := [(3, .int (zI (t))), (5, .int (zI (k))), (4, .int (zI (t))), (0, .ref (ad 0)), (1, .int (zI (v)))]) hx hb dX3_find_347 rfl hl (by decide) rfl (fun ls hl => ?_)
                                  refine lv_goto (tgt := 207) hx hb dX3_find_348 (by decide) ?_
                                  exact ih (t) (by omega) (by omega) hgt (by omega) H _ hP hS _ (lv_sub hl [0, 3, 4] rfl)
                                · skip
                                  rw [if_pos (by omega)] at hru
                                  refine z_iconst hx hb dX3_find_338 ?_
                                  refine lv_goto (tgt := 343) hx hb dX3_find_339 (by decide) ?_
                                  refine z_iadd (x := stC (gM F A B v) f) (y := 1) hx hb dX3_find_343 ?_
                                  refine zm_sA2 (x := (stC (gM F A B v) f) + (1)) hx hb hK hP hS (hD 8 (by decide)) (i := v) (by omega) dX3_find_344 (fun H locs hP hz ho hS => ?_)
                                  have hP : MP G ad F (zR A3 2 v (stC (gM F A B v) t)) (zC B3 v 9 t (bmN (gM F A B v))) H := by rw [zR_R] at hP; rw [hru]; exact hP
                                  refine lv_iload hx hb dX3_find_345 (lv_at hl 1 rfl) ?_
                                  refine lv_istore_n (lv' := [(3, .int (zI (t))), (5, .int (zI (k))), (4, .int (zI (t))), (0, .ref (ad 0)), (1, .int (zI (v)))]) hx hb dX3_find_347 rfl hl (by decide) rfl (fun ls hl => ?_)
                                  refine lv_goto (tgt := 207) hx hb dX3_find_348 (by decide) ?_
                                  exact ih (t) (by omega) (by omega) hgt (by omega) H _ hP hS _ (lv_sub hl [0, 3, 4] rfl)
                              · skip
                                refine lv_aload_n hx hb dX3_find_284 rfl (lv_at hl 3 rfl) ?_
                                refine zm_get hx hb hK hts hown hP 6 (by decide) q_fl_RX3_22 (v := .ref (ad 2)) rfl dX3_find_285 ?_
                                refine lv_iload_n hx hb dX3_find_288 rfl (lv_at hl 4 rfl) ?_
                                refine zm_aB hx hb hK hP (i := v) (by omega) dX3_find_289 ?_
                                refine z_bipush hx hb dX3_find_290 (by decide) ?_
                                refine lv_iload hx hb dX3_find_292 (lv_at hl 0 rfl) ?_
                                refine z_imul (x := 10) (y := k) hx hb dX3_find_294 ?_
                                refine z_bipush hx hb dX3_find_295 (by decide) ?_
                                refine z_iadd (x := (10) * (k)) (y := 9) hx hb dX3_find_297 ?_
                                refine lv_iload hx hb dX3_find_298 (lv_at hl 1 rfl) ?_
                                refine lv_iload_n hx hb dX3_find_300 rfl (lv_at hl 2 rfl) ?_
                                refine z_isub (x := t) (y := f) hx hb dX3_find_301 ?_
                                refine z_iconst hx hb dX3_find_302 ?_
                                have hbk := hbm k hk0 (by omega)
                                refine z_icmp_le (a := (t) - (f)) (b := 1) (tgt := 315) hx hb dX3_find_303 (by decide) (by omega) (by omega) (fun h_303 => ?_) (fun h_303 => ?_)
                                · skip
                                  rw [if_neg (by omega)] at hbk
                                  refine z_iconst hx hb dX3_find_315 ?_
                                  refine zm_sB (x := -1) hx hb hK hP hS (v := v) (by omega) (hD (3 + (v).toNat) (by omega)) (i := ((10) * (k)) + (9)) (by omega) dX3_find_316 (fun H locs hP hz ho hS => ?_)
                                  have hP : MP G ad F (zR A3 2 v (stC (gM F A B v) f)) (zC B3 v 9 (k + 1) (bmN (gM F A B v))) H := by rw [← zC_s B3 v (bmN (gM F A B v)) (by omega) (by omega), hbk]; exact hP
                                  refine z_iinc (lv' := [(5, .int (zI (k + 1))), (4, .int (zI (t))), (3, .int (zI (f))), (0, .ref (ad 0)), (1, .int (zI (v)))]) hx hb dX3_find_317 hl (k := 0) rfl (by decide) rfl (fun ls hl => ?_)
                                  refine lv_goto (tgt := 277) hx hb dX3_find_320 (by decide) ?_
                                  exact ih3 (k + 1) (by omega) (by omega) (by omega) H _ hP hS _ (lv_sub hl [0, 1, 2, 3, 4] rfl)
                                · skip
                                  rw [if_pos (by omega)] at hbk
                                  refine lv_aload_n hx hb dX3_find_306 rfl (lv_at hl 3 rfl) ?_
                                  refine zm_get hx hb hK hts hown hP 8 (by decide) q_fl_RX3_28 (v := .ref (ad 8)) rfl dX3_find_307 ?_
                                  refine lv_iload_n hx hb dX3_find_310 rfl (lv_at hl 4 rfl) ?_
                                  refine zm_lA2 hx hb hK hP (i := v) (by omega) dX3_find_311 ?_
                                  rw [zR_s]
                                  refine lv_goto (tgt := 316) hx hb dX3_find_312 (by decide) ?_
                                  refine zm_sB (x := stC (gM F A B v) f) hx hb hK hP hS (v := v) (by omega) (hD (3 + (v).toNat) (by omega)) (i := ((10) * (k)) + (9)) (by omega) dX3_find_316 (fun H locs hP hz ho hS => ?_)
                                  have hP : MP G ad F (zR A3 2 v (stC (gM F A B v) f)) (zC B3 v 9 (k + 1) (bmN (gM F A B v))) H := by rw [← zC_s B3 v (bmN (gM F A B v)) (by omega) (by omega), hbk]; exact hP
                                  refine z_iinc (lv' := [(5, .int (zI (k + 1))), (4, .int (zI (t))), (3, .int (zI (f))), (0, .ref (ad 0)), (1, .int (zI (v)))]) hx hb dX3_find_317 hl (k := 0) rfl (by decide) rfl (fun ls hl => ?_)
                                  refine lv_goto (tgt := 277) hx hb dX3_find_320 (by decide) ?_
                                  exact ih3 (k + 1) (by omega) (by omega) (by omega) H _ hP hS _ (lv_sub hl [0, 1, 2, 3, 4] rfl)
                          exact lp_277 201 f (by omega) (by omega) (by omega) H _ hP hS _ (lv_sub hl [0, 1, 2, 3, 4] rfl)
                        · skip
                          refine z_iinc (lv' := [(4, .int (zI (t + 1))), (3, .int (zI (f))), (0, .ref (ad 0)), (1, .int (zI (v)))]) hx hb dX3_find_268 hl (k := 0) rfl (by decide) rfl (fun ls hl => ?_)
                          refine lv_goto (tgt := 222) hx hb dX3_find_271 (by decide) ?_
                          have hcut : bgM B v f / (384 / F 2) = bgM B v t / (384 / F 2) := by omega
                          have hgl : gM F A B v (t - 1) := by
                            refine ⟨by omega, by omega, ?_, ?_, ?_⟩
                            · rcases hin with z | z
                              · rw [show t - 1 = f by omega]; exact h_239
                              · exact z.2.1
                            · rw [show t - 1 + 1 = t by omega]; exact h_249
                            · rw [show t - 1 + 1 = t by omega]
                              rcases hin with z | z
                              · rw [show t - 1 = f by omega]; exact hcut
                              · exact z.2.2.symm.trans hcut
                          exact ih2 (t + 1) (by omega) (by omega) (Or.inr ⟨h_239, by rw [show t + 1 - 1 = t by omega]; exact h_249, by rw [show t + 1 - 1 = t by omega]; exact hcut⟩) (fun k q0 q1 => (Decidable.em (k = t - 1)).elim (fun z => z ▸ hgl) (fun z => hrun k q0 (by omega))) (by omega) H _ hP hS _ (lv_sub hl [0, 1, 2, 3] rfl)
              exact lp_222 201 (f + 1) (by omega) (by omega) (Or.inl rfl) (fun k q0 q1 => absurd q1 (by omega)) (by omega) H _ hP hS _ (lv_sub hl [0, 1, 2, 3] rfl)
        exact lp_207 201 0 (by omega) (by omega) gM_low (by omega) H _ hP hS _ (lv_sub hl [0, 2, 3] rfl)
      · skip
        have hbr := bgM_rng hVM hv (e := i) (by omega)
        have hel := hVM.el hv (e := i) (by omega)
        have hg : (zC B2 v 8 i (shM F A B v (A 3))) v (10 * i + 7) = bgM B v i := (zC_off B2 v v _ (by omega) (by omega)).trans (tm2.2 i h0 (by omega))
        have d1 : 0 ≤ bgM B v i / (F 1 * 384 / F 2) := Int.ediv_nonneg (by omega) (by omega)
        have d2 : bgM B v i / (F 1 * 384 / F 2) ≤ bgM B v i := Int.ediv_le_self _ (by omega)
        refine z_bipush hx hb dX3_find_19 (by decide) ?_
        refine lv_iload_n hx hb dX3_find_21 rfl (lv_at hl 0 rfl) ?_
        refine z_imul (x := 10) (y := i) hx hb dX3_find_22 ?_
        refine lv_istore (lv' := [(4, .int (zI ((10) * (i)))), (3, .int (zI (i))), (2, .int (zI (barP F B v i))), (0, .ref (ad 0)), (1, .int (zI (v)))]) hx hb dX3_find_23 hl (by decide) rfl (fun ls hl => ?_)
        refine lv_aload_n hx hb dX3_find_25 rfl (lv_at hl 3 rfl) ?_
        refine lv_iload_n hx hb dX3_find_26 rfl (lv_at hl 4 rfl) ?_
        refine lv_iload_n hx hb dX3_find_27 rfl (lv_at hl 1 rfl) ?_
        refine z_bipush hx hb dX3_find_28 (by decide) ?_
        refine k_R (c_VR (As := [.int (zI (v)), .int (zI (i)), .int (zI (7))]) (rest := []) ⟨hx, hb, hml, hown, hts⟩ hG hS hA (c_X3_get l G ad F (zW A2 3 (hoF F B v (A 3) i)) (zC B2 v 8 i (shM F A B v (A 3))) v i 7 (show 0 ≤ v ∧ v < 4 by omega) (show 0 ≤ 10 * i + 7 ∧ 10 * i + 7 < 2000 by omega)) ⟨q_ml_RX3_57, q_im_X3_get, q_sel_X3_get, q_ini_RX3, q_code_X3_get⟩ hv_X3_get (MP.rec hK hP) hP ⟨by decide, by decide⟩ ⟨Nat.zero_le _, Nat.zero_le _⟩ rfl hl.1 rfl (Nat.le_of_ble_eq_true rfl) dX3_find_30) ?_
        rw [hg]
        refine lv_aload_n hx hb dX3_find_33 rfl (lv_at hl 3 rfl) ?_
        refine k_R (c_VR (As := []) (rest := [.int (zI (bgM B v i))]) ⟨hx, hb, hml, hown, hts⟩ hG hS hA (c_X3_bar l G ad F (zW A2 3 (hoF F B v (A 3) i)) (zC B2 v 8 i (shM F A B v (A 3))) (kpA.ok hVM)) ⟨q_ml_RX3_81, q_im_X3_bar, q_sel_X3_bar, q_ini_RX3, q_code_X3_bar⟩ hv_X3_bar (MP.rec hK hP) hP ⟨by decide, by decide⟩ ⟨Nat.zero_le _, Nat.zero_le _⟩ rfl hl.1 rfl (Nat.le_of_ble_eq_true rfl) dX3_find_34) ?_
        refine z_idiv hx hb dX3_find_37 (by omega) (by omega) ?_
        refine lv_iload_n hx hb dX3_find_38 rfl (lv_at hl 2 rfl) ?_
        refine z_icmp_eq (a := (bgM B v i) / ((F 1) * 384 / (F 2))) (b := barP F B v i) (tgt := 77) hx hb dX3_find_39 (by decide) (by omega) (by omega) (fun h_39 => ?_) (fun h_39 => ?_)
        · skip
          have hR : (hoR F B v i (hoF F B v (A 3) i)) = (hoF F B v (A 3) i) := if_pos (by omega)
          have hP : MP G ad F (zW A2 3 (hoR F B v i (hoF F B v (A 3) i))) (zC B2 v 8 i (shM F A B v (A 3))) H := by rw [hR]; exact hP
          have hne0 : ¬ i = 0 := fun q => by rw [q] at h_39; unfold barP at h_39; rw [if_pos rfl] at h_39; rw [← q] at h_39; omega
          have hrr : ∀ k, 0 ≤ k → k < 63 → -2 ≤ (hoR F B v i (hoF F B v (A 3) i)) k ∧ (hoR F B v i (hoF F B v (A 3) i)) k ≤ 2 := by rw [hR]; exact hho.resolve_left hne0
          have kpR : KP A B (zW A2 3 (hoR F B v i (hoF F B v (A 3) i))) (zC B2 v 8 i (shM F A B v (A 3))) := ((kp2.W (by decide) _).C v i _ (by omega))
          have okR := kpR.ok hVM
          have kpZ : KP A B (zW A2 3 (hoR F B v i (hoF F B v (A 3) i))) (zB (zC B2 v 8 i (shM F A B v (A 3))) v (10 * i + 8) 0) := kpR.Bw v _ _ (by omega)
          have kpY : KP A B (zW A2 3 (hoR F B v i (hoF F B v (A 3) i))) (zC B2 v 8 (i + 1) (shM F A B v (A 3))) := (kp2.W (by decide) _).C v _ _ (by omega)
          refine lv_aload_n hx hb dX3_find_77 rfl (lv_at hl 3 rfl) ?_
          refine lv_iload_n hx hb dX3_find_78 rfl (lv_at hl 4 rfl) ?_
          refine lv_iload_n hx hb dX3_find_79 rfl (lv_at hl 1 rfl) ?_
          refine z_bipush hx hb dX3_find_80 (by decide) ?_
          refine k_R (c_VR (As := [.int (zI (v)), .int (zI (i)), .int (zI (7))]) (rest := []) ⟨hx, hb, hml, hown, hts⟩ hG hS hA (c_X3_get l G ad F (zW A2 3 (hoR F B v i (hoF F B v (A 3) i))) (zC B2 v 8 i (shM F A B v (A 3))) v i 7 (show 0 ≤ v ∧ v < 4 by omega) (show 0 ≤ 10 * i + 7 ∧ 10 * i + 7 < 2000 by omega)) ⟨q_ml_RX3_57, q_im_X3_get, q_sel_X3_get, q_ini_RX3, q_code_X3_get⟩ hv_X3_get (MP.rec hK hP) hP ⟨by decide, by decide⟩ ⟨Nat.zero_le _, Nat.zero_le _⟩ rfl hl.1 rfl (Nat.le_of_ble_eq_true rfl) dX3_find_82) ?_
          rw [hg]
          refine lv_aload_n hx hb dX3_find_85 rfl (lv_at hl 3 rfl) ?_
          refine k_R (c_VR (As := []) (rest := [.int (zI (bgM B v i))]) ⟨hx, hb, hml, hown, hts⟩ hG hS hA (c_X3_bar l G ad F (zW A2 3 (hoR F B v i (hoF F B v (A 3) i))) (zC B2 v 8 i (shM F A B v (A 3))) okR) ⟨q_ml_RX3_81, q_im_X3_bar, q_sel_X3_bar, q_ini_RX3, q_code_X3_bar⟩ hv_X3_bar (MP.rec hK hP) hP ⟨by decide, by decide⟩ ⟨Nat.zero_le _, Nat.zero_le _⟩ rfl hl.1 rfl (Nat.le_of_ble_eq_true rfl) dX3_find_86) ?_
          refine z_idiv hx hb dX3_find_89 (by omega) (by omega) ?_
          rw [show bgM B v i / (F 1 * 384 / F 2) = barP F B v (i + 1) by unfold barP; rw [if_neg (by omega), show i + 1 - 1 = i by omega]]
          refine lv_istore_n (lv' := [(2, .int (zI (barP F B v (i + 1)))), (4, .int (zI ((10) * (i)))), (3, .int (zI (i))), (0, .ref (ad 0)), (1, .int (zI (v)))]) hx hb dX3_find_90 rfl hl (by decide) rfl (fun ls hl => ?_)
          refine lv_aload_n hx hb dX3_find_91 rfl (lv_at hl 3 rfl) ?_
          refine zm_get hx hb hK hts hown hP 6 (by decide) q_fl_RX3_22 (v := .ref (ad 2)) rfl dX3_find_92 ?_
          refine lv_iload_n hx hb dX3_find_95 rfl (lv_at hl 4 rfl) ?_
          refine zm_aB hx hb hK hP (i := v) (by omega) dX3_find_96 ?_
          refine lv_iload hx hb dX3_find_97 (lv_at hl 1 rfl) ?_
          refine z_bipush hx hb dX3_find_99 (by decide) ?_
          refine z_iadd (x := (10) * (i)) (y := 8) hx hb dX3_find_101 ?_
          refine z_iconst hx hb dX3_find_102 ?_
          refine zm_sB (x := 0) hx hb hK hP hS (v := v) (by omega) (hD (3 + (v).toNat) (by omega)) (i := ((10) * (i)) + (8)) (by omega) dX3_find_103 (fun H locs hP hz ho hS => ?_)
          refine lv_aload_n hx hb dX3_find_104 rfl (lv_at hl 3 rfl) ?_
          refine lv_iload_n hx hb dX3_find_105 rfl (lv_at hl 4 rfl) ?_
          refine lv_iload_n hx hb dX3_find_106 rfl (lv_at hl 2 rfl) ?_
          refine z_iconst hx hb dX3_find_107 ?_
          refine k_R (c_VR (As := [.int (zI (v)), .int (zI (i)), .int (zI (2))]) (rest := []) ⟨hx, hb, hml, hown, hts⟩ hG hS hA (c_X3_get l G ad F (zW A2 3 (hoR F B v i (hoF F B v (A 3) i))) (zB (zC B2 v 8 i (shM F A B v (A 3))) (v) (((10) * (i)) + (8)) (0)) v i 2 (show 0 ≤ v ∧ v < 4 by omega) (show 0 ≤ 10 * i + 2 ∧ 10 * i + 2 < 2000 by omega)) ⟨q_ml_RX3_57, q_im_X3_get, q_sel_X3_get, q_ini_RX3, q_code_X3_get⟩ hv_X3_get (MP.rec hK hP) hP ⟨by decide, by decide⟩ ⟨Nat.zero_le _, Nat.zero_le _⟩ rfl hl.1 rfl (Nat.le_of_ble_eq_true rfl) dX3_find_108) ?_
          rw [kpZ.2 v i 2 (by omega) (by omega)]
          refine z_if_ne (a := B v (10 * i + 2)) (tgt := 117) hx hb dX3_find_111 (by decide) (by omega) (fun h_111 => ?_) (fun h_111 => ?_)
          · skip
            have hnr : ¬ B v (10 * i + 2) = 0 := by omega
            have hsE : hoF F B v (A 3) (i + 1) = zU (hoR F B v i (hoF F B v (A 3) i)) (plM B v i) (B v (10 * i + 4)) := by rw [hs]; exact if_neg hnr
            refine z_bipush hx hb dX3_find_117 (by decide) ?_
            refine lv_aload_n hx hb dX3_find_119 rfl (lv_at hl 3 rfl) ?_
            refine lv_iload_n hx hb dX3_find_120 rfl (lv_at hl 4 rfl) ?_
            refine lv_iload_n hx hb dX3_find_121 rfl (lv_at hl 2 rfl) ?_
            refine z_iconst hx hb dX3_find_122 ?_
            refine k_R (c_VR (As := [.int (zI (v)), .int (zI (i)), .int (zI (5))]) (rest := [.int (zI (7))]) ⟨hx, hb, hml, hown, hts⟩ hG hS hA (c_X3_get l G ad F (zW A2 3 (hoR F B v i (hoF F B v (A 3) i))) (zB (zC B2 v 8 i (shM F A B v (A 3))) (v) (((10) * (i)) + (8)) (0)) v i 5 (show 0 ≤ v ∧ v < 4 by omega) (show 0 ≤ 10 * i + 5 ∧ 10 * i + 5 < 2000 by omega)) ⟨q_ml_RX3_57, q_im_X3_get, q_sel_X3_get, q_ini_RX3, q_code_X3_get⟩ hv_X3_get (MP.rec hK hP) hP ⟨by decide, by decide⟩ ⟨Nat.zero_le _, Nat.zero_le _⟩ rfl hl.1 rfl (Nat.le_of_ble_eq_true rfl) dX3_find_123) ?_
            rw [kpZ.2 v i 5 (by omega) (by omega)]
            refine z_imul (x := 7) (y := B v (10 * i + 5)) hx hb dX3_find_126 ?_
            refine lv_aload_n hx hb dX3_find_127 rfl (lv_at hl 3 rfl) ?_
            refine lv_iload_n hx hb dX3_find_128 rfl (lv_at hl 4 rfl) ?_
            refine lv_iload_n hx hb dX3_find_129 rfl (lv_at hl 2 rfl) ?_
            refine z_iconst hx hb dX3_find_130 ?_
            refine k_R (c_VR (As := [.int (zI (v)), .int (zI (i)), .int (zI (3))]) (rest := [.int (zI ((7) * (B v (10 * i + 5))))]) ⟨hx, hb, hml, hown, hts⟩ hG hS hA (c_X3_get l G ad F (zW A2 3 (hoR F B v i (hoF F B v (A 3) i))) (zB (zC B2 v 8 i (shM F A B v (A 3))) (v) (((10) * (i)) + (8)) (0)) v i 3 (show 0 ≤ v ∧ v < 4 by omega) (show 0 ≤ 10 * i + 3 ∧ 10 * i + 3 < 2000 by omega)) ⟨q_ml_RX3_57, q_im_X3_get, q_sel_X3_get, q_ini_RX3, q_code_X3_get⟩ hv_X3_get (MP.rec hK hP) hP ⟨by decide, by decide⟩ ⟨Nat.zero_le _, Nat.zero_le _⟩ rfl hl.1 rfl (Nat.le_of_ble_eq_true rfl) dX3_find_131) ?_
            rw [kpZ.2 v i 3 (by omega) (by omega)]
            refine z_iadd (x := (7) * (B v (10 * i + 5))) (y := B v (10 * i + 3)) hx hb dX3_find_134 ?_
            refine lv_istore (lv' := [(5, .int (zI (((7) * (B v (10 * i + 5))) + (B v (10 * i + 3))))), (2, .int (zI (barP F B v (i + 1)))), (4, .int (zI ((10) * (i)))), (3, .int (zI (i))), (0, .ref (ad 0)), (1, .int (zI (v)))]) hx hb dX3_find_135 hl (by decide) rfl (fun ls hl => ?_)
            have hrp := hrr (7 * B v (10 * i + 5) + B v (10 * i + 3)) (by omega) (by omega)
            refine lv_aload_n hx hb dX3_find_137 rfl (lv_at hl 4 rfl) ?_
            refine zm_get hx hb hK hts hown hP 9 (by decide) q_fl_RX3_31 (v := .ref (ad 9)) rfl dX3_find_138 ?_
            refine lv_iload hx hb dX3_find_141 (lv_at hl 0 rfl) ?_
            refine zm_lA3 hx hb hK hP (i := ((7) * (B v (10 * i + 5))) + (B v (10 * i + 3))) (by omega) dX3_find_143 ?_
            refine lv_aload_n hx hb dX3_find_144 rfl (lv_at hl 4 rfl) ?_
            refine lv_iload_n hx hb dX3_find_145 rfl (lv_at hl 5 rfl) ?_
            refine lv_iload_n hx hb dX3_find_146 rfl (lv_at hl 3 rfl) ?_
            refine z_iconst hx hb dX3_find_147 ?_
            refine k_R (c_VR (As := [.int (zI (v)), .int (zI (i)), .int (zI (4))]) (rest := [.int (zI ((hoR F B v i (hoF F B v (A 3) i)) (((7) * (B v (10 * i + 5))) + (B v (10 * i + 3)))))]) ⟨hx, hb, hml, hown, hts⟩ hG hS hA (c_X3_get l G ad F (zW A2 3 (hoR F B v i (hoF F B v (A 3) i))) (zB (zC B2 v 8 i (shM F A B v (A 3))) (v) (((10) * (i)) + (8)) (0)) v i 4 (show 0 ≤ v ∧ v < 4 by omega) (show 0 ≤ 10 * i + 4 ∧ 10 * i + 4 < 2000 by omega)) ⟨q_ml_RX3_57, q_im_X3_get, q_sel_X3_get, q_ini_RX3, q_code_X3_get⟩ hv_X3_get (MP.rec hK hP) hP ⟨by decide, by decide⟩ ⟨Nat.zero_le _, Nat.zero_le _⟩ rfl hl.1 rfl (Nat.le_of_ble_eq_true rfl) dX3_find_148) ?_
            rw [kpZ.2 v i 4 (by omega) (by omega)]
            refine z_icmp_eq (a := (hoR F B v i (hoF F B v (A 3) i)) (((7) * (B v (10 * i + 5))) + (B v (10 * i + 3)))) (b := B v (10 * i + 4)) (tgt := 178) hx hb dX3_find_151 (by decide) (by omega) (by omega) (fun h_151 => ?_) (fun h_151 => ?_)
            · skip
              have hsh : (shM F A B v (A 3)) i = 0 := (if_neg hnr).trans (if_neg (fun q => q.1 (by first | exact h_151 | omega)))
              have hP : MP G ad F (zW A2 3 (hoR F B v i (hoF F B v (A 3) i))) (zC B2 v 8 (i + 1) (shM F A B v (A 3))) H := by rw [← zC_s B2 v (shM F A B v (A 3)) (by omega) h0, hsh]; exact hP
              refine lv_aload_n hx hb dX3_find_178 rfl (lv_at hl 4 rfl) ?_
              refine zm_get hx hb hK hts hown hP 9 (by decide) q_fl_RX3_31 (v := .ref (ad 9)) rfl dX3_find_179 ?_
              refine lv_iload hx hb dX3_find_182 (lv_at hl 0 rfl) ?_
              refine lv_aload_n hx hb dX3_find_184 rfl (lv_at hl 4 rfl) ?_
              refine lv_iload_n hx hb dX3_find_185 rfl (lv_at hl 5 rfl) ?_
              refine lv_iload_n hx hb dX3_find_186 rfl (lv_at hl 3 rfl) ?_
              refine z_iconst hx hb dX3_find_187 ?_
              refine k_R (c_VR (As := [.int (zI (v)), .int (zI (i)), .int (zI (4))]) (rest := [.int (zI (((7) * (B v (10 * i + 5))) + (B v (10 * i + 3)))), .ref (ad 9)]) ⟨hx, hb, hml, hown, hts⟩ hG hS hA (c_X3_get l G ad F (zW A2 3 (hoR F B v i (hoF F B v (A 3) i))) (zC B2 v 8 (i + 1) (shM F A B v (A 3))) v i 4 (show 0 ≤ v ∧ v < 4 by omega) (show 0 ≤ 10 * i + 4 ∧ 10 * i + 4 < 2000 by omega)) ⟨q_ml_RX3_57, q_im_X3_get, q_sel_X3_get, q_ini_RX3, q_code_X3_get⟩ hv_X3_get (MP.rec hK hP) hP ⟨by decide, by decide⟩ ⟨Nat.zero_le _, Nat.zero_le _⟩ rfl hl.1 rfl (Nat.le_of_ble_eq_true rfl) dX3_find_188) ?_
              rw [kpY.2 v i 4 (by omega) (by omega)]
              refine zm_sA3 (x := B v (10 * i + 4)) hx hb hK hP hS (hD 9 (by decide)) (i := ((7) * (B v (10 * i + 5))) + (B v (10 * i + 3))) (by omega) dX3_find_191 (fun H locs hP hz ho hS => ?_)
              rw [zW_R] at hP
              have hP : MP G ad F (zW A2 3 (hoF F B v (A 3) (i + 1))) (zC B2 v 8 (i + 1) (shM F A B v (A 3))) H := by rw [hsE]; exact hP
              have hhoE : ∀ k, 0 ≤ k → k < 63 → -2 ≤ hoF F B v (A 3) (i + 1) k ∧ hoF F B v (A 3) (i + 1) k ≤ 2 := by
                intro k q0 q1
                rw [hsE]
                unfold zU
                split
                · omega
                · exact hrr k q0 q1
              refine z_iinc (lv' := [(3, .int (zI (i + 1))), (5, .int (zI (((7) * (B v (10 * i + 5))) + (B v (10 * i + 3))))), (2, .int (zI (barP F B v (i + 1)))), (4, .int (zI ((10) * (i)))), (0, .ref (ad 0)), (1, .int (zI (v)))]) hx hb dX3_find_192 hl (k := 3) rfl (by decide) rfl (fun ls hl => ?_)
              refine lv_goto (tgt := 9) hx hb dX3_find_195 (by decide) ?_
              exact ih (i + 1) (by omega) (by omega) (Or.inr hhoE) (by omega) H _ hP hS _ (lv_sub hl [0, 2, 4, 5] rfl)
            · skip
              refine lv_aload_n hx hb dX3_find_154 rfl (lv_at hl 4 rfl) ?_
              refine lv_iload_n hx hb dX3_find_155 rfl (lv_at hl 5 rfl) ?_
              refine lv_iload_n hx hb dX3_find_156 rfl (lv_at hl 3 rfl) ?_
              refine z_iconst hx hb dX3_find_157 ?_
              refine z_isub (x := i) (y := 1) hx hb dX3_find_158 ?_
              refine k_R (c_VR (As := [.int (zI (v)), .int (zI ((i) - (1)))]) (rest := []) ⟨hx, hb, hml, hown, hts⟩ hG hS hA (c_X3_isJoined l G ad F (zW A2 3 (hoR F B v i (hoF F B v (A 3) i))) (zB (zC B2 v 8 i (shM F A B v (A 3))) (v) (((10) * (i)) + (8)) (0)) v ((i) - (1)) (by omega) (by omega) (kpZ.ok hVM)) ⟨q_ml_RX3_136, q_im_X3_isJoined, q_sel_X3_isJoined, q_ini_RX3, q_code_X3_isJoined⟩ hv_X3_isJoined (MP.rec hK hP) hP ⟨by decide, by decide⟩ ⟨Nat.zero_le _, Nat.zero_le _⟩ rfl hl.1 rfl (Nat.le_of_ble_eq_true rfl) dX3_find_159) ?_
              rw [bI_eqP (kpZ.jm v (i - 1))]
              refine z_bif_ne (q := jmM A B v (i - 1)) (tgt := 178) hx hb dX3_find_162 (by decide) (fun h_162 => ?_) (fun h_162 => ?_)
              · skip
                have hsh : (shM F A B v (A 3)) i = 0 := (if_neg hnr).trans (if_neg (fun q => q.2 h_162))
                have hP : MP G ad F (zW A2 3 (hoR F B v i (hoF F B v (A 3) i))) (zC B2 v 8 (i + 1) (shM F A B v (A 3))) H := by rw [← zC_s B2 v (shM F A B v (A 3)) (by omega) h0, hsh]; exact hP
                refine lv_aload_n hx hb dX3_find_178 rfl (lv_at hl 4 rfl) ?_
                refine zm_get hx hb hK hts hown hP 9 (by decide) q_fl_RX3_31 (v := .ref (ad 9)) rfl dX3_find_179 ?_
                refine lv_iload hx hb dX3_find_182 (lv_at hl 0 rfl) ?_
                refine lv_aload_n hx hb dX3_find_184 rfl (lv_at hl 4 rfl) ?_
                refine lv_iload_n hx hb dX3_find_185 rfl (lv_at hl 5 rfl) ?_
                refine lv_iload_n hx hb dX3_find_186 rfl (lv_at hl 3 rfl) ?_
                refine z_iconst hx hb dX3_find_187 ?_
                refine k_R (c_VR (As := [.int (zI (v)), .int (zI (i)), .int (zI (4))]) (rest := [.int (zI (((7) * (B v (10 * i + 5))) + (B v (10 * i + 3)))), .ref (ad 9)]) ⟨hx, hb, hml, hown, hts⟩ hG hS hA (c_X3_get l G ad F (zW A2 3 (hoR F B v i (hoF F B v (A 3) i))) (zC B2 v 8 (i + 1) (shM F A B v (A 3))) v i 4 (show 0 ≤ v ∧ v < 4 by omega) (show 0 ≤ 10 * i + 4 ∧ 10 * i + 4 < 2000 by omega)) ⟨q_ml_RX3_57, q_im_X3_get, q_sel_X3_get, q_ini_RX3, q_code_X3_get⟩ hv_X3_get (MP.rec hK hP) hP ⟨by decide, by decide⟩ ⟨Nat.zero_le _, Nat.zero_le _⟩ rfl hl.1 rfl (Nat.le_of_ble_eq_true rfl) dX3_find_188) ?_
                rw [kpY.2 v i 4 (by omega) (by omega)]
                refine zm_sA3 (x := B v (10 * i + 4)) hx hb hK hP hS (hD 9 (by decide)) (i := ((7) * (B v (10 * i + 5))) + (B v (10 * i + 3))) (by omega) dX3_find_191 (fun H locs hP hz ho hS => ?_)
                rw [zW_R] at hP
                have hP : MP G ad F (zW A2 3 (hoF F B v (A 3) (i + 1))) (zC B2 v 8 (i + 1) (shM F A B v (A 3))) H := by rw [hsE]; exact hP
                have hhoE : ∀ k, 0 ≤ k → k < 63 → -2 ≤ hoF F B v (A 3) (i + 1) k ∧ hoF F B v (A 3) (i + 1) k ≤ 2 := by
                  intro k q0 q1
                  rw [hsE]
                  unfold zU
                  split
                  · omega
                  · exact hrr k q0 q1
                refine z_iinc (lv' := [(3, .int (zI (i + 1))), (5, .int (zI (((7) * (B v (10 * i + 5))) + (B v (10 * i + 3))))), (2, .int (zI (barP F B v (i + 1)))), (4, .int (zI ((10) * (i)))), (0, .ref (ad 0)), (1, .int (zI (v)))]) hx hb dX3_find_192 hl (k := 3) rfl (by decide) rfl (fun ls hl => ?_)
                refine lv_goto (tgt := 9) hx hb dX3_find_195 (by decide) ?_
                exact ih (i + 1) (by omega) (by omega) (Or.inr hhoE) (by omega) H _ hP hS _ (lv_sub hl [0, 2, 4, 5] rfl)
              · skip
                refine lv_aload_n hx hb dX3_find_165 rfl (lv_at hl 4 rfl) ?_
                refine zm_get hx hb hK hts hown hP 6 (by decide) q_fl_RX3_22 (v := .ref (ad 2)) rfl dX3_find_166 ?_
                refine lv_iload_n hx hb dX3_find_169 rfl (lv_at hl 5 rfl) ?_
                refine zm_aB hx hb hK hP (i := v) (by omega) dX3_find_170 ?_
                refine lv_iload hx hb dX3_find_171 (lv_at hl 2 rfl) ?_
                refine z_bipush hx hb dX3_find_173 (by decide) ?_
                refine z_iadd (x := (10) * (i)) (y := 8) hx hb dX3_find_175 ?_
                refine z_iconst hx hb dX3_find_176 ?_
                refine zm_sB (x := 1) hx hb hK hP hS (v := v) (by omega) (hD (3 + (v).toNat) (by omega)) (i := ((10) * (i)) + (8)) (by omega) dX3_find_177 (fun H locs hP hz ho hS => ?_)
                rw [zB_B] at hP
                have hsh : (shM F A B v (A 3)) i = 1 := (if_neg hnr).trans (if_pos ⟨(by first | exact h_151 | omega), h_162⟩)
                have hP : MP G ad F (zW A2 3 (hoR F B v i (hoF F B v (A 3) i))) (zC B2 v 8 (i + 1) (shM F A B v (A 3))) H := by rw [← zC_s B2 v (shM F A B v (A 3)) (by omega) h0, hsh]; exact hP
                refine lv_aload_n hx hb dX3_find_178 rfl (lv_at hl 4 rfl) ?_
                refine zm_get hx hb hK hts hown hP 9 (by decide) q_fl_RX3_31 (v := .ref (ad 9)) rfl dX3_find_179 ?_
                refine lv_iload hx hb dX3_find_182 (lv_at hl 0 rfl) ?_
                refine lv_aload_n hx hb dX3_find_184 rfl (lv_at hl 4 rfl) ?_
                refine lv_iload_n hx hb dX3_find_185 rfl (lv_at hl 5 rfl) ?_
                refine lv_iload_n hx hb dX3_find_186 rfl (lv_at hl 3 rfl) ?_
                refine z_iconst hx hb dX3_find_187 ?_
                refine k_R (c_VR (As := [.int (zI (v)), .int (zI (i)), .int (zI (4))]) (rest := [.int (zI (((7) * (B v (10 * i + 5))) + (B v (10 * i + 3)))), .ref (ad 9)]) ⟨hx, hb, hml, hown, hts⟩ hG hS hA (c_X3_get l G ad F (zW A2 3 (hoR F B v i (hoF F B v (A 3) i))) (zC B2 v 8 (i + 1) (shM F A B v (A 3))) v i 4 (show 0 ≤ v ∧ v < 4 by omega) (show 0 ≤ 10 * i + 4 ∧ 10 * i + 4 < 2000 by omega)) ⟨q_ml_RX3_57, q_im_X3_get, q_sel_X3_get, q_ini_RX3, q_code_X3_get⟩ hv_X3_get (MP.rec hK hP) hP ⟨by decide, by decide⟩ ⟨Nat.zero_le _, Nat.zero_le _⟩ rfl hl.1 rfl (Nat.le_of_ble_eq_true rfl) dX3_find_188) ?_
                rw [kpY.2 v i 4 (by omega) (by omega)]
                refine zm_sA3 (x := B v (10 * i + 4)) hx hb hK hP hS (hD 9 (by decide)) (i := ((7) * (B v (10 * i + 5))) + (B v (10 * i + 3))) (by omega) dX3_find_191 (fun H locs hP hz ho hS => ?_)
                rw [zW_R] at hP
                have hP : MP G ad F (zW A2 3 (hoF F B v (A 3) (i + 1))) (zC B2 v 8 (i + 1) (shM F A B v (A 3))) H := by rw [hsE]; exact hP
                have hhoE : ∀ k, 0 ≤ k → k < 63 → -2 ≤ hoF F B v (A 3) (i + 1) k ∧ hoF F B v (A 3) (i + 1) k ≤ 2 := by
                  intro k q0 q1
                  rw [hsE]
                  unfold zU
                  split
                  · omega
                  · exact hrr k q0 q1
                refine z_iinc (lv' := [(3, .int (zI (i + 1))), (5, .int (zI (((7) * (B v (10 * i + 5))) + (B v (10 * i + 3))))), (2, .int (zI (barP F B v (i + 1)))), (4, .int (zI ((10) * (i)))), (0, .ref (ad 0)), (1, .int (zI (v)))]) hx hb dX3_find_192 hl (k := 3) rfl (by decide) rfl (fun ls hl => ?_)
                refine lv_goto (tgt := 9) hx hb dX3_find_195 (by decide) ?_
                exact ih (i + 1) (by omega) (by omega) (Or.inr hhoE) (by omega) H _ hP hS _ (lv_sub hl [0, 2, 4, 5] rfl)
          · skip
            have hrs : B v (10 * i + 2) = 0 := by omega
            have hsE : hoF F B v (A 3) (i + 1) = (hoR F B v i (hoF F B v (A 3) i)) := by rw [hs]; exact if_pos hrs
            have hsh : (shM F A B v (A 3)) i = 0 := if_pos hrs
            have hP : MP G ad F (zW A2 3 (hoF F B v (A 3) (i + 1))) (zC B2 v 8 (i + 1) (shM F A B v (A 3))) H := by rw [hsE, ← zC_s B2 v (shM F A B v (A 3)) (by omega) h0, hsh]; exact hP
            have hhoE : ∀ k, 0 ≤ k → k < 63 → -2 ≤ hoF F B v (A 3) (i + 1) k ∧ hoF F B v (A 3) (i + 1) k ≤ 2 := by rw [hsE]; exact hrr
            refine lv_goto (tgt := 192) hx hb dX3_find_114 (by decide) ?_
            refine z_iinc (lv' := [(3, .int (zI (i + 1))), (2, .int (zI (barP F B v (i + 1)))), (4, .int (zI ((10) * (i)))), (0, .ref (ad 0)), (1, .int (zI (v)))]) hx hb dX3_find_192 hl (k := 2) rfl (by decide) rfl (fun ls hl => ?_)
            refine lv_goto (tgt := 9) hx hb dX3_find_195 (by decide) ?_
            exact ih (i + 1) (by omega) (by omega) (Or.inr hhoE) (by omega) H _ hP hS _ (lv_sub hl [0, 1, 3, 4] rfl)
        · skip
          have hR : (hoR F B v i (hoF F B v (A 3) i)) = hfil (hoF F B v (A 3) i) (F 3) 63 := if_neg (by omega)
          refine z_iconst hx hb dX3_find_42 ?_
          refine lv_istore (lv' := [(5, .int (zI (0))), (4, .int (zI ((10) * (i)))), (3, .int (zI (i))), (2, .int (zI (barP F B v i))), (0, .ref (ad 0)), (1, .int (zI (v)))]) hx hb dX3_find_43 hl (by decide) rfl (fun ls hl => ?_)
          have hP : MP G ad F (zW A2 3 (hfil (hoF F B v (A 3) i) (F 3) 0)) (zC B2 v 8 i (shM F A B v (A 3))) H := by rw [hfil_0]; exact hP
          have lp_45 : ∀ (n : Nat) (k : Int), 0 ≤ k → k ≤ 63 → 63 - k < n → ∀ (H : Heap) (locs : List Loc), MP G ad F (zW A2 3 (hfil (hoF F B v (A 3) i) (F 3) k)) (zC B2 v 8 i (shM F A B v (A 3))) H → va_S (fA 11 ad s.heap.size) s.heap H locs → ∀ (ls : Array Slot), lv_has ls 6 [(5, .int (zI (k))), (4, .int (zI ((10) * (i)))), (3, .int (zI (i))), (2, .int (zI (barP F B v i))), (0, .ref (ad 0)), (1, .int (zI (v)))] → W p l env (rmz 3 68 0 0) s m (([.ref (ad 0), .int (zI (v))] : List Value).toArray) below meth c H locs 0 0 (MQ below (QV (fA 11 ad s.heap.size) (fun H => ∃ A' B', MP G ad F A' B' H ∧ KP A B A' B' ∧ TM (A 0 v) B v A' B' ∧ (∀ e, 0 ≤ e → e < A 0 v → B' v (10 * e + 8) = shM F A B v (A 3) e) ∧ (∀ e, 0 ≤ e → e < A 0 v → B' v (10 * e + 9) = bmN (gM F A B v) e) ∧ A' 2 v = stC (gM F A B v) (A 0 v))) (([.ref (ad 0), .int (zI (v))] : List Value).toArray) s 0 0 (fA 11 ad s.heap.size)) (F0 m 45 ls []) := by
            intro n
            induction n with
            | zero => intro k hk0 hk1 hmk H locs hP hS ls hl; exact absurd hmk (by omega)
            | succ n ih2 =>
              intro k hk0 hk1 hmk H locs hP hS ls hl
              refine lv_iload hx hb dX3_find_45 (lv_at hl 0 rfl) ?_
              refine lv_aload_n hx hb dX3_find_47 rfl (lv_at hl 4 rfl) ?_
              refine zm_get hx hb hK hts hown hP 9 (by decide) q_fl_RX3_31 (v := .ref (ad 9)) rfl dX3_find_48 ?_
              refine zm_nA3 hx hb hK hP dX3_find_51 ?_
              refine z_icmp_ge (a := k) (b := 63) (tgt := 77) hx hb dX3_find_52 (by decide) (by omega) (by omega) (fun h_52 => ?_) (fun h_52 => ?_)
              · skip
                have hk9 : k = 63 := by omega
                have hP : MP G ad F (zW A2 3 (hoR F B v i (hoF F B v (A 3) i))) (zC B2 v 8 i (shM F A B v (A 3))) H := by rw [hR, ← hk9]; exact hP
                have hrr : ∀ k, 0 ≤ k → k < 63 → -2 ≤ (hoR F B v i (hoF F B v (A 3) i)) k ∧ (hoR F B v i (hoF F B v (A 3) i)) k ≤ 2 := by
                  intro k q0 q1
                  rw [hR]
                  unfold hfil
                  rw [if_pos ⟨q0, q1⟩]
                  have := sgM_rng (F 3) (k % 7)
                  omega
                have kpR : KP A B (zW A2 3 (hoR F B v i (hoF F B v (A 3) i))) (zC B2 v 8 i (shM F A B v (A 3))) := ((kp2.W (by decide) _).C v i _ (by omega))
                have okR := kpR.ok hVM
                have kpZ : KP A B (zW A2 3 (hoR F B v i (hoF F B v (A 3) i))) (zB (zC B2 v 8 i (shM F A B v (A 3))) v (10 * i + 8) 0) := kpR.Bw v _ _ (by omega)
                have kpY : KP A B (zW A2 3 (hoR F B v i (hoF F B v (A 3) i))) (zC B2 v 8 (i + 1) (shM F A B v (A 3))) := (kp2.W (by decide) _).C v _ _ (by omega)
                refine lv_aload_n hx hb dX3_find_77 rfl (lv_at hl 4 rfl) ?_
                refine lv_iload_n hx hb dX3_find_78 rfl (lv_at hl 5 rfl) ?_
                refine lv_iload_n hx hb dX3_find_79 rfl (lv_at hl 2 rfl) ?_
                refine z_bipush hx hb dX3_find_80 (by decide) ?_
                refine k_R (c_VR (As := [.int (zI (v)), .int (zI (i)), .int (zI (7))]) (rest := []) ⟨hx, hb, hml, hown, hts⟩ hG hS hA (c_X3_get l G ad F (zW A2 3 (hoR F B v i (hoF F B v (A 3) i))) (zC B2 v 8 i (shM F A B v (A 3))) v i 7 (show 0 ≤ v ∧ v < 4 by omega) (show 0 ≤ 10 * i + 7 ∧ 10 * i + 7 < 2000 by omega)) ⟨q_ml_RX3_57, q_im_X3_get, q_sel_X3_get, q_ini_RX3, q_code_X3_get⟩ hv_X3_get (MP.rec hK hP) hP ⟨by decide, by decide⟩ ⟨Nat.zero_le _, Nat.zero_le _⟩ rfl hl.1 rfl (Nat.le_of_ble_eq_true rfl) dX3_find_82) ?_
                rw [hg]
                refine lv_aload_n hx hb dX3_find_85 rfl (lv_at hl 4 rfl) ?_
                refine k_R (c_VR (As := []) (rest := [.int (zI (bgM B v i))]) ⟨hx, hb, hml, hown, hts⟩ hG hS hA (c_X3_bar l G ad F (zW A2 3 (hoR F B v i (hoF F B v (A 3) i))) (zC B2 v 8 i (shM F A B v (A 3))) okR) ⟨q_ml_RX3_81, q_im_X3_bar, q_sel_X3_bar, q_ini_RX3, q_code_X3_bar⟩ hv_X3_bar (MP.rec hK hP) hP ⟨by decide, by decide⟩ ⟨Nat.zero_le _, Nat.zero_le _⟩ rfl hl.1 rfl (Nat.le_of_ble_eq_true rfl) dX3_find_86) ?_
                refine z_idiv hx hb dX3_find_89 (by omega) (by omega) ?_
                rw [show bgM B v i / (F 1 * 384 / F 2) = barP F B v (i + 1) by unfold barP; rw [if_neg (by omega), show i + 1 - 1 = i by omega]]
                refine lv_istore_n (lv' := [(2, .int (zI (barP F B v (i + 1)))), (5, .int (zI (k))), (4, .int (zI ((10) * (i)))), (3, .int (zI (i))), (0, .ref (ad 0)), (1, .int (zI (v)))]) hx hb dX3_find_90 rfl hl (by decide) rfl (fun ls hl => ?_)
                refine lv_aload_n hx hb dX3_find_91 rfl (lv_at hl 4 rfl) ?_
                refine zm_get hx hb hK hts hown hP 6 (by decide) q_fl_RX3_22 (v := .ref (ad 2)) rfl dX3_find_92 ?_
                refine lv_iload_n hx hb dX3_find_95 rfl (lv_at hl 5 rfl) ?_
                refine zm_aB hx hb hK hP (i := v) (by omega) dX3_find_96 ?_
                refine lv_iload hx hb dX3_find_97 (lv_at hl 2 rfl) ?_
                refine z_bipush hx hb dX3_find_99 (by decide) ?_
                refine z_iadd (x := (10) * (i)) (y := 8) hx hb dX3_find_101 ?_
                refine z_iconst hx hb dX3_find_102 ?_
                refine zm_sB (x := 0) hx hb hK hP hS (v := v) (by omega) (hD (3 + (v).toNat) (by omega)) (i := ((10) * (i)) + (8)) (by omega) dX3_find_103 (fun H locs hP hz ho hS => ?_)
                refine lv_aload_n hx hb dX3_find_104 rfl (lv_at hl 4 rfl) ?_
                refine lv_iload_n hx hb dX3_find_105 rfl (lv_at hl 5 rfl) ?_
                refine lv_iload_n hx hb dX3_find_106 rfl (lv_at hl 3 rfl) ?_
                refine z_iconst hx hb dX3_find_107 ?_
                refine k_R (c_VR (As := [.int (zI (v)), .int (zI (i)), .int (zI (2))]) (rest := []) ⟨hx, hb, hml, hown, hts⟩ hG hS hA (c_X3_get l G ad F (zW A2 3 (hoR F B v i (hoF F B v (A 3) i))) (zB (zC B2 v 8 i (shM F A B v (A 3))) (v) (((10) * (i)) + (8)) (0)) v i 2 (show 0 ≤ v ∧ v < 4 by omega) (show 0 ≤ 10 * i + 2 ∧ 10 * i + 2 < 2000 by omega)) ⟨q_ml_RX3_57, q_im_X3_get, q_sel_X3_get, q_ini_RX3, q_code_X3_get⟩ hv_X3_get (MP.rec hK hP) hP ⟨by decide, by decide⟩ ⟨Nat.zero_le _, Nat.zero_le _⟩ rfl hl.1 rfl (Nat.le_of_ble_eq_true rfl) dX3_find_108) ?_
                rw [kpZ.2 v i 2 (by omega) (by omega)]
                refine z_if_ne (a := B v (10 * i + 2)) (tgt := 117) hx hb dX3_find_111 (by decide) (by omega) (fun h_111 => ?_) (fun h_111 => ?_)
                · skip
                  have hnr : ¬ B v (10 * i + 2) = 0 := by omega
                  have hsE : hoF F B v (A 3) (i + 1) = zU (hoR F B v i (hoF F B v (A 3) i)) (plM B v i) (B v (10 * i + 4)) := by rw [hs]; exact if_neg hnr
                  refine z_bipush hx hb dX3_find_117 (by decide) ?_
                  refine lv_aload_n hx hb dX3_find_119 rfl (lv_at hl 4 rfl) ?_
                  refine lv_iload_n hx hb dX3_find_120 rfl (lv_at hl 5 rfl) ?_
                  refine lv_iload_n hx hb dX3_find_121 rfl (lv_at hl 3 rfl) ?_
                  refine z_iconst hx hb dX3_find_122 ?_
                  refine k_R (c_VR (As := [.int (zI (v)), .int (zI (i)), .int (zI (5))]) (rest := [.int (zI (7))]) ⟨hx, hb, hml, hown, hts⟩ hG hS hA (c_X3_get l G ad F (zW A2 3 (hoR F B v i (hoF F B v (A 3) i))) (zB (zC B2 v 8 i (shM F A B v (A 3))) (v) (((10) * (i)) + (8)) (0)) v i 5 (show 0 ≤ v ∧ v < 4 by omega) (show 0 ≤ 10 * i + 5 ∧ 10 * i + 5 < 2000 by omega)) ⟨q_ml_RX3_57, q_im_X3_get, q_sel_X3_get, q_ini_RX3, q_code_X3_get⟩ hv_X3_get (MP.rec hK hP) hP ⟨by decide, by decide⟩ ⟨Nat.zero_le _, Nat.zero_le _⟩ rfl hl.1 rfl (Nat.le_of_ble_eq_true rfl) dX3_find_123) ?_
                  rw [kpZ.2 v i 5 (by omega) (by omega)]
                  refine z_imul (x := 7) (y := B v (10 * i + 5)) hx hb dX3_find_126 ?_
                  refine lv_aload_n hx hb dX3_find_127 rfl (lv_at hl 4 rfl) ?_
                  refine lv_iload_n hx hb dX3_find_128 rfl (lv_at hl 5 rfl) ?_
                  refine lv_iload_n hx hb dX3_find_129 rfl (lv_at hl 3 rfl) ?_
                  refine z_iconst hx hb dX3_find_130 ?_
                  refine k_R (c_VR (As := [.int (zI (v)), .int (zI (i)), .int (zI (3))]) (rest := [.int (zI ((7) * (B v (10 * i + 5))))]) ⟨hx, hb, hml, hown, hts⟩ hG hS hA (c_X3_get l G ad F (zW A2 3 (hoR F B v i (hoF F B v (A 3) i))) (zB (zC B2 v 8 i (shM F A B v (A 3))) (v) (((10) * (i)) + (8)) (0)) v i 3 (show 0 ≤ v ∧ v < 4 by omega) (show 0 ≤ 10 * i + 3 ∧ 10 * i + 3 < 2000 by omega)) ⟨q_ml_RX3_57, q_im_X3_get, q_sel_X3_get, q_ini_RX3, q_code_X3_get⟩ hv_X3_get (MP.rec hK hP) hP ⟨by decide, by decide⟩ ⟨Nat.zero_le _, Nat.zero_le _⟩ rfl hl.1 rfl (Nat.le_of_ble_eq_true rfl) dX3_find_131) ?_
                  rw [kpZ.2 v i 3 (by omega) (by omega)]
                  refine z_iadd (x := (7) * (B v (10 * i + 5))) (y := B v (10 * i + 3)) hx hb dX3_find_134 ?_
                  refine lv_istore (lv' := [(5, .int (zI (((7) * (B v (10 * i + 5))) + (B v (10 * i + 3))))), (2, .int (zI (barP F B v (i + 1)))), (4, .int (zI ((10) * (i)))), (3, .int (zI (i))), (0, .ref (ad 0)), (1, .int (zI (v)))]) hx hb dX3_find_135 hl (by decide) rfl (fun ls hl => ?_)
                  have hrp := hrr (7 * B v (10 * i + 5) + B v (10 * i + 3)) (by omega) (by omega)
                  refine lv_aload_n hx hb dX3_find_137 rfl (lv_at hl 4 rfl) ?_
                  refine zm_get hx hb hK hts hown hP 9 (by decide) q_fl_RX3_31 (v := .ref (ad 9)) rfl dX3_find_138 ?_
                  refine lv_iload hx hb dX3_find_141 (lv_at hl 0 rfl) ?_
                  refine zm_lA3 hx hb hK hP (i := ((7) * (B v (10 * i + 5))) + (B v (10 * i + 3))) (by omega) dX3_find_143 ?_
                  refine lv_aload_n hx hb dX3_find_144 rfl (lv_at hl 4 rfl) ?_
                  refine lv_iload_n hx hb dX3_find_145 rfl (lv_at hl 5 rfl) ?_
                  refine lv_iload_n hx hb dX3_find_146 rfl (lv_at hl 3 rfl) ?_
                  refine z_iconst hx hb dX3_find_147 ?_
                  refine k_R (c_VR (As := [.int (zI (v)), .int (zI (i)), .int (zI (4))]) (rest := [.int (zI ((hoR F B v i (hoF F B v (A 3) i)) (((7) * (B v (10 * i + 5))) + (B v (10 * i + 3)))))]) ⟨hx, hb, hml, hown, hts⟩ hG hS hA (c_X3_get l G ad F (zW A2 3 (hoR F B v i (hoF F B v (A 3) i))) (zB (zC B2 v 8 i (shM F A B v (A 3))) (v) (((10) * (i)) + (8)) (0)) v i 4 (show 0 ≤ v ∧ v < 4 by omega) (show 0 ≤ 10 * i + 4 ∧ 10 * i + 4 < 2000 by omega)) ⟨q_ml_RX3_57, q_im_X3_get, q_sel_X3_get, q_ini_RX3, q_code_X3_get⟩ hv_X3_get (MP.rec hK hP) hP ⟨by decide, by decide⟩ ⟨Nat.zero_le _, Nat.zero_le _⟩ rfl hl.1 rfl (Nat.le_of_ble_eq_true rfl) dX3_find_148) ?_
                  rw [kpZ.2 v i 4 (by omega) (by omega)]
                  refine z_icmp_eq (a := (hoR F B v i (hoF F B v (A 3) i)) (((7) * (B v (10 * i + 5))) + (B v (10 * i + 3)))) (b := B v (10 * i + 4)) (tgt := 178) hx hb dX3_find_151 (by decide) (by omega) (by omega) (fun h_151 => ?_) (fun h_151 => ?_)
                  · skip
                    have hsh : (shM F A B v (A 3)) i = 0 := (if_neg hnr).trans (if_neg (fun q => q.1 (by first | exact h_151 | omega)))
                    have hP : MP G ad F (zW A2 3 (hoR F B v i (hoF F B v (A 3) i))) (zC B2 v 8 (i + 1) (shM F A B v (A 3))) H := by rw [← zC_s B2 v (shM F A B v (A 3)) (by omega) h0, hsh]; exact hP
                    refine lv_aload_n hx hb dX3_find_178 rfl (lv_at hl 4 rfl) ?_
                    refine zm_get hx hb hK hts hown hP 9 (by decide) q_fl_RX3_31 (v := .ref (ad 9)) rfl dX3_find_179 ?_
                    refine lv_iload hx hb dX3_find_182 (lv_at hl 0 rfl) ?_
                    refine lv_aload_n hx hb dX3_find_184 rfl (lv_at hl 4 rfl) ?_
                    refine lv_iload_n hx hb dX3_find_185 rfl (lv_at hl 5 rfl) ?_
                    refine lv_iload_n hx hb dX3_find_186 rfl (lv_at hl 3 rfl) ?_
                    refine z_iconst hx hb dX3_find_187 ?_
                    refine k_R (c_VR (As := [.int (zI (v)), .int (zI (i)), .int (zI (4))]) (rest := [.int (zI (((7) * (B v (10 * i + 5))) + (B v (10 * i + 3)))), .ref (ad 9)]) ⟨hx, hb, hml, hown, hts⟩ hG hS hA (c_X3_get l G ad F (zW A2 3 (hoR F B v i (hoF F B v (A 3) i))) (zC B2 v 8 (i + 1) (shM F A B v (A 3))) v i 4 (show 0 ≤ v ∧ v < 4 by omega) (show 0 ≤ 10 * i + 4 ∧ 10 * i + 4 < 2000 by omega)) ⟨q_ml_RX3_57, q_im_X3_get, q_sel_X3_get, q_ini_RX3, q_code_X3_get⟩ hv_X3_get (MP.rec hK hP) hP ⟨by decide, by decide⟩ ⟨Nat.zero_le _, Nat.zero_le _⟩ rfl hl.1 rfl (Nat.le_of_ble_eq_true rfl) dX3_find_188) ?_
                    rw [kpY.2 v i 4 (by omega) (by omega)]
                    refine zm_sA3 (x := B v (10 * i + 4)) hx hb hK hP hS (hD 9 (by decide)) (i := ((7) * (B v (10 * i + 5))) + (B v (10 * i + 3))) (by omega) dX3_find_191 (fun H locs hP hz ho hS => ?_)
                    rw [zW_R] at hP
                    have hP : MP G ad F (zW A2 3 (hoF F B v (A 3) (i + 1))) (zC B2 v 8 (i + 1) (shM F A B v (A 3))) H := by rw [hsE]; exact hP
                    have hhoE : ∀ k, 0 ≤ k → k < 63 → -2 ≤ hoF F B v (A 3) (i + 1) k ∧ hoF F B v (A 3) (i + 1) k ≤ 2 := by
                      intro k q0 q1
                      rw [hsE]
                      unfold zU
                      split
                      · omega
                      · exact hrr k q0 q1
                    refine z_iinc (lv' := [(3, .int (zI (i + 1))), (5, .int (zI (((7) * (B v (10 * i + 5))) + (B v (10 * i + 3))))), (2, .int (zI (barP F B v (i + 1)))), (4, .int (zI ((10) * (i)))), (0, .ref (ad 0)), (1, .int (zI (v)))]) hx hb dX3_find_192 hl (k := 3) rfl (by decide) rfl (fun ls hl => ?_)
                    refine lv_goto (tgt := 9) hx hb dX3_find_195 (by decide) ?_
                    exact ih (i + 1) (by omega) (by omega) (Or.inr hhoE) (by omega) H _ hP hS _ (lv_sub hl [0, 2, 4, 5] rfl)
                  · skip
                    refine lv_aload_n hx hb dX3_find_154 rfl (lv_at hl 4 rfl) ?_
                    refine lv_iload_n hx hb dX3_find_155 rfl (lv_at hl 5 rfl) ?_
                    refine lv_iload_n hx hb dX3_find_156 rfl (lv_at hl 3 rfl) ?_
                    refine z_iconst hx hb dX3_find_157 ?_
                    refine z_isub (x := i) (y := 1) hx hb dX3_find_158 ?_
                    refine k_R (c_VR (As := [.int (zI (v)), .int (zI ((i) - (1)))]) (rest := []) ⟨hx, hb, hml, hown, hts⟩ hG hS hA (c_X3_isJoined l G ad F (zW A2 3 (hoR F B v i (hoF F B v (A 3) i))) (zB (zC B2 v 8 i (shM F A B v (A 3))) (v) (((10) * (i)) + (8)) (0)) v ((i) - (1)) (by omega) (by omega) (kpZ.ok hVM)) ⟨q_ml_RX3_136, q_im_X3_isJoined, q_sel_X3_isJoined, q_ini_RX3, q_code_X3_isJoined⟩ hv_X3_isJoined (MP.rec hK hP) hP ⟨by decide, by decide⟩ ⟨Nat.zero_le _, Nat.zero_le _⟩ rfl hl.1 rfl (Nat.le_of_ble_eq_true rfl) dX3_find_159) ?_
                    rw [bI_eqP (kpZ.jm v (i - 1))]
                    refine z_bif_ne (q := jmM A B v (i - 1)) (tgt := 178) hx hb dX3_find_162 (by decide) (fun h_162 => ?_) (fun h_162 => ?_)
                    · skip
                      have hsh : (shM F A B v (A 3)) i = 0 := (if_neg hnr).trans (if_neg (fun q => q.2 h_162))
                      have hP : MP G ad F (zW A2 3 (hoR F B v i (hoF F B v (A 3) i))) (zC B2 v 8 (i + 1) (shM F A B v (A 3))) H := by rw [← zC_s B2 v (shM F A B v (A 3)) (by omega) h0, hsh]; exact hP
                      refine lv_aload_n hx hb dX3_find_178 rfl (lv_at hl 4 rfl) ?_
                      refine zm_get hx hb hK hts hown hP 9 (by decide) q_fl_RX3_31 (v := .ref (ad 9)) rfl dX3_find_179 ?_
                      refine lv_iload hx hb dX3_find_182 (lv_at hl 0 rfl) ?_
                      refine lv_aload_n hx hb dX3_find_184 rfl (lv_at hl 4 rfl) ?_
                      refine lv_iload_n hx hb dX3_find_185 rfl (lv_at hl 5 rfl) ?_
                      refine lv_iload_n hx hb dX3_find_186 rfl (lv_at hl 3 rfl) ?_
                      refine z_iconst hx hb dX3_find_187 ?_
                      refine k_R (c_VR (As := [.int (zI (v)), .int (zI (i)), .int (zI (4))]) (rest := [.int (zI (((7) * (B v (10 * i + 5))) + (B v (10 * i + 3)))), .ref (ad 9)]) ⟨hx, hb, hml, hown, hts⟩ hG hS hA (c_X3_get l G ad F (zW A2 3 (hoR F B v i (hoF F B v (A 3) i))) (zC B2 v 8 (i + 1) (shM F A B v (A 3))) v i 4 (show 0 ≤ v ∧ v < 4 by omega) (show 0 ≤ 10 * i + 4 ∧ 10 * i + 4 < 2000 by omega)) ⟨q_ml_RX3_57, q_im_X3_get, q_sel_X3_get, q_ini_RX3, q_code_X3_get⟩ hv_X3_get (MP.rec hK hP) hP ⟨by decide, by decide⟩ ⟨Nat.zero_le _, Nat.zero_le _⟩ rfl hl.1 rfl (Nat.le_of_ble_eq_true rfl) dX3_find_188) ?_
                      rw [kpY.2 v i 4 (by omega) (by omega)]
                      refine zm_sA3 (x := B v (10 * i + 4)) hx hb hK hP hS (hD 9 (by decide)) (i := ((7) * (B v (10 * i + 5))) + (B v (10 * i + 3))) (by omega) dX3_find_191 (fun H locs hP hz ho hS => ?_)
                      rw [zW_R] at hP
                      have hP : MP G ad F (zW A2 3 (hoF F B v (A 3) (i + 1))) (zC B2 v 8 (i + 1) (shM F A B v (A 3))) H := by rw [hsE]; exact hP
                      have hhoE : ∀ k, 0 ≤ k → k < 63 → -2 ≤ hoF F B v (A 3) (i + 1) k ∧ hoF F B v (A 3) (i + 1) k ≤ 2 := by
                        intro k q0 q1
                        rw [hsE]
                        unfold zU
                        split
                        · omega
                        · exact hrr k q0 q1
                      refine z_iinc (lv' := [(3, .int (zI (i + 1))), (5, .int (zI (((7) * (B v (10 * i + 5))) + (B v (10 * i + 3))))), (2, .int (zI (barP F B v (i + 1)))), (4, .int (zI ((10) * (i)))), (0, .ref (ad 0)), (1, .int (zI (v)))]) hx hb dX3_find_192 hl (k := 3) rfl (by decide) rfl (fun ls hl => ?_)
                      refine lv_goto (tgt := 9) hx hb dX3_find_195 (by decide) ?_
                      exact ih (i + 1) (by omega) (by omega) (Or.inr hhoE) (by omega) H _ hP hS _ (lv_sub hl [0, 2, 4, 5] rfl)
                    · skip
                      refine lv_aload_n hx hb dX3_find_165 rfl (lv_at hl 4 rfl) ?_
                      refine zm_get hx hb hK hts hown hP 6 (by decide) q_fl_RX3_22 (v := .ref (ad 2)) rfl dX3_find_166 ?_
                      refine lv_iload_n hx hb dX3_find_169 rfl (lv_at hl 5 rfl) ?_
                      refine zm_aB hx hb hK hP (i := v) (by omega) dX3_find_170 ?_
                      refine lv_iload hx hb dX3_find_171 (lv_at hl 2 rfl) ?_
                      refine z_bipush hx hb dX3_find_173 (by decide) ?_
                      refine z_iadd (x := (10) * (i)) (y := 8) hx hb dX3_find_175 ?_
                      refine z_iconst hx hb dX3_find_176 ?_
                      refine zm_sB (x := 1) hx hb hK hP hS (v := v) (by omega) (hD (3 + (v).toNat) (by omega)) (i := ((10) * (i)) + (8)) (by omega) dX3_find_177 (fun H locs hP hz ho hS => ?_)
                      rw [zB_B] at hP
                      have hsh : (shM F A B v (A 3)) i = 1 := (if_neg hnr).trans (if_pos ⟨(by first | exact h_151 | omega), h_162⟩)
                      have hP : MP G ad F (zW A2 3 (hoR F B v i (hoF F B v (A 3) i))) (zC B2 v 8 (i + 1) (shM F A B v (A 3))) H := by rw [← zC_s B2 v (shM F A B v (A 3)) (by omega) h0, hsh]; exact hP
                      refine lv_aload_n hx hb dX3_find_178 rfl (lv_at hl 4 rfl) ?_
                      refine zm_get hx hb hK hts hown hP 9 (by decide) q_fl_RX3_31 (v := .ref (ad 9)) rfl dX3_find_179 ?_
                      refine lv_iload hx hb dX3_find_182 (lv_at hl 0 rfl) ?_
                      refine lv_aload_n hx hb dX3_find_184 rfl (lv_at hl 4 rfl) ?_
                      refine lv_iload_n hx hb dX3_find_185 rfl (lv_at hl 5 rfl) ?_
                      refine lv_iload_n hx hb dX3_find_186 rfl (lv_at hl 3 rfl) ?_
                      refine z_iconst hx hb dX3_find_187 ?_
                      refine k_R (c_VR (As := [.int (zI (v)), .int (zI (i)), .int (zI (4))]) (rest := [.int (zI (((7) * (B v (10 * i + 5))) + (B v (10 * i + 3)))), .ref (ad 9)]) ⟨hx, hb, hml, hown, hts⟩ hG hS hA (c_X3_get l G ad F (zW A2 3 (hoR F B v i (hoF F B v (A 3) i))) (zC B2 v 8 (i + 1) (shM F A B v (A 3))) v i 4 (show 0 ≤ v ∧ v < 4 by omega) (show 0 ≤ 10 * i + 4 ∧ 10 * i + 4 < 2000 by omega)) ⟨q_ml_RX3_57, q_im_X3_get, q_sel_X3_get, q_ini_RX3, q_code_X3_get⟩ hv_X3_get (MP.rec hK hP) hP ⟨by decide, by decide⟩ ⟨Nat.zero_le _, Nat.zero_le _⟩ rfl hl.1 rfl (Nat.le_of_ble_eq_true rfl) dX3_find_188) ?_
                      rw [kpY.2 v i 4 (by omega) (by omega)]
                      refine zm_sA3 (x := B v (10 * i + 4)) hx hb hK hP hS (hD 9 (by decide)) (i := ((7) * (B v (10 * i + 5))) + (B v (10 * i + 3))) (by omega) dX3_find_191 (fun H locs hP hz ho hS => ?_)
                      rw [zW_R] at hP
                      have hP : MP G ad F (zW A2 3 (hoF F B v (A 3) (i + 1))) (zC B2 v 8 (i + 1) (shM F A B v (A 3))) H := by rw [hsE]; exact hP
                      have hhoE : ∀ k, 0 ≤ k → k < 63 → -2 ≤ hoF F B v (A 3) (i + 1) k ∧ hoF F B v (A 3) (i + 1) k ≤ 2 := by
                        intro k q0 q1
                        rw [hsE]
                        unfold zU
                        split
                        · omega
                        · exact hrr k q0 q1
                      refine z_iinc (lv' := [(3, .int (zI (i + 1))), (5, .int (zI (((7) * (B v (10 * i + 5))) + (B v (10 * i + 3))))), (2, .int (zI (barP F B v (i + 1)))), (4, .int (zI ((10) * (i)))), (0, .ref (ad 0)), (1, .int (zI (v)))]) hx hb dX3_find_192 hl (k := 3) rfl (by decide) rfl (fun ls hl => ?_)
                      refine lv_goto (tgt := 9) hx hb dX3_find_195 (by decide) ?_
                      exact ih (i + 1) (by omega) (by omega) (Or.inr hhoE) (by omega) H _ hP hS _ (lv_sub hl [0, 2, 4, 5] rfl)
                · skip
                  have hrs : B v (10 * i + 2) = 0 := by omega
                  have hsE : hoF F B v (A 3) (i + 1) = (hoR F B v i (hoF F B v (A 3) i)) := by rw [hs]; exact if_pos hrs
                  have hsh : (shM F A B v (A 3)) i = 0 := if_pos hrs
                  have hP : MP G ad F (zW A2 3 (hoF F B v (A 3) (i + 1))) (zC B2 v 8 (i + 1) (shM F A B v (A 3))) H := by rw [hsE, ← zC_s B2 v (shM F A B v (A 3)) (by omega) h0, hsh]; exact hP
                  have hhoE : ∀ k, 0 ≤ k → k < 63 → -2 ≤ hoF F B v (A 3) (i + 1) k ∧ hoF F B v (A 3) (i + 1) k ≤ 2 := by rw [hsE]; exact hrr
                  refine lv_goto (tgt := 192) hx hb dX3_find_114 (by decide) ?_
                  refine z_iinc (lv' := [(3, .int (zI (i + 1))), (2, .int (zI (barP F B v (i + 1)))), (5, .int (zI (k))), (4, .int (zI ((10) * (i)))), (0, .ref (ad 0)), (1, .int (zI (v)))]) hx hb dX3_find_192 hl (k := 3) rfl (by decide) rfl (fun ls hl => ?_)
                  refine lv_goto (tgt := 9) hx hb dX3_find_195 (by decide) ?_
                  exact ih (i + 1) (by omega) (by omega) (Or.inr hhoE) (by omega) H _ hP hS _ (lv_sub hl [0, 1, 4, 5] rfl)
              · skip
                refine lv_aload_n hx hb dX3_find_55 rfl (lv_at hl 4 rfl) ?_
                refine zm_get hx hb hK hts hown hP 9 (by decide) q_fl_RX3_31 (v := .ref (ad 9)) rfl dX3_find_56 ?_
                refine lv_iload hx hb dX3_find_59 (lv_at hl 0 rfl) ?_
                refine lv_aload_n hx hb dX3_find_61 rfl (lv_at hl 4 rfl) ?_
                refine lv_iload hx hb dX3_find_62 (lv_at hl 0 rfl) ?_
                refine z_bipush hx hb dX3_find_64 (by decide) ?_
                refine z_iremt hx hb dX3_find_66 (by omega) (by omega) ?_
                rw [show k - k.tdiv 7 * 7 = k % 7 by rw [Int.tdiv_eq_ediv_of_nonneg (by omega)]; omega]
                refine k_R (c_VR (As := [.int (zI (k % 7))]) (rest := [.int (zI (k)), .ref (ad 9)]) ⟨hx, hb, hml, hown, hts⟩ hG hS hA (c_X3_signOf l G ad F (zW A2 3 (hfil (hoF F B v (A 3) i) (F 3) k)) (zC B2 v 8 i (shM F A B v (A 3))) (k % 7) (by omega) (((kp2.W (by decide) _).C v i _ (by omega)).ok hVM)) ⟨q_ml_RX3_103, q_im_X3_signOf, q_sel_X3_signOf, q_ini_RX3, q_code_X3_signOf⟩ hv_X3_signOf (MP.rec hK hP) hP ⟨by decide, by decide⟩ ⟨Nat.zero_le _, Nat.zero_le _⟩ rfl hl.1 rfl (Nat.le_of_ble_eq_true rfl) dX3_find_67) ?_
                refine zm_sA3 (x := sgM ((F 3)) (k % 7)) hx hb hK hP hS (hD 9 (by decide)) (i := k) (by omega) dX3_find_70 (fun H locs hP hz ho hS => ?_)
                rw [zW_R] at hP
                rw [hfil_s _ _ hk0] at hP
                refine z_iinc (lv' := [(5, .int (zI (k + 1))), (4, .int (zI ((10) * (i)))), (3, .int (zI (i))), (2, .int (zI (barP F B v i))), (0, .ref (ad 0)), (1, .int (zI (v)))]) hx hb dX3_find_71 hl (k := 0) rfl (by decide) rfl (fun ls hl => ?_)
                refine lv_goto (tgt := 45) hx hb dX3_find_74 (by decide) ?_
                exact ih2 (k + 1) (by omega) (by omega) (by omega) H _ hP hS _ (lv_sub hl [0, 1, 2, 3, 4, 5] rfl)
          exact lp_45 64 0 (by omega) (by omega) (by omega) H _ hP hS _ (lv_sub hl [0, 1, 2, 3, 4, 5] rfl)
  exact lp_9 201 0 (by omega) (by omega) (Or.inl rfl) (by omega) H1 _ hP hS _ (lv_sub hl [0, 1, 2, 3] rfl)
