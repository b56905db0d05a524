/-- the note that begins at x -/
def beP (B : Int → Int → Int) (v n x : Int) : Int := if fp (fun k => bgM B v k = x ∧ B v (10 * k + 2) = 1) n < n then fp (fun k => bgM B v k = x ∧ B v (10 * k + 2) = 1) n else -1
theorem beP_eq {B B' : Int → Int → Int} {v n x : Int} (h : ∀ k, 0 ≤ k → k < n → B' v (10 * k + 7) = bgM B v k ∧ B' v (10 * k + 2) = B v (10 * k + 2)) : mBe B' v n x = beP B v n x := by
  have q : fp (fun k => B' v (10 * k + 7) = x ∧ B' v (10 * k + 2) = 1) n = fp (fun k => bgM B v k = x ∧ B v (10 * k + 2) = 1) n := fp_congr fun i h0 h1 => by
    rw [(h i h0 h1).1, (h i h0 h1).2]
  unfold mBe beP
  rw [q]
theorem beP_rng {B : Int → Int → Int} {v n x : Int} (hn : 0 ≤ n) : beP B v n x = -1 ∨ (0 ≤ beP B v n x ∧ beP B v n x < n) := by
  have q := fp_le (q := fun k => bgM B v k = x ∧ B v (10 * k + 2) = 1) hn
  unfold beP
  split <;> omega
def oT (A : Nat → Int → Int) (B : Int → Int → Int) (a b e : Int) : Int := if B a (10 * e + 2) = 0 then -1 else beP B b (A 0 b) (bgM B a e)
def plS (A : Nat → Int → Int) (B : Int → Int → Int) (a b e : Int) (z : Int × Int × Int) : Int × Int × Int :=
  if oT A B a b e = -1 then z else (if ¬ z.2.1 = -1 ∧ ((mTn B b (oT A B a b e) - mTn B a e) % 12 = 0 ∨ (mTn B b (oT A B a b e) - mTn B a e) % 12 = 7) ∧ (mTn B b (oT A B a b e) - mTn B a e) % 12 = (z.2.2 - z.2.1) % 12 ∧ ((z.2.1 < mTn B a e ∧ z.2.2 < mTn B b (oT A B a b e)) ∨ (mTn B a e < z.2.1 ∧ mTn B b (oT A B a b e) < z.2.2)) then z.1 + 1 else z.1, mTn B a e, mTn B b (oT A B a b e))
def plF (A : Nat → Int → Int) (B : Int → Int → Int) (a b : Int) : Int → Int × Int × Int := pf (0, -1, -1) (plS A B a b)
def parM (A : Nat → Int → Int) (B : Int → Int → Int) (a b : Int) : Int := (plF A B a b (A 0 a)).1
theorem plF_s (A : Nat → Int → Int) (B : Int → Int → Int) (a b : Int) {e : Int} (h : 0 ≤ e) : plF A B a b (e + 1) = plS A B a b e (plF A B a b e) := pf_s _ _ h
theorem KP.oT {A A' : Nat → Int → Int} {B B' : Int → Int → Int} (h : KP A B A' B') (a b e : Int) : oT A' B' a b e = oT A B a b e := by
  have q : fp (fun k => bgM B' b k = bgM B' a e ∧ B' b (10 * k + 2) = 1) (A' 0 b) = fp (fun k => bgM B b k = bgM B a e ∧ B b (10 * k + 2) = 1) (A 0 b) := by
    rw [h.1]
    exact fp_congr fun i h0 h1 => by rw [h.bg, h.bg, h.2 b i 2 (by omega) (by omega)]
  show (if _ then _ else beP _ _ _ _) = (if _ then _ else beP _ _ _ _)
  unfold beP
  rw [q, h.2 a e 2 (by omega) (by omega), h.1]
theorem KP.par {A A' : Nat → Int → Int} {B B' : Int → Int → Int} (h : KP A B A' B') (a b : Int) : parM A' B' a b = parM A B a b := by
  unfold parM plF
  rw [h.1]
  refine congrArg Prod.fst (pf_congr fun i z _ _ => ?_)
  unfold plS
  rw [h.oT a b i, h.tn a i, h.tn b _]
theorem plF_rng (A : Nat → Int → Int) (B : Int → Int → Int) (a b : Int) {n : Int} (hn : 0 ≤ n) : 0 ≤ (plF A B a b n).1 ∧ (plF A B a b n).1 ≤ n := by
  obtain ⟨k, rfl⟩ : ∃ k : Nat, n = (k : Int) := ⟨n.toNat, by omega⟩
  induction k with
  | zero => exact ⟨Int.le_refl 0, Int.le_refl 0⟩
  | succ k ih =>
    have q := ih (by omega)
    rw [show ((k + 1 : Nat) : Int) = (k : Int) + 1 by omega, plF_s A B a b (by omega)]
    generalize plF A B a b (k : Int) = z at q
    unfold plS
    split
    · omega
    · have r : ∀ (q : Prop) [Decidable q], z.1 ≤ (if q then z.1 + 1 else z.1) ∧ (if q then z.1 + 1 else z.1) ≤ z.1 + 1 := fun q _ => by split <;> omega
      exact ⟨Int.le_trans q.1 (r _).1, Int.le_trans (r _).2 (by omega)⟩
set_option maxHeartbeats 600000 in
theorem c_X3_parallels (l : Launch) (G : zG) (ad : Nat → Nat) (F : Nat → Int) (A : Nat → Int → Int) (B : Int → Int → Int) (a b : Int) (hVa : 0 ≤ a ∧ a < 4) (hVb : 0 ≤ b ∧ b < 4) (hVta : (∀ k, 0 ≤ k → k < A 0 a → B a (10 * k + 7) = bgM B a k)) (hVtb : (∀ k, 0 ≤ k → k < A 0 b → B b (10 * k + 7) = bgM B b k)) (hVM : MOK F A B) : MR l yX3_parallels cX3_parallels 11 (some .int) 2 46 G [.ref (ad 0), .int (zI (a)), .int (zI (b))] (MP G ad F A B) (.int (zI (parM A B a b))) := by
  refine mr_of hp_X3_parallels (Nat.le_of_ble_eq_true rfl) ?_
  intro p env s m below meth c ls hB hP hl
  obtain ⟨hx, hb, hml, hr, hlk, hown, hts, hG⟩ := hB
  have hK := hG.1
  have hS : va_S (fun _ => False) s.heap s.heap [] := va_S.rf
  have hA : ∀ q : Nat, (fun _ : Nat => False) q → G.2.2 ≤ q := fun _ h => h.elim
  have hl : lv_has ls 11 [(0, .ref (ad 0)), (1, .int (zI (a))), (2, .int (zI (b)))] := hl
  have hma := hVM.many hVa
  have hmb := hVM.many hVb
  refine z_iconst hx hb dX3_parallels_0 ?_
  refine lv_istore_n (lv' := [(3, .int (zI (0))), (0, .ref (ad 0)), (1, .int (zI (a))), (2, .int (zI (b)))]) hx hb dX3_parallels_1 rfl hl (by decide) rfl (fun ls hl => ?_)
  refine z_iconst hx hb dX3_parallels_2 ?_
  refine lv_istore (lv' := [(4, .int (zI (-1))), (3, .int (zI (0))), (0, .ref (ad 0)), (1, .int (zI (a))), (2, .int (zI (b)))]) hx hb dX3_parallels_3 hl (by decide) rfl (fun ls hl => ?_)
  refine z_iconst hx hb dX3_parallels_5 ?_
  refine lv_istore (lv' := [(5, .int (zI (-1))), (4, .int (zI (-1))), (3, .int (zI (0))), (0, .ref (ad 0)), (1, .int (zI (a))), (2, .int (zI (b)))]) hx hb dX3_parallels_6 hl (by decide) rfl (fun ls hl => ?_)
  refine z_iconst hx hb dX3_parallels_8 ?_
  refine lv_istore (lv' := [(6, .int (zI (0))), (5, .int (zI (-1))), (4, .int (zI (-1))), (3, .int (zI (0))), (0, .ref (ad 0)), (1, .int (zI (a))), (2, .int (zI (b)))]) hx hb dX3_parallels_9 hl (by decide) rfl (fun ls hl => ?_)
  have lp_11 : ∀ (n : Nat) (i sm la lb : Int), 0 ≤ i → i ≤ A 0 a → plF A B a b i = (sm, la, lb) → (0 ≤ sm ∧ sm ≤ i) → (-2 ≤ la ∧ la ≤ 109) → (-2 ≤ lb ∧ lb ≤ 109) → A 0 a - i < n → ∀ (ls : Array Slot), lv_has ls 11 [(6, .int (zI (i))), (5, .int (zI (lb))), (4, .int (zI (la))), (3, .int (zI (sm))), (0, .ref (ad 0)), (1, .int (zI (a))), (2, .int (zI (b)))] → W p l env (rmz 2 46 0 0) s m (([.ref (ad 0), .int (zI (a)), .int (zI (b))] : List Value).toArray) below meth c s.heap [] 0 0 (MQ below (QR (.int (zI (parM A B a b)))) (([.ref (ad 0), .int (zI (a)), .int (zI (b))] : List Value).toArray) s 0 0 (fun _ => False)) (F0 m 11 ls []) := by
    intro n
    induction n with
    | zero => intro i sm la lb h0 h1 h2 h3 h4 h5 hm ls hl; exact absurd hm (by omega)
    | succ n ih =>
      intro i sm la lb h0 h1 h2 h3 h4 h5 hm ls hl
      have hs := plF_s A B a b h0
      refine lv_iload hx hb dX3_parallels_11 (lv_at hl 0 rfl) ?_
      refine lv_aload_n hx hb dX3_parallels_13 rfl (lv_at hl 4 rfl) ?_
      refine zm_get hx hb hK hts hown hP 5 (by decide) q_fl_RX3_16 (v := .ref (ad 1)) rfl dX3_parallels_14 ?_
      refine lv_iload_n hx hb dX3_parallels_17 rfl (lv_at hl 5 rfl) ?_
      refine zm_lA0 hx hb hK hP (i := a) (by omega) dX3_parallels_18 ?_
      refine z_icmp_ge (a := i) (b := A 0 (a)) (tgt := 170) hx hb dX3_parallels_19 (by decide) (by omega) (by omega) (fun h_19 => ?_) (fun h_19 => ?_)
      · skip
        refine lv_iload_n hx hb dX3_parallels_170 rfl (lv_at hl 3 rfl) ?_
        exact e_R (r' := sm) hx hb hr hlk (n_i _) (by have h9 : A 0 a = i := (by omega); unfold parM; rw [h9, h2]) dX3_parallels_171
      · skip
        have hel := hVM.el hVa (e := i) (by omega)
        have hta := mTn_rng hVM hVa (e := i) (by omega)
        have hbr := bgM_rng hVM hVa (e := i) (by omega)
        refine lv_aload_n hx hb dX3_parallels_22 rfl (lv_at hl 4 rfl) ?_
        refine lv_iload_n hx hb dX3_parallels_23 rfl (lv_at hl 5 rfl) ?_
        refine lv_iload hx hb dX3_parallels_24 (lv_at hl 0 rfl) ?_
        refine z_iconst hx hb dX3_parallels_26 ?_
        refine k_R (c_VR (As := [.int (zI (a)), .int (zI (i)), .int (zI (2))]) (rest := []) ⟨hx, hb, hml, hown, hts⟩ hG hS hA (c_X3_get l G ad F A B a i 2 (show 0 ≤ a ∧ a < 4 by omega) (show 0 ≤ 10 * i + 2 ∧ 10 * i + 2 < 2000 by omega)) ⟨q_ml_RX3_57, q_im_X3_get, q_sel_X3_get, q_ini_RX3, q_code_X3_get⟩ hv_X3_get (MP.rec hK hP) hP ⟨by decide, by decide⟩ ⟨Nat.zero_le _, Nat.zero_le _⟩ rfl hl.1 rfl (Nat.le_of_ble_eq_true rfl) dX3_parallels_27) ?_
        refine z_if_ne (a := B a (10 * i + 2)) (tgt := 37) hx hb dX3_parallels_30 (by decide) (by omega) (fun h_30 => ?_) (fun h_30 => ?_)
        · skip
          have ho9 : (oT A B a b i) = beP B b (A 0 b) (bgM B a i) := if_neg (by omega)
          have hor : (oT A B a b i) = -1 ∨ (0 ≤ (oT A B a b i) ∧ (oT A B a b i) < A 0 b) := by rw [ho9]; exact beP_rng hmb.1
          refine lv_aload_n hx hb dX3_parallels_37 rfl (lv_at hl 4 rfl) ?_
          refine lv_iload_n hx hb dX3_parallels_38 rfl (lv_at hl 6 rfl) ?_
          refine lv_aload_n hx hb dX3_parallels_39 rfl (lv_at hl 4 rfl) ?_
          refine lv_iload_n hx hb dX3_parallels_40 rfl (lv_at hl 5 rfl) ?_
          refine lv_iload hx hb dX3_parallels_41 (lv_at hl 0 rfl) ?_
          refine z_bipush hx hb dX3_parallels_43 (by decide) ?_
          refine k_R (c_VR (As := [.int (zI (a)), .int (zI (i)), .int (zI (7))]) (rest := [.int (zI (b)), .ref (ad 0)]) ⟨hx, hb, hml, hown, hts⟩ hG hS hA (c_X3_get l G ad F A B a i 7 (show 0 ≤ a ∧ a < 4 by omega) (show 0 ≤ 10 * i + 7 ∧ 10 * i + 7 < 2000 by omega)) ⟨q_ml_RX3_57, q_im_X3_get, q_sel_X3_get, q_ini_RX3, q_code_X3_get⟩ hv_X3_get (MP.rec hK hP) hP ⟨by decide, by decide⟩ ⟨Nat.zero_le _, Nat.zero_le _⟩ rfl hl.1 rfl (Nat.le_of_ble_eq_true rfl) dX3_parallels_45) ?_
          rw [hVta i h0 (by omega)]
          refine k_R (c_VR (As := [.int (zI (b)), .int (zI (bgM B a i))]) (rest := []) ⟨hx, hb, hml, hown, hts⟩ hG hS hA (c_X3_begins l G ad F A B b (bgM B a i) hVb (by omega) (fun k q0 q1 => by have := bgM_rng hVM hVb (e := k) (by omega); rw [hVtb k q0 q1]; omega) hVM) ⟨q_ml_RX3_163, q_im_X3_begins, q_sel_X3_begins, q_ini_RX3, q_code_X3_begins⟩ hv_X3_begins (MP.rec hK hP) hP ⟨by decide, by decide⟩ ⟨Nat.zero_le _, Nat.zero_le _⟩ rfl hl.1 rfl (Nat.le_of_ble_eq_true rfl) dX3_parallels_48) ?_
          rw [beP_eq (B := B) (fun k q0 q1 => ⟨hVtb k q0 q1, rfl⟩), ← ho9]
          refine lv_istore (lv' := [(7, .int (zI ((oT A B a b i)))), (6, .int (zI (i))), (5, .int (zI (lb))), (4, .int (zI (la))), (3, .int (zI (sm))), (0, .ref (ad 0)), (1, .int (zI (a))), (2, .int (zI (b)))]) hx hb dX3_parallels_51 hl (by decide) rfl (fun ls hl => ?_)
          refine lv_iload hx hb dX3_parallels_53 (lv_at hl 0 rfl) ?_
          refine z_iconst hx hb dX3_parallels_55 ?_
          refine z_icmp_ne (a := (oT A B a b i)) (b := -1) (tgt := 62) hx hb dX3_parallels_56 (by decide) (by omega) (by omega) (fun h_56 => ?_) (fun h_56 => ?_)
          · skip
            have hob := mTn_rng hVM hVb (e := (oT A B a b i)) (by omega)
            refine lv_aload_n hx hb dX3_parallels_62 rfl (lv_at hl 5 rfl) ?_
            refine lv_iload_n hx hb dX3_parallels_63 rfl (lv_at hl 6 rfl) ?_
            refine lv_iload hx hb dX3_parallels_64 (lv_at hl 1 rfl) ?_
            refine k_R (c_VR (As := [.int (zI (a)), .int (zI (i))]) (rest := []) ⟨hx, hb, hml, hown, hts⟩ hG hS hA (c_X3_tone l G ad F A B a i hVa (by omega) hVM) ⟨q_ml_RX3_133, q_im_X3_tone, q_sel_X3_tone, q_ini_RX3, q_code_X3_tone⟩ hv_X3_tone (MP.rec hK hP) hP ⟨by decide, by decide⟩ ⟨Nat.zero_le _, Nat.zero_le _⟩ rfl hl.1 rfl (Nat.le_of_ble_eq_true rfl) dX3_parallels_66) ?_
            refine lv_istore (lv' := [(8, .int (zI (mTn B a i))), (7, .int (zI ((oT A B a b i)))), (6, .int (zI (i))), (5, .int (zI (lb))), (4, .int (zI (la))), (3, .int (zI (sm))), (0, .ref (ad 0)), (1, .int (zI (a))), (2, .int (zI (b)))]) hx hb dX3_parallels_69 hl (by decide) rfl (fun ls hl => ?_)
            refine lv_aload_n hx hb dX3_parallels_71 rfl (lv_at hl 6 rfl) ?_
            refine lv_iload_n hx hb dX3_parallels_72 rfl (lv_at hl 8 rfl) ?_
            refine lv_iload hx hb dX3_parallels_73 (lv_at hl 1 rfl) ?_
            refine k_R (c_VR (As := [.int (zI (b)), .int (zI ((oT A B a b i)))]) (rest := []) ⟨hx, hb, hml, hown, hts⟩ hG hS hA (c_X3_tone l G ad F A B b ((oT A B a b i)) hVb (by omega) hVM) ⟨q_ml_RX3_133, q_im_X3_tone, q_sel_X3_tone, q_ini_RX3, q_code_X3_tone⟩ hv_X3_tone (MP.rec hK hP) hP ⟨by decide, by decide⟩ ⟨Nat.zero_le _, Nat.zero_le _⟩ rfl hl.1 rfl (Nat.le_of_ble_eq_true rfl) dX3_parallels_75) ?_
            refine lv_istore (lv' := [(9, .int (zI (mTn B b ((oT A B a b i))))), (8, .int (zI (mTn B a i))), (7, .int (zI ((oT A B a b i)))), (6, .int (zI (i))), (5, .int (zI (lb))), (4, .int (zI (la))), (3, .int (zI (sm))), (0, .ref (ad 0)), (1, .int (zI (a))), (2, .int (zI (b)))]) hx hb dX3_parallels_78 hl (by decide) rfl (fun ls hl => ?_)
            refine lv_iload hx hb dX3_parallels_80 (lv_at hl 0 rfl) ?_
            refine lv_iload hx hb dX3_parallels_82 (lv_at hl 1 rfl) ?_
            refine z_isub (x := mTn B b ((oT A B a b i))) (y := mTn B a i) hx hb dX3_parallels_84 ?_
            refine z_bipush hx hb dX3_parallels_85 (by decide) ?_
            refine k_R (c_SR (As := [.int (zI ((mTn B b ((oT A B a b i))) - (mTn B a i))), .int (zI (12))]) (rest := []) ⟨hx, hb, hml, hown, hts⟩ hG hS hA (c_J9_floorMod_7cf53 l G ((mTn B b ((oT A B a b i))) - (mTn B a i)) 12 (by omega) (by first | exact Or.inl rfl | exact Or.inr rfl)) ⟨q_ml_RX3_160, q_st_J9_floorMod_7cf53, q_ini_RJ9, q_code_J9_floorMod_7cf53⟩ hs_J9_floorMod_7cf53 trivial ⟨by decide, by decide⟩ ⟨Nat.zero_le _, Nat.zero_le _⟩ rfl hl.1 rfl (Nat.le_of_ble_eq_true rfl) dX3_parallels_87) ?_
            refine lv_istore (lv' := [(10, .int (zI (((mTn B b ((oT A B a b i))) - (mTn B a i)) % 12))), (9, .int (zI (mTn B b ((oT A B a b i))))), (8, .int (zI (mTn B a i))), (7, .int (zI ((oT A B a b i)))), (6, .int (zI (i))), (5, .int (zI (lb))), (4, .int (zI (la))), (3, .int (zI (sm))), (0, .ref (ad 0)), (1, .int (zI (a))), (2, .int (zI (b)))]) hx hb dX3_parallels_90 hl (by decide) rfl (fun ls hl => ?_)
            refine lv_iload hx hb dX3_parallels_92 (lv_at hl 6 rfl) ?_
            refine z_iconst hx hb dX3_parallels_94 ?_
            refine z_icmp_eq (a := la) (b := -1) (tgt := 156) hx hb dX3_parallels_95 (by decide) (by omega) (by omega) (fun h_95 => ?_) (fun h_95 => ?_)
            · skip
              refine lv_iload hx hb dX3_parallels_156 (lv_at hl 2 rfl) ?_
              refine lv_istore (lv' := [(4, .int (zI (mTn B a i))), (10, .int (zI (((mTn B b ((oT A B a b i))) - (mTn B a i)) % 12))), (9, .int (zI (mTn B b ((oT A B a b i))))), (8, .int (zI (mTn B a i))), (7, .int (zI ((oT A B a b i)))), (6, .int (zI (i))), (5, .int (zI (lb))), (3, .int (zI (sm))), (0, .ref (ad 0)), (1, .int (zI (a))), (2, .int (zI (b)))]) hx hb dX3_parallels_158 hl (by decide) rfl (fun ls hl => ?_)
              refine lv_iload hx hb dX3_parallels_160 (lv_at hl 2 rfl) ?_
              refine lv_istore (lv' := [(5, .int (zI (mTn B b ((oT A B a b i))))), (4, .int (zI (mTn B a i))), (10, .int (zI (((mTn B b ((oT A B a b i))) - (mTn B a i)) % 12))), (9, .int (zI (mTn B b ((oT A B a b i))))), (8, .int (zI (mTn B a i))), (7, .int (zI ((oT A B a b i)))), (6, .int (zI (i))), (3, .int (zI (sm))), (0, .ref (ad 0)), (1, .int (zI (a))), (2, .int (zI (b)))]) hx hb dX3_parallels_162 hl (by decide) rfl (fun ls hl => ?_)
              refine z_iinc (lv' := [(6, .int (zI (i + 1))), (5, .int (zI (mTn B b ((oT A B a b i))))), (4, .int (zI (mTn B a i))), (10, .int (zI (((mTn B b ((oT A B a b i))) - (mTn B a i)) % 12))), (9, .int (zI (mTn B b ((oT A B a b i))))), (8, .int (zI (mTn B a i))), (7, .int (zI ((oT A B a b i)))), (3, .int (zI (sm))), (0, .ref (ad 0)), (1, .int (zI (a))), (2, .int (zI (b)))]) hx hb dX3_parallels_164 hl (k := 6) rfl (by decide) rfl (fun ls hl => ?_)
              refine lv_goto (tgt := 11) hx hb dX3_parallels_167 (by decide) ?_
              exact ih (i + 1) (sm) (mTn B a i) (mTn B b ((oT A B a b i))) (by omega) (by omega) (by first | (exfalso; omega) | (rw [hs, h2]; show (if (oT A B a b i) = -1 then (sm, la, lb) else (if ¬ la = -1 ∧ ((mTn B b (oT A B a b i) - mTn B a i) % 12 = 0 ∨ (mTn B b (oT A B a b i) - mTn B a i) % 12 = 7) ∧ (mTn B b (oT A B a b i) - mTn B a i) % 12 = (lb - la) % 12 ∧ ((la < mTn B a i ∧ lb < mTn B b (oT A B a b i)) ∨ (mTn B a i < la ∧ mTn B b (oT A B a b i) < lb)) then sm + 1 else sm, mTn B a i, mTn B b (oT A B a b i))) = _; first | rw [if_pos (by omega)] | (rw [if_neg (by omega)]; first | rw [if_pos (by omega)] | rw [if_neg (by omega)]))) (by omega) (by omega) (by omega) (by omega) _ (lv_sub hl [0, 1, 2, 7, 8, 9, 10] rfl)
            · skip
              refine lv_iload hx hb dX3_parallels_98 (lv_at hl 0 rfl) ?_
              refine lv_iload hx hb dX3_parallels_100 (lv_at hl 5 rfl) ?_
              refine lv_iload hx hb dX3_parallels_102 (lv_at hl 6 rfl) ?_
              refine z_isub (x := lb) (y := la) hx hb dX3_parallels_104 ?_
              refine z_bipush hx hb dX3_parallels_105 (by decide) ?_
              refine k_R (c_SR (As := [.int (zI ((lb) - (la))), .int (zI (12))]) (rest := [.int (zI (((mTn B b ((oT A B a b i))) - (mTn B a i)) % 12))]) ⟨hx, hb, hml, hown, hts⟩ hG hS hA (c_J9_floorMod_7cf53 l G ((lb) - (la)) 12 (by omega) (by first | exact Or.inl rfl | exact Or.inr rfl)) ⟨q_ml_RX3_160, q_st_J9_floorMod_7cf53, q_ini_RJ9, q_code_J9_floorMod_7cf53⟩ hs_J9_floorMod_7cf53 trivial ⟨by decide, by decide⟩ ⟨Nat.zero_le _, Nat.zero_le _⟩ rfl hl.1 rfl (Nat.le_of_ble_eq_true rfl) dX3_parallels_107) ?_
              refine z_icmp_ne (a := ((mTn B b ((oT A B a b i))) - (mTn B a i)) % 12) (b := ((lb) - (la)) % 12) (tgt := 156) hx hb dX3_parallels_110 (by decide) (by omega) (by omega) (fun h_110 => ?_) (fun h_110 => ?_)
              · skip
                refine lv_iload hx hb dX3_parallels_156 (lv_at hl 2 rfl) ?_
                refine lv_istore (lv' := [(4, .int (zI (mTn B a i))), (10, .int (zI (((mTn B b ((oT A B a b i))) - (mTn B a i)) % 12))), (9, .int (zI (mTn B b ((oT A B a b i))))), (8, .int (zI (mTn B a i))), (7, .int (zI ((oT A B a b i)))), (6, .int (zI (i))), (5, .int (zI (lb))), (3, .int (zI (sm))), (0, .ref (ad 0)), (1, .int (zI (a))), (2, .int (zI (b)))]) hx hb dX3_parallels_158 hl (by decide) rfl (fun ls hl => ?_)
                refine lv_iload hx hb dX3_parallels_160 (lv_at hl 2 rfl) ?_
                refine lv_istore (lv' := [(5, .int (zI (mTn B b ((oT A B a b i))))), (4, .int (zI (mTn B a i))), (10, .int (zI (((mTn B b ((oT A B a b i))) - (mTn B a i)) % 12))), (9, .int (zI (mTn B b ((oT A B a b i))))), (8, .int (zI (mTn B a i))), (7, .int (zI ((oT A B a b i)))), (6, .int (zI (i))), (3, .int (zI (sm))), (0, .ref (ad 0)), (1, .int (zI (a))), (2, .int (zI (b)))]) hx hb dX3_parallels_162 hl (by decide) rfl (fun ls hl => ?_)
                refine z_iinc (lv' := [(6, .int (zI (i + 1))), (5, .int (zI (mTn B b ((oT A B a b i))))), (4, .int (zI (mTn B a i))), (10, .int (zI (((mTn B b ((oT A B a b i))) - (mTn B a i)) % 12))), (9, .int (zI (mTn B b ((oT A B a b i))))), (8, .int (zI (mTn B a i))), (7, .int (zI ((oT A B a b i)))), (3, .int (zI (sm))), (0, .ref (ad 0)), (1, .int (zI (a))), (2, .int (zI (b)))]) hx hb dX3_parallels_164 hl (k := 6) rfl (by decide) rfl (fun ls hl => ?_)
                refine lv_goto (tgt := 11) hx hb dX3_parallels_167 (by decide) ?_
                exact ih (i + 1) (sm) (mTn B a i) (mTn B b ((oT A B a b i))) (by omega) (by omega) (by first | (exfalso; omega) | (rw [hs, h2]; show (if (oT A B a b i) = -1 then (sm, la, lb) else (if ¬ la = -1 ∧ ((mTn B b (oT A B a b i) - mTn B a i) % 12 = 0 ∨ (mTn B b (oT A B a b i) - mTn B a i) % 12 = 7) ∧ (mTn B b (oT A B a b i) - mTn B a i) % 12 = (lb - la) % 12 ∧ ((la < mTn B a i ∧ lb < mTn B b (oT A B a b i)) ∨ (mTn B a i < la ∧ mTn B b (oT A B a b i) < lb)) then sm + 1 else sm, mTn B a i, mTn B b (oT A B a b i))) = _; first | rw [if_pos (by omega)] | (rw [if_neg (by omega)]; first | rw [if_pos (by omega)] | rw [if_neg (by omega)]))) (by omega) (by omega) (by omega) (by omega) _ (lv_sub hl [0, 1, 2, 7, 8, 9, 10] rfl)
              · skip
                refine lv_iload hx hb dX3_parallels_113 (lv_at hl 0 rfl) ?_
                refine z_if_eq (a := ((mTn B b ((oT A B a b i))) - (mTn B a i)) % 12) (tgt := 125) hx hb dX3_parallels_115 (by decide) (by omega) (fun h_115 => ?_) (fun h_115 => ?_)
                · skip
                  refine lv_iload hx hb dX3_parallels_125 (lv_at hl 2 rfl) ?_
                  refine lv_iload hx hb dX3_parallels_127 (lv_at hl 6 rfl) ?_
                  refine z_icmp_le (a := mTn B a i) (b := la) (tgt := 139) hx hb dX3_parallels_129 (by decide) (by omega) (by omega) (fun h_129 => ?_) (fun h_129 => ?_)
                  · skip
                    refine lv_iload hx hb dX3_parallels_139 (lv_at hl 2 rfl) ?_
                    refine lv_iload hx hb dX3_parallels_141 (lv_at hl 6 rfl) ?_
                    refine z_icmp_ge (a := mTn B a i) (b := la) (tgt := 156) hx hb dX3_parallels_143 (by decide) (by omega) (by omega) (fun h_143 => ?_) (fun h_143 => ?_)
                    · skip
                      refine lv_iload hx hb dX3_parallels_156 (lv_at hl 2 rfl) ?_
                      refine lv_istore (lv' := [(4, .int (zI (mTn B a i))), (10, .int (zI (((mTn B b ((oT A B a b i))) - (mTn B a i)) % 12))), (9, .int (zI (mTn B b ((oT A B a b i))))), (8, .int (zI (mTn B a i))), (7, .int (zI ((oT A B a b i)))), (6, .int (zI (i))), (5, .int (zI (lb))), (3, .int (zI (sm))), (0, .ref (ad 0)), (1, .int (zI (a))), (2, .int (zI (b)))]) hx hb dX3_parallels_158 hl (by decide) rfl (fun ls hl => ?_)
                      refine lv_iload hx hb dX3_parallels_160 (lv_at hl 2 rfl) ?_
                      refine lv_istore (lv' := [(5, .int (zI (mTn B b ((oT A B a b i))))), (4, .int (zI (mTn B a i))), (10, .int (zI (((mTn B b ((oT A B a b i))) - (mTn B a i)) % 12))), (9, .int (zI (mTn B b ((oT A B a b i))))), (8, .int (zI (mTn B a i))), (7, .int (zI ((oT A B a b i)))), (6, .int (zI (i))), (3, .int (zI (sm))), (0, .ref (ad 0)), (1, .int (zI (a))), (2, .int (zI (b)))]) hx hb dX3_parallels_162 hl (by decide) rfl (fun ls hl => ?_)
                      refine z_iinc (lv' := [(6, .int (zI (i + 1))), (5, .int (zI (mTn B b ((oT A B a b i))))), (4, .int (zI (mTn B a i))), (10, .int (zI (((mTn B b ((oT A B a b i))) - (mTn B a i)) % 12))), (9, .int (zI (mTn B b ((oT A B a b i))))), (8, .int (zI (mTn B a i))), (7, .int (zI ((oT A B a b i)))), (3, .int (zI (sm))), (0, .ref (ad 0)), (1, .int (zI (a))), (2, .int (zI (b)))]) hx hb dX3_parallels_164 hl (k := 6) rfl (by decide) rfl (fun ls hl => ?_)
                      refine lv_goto (tgt := 11) hx hb dX3_parallels_167 (by decide) ?_
                      exact ih (i + 1) (sm) (mTn B a i) (mTn B b ((oT A B a b i))) (by omega) (by omega) (by first | (exfalso; omega) | (rw [hs, h2]; show (if (oT A B a b i) = -1 then (sm, la, lb) else (if ¬ la = -1 ∧ ((mTn B b (oT A B a b i) - mTn B a i) % 12 = 0 ∨ (mTn B b (oT A B a b i) - mTn B a i) % 12 = 7) ∧ (mTn B b (oT A B a b i) - mTn B a i) % 12 = (lb - la) % 12 ∧ ((la < mTn B a i ∧ lb < mTn B b (oT A B a b i)) ∨ (mTn B a i < la ∧ mTn B b (oT A B a b i) < lb)) then sm + 1 else sm, mTn B a i, mTn B b (oT A B a b i))) = _; first | rw [if_pos (by omega)] | (rw [if_neg (by omega)]; first | rw [if_pos (by omega)] | rw [if_neg (by omega)]))) (by omega) (by omega) (by omega) (by omega) _ (lv_sub hl [0, 1, 2, 7, 8, 9, 10] rfl)
                    · skip
                      refine lv_iload hx hb dX3_parallels_146 (lv_at hl 1 rfl) ?_
                      refine lv_iload hx hb dX3_parallels_148 (lv_at hl 5 rfl) ?_
                      refine z_icmp_ge (a := mTn B b ((oT A B a b i))) (b := lb) (tgt := 156) hx hb dX3_parallels_150 (by decide) (by omega) (by omega) (fun h_150 => ?_) (fun h_150 => ?_)
                      · skip
                        refine lv_iload hx hb dX3_parallels_156 (lv_at hl 2 rfl) ?_
                        refine lv_istore (lv' := [(4, .int (zI (mTn B a i))), (10, .int (zI (((mTn B b ((oT A B a b i))) - (mTn B a i)) % 12))), (9, .int (zI (mTn B b ((oT A B a b i))))), (8, .int (zI (mTn B a i))), (7, .int (zI ((oT A B a b i)))), (6, .int (zI (i))), (5, .int (zI (lb))), (3, .int (zI (sm))), (0, .ref (ad 0)), (1, .int (zI (a))), (2, .int (zI (b)))]) hx hb dX3_parallels_158 hl (by decide) rfl (fun ls hl => ?_)
                        refine lv_iload hx hb dX3_parallels_160 (lv_at hl 2 rfl) ?_
                        refine lv_istore (lv' := [(5, .int (zI (mTn B b ((oT A B a b i))))), (4, .int (zI (mTn B a i))), (10, .int (zI (((mTn B b ((oT A B a b i))) - (mTn B a i)) % 12))), (9, .int (zI (mTn B b ((oT A B a b i))))), (8, .int (zI (mTn B a i))), (7, .int (zI ((oT A B a b i)))), (6, .int (zI (i))), (3, .int (zI (sm))), (0, .ref (ad 0)), (1, .int (zI (a))), (2, .int (zI (b)))]) hx hb dX3_parallels_162 hl (by decide) rfl (fun ls hl => ?_)
                        refine z_iinc (lv' := [(6, .int (zI (i + 1))), (5, .int (zI (mTn B b ((oT A B a b i))))), (4, .int (zI (mTn B a i))), (10, .int (zI (((mTn B b ((oT A B a b i))) - (mTn B a i)) % 12))), (9, .int (zI (mTn B b ((oT A B a b i))))), (8, .int (zI (mTn B a i))), (7, .int (zI ((oT A B a b i)))), (3, .int (zI (sm))), (0, .ref (ad 0)), (1, .int (zI (a))), (2, .int (zI (b)))]) hx hb dX3_parallels_164 hl (k := 6) rfl (by decide) rfl (fun ls hl => ?_)
                        refine lv_goto (tgt := 11) hx hb dX3_parallels_167 (by decide) ?_
                        exact ih (i + 1) (sm) (mTn B a i) (mTn B b ((oT A B a b i))) (by omega) (by omega) (by first | (exfalso; omega) | (rw [hs, h2]; show (if (oT A B a b i) = -1 then (sm, la, lb) else (if ¬ la = -1 ∧ ((mTn B b (oT A B a b i) - mTn B a i) % 12 = 0 ∨ (mTn B b (oT A B a b i) - mTn B a i) % 12 = 7) ∧ (mTn B b (oT A B a b i) - mTn B a i) % 12 = (lb - la) % 12 ∧ ((la < mTn B a i ∧ lb < mTn B b (oT A B a b i)) ∨ (mTn B a i < la ∧ mTn B b (oT A B a b i) < lb)) then sm + 1 else sm, mTn B a i, mTn B b (oT A B a b i))) = _; first | rw [if_pos (by omega)] | (rw [if_neg (by omega)]; first | rw [if_pos (by omega)] | rw [if_neg (by omega)]))) (by omega) (by omega) (by omega) (by omega) _ (lv_sub hl [0, 1, 2, 7, 8, 9, 10] rfl)
                      · skip
                        refine z_iinc (lv' := [(3, .int (zI (sm + 1))), (10, .int (zI (((mTn B b ((oT A B a b i))) - (mTn B a i)) % 12))), (9, .int (zI (mTn B b ((oT A B a b i))))), (8, .int (zI (mTn B a i))), (7, .int (zI ((oT A B a b i)))), (6, .int (zI (i))), (5, .int (zI (lb))), (4, .int (zI (la))), (0, .ref (ad 0)), (1, .int (zI (a))), (2, .int (zI (b)))]) hx hb dX3_parallels_153 hl (k := 7) rfl (by decide) rfl (fun ls hl => ?_)
                        refine lv_iload hx hb dX3_parallels_156 (lv_at hl 3 rfl) ?_
                        refine lv_istore (lv' := [(4, .int (zI (mTn B a i))), (3, .int (zI (sm + 1))), (10, .int (zI (((mTn B b ((oT A B a b i))) - (mTn B a i)) % 12))), (9, .int (zI (mTn B b ((oT A B a b i))))), (8, .int (zI (mTn B a i))), (7, .int (zI ((oT A B a b i)))), (6, .int (zI (i))), (5, .int (zI (lb))), (0, .ref (ad 0)), (1, .int (zI (a))), (2, .int (zI (b)))]) hx hb dX3_parallels_158 hl (by decide) rfl (fun ls hl => ?_)
                        refine lv_iload hx hb dX3_parallels_160 (lv_at hl 3 rfl) ?_
                        refine lv_istore (lv' := [(5, .int (zI (mTn B b ((oT A B a b i))))), (4, .int (zI (mTn B a i))), (3, .int (zI (sm + 1))), (10, .int (zI (((mTn B b ((oT A B a b i))) - (mTn B a i)) % 12))), (9, .int (zI (mTn B b ((oT A B a b i))))), (8, .int (zI (mTn B a i))), (7, .int (zI ((oT A B a b i)))), (6, .int (zI (i))), (0, .ref (ad 0)), (1, .int (zI (a))), (2, .int (zI (b)))]) hx hb dX3_parallels_162 hl (by decide) rfl (fun ls hl => ?_)
                        refine z_iinc (lv' := [(6, .int (zI (i + 1))), (5, .int (zI (mTn B b ((oT A B a b i))))), (4, .int (zI (mTn B a i))), (3, .int (zI (sm + 1))), (10, .int (zI (((mTn B b ((oT A B a b i))) - (mTn B a i)) % 12))), (9, .int (zI (mTn B b ((oT A B a b i))))), (8, .int (zI (mTn B a i))), (7, .int (zI ((oT A B a b i)))), (0, .ref (ad 0)), (1, .int (zI (a))), (2, .int (zI (b)))]) hx hb dX3_parallels_164 hl (k := 7) rfl (by decide) rfl (fun ls hl => ?_)
                        refine lv_goto (tgt := 11) hx hb dX3_parallels_167 (by decide) ?_
                        exact ih (i + 1) (sm + 1) (mTn B a i) (mTn B b ((oT A B a b i))) (by omega) (by omega) (by first | (exfalso; omega) | (rw [hs, h2]; show (if (oT A B a b i) = -1 then (sm, la, lb) else (if ¬ la = -1 ∧ ((mTn B b (oT A B a b i) - mTn B a i) % 12 = 0 ∨ (mTn B b (oT A B a b i) - mTn B a i) % 12 = 7) ∧ (mTn B b (oT A B a b i) - mTn B a i) % 12 = (lb - la) % 12 ∧ ((la < mTn B a i ∧ lb < mTn B b (oT A B a b i)) ∨ (mTn B a i < la ∧ mTn B b (oT A B a b i) < lb)) then sm + 1 else sm, mTn B a i, mTn B b (oT A B a b i))) = _; first | rw [if_pos (by omega)] | (rw [if_neg (by omega)]; first | rw [if_pos (by omega)] | rw [if_neg (by omega)]))) (by omega) (by omega) (by omega) (by omega) _ (lv_sub hl [0, 1, 2, 3, 8, 9, 10] rfl)
                  · skip
                    refine lv_iload hx hb dX3_parallels_132 (lv_at hl 1 rfl) ?_
                    refine lv_iload hx hb dX3_parallels_134 (lv_at hl 5 rfl) ?_
                    refine z_icmp_gt (a := mTn B b ((oT A B a b i))) (b := lb) (tgt := 153) hx hb dX3_parallels_136 (by decide) (by omega) (by omega) (fun h_136 => ?_) (fun h_136 => ?_)
                    · skip
                      refine z_iinc (lv' := [(3, .int (zI (sm + 1))), (10, .int (zI (((mTn B b ((oT A B a b i))) - (mTn B a i)) % 12))), (9, .int (zI (mTn B b ((oT A B a b i))))), (8, .int (zI (mTn B a i))), (7, .int (zI ((oT A B a b i)))), (6, .int (zI (i))), (5, .int (zI (lb))), (4, .int (zI (la))), (0, .ref (ad 0)), (1, .int (zI (a))), (2, .int (zI (b)))]) hx hb dX3_parallels_153 hl (k := 7) rfl (by decide) rfl (fun ls hl => ?_)
                      refine lv_iload hx hb dX3_parallels_156 (lv_at hl 3 rfl) ?_
                      refine lv_istore (lv' := [(4, .int (zI (mTn B a i))), (3, .int (zI (sm + 1))), (10, .int (zI (((mTn B b ((oT A B a b i))) - (mTn B a i)) % 12))), (9, .int (zI (mTn B b ((oT A B a b i))))), (8, .int (zI (mTn B a i))), (7, .int (zI ((oT A B a b i)))), (6, .int (zI (i))), (5, .int (zI (lb))), (0, .ref (ad 0)), (1, .int (zI (a))), (2, .int (zI (b)))]) hx hb dX3_parallels_158 hl (by decide) rfl (fun ls hl => ?_)
                      refine lv_iload hx hb dX3_parallels_160 (lv_at hl 3 rfl) ?_
                      refine lv_istore (lv' := [(5, .int (zI (mTn B b ((oT A B a b i))))), (4, .int (zI (mTn B a i))), (3, .int (zI (sm + 1))), (10, .int (zI (((mTn B b ((oT A B a b i))) - (mTn B a i)) % 12))), (9, .int (zI (mTn B b ((oT A B a b i))))), (8, .int (zI (mTn B a i))), (7, .int (zI ((oT A B a b i)))), (6, .int (zI (i))), (0, .ref (ad 0)), (1, .int (zI (a))), (2, .int (zI (b)))]) hx hb dX3_parallels_162 hl (by decide) rfl (fun ls hl => ?_)
                      refine z_iinc (lv' := [(6, .int (zI (i + 1))), (5, .int (zI (mTn B b ((oT A B a b i))))), (4, .int (zI (mTn B a i))), (3, .int (zI (sm + 1))), (10, .int (zI (((mTn B b ((oT A B a b i))) - (mTn B a i)) % 12))), (9, .int (zI (mTn B b ((oT A B a b i))))), (8, .int (zI (mTn B a i))), (7, .int (zI ((oT A B a b i)))), (0, .ref (ad 0)), (1, .int (zI (a))), (2, .int (zI (b)))]) hx hb dX3_parallels_164 hl (k := 7) rfl (by decide) rfl (fun ls hl => ?_)
                      refine lv_goto (tgt := 11) hx hb dX3_parallels_167 (by decide) ?_
                      exact ih (i + 1) (sm + 1) (mTn B a i) (mTn B b ((oT A B a b i))) (by omega) (by omega) (by first | (exfalso; omega) | (rw [hs, h2]; show (if (oT A B a b i) = -1 then (sm, la, lb) else (if ¬ la = -1 ∧ ((mTn B b (oT A B a b i) - mTn B a i) % 12 = 0 ∨ (mTn B b (oT A B a b i) - mTn B a i) % 12 = 7) ∧ (mTn B b (oT A B a b i) - mTn B a i) % 12 = (lb - la) % 12 ∧ ((la < mTn B a i ∧ lb < mTn B b (oT A B a b i)) ∨ (mTn B a i < la ∧ mTn B b (oT A B a b i) < lb)) then sm + 1 else sm, mTn B a i, mTn B b (oT A B a b i))) = _; first | rw [if_pos (by omega)] | (rw [if_neg (by omega)]; first | rw [if_pos (by omega)] | rw [if_neg (by omega)]))) (by omega) (by omega) (by omega) (by omega) _ (lv_sub hl [0, 1, 2, 3, 8, 9, 10] rfl)
                    · skip
                      refine lv_iload hx hb dX3_parallels_139 (lv_at hl 2 rfl) ?_
                      refine lv_iload hx hb dX3_parallels_141 (lv_at hl 6 rfl) ?_
                      refine z_icmp_ge (a := mTn B a i) (b := la) (tgt := 156) hx hb dX3_parallels_143 (by decide) (by omega) (by omega) (fun h_143 => ?_) (fun h_143 => ?_)
                      · skip
                        refine lv_iload hx hb dX3_parallels_156 (lv_at hl 2 rfl) ?_
                        refine lv_istore (lv' := [(4, .int (zI (mTn B a i))), (10, .int (zI (((mTn B b ((oT A B a b i))) - (mTn B a i)) % 12))), (9, .int (zI (mTn B b ((oT A B a b i))))), (8, .int (zI (mTn B a i))), (7, .int (zI ((oT A B a b i)))), (6, .int (zI (i))), (5, .int (zI (lb))), (3, .int (zI (sm))), (0, .ref (ad 0)), (1, .int (zI (a))), (2, .int (zI (b)))]) hx hb dX3_parallels_158 hl (by decide) rfl (fun ls hl => ?_)
                        refine lv_iload hx hb dX3_parallels_160 (lv_at hl 2 rfl) ?_
                        refine lv_istore (lv' := [(5, .int (zI (mTn B b ((oT A B a b i))))), (4, .int (zI (mTn B a i))), (10, .int (zI (((mTn B b ((oT A B a b i))) - (mTn B a i)) % 12))), (9, .int (zI (mTn B b ((oT A B a b i))))), (8, .int (zI (mTn B a i))), (7, .int (zI ((oT A B a b i)))), (6, .int (zI (i))), (3, .int (zI (sm))), (0, .ref (ad 0)), (1, .int (zI (a))), (2, .int (zI (b)))]) hx hb dX3_parallels_162 hl (by decide) rfl (fun ls hl => ?_)
                        refine z_iinc (lv' := [(6, .int (zI (i + 1))), (5, .int (zI (mTn B b ((oT A B a b i))))), (4, .int (zI (mTn B a i))), (10, .int (zI (((mTn B b ((oT A B a b i))) - (mTn B a i)) % 12))), (9, .int (zI (mTn B b ((oT A B a b i))))), (8, .int (zI (mTn B a i))), (7, .int (zI ((oT A B a b i)))), (3, .int (zI (sm))), (0, .ref (ad 0)), (1, .int (zI (a))), (2, .int (zI (b)))]) hx hb dX3_parallels_164 hl (k := 6) rfl (by decide) rfl (fun ls hl => ?_)
                        refine lv_goto (tgt := 11) hx hb dX3_parallels_167 (by decide) ?_
                        exact ih (i + 1) (sm) (mTn B a i) (mTn B b ((oT A B a b i))) (by omega) (by omega) (by first | (exfalso; omega) | (rw [hs, h2]; show (if (oT A B a b i) = -1 then (sm, la, lb) else (if ¬ la = -1 ∧ ((mTn B b (oT A B a b i) - mTn B a i) % 12 = 0 ∨ (mTn B b (oT A B a b i) - mTn B a i) % 12 = 7) ∧ (mTn B b (oT A B a b i) - mTn B a i) % 12 = (lb - la) % 12 ∧ ((la < mTn B a i ∧ lb < mTn B b (oT A B a b i)) ∨ (mTn B a i < la ∧ mTn B b (oT A B a b i) < lb)) then sm + 1 else sm, mTn B a i, mTn B b (oT A B a b i))) = _; first | rw [if_pos (by omega)] | (rw [if_neg (by omega)]; first | rw [if_pos (by omega)] | rw [if_neg (by omega)]))) (by omega) (by omega) (by omega) (by omega) _ (lv_sub hl [0, 1, 2, 7, 8, 9, 10] rfl)
                      · skip
                        refine lv_iload hx hb dX3_parallels_146 (lv_at hl 1 rfl) ?_
                        refine lv_iload hx hb dX3_parallels_148 (lv_at hl 5 rfl) ?_
                        refine z_icmp_ge (a := mTn B b ((oT A B a b i))) (b := lb) (tgt := 156) hx hb dX3_parallels_150 (by decide) (by omega) (by omega) (fun h_150 => ?_) (fun h_150 => ?_)
                        · skip
                          refine lv_iload hx hb dX3_parallels_156 (lv_at hl 2 rfl) ?_
                          refine lv_istore (lv' := [(4, .int (zI (mTn B a i))), (10, .int (zI (((mTn B b ((oT A B a b i))) - (mTn B a i)) % 12))), (9, .int (zI (mTn B b ((oT A B a b i))))), (8, .int (zI (mTn B a i))), (7, .int (zI ((oT A B a b i)))), (6, .int (zI (i))), (5, .int (zI (lb))), (3, .int (zI (sm))), (0, .ref (ad 0)), (1, .int (zI (a))), (2, .int (zI (b)))]) hx hb dX3_parallels_158 hl (by decide) rfl (fun ls hl => ?_)
                          refine lv_iload hx hb dX3_parallels_160 (lv_at hl 2 rfl) ?_
                          refine lv_istore (lv' := [(5, .int (zI (mTn B b ((oT A B a b i))))), (4, .int (zI (mTn B a i))), (10, .int (zI (((mTn B b ((oT A B a b i))) - (mTn B a i)) % 12))), (9, .int (zI (mTn B b ((oT A B a b i))))), (8, .int (zI (mTn B a i))), (7, .int (zI ((oT A B a b i)))), (6, .int (zI (i))), (3, .int (zI (sm))), (0, .ref (ad 0)), (1, .int (zI (a))), (2, .int (zI (b)))]) hx hb dX3_parallels_162 hl (by decide) rfl (fun ls hl => ?_)
                          refine z_iinc (lv' := [(6, .int (zI (i + 1))), (5, .int (zI (mTn B b ((oT A B a b i))))), (4, .int (zI (mTn B a i))), (10, .int (zI (((mTn B b ((oT A B a b i))) - (mTn B a i)) % 12))), (9, .int (zI (mTn B b ((oT A B a b i))))), (8, .int (zI (mTn B a i))), (7, .int (zI ((oT A B a b i)))), (3, .int (zI (sm))), (0, .ref (ad 0)), (1, .int (zI (a))), (2, .int (zI (b)))]) hx hb dX3_parallels_164 hl (k := 6) rfl (by decide) rfl (fun ls hl => ?_)
                          refine lv_goto (tgt := 11) hx hb dX3_parallels_167 (by decide) ?_
                          exact ih (i + 1) (sm) (mTn B a i) (mTn B b ((oT A B a b i))) (by omega) (by omega) (by first | (exfalso; omega) | (rw [hs, h2]; show (if (oT A B a b i) = -1 then (sm, la, lb) else (if ¬ la = -1 ∧ ((mTn B b (oT A B a b i) - mTn B a i) % 12 = 0 ∨ (mTn B b (oT A B a b i) - mTn B a i) % 12 = 7) ∧ (mTn B b (oT A B a b i) - mTn B a i) % 12 = (lb - la) % 12 ∧ ((la < mTn B a i ∧ lb < mTn B b (oT A B a b i)) ∨ (mTn B a i < la ∧ mTn B b (oT A B a b i) < lb)) then sm + 1 else sm, mTn B a i, mTn B b (oT A B a b i))) = _; first | rw [if_pos (by omega)] | (rw [if_neg (by omega)]; first | rw [if_pos (by omega)] | rw [if_neg (by omega)]))) (by omega) (by omega) (by omega) (by omega) _ (lv_sub hl [0, 1, 2, 7, 8, 9, 10] rfl)
                        · skip
                          refine z_iinc (lv' := [(3, .int (zI (sm + 1))), (10, .int (zI (((mTn B b ((oT A B a b i))) - (mTn B a i)) % 12))), (9, .int (zI (mTn B b ((oT A B a b i))))), (8, .int (zI (mTn B a i))), (7, .int (zI ((oT A B a b i)))), (6, .int (zI (i))), (5, .int (zI (lb))), (4, .int (zI (la))), (0, .ref (ad 0)), (1, .int (zI (a))), (2, .int (zI (b)))]) hx hb dX3_parallels_153 hl (k := 7) rfl (by decide) rfl (fun ls hl => ?_)
                          refine lv_iload hx hb dX3_parallels_156 (lv_at hl 3 rfl) ?_
                          refine lv_istore (lv' := [(4, .int (zI (mTn B a i))), (3, .int (zI (sm + 1))), (10, .int (zI (((mTn B b ((oT A B a b i))) - (mTn B a i)) % 12))), (9, .int (zI (mTn B b ((oT A B a b i))))), (8, .int (zI (mTn B a i))), (7, .int (zI ((oT A B a b i)))), (6, .int (zI (i))), (5, .int (zI (lb))), (0, .ref (ad 0)), (1, .int (zI (a))), (2, .int (zI (b)))]) hx hb dX3_parallels_158 hl (by decide) rfl (fun ls hl => ?_)
                          refine lv_iload hx hb dX3_parallels_160 (lv_at hl 3 rfl) ?_
                          refine lv_istore (lv' := [(5, .int (zI (mTn B b ((oT A B a b i))))), (4, .int (zI (mTn B a i))), (3, .int (zI (sm + 1))), (10, .int (zI (((mTn B b ((oT A B a b i))) - (mTn B a i)) % 12))), (9, .int (zI (mTn B b ((oT A B a b i))))), (8, .int (zI (mTn B a i))), (7, .int (zI ((oT A B a b i)))), (6, .int (zI (i))), (0, .ref (ad 0)), (1, .int (zI (a))), (2, .int (zI (b)))]) hx hb dX3_parallels_162 hl (by decide) rfl (fun ls hl => ?_)
                          refine z_iinc (lv' := [(6, .int (zI (i + 1))), (5, .int (zI (mTn B b ((oT A B a b i))))), (4, .int (zI (mTn B a i))), (3, .int (zI (sm + 1))), (10, .int (zI (((mTn B b ((oT A B a b i))) - (mTn B a i)) % 12))), (9, .int (zI (mTn B b ((oT A B a b i))))), (8, .int (zI (mTn B a i))), (7, .int (zI ((oT A B a b i)))), (0, .ref (ad 0)), (1, .int (zI (a))), (2, .int (zI (b)))]) hx hb dX3_parallels_164 hl (k := 7) rfl (by decide) rfl (fun ls hl => ?_)
                          refine lv_goto (tgt := 11) hx hb dX3_parallels_167 (by decide) ?_
                          exact ih (i + 1) (sm + 1) (mTn B a i) (mTn B b ((oT A B a b i))) (by omega) (by omega) (by first | (exfalso; omega) | (rw [hs, h2]; show (if (oT A B a b i) = -1 then (sm, la, lb) else (if ¬ la = -1 ∧ ((mTn B b (oT A B a b i) - mTn B a i) % 12 = 0 ∨ (mTn B b (oT A B a b i) - mTn B a i) % 12 = 7) ∧ (mTn B b (oT A B a b i) - mTn B a i) % 12 = (lb - la) % 12 ∧ ((la < mTn B a i ∧ lb < mTn B b (oT A B a b i)) ∨ (mTn B a i < la ∧ mTn B b (oT A B a b i) < lb)) then sm + 1 else sm, mTn B a i, mTn B b (oT A B a b i))) = _; first | rw [if_pos (by omega)] | (rw [if_neg (by omega)]; first | rw [if_pos (by omega)] | rw [if_neg (by omega)]))) (by omega) (by omega) (by omega) (by omega) _ (lv_sub hl [0, 1, 2, 3, 8, 9, 10] rfl)
                · skip
                  refine lv_iload hx hb dX3_parallels_118 (lv_at hl 0 rfl) ?_
                  refine z_bipush hx hb dX3_parallels_120 (by decide) ?_
                  refine z_icmp_ne (a := ((mTn B b ((oT A B a b i))) - (mTn B a i)) % 12) (b := 7) (tgt := 156) hx hb dX3_parallels_122 (by decide) (by omega) (by omega) (fun h_122 => ?_) (fun h_122 => ?_)
                  · skip
                    refine lv_iload hx hb dX3_parallels_156 (lv_at hl 2 rfl) ?_
                    refine lv_istore (lv' := [(4, .int (zI (mTn B a i))), (10, .int (zI (((mTn B b ((oT A B a b i))) - (mTn B a i)) % 12))), (9, .int (zI (mTn B b ((oT A B a b i))))), (8, .int (zI (mTn B a i))), (7, .int (zI ((oT A B a b i)))), (6, .int (zI (i))), (5, .int (zI (lb))), (3, .int (zI (sm))), (0, .ref (ad 0)), (1, .int (zI (a))), (2, .int (zI (b)))]) hx hb dX3_parallels_158 hl (by decide) rfl (fun ls hl => ?_)
                    refine lv_iload hx hb dX3_parallels_160 (lv_at hl 2 rfl) ?_
                    refine lv_istore (lv' := [(5, .int (zI (mTn B b ((oT A B a b i))))), (4, .int (zI (mTn B a i))), (10, .int (zI (((mTn B b ((oT A B a b i))) - (mTn B a i)) % 12))), (9, .int (zI (mTn B b ((oT A B a b i))))), (8, .int (zI (mTn B a i))), (7, .int (zI ((oT A B a b i)))), (6, .int (zI (i))), (3, .int (zI (sm))), (0, .ref (ad 0)), (1, .int (zI (a))), (2, .int (zI (b)))]) hx hb dX3_parallels_162 hl (by decide) rfl (fun ls hl => ?_)
                    refine z_iinc (lv' := [(6, .int (zI (i + 1))), (5, .int (zI (mTn B b ((oT A B a b i))))), (4, .int (zI (mTn B a i))), (10, .int (zI (((mTn B b ((oT A B a b i))) - (mTn B a i)) % 12))), (9, .int (zI (mTn B b ((oT A B a b i))))), (8, .int (zI (mTn B a i))), (7, .int (zI ((oT A B a b i)))), (3, .int (zI (sm))), (0, .ref (ad 0)), (1, .int (zI (a))), (2, .int (zI (b)))]) hx hb dX3_parallels_164 hl (k := 6) rfl (by decide) rfl (fun ls hl => ?_)
                    refine lv_goto (tgt := 11) hx hb dX3_parallels_167 (by decide) ?_
                    exact ih (i + 1) (sm) (mTn B a i) (mTn B b ((oT A B a b i))) (by omega) (by omega) (by first | (exfalso; omega) | (rw [hs, h2]; show (if (oT A B a b i) = -1 then (sm, la, lb) else (if ¬ la = -1 ∧ ((mTn B b (oT A B a b i) - mTn B a i) % 12 = 0 ∨ (mTn B b (oT A B a b i) - mTn B a i) % 12 = 7) ∧ (mTn B b (oT A B a b i) - mTn B a i) % 12 = (lb - la) % 12 ∧ ((la < mTn B a i ∧ lb < mTn B b (oT A B a b i)) ∨ (mTn B a i < la ∧ mTn B b (oT A B a b i) < lb)) then sm + 1 else sm, mTn B a i, mTn B b (oT A B a b i))) = _; first | rw [if_pos (by omega)] | (rw [if_neg (by omega)]; first | rw [if_pos (by omega)] | rw [if_neg (by omega)]))) (by omega) (by omega) (by omega) (by omega) _ (lv_sub hl [0, 1, 2, 7, 8, 9, 10] rfl)
                  · skip
                    refine lv_iload hx hb dX3_parallels_125 (lv_at hl 2 rfl) ?_
                    refine lv_iload hx hb dX3_parallels_127 (lv_at hl 6 rfl) ?_
                    refine z_icmp_le (a := mTn B a i) (b := la) (tgt := 139) hx hb dX3_parallels_129 (by decide) (by omega) (by omega) (fun h_129 => ?_) (fun h_129 => ?_)
                    · skip
                      refine lv_iload hx hb dX3_parallels_139 (lv_at hl 2 rfl) ?_
                      refine lv_iload hx hb dX3_parallels_141 (lv_at hl 6 rfl) ?_
                      refine z_icmp_ge (a := mTn B a i) (b := la) (tgt := 156) hx hb dX3_parallels_143 (by decide) (by omega) (by omega) (fun h_143 => ?_) (fun h_143 => ?_)
                      · skip
                        refine lv_iload hx hb dX3_parallels_156 (lv_at hl 2 rfl) ?_
                        refine lv_istore (lv' := [(4, .int (zI (mTn B a i))), (10, .int (zI (((mTn B b ((oT A B a b i))) - (mTn B a i)) % 12))), (9, .int (zI (mTn B b ((oT A B a b i))))), (8, .int (zI (mTn B a i))), (7, .int (zI ((oT A B a b i)))), (6, .int (zI (i))), (5, .int (zI (lb))), (3, .int (zI (sm))), (0, .ref (ad 0)), (1, .int (zI (a))), (2, .int (zI (b)))]) hx hb dX3_parallels_158 hl (by decide) rfl (fun ls hl => ?_)
                        refine lv_iload hx hb dX3_parallels_160 (lv_at hl 2 rfl) ?_
                        refine lv_istore (lv' := [(5, .int (zI (mTn B b ((oT A B a b i))))), (4, .int (zI (mTn B a i))), (10, .int (zI (((mTn B b ((oT A B a b i))) - (mTn B a i)) % 12))), (9, .int (zI (mTn B b ((oT A B a b i))))), (8, .int (zI (mTn B a i))), (7, .int (zI ((oT A B a b i)))), (6, .int (zI (i))), (3, .int (zI (sm))), (0, .ref (ad 0)), (1, .int (zI (a))), (2, .int (zI (b)))]) hx hb dX3_parallels_162 hl (by decide) rfl (fun ls hl => ?_)
                        refine z_iinc (lv' := [(6, .int (zI (i + 1))), (5, .int (zI (mTn B b ((oT A B a b i))))), (4, .int (zI (mTn B a i))), (10, .int (zI (((mTn B b ((oT A B a b i))) - (mTn B a i)) % 12))), (9, .int (zI (mTn B b ((oT A B a b i))))), (8, .int (zI (mTn B a i))), (7, .int (zI ((oT A B a b i)))), (3, .int (zI (sm))), (0, .ref (ad 0)), (1, .int (zI (a))), (2, .int (zI (b)))]) hx hb dX3_parallels_164 hl (k := 6) rfl (by decide) rfl (fun ls hl => ?_)
                        refine lv_goto (tgt := 11) hx hb dX3_parallels_167 (by decide) ?_
                        exact ih (i + 1) (sm) (mTn B a i) (mTn B b ((oT A B a b i))) (by omega) (by omega) (by first | (exfalso; omega) | (rw [hs, h2]; show (if (oT A B a b i) = -1 then (sm, la, lb) else (if ¬ la = -1 ∧ ((mTn B b (oT A B a b i) - mTn B a i) % 12 = 0 ∨ (mTn B b (oT A B a b i) - mTn B a i) % 12 = 7) ∧ (mTn B b (oT A B a b i) - mTn B a i) % 12 = (lb - la) % 12 ∧ ((la < mTn B a i ∧ lb < mTn B b (oT A B a b i)) ∨ (mTn B a i < la ∧ mTn B b (oT A B a b i) < lb)) then sm + 1 else sm, mTn B a i, mTn B b (oT A B a b i))) = _; first | rw [if_pos (by omega)] | (rw [if_neg (by omega)]; first | rw [if_pos (by omega)] | rw [if_neg (by omega)]))) (by omega) (by omega) (by omega) (by omega) _ (lv_sub hl [0, 1, 2, 7, 8, 9, 10] rfl)
                      · skip
                        refine lv_iload hx hb dX3_parallels_146 (lv_at hl 1 rfl) ?_
                        refine lv_iload hx hb dX3_parallels_148 (lv_at hl 5 rfl) ?_
                        refine z_icmp_ge (a := mTn B b ((oT A B a b i))) (b := lb) (tgt := 156) hx hb dX3_parallels_150 (by decide) (by omega) (by omega) (fun h_150 => ?_) (fun h_150 => ?_)
                        · skip
                          refine lv_iload hx hb dX3_parallels_156 (lv_at hl 2 rfl) ?_
                          refine lv_istore (lv' := [(4, .int (zI (mTn B a i))), (10, .int (zI (((mTn B b ((oT A B a b i))) - (mTn B a i)) % 12))), (9, .int (zI (mTn B b ((oT A B a b i))))), (8, .int (zI (mTn B a i))), (7, .int (zI ((oT A B a b i)))), (6, .int (zI (i))), (5, .int (zI (lb))), (3, .int (zI (sm))), (0, .ref (ad 0)), (1, .int (zI (a))), (2, .int (zI (b)))]) hx hb dX3_parallels_158 hl (by decide) rfl (fun ls hl => ?_)
                          refine lv_iload hx hb dX3_parallels_160 (lv_at hl 2 rfl) ?_
                          refine lv_istore (lv' := [(5, .int (zI (mTn B b ((oT A B a b i))))), (4, .int (zI (mTn B a i))), (10, .int (zI (((mTn B b ((oT A B a b i))) - (mTn B a i)) % 12))), (9, .int (zI (mTn B b ((oT A B a b i))))), (8, .int (zI (mTn B a i))), (7, .int (zI ((oT A B a b i)))), (6, .int (zI (i))), (3, .int (zI (sm))), (0, .ref (ad 0)), (1, .int (zI (a))), (2, .int (zI (b)))]) hx hb dX3_parallels_162 hl (by decide) rfl (fun ls hl => ?_)
                          refine z_iinc (lv' := [(6, .int (zI (i + 1))), (5, .int (zI (mTn B b ((oT A B a b i))))), (4, .int (zI (mTn B a i))), (10, .int (zI (((mTn B b ((oT A B a b i))) - (mTn B a i)) % 12))), (9, .int (zI (mTn B b ((oT A B a b i))))), (8, .int (zI (mTn B a i))), (7, .int (zI ((oT A B a b i)))), (3, .int (zI (sm))), (0, .ref (ad 0)), (1, .int (zI (a))), (2, .int (zI (b)))]) hx hb dX3_parallels_164 hl (k := 6) rfl (by decide) rfl (fun ls hl => ?_)
                          refine lv_goto (tgt := 11) hx hb dX3_parallels_167 (by decide) ?_
                          exact ih (i + 1) (sm) (mTn B a i) (mTn B b ((oT A B a b i))) (by omega) (by omega) (by first | (exfalso; omega) | (rw [hs, h2]; show (if (oT A B a b i) = -1 then (sm, la, lb) else (if ¬ la = -1 ∧ ((mTn B b (oT A B a b i) - mTn B a i) % 12 = 0 ∨ (mTn B b (oT A B a b i) - mTn B a i) % 12 = 7) ∧ (mTn B b (oT A B a b i) - mTn B a i) % 12 = (lb - la) % 12 ∧ ((la < mTn B a i ∧ lb < mTn B b (oT A B a b i)) ∨ (mTn B a i < la ∧ mTn B b (oT A B a b i) < lb)) then sm + 1 else sm, mTn B a i, mTn B b (oT A B a b i))) = _; first | rw [if_pos (by omega)] | (rw [if_neg (by omega)]; first | rw [if_pos (by omega)] | rw [if_neg (by omega)]))) (by omega) (by omega) (by omega) (by omega) _ (lv_sub hl [0, 1, 2, 7, 8, 9, 10] rfl)
                        · skip
                          refine z_iinc (lv' := [(3, .int (zI (sm + 1))), (10, .int (zI (((mTn B b ((oT A B a b i))) - (mTn B a i)) % 12))), (9, .int (zI (mTn B b ((oT A B a b i))))), (8, .int (zI (mTn B a i))), (7, .int (zI ((oT A B a b i)))), (6, .int (zI (i))), (5, .int (zI (lb))), (4, .int (zI (la))), (0, .ref (ad 0)), (1, .int (zI (a))), (2, .int (zI (b)))]) hx hb dX3_parallels_153 hl (k := 7) rfl (by decide) rfl (fun ls hl => ?_)
                          refine lv_iload hx hb dX3_parallels_156 (lv_at hl 3 rfl) ?_
                          refine lv_istore (lv' := [(4, .int (zI (mTn B a i))), (3, .int (zI (sm + 1))), (10, .int (zI (((mTn B b ((oT A B a b i))) - (mTn B a i)) % 12))), (9, .int (zI (mTn B b ((oT A B a b i))))), (8, .int (zI (mTn B a i))), (7, .int (zI ((oT A B a b i)))), (6, .int (zI (i))), (5, .int (zI (lb))), (0, .ref (ad 0)), (1, .int (zI (a))), (2, .int (zI (b)))]) hx hb dX3_parallels_158 hl (by decide) rfl (fun ls hl => ?_)
                          refine lv_iload hx hb dX3_parallels_160 (lv_at hl 3 rfl) ?_
                          refine lv_istore (lv' := [(5, .int (zI (mTn B b ((oT A B a b i))))), (4, .int (zI (mTn B a i))), (3, .int (zI (sm + 1))), (10, .int (zI (((mTn B b ((oT A B a b i))) - (mTn B a i)) % 12))), (9, .int (zI (mTn B b ((oT A B a b i))))), (8, .int (zI (mTn B a i))), (7, .int (zI ((oT A B a b i)))), (6, .int (zI (i))), (0, .ref (ad 0)), (1, .int (zI (a))), (2, .int (zI (b)))]) hx hb dX3_parallels_162 hl (by decide) rfl (fun ls hl => ?_)
                          refine z_iinc (lv' := [(6, .int (zI (i + 1))), (5, .int (zI (mTn B b ((oT A B a b i))))), (4, .int (zI (mTn B a i))), (3, .int (zI (sm + 1))), (10, .int (zI (((mTn B b ((oT A B a b i))) - (mTn B a i)) % 12))), (9, .int (zI (mTn B b ((oT A B a b i))))), (8, .int (zI (mTn B a i))), (7, .int (zI ((oT A B a b i)))), (0, .ref (ad 0)), (1, .int (zI (a))), (2, .int (zI (b)))]) hx hb dX3_parallels_164 hl (k := 7) rfl (by decide) rfl (fun ls hl => ?_)
                          refine lv_goto (tgt := 11) hx hb dX3_parallels_167 (by decide) ?_
                          exact ih (i + 1) (sm + 1) (mTn B a i) (mTn B b ((oT A B a b i))) (by omega) (by omega) (by first | (exfalso; omega) | (rw [hs, h2]; show (if (oT A B a b i) = -1 then (sm, la, lb) else (if ¬ la = -1 ∧ ((mTn B b (oT A B a b i) - mTn B a i) % 12 = 0 ∨ (mTn B b (oT A B a b i) - mTn B a i) % 12 = 7) ∧ (mTn B b (oT A B a b i) - mTn B a i) % 12 = (lb - la) % 12 ∧ ((la < mTn B a i ∧ lb < mTn B b (oT A B a b i)) ∨ (mTn B a i < la ∧ mTn B b (oT A B a b i) < lb)) then sm + 1 else sm, mTn B a i, mTn B b (oT A B a b i))) = _; first | rw [if_pos (by omega)] | (rw [if_neg (by omega)]; first | rw [if_pos (by omega)] | rw [if_neg (by omega)]))) (by omega) (by omega) (by omega) (by omega) _ (lv_sub hl [0, 1, 2, 3, 8, 9, 10] rfl)
                    · skip
                      refine lv_iload hx hb dX3_parallels_132 (lv_at hl 1 rfl) ?_
                      refine lv_iload hx hb dX3_parallels_134 (lv_at hl 5 rfl) ?_
                      refine z_icmp_gt (a := mTn B b ((oT A B a b i))) (b := lb) (tgt := 153) hx hb dX3_parallels_136 (by decide) (by omega) (by omega) (fun h_136 => ?_) (fun h_136 => ?_)
                      · skip
                        refine z_iinc (lv' := [(3, .int (zI (sm + 1))), (10, .int (zI (((mTn B b ((oT A B a b i))) - (mTn B a i)) % 12))), (9, .int (zI (mTn B b ((oT A B a b i))))), (8, .int (zI (mTn B a i))), (7, .int (zI ((oT A B a b i)))), (6, .int (zI (i))), (5, .int (zI (lb))), (4, .int (zI (la))), (0, .ref (ad 0)), (1, .int (zI (a))), (2, .int (zI (b)))]) hx hb dX3_parallels_153 hl (k := 7) rfl (by decide) rfl (fun ls hl => ?_)
                        refine lv_iload hx hb dX3_parallels_156 (lv_at hl 3 rfl) ?_
                        refine lv_istore (lv' := [(4, .int (zI (mTn B a i))), (3, .int (zI (sm + 1))), (10, .int (zI (((mTn B b ((oT A B a b i))) - (mTn B a i)) % 12))), (9, .int (zI (mTn B b ((oT A B a b i))))), (8, .int (zI (mTn B a i))), (7, .int (zI ((oT A B a b i)))), (6, .int (zI (i))), (5, .int (zI (lb))), (0, .ref (ad 0)), (1, .int (zI (a))), (2, .int (zI (b)))]) hx hb dX3_parallels_158 hl (by decide) rfl (fun ls hl => ?_)
                        refine lv_iload hx hb dX3_parallels_160 (lv_at hl 3 rfl) ?_
                        refine lv_istore (lv' := [(5, .int (zI (mTn B b ((oT A B a b i))))), (4, .int (zI (mTn B a i))), (3, .int (zI (sm + 1))), (10, .int (zI (((mTn B b ((oT A B a b i))) - (mTn B a i)) % 12))), (9, .int (zI (mTn B b ((oT A B a b i))))), (8, .int (zI (mTn B a i))), (7, .int (zI ((oT A B a b i)))), (6, .int (zI (i))), (0, .ref (ad 0)), (1, .int (zI (a))), (2, .int (zI (b)))]) hx hb dX3_parallels_162 hl (by decide) rfl (fun ls hl => ?_)
                        refine z_iinc (lv' := [(6, .int (zI (i + 1))), (5, .int (zI (mTn B b ((oT A B a b i))))), (4, .int (zI (mTn B a i))), (3, .int (zI (sm + 1))), (10, .int (zI (((mTn B b ((oT A B a b i))) - (mTn B a i)) % 12))), (9, .int (zI (mTn B b ((oT A B a b i))))), (8, .int (zI (mTn B a i))), (7, .int (zI ((oT A B a b i)))), (0, .ref (ad 0)), (1, .int (zI (a))), (2, .int (zI (b)))]) hx hb dX3_parallels_164 hl (k := 7) rfl (by decide) rfl (fun ls hl => ?_)
                        refine lv_goto (tgt := 11) hx hb dX3_parallels_167 (by decide) ?_
                        exact ih (i + 1) (sm + 1) (mTn B a i) (mTn B b ((oT A B a b i))) (by omega) (by omega) (by first | (exfalso; omega) | (rw [hs, h2]; show (if (oT A B a b i) = -1 then (sm, la, lb) else (if ¬ la = -1 ∧ ((mTn B b (oT A B a b i) - mTn B a i) % 12 = 0 ∨ (mTn B b (oT A B a b i) - mTn B a i) % 12 = 7) ∧ (mTn B b (oT A B a b i) - mTn B a i) % 12 = (lb - la) % 12 ∧ ((la < mTn B a i ∧ lb < mTn B b (oT A B a b i)) ∨ (mTn B a i < la ∧ mTn B b (oT A B a b i) < lb)) then sm + 1 else sm, mTn B a i, mTn B b (oT A B a b i))) = _; first | rw [if_pos (by omega)] | (rw [if_neg (by omega)]; first | rw [if_pos (by omega)] | rw [if_neg (by omega)]))) (by omega) (by omega) (by omega) (by omega) _ (lv_sub hl [0, 1, 2, 3, 8, 9, 10] rfl)
                      · skip
                        refine lv_iload hx hb dX3_parallels_139 (lv_at hl 2 rfl) ?_
                        refine lv_iload hx hb dX3_parallels_141 (lv_at hl 6 rfl) ?_
                        refine z_icmp_ge (a := mTn B a i) (b := la) (tgt := 156) hx hb dX3_parallels_143 (by decide) (by omega) (by omega) (fun h_143 => ?_) (fun h_143 => ?_)
                        · skip
                          refine lv_iload hx hb dX3_parallels_156 (lv_at hl 2 rfl) ?_
                          refine lv_istore (lv' := [(4, .int (zI (mTn B a i))), (10, .int (zI (((mTn B b ((oT A B a b i))) - (mTn B a i)) % 12))), (9, .int (zI (mTn B b ((oT A B a b i))))), (8, .int (zI (mTn B a i))), (7, .int (zI ((oT A B a b i)))), (6, .int (zI (i))), (5, .int (zI (lb))), (3, .int (zI (sm))), (0, .ref (ad 0)), (1, .int (zI (a))), (2, .int (zI (b)))]) hx hb dX3_parallels_158 hl (by decide) rfl (fun ls hl => ?_)
                          refine lv_iload hx hb dX3_parallels_160 (lv_at hl 2 rfl) ?_
                          refine lv_istore (lv' := [(5, .int (zI (mTn B b ((oT A B a b i))))), (4, .int (zI (mTn B a i))), (10, .int (zI (((mTn B b ((oT A B a b i))) - (mTn B a i)) % 12))), (9, .int (zI (mTn B b ((oT A B a b i))))), (8, .int (zI (mTn B a i))), (7, .int (zI ((oT A B a b i)))), (6, .int (zI (i))), (3, .int (zI (sm))), (0, .ref (ad 0)), (1, .int (zI (a))), (2, .int (zI (b)))]) hx hb dX3_parallels_162 hl (by decide) rfl (fun ls hl => ?_)
                          refine z_iinc (lv' := [(6, .int (zI (i + 1))), (5, .int (zI (mTn B b ((oT A B a b i))))), (4, .int (zI (mTn B a i))), (10, .int (zI (((mTn B b ((oT A B a b i))) - (mTn B a i)) % 12))), (9, .int (zI (mTn B b ((oT A B a b i))))), (8, .int (zI (mTn B a i))), (7, .int (zI ((oT A B a b i)))), (3, .int (zI (sm))), (0, .ref (ad 0)), (1, .int (zI (a))), (2, .int (zI (b)))]) hx hb dX3_parallels_164 hl (k := 6) rfl (by decide) rfl (fun ls hl => ?_)
                          refine lv_goto (tgt := 11) hx hb dX3_parallels_167 (by decide) ?_
                          exact ih (i + 1) (sm) (mTn B a i) (mTn B b ((oT A B a b i))) (by omega) (by omega) (by first | (exfalso; omega) | (rw [hs, h2]; show (if (oT A B a b i) = -1 then (sm, la, lb) else (if ¬ la = -1 ∧ ((mTn B b (oT A B a b i) - mTn B a i) % 12 = 0 ∨ (mTn B b (oT A B a b i) - mTn B a i) % 12 = 7) ∧ (mTn B b (oT A B a b i) - mTn B a i) % 12 = (lb - la) % 12 ∧ ((la < mTn B a i ∧ lb < mTn B b (oT A B a b i)) ∨ (mTn B a i < la ∧ mTn B b (oT A B a b i) < lb)) then sm + 1 else sm, mTn B a i, mTn B b (oT A B a b i))) = _; first | rw [if_pos (by omega)] | (rw [if_neg (by omega)]; first | rw [if_pos (by omega)] | rw [if_neg (by omega)]))) (by omega) (by omega) (by omega) (by omega) _ (lv_sub hl [0, 1, 2, 7, 8, 9, 10] rfl)
                        · skip
                          refine lv_iload hx hb dX3_parallels_146 (lv_at hl 1 rfl) ?_
                          refine lv_iload hx hb dX3_parallels_148 (lv_at hl 5 rfl) ?_
                          refine z_icmp_ge (a := mTn B b ((oT A B a b i))) (b := lb) (tgt := 156) hx hb dX3_parallels_150 (by decide) (by omega) (by omega) (fun h_150 => ?_) (fun h_150 => ?_)
                          · skip
                            refine lv_iload hx hb dX3_parallels_156 (lv_at hl 2 rfl) ?_
                            refine lv_istore (lv' := [(4, .int (zI (mTn B a i))), (10, .int (zI (((mTn B b ((oT A B a b i))) - (mTn B a i)) % 12))), (9, .int (zI (mTn B b ((oT A B a b i))))), (8, .int (zI (mTn B a i))), (7, .int (zI ((oT A B a b i)))), (6, .int (zI (i))), (5, .int (zI (lb))), (3, .int (zI (sm))), (0, .ref (ad 0)), (1, .int (zI (a))), (2, .int (zI (b)))]) hx hb dX3_parallels_158 hl (by decide) rfl (fun ls hl => ?_)
                            refine lv_iload hx hb dX3_parallels_160 (lv_at hl 2 rfl) ?_
                            refine lv_istore (lv' := [(5, .int (zI (mTn B b ((oT A B a b i))))), (4, .int (zI (mTn B a i))), (10, .int (zI (((mTn B b ((oT A B a b i))) - (mTn B a i)) % 12))), (9, .int (zI (mTn B b ((oT A B a b i))))), (8, .int (zI (mTn B a i))), (7, .int (zI ((oT A B a b i)))), (6, .int (zI (i))), (3, .int (zI (sm))), (0, .ref (ad 0)), (1, .int (zI (a))), (2, .int (zI (b)))]) hx hb dX3_parallels_162 hl (by decide) rfl (fun ls hl => ?_)
                            refine z_iinc (lv' := [(6, .int (zI (i + 1))), (5, .int (zI (mTn B b ((oT A B a b i))))), (4, .int (zI (mTn B a i))), (10, .int (zI (((mTn B b ((oT A B a b i))) - (mTn B a i)) % 12))), (9, .int (zI (mTn B b ((oT A B a b i))))), (8, .int (zI (mTn B a i))), (7, .int (zI ((oT A B a b i)))), (3, .int (zI (sm))), (0, .ref (ad 0)), (1, .int (zI (a))), (2, .int (zI (b)))]) hx hb dX3_parallels_164 hl (k := 6) rfl (by decide) rfl (fun ls hl => ?_)
                            refine lv_goto (tgt := 11) hx hb dX3_parallels_167 (by decide) ?_
                            exact ih (i + 1) (sm) (mTn B a i) (mTn B b ((oT A B a b i))) (by omega) (by omega) (by first | (exfalso; omega) | (rw [hs, h2]; show (if (oT A B a b i) = -1 then (sm, la, lb) else (if ¬ la = -1 ∧ ((mTn B b (oT A B a b i) - mTn B a i) % 12 = 0 ∨ (mTn B b (oT A B a b i) - mTn B a i) % 12 = 7) ∧ (mTn B b (oT A B a b i) - mTn B a i) % 12 = (lb - la) % 12 ∧ ((la < mTn B a i ∧ lb < mTn B b (oT A B a b i)) ∨ (mTn B a i < la ∧ mTn B b (oT A B a b i) < lb)) then sm + 1 else sm, mTn B a i, mTn B b (oT A B a b i))) = _; first | rw [if_pos (by omega)] | (rw [if_neg (by omega)]; first | rw [if_pos (by omega)] | rw [if_neg (by omega)]))) (by omega) (by omega) (by omega) (by omega) _ (lv_sub hl [0, 1, 2, 7, 8, 9, 10] rfl)
                          · skip
                            refine z_iinc (lv' := [(3, .int (zI (sm + 1))), (10, .int (zI (((mTn B b ((oT A B a b i))) - (mTn B a i)) % 12))), (9, .int (zI (mTn B b ((oT A B a b i))))), (8, .int (zI (mTn B a i))), (7, .int (zI ((oT A B a b i)))), (6, .int (zI (i))), (5, .int (zI (lb))), (4, .int (zI (la))), (0, .ref (ad 0)), (1, .int (zI (a))), (2, .int (zI (b)))]) hx hb dX3_parallels_153 hl (k := 7) rfl (by decide) rfl (fun ls hl => ?_)
                            refine lv_iload hx hb dX3_parallels_156 (lv_at hl 3 rfl) ?_
                            refine lv_istore (lv' := [(4, .int (zI (mTn B a i))), (3, .int (zI (sm + 1))), (10, .int (zI (((mTn B b ((oT A B a b i))) - (mTn B a i)) % 12))), (9, .int (zI (mTn B b ((oT A B a b i))))), (8, .int (zI (mTn B a i))), (7, .int (zI ((oT A B a b i)))), (6, .int (zI (i))), (5, .int (zI (lb))), (0, .ref (ad 0)), (1, .int (zI (a))), (2, .int (zI (b)))]) hx hb dX3_parallels_158 hl (by decide) rfl (fun ls hl => ?_)
                            refine lv_iload hx hb dX3_parallels_160 (lv_at hl 3 rfl) ?_
                            refine lv_istore (lv' := [(5, .int (zI (mTn B b ((oT A B a b i))))), (4, .int (zI (mTn B a i))), (3, .int (zI (sm + 1))), (10, .int (zI (((mTn B b ((oT A B a b i))) - (mTn B a i)) % 12))), (9, .int (zI (mTn B b ((oT A B a b i))))), (8, .int (zI (mTn B a i))), (7, .int (zI ((oT A B a b i)))), (6, .int (zI (i))), (0, .ref (ad 0)), (1, .int (zI (a))), (2, .int (zI (b)))]) hx hb dX3_parallels_162 hl (by decide) rfl (fun ls hl => ?_)
                            refine z_iinc (lv' := [(6, .int (zI (i + 1))), (5, .int (zI (mTn B b ((oT A B a b i))))), (4, .int (zI (mTn B a i))), (3, .int (zI (sm + 1))), (10, .int (zI (((mTn B b ((oT A B a b i))) - (mTn B a i)) % 12))), (9, .int (zI (mTn B b ((oT A B a b i))))), (8, .int (zI (mTn B a i))), (7, .int (zI ((oT A B a b i)))), (0, .ref (ad 0)), (1, .int (zI (a))), (2, .int (zI (b)))]) hx hb dX3_parallels_164 hl (k := 7) rfl (by decide) rfl (fun ls hl => ?_)
                            refine lv_goto (tgt := 11) hx hb dX3_parallels_167 (by decide) ?_
                            exact ih (i + 1) (sm + 1) (mTn B a i) (mTn B b ((oT A B a b i))) (by omega) (by omega) (by first | (exfalso; omega) | (rw [hs, h2]; show (if (oT A B a b i) = -1 then (sm, la, lb) else (if ¬ la = -1 ∧ ((mTn B b (oT A B a b i) - mTn B a i) % 12 = 0 ∨ (mTn B b (oT A B a b i) - mTn B a i) % 12 = 7) ∧ (mTn B b (oT A B a b i) - mTn B a i) % 12 = (lb - la) % 12 ∧ ((la < mTn B a i ∧ lb < mTn B b (oT A B a b i)) ∨ (mTn B a i < la ∧ mTn B b (oT A B a b i) < lb)) then sm + 1 else sm, mTn B a i, mTn B b (oT A B a b i))) = _; first | rw [if_pos (by omega)] | (rw [if_neg (by omega)]; first | rw [if_pos (by omega)] | rw [if_neg (by omega)]))) (by omega) (by omega) (by omega) (by omega) _ (lv_sub hl [0, 1, 2, 3, 8, 9, 10] rfl)
          · skip
            refine lv_goto (tgt := 164) hx hb dX3_parallels_59 (by decide) ?_
            refine z_iinc (lv' := [(6, .int (zI (i + 1))), (7, .int (zI ((oT A B a b i)))), (5, .int (zI (lb))), (4, .int (zI (la))), (3, .int (zI (sm))), (0, .ref (ad 0)), (1, .int (zI (a))), (2, .int (zI (b)))]) hx hb dX3_parallels_164 hl (k := 1) rfl (by decide) rfl (fun ls hl => ?_)
            refine lv_goto (tgt := 11) hx hb dX3_parallels_167 (by decide) ?_
            exact ih (i + 1) (sm) (la) (lb) (by omega) (by omega) (by first | (exfalso; omega) | (rw [hs, h2]; show (if (oT A B a b i) = -1 then (sm, la, lb) else (if ¬ la = -1 ∧ ((mTn B b (oT A B a b i) - mTn B a i) % 12 = 0 ∨ (mTn B b (oT A B a b i) - mTn B a i) % 12 = 7) ∧ (mTn B b (oT A B a b i) - mTn B a i) % 12 = (lb - la) % 12 ∧ ((la < mTn B a i ∧ lb < mTn B b (oT A B a b i)) ∨ (mTn B a i < la ∧ mTn B b (oT A B a b i) < lb)) then sm + 1 else sm, mTn B a i, mTn B b (oT A B a b i))) = _; first | rw [if_pos (by omega)] | (rw [if_neg (by omega)]; first | rw [if_pos (by omega)] | rw [if_neg (by omega)]))) (by omega) (by omega) (by omega) (by omega) _ (lv_sub hl [0, 2, 3, 4, 5, 6, 7] rfl)
        · skip
          have ho : (oT A B a b i) = -1 := if_pos (by omega)
          refine z_iconst hx hb dX3_parallels_33 ?_
          rw [← ho]
          refine lv_goto (tgt := 51) hx hb dX3_parallels_34 (by decide) ?_
          refine lv_istore (lv' := [(7, .int (zI ((oT A B a b i)))), (6, .int (zI (i))), (5, .int (zI (lb))), (4, .int (zI (la))), (3, .int (zI (sm))), (0, .ref (ad 0)), (1, .int (zI (a))), (2, .int (zI (b)))]) hx hb dX3_parallels_51 hl (by decide) rfl (fun ls hl => ?_)
          refine lv_iload hx hb dX3_parallels_53 (lv_at hl 0 rfl) ?_
          refine z_iconst hx hb dX3_parallels_55 ?_
          refine z_icmp_ne (a := (oT A B a b i)) (b := -1) (tgt := 62) hx hb dX3_parallels_56 (by decide) (by omega) (by omega) (fun h_56 => ?_) (fun h_56 => ?_)
          · skip
            have hob := mTn_rng hVM hVb (e := (oT A B a b i)) (by omega)
            refine lv_aload_n hx hb dX3_parallels_62 rfl (lv_at hl 5 rfl) ?_
            refine lv_iload_n hx hb dX3_parallels_63 rfl (lv_at hl 6 rfl) ?_
            refine lv_iload hx hb dX3_parallels_64 (lv_at hl 1 rfl) ?_
            refine k_R (c_VR (As := [.int (zI (a)), .int (zI (i))]) (rest := []) ⟨hx, hb, hml, hown, hts⟩ hG hS hA (c_X3_tone l G ad F A B a i hVa (by omega) hVM) ⟨q_ml_RX3_133, q_im_X3_tone, q_sel_X3_tone, q_ini_RX3, q_code_X3_tone⟩ hv_X3_tone (MP.rec hK hP) hP ⟨by decide, by decide⟩ ⟨Nat.zero_le _, Nat.zero_le _⟩ rfl hl.1 rfl (Nat.le_of_ble_eq_true rfl) dX3_parallels_66) ?_
            refine lv_istore (lv' := [(8, .int (zI (mTn B a i))), (7, .int (zI ((oT A B a b i)))), (6, .int (zI (i))), (5, .int (zI (lb))), (4, .int (zI (la))), (3, .int (zI (sm))), (0, .ref (ad 0)), (1, .int (zI (a))), (2, .int (zI (b)))]) hx hb dX3_parallels_69 hl (by decide) rfl (fun ls hl => ?_)
            refine lv_aload_n hx hb dX3_parallels_71 rfl (lv_at hl 6 rfl) ?_
            refine lv_iload_n hx hb dX3_parallels_72 rfl (lv_at hl 8 rfl) ?_
            refine lv_iload hx hb dX3_parallels_73 (lv_at hl 1 rfl) ?_
            refine k_R (c_VR (As := [.int (zI (b)), .int (zI ((oT A B a b i)))]) (rest := []) ⟨hx, hb, hml, hown, hts⟩ hG hS hA (c_X3_tone l G ad F A B b ((oT A B a b i)) hVb (by omega) hVM) ⟨q_ml_RX3_133, q_im_X3_tone, q_sel_X3_tone, q_ini_RX3, q_code_X3_tone⟩ hv_X3_tone (MP.rec hK hP) hP ⟨by decide, by decide⟩ ⟨Nat.zero_le _, Nat.zero_le _⟩ rfl hl.1 rfl (Nat.le_of_ble_eq_true rfl) dX3_parallels_75) ?_
            refine lv_istore (lv' := [(9, .int (zI (mTn B b ((oT A B a b i))))), (8, .int (zI (mTn B a i))), (7, .int (zI ((oT A B a b i)))), (6, .int (zI (i))), (5, .int (zI (lb))), (4, .int (zI (la))), (3, .int (zI (sm))), (0, .ref (ad 0)), (1, .int (zI (a))), (2, .int (zI (b)))]) hx hb dX3_parallels_78 hl (by decide) rfl (fun ls hl => ?_)
            refine lv_iload hx hb dX3_parallels_80 (lv_at hl 0 rfl) ?_
            refine lv_iload hx hb dX3_parallels_82 (lv_at hl 1 rfl) ?_
            refine z_isub (x := mTn B b ((oT A B a b i))) (y := mTn B a i) hx hb dX3_parallels_84 ?_
            refine z_bipush hx hb dX3_parallels_85 (by decide) ?_
            refine k_R (c_SR (As := [.int (zI ((mTn B b ((oT A B a b i))) - (mTn B a i))), .int (zI (12))]) (rest := []) ⟨hx, hb, hml, hown, hts⟩ hG hS hA (c_J9_floorMod_7cf53 l G ((mTn B b ((oT A B a b i))) - (mTn B a i)) 12 (by omega) (by first | exact Or.inl rfl | exact Or.inr rfl)) ⟨q_ml_RX3_160, q_st_J9_floorMod_7cf53, q_ini_RJ9, q_code_J9_floorMod_7cf53⟩ hs_J9_floorMod_7cf53 trivial ⟨by decide, by decide⟩ ⟨Nat.zero_le _, Nat.zero_le _⟩ rfl hl.1 rfl (Nat.le_of_ble_eq_true rfl) dX3_parallels_87) ?_
            refine lv_istore (lv' := [(10, .int (zI (((mTn B b ((oT A B a b i))) - (mTn B a i)) % 12))), (9, .int (zI (mTn B b ((oT A B a b i))))), (8, .int (zI (mTn B a i))), (7, .int (zI ((oT A B a b i)))), (6, .int (zI (i))), (5, .int (zI (lb))), (4, .int (zI (la))), (3, .int (zI (sm))), (0, .ref (ad 0)), (1, .int (zI (a))), (2, .int (zI (b)))]) hx hb dX3_parallels_90 hl (by decide) rfl (fun ls hl => ?_)
            refine lv_iload hx hb dX3_parallels_92 (lv_at hl 6 rfl) ?_
            refine z_iconst hx hb dX3_parallels_94 ?_
            refine z_icmp_eq (a := la) (b := -1) (tgt := 156) hx hb dX3_parallels_95 (by decide) (by omega) (by omega) (fun h_95 => ?_) (fun h_95 => ?_)
            · skip
              refine lv_iload hx hb dX3_parallels_156 (lv_at hl 2 rfl) ?_
              refine lv_istore (lv' := [(4, .int (zI (mTn B a i))), (10, .int (zI (((mTn B b ((oT A B a b i))) - (mTn B a i)) % 12))), (9, .int (zI (mTn B b ((oT A B a b i))))), (8, .int (zI (mTn B a i))), (7, .int (zI ((oT A B a b i)))), (6, .int (zI (i))), (5, .int (zI (lb))), (3, .int (zI (sm))), (0, .ref (ad 0)), (1, .int (zI (a))), (2, .int (zI (b)))]) hx hb dX3_parallels_158 hl (by decide) rfl (fun ls hl => ?_)
              refine lv_iload hx hb dX3_parallels_160 (lv_at hl 2 rfl) ?_
              refine lv_istore (lv' := [(5, .int (zI (mTn B b ((oT A B a b i))))), (4, .int (zI (mTn B a i))), (10, .int (zI (((mTn B b ((oT A B a b i))) - (mTn B a i)) % 12))), (9, .int (zI (mTn B b ((oT A B a b i))))), (8, .int (zI (mTn B a i))), (7, .int (zI ((oT A B a b i)))), (6, .int (zI (i))), (3, .int (zI (sm))), (0, .ref (ad 0)), (1, .int (zI (a))), (2, .int (zI (b)))]) hx hb dX3_parallels_162 hl (by decide) rfl (fun ls hl => ?_)
              refine z_iinc (lv' := [(6, .int (zI (i + 1))), (5, .int (zI (mTn B b ((oT A B a b i))))), (4, .int (zI (mTn B a i))), (10, .int (zI (((mTn B b ((oT A B a b i))) - (mTn B a i)) % 12))), (9, .int (zI (mTn B b ((oT A B a b i))))), (8, .int (zI (mTn B a i))), (7, .int (zI ((oT A B a b i)))), (3, .int (zI (sm))), (0, .ref (ad 0)), (1, .int (zI (a))), (2, .int (zI (b)))]) hx hb dX3_parallels_164 hl (k := 6) rfl (by decide) rfl (fun ls hl => ?_)
              refine lv_goto (tgt := 11) hx hb dX3_parallels_167 (by decide) ?_
              exact ih (i + 1) (sm) (mTn B a i) (mTn B b ((oT A B a b i))) (by omega) (by omega) (by first | (exfalso; omega) | (rw [hs, h2]; show (if (oT A B a b i) = -1 then (sm, la, lb) else (if ¬ la = -1 ∧ ((mTn B b (oT A B a b i) - mTn B a i) % 12 = 0 ∨ (mTn B b (oT A B a b i) - mTn B a i) % 12 = 7) ∧ (mTn B b (oT A B a b i) - mTn B a i) % 12 = (lb - la) % 12 ∧ ((la < mTn B a i ∧ lb < mTn B b (oT A B a b i)) ∨ (mTn B a i < la ∧ mTn B b (oT A B a b i) < lb)) then sm + 1 else sm, mTn B a i, mTn B b (oT A B a b i))) = _; first | rw [if_pos (by omega)] | (rw [if_neg (by omega)]; first | rw [if_pos (by omega)] | rw [if_neg (by omega)]))) (by omega) (by omega) (by omega) (by omega) _ (lv_sub hl [0, 1, 2, 7, 8, 9, 10] rfl)
            · skip
              refine lv_iload hx hb dX3_parallels_98 (lv_at hl 0 rfl) ?_
              refine lv_iload hx hb dX3_parallels_100 (lv_at hl 5 rfl) ?_
              refine lv_iload hx hb dX3_parallels_102 (lv_at hl 6 rfl) ?_
              refine z_isub (x := lb) (y := la) hx hb dX3_parallels_104 ?_
              refine z_bipush hx hb dX3_parallels_105 (by decide) ?_
              refine k_R (c_SR (As := [.int (zI ((lb) - (la))), .int (zI (12))]) (rest := [.int (zI (((mTn B b ((oT A B a b i))) - (mTn B a i)) % 12))]) ⟨hx, hb, hml, hown, hts⟩ hG hS hA (c_J9_floorMod_7cf53 l G ((lb) - (la)) 12 (by omega) (by first | exact Or.inl rfl | exact Or.inr rfl)) ⟨q_ml_RX3_160, q_st_J9_floorMod_7cf53, q_ini_RJ9, q_code_J9_floorMod_7cf53⟩ hs_J9_floorMod_7cf53 trivial ⟨by decide, by decide⟩ ⟨Nat.zero_le _, Nat.zero_le _⟩ rfl hl.1 rfl (Nat.le_of_ble_eq_true rfl) dX3_parallels_107) ?_
              refine z_icmp_ne (a := ((mTn B b ((oT A B a b i))) - (mTn B a i)) % 12) (b := ((lb) - (la)) % 12) (tgt := 156) hx hb dX3_parallels_110 (by decide) (by omega) (by omega) (fun h_110 => ?_) (fun h_110 => ?_)
              · skip
                refine lv_iload hx hb dX3_parallels_156 (lv_at hl 2 rfl) ?_
                refine lv_istore (lv' := [(4, .int (zI (mTn B a i))), (10, .int (zI (((mTn B b ((oT A B a b i))) - (mTn B a i)) % 12))), (9, .int (zI (mTn B b ((oT A B a b i))))), (8, .int (zI (mTn B a i))), (7, .int (zI ((oT A B a b i)))), (6, .int (zI (i))), (5, .int (zI (lb))), (3, .int (zI (sm))), (0, .ref (ad 0)), (1, .int (zI (a))), (2, .int (zI (b)))]) hx hb dX3_parallels_158 hl (by decide) rfl (fun ls hl => ?_)
                refine lv_iload hx hb dX3_parallels_160 (lv_at hl 2 rfl) ?_
                refine lv_istore (lv' := [(5, .int (zI (mTn B b ((oT A B a b i))))), (4, .int (zI (mTn B a i))), (10, .int (zI (((mTn B b ((oT A B a b i))) - (mTn B a i)) % 12))), (9, .int (zI (mTn B b ((oT A B a b i))))), (8, .int (zI (mTn B a i))), (7, .int (zI ((oT A B a b i)))), (6, .int (zI (i))), (3, .int (zI (sm))), (0, .ref (ad 0)), (1, .int (zI (a))), (2, .int (zI (b)))]) hx hb dX3_parallels_162 hl (by decide) rfl (fun ls hl => ?_)
                refine z_iinc (lv' := [(6, .int (zI (i + 1))), (5, .int (zI (mTn B b ((oT A B a b i))))), (4, .int (zI (mTn B a i))), (10, .int (zI (((mTn B b ((oT A B a b i))) - (mTn B a i)) % 12))), (9, .int (zI (mTn B b ((oT A B a b i))))), (8, .int (zI (mTn B a i))), (7, .int (zI ((oT A B a b i)))), (3, .int (zI (sm))), (0, .ref (ad 0)), (1, .int (zI (a))), (2, .int (zI (b)))]) hx hb dX3_parallels_164 hl (k := 6) rfl (by decide) rfl (fun ls hl => ?_)
                refine lv_goto (tgt := 11) hx hb dX3_parallels_167 (by decide) ?_
                exact ih (i + 1) (sm) (mTn B a i) (mTn B b ((oT A B a b i))) (by omega) (by omega) (by first | (exfalso; omega) | (rw [hs, h2]; show (if (oT A B a b i) = -1 then (sm, la, lb) else (if ¬ la = -1 ∧ ((mTn B b (oT A B a b i) - mTn B a i) % 12 = 0 ∨ (mTn B b (oT A B a b i) - mTn B a i) % 12 = 7) ∧ (mTn B b (oT A B a b i) - mTn B a i) % 12 = (lb - la) % 12 ∧ ((la < mTn B a i ∧ lb < mTn B b (oT A B a b i)) ∨ (mTn B a i < la ∧ mTn B b (oT A B a b i) < lb)) then sm + 1 else sm, mTn B a i, mTn B b (oT A B a b i))) = _; first | rw [if_pos (by omega)] | (rw [if_neg (by omega)]; first | rw [if_pos (by omega)] | rw [if_neg (by omega)]))) (by omega) (by omega) (by omega) (by omega) _ (lv_sub hl [0, 1, 2, 7, 8, 9, 10] rfl)
              · skip
                refine lv_iload hx hb dX3_parallels_113 (lv_at hl 0 rfl) ?_
                refine z_if_eq (a := ((mTn B b ((oT A B a b i))) - (mTn B a i)) % 12) (tgt := 125) hx hb dX3_parallels_115 (by decide) (by omega) (fun h_115 => ?_) (fun h_115 => ?_)
                · skip
                  refine lv_iload hx hb dX3_parallels_125 (lv_at hl 2 rfl) ?_
                  refine lv_iload hx hb dX3_parallels_127 (lv_at hl 6 rfl) ?_
                  refine z_icmp_le (a := mTn B a i) (b := la) (tgt := 139) hx hb dX3_parallels_129 (by decide) (by omega) (by omega) (fun h_129 => ?_) (fun h_129 => ?_)
                  · skip
                    refine lv_iload hx hb dX3_parallels_139 (lv_at hl 2 rfl) ?_
                    refine lv_iload hx hb dX3_parallels_141 (lv_at hl 6 rfl) ?_
                    refine z_icmp_ge (a := mTn B a i) (b := la) (tgt := 156) hx hb dX3_parallels_143 (by decide) (by omega) (by omega) (fun h_143 => ?_) (fun h_143 => ?_)
                    · skip
                      refine lv_iload hx hb dX3_parallels_156 (lv_at hl 2 rfl) ?_
                      refine lv_istore (lv' := [(4, .int (zI (mTn B a i))), (10, .int (zI (((mTn B b ((oT A B a b i))) - (mTn B a i)) % 12))), (9, .int (zI (mTn B b ((oT A B a b i))))), (8, .int (zI (mTn B a i))), (7, .int (zI ((oT A B a b i)))), (6, .int (zI (i))), (5, .int (zI (lb))), (3, .int (zI (sm))), (0, .ref (ad 0)), (1, .int (zI (a))), (2, .int (zI (b)))]) hx hb dX3_parallels_158 hl (by decide) rfl (fun ls hl => ?_)
                      refine lv_iload hx hb dX3_parallels_160 (lv_at hl 2 rfl) ?_
                      refine lv_istore (lv' := [(5, .int (zI (mTn B b ((oT A B a b i))))), (4, .int (zI (mTn B a i))), (10, .int (zI (((mTn B b ((oT A B a b i))) - (mTn B a i)) % 12))), (9, .int (zI (mTn B b ((oT A B a b i))))), (8, .int (zI (mTn B a i))), (7, .int (zI ((oT A B a b i)))), (6, .int (zI (i))), (3, .int (zI (sm))), (0, .ref (ad 0)), (1, .int (zI (a))), (2, .int (zI (b)))]) hx hb dX3_parallels_162 hl (by decide) rfl (fun ls hl => ?_)
                      refine z_iinc (lv' := [(6, .int (zI (i + 1))), (5, .int (zI (mTn B b ((oT A B a b i))))), (4, .int (zI (mTn B a i))), (10, .int (zI (((mTn B b ((oT A B a b i))) - (mTn B a i)) % 12))), (9, .int (zI (mTn B b ((oT A B a b i))))), (8, .int (zI (mTn B a i))), (7, .int (zI ((oT A B a b i)))), (3, .int (zI (sm))), (0, .ref (ad 0)), (1, .int (zI (a))), (2, .int (zI (b)))]) hx hb dX3_parallels_164 hl (k := 6) rfl (by decide) rfl (fun ls hl => ?_)
                      refine lv_goto (tgt := 11) hx hb dX3_parallels_167 (by decide) ?_
                      exact ih (i + 1) (sm) (mTn B a i) (mTn B b ((oT A B a b i))) (by omega) (by omega) (by first | (exfalso; omega) | (rw [hs, h2]; show (if (oT A B a b i) = -1 then (sm, la, lb) else (if ¬ la = -1 ∧ ((mTn B b (oT A B a b i) - mTn B a i) % 12 = 0 ∨ (mTn B b (oT A B a b i) - mTn B a i) % 12 = 7) ∧ (mTn B b (oT A B a b i) - mTn B a i) % 12 = (lb - la) % 12 ∧ ((la < mTn B a i ∧ lb < mTn B b (oT A B a b i)) ∨ (mTn B a i < la ∧ mTn B b (oT A B a b i) < lb)) then sm + 1 else sm, mTn B a i, mTn B b (oT A B a b i))) = _; first | rw [if_pos (by omega)] | (rw [if_neg (by omega)]; first | rw [if_pos (by omega)] | rw [if_neg (by omega)]))) (by omega) (by omega) (by omega) (by omega) _ (lv_sub hl [0, 1, 2, 7, 8, 9, 10] rfl)
                    · skip
                      refine lv_iload hx hb dX3_parallels_146 (lv_at hl 1 rfl) ?_
                      refine lv_iload hx hb dX3_parallels_148 (lv_at hl 5 rfl) ?_
                      refine z_icmp_ge (a := mTn B b ((oT A B a b i))) (b := lb) (tgt := 156) hx hb dX3_parallels_150 (by decide) (by omega) (by omega) (fun h_150 => ?_) (fun h_150 => ?_)
                      · skip
                        refine lv_iload hx hb dX3_parallels_156 (lv_at hl 2 rfl) ?_
                        refine lv_istore (lv' := [(4, .int (zI (mTn B a i))), (10, .int (zI (((mTn B b ((oT A B a b i))) - (mTn B a i)) % 12))), (9, .int (zI (mTn B b ((oT A B a b i))))), (8, .int (zI (mTn B a i))), (7, .int (zI ((oT A B a b i)))), (6, .int (zI (i))), (5, .int (zI (lb))), (3, .int (zI (sm))), (0, .ref (ad 0)), (1, .int (zI (a))), (2, .int (zI (b)))]) hx hb dX3_parallels_158 hl (by decide) rfl (fun ls hl => ?_)
                        refine lv_iload hx hb dX3_parallels_160 (lv_at hl 2 rfl) ?_
                        refine lv_istore (lv' := [(5, .int (zI (mTn B b ((oT A B a b i))))), (4, .int (zI (mTn B a i))), (10, .int (zI (((mTn B b ((oT A B a b i))) - (mTn B a i)) % 12))), (9, .int (zI (mTn B b ((oT A B a b i))))), (8, .int (zI (mTn B a i))), (7, .int (zI ((oT A B a b i)))), (6, .int (zI (i))), (3, .int (zI (sm))), (0, .ref (ad 0)), (1, .int (zI (a))), (2, .int (zI (b)))]) hx hb dX3_parallels_162 hl (by decide) rfl (fun ls hl => ?_)
                        refine z_iinc (lv' := [(6, .int (zI (i + 1))), (5, .int (zI (mTn B b ((oT A B a b i))))), (4, .int (zI (mTn B a i))), (10, .int (zI (((mTn B b ((oT A B a b i))) - (mTn B a i)) % 12))), (9, .int (zI (mTn B b ((oT A B a b i))))), (8, .int (zI (mTn B a i))), (7, .int (zI ((oT A B a b i)))), (3, .int (zI (sm))), (0, .ref (ad 0)), (1, .int (zI (a))), (2, .int (zI (b)))]) hx hb dX3_parallels_164 hl (k := 6) rfl (by decide) rfl (fun ls hl => ?_)
                        refine lv_goto (tgt := 11) hx hb dX3_parallels_167 (by decide) ?_
                        exact ih (i + 1) (sm) (mTn B a i) (mTn B b ((oT A B a b i))) (by omega) (by omega) (by first | (exfalso; omega) | (rw [hs, h2]; show (if (oT A B a b i) = -1 then (sm, la, lb) else (if ¬ la = -1 ∧ ((mTn B b (oT A B a b i) - mTn B a i) % 12 = 0 ∨ (mTn B b (oT A B a b i) - mTn B a i) % 12 = 7) ∧ (mTn B b (oT A B a b i) - mTn B a i) % 12 = (lb - la) % 12 ∧ ((la < mTn B a i ∧ lb < mTn B b (oT A B a b i)) ∨ (mTn B a i < la ∧ mTn B b (oT A B a b i) < lb)) then sm + 1 else sm, mTn B a i, mTn B b (oT A B a b i))) = _; first | rw [if_pos (by omega)] | (rw [if_neg (by omega)]; first | rw [if_pos (by omega)] | rw [if_neg (by omega)]))) (by omega) (by omega) (by omega) (by omega) _ (lv_sub hl [0, 1, 2, 7, 8, 9, 10] rfl)
                      · skip
                        refine z_iinc (lv' := [(3, .int (zI (sm + 1))), (10, .int (zI (((mTn B b ((oT A B a b i))) - (mTn B a i)) % 12))), (9, .int (zI (mTn B b ((oT A B a b i))))), (8, .int (zI (mTn B a i))), (7, .int (zI ((oT A B a b i)))), (6, .int (zI (i))), (5, .int (zI (lb))), (4, .int (zI (la))), (0, .ref (ad 0)), (1, .int (zI (a))), (2, .int (zI (b)))]) hx hb dX3_parallels_153 hl (k := 7) rfl (by decide) rfl (fun ls hl => ?_)
                        refine lv_iload hx hb dX3_parallels_156 (lv_at hl 3 rfl) ?_
                        refine lv_istore (lv' := [(4, .int (zI (mTn B a i))), (3, .int (zI (sm + 1))), (10, .int (zI (((mTn B b ((oT A B a b i))) - (mTn B a i)) % 12))), (9, .int (zI (mTn B b ((oT A B a b i))))), (8, .int (zI (mTn B a i))), (7, .int (zI ((oT A B a b i)))), (6, .int (zI (i))), (5, .int (zI (lb))), (0, .ref (ad 0)), (1, .int (zI (a))), (2, .int (zI (b)))]) hx hb dX3_parallels_158 hl (by decide) rfl (fun ls hl => ?_)
                        refine lv_iload hx hb dX3_parallels_160 (lv_at hl 3 rfl) ?_
                        refine lv_istore (lv' := [(5, .int (zI (mTn B b ((oT A B a b i))))), (4, .int (zI (mTn B a i))), (3, .int (zI (sm + 1))), (10, .int (zI (((mTn B b ((oT A B a b i))) - (mTn B a i)) % 12))), (9, .int (zI (mTn B b ((oT A B a b i))))), (8, .int (zI (mTn B a i))), (7, .int (zI ((oT A B a b i)))), (6, .int (zI (i))), (0, .ref (ad 0)), (1, .int (zI (a))), (2, .int (zI (b)))]) hx hb dX3_parallels_162 hl (by decide) rfl (fun ls hl => ?_)
                        refine z_iinc (lv' := [(6, .int (zI (i + 1))), (5, .int (zI (mTn B b ((oT A B a b i))))), (4, .int (zI (mTn B a i))), (3, .int (zI (sm + 1))), (10, .int (zI (((mTn B b ((oT A B a b i))) - (mTn B a i)) % 12))), (9, .int (zI (mTn B b ((oT A B a b i))))), (8, .int (zI (mTn B a i))), (7, .int (zI ((oT A B a b i)))), (0, .ref (ad 0)), (1, .int (zI (a))), (2, .int (zI (b)))]) hx hb dX3_parallels_164 hl (k := 7) rfl (by decide) rfl (fun ls hl => ?_)
                        refine lv_goto (tgt := 11) hx hb dX3_parallels_167 (by decide) ?_
                        exact ih (i + 1) (sm + 1) (mTn B a i) (mTn B b ((oT A B a b i))) (by omega) (by omega) (by first | (exfalso; omega) | (rw [hs, h2]; show (if (oT A B a b i) = -1 then (sm, la, lb) else (if ¬ la = -1 ∧ ((mTn B b (oT A B a b i) - mTn B a i) % 12 = 0 ∨ (mTn B b (oT A B a b i) - mTn B a i) % 12 = 7) ∧ (mTn B b (oT A B a b i) - mTn B a i) % 12 = (lb - la) % 12 ∧ ((la < mTn B a i ∧ lb < mTn B b (oT A B a b i)) ∨ (mTn B a i < la ∧ mTn B b (oT A B a b i) < lb)) then sm + 1 else sm, mTn B a i, mTn B b (oT A B a b i))) = _; first | rw [if_pos (by omega)] | (rw [if_neg (by omega)]; first | rw [if_pos (by omega)] | rw [if_neg (by omega)]))) (by omega) (by omega) (by omega) (by omega) _ (lv_sub hl [0, 1, 2, 3, 8, 9, 10] rfl)
                  · skip
                    refine lv_iload hx hb dX3_parallels_132 (lv_at hl 1 rfl) ?_
                    refine lv_iload hx hb dX3_parallels_134 (lv_at hl 5 rfl) ?_
                    refine z_icmp_gt (a := mTn B b ((oT A B a b i))) (b := lb) (tgt := 153) hx hb dX3_parallels_136 (by decide) (by omega) (by omega) (fun h_136 => ?_) (fun h_136 => ?_)
                    · skip
                      refine z_iinc (lv' := [(3, .int (zI (sm + 1))), (10, .int (zI (((mTn B b ((oT A B a b i))) - (mTn B a i)) % 12))), (9, .int (zI (mTn B b ((oT A B a b i))))), (8, .int (zI (mTn B a i))), (7, .int (zI ((oT A B a b i)))), (6, .int (zI (i))), (5, .int (zI (lb))), (4, .int (zI (la))), (0, .ref (ad 0)), (1, .int (zI (a))), (2, .int (zI (b)))]) hx hb dX3_parallels_153 hl (k := 7) rfl (by decide) rfl (fun ls hl => ?_)
                      refine lv_iload hx hb dX3_parallels_156 (lv_at hl 3 rfl) ?_
                      refine lv_istore (lv' := [(4, .int (zI (mTn B a i))), (3, .int (zI (sm + 1))), (10, .int (zI (((mTn B b ((oT A B a b i))) - (mTn B a i)) % 12))), (9, .int (zI (mTn B b ((oT A B a b i))))), (8, .int (zI (mTn B a i))), (7, .int (zI ((oT A B a b i)))), (6, .int (zI (i))), (5, .int (zI (lb))), (0, .ref (ad 0)), (1, .int (zI (a))), (2, .int (zI (b)))]) hx hb dX3_parallels_158 hl (by decide) rfl (fun ls hl => ?_)
                      refine lv_iload hx hb dX3_parallels_160 (lv_at hl 3 rfl) ?_
                      refine lv_istore (lv' := [(5, .int (zI (mTn B b ((oT A B a b i))))), (4, .int (zI (mTn B a i))), (3, .int (zI (sm + 1))), (10, .int (zI (((mTn B b ((oT A B a b i))) - (mTn B a i)) % 12))), (9, .int (zI (mTn B b ((oT A B a b i))))), (8, .int (zI (mTn B a i))), (7, .int (zI ((oT A B a b i)))), (6, .int (zI (i))), (0, .ref (ad 0)), (1, .int (zI (a))), (2, .int (zI (b)))]) hx hb dX3_parallels_162 hl (by decide) rfl (fun ls hl => ?_)
                      refine z_iinc (lv' := [(6, .int (zI (i + 1))), (5, .int (zI (mTn B b ((oT A B a b i))))), (4, .int (zI (mTn B a i))), (3, .int (zI (sm + 1))), (10, .int (zI (((mTn B b ((oT A B a b i))) - (mTn B a i)) % 12))), (9, .int (zI (mTn B b ((oT A B a b i))))), (8, .int (zI (mTn B a i))), (7, .int (zI ((oT A B a b i)))), (0, .ref (ad 0)), (1, .int (zI (a))), (2, .int (zI (b)))]) hx hb dX3_parallels_164 hl (k := 7) rfl (by decide) rfl (fun ls hl => ?_)
                      refine lv_goto (tgt := 11) hx hb dX3_parallels_167 (by decide) ?_
                      exact ih (i + 1) (sm + 1) (mTn B a i) (mTn B b ((oT A B a b i))) (by omega) (by omega) (by first | (exfalso; omega) | (rw [hs, h2]; show (if (oT A B a b i) = -1 then (sm, la, lb) else (if ¬ la = -1 ∧ ((mTn B b (oT A B a b i) - mTn B a i) % 12 = 0 ∨ (mTn B b (oT A B a b i) - mTn B a i) % 12 = 7) ∧ (mTn B b (oT A B a b i) - mTn B a i) % 12 = (lb - la) % 12 ∧ ((la < mTn B a i ∧ lb < mTn B b (oT A B a b i)) ∨ (mTn B a i < la ∧ mTn B b (oT A B a b i) < lb)) then sm + 1 else sm, mTn B a i, mTn B b (oT A B a b i))) = _; first | rw [if_pos (by omega)] | (rw [if_neg (by omega)]; first | rw [if_pos (by omega)] | rw [if_neg (by omega)]))) (by omega) (by omega) (by omega) (by omega) _ (lv_sub hl [0, 1, 2, 3, 8, 9, 10] rfl)
                    · skip
                      refine lv_iload hx hb dX3_parallels_139 (lv_at hl 2 rfl) ?_
                      refine lv_iload hx hb dX3_parallels_141 (lv_at hl 6 rfl) ?_
                      refine z_icmp_ge (a := mTn B a i) (b := la) (tgt := 156) hx hb dX3_parallels_143 (by decide) (by omega) (by omega) (fun h_143 => ?_) (fun h_143 => ?_)
                      · skip
                        refine lv_iload hx hb dX3_parallels_156 (lv_at hl 2 rfl) ?_
                        refine lv_istore (lv' := [(4, .int (zI (mTn B a i))), (10, .int (zI (((mTn B b ((oT A B a b i))) - (mTn B a i)) % 12))), (9, .int (zI (mTn B b ((oT A B a b i))))), (8, .int (zI (mTn B a i))), (7, .int (zI ((oT A B a b i)))), (6, .int (zI (i))), (5, .int (zI (lb))), (3, .int (zI (sm))), (0, .ref (ad 0)), (1, .int (zI (a))), (2, .int (zI (b)))]) hx hb dX3_parallels_158 hl (by decide) rfl (fun ls hl => ?_)
                        refine lv_iload hx hb dX3_parallels_160 (lv_at hl 2 rfl) ?_
                        refine lv_istore (lv' := [(5, .int (zI (mTn B b ((oT A B a b i))))), (4, .int (zI (mTn B a i))), (10, .int (zI (((mTn B b ((oT A B a b i))) - (mTn B a i)) % 12))), (9, .int (zI (mTn B b ((oT A B a b i))))), (8, .int (zI (mTn B a i))), (7, .int (zI ((oT A B a b i)))), (6, .int (zI (i))), (3, .int (zI (sm))), (0, .ref (ad 0)), (1, .int (zI (a))), (2, .int (zI (b)))]) hx hb dX3_parallels_162 hl (by decide) rfl (fun ls hl => ?_)
                        refine z_iinc (lv' := [(6, .int (zI (i + 1))), (5, .int (zI (mTn B b ((oT A B a b i))))), (4, .int (zI (mTn B a i))), (10, .int (zI (((mTn B b ((oT A B a b i))) - (mTn B a i)) % 12))), (9, .int (zI (mTn B b ((oT A B a b i))))), (8, .int (zI (mTn B a i))), (7, .int (zI ((oT A B a b i)))), (3, .int (zI (sm))), (0, .ref (ad 0)), (1, .int (zI (a))), (2, .int (zI (b)))]) hx hb dX3_parallels_164 hl (k := 6) rfl (by decide) rfl (fun ls hl => ?_)
                        refine lv_goto (tgt := 11) hx hb dX3_parallels_167 (by decide) ?_
                        exact ih (i + 1) (sm) (mTn B a i) (mTn B b ((oT A B a b i))) (by omega) (by omega) (by first | (exfalso; omega) | (rw [hs, h2]; show (if (oT A B a b i) = -1 then (sm, la, lb) else (if ¬ la = -1 ∧ ((mTn B b (oT A B a b i) - mTn B a i) % 12 = 0 ∨ (mTn B b (oT A B a b i) - mTn B a i) % 12 = 7) ∧ (mTn B b (oT A B a b i) - mTn B a i) % 12 = (lb - la) % 12 ∧ ((la < mTn B a i ∧ lb < mTn B b (oT A B a b i)) ∨ (mTn B a i < la ∧ mTn B b (oT A B a b i) < lb)) then sm + 1 else sm, mTn B a i, mTn B b (oT A B a b i))) = _; first | rw [if_pos (by omega)] | (rw [if_neg (by omega)]; first | rw [if_pos (by omega)] | rw [if_neg (by omega)]))) (by omega) (by omega) (by omega) (by omega) _ (lv_sub hl [0, 1, 2, 7, 8, 9, 10] rfl)
                      · skip
                        refine lv_iload hx hb dX3_parallels_146 (lv_at hl 1 rfl) ?_
                        refine lv_iload hx hb dX3_parallels_148 (lv_at hl 5 rfl) ?_
                        refine z_icmp_ge (a := mTn B b ((oT A B a b i))) (b := lb) (tgt := 156) hx hb dX3_parallels_150 (by decide) (by omega) (by omega) (fun h_150 => ?_) (fun h_150 => ?_)
                        · skip
                          refine lv_iload hx hb dX3_parallels_156 (lv_at hl 2 rfl) ?_
                          refine lv_istore (lv' := [(4, .int (zI (mTn B a i))), (10, .int (zI (((mTn B b ((oT A B a b i))) - (mTn B a i)) % 12))), (9, .int (zI (mTn B b ((oT A B a b i))))), (8, .int (zI (mTn B a i))), (7, .int (zI ((oT A B a b i)))), (6, .int (zI (i))), (5, .int (zI (lb))), (3, .int (zI (sm))), (0, .ref (ad 0)), (1, .int (zI (a))), (2, .int (zI (b)))]) hx hb dX3_parallels_158 hl (by decide) rfl (fun ls hl => ?_)
                          refine lv_iload hx hb dX3_parallels_160 (lv_at hl 2 rfl) ?_
                          refine lv_istore (lv' := [(5, .int (zI (mTn B b ((oT A B a b i))))), (4, .int (zI (mTn B a i))), (10, .int (zI (((mTn B b ((oT A B a b i))) - (mTn B a i)) % 12))), (9, .int (zI (mTn B b ((oT A B a b i))))), (8, .int (zI (mTn B a i))), (7, .int (zI ((oT A B a b i)))), (6, .int (zI (i))), (3, .int (zI (sm))), (0, .ref (ad 0)), (1, .int (zI (a))), (2, .int (zI (b)))]) hx hb dX3_parallels_162 hl (by decide) rfl (fun ls hl => ?_)
                          refine z_iinc (lv' := [(6, .int (zI (i + 1))), (5, .int (zI (mTn B b ((oT A B a b i))))), (4, .int (zI (mTn B a i))), (10, .int (zI (((mTn B b ((oT A B a b i))) - (mTn B a i)) % 12))), (9, .int (zI (mTn B b ((oT A B a b i))))), (8, .int (zI (mTn B a i))), (7, .int (zI ((oT A B a b i)))), (3, .int (zI (sm))), (0, .ref (ad 0)), (1, .int (zI (a))), (2, .int (zI (b)))]) hx hb dX3_parallels_164 hl (k := 6) rfl (by decide) rfl (fun ls hl => ?_)
                          refine lv_goto (tgt := 11) hx hb dX3_parallels_167 (by decide) ?_
                          exact ih (i + 1) (sm) (mTn B a i) (mTn B b ((oT A B a b i))) (by omega) (by omega) (by first | (exfalso; omega) | (rw [hs, h2]; show (if (oT A B a b i) = -1 then (sm, la, lb) else (if ¬ la = -1 ∧ ((mTn B b (oT A B a b i) - mTn B a i) % 12 = 0 ∨ (mTn B b (oT A B a b i) - mTn B a i) % 12 = 7) ∧ (mTn B b (oT A B a b i) - mTn B a i) % 12 = (lb - la) % 12 ∧ ((la < mTn B a i ∧ lb < mTn B b (oT A B a b i)) ∨ (mTn B a i < la ∧ mTn B b (oT A B a b i) < lb)) then sm + 1 else sm, mTn B a i, mTn B b (oT A B a b i))) = _; first | rw [if_pos (by omega)] | (rw [if_neg (by omega)]; first | rw [if_pos (by omega)] | rw [if_neg (by omega)]))) (by omega) (by omega) (by omega) (by omega) _ (lv_sub hl [0, 1, 2, 7, 8, 9, 10] rfl)
                        · skip
                          refine z_iinc (lv' := [(3, .int (zI (sm + 1))), (10, .int (zI (((mTn B b ((oT A B a b i))) - (mTn B a i)) % 12))), (9, .int (zI (mTn B b ((oT A B a b i))))), (8, .int (zI (mTn B a i))), (7, .int (zI ((oT A B a b i)))), (6, .int (zI (i))), (5, .int (zI (lb))), (4, .int (zI (la))), (0, .ref (ad 0)), (1, .int (zI (a))), (2, .int (zI (b)))]) hx hb dX3_parallels_153 hl (k := 7) rfl (by decide) rfl (fun ls hl => ?_)
                          refine lv_iload hx hb dX3_parallels_156 (lv_at hl 3 rfl) ?_
                          refine lv_istore (lv' := [(4, .int (zI (mTn B a i))), (3, .int (zI (sm + 1))), (10, .int (zI (((mTn B b ((oT A B a b i))) - (mTn B a i)) % 12))), (9, .int (zI (mTn B b ((oT A B a b i))))), (8, .int (zI (mTn B a i))), (7, .int (zI ((oT A B a b i)))), (6, .int (zI (i))), (5, .int (zI (lb))), (0, .ref (ad 0)), (1, .int (zI (a))), (2, .int (zI (b)))]) hx hb dX3_parallels_158 hl (by decide) rfl (fun ls hl => ?_)
                          refine lv_iload hx hb dX3_parallels_160 (lv_at hl 3 rfl) ?_
                          refine lv_istore (lv' := [(5, .int (zI (mTn B b ((oT A B a b i))))), (4, .int (zI (mTn B a i))), (3, .int (zI (sm + 1))), (10, .int (zI (((mTn B b ((oT A B a b i))) - (mTn B a i)) % 12))), (9, .int (zI (mTn B b ((oT A B a b i))))), (8, .int (zI (mTn B a i))), (7, .int (zI ((oT A B a b i)))), (6, .int (zI (i))), (0, .ref (ad 0)), (1, .int (zI (a))), (2, .int (zI (b)))]) hx hb dX3_parallels_162 hl (by decide) rfl (fun ls hl => ?_)
                          refine z_iinc (lv' := [(6, .int (zI (i + 1))), (5, .int (zI (mTn B b ((oT A B a b i))))), (4, .int (zI (mTn B a i))), (3, .int (zI (sm + 1))), (10, .int (zI (((mTn B b ((oT A B a b i))) - (mTn B a i)) % 12))), (9, .int (zI (mTn B b ((oT A B a b i))))), (8, .int (zI (mTn B a i))), (7, .int (zI ((oT A B a b i)))), (0, .ref (ad 0)), (1, .int (zI (a))), (2, .int (zI (b)))]) hx hb dX3_parallels_164 hl (k := 7) rfl (by decide) rfl (fun ls hl => ?_)
                          refine lv_goto (tgt := 11) hx hb dX3_parallels_167 (by decide) ?_
                          exact ih (i + 1) (sm + 1) (mTn B a i) (mTn B b ((oT A B a b i))) (by omega) (by omega) (by first | (exfalso; omega) | (rw [hs, h2]; show (if (oT A B a b i) = -1 then (sm, la, lb) else (if ¬ la = -1 ∧ ((mTn B b (oT A B a b i) - mTn B a i) % 12 = 0 ∨ (mTn B b (oT A B a b i) - mTn B a i) % 12 = 7) ∧ (mTn B b (oT A B a b i) - mTn B a i) % 12 = (lb - la) % 12 ∧ ((la < mTn B a i ∧ lb < mTn B b (oT A B a b i)) ∨ (mTn B a i < la ∧ mTn B b (oT A B a b i) < lb)) then sm + 1 else sm, mTn B a i, mTn B b (oT A B a b i))) = _; first | rw [if_pos (by omega)] | (rw [if_neg (by omega)]; first | rw [if_pos (by omega)] | rw [if_neg (by omega)]))) (by omega) (by omega) (by omega) (by omega) _ (lv_sub hl [0, 1, 2, 3, 8, 9, 10] rfl)
                · skip
                  refine lv_iload hx hb dX3_parallels_118 (lv_at hl 0 rfl) ?_
                  refine z_bipush hx hb dX3_parallels_120 (by decide) ?_
                  refine z_icmp_ne (a := ((mTn B b ((oT A B a b i))) - (mTn B a i)) % 12) (b := 7) (tgt := 156) hx hb dX3_parallels_122 (by decide) (by omega) (by omega) (fun h_122 => ?_) (fun h_122 => ?_)
                  · skip
                    refine lv_iload hx hb dX3_parallels_156 (lv_at hl 2 rfl) ?_
                    refine lv_istore (lv' := [(4, .int (zI (mTn B a i))), (10, .int (zI (((mTn B b ((oT A B a b i))) - (mTn B a i)) % 12))), (9, .int (zI (mTn B b ((oT A B a b i))))), (8, .int (zI (mTn B a i))), (7, .int (zI ((oT A B a b i)))), (6, .int (zI (i))), (5, .int (zI (lb))), (3, .int (zI (sm))), (0, .ref (ad 0)), (1, .int (zI (a))), (2, .int (zI (b)))]) hx hb dX3_parallels_158 hl (by decide) rfl (fun ls hl => ?_)
                    refine lv_iload hx hb dX3_parallels_160 (lv_at hl 2 rfl) ?_
                    refine lv_istore (lv' := [(5, .int (zI (mTn B b ((oT A B a b i))))), (4, .int (zI (mTn B a i))), (10, .int (zI (((mTn B b ((oT A B a b i))) - (mTn B a i)) % 12))), (9, .int (zI (mTn B b ((oT A B a b i))))), (8, .int (zI (mTn B a i))), (7, .int (zI ((oT A B a b i)))), (6, .int (zI (i))), (3, .int (zI (sm))), (0, .ref (ad 0)), (1, .int (zI (a))), (2, .int (zI (b)))]) hx hb dX3_parallels_162 hl (by decide) rfl (fun ls hl => ?_)
                    refine z_iinc (lv' := [(6, .int (zI (i + 1))), (5, .int (zI (mTn B b ((oT A B a b i))))), (4, .int (zI (mTn B a i))), (10, .int (zI (((mTn B b ((oT A B a b i))) - (mTn B a i)) % 12))), (9, .int (zI (mTn B b ((oT A B a b i))))), (8, .int (zI (mTn B a i))), (7, .int (zI ((oT A B a b i)))), (3, .int (zI (sm))), (0, .ref (ad 0)), (1, .int (zI (a))), (2, .int (zI (b)))]) hx hb dX3_parallels_164 hl (k := 6) rfl (by decide) rfl (fun ls hl => ?_)
                    refine lv_goto (tgt := 11) hx hb dX3_parallels_167 (by decide) ?_
                    exact ih (i + 1) (sm) (mTn B a i) (mTn B b ((oT A B a b i))) (by omega) (by omega) (by first | (exfalso; omega) | (rw [hs, h2]; show (if (oT A B a b i) = -1 then (sm, la, lb) else (if ¬ la = -1 ∧ ((mTn B b (oT A B a b i) - mTn B a i) % 12 = 0 ∨ (mTn B b (oT A B a b i) - mTn B a i) % 12 = 7) ∧ (mTn B b (oT A B a b i) - mTn B a i) % 12 = (lb - la) % 12 ∧ ((la < mTn B a i ∧ lb < mTn B b (oT A B a b i)) ∨ (mTn B a i < la ∧ mTn B b (oT A B a b i) < lb)) then sm + 1 else sm, mTn B a i, mTn B b (oT A B a b i))) = _; first | rw [if_pos (by omega)] | (rw [if_neg (by omega)]; first | rw [if_pos (by omega)] | rw [if_neg (by omega)]))) (by omega) (by omega) (by omega) (by omega) _ (lv_sub hl [0, 1, 2, 7, 8, 9, 10] rfl)
                  · skip
                    refine lv_iload hx hb dX3_parallels_125 (lv_at hl 2 rfl) ?_
                    refine lv_iload hx hb dX3_parallels_127 (lv_at hl 6 rfl) ?_
                    refine z_icmp_le (a := mTn B a i) (b := la) (tgt := 139) hx hb dX3_parallels_129 (by decide) (by omega) (by omega) (fun h_129 => ?_) (fun h_129 => ?_)
                    · skip
                      refine lv_iload hx hb dX3_parallels_139 (lv_at hl 2 rfl) ?_
                      refine lv_iload hx hb dX3_parallels_141 (lv_at hl 6 rfl) ?_
                      refine z_icmp_ge (a := mTn B a i) (b := la) (tgt := 156) hx hb dX3_parallels_143 (by decide) (by omega) (by omega) (fun h_143 => ?_) (fun h_143 => ?_)
                      · skip
                        refine lv_iload hx hb dX3_parallels_156 (lv_at hl 2 rfl) ?_
                        refine lv_istore (lv' := [(4, .int (zI (mTn B a i))), (10, .int (zI (((mTn B b ((oT A B a b i))) - (mTn B a i)) % 12))), (9, .int (zI (mTn B b ((oT A B a b i))))), (8, .int (zI (mTn B a i))), (7, .int (zI ((oT A B a b i)))), (6, .int (zI (i))), (5, .int (zI (lb))), (3, .int (zI (sm))), (0, .ref (ad 0)), (1, .int (zI (a))), (2, .int (zI (b)))]) hx hb dX3_parallels_158 hl (by decide) rfl (fun ls hl => ?_)
                        refine lv_iload hx hb dX3_parallels_160 (lv_at hl 2 rfl) ?_
                        refine lv_istore (lv' := [(5, .int (zI (mTn B b ((oT A B a b i))))), (4, .int (zI (mTn B a i))), (10, .int (zI (((mTn B b ((oT A B a b i))) - (mTn B a i)) % 12))), (9, .int (zI (mTn B b ((oT A B a b i))))), (8, .int (zI (mTn B a i))), (7, .int (zI ((oT A B a b i)))), (6, .int (zI (i))), (3, .int (zI (sm))), (0, .ref (ad 0)), (1, .int (zI (a))), (2, .int (zI (b)))]) hx hb dX3_parallels_162 hl (by decide) rfl (fun ls hl => ?_)
                        refine z_iinc (lv' := [(6, .int (zI (i + 1))), (5, .int (zI (mTn B b ((oT A B a b i))))), (4, .int (zI (mTn B a i))), (10, .int (zI (((mTn B b ((oT A B a b i))) - (mTn B a i)) % 12))), (9, .int (zI (mTn B b ((oT A B a b i))))), (8, .int (zI (mTn B a i))), (7, .int (zI ((oT A B a b i)))), (3, .int (zI (sm))), (0, .ref (ad 0)), (1, .int (zI (a))), (2, .int (zI (b)))]) hx hb dX3_parallels_164 hl (k := 6) rfl (by decide) rfl (fun ls hl => ?_)
                        refine lv_goto (tgt := 11) hx hb dX3_parallels_167 (by decide) ?_
                        exact ih (i + 1) (sm) (mTn B a i) (mTn B b ((oT A B a b i))) (by omega) (by omega) (by first | (exfalso; omega) | (rw [hs, h2]; show (if (oT A B a b i) = -1 then (sm, la, lb) else (if ¬ la = -1 ∧ ((mTn B b (oT A B a b i) - mTn B a i) % 12 = 0 ∨ (mTn B b (oT A B a b i) - mTn B a i) % 12 = 7) ∧ (mTn B b (oT A B a b i) - mTn B a i) % 12 = (lb - la) % 12 ∧ ((la < mTn B a i ∧ lb < mTn B b (oT A B a b i)) ∨ (mTn B a i < la ∧ mTn B b (oT A B a b i) < lb)) then sm + 1 else sm, mTn B a i, mTn B b (oT A B a b i))) = _; first | rw [if_pos (by omega)] | (rw [if_neg (by omega)]; first | rw [if_pos (by omega)] | rw [if_neg (by omega)]))) (by omega) (by omega) (by omega) (by omega) _ (lv_sub hl [0, 1, 2, 7, 8, 9, 10] rfl)
                      · skip
                        refine lv_iload hx hb dX3_parallels_146 (lv_at hl 1 rfl) ?_
                        refine lv_iload hx hb dX3_parallels_148 (lv_at hl 5 rfl) ?_
                        refine z_icmp_ge (a := mTn B b ((oT A B a b i))) (b := lb) (tgt := 156) hx hb dX3_parallels_150 (by decide) (by omega) (by omega) (fun h_150 => ?_) (fun h_150 => ?_)
                        · skip
                          refine lv_iload hx hb dX3_parallels_156 (lv_at hl 2 rfl) ?_
                          refine lv_istore (lv' := [(4, .int (zI (mTn B a i))), (10, .int (zI (((mTn B b ((oT A B a b i))) - (mTn B a i)) % 12))), (9, .int (zI (mTn B b ((oT A B a b i))))), (8, .int (zI (mTn B a i))), (7, .int (zI ((oT A B a b i)))), (6, .int (zI (i))), (5, .int (zI (lb))), (3, .int (zI (sm))), (0, .ref (ad 0)), (1, .int (zI (a))), (2, .int (zI (b)))]) hx hb dX3_parallels_158 hl (by decide) rfl (fun ls hl => ?_)
                          refine lv_iload hx hb dX3_parallels_160 (lv_at hl 2 rfl) ?_
                          refine lv_istore (lv' := [(5, .int (zI (mTn B b ((oT A B a b i))))), (4, .int (zI (mTn B a i))), (10, .int (zI (((mTn B b ((oT A B a b i))) - (mTn B a i)) % 12))), (9, .int (zI (mTn B b ((oT A B a b i))))), (8, .int (zI (mTn B a i))), (7, .int (zI ((oT A B a b i)))), (6, .int (zI (i))), (3, .int (zI (sm))), (0, .ref (ad 0)), (1, .int (zI (a))), (2, .int (zI (b)))]) hx hb dX3_parallels_162 hl (by decide) rfl (fun ls hl => ?_)
                          refine z_iinc (lv' := [(6, .int (zI (i + 1))), (5, .int (zI (mTn B b ((oT A B a b i))))), (4, .int (zI (mTn B a i))), (10, .int (zI (((mTn B b ((oT A B a b i))) - (mTn B a i)) % 12))), (9, .int (zI (mTn B b ((oT A B a b i))))), (8, .int (zI (mTn B a i))), (7, .int (zI ((oT A B a b i)))), (3, .int (zI (sm))), (0, .ref (ad 0)), (1, .int (zI (a))), (2, .int (zI (b)))]) hx hb dX3_parallels_164 hl (k := 6) rfl (by decide) rfl (fun ls hl => ?_)
                          refine lv_goto (tgt := 11) hx hb dX3_parallels_167 (by decide) ?_
                          exact ih (i + 1) (sm) (mTn B a i) (mTn B b ((oT A B a b i))) (by omega) (by omega) (by first | (exfalso; omega) | (rw [hs, h2]; show (if (oT A B a b i) = -1 then (sm, la, lb) else (if ¬ la = -1 ∧ ((mTn B b (oT A B a b i) - mTn B a i) % 12 = 0 ∨ (mTn B b (oT A B a b i) - mTn B a i) % 12 = 7) ∧ (mTn B b (oT A B a b i) - mTn B a i) % 12 = (lb - la) % 12 ∧ ((la < mTn B a i ∧ lb < mTn B b (oT A B a b i)) ∨ (mTn B a i < la ∧ mTn B b (oT A B a b i) < lb)) then sm + 1 else sm, mTn B a i, mTn B b (oT A B a b i))) = _; first | rw [if_pos (by omega)] | (rw [if_neg (by omega)]; first | rw [if_pos (by omega)] | rw [if_neg (by omega)]))) (by omega) (by omega) (by omega) (by omega) _ (lv_sub hl [0, 1, 2, 7, 8, 9, 10] rfl)
                        · skip
                          refine z_iinc (lv' := [(3, .int (zI (sm + 1))), (10, .int (zI (((mTn B b ((oT A B a b i))) - (mTn B a i)) % 12))), (9, .int (zI (mTn B b ((oT A B a b i))))), (8, .int (zI (mTn B a i))), (7, .int (zI ((oT A B a b i)))), (6, .int (zI (i))), (5, .int (zI (lb))), (4, .int (zI (la))), (0, .ref (ad 0)), (1, .int (zI (a))), (2, .int (zI (b)))]) hx hb dX3_parallels_153 hl (k := 7) rfl (by decide) rfl (fun ls hl => ?_)
                          refine lv_iload hx hb dX3_parallels_156 (lv_at hl 3 rfl) ?_
                          refine lv_istore (lv' := [(4, .int (zI (mTn B a i))), (3, .int (zI (sm + 1))), (10, .int (zI (((mTn B b ((oT A B a b i))) - (mTn B a i)) % 12))), (9, .int (zI (mTn B b ((oT A B a b i))))), (8, .int (zI (mTn B a i))), (7, .int (zI ((oT A B a b i)))), (6, .int (zI (i))), (5, .int (zI (lb))), (0, .ref (ad 0)), (1, .int (zI (a))), (2, .int (zI (b)))]) hx hb dX3_parallels_158 hl (by decide) rfl (fun ls hl => ?_)
                          refine lv_iload hx hb dX3_parallels_160 (lv_at hl 3 rfl) ?_
                          refine lv_istore (lv' := [(5, .int (zI (mTn B b ((oT A B a b i))))), (4, .int (zI (mTn B a i))), (3, .int (zI (sm + 1))), (10, .int (zI (((mTn B b ((oT A B a b i))) - (mTn B a i)) % 12))), (9, .int (zI (mTn B b ((oT A B a b i))))), (8, .int (zI (mTn B a i))), (7, .int (zI ((oT A B a b i)))), (6, .int (zI (i))), (0, .ref (ad 0)), (1, .int (zI (a))), (2, .int (zI (b)))]) hx hb dX3_parallels_162 hl (by decide) rfl (fun ls hl => ?_)
                          refine z_iinc (lv' := [(6, .int (zI (i + 1))), (5, .int (zI (mTn B b ((oT A B a b i))))), (4, .int (zI (mTn B a i))), (3, .int (zI (sm + 1))), (10, .int (zI (((mTn B b ((oT A B a b i))) - (mTn B a i)) % 12))), (9, .int (zI (mTn B b ((oT A B a b i))))), (8, .int (zI (mTn B a i))), (7, .int (zI ((oT A B a b i)))), (0, .ref (ad 0)), (1, .int (zI (a))), (2, .int (zI (b)))]) hx hb dX3_parallels_164 hl (k := 7) rfl (by decide) rfl (fun ls hl => ?_)
                          refine lv_goto (tgt := 11) hx hb dX3_parallels_167 (by decide) ?_
                          exact ih (i + 1) (sm + 1) (mTn B a i) (mTn B b ((oT A B a b i))) (by omega) (by omega) (by first | (exfalso; omega) | (rw [hs, h2]; show (if (oT A B a b i) = -1 then (sm, la, lb) else (if ¬ la = -1 ∧ ((mTn B b (oT A B a b i) - mTn B a i) % 12 = 0 ∨ (mTn B b (oT A B a b i) - mTn B a i) % 12 = 7) ∧ (mTn B b (oT A B a b i) - mTn B a i) % 12 = (lb - la) % 12 ∧ ((la < mTn B a i ∧ lb < mTn B b (oT A B a b i)) ∨ (mTn B a i < la ∧ mTn B b (oT A B a b i) < lb)) then sm + 1 else sm, mTn B a i, mTn B b (oT A B a b i))) = _; first | rw [if_pos (by omega)] | (rw [if_neg (by omega)]; first | rw [if_pos (by omega)] | rw [if_neg (by omega)]))) (by omega) (by omega) (by omega) (by omega) _ (lv_sub hl [0, 1, 2, 3, 8, 9, 10] rfl)
                    · skip
                      refine lv_iload hx hb dX3_parallels_132 (lv_at hl 1 rfl) ?_
                      refine lv_iload hx hb dX3_parallels_134 (lv_at hl 5 rfl) ?_
                      refine z_icmp_gt (a := mTn B b ((oT A B a b i))) (b := lb) (tgt := 153) hx hb dX3_parallels_136 (by decide) (by omega) (by omega) (fun h_136 => ?_) (fun h_136 => ?_)
                      · skip
                        refine z_iinc (lv' := [(3, .int (zI (sm + 1))), (10, .int (zI (((mTn B b ((oT A B a b i))) - (mTn B a i)) % 12))), (9, .int (zI (mTn B b ((oT A B a b i))))), (8, .int (zI (mTn B a i))), (7, .int (zI ((oT A B a b i)))), (6, .int (zI (i))), (5, .int (zI (lb))), (4, .int (zI (la))), (0, .ref (ad 0)), (1, .int (zI (a))), (2, .int (zI (b)))]) hx hb dX3_parallels_153 hl (k := 7) rfl (by decide) rfl (fun ls hl => ?_)
                        refine lv_iload hx hb dX3_parallels_156 (lv_at hl 3 rfl) ?_
                        refine lv_istore (lv' := [(4, .int (zI (mTn B a i))), (3, .int (zI (sm + 1))), (10, .int (zI (((mTn B b ((oT A B a b i))) - (mTn B a i)) % 12))), (9, .int (zI (mTn B b ((oT A B a b i))))), (8, .int (zI (mTn B a i))), (7, .int (zI ((oT A B a b i)))), (6, .int (zI (i))), (5, .int (zI (lb))), (0, .ref (ad 0)), (1, .int (zI (a))), (2, .int (zI (b)))]) hx hb dX3_parallels_158 hl (by decide) rfl (fun ls hl => ?_)
                        refine lv_iload hx hb dX3_parallels_160 (lv_at hl 3 rfl) ?_
                        refine lv_istore (lv' := [(5, .int (zI (mTn B b ((oT A B a b i))))), (4, .int (zI (mTn B a i))), (3, .int (zI (sm + 1))), (10, .int (zI (((mTn B b ((oT A B a b i))) - (mTn B a i)) % 12))), (9, .int (zI (mTn B b ((oT A B a b i))))), (8, .int (zI (mTn B a i))), (7, .int (zI ((oT A B a b i)))), (6, .int (zI (i))), (0, .ref (ad 0)), (1, .int (zI (a))), (2, .int (zI (b)))]) hx hb dX3_parallels_162 hl (by decide) rfl (fun ls hl => ?_)
                        refine z_iinc (lv' := [(6, .int (zI (i + 1))), (5, .int (zI (mTn B b ((oT A B a b i))))), (4, .int (zI (mTn B a i))), (3, .int (zI (sm + 1))), (10, .int (zI (((mTn B b ((oT A B a b i))) - (mTn B a i)) % 12))), (9, .int (zI (mTn B b ((oT A B a b i))))), (8, .int (zI (mTn B a i))), (7, .int (zI ((oT A B a b i)))), (0, .ref (ad 0)), (1, .int (zI (a))), (2, .int (zI (b)))]) hx hb dX3_parallels_164 hl (k := 7) rfl (by decide) rfl (fun ls hl => ?_)
                        refine lv_goto (tgt := 11) hx hb dX3_parallels_167 (by decide) ?_
                        exact ih (i + 1) (sm + 1) (mTn B a i) (mTn B b ((oT A B a b i))) (by omega) (by omega) (by first | (exfalso; omega) | (rw [hs, h2]; show (if (oT A B a b i) = -1 then (sm, la, lb) else (if ¬ la = -1 ∧ ((mTn B b (oT A B a b i) - mTn B a i) % 12 = 0 ∨ (mTn B b (oT A B a b i) - mTn B a i) % 12 = 7) ∧ (mTn B b (oT A B a b i) - mTn B a i) % 12 = (lb - la) % 12 ∧ ((la < mTn B a i ∧ lb < mTn B b (oT A B a b i)) ∨ (mTn B a i < la ∧ mTn B b (oT A B a b i) < lb)) then sm + 1 else sm, mTn B a i, mTn B b (oT A B a b i))) = _; first | rw [if_pos (by omega)] | (rw [if_neg (by omega)]; first | rw [if_pos (by omega)] | rw [if_neg (by omega)]))) (by omega) (by omega) (by omega) (by omega) _ (lv_sub hl [0, 1, 2, 3, 8, 9, 10] rfl)
                      · skip
                        refine lv_iload hx hb dX3_parallels_139 (lv_at hl 2 rfl) ?_
                        refine lv_iload hx hb dX3_parallels_141 (lv_at hl 6 rfl) ?_
                        refine z_icmp_ge (a := mTn B a i) (b := la) (tgt := 156) hx hb dX3_parallels_143 (by decide) (by omega) (by omega) (fun h_143 => ?_) (fun h_143 => ?_)
                        · skip
                          refine lv_iload hx hb dX3_parallels_156 (lv_at hl 2 rfl) ?_
                          refine lv_istore (lv' := [(4, .int (zI (mTn B a i))), (10, .int (zI (((mTn B b ((oT A B a b i))) - (mTn B a i)) % 12))), (9, .int (zI (mTn B b ((oT A B a b i))))), (8, .int (zI (mTn B a i))), (7, .int (zI ((oT A B a b i)))), (6, .int (zI (i))), (5, .int (zI (lb))), (3, .int (zI (sm))), (0, .ref (ad 0)), (1, .int (zI (a))), (2, .int (zI (b)))]) hx hb dX3_parallels_158 hl (by decide) rfl (fun ls hl => ?_)
                          refine lv_iload hx hb dX3_parallels_160 (lv_at hl 2 rfl) ?_
                          refine lv_istore (lv' := [(5, .int (zI (mTn B b ((oT A B a b i))))), (4, .int (zI (mTn B a i))), (10, .int (zI (((mTn B b ((oT A B a b i))) - (mTn B a i)) % 12))), (9, .int (zI (mTn B b ((oT A B a b i))))), (8, .int (zI (mTn B a i))), (7, .int (zI ((oT A B a b i)))), (6, .int (zI (i))), (3, .int (zI (sm))), (0, .ref (ad 0)), (1, .int (zI (a))), (2, .int (zI (b)))]) hx hb dX3_parallels_162 hl (by decide) rfl (fun ls hl => ?_)
                          refine z_iinc (lv' := [(6, .int (zI (i + 1))), (5, .int (zI (mTn B b ((oT A B a b i))))), (4, .int (zI (mTn B a i))), (10, .int (zI (((mTn B b ((oT A B a b i))) - (mTn B a i)) % 12))), (9, .int (zI (mTn B b ((oT A B a b i))))), (8, .int (zI (mTn B a i))), (7, .int (zI ((oT A B a b i)))), (3, .int (zI (sm))), (0, .ref (ad 0)), (1, .int (zI (a))), (2, .int (zI (b)))]) hx hb dX3_parallels_164 hl (k := 6) rfl (by decide) rfl (fun ls hl => ?_)
                          refine lv_goto (tgt := 11) hx hb dX3_parallels_167 (by decide) ?_
                          exact ih (i + 1) (sm) (mTn B a i) (mTn B b ((oT A B a b i))) (by omega) (by omega) (by first | (exfalso; omega) | (rw [hs, h2]; show (if (oT A B a b i) = -1 then (sm, la, lb) else (if ¬ la = -1 ∧ ((mTn B b (oT A B a b i) - mTn B a i) % 12 = 0 ∨ (mTn B b (oT A B a b i) - mTn B a i) % 12 = 7) ∧ (mTn B b (oT A B a b i) - mTn B a i) % 12 = (lb - la) % 12 ∧ ((la < mTn B a i ∧ lb < mTn B b (oT A B a b i)) ∨ (mTn B a i < la ∧ mTn B b (oT A B a b i) < lb)) then sm + 1 else sm, mTn B a i, mTn B b (oT A B a b i))) = _; first | rw [if_pos (by omega)] | (rw [if_neg (by omega)]; first | rw [if_pos (by omega)] | rw [if_neg (by omega)]))) (by omega) (by omega) (by omega) (by omega) _ (lv_sub hl [0, 1, 2, 7, 8, 9, 10] rfl)
                        · skip
                          refine lv_iload hx hb dX3_parallels_146 (lv_at hl 1 rfl) ?_
                          refine lv_iload hx hb dX3_parallels_148 (lv_at hl 5 rfl) ?_
                          refine z_icmp_ge (a := mTn B b ((oT A B a b i))) (b := lb) (tgt := 156) hx hb dX3_parallels_150 (by decide) (by omega) (by omega) (fun h_150 => ?_) (fun h_150 => ?_)
                          · skip
                            refine lv_iload hx hb dX3_parallels_156 (lv_at hl 2 rfl) ?_
                            refine lv_istore (lv' := [(4, .int (zI (mTn B a i))), (10, .int (zI (((mTn B b ((oT A B a b i))) - (mTn B a i)) % 12))), (9, .int (zI (mTn B b ((oT A B a b i))))), (8, .int (zI (mTn B a i))), (7, .int (zI ((oT A B a b i)))), (6, .int (zI (i))), (5, .int (zI (lb))), (3, .int (zI (sm))), (0, .ref (ad 0)), (1, .int (zI (a))), (2, .int (zI (b)))]) hx hb dX3_parallels_158 hl (by decide) rfl (fun ls hl => ?_)
                            refine lv_iload hx hb dX3_parallels_160 (lv_at hl 2 rfl) ?_
                            refine lv_istore (lv' := [(5, .int (zI (mTn B b ((oT A B a b i))))), (4, .int (zI (mTn B a i))), (10, .int (zI (((mTn B b ((oT A B a b i))) - (mTn B a i)) % 12))), (9, .int (zI (mTn B b ((oT A B a b i))))), (8, .int (zI (mTn B a i))), (7, .int (zI ((oT A B a b i)))), (6, .int (zI (i))), (3, .int (zI (sm))), (0, .ref (ad 0)), (1, .int (zI (a))), (2, .int (zI (b)))]) hx hb dX3_parallels_162 hl (by decide) rfl (fun ls hl => ?_)
                            refine z_iinc (lv' := [(6, .int (zI (i + 1))), (5, .int (zI (mTn B b ((oT A B a b i))))), (4, .int (zI (mTn B a i))), (10, .int (zI (((mTn B b ((oT A B a b i))) - (mTn B a i)) % 12))), (9, .int (zI (mTn B b ((oT A B a b i))))), (8, .int (zI (mTn B a i))), (7, .int (zI ((oT A B a b i)))), (3, .int (zI (sm))), (0, .ref (ad 0)), (1, .int (zI (a))), (2, .int (zI (b)))]) hx hb dX3_parallels_164 hl (k := 6) rfl (by decide) rfl (fun ls hl => ?_)
                            refine lv_goto (tgt := 11) hx hb dX3_parallels_167 (by decide) ?_
                            exact ih (i + 1) (sm) (mTn B a i) (mTn B b ((oT A B a b i))) (by omega) (by omega) (by first | (exfalso; omega) | (rw [hs, h2]; show (if (oT A B a b i) = -1 then (sm, la, lb) else (if ¬ la = -1 ∧ ((mTn B b (oT A B a b i) - mTn B a i) % 12 = 0 ∨ (mTn B b (oT A B a b i) - mTn B a i) % 12 = 7) ∧ (mTn B b (oT A B a b i) - mTn B a i) % 12 = (lb - la) % 12 ∧ ((la < mTn B a i ∧ lb < mTn B b (oT A B a b i)) ∨ (mTn B a i < la ∧ mTn B b (oT A B a b i) < lb)) then sm + 1 else sm, mTn B a i, mTn B b (oT A B a b i))) = _; first | rw [if_pos (by omega)] | (rw [if_neg (by omega)]; first | rw [if_pos (by omega)] | rw [if_neg (by omega)]))) (by omega) (by omega) (by omega) (by omega) _ (lv_sub hl [0, 1, 2, 7, 8, 9, 10] rfl)
                          · skip
                            refine z_iinc (lv' := [(3, .int (zI (sm + 1))), (10, .int (zI (((mTn B b ((oT A B a b i))) - (mTn B a i)) % 12))), (9, .int (zI (mTn B b ((oT A B a b i))))), (8, .int (zI (mTn B a i))), (7, .int (zI ((oT A B a b i)))), (6, .int (zI (i))), (5, .int (zI (lb))), (4, .int (zI (la))), (0, .ref (ad 0)), (1, .int (zI (a))), (2, .int (zI (b)))]) hx hb dX3_parallels_153 hl (k := 7) rfl (by decide) rfl (fun ls hl => ?_)
                            refine lv_iload hx hb dX3_parallels_156 (lv_at hl 3 rfl) ?_
                            refine lv_istore (lv' := [(4, .int (zI (mTn B a i))), (3, .int (zI (sm + 1))), (10, .int (zI (((mTn B b ((oT A B a b i))) - (mTn B a i)) % 12))), (9, .int (zI (mTn B b ((oT A B a b i))))), (8, .int (zI (mTn B a i))), (7, .int (zI ((oT A B a b i)))), (6, .int (zI (i))), (5, .int (zI (lb))), (0, .ref (ad 0)), (1, .int (zI (a))), (2, .int (zI (b)))]) hx hb dX3_parallels_158 hl (by decide) rfl (fun ls hl => ?_)
                            refine lv_iload hx hb dX3_parallels_160 (lv_at hl 3 rfl) ?_
                            refine lv_istore (lv' := [(5, .int (zI (mTn B b ((oT A B a b i))))), (4, .int (zI (mTn B a i))), (3, .int (zI (sm + 1))), (10, .int (zI (((mTn B b ((oT A B a b i))) - (mTn B a i)) % 12))), (9, .int (zI (mTn B b ((oT A B a b i))))), (8, .int (zI (mTn B a i))), (7, .int (zI ((oT A B a b i)))), (6, .int (zI (i))), (0, .ref (ad 0)), (1, .int (zI (a))), (2, .int (zI (b)))]) hx hb dX3_parallels_162 hl (by decide) rfl (fun ls hl => ?_)
                            refine z_iinc (lv' := [(6, .int (zI (i + 1))), (5, .int (zI (mTn B b ((oT A B a b i))))), (4, .int (zI (mTn B a i))), (3, .int (zI (sm + 1))), (10, .int (zI (((mTn B b ((oT A B a b i))) - (mTn B a i)) % 12))), (9, .int (zI (mTn B b ((oT A B a b i))))), (8, .int (zI (mTn B a i))), (7, .int (zI ((oT A B a b i)))), (0, .ref (ad 0)), (1, .int (zI (a))), (2, .int (zI (b)))]) hx hb dX3_parallels_164 hl (k := 7) rfl (by decide) rfl (fun ls hl => ?_)
                            refine lv_goto (tgt := 11) hx hb dX3_parallels_167 (by decide) ?_
                            exact ih (i + 1) (sm + 1) (mTn B a i) (mTn B b ((oT A B a b i))) (by omega) (by omega) (by first | (exfalso; omega) | (rw [hs, h2]; show (if (oT A B a b i) = -1 then (sm, la, lb) else (if ¬ la = -1 ∧ ((mTn B b (oT A B a b i) - mTn B a i) % 12 = 0 ∨ (mTn B b (oT A B a b i) - mTn B a i) % 12 = 7) ∧ (mTn B b (oT A B a b i) - mTn B a i) % 12 = (lb - la) % 12 ∧ ((la < mTn B a i ∧ lb < mTn B b (oT A B a b i)) ∨ (mTn B a i < la ∧ mTn B b (oT A B a b i) < lb)) then sm + 1 else sm, mTn B a i, mTn B b (oT A B a b i))) = _; first | rw [if_pos (by omega)] | (rw [if_neg (by omega)]; first | rw [if_pos (by omega)] | rw [if_neg (by omega)]))) (by omega) (by omega) (by omega) (by omega) _ (lv_sub hl [0, 1, 2, 3, 8, 9, 10] rfl)
          · skip
            refine lv_goto (tgt := 164) hx hb dX3_parallels_59 (by decide) ?_
            refine z_iinc (lv' := [(6, .int (zI (i + 1))), (7, .int (zI ((oT A B a b i)))), (5, .int (zI (lb))), (4, .int (zI (la))), (3, .int (zI (sm))), (0, .ref (ad 0)), (1, .int (zI (a))), (2, .int (zI (b)))]) hx hb dX3_parallels_164 hl (k := 1) rfl (by decide) rfl (fun ls hl => ?_)
            refine lv_goto (tgt := 11) hx hb dX3_parallels_167 (by decide) ?_
            exact ih (i + 1) (sm) (la) (lb) (by omega) (by omega) (by first | (exfalso; omega) | (rw [hs, h2]; show (if (oT A B a b i) = -1 then (sm, la, lb) else (if ¬ la = -1 ∧ ((mTn B b (oT A B a b i) - mTn B a i) % 12 = 0 ∨ (mTn B b (oT A B a b i) - mTn B a i) % 12 = 7) ∧ (mTn B b (oT A B a b i) - mTn B a i) % 12 = (lb - la) % 12 ∧ ((la < mTn B a i ∧ lb < mTn B b (oT A B a b i)) ∨ (mTn B a i < la ∧ mTn B b (oT A B a b i) < lb)) then sm + 1 else sm, mTn B a i, mTn B b (oT A B a b i))) = _; first | rw [if_pos (by omega)] | (rw [if_neg (by omega)]; first | rw [if_pos (by omega)] | rw [if_neg (by omega)]))) (by omega) (by omega) (by omega) (by omega) _ (lv_sub hl [0, 2, 3, 4, 5, 6, 7] rfl)
  exact lp_11 201 0 0 (-1) (-1) (by omega) (by omega) rfl (by omega) (by omega) (by omega) (by omega) _ (lv_sub hl [0, 1, 2, 3, 4, 5, 6] rfl)
def lzM (A : Nat → Int → Int) (B : Int → Int → Int) (v : Int) : Int → Int := pf 0 (fun e a => a + if B v (10 * e + 6) = 1 ∧ ¬ jmM A B v e then 1 else 0)
def psM (A : Nat → Int → Int) (B : Int → Int → Int) (v : Int) : Int → Int := pf 0 (fun k a => if v < k then a + parM A B v k else a)
def fauM (F : Nat → Int) (A : Nat → Int → Int) (B : Int → Int → Int) : Int → Int := pf 0 (fun v a => a + max 0 (barsM F A B (F 4) - bgM B v (A 0 v) / (F 1 * 384 / F 2)) + lzM A B v (A 0 v) + psM A B v (F 4))
theorem psM_low (A : Nat → Int → Int) (B : Int → Int → Int) (v : Int) {b : Int} (hb : 0 ≤ b ∧ b ≤ v + 1) : psM A B v b = 0 := by
  obtain ⟨k, rfl⟩ : ∃ k : Nat, b = (k : Int) := ⟨b.toNat, by omega⟩
  induction k with
  | zero => rfl
  | succ k ih =>
    have q := ih (by omega)
    unfold psM at q ⊢
    rw [show ((k + 1 : Nat) : Int) = (k : Int) + 1 by omega, pf_s _ _ (by omega), if_neg (by omega)]
    exact q
set_option maxHeartbeats 2000000 in
theorem c_X3_faultsOf (l : Launch) (G : zG) (ad : Nat → Nat) (F : Nat → Int) (A : Nat → Int → Int) (B : Int → Int → Int) (sz : Nat) (hVM : MOK F A B) : MW l yX3_faultsOf cX3_faultsOf 5 (some .int) 4 90 (0) (0) G [.ref (ad 0)] (fA 11 ad sz) sz (MP G ad F A B) (QW (fA 11 ad sz) (fun r H => r = fauM F A B (F 4) ∧ ∃ A' B', MP G ad F A' B' H ∧ KP A B A' B' ∧ A' 4 = A 4)) := by
  refine mw_of hp_X3_faultsOf (Nat.le_of_ble_eq_true rfl) ?_
  intro p env s m below meth c ls hB hsz hP hl
  obtain ⟨hx, hb, hml, hr, hlk, hown, hts, hG⟩ := hB
  subst hsz
  have hK := hG.1
  have hS : va_S (fA 11 ad s.heap.size) s.heap s.heap [] := va_S.rf
  have hA : ∀ q : Nat, (fA 11 ad s.heap.size) q → G.2.2 ≤ q := fA_lo hP.1.2 hG.2.1
  have hD : ∀ k, k < 11 → (fA 11 ad s.heap.size) (ad k) := fun k hk => fA_in hk
  have hl : lv_has ls 5 [(0, .ref (ad 0))] := hl
  have h1b := hVM.1
  have h2b := hVM.2.1
  have h4b := hVM.2.2.2.1
  have hba : 48 ≤ F 1 * 384 / F 2 ∧ F 1 * 384 / F 2 ≤ 2304 := by rcases h2b with h | h | h <;> rw [h] <;> omega
  refine z_iconst hx hb dX3_faultsOf_0 ?_
  refine lv_istore_n (lv' := [(1, .int (zI (0))), (0, .ref (ad 0))]) hx hb dX3_faultsOf_1 rfl hl (by decide) rfl (fun ls hl => ?_)
  refine lv_aload_n hx hb dX3_faultsOf_2 rfl (lv_at hl 1 rfl) ?_
  refine k_Wi (c_VW (As := []) (rest := []) ⟨hx, hb, hml, hown, hts⟩ hG hS hA (c_X3_barsBegun l G ad F A B s.heap.size hVM) ⟨q_ml_RX3_97, q_im_X3_barsBegun, q_sel_X3_barsBegun, q_ini_RX3, q_code_X3_barsBegun⟩ hv_X3_barsBegun (MP.rec hK hP) hP ⟨by decide, by decide⟩ ⟨Nat.zero_le _, Nat.zero_le _⟩ rfl hl.1 rfl (Nat.le_of_ble_eq_true rfl) dX3_faultsOf_3) hS (fA_mono hS.1) (fun r_3 H1 locs1 hq hz1 hk1 hS => ?_)
  obtain ⟨hr1, hr2, A2, B2, hP, kp2, tm2, e24⟩ := hq
  subst hr1
  have hok2 := kp2.ok hVM
  refine lv_istore_n (lv' := [(2, .int (zI (barsM F A B (F 4)))), (1, .int (zI (0))), (0, .ref (ad 0))]) hx hb dX3_faultsOf_6 rfl hl (by decide) rfl (fun ls hl => ?_)
  refine z_iconst hx hb dX3_faultsOf_7 ?_
  refine lv_istore_n (lv' := [(3, .int (zI (0))), (2, .int (zI (barsM F A B (F 4)))), (1, .int (zI (0))), (0, .ref (ad 0))]) hx hb dX3_faultsOf_8 rfl hl (by decide) rfl (fun ls hl => ?_)
  have lp_9 : ∀ (n : Nat) (i z : Int), 0 ≤ i → i ≤ F 4 → z = fauM F A B i → (0 ≤ z ∧ z ≤ i * 1002000) → F 4 - i < n → ∀ (H : Heap) (locs : List Loc), MP G ad F A2 B2 H → va_S (fA 11 ad s.heap.size) s.heap H locs → ∀ (ls : Array Slot), lv_has ls 5 [(3, .int (zI (i))), (2, .int (zI (barsM F A B (F 4)))), (1, .int (zI (z))), (0, .ref (ad 0))] → W p l env (rmz 4 90 0 0) s m (([.ref (ad 0)] : List Value).toArray) below meth c H locs 0 0 (MQ below (QW (fA 11 ad s.heap.size) (fun r H => r = fauM F A B (F 4) ∧ ∃ A' B', MP G ad F A' B' H ∧ KP A B A' B' ∧ A' 4 = A 4)) (([.ref (ad 0)] : List Value).toArray) s 0 0 (fA 11 ad s.heap.size)) (F0 m 9 ls []) := by
    intro n
    induction n with
    | zero => intro i z h0 h1 h2 h3 hm H locs hP hS ls hl; exact absurd hm (by omega)
    | succ n ih =>
      intro i z h0 h1 h2 h3 hm H locs hP hS ls hl
      have hs : fauM F A B (i + 1) = fauM F A B i + max 0 (barsM F A B (F 4) - bgM B i (A 0 i) / (F 1 * 384 / F 2)) + lzM A B i (A 0 i) + psM A B i (F 4) := pf_s _ _ h0
      refine lv_iload_n hx hb dX3_faultsOf_9 rfl (lv_at hl 0 rfl) ?_
      refine lv_aload_n hx hb dX3_faultsOf_10 rfl (lv_at hl 3 rfl) ?_
      refine zm_get hx hb hK hts hown hP 4 (by decide) q_fl_RX3_40 (v := .int (zI (F 4))) rfl dX3_faultsOf_11 ?_
      refine z_icmp_ge (a := i) (b := F 4) (tgt := 124) hx hb dX3_faultsOf_14 (by decide) (by omega) (by omega) (fun h_14 => ?_) (fun h_14 => ?_)
      · skip
        refine lv_iload_n hx hb dX3_faultsOf_124 rfl (lv_at hl 2 rfl) ?_
        exact e_Wi (r := z) hx hb hr hlk (n_i _) hS (by omega) (by omega) ⟨by rw [h2, show F 4 = i by omega], A2, B2, hP, kp2, e24⟩ dX3_faultsOf_125
      · skip
        have hmn := hVM.many (v := i) (by omega)
        have hbr := bgM_rng hVM (v := i) (by omega) (e := A 0 i) (by omega)
        have eA0 : A2 0 i = A 0 i := by rw [kp2.1]
        have d1 : 0 ≤ bgM B i (A 0 i) / (F 1 * 384 / F 2) := Int.ediv_nonneg (by omega) (by omega)
        have d2 : bgM B i (A 0 i) / (F 1 * 384 / F 2) ≤ bgM B i (A 0 i) := Int.ediv_le_self _ (by omega)
        refine lv_iload_n hx hb dX3_faultsOf_17 rfl (lv_at hl 2 rfl) ?_
        refine z_iconst hx hb dX3_faultsOf_18 ?_
        refine lv_iload_n hx hb dX3_faultsOf_19 rfl (lv_at hl 1 rfl) ?_
        refine lv_aload_n hx hb dX3_faultsOf_20 rfl (lv_at hl 3 rfl) ?_
        refine zm_get hx hb hK hts hown hP 7 (by decide) q_fl_RX3_25 (v := .ref (ad 7)) rfl dX3_faultsOf_21 ?_
        refine lv_iload_n hx hb dX3_faultsOf_24 rfl (lv_at hl 0 rfl) ?_
        refine zm_lA1 hx hb hK hP (i := i) (by omega) dX3_faultsOf_25 ?_
        rw [(tm2 i h0 (by omega)).1]
        refine lv_aload_n hx hb dX3_faultsOf_26 rfl (lv_at hl 3 rfl) ?_
        refine k_R (c_VR (As := []) (rest := [.int (zI (bgM B i (A 0 i))), .int (zI (barsM F A B (F 4))), .int (zI (0)), .int (zI (z))]) ⟨hx, hb, hml, hown, hts⟩ hG hS hA (c_X3_bar l G ad F A2 B2 hok2) ⟨q_ml_RX3_81, q_im_X3_bar, q_sel_X3_bar, q_ini_RX3, q_code_X3_bar⟩ hv_X3_bar (MP.rec hK hP) hP ⟨by decide, by decide⟩ ⟨Nat.zero_le _, Nat.zero_le _⟩ rfl hl.1 rfl (Nat.le_of_ble_eq_true rfl) dX3_faultsOf_27) ?_
        refine z_idiv hx hb dX3_faultsOf_30 (by omega) (by omega) ?_
        refine z_isub (x := barsM F A B (F 4)) (y := (bgM B i (A 0 i)) / ((F 1) * 384 / (F 2))) hx hb dX3_faultsOf_31 ?_
        refine k_R (c_SR (As := [.int (zI (0)), .int (zI ((barsM F A B (F 4)) - ((bgM B i (A 0 i)) / ((F 1) * 384 / (F 2)))))]) (rest := [.int (zI (z))]) ⟨hx, hb, hml, hown, hts⟩ hG hS hA (c_J9_max_7cf53 l G 0 ((barsM F A B (F 4)) - ((bgM B i (A 0 i)) / ((F 1) * 384 / (F 2)))) (show -2147483648 ≤ 0 ∧ 0 ≤ 2147483647 by omega) (show -2147483648 ≤ ((barsM F A B (F 4)) - ((bgM B i (A 0 i)) / ((F 1) * 384 / (F 2)))) ∧ ((barsM F A B (F 4)) - ((bgM B i (A 0 i)) / ((F 1) * 384 / (F 2)))) ≤ 2147483647 by omega)) ⟨q_ml_RX3_92, q_st_J9_max_7cf53, q_ini_RJ9, q_code_J9_max_7cf53⟩ hs_J9_max_7cf53 trivial ⟨by decide, by decide⟩ ⟨Nat.zero_le _, Nat.zero_le _⟩ rfl hl.1 rfl (Nat.le_of_ble_eq_true rfl) dX3_faultsOf_32) ?_
        refine z_iadd (x := z) (y := max 0 ((barsM F A B (F 4)) - ((bgM B i (A 0 i)) / ((F 1) * 384 / (F 2))))) hx hb dX3_faultsOf_35 ?_
        obtain ⟨z9, hz9⟩ : ∃ z9, z9 = z + max 0 (barsM F A B (F 4) - bgM B i (A 0 i) / (F 1 * 384 / F 2)) := ⟨_, rfl⟩
        rw [← hz9]
        refine lv_istore_n (lv' := [(1, .int (zI (z9))), (3, .int (zI (i))), (2, .int (zI (barsM F A B (F 4)))), (0, .ref (ad 0))]) hx hb dX3_faultsOf_36 rfl hl (by decide) rfl (fun ls hl => ?_)
        refine z_iconst hx hb dX3_faultsOf_37 ?_
        refine lv_istore (lv' := [(4, .int (zI (0))), (1, .int (zI (z9))), (3, .int (zI (i))), (2, .int (zI (barsM F A B (F 4)))), (0, .ref (ad 0))]) hx hb dX3_faultsOf_38 hl (by decide) rfl (fun ls hl => ?_)
        rw [show z9 = z9 + 0 by omega] at hl
        have lp_40 : ∀ (n : Nat) (j u : Int), 0 ≤ j → j ≤ A 0 i → u = lzM A B i j → (0 ≤ u ∧ u ≤ j) → A 0 i - j < n → ∀ (H : Heap) (locs : List Loc), MP G ad F A2 B2 H → va_S (fA 11 ad s.heap.size) s.heap H locs → ∀ (ls : Array Slot), lv_has ls 5 [(4, .int (zI (j))), (1, .int (zI (z9 + u))), (3, .int (zI (i))), (2, .int (zI (barsM F A B (F 4)))), (0, .ref (ad 0))] → W p l env (rmz 4 90 0 0) s m (([.ref (ad 0)] : List Value).toArray) below meth c H locs 0 0 (MQ below (QW (fA 11 ad s.heap.size) (fun r H => r = fauM F A B (F 4) ∧ ∃ A' B', MP G ad F A' B' H ∧ KP A B A' B' ∧ A' 4 = A 4)) (([.ref (ad 0)] : List Value).toArray) s 0 0 (fA 11 ad s.heap.size)) (F0 m 40 ls []) := by
          intro n
          induction n with
          | zero => intro j u hj0 hj1 hu hu1 hmj H locs hP hS ls hl; exact absurd hmj (by omega)
          | succ n ih2 =>
            intro j u hj0 hj1 hu hu1 hmj H locs hP hS ls hl
            have hl9 : lzM A B i (j + 1) = lzM A B i j + if B i (10 * j + 6) = 1 ∧ ¬ jmM A B i j then 1 else 0 := pf_s _ _ hj0
            refine lv_iload hx hb dX3_faultsOf_40 (lv_at hl 0 rfl) ?_
            refine lv_aload_n hx hb dX3_faultsOf_42 rfl (lv_at hl 4 rfl) ?_
            refine zm_get hx hb hK hts hown hP 5 (by decide) q_fl_RX3_16 (v := .ref (ad 1)) rfl dX3_faultsOf_43 ?_
            refine lv_iload_n hx hb dX3_faultsOf_46 rfl (lv_at hl 2 rfl) ?_
            refine zm_lA0 hx hb hK hP (i := i) (by omega) dX3_faultsOf_47 ?_
            refine z_icmp_ge (a := j) (b := A2 0 (i)) (tgt := 88) hx hb dX3_faultsOf_48 (by decide) (by omega) (by omega) (fun h_48 => ?_) (fun h_48 => ?_)
            · skip
              have hu9 : lzM A B i (A 0 i) = u := by rw [hu, show A 0 i = j by omega]
              refine lv_iload_n hx hb dX3_faultsOf_88 rfl (lv_at hl 2 rfl) ?_
              refine z_iconst hx hb dX3_faultsOf_89 ?_
              refine z_iadd (x := i) (y := 1) hx hb dX3_faultsOf_90 ?_
              refine lv_istore (lv' := [(4, .int (zI ((i) + (1)))), (1, .int (zI (z9 + u))), (3, .int (zI (i))), (2, .int (zI (barsM F A B (F 4)))), (0, .ref (ad 0))]) hx hb dX3_faultsOf_91 hl (by decide) rfl (fun ls hl => ?_)
              rw [show z9 + u = z9 + u + 0 by omega] at hl
              have lp_93 : ∀ (n : Nat) (b w : Int), i < b → b ≤ F 4 → w = psM A B i b → (0 ≤ w ∧ w ≤ b * 200) → F 4 - b < n → ∀ (H : Heap) (locs : List Loc), MP G ad F A2 B2 H → va_S (fA 11 ad s.heap.size) s.heap H locs → ∀ (ls : Array Slot), lv_has ls 5 [(4, .int (zI (b))), (1, .int (zI (z9 + u + w))), (3, .int (zI (i))), (2, .int (zI (barsM F A B (F 4)))), (0, .ref (ad 0))] → W p l env (rmz 4 90 0 0) s m (([.ref (ad 0)] : List Value).toArray) below meth c H locs 0 0 (MQ below (QW (fA 11 ad s.heap.size) (fun r H => r = fauM F A B (F 4) ∧ ∃ A' B', MP G ad F A' B' H ∧ KP A B A' B' ∧ A' 4 = A 4)) (([.ref (ad 0)] : List Value).toArray) s 0 0 (fA 11 ad s.heap.size)) (F0 m 93 ls []) := by
                intro n
                induction n with
                | zero => intro b w hb0 hb1 hw hw1 hmb H locs hP hS ls hl; exact absurd hmb (by omega)
                | succ n ih3 =>
                  intro b w hb0 hb1 hw hw1 hmb H locs hP hS ls hl
                  have hp9 : psM A B i (b + 1) = if i < b then psM A B i b + parM A B i b else psM A B i b := pf_s _ _ (by omega)
                  rw [if_pos hb0] at hp9
                  refine lv_iload hx hb dX3_faultsOf_93 (lv_at hl 0 rfl) ?_
                  refine lv_aload_n hx hb dX3_faultsOf_95 rfl (lv_at hl 4 rfl) ?_
                  refine zm_get hx hb hK hts hown hP 4 (by decide) q_fl_RX3_40 (v := .int (zI (F 4))) rfl dX3_faultsOf_96 ?_
                  refine z_icmp_ge (a := b) (b := F 4) (tgt := 118) hx hb dX3_faultsOf_99 (by decide) (by omega) (by omega) (fun h_99 => ?_) (fun h_99 => ?_)
                  · skip
                    have hw9 : psM A B i (F 4) = w := by rw [hw, show F 4 = b by omega]
                    refine z_iinc (lv' := [(3, .int (zI (i + 1))), (4, .int (zI (b))), (1, .int (zI (z9 + u + w))), (2, .int (zI (barsM F A B (F 4)))), (0, .ref (ad 0))]) hx hb dX3_faultsOf_118 hl (k := 2) rfl (by decide) rfl (fun ls hl => ?_)
                    refine lv_goto (tgt := 9) hx hb dX3_faultsOf_121 (by decide) ?_
                    exact ih (i + 1) (z9 + u + w) (by omega) (by omega) (by rw [hs, ← h2, ← hz9, hu9, hw9]) (by omega) (by omega) H _ hP hS _ (lv_sub hl [0, 3, 2, 4] rfl)
                  · skip
                    refine lv_iload_n hx hb dX3_faultsOf_102 rfl (lv_at hl 1 rfl) ?_
                    refine lv_aload_n hx hb dX3_faultsOf_103 rfl (lv_at hl 4 rfl) ?_
                    refine lv_iload_n hx hb dX3_faultsOf_104 rfl (lv_at hl 2 rfl) ?_
                    refine lv_iload hx hb dX3_faultsOf_105 (lv_at hl 0 rfl) ?_
                    have hpr : 0 ≤ parM A B i b ∧ parM A B i b ≤ A 0 i := plF_rng A B i b hmn.1
                    refine k_R (c_VR (As := [.int (zI (i)), .int (zI (b))]) (rest := [.int (zI (z9 + u + w))]) ⟨hx, hb, hml, hown, hts⟩ hG hS hA (c_X3_parallels l G ad F A2 B2 i b (by omega) (by omega) (fun k q0 q1 => by rw [kp2.bg i k]; exact (tm2 i h0 (by omega)).2 k q0 (by rw [← kp2.1]; exact q1)) (fun k q0 q1 => by rw [kp2.bg b k]; exact (tm2 b (by omega) (by omega)).2 k q0 (by rw [← kp2.1]; exact q1)) hok2) ⟨q_ml_RX3_166, q_im_X3_parallels, q_sel_X3_parallels, q_ini_RX3, q_code_X3_parallels⟩ hv_X3_parallels (MP.rec hK hP) hP ⟨by decide, by decide⟩ ⟨Nat.zero_le _, Nat.zero_le _⟩ rfl hl.1 rfl (Nat.le_of_ble_eq_true rfl) dX3_faultsOf_107) ?_
                    rw [kp2.par i b]
                    refine z_iadd (x := z9 + u + w) (y := parM A B i b) hx hb dX3_faultsOf_110 ?_
                    rw [Int.add_assoc (z9 + u) w]
                    refine lv_istore_n (lv' := [(1, .int (zI (z9 + u + (w + parM A B i b)))), (4, .int (zI (b))), (3, .int (zI (i))), (2, .int (zI (barsM F A B (F 4)))), (0, .ref (ad 0))]) hx hb dX3_faultsOf_111 rfl hl (by decide) rfl (fun ls hl => ?_)
                    refine z_iinc (lv' := [(4, .int (zI (b + 1))), (1, .int (zI (z9 + u + (w + parM A B i b)))), (3, .int (zI (i))), (2, .int (zI (barsM F A B (F 4)))), (0, .ref (ad 0))]) hx hb dX3_faultsOf_112 hl (k := 1) rfl (by decide) rfl (fun ls hl => ?_)
                    refine lv_goto (tgt := 93) hx hb dX3_faultsOf_115 (by decide) ?_
                    exact ih3 (b + 1) (w + parM A B i b) (by omega) (by omega) (by rw [hp9, ← hw]) (by omega) (by omega) H _ hP hS _ (lv_sub hl [0, 1, 2, 3, 4] rfl)
              exact lp_93 5 (i + 1) 0 (by omega) (by omega) (psM_low A B i (by omega)).symm (by omega) (by omega) H _ hP hS _ (lv_sub hl [0, 1, 2, 3, 4] rfl)
            · skip
              have hel := hVM.el (v := i) (by omega) (e := j) (by omega)
              refine lv_iload_n hx hb dX3_faultsOf_51 rfl (lv_at hl 1 rfl) ?_
              refine lv_aload_n hx hb dX3_faultsOf_52 rfl (lv_at hl 4 rfl) ?_
              refine lv_iload_n hx hb dX3_faultsOf_53 rfl (lv_at hl 2 rfl) ?_
              refine lv_iload hx hb dX3_faultsOf_54 (lv_at hl 0 rfl) ?_
              refine z_bipush hx hb dX3_faultsOf_56 (by decide) ?_
              refine k_R (c_VR (As := [.int (zI (i)), .int (zI (j)), .int (zI (6))]) (rest := [.int (zI (z9 + u))]) ⟨hx, hb, hml, hown, hts⟩ hG hS hA (c_X3_get l G ad F A2 B2 i j 6 (show 0 ≤ i ∧ i < 4 by omega) (show 0 ≤ 10 * j + 6 ∧ 10 * j + 6 < 2000 by omega)) ⟨q_ml_RX3_57, q_im_X3_get, q_sel_X3_get, q_ini_RX3, q_code_X3_get⟩ hv_X3_get (MP.rec hK hP) hP ⟨by decide, by decide⟩ ⟨Nat.zero_le _, Nat.zero_le _⟩ rfl hl.1 rfl (Nat.le_of_ble_eq_true rfl) dX3_faultsOf_58) ?_
              rw [kp2.2 i j 6 (by omega) (by omega)]
              refine z_iconst hx hb dX3_faultsOf_61 ?_
              refine z_icmp_ne (a := B i (10 * j + 6)) (b := 1) (tgt := 79) hx hb dX3_faultsOf_62 (by decide) (by omega) (by omega) (fun h_62 => ?_) (fun h_62 => ?_)
              · skip
                refine z_iconst hx hb dX3_faultsOf_79 ?_
                refine z_iadd (x := z9 + u) (y := 0) hx hb dX3_faultsOf_80 ?_
                rw [Int.add_assoc z9 u]
                refine lv_istore_n (lv' := [(1, .int (zI (z9 + (u + 0)))), (4, .int (zI (j))), (3, .int (zI (i))), (2, .int (zI (barsM F A B (F 4)))), (0, .ref (ad 0))]) hx hb dX3_faultsOf_81 rfl hl (by decide) rfl (fun ls hl => ?_)
                refine z_iinc (lv' := [(4, .int (zI (j + 1))), (1, .int (zI (z9 + (u + 0)))), (3, .int (zI (i))), (2, .int (zI (barsM F A B (F 4)))), (0, .ref (ad 0))]) hx hb dX3_faultsOf_82 hl (k := 1) rfl (by decide) rfl (fun ls hl => ?_)
                refine lv_goto (tgt := 40) hx hb dX3_faultsOf_85 (by decide) ?_
                exact ih2 (j + 1) _ (by omega) (by omega) (by rw [hl9, ← hu]; first | rw [if_pos (by omega)] | rw [if_neg (by omega)]) (by omega) (by omega) H _ hP hS _ (lv_sub hl [0, 1, 2, 3, 4] rfl)
              · skip
                refine lv_aload_n hx hb dX3_faultsOf_65 rfl (lv_at hl 4 rfl) ?_
                refine lv_iload_n hx hb dX3_faultsOf_66 rfl (lv_at hl 2 rfl) ?_
                refine lv_iload hx hb dX3_faultsOf_67 (lv_at hl 0 rfl) ?_
                refine k_R (c_VR (As := [.int (zI (i)), .int (zI (j))]) (rest := [.int (zI (z9 + u))]) ⟨hx, hb, hml, hown, hts⟩ hG hS hA (c_X3_isJoined l G ad F A2 B2 i j (by omega) (by omega) hok2) ⟨q_ml_RX3_136, q_im_X3_isJoined, q_sel_X3_isJoined, q_ini_RX3, q_code_X3_isJoined⟩ hv_X3_isJoined (MP.rec hK hP) hP ⟨by decide, by decide⟩ ⟨Nat.zero_le _, Nat.zero_le _⟩ rfl hl.1 rfl (Nat.le_of_ble_eq_true rfl) dX3_faultsOf_69) ?_
                rw [bI_eqP (kp2.jm i j)]
                refine z_bif_ne (q := jmM A B i j) (tgt := 79) hx hb dX3_faultsOf_72 (by decide) (fun h_72 => ?_) (fun h_72 => ?_)
                · skip
                  refine z_iconst hx hb dX3_faultsOf_79 ?_
                  refine z_iadd (x := z9 + u) (y := 0) hx hb dX3_faultsOf_80 ?_
                  rw [Int.add_assoc z9 u]
                  refine lv_istore_n (lv' := [(1, .int (zI (z9 + (u + 0)))), (4, .int (zI (j))), (3, .int (zI (i))), (2, .int (zI (barsM F A B (F 4)))), (0, .ref (ad 0))]) hx hb dX3_faultsOf_81 rfl hl (by decide) rfl (fun ls hl => ?_)
                  refine z_iinc (lv' := [(4, .int (zI (j + 1))), (1, .int (zI (z9 + (u + 0)))), (3, .int (zI (i))), (2, .int (zI (barsM F A B (F 4)))), (0, .ref (ad 0))]) hx hb dX3_faultsOf_82 hl (k := 1) rfl (by decide) rfl (fun ls hl => ?_)
                  refine lv_goto (tgt := 40) hx hb dX3_faultsOf_85 (by decide) ?_
                  exact ih2 (j + 1) _ (by omega) (by omega) (by rw [hl9, ← hu]; first | rw [if_pos (by omega)] | rw [if_neg (by omega)]) (by omega) (by omega) H _ hP hS _ (lv_sub hl [0, 1, 2, 3, 4] rfl)
                · skip
                  refine z_iconst hx hb dX3_faultsOf_75 ?_
                  refine lv_goto (tgt := 80) hx hb dX3_faultsOf_76 (by decide) ?_
                  refine z_iadd (x := z9 + u) (y := 1) hx hb dX3_faultsOf_80 ?_
                  rw [Int.add_assoc z9 u]
                  refine lv_istore_n (lv' := [(1, .int (zI (z9 + (u + 1)))), (4, .int (zI (j))), (3, .int (zI (i))), (2, .int (zI (barsM F A B (F 4)))), (0, .ref (ad 0))]) hx hb dX3_faultsOf_81 rfl hl (by decide) rfl (fun ls hl => ?_)
                  refine z_iinc (lv' := [(4, .int (zI (j + 1))), (1, .int (zI (z9 + (u + 1)))), (3, .int (zI (i))), (2, .int (zI (barsM F A B (F 4)))), (0, .ref (ad 0))]) hx hb dX3_faultsOf_82 hl (k := 1) rfl (by decide) rfl (fun ls hl => ?_)
                  refine lv_goto (tgt := 40) hx hb dX3_faultsOf_85 (by decide) ?_
                  exact ih2 (j + 1) _ (by omega) (by omega) (by rw [hl9, ← hu]; first | rw [if_pos (by omega)] | rw [if_neg (by omega)]) (by omega) (by omega) H _ hP hS _ (lv_sub hl [0, 1, 2, 3, 4] rfl)
        exact lp_40 201 0 0 (by omega) (by omega) rfl (by omega) (by omega) H _ hP hS _ (lv_sub hl [0, 1, 2, 3, 4] rfl)
  exact lp_9 5 0 0 (by omega) (by omega) rfl (by omega) (by omega) H1 _ hP hS _ (lv_sub hl [0, 1, 2, 3] rfl)
