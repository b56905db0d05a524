theorem KP.jm {A A' : Nat → Int → Int} {B B' : Int → Int → Int} (h : KP A B A' B') (v e : Int) : jmM A' B' v e = jmM A B v e := by
  unfold jmM
  rw [h.1, h.tn v e, h.tn v (e + 1), h.2 v e 6 (by omega) (by omega)]
theorem bI_eqP {p q : Prop} [Decidable p] [Decidable q] (h : p = q) : bI p = bI q := by
  subst h
  unfold bI
  split <;> rfl
def bJ (A : Nat → Int → Int) (B : Int → Int → Int) (v e : Int) : Int := if jmM A B v e then 0 else 1
theorem bJ_t {A : Nat → Int → Int} {B : Int → Int → Int} {v e : Int} (h : jmM A B v e) : bJ A B v e = 0 := if_pos h
theorem bJ_f {A : Nat → Int → Int} {B : Int → Int → Int} {v e : Int} (h : ¬ jmM A B v e) : bJ A B v e = 1 := if_neg h
theorem bJ_01 (A : Nat → Int → Int) (B : Int → Int → Int) (v e : Int) : 0 ≤ bJ A B v e ∧ bJ A B v e ≤ 1 := by
  unfold bJ
  split <;> omega
/-- how many sounds begin and end at an element -/
def ecS (A : Nat → Int → Int) (B : Int → Int → Int) (v e : Int) : Int := if B v (10 * e + 2) = 0 then 0 else bJ A B v (e - 1) + bJ A B v e
def ec (A : Nat → Int → Int) (B : Int → Int → Int) (v : Int) : Int → Int := pf 0 (fun e a => a + ecS A B v e)
def ecT (A : Nat → Int → Int) (B : Int → Int → Int) : Int → Int := pf 0 (fun v a => a + ec A B v (A 0 v))
theorem ecS_rng (A : Nat → Int → Int) (B : Int → Int → Int) (v e : Int) : 0 ≤ ecS A B v e ∧ ecS A B v e ≤ 2 := by
  have h1 := bJ_01 A B v (e - 1)
  have h2 := bJ_01 A B v e
  unfold ecS
  split <;> omega
theorem pf_add_mono {f : Int → Int} {lo hi : Int} {a b : Int} (h0 : 0 ≤ a) (hab : a ≤ b) (hf : ∀ i, a ≤ i → i < b → lo ≤ f i ∧ f i ≤ hi) : lo * (b - a) ≤ pf 0 (fun e z => z + f e) b - pf 0 (fun e z => z + f e) a ∧ pf 0 (fun e z => z + f e) b - pf 0 (fun e z => z + f e) a ≤ hi * (b - a) := by
  obtain ⟨k, rfl⟩ : ∃ k : Nat, b = a + k := ⟨(b - a).toNat, by omega⟩
  induction k with
  | zero => simp
  | succ k ih =>
    have q := ih (by omega) (fun i h1 h2 => hf i h1 (by omega))
    have r := hf (a + k) (by omega) (by omega)
    rw [show a + ((k + 1 : Nat) : Int) = a + k + 1 by omega, pf_s _ _ (by omega)]
    show lo * (a + k + 1 - a) ≤ pf 0 (fun e z => z + f e) (a + k) + f (a + k) - pf 0 (fun e z => z + f e) a ∧ pf 0 (fun e z => z + f e) (a + k) + f (a + k) - pf 0 (fun e z => z + f e) a ≤ hi * (a + k + 1 - a)
    rw [show a + (k : Int) + 1 - a = (a + k - a) + 1 by omega, Int.mul_add, Int.mul_add, Int.mul_one, Int.mul_one]
    omega
theorem ec_rng (A : Nat → Int → Int) (B : Int → Int → Int) (v : Int) {a b : Int} (h0 : 0 ≤ a) (hab : a ≤ b) : ec A B v a ≤ ec A B v b ∧ ec A B v b ≤ ec A B v a + 2 * (b - a) := by
  have q := pf_add_mono (f := ecS A B v) (lo := 0) (hi := 2) h0 hab (fun i _ _ => ecS_rng A B v i)
  unfold ec
  omega
theorem ec_0 (A : Nat → Int → Int) (B : Int → Int → Int) (v : Int) : ec A B v 0 = 0 := rfl
theorem ec_s (A : Nat → Int → Int) (B : Int → Int → Int) (v : Int) {e : Int} (h : 0 ≤ e) : ec A B v (e + 1) = ec A B v e + ecS A B v e := pf_s _ _ h
theorem ecT_s (A : Nat → Int → Int) (B : Int → Int → Int) {v : Int} (h : 0 ≤ v) : ecT A B (v + 1) = ecT A B v + ec A B v (A 0 v) := pf_s _ _ h
theorem ecT_rng {F : Nat → Int} {A : Nat → Int → Int} {B : Int → Int → Int} (hM : MOK F A B) {a b : Int} (h0 : 0 ≤ a) (hab : a ≤ b) (hb : b ≤ 4) : ecT A B a ≤ ecT A B b ∧ ecT A B b ≤ ecT A B a + 400 * (b - a) := by
  have q := pf_add_mono (f := fun v => ec A B v (A 0 v)) (lo := 0) (hi := 400) h0 hab (fun i h1 h2 => by
    have hm := hM.many (v := i) (by omega)
    have r := ec_rng A B i (a := 0) (b := A 0 i) (by omega) hm.1
    rw [ec_0] at r
    show 0 ≤ ec A B i (A 0 i) ∧ ec A B i (A 0 i) ≤ 400
    omega)
  unfold ecT
  omega
/-- the events, as they are put -/
def evS (A : Nat → Int → Int) (B : Int → Int → Int) (v e : Int) (g : Int → Int) : Int → Int :=
  if B v (10 * e + 2) = 0 then g else if jmM A B v e then (if jmM A B v (e - 1) then g else ptE g (ecT A B v + ec A B v e) (bgM B v e) v (mTn B v e) 1)
    else ptE (if jmM A B v (e - 1) then g else ptE g (ecT A B v + ec A B v e) (bgM B v e) v (mTn B v e) 1) (ecT A B v + ec A B v e + bJ A B v (e - 1)) (bgM B v e + mTk B v e) v (mTn B v e) 0
def evF (A : Nat → Int → Int) (B : Int → Int → Int) (v : Int) (g : Int → Int) : Int → Int → Int := pf g (evS A B v)
def evO (A : Nat → Int → Int) (B : Int → Int → Int) (g : Int → Int) : Int → Int → Int := pf g (fun v h => evF A B v h (A 0 v))
theorem evO_s (A : Nat → Int → Int) (B : Int → Int → Int) (g : Int → Int) {v : Int} (h : 0 ≤ v) : evO A B g (v + 1) = evF A B v (evO A B g v) (A 0 v) := pf_s _ _ h
theorem evF_s (A : Nat → Int → Int) (B : Int → Int → Int) (v : Int) (g : Int → Int) {e : Int} (h : 0 ≤ e) : evF A B v g (e + 1) = evS A B v e (evF A B v g e) := pf_s _ _ h
abbrev rngI (g : Int → Int) : Prop := ∀ k, 0 ≤ k → k < 6400 → -2147483648 ≤ g k ∧ g k ≤ 2147483647
theorem ptE_rng {g : Int → Int} {m x v t b : Int} (hg : rngI g) (hm : 0 ≤ m ∧ m ≤ 1599) (h1 : -2147483648 ≤ x ∧ x ≤ 2147483647) (h2 : -2147483648 ≤ v ∧ v ≤ 2147483647) (h3 : -2147483648 ≤ t ∧ t ≤ 2147483647) (h4 : -2147483648 ≤ b ∧ b ≤ 2147483647) : rngI (ptE g m x v t b) := by
  intro k k0 k1
  have q : 0 ≤ ptQ g x v b m ∧ ptQ g x v b m ≤ m := pd_le hm.1
  unfold ptE
  generalize ptQ g x v b m = z at q
  unfold zcp n4 zU
  by_cases h : 4 * z ≤ k ∧ k < 4 * z + 4
  · rw [if_pos h]
    (repeat' split) <;> omega
  · rw [if_neg h]
    by_cases h' : 4 * (z + 1) ≤ k ∧ k < 4 * (z + 1) + 4 * (m - z)
    · rw [if_pos h']
      exact hg _ (by omega) (by omega)
    · rw [if_neg h']
      exact hg k k0 k1
set_option maxHeartbeats 2000000 in
theorem c_X3_findEvents (l : Launch) (G : zG) (ad : Nat → Nat) (F : Nat → Int) (A : Nat → Int → Int) (B : Int → Int → Int) (sz : Nat) (hVM : MOK F A B) (hVe : rngI (A 4)) : MW l yX3_findEvents cX3_findEvents 3 none 3 68 ((ecT A B (F 4)).toNat) (4 * (ecT A B (F 4)).toNat) G [.ref (ad 0)] (fA 11 ad sz) sz (MP G ad F A B) (QV (fA 11 ad sz) (fun H => ∃ A' B', MP G ad (zN F 5 (ecT A B (F 4))) A' B' H ∧ KP A B A' B' ∧ (∀ u, 0 ≤ u → u < F 4 → TM (A 0 u) B u A' B') ∧ A' 4 = evO A B (A 4) (F 4) ∧ rngI (A' 4))) := by
  refine mw_of hp_X3_findEvents (Nat.le_of_ble_eq_true rfl) ?_
  intro p env s m below meth c ls hB hsz hP hl
  obtain ⟨hx, hb, hml, hr, hlk, hown, hts, hG⟩ := hB
  subst hsz
  have hK := hG.1
  have hS : va_S (fA 11 ad s.heap.size) s.heap s.heap [] := va_S.rf
  have hA : ∀ q : Nat, (fA 11 ad s.heap.size) q → G.2.2 ≤ q := fA_lo hP.1.2 hG.2.1
  have hD : ∀ k, k < 11 → (fA 11 ad s.heap.size) (ad k) := fun k hk => fA_in hk
  have hl : lv_has ls 3 [(0, .ref (ad 0))] := hl
  have h4b := hVM.2.2.2.1
  refine lv_aload_n hx hb dX3_findEvents_0 rfl (lv_at hl 0 rfl) ?_
  refine z_iconst hx hb dX3_findEvents_1 ?_
  refine zm_put (x := 0) hx hb hK hts hown hP hS (hD 0 (by decide)) 5 (by decide) q_fl_RX3_175 dX3_findEvents_2 (fun H locs hP hz ho hS => ?_)
  refine z_iconst hx hb dX3_findEvents_5 ?_
  refine lv_istore_n (lv' := [(1, .int (zI (0))), (0, .ref (ad 0))]) hx hb dX3_findEvents_6 rfl hl (by decide) rfl (fun ls hl => ?_)
  have lp_7 : ∀ (n : Nat) (i : Int) (cN sN : Nat) (A1 : Nat → Int → Int) (B1 : Int → Int → Int), 0 ≤ i → i ≤ F 4 → cN = (ecT A B i).toNat → sN = 4 * (ecT A B i).toNat → KP A B A1 B1 → (∀ u, 0 ≤ u → u < i → TM (A 0 u) B u A1 B1) → A1 4 = evO A B (A 4) i → rngI (A1 4) → F 4 - i < n → ∀ (H : Heap) (locs : List Loc), MP G ad (zN F 5 ((ecT A B i))) A1 B1 H → va_S (fA 11 ad s.heap.size) s.heap H locs → ∀ (ls : Array Slot), lv_has ls 3 [(1, .int (zI (i))), (0, .ref (ad 0))] → W p l env (rmz 3 68 (ecT A B (F 4)).toNat (4 * (ecT A B (F 4)).toNat)) s m (([.ref (ad 0)] : List Value).toArray) below meth c H locs cN sN (MQ below (QV (fA 11 ad s.heap.size) (fun H => ∃ A' B', MP G ad (zN F 5 (ecT A B (F 4))) A' B' H ∧ KP A B A' B' ∧ (∀ u, 0 ≤ u → u < F 4 → TM (A 0 u) B u A' B') ∧ A' 4 = evO A B (A 4) (F 4) ∧ rngI (A' 4))) (([.ref (ad 0)] : List Value).toArray) s (ecT A B (F 4)).toNat (4 * (ecT A B (F 4)).toNat) (fA 11 ad s.heap.size)) (F0 m 7 ls []) := by
    intro n
    induction n with
    | zero => intro i cN sN A1 B1 h0 h1 hcN hsN hkp htm hev hre hm H locs hP hS ls hl; exact absurd hm (by omega)
    | succ n ih =>
      intro i cN sN A1 B1 h0 h1 hcN hsN hkp htm hev hre hm H locs hP hS ls hl
      have hTb := ecT_rng hVM (a := i) (b := F 4) h0 (by omega) (by omega)
      have hT0 := ecT_rng hVM (a := 0) (b := i) (by omega) h0 (by omega)
      have hT00 : ecT A B 0 = 0 := rfl
      refine lv_iload_n hx hb dX3_findEvents_7 rfl (lv_at hl 0 rfl) ?_
      refine lv_aload_n hx hb dX3_findEvents_8 rfl (lv_at hl 1 rfl) ?_
      refine zm_get hx hb hK hts hown hP 4 (by decide) q_fl_RX3_40 (v := .int (zI (F 4))) rfl dX3_findEvents_9 ?_
      refine z_icmp_ge (a := i) (b := F 4) (tgt := 124) hx hb dX3_findEvents_12 (by decide) (by omega) (by omega) (fun h_12 => ?_) (fun h_12 => ?_)
      · skip
        have h9 : F 4 = i := by omega
        have hfin : ecT A B (F 4) = ecT A B i := by rw [h9]
        exact e_Wv hx hb hr hlk hS (by omega) (by omega) ⟨A1, B1, (by rw [hfin]; exact hP), hkp, (fun u q0 q1 => htm u q0 (by omega)), (by rw [h9]; exact hev), hre⟩ dX3_findEvents_124
      · skip
        refine lv_aload_n hx hb dX3_findEvents_15 rfl (lv_at hl 1 rfl) ?_
        refine lv_iload_n hx hb dX3_findEvents_16 rfl (lv_at hl 0 rfl) ?_
        refine k_Wv (c_VW (As := [.int (zI (i))]) (rest := []) ⟨hx, hb, hml, hown, hts⟩ hG hS hA (c_X3_findTimes l G ad (zN F 5 ((ecT A B i))) A1 B1 i H.size (by omega) ((hkp.ok hVM).F5 _)) ⟨q_ml_RX3_88, q_im_X3_findTimes, q_sel_X3_findTimes, q_ini_RX3, q_code_X3_findTimes⟩ hv_X3_findTimes (MP.rec hK hP) hP ⟨Nat.le_of_ble_eq_true rfl, Nat.le_of_ble_eq_true rfl⟩ ⟨(show _ ≤ (ecT A B (F 4)).toNat by omega), (show _ ≤ 4 * (ecT A B (F 4)).toNat by omega)⟩ rfl hl.1 rfl (Nat.le_of_ble_eq_true rfl) dX3_findEvents_17) hS (fA_mono hS.1) (fun H1 locs1 hq hz1 hk1 hS => ?_)
        rw [hkp.bg' i, hkp.1] at hq
        obtain ⟨A2, B2, hP, kp2, tm2, e4⟩ : ∃ A2 B2, MP G ad (zN F 5 (ecT A B i)) A2 B2 H1 ∧ KP A B A2 B2 ∧ (∀ u, 0 ≤ u → u < i + 1 → TM (A 0 u) B u A2 B2) ∧ A2 4 = A1 4 := ⟨_, _, hq, (hkp.A (by decide) i _).C i _ _ (by omega), TM.next htm, zR_off _ _ (by decide)⟩
        have hmn := hVM.many (v := i) (by omega)
        refine z_iconst hx hb dX3_findEvents_20 ?_
        refine lv_istore_n (lv' := [(2, .int (zI (0))), (1, .int (zI (i))), (0, .ref (ad 0))]) hx hb dX3_findEvents_21 rfl hl (by decide) rfl (fun ls hl => ?_)
        have hP : MP G ad (zN F 5 (ecT A B i + ec A B i 0)) A2 B2 H1 := by rw [ec_0, Int.add_zero]; exact hP
        have hTs := ecT_s A B h0
        have hTb1 := ecT_rng hVM (a := i + 1) (b := F 4) (by omega) (by omega) (by omega)
        have lp_22 : ∀ (n : Nat) (j : Int) (cN sN : Nat) (A3 : Nat → Int → Int) (B3 : Int → Int → Int), 0 ≤ j → j ≤ A 0 i → cN = (ecT A B i + ec A B i j).toNat → sN = 4 * (ecT A B i + ec A B i j).toNat → KP A B A3 B3 → (∀ u, 0 ≤ u → u < i + 1 → TM (A 0 u) B u A3 B3) → A3 4 = (evF A B i (evO A B (A 4) i) j) → rngI (A3 4) → A 0 i - j < n → ∀ (H : Heap) (locs : List Loc), MP G ad (zN F 5 ((ecT A B i + ec A B i j))) A3 B3 H → va_S (fA 11 ad s.heap.size) s.heap H locs → ∀ (ls : Array Slot), lv_has ls 3 [(2, .int (zI (j))), (1, .int (zI (i))), (0, .ref (ad 0))] → W p l env (rmz 3 68 (ecT A B (F 4)).toNat (4 * (ecT A B (F 4)).toNat)) s m (([.ref (ad 0)] : List Value).toArray) below meth c H locs cN sN (MQ below (QV (fA 11 ad s.heap.size) (fun H => ∃ A' B', MP G ad (zN F 5 (ecT A B (F 4))) A' B' H ∧ KP A B A' B' ∧ (∀ u, 0 ≤ u → u < F 4 → TM (A 0 u) B u A' B') ∧ A' 4 = evO A B (A 4) (F 4) ∧ rngI (A' 4))) (([.ref (ad 0)] : List Value).toArray) s (ecT A B (F 4)).toNat (4 * (ecT A B (F 4)).toNat) (fA 11 ad s.heap.size)) (F0 m 22 ls []) := by
          intro n
          induction n with
          | zero => intro j cN sN A3 B3 hj0 hj1 hcN2 hsN2 kp3 tm3 hev3 hre3 hm2 H locs hP hS ls hl; exact absurd hm2 (by omega)
          | succ n ih2 =>
            intro j cN sN A3 B3 hj0 hj1 hcN2 hsN2 kp3 tm3 hev3 hre3 hm2 H locs hP hS ls hl
            have hes := ec_s A B i hj0
            have he0 := ec_rng A B i (a := 0) (b := j) (by omega) hj0
            have he00 := ec_0 A B i
            have eA0 : A3 0 i = A 0 i := by rw [kp3.1]
            have hok3 : MOK (zN F 5 (ecT A B i + ec A B i j)) A3 B3 := (kp3.ok hVM).F5 _
            refine lv_iload_n hx hb dX3_findEvents_22 rfl (lv_at hl 0 rfl) ?_
            refine lv_aload_n hx hb dX3_findEvents_23 rfl (lv_at hl 2 rfl) ?_
            refine zm_get hx hb hK hts hown hP 5 (by decide) q_fl_RX3_16 (v := .ref (ad 1)) rfl dX3_findEvents_24 ?_
            refine lv_iload_n hx hb dX3_findEvents_27 rfl (lv_at hl 1 rfl) ?_
            refine zm_lA0 hx hb hK hP (i := i) (by omega) dX3_findEvents_28 ?_
            refine z_icmp_ge (a := j) (b := A3 0 (i)) (tgt := 118) hx hb dX3_findEvents_29 (by decide) (by omega) (by omega) (fun h_29 => ?_) (fun h_29 => ?_)
            · skip
              refine z_iinc (lv' := [(1, .int (zI (i + 1))), (2, .int (zI (j))), (0, .ref (ad 0))]) hx hb dX3_findEvents_118 hl (k := 1) rfl (by decide) rfl (fun ls hl => ?_)
              refine lv_goto (tgt := 7) hx hb dX3_findEvents_121 (by decide) ?_
              have h9j : j = A 0 i := by omega
              have hP : MP G ad (zN F 5 (ecT A B (i + 1))) A3 B3 H := by rw [hTs, ← h9j]; exact hP
              exact ih (i + 1) _ _ _ _ (by omega) (by omega) (by rw [hTs, ← h9j]; exact hcN2) (by rw [hTs, ← h9j]; exact hsN2) kp3 tm3 (by rw [evO_s A B _ h0, ← h9j]; exact hev3) hre3 (by omega) H _ hP hS _ (lv_sub hl [0, 2] rfl)
            · skip
              have hecs := ecS_rng A B i j
              have her := ec_rng A B i (a := j + 1) (b := A 0 i) (by omega) (by omega)
              have hel := hVM.el (v := i) (by omega) (e := j) (by omega)
              have htn := mTn_rng hVM (v := i) (by omega) (e := j) (by omega)
              have hbr := bgM_rng hVM (v := i) (by omega) (e := j) (by omega)
              have hg : B3 i (10 * j + 7) = bgM B i j := (tm3 i h0 (by omega)).2 j hj0 (by omega)
              have etk : 12 ≤ mTk B i j ∧ mTk B i j ≤ 672 := hel.2.2.1
              have b01 := bJ_01 A B i (j - 1)
              have b02 := bJ_01 A B i j
              refine lv_aload_n hx hb dX3_findEvents_32 rfl (lv_at hl 2 rfl) ?_
              refine lv_iload_n hx hb dX3_findEvents_33 rfl (lv_at hl 1 rfl) ?_
              refine lv_iload_n hx hb dX3_findEvents_34 rfl (lv_at hl 0 rfl) ?_
              refine z_iconst hx hb dX3_findEvents_35 ?_
              refine k_R (c_VR (As := [.int (zI (i)), .int (zI (j)), .int (zI (2))]) (rest := []) ⟨hx, hb, hml, hown, hts⟩ hG hS hA (c_X3_get l G ad (zN F 5 ((ecT A B i + ec A B i j))) A3 B3 i j 2 (show 0 ≤ i ∧ i < 4 by omega) (show 0 ≤ 10 * j + 2 ∧ 10 * j + 2 < 2000 by omega)) ⟨q_ml_RX3_57, q_im_X3_get, q_sel_X3_get, q_ini_RX3, q_code_X3_get⟩ hv_X3_get (MP.rec hK hP) hP ⟨Nat.le_of_ble_eq_true rfl, Nat.le_of_ble_eq_true rfl⟩ ⟨(show _ ≤ (ecT A B (F 4)).toNat by omega), (show _ ≤ 4 * (ecT A B (F 4)).toNat by omega)⟩ rfl hl.1 rfl (Nat.le_of_ble_eq_true rfl) dX3_findEvents_36) ?_
              rw [kp3.2 i j 2 (by omega) (by omega)]
              refine z_if_ne (a := B i (10 * j + 2)) (tgt := 45) hx hb dX3_findEvents_39 (by decide) (by omega) (fun h_39 => ?_) (fun h_39 => ?_)
              · skip
                have hnr : ¬ B i (10 * j + 2) = 0 := by omega
                have hes2 : ec A B i (j + 1) = ec A B i j + (bJ A B i (j - 1) + bJ A B i j) := by rw [hes]; unfold ecS; rw [if_neg (by omega)]
                refine lv_aload_n hx hb dX3_findEvents_45 rfl (lv_at hl 2 rfl) ?_
                refine lv_iload_n hx hb dX3_findEvents_46 rfl (lv_at hl 1 rfl) ?_
                refine lv_iload_n hx hb dX3_findEvents_47 rfl (lv_at hl 0 rfl) ?_
                refine z_iconst hx hb dX3_findEvents_48 ?_
                refine z_isub (x := j) (y := 1) hx hb dX3_findEvents_49 ?_
                refine k_R (c_VR (As := [.int (zI (i)), .int (zI ((j) - (1)))]) (rest := []) ⟨hx, hb, hml, hown, hts⟩ hG hS hA (c_X3_isJoined l G ad (zN F 5 ((ecT A B i + ec A B i j))) A3 B3 i ((j) - (1)) (by omega) (by omega) hok3) ⟨q_ml_RX3_136, q_im_X3_isJoined, q_sel_X3_isJoined, q_ini_RX3, q_code_X3_isJoined⟩ hv_X3_isJoined (MP.rec hK hP) hP ⟨Nat.le_of_ble_eq_true rfl, Nat.le_of_ble_eq_true rfl⟩ ⟨(show _ ≤ (ecT A B (F 4)).toNat by omega), (show _ ≤ 4 * (ecT A B (F 4)).toNat by omega)⟩ rfl hl.1 rfl (Nat.le_of_ble_eq_true rfl) dX3_findEvents_50) ?_
                rw [bI_eqP (kp3.jm i (j - 1))]
                refine z_bif_ne (q := jmM A B i (j - 1)) (tgt := 76) hx hb dX3_findEvents_53 (by decide) (fun h_53 => ?_) (fun h_53 => ?_)
                · skip
                  have hb1 := bJ_t h_53
                  obtain ⟨A4, hP, kp4, tm4, hev4, hre4⟩ : ∃ A4, MP G ad (zN F 5 (ecT A B i + ec A B i j + bJ A B i (j - 1))) A4 B3 H ∧ KP A B A4 B3 ∧ (∀ u, 0 ≤ u → u < i + 1 → TM (A 0 u) B u A4 B3) ∧ A4 4 = (if jmM A B i (j - 1) then (evF A B i (evO A B (A 4) i) j) else ptE (evF A B i (evO A B (A 4) i) j) (ecT A B i + ec A B i j) (bgM B i j) i (mTn B i j) 1) ∧ rngI (A4 4) := ⟨A3, by rw [hb1, Int.add_zero]; exact hP, kp3, tm3, by rw [if_pos h_53]; exact hev3, hre3⟩
                  have hok4 : MOK (zN F 5 (ecT A B i + ec A B i j + bJ A B i (j - 1))) A4 B3 := (kp4.ok hVM).F5 _
                  refine lv_aload_n hx hb dX3_findEvents_76 rfl (lv_at hl 2 rfl) ?_
                  refine lv_iload_n hx hb dX3_findEvents_77 rfl (lv_at hl 1 rfl) ?_
                  refine lv_iload_n hx hb dX3_findEvents_78 rfl (lv_at hl 0 rfl) ?_
                  refine k_R (c_VR (As := [.int (zI (i)), .int (zI (j))]) (rest := []) ⟨hx, hb, hml, hown, hts⟩ hG hS hA (c_X3_isJoined l G ad (zN F 5 ((ecT A B i + ec A B i j + bJ A B i (j - 1)))) A4 B3 i j (by omega) (by omega) hok4) ⟨q_ml_RX3_136, q_im_X3_isJoined, q_sel_X3_isJoined, q_ini_RX3, q_code_X3_isJoined⟩ hv_X3_isJoined (MP.rec hK hP) hP ⟨Nat.le_of_ble_eq_true rfl, Nat.le_of_ble_eq_true rfl⟩ ⟨(show _ ≤ (ecT A B (F 4)).toNat by omega), (show _ ≤ 4 * (ecT A B (F 4)).toNat by omega)⟩ rfl hl.1 rfl (Nat.le_of_ble_eq_true rfl) dX3_findEvents_79) ?_
                  rw [bI_eqP (kp4.jm i j)]
                  refine z_bif_ne (q := jmM A B i j) (tgt := 112) hx hb dX3_findEvents_82 (by decide) (fun h_82 => ?_) (fun h_82 => ?_)
                  · skip
                    have hb2 := bJ_t h_82
                    have hP : MP G ad (zN F 5 (ecT A B i + ec A B i (j + 1))) A4 B3 H := by rw [show (ecT A B i + ec A B i (j + 1)) = (ecT A B i + ec A B i j + bJ A B i (j - 1)) by omega]; exact hP
                    have kpE := kp4
                    have tmE := tm4
                    have hreE := hre4
                    have hevE : A4 4 = evF A B i (evO A B (A 4) i) (j + 1) := by rw [evF_s A B i _ hj0]; unfold evS; rw [if_neg hnr, if_pos h_82]; exact hev4
                    refine z_iinc (lv' := [(2, .int (zI (j + 1))), (1, .int (zI (i))), (0, .ref (ad 0))]) hx hb dX3_findEvents_112 hl (k := 0) rfl (by decide) rfl (fun ls hl => ?_)
                    refine lv_goto (tgt := 22) hx hb dX3_findEvents_115 (by decide) ?_
                    exact ih2 (j + 1) (cN) (sN) _ _ (by omega) (by omega) (by omega) (by omega) kpE tmE hevE hreE (by omega) H _ hP hS _ (lv_sub hl [0, 1, 2] rfl)
                  · skip
                    have hb2 := bJ_f h_82
                    refine lv_aload_n hx hb dX3_findEvents_85 rfl (lv_at hl 2 rfl) ?_
                    refine lv_aload_n hx hb dX3_findEvents_86 rfl (lv_at hl 2 rfl) ?_
                    refine lv_iload_n hx hb dX3_findEvents_87 rfl (lv_at hl 1 rfl) ?_
                    refine lv_iload_n hx hb dX3_findEvents_88 rfl (lv_at hl 0 rfl) ?_
                    refine z_bipush hx hb dX3_findEvents_89 (by decide) ?_
                    refine k_R (c_VR (As := [.int (zI (i)), .int (zI (j)), .int (zI (7))]) (rest := [.ref (ad 0)]) ⟨hx, hb, hml, hown, hts⟩ hG hS hA (c_X3_get l G ad (zN F 5 ((ecT A B i + ec A B i j + bJ A B i (j - 1)))) A4 B3 i j 7 (show 0 ≤ i ∧ i < 4 by omega) (show 0 ≤ 10 * j + 7 ∧ 10 * j + 7 < 2000 by omega)) ⟨q_ml_RX3_57, q_im_X3_get, q_sel_X3_get, q_ini_RX3, q_code_X3_get⟩ hv_X3_get (MP.rec hK hP) hP ⟨Nat.le_of_ble_eq_true rfl, Nat.le_of_ble_eq_true rfl⟩ ⟨(show _ ≤ (ecT A B (F 4)).toNat by omega), (show _ ≤ 4 * (ecT A B (F 4)).toNat by omega)⟩ rfl hl.1 rfl (Nat.le_of_ble_eq_true rfl) dX3_findEvents_91) ?_
                    rw [hg]
                    refine lv_aload_n hx hb dX3_findEvents_94 rfl (lv_at hl 2 rfl) ?_
                    refine lv_iload_n hx hb dX3_findEvents_95 rfl (lv_at hl 1 rfl) ?_
                    refine lv_iload_n hx hb dX3_findEvents_96 rfl (lv_at hl 0 rfl) ?_
                    refine k_R (c_VR (As := [.int (zI (i)), .int (zI (j))]) (rest := [.int (zI (bgM B i j)), .ref (ad 0)]) ⟨hx, hb, hml, hown, hts⟩ hG hS hA (c_X3_length l G ad (zN F 5 ((ecT A B i + ec A B i j + bJ A B i (j - 1)))) A4 B3 i j (by omega) (by rw [kp4.1]; omega) hok4) ⟨q_ml_RX3_85, q_im_X3_length, q_sel_X3_length, q_ini_RX3, q_code_X3_length⟩ hv_X3_length (MP.rec hK hP) hP ⟨Nat.le_of_ble_eq_true rfl, Nat.le_of_ble_eq_true rfl⟩ ⟨(show _ ≤ (ecT A B (F 4)).toNat by omega), (show _ ≤ 4 * (ecT A B (F 4)).toNat by omega)⟩ rfl hl.1 rfl (Nat.le_of_ble_eq_true rfl) dX3_findEvents_97) ?_
                    rw [kp4.tk i j]
                    refine z_iadd (x := bgM B i j) (y := mTk B i j) hx hb dX3_findEvents_100 ?_
                    refine lv_iload_n hx hb dX3_findEvents_101 rfl (lv_at hl 1 rfl) ?_
                    refine lv_aload_n hx hb dX3_findEvents_102 rfl (lv_at hl 2 rfl) ?_
                    refine lv_iload_n hx hb dX3_findEvents_103 rfl (lv_at hl 1 rfl) ?_
                    refine lv_iload_n hx hb dX3_findEvents_104 rfl (lv_at hl 0 rfl) ?_
                    refine k_R (c_VR (As := [.int (zI (i)), .int (zI (j))]) (rest := [.int (zI (i)), .int (zI ((bgM B i j) + (mTk B i j))), .ref (ad 0)]) ⟨hx, hb, hml, hown, hts⟩ hG hS hA (c_X3_tone l G ad (zN F 5 ((ecT A B i + ec A B i j + bJ A B i (j - 1)))) A4 B3 i j (by omega) (by rw [kp4.1]; omega) hok4) ⟨q_ml_RX3_133, q_im_X3_tone, q_sel_X3_tone, q_ini_RX3, q_code_X3_tone⟩ hv_X3_tone (MP.rec hK hP) hP ⟨Nat.le_of_ble_eq_true rfl, Nat.le_of_ble_eq_true rfl⟩ ⟨(show _ ≤ (ecT A B (F 4)).toNat by omega), (show _ ≤ 4 * (ecT A B (F 4)).toNat by omega)⟩ rfl hl.1 rfl (Nat.le_of_ble_eq_true rfl) dX3_findEvents_105) ?_
                    rw [kp4.tn i j]
                    refine z_iconst hx hb dX3_findEvents_108 ?_
                    refine k_Wv (c_VW (As := [.int (zI ((bgM B i j) + (mTk B i j))), .int (zI (i)), .int (zI (mTn B i j)), .int (zI (0))]) (rest := []) ⟨hx, hb, hml, hown, hts⟩ hG hS hA (c_X3_put l G ad (zN F 5 ((ecT A B i + ec A B i j + bJ A B i (j - 1)))) A4 B3 ((bgM B i j) + (mTk B i j)) i (mTn B i j) 0 H.size (by omega) (by omega) (by omega) (by rw [zN_s]; omega) hre4) ⟨q_ml_RX3_182, q_im_X3_put, q_sel_X3_put, q_ini_RX3, q_code_X3_put⟩ hv_X3_put (MP.rec hK hP) hP ⟨Nat.le_of_ble_eq_true rfl, Nat.le_of_ble_eq_true rfl⟩ ⟨(show _ ≤ (ecT A B (F 4)).toNat by omega), (show _ ≤ 4 * (ecT A B (F 4)).toNat by omega)⟩ rfl hl.1 rfl (Nat.le_of_ble_eq_true rfl) dX3_findEvents_109) hS (fA_mono hS.1) (fun H1 locs1 hq hz1 hk1 hS => ?_)
                    rw [zN_s, zN_N, hev4] at hq
                    obtain ⟨A5, hP, kpE, tmE, hevE, hreE⟩ : ∃ A5, MP G ad (zN F 5 (ecT A B i + ec A B i (j + 1))) A5 B3 H1 ∧ KP A B A5 B3 ∧ (∀ u, 0 ≤ u → u < i + 1 → TM (A 0 u) B u A5 B3) ∧ A5 4 = evF A B i (evO A B (A 4) i) (j + 1) ∧ rngI (A5 4) := ⟨_, by rw [show (ecT A B i + ec A B i (j + 1)) = (ecT A B i + ec A B i j + bJ A B i (j - 1)) + 1 by omega]; exact hq, kp4.W (by decide) _, (fun u q0 q1 => ⟨(congrFun (zW_n _ (by decide)) u).trans (tm4 u q0 q1).1, (tm4 u q0 q1).2⟩), by rw [evF_s A B i _ hj0, zW_s]; unfold evS; rw [if_neg hnr, if_neg h_82], by rw [zW_s, ← hev4]; exact ptE_rng hre4 (by omega) (by omega) (by omega) (by omega) (by omega)⟩
                    refine z_iinc (lv' := [(2, .int (zI (j + 1))), (1, .int (zI (i))), (0, .ref (ad 0))]) hx hb dX3_findEvents_112 hl (k := 0) rfl (by decide) rfl (fun ls hl => ?_)
                    refine lv_goto (tgt := 22) hx hb dX3_findEvents_115 (by decide) ?_
                    exact ih2 (j + 1) (cN + (1)) (sN + (4)) _ _ (by omega) (by omega) (by omega) (by omega) kpE tmE hevE hreE (by omega) H1 _ hP hS _ (lv_sub hl [0, 1, 2] rfl)
                · skip
                  have hb1 := bJ_f h_53
                  refine lv_aload_n hx hb dX3_findEvents_56 rfl (lv_at hl 2 rfl) ?_
                  refine lv_aload_n hx hb dX3_findEvents_57 rfl (lv_at hl 2 rfl) ?_
                  refine lv_iload_n hx hb dX3_findEvents_58 rfl (lv_at hl 1 rfl) ?_
                  refine lv_iload_n hx hb dX3_findEvents_59 rfl (lv_at hl 0 rfl) ?_
                  refine z_bipush hx hb dX3_findEvents_60 (by decide) ?_
                  refine k_R (c_VR (As := [.int (zI (i)), .int (zI (j)), .int (zI (7))]) (rest := [.ref (ad 0)]) ⟨hx, hb, hml, hown, hts⟩ hG hS hA (c_X3_get l G ad (zN F 5 ((ecT A B i + ec A B i j))) A3 B3 i j 7 (show 0 ≤ i ∧ i < 4 by omega) (show 0 ≤ 10 * j + 7 ∧ 10 * j + 7 < 2000 by omega)) ⟨q_ml_RX3_57, q_im_X3_get, q_sel_X3_get, q_ini_RX3, q_code_X3_get⟩ hv_X3_get (MP.rec hK hP) hP ⟨Nat.le_of_ble_eq_true rfl, Nat.le_of_ble_eq_true rfl⟩ ⟨(show _ ≤ (ecT A B (F 4)).toNat by omega), (show _ ≤ 4 * (ecT A B (F 4)).toNat by omega)⟩ rfl hl.1 rfl (Nat.le_of_ble_eq_true rfl) dX3_findEvents_62) ?_
                  rw [hg]
                  refine lv_iload_n hx hb dX3_findEvents_65 rfl (lv_at hl 1 rfl) ?_
                  refine lv_aload_n hx hb dX3_findEvents_66 rfl (lv_at hl 2 rfl) ?_
                  refine lv_iload_n hx hb dX3_findEvents_67 rfl (lv_at hl 1 rfl) ?_
                  refine lv_iload_n hx hb dX3_findEvents_68 rfl (lv_at hl 0 rfl) ?_
                  refine k_R (c_VR (As := [.int (zI (i)), .int (zI (j))]) (rest := [.int (zI (i)), .int (zI (bgM B i j)), .ref (ad 0)]) ⟨hx, hb, hml, hown, hts⟩ hG hS hA (c_X3_tone l G ad (zN F 5 ((ecT A B i + ec A B i j))) A3 B3 i j (by omega) (by omega) hok3) ⟨q_ml_RX3_133, q_im_X3_tone, q_sel_X3_tone, q_ini_RX3, q_code_X3_tone⟩ hv_X3_tone (MP.rec hK hP) hP ⟨Nat.le_of_ble_eq_true rfl, Nat.le_of_ble_eq_true rfl⟩ ⟨(show _ ≤ (ecT A B (F 4)).toNat by omega), (show _ ≤ 4 * (ecT A B (F 4)).toNat by omega)⟩ rfl hl.1 rfl (Nat.le_of_ble_eq_true rfl) dX3_findEvents_69) ?_
                  rw [kp3.tn i j]
                  refine z_iconst hx hb dX3_findEvents_72 ?_
                  refine k_Wv (c_VW (As := [.int (zI (bgM B i j)), .int (zI (i)), .int (zI (mTn B i j)), .int (zI (1))]) (rest := []) ⟨hx, hb, hml, hown, hts⟩ hG hS hA (c_X3_put l G ad (zN F 5 ((ecT A B i + ec A B i j))) A3 B3 (bgM B i j) i (mTn B i j) 1 H.size (by omega) (by omega) (by omega) (by rw [zN_s]; omega) hre3) ⟨q_ml_RX3_182, q_im_X3_put, q_sel_X3_put, q_ini_RX3, q_code_X3_put⟩ hv_X3_put (MP.rec hK hP) hP ⟨Nat.le_of_ble_eq_true rfl, Nat.le_of_ble_eq_true rfl⟩ ⟨(show _ ≤ (ecT A B (F 4)).toNat by omega), (show _ ≤ 4 * (ecT A B (F 4)).toNat by omega)⟩ rfl hl.1 rfl (Nat.le_of_ble_eq_true rfl) dX3_findEvents_73) hS (fA_mono hS.1) (fun H1 locs1 hq hz1 hk1 hS => ?_)
                  rw [zN_s, zN_N, hev3] at hq
                  obtain ⟨A4, hP, kp4, tm4, hev4, hre4⟩ : ∃ A4, MP G ad (zN F 5 (ecT A B i + ec A B i j + bJ A B i (j - 1))) A4 B3 H1 ∧ KP A B A4 B3 ∧ (∀ u, 0 ≤ u → u < i + 1 → TM (A 0 u) B u A4 B3) ∧ A4 4 = (if jmM A B i (j - 1) then (evF A B i (evO A B (A 4) i) j) else ptE (evF A B i (evO A B (A 4) i) j) (ecT A B i + ec A B i j) (bgM B i j) i (mTn B i j) 1) ∧ rngI (A4 4) := ⟨_, by rw [hb1]; exact hq, kp3.W (by decide) _, (fun u q0 q1 => ⟨(congrFun (zW_n _ (by decide)) u).trans (tm3 u q0 q1).1, (tm3 u q0 q1).2⟩), by rw [if_neg h_53, zW_s], by rw [zW_s, ← hev3]; exact ptE_rng hre3 (by omega) (by omega) (by omega) (by omega) (by omega)⟩
                  have hok4 : MOK (zN F 5 (ecT A B i + ec A B i j + bJ A B i (j - 1))) A4 B3 := (kp4.ok hVM).F5 _
                  refine lv_aload_n hx hb dX3_findEvents_76 rfl (lv_at hl 2 rfl) ?_
                  refine lv_iload_n hx hb dX3_findEvents_77 rfl (lv_at hl 1 rfl) ?_
                  refine lv_iload_n hx hb dX3_findEvents_78 rfl (lv_at hl 0 rfl) ?_
                  refine k_R (c_VR (As := [.int (zI (i)), .int (zI (j))]) (rest := []) ⟨hx, hb, hml, hown, hts⟩ hG hS hA (c_X3_isJoined l G ad (zN F 5 (ecT A B i + ec A B i j + bJ A B i (j - 1))) A4 B3 i j (by omega) (by omega) hok4) ⟨q_ml_RX3_136, q_im_X3_isJoined, q_sel_X3_isJoined, q_ini_RX3, q_code_X3_isJoined⟩ hv_X3_isJoined (MP.rec hK hP) hP ⟨Nat.le_of_ble_eq_true rfl, Nat.le_of_ble_eq_true rfl⟩ ⟨(show _ ≤ (ecT A B (F 4)).toNat by omega), (show _ ≤ 4 * (ecT A B (F 4)).toNat by omega)⟩ rfl hl.1 rfl (Nat.le_of_ble_eq_true rfl) dX3_findEvents_79) ?_
                  rw [bI_eqP (kp4.jm i j)]
                  refine z_bif_ne (q := jmM A B i j) (tgt := 112) hx hb dX3_findEvents_82 (by decide) (fun h_82 => ?_) (fun h_82 => ?_)
                  · skip
                    have hb2 := bJ_t h_82
                    have hP : MP G ad (zN F 5 (ecT A B i + ec A B i (j + 1))) A4 B3 H1 := by rw [show (ecT A B i + ec A B i (j + 1)) = (ecT A B i + ec A B i j + bJ A B i (j - 1)) by omega]; exact hP
                    have kpE := kp4
                    have tmE := tm4
                    have hreE := hre4
                    have hevE : A4 4 = evF A B i (evO A B (A 4) i) (j + 1) := by rw [evF_s A B i _ hj0]; unfold evS; rw [if_neg hnr, if_pos h_82]; exact hev4
                    refine z_iinc (lv' := [(2, .int (zI (j + 1))), (1, .int (zI (i))), (0, .ref (ad 0))]) hx hb dX3_findEvents_112 hl (k := 0) rfl (by decide) rfl (fun ls hl => ?_)
                    refine lv_goto (tgt := 22) hx hb dX3_findEvents_115 (by decide) ?_
                    exact ih2 (j + 1) (cN + (1)) (sN + (4)) _ _ (by omega) (by omega) (by omega) (by omega) kpE tmE hevE hreE (by omega) H1 _ hP hS _ (lv_sub hl [0, 1, 2] rfl)
                  · skip
                    have hb2 := bJ_f h_82
                    refine lv_aload_n hx hb dX3_findEvents_85 rfl (lv_at hl 2 rfl) ?_
                    refine lv_aload_n hx hb dX3_findEvents_86 rfl (lv_at hl 2 rfl) ?_
                    refine lv_iload_n hx hb dX3_findEvents_87 rfl (lv_at hl 1 rfl) ?_
                    refine lv_iload_n hx hb dX3_findEvents_88 rfl (lv_at hl 0 rfl) ?_
                    refine z_bipush hx hb dX3_findEvents_89 (by decide) ?_
                    refine k_R (c_VR (As := [.int (zI (i)), .int (zI (j)), .int (zI (7))]) (rest := [.ref (ad 0)]) ⟨hx, hb, hml, hown, hts⟩ hG hS hA (c_X3_get l G ad (zN F 5 (ecT A B i + ec A B i j + bJ A B i (j - 1))) A4 B3 i j 7 (show 0 ≤ i ∧ i < 4 by omega) (show 0 ≤ 10 * j + 7 ∧ 10 * j + 7 < 2000 by omega)) ⟨q_ml_RX3_57, q_im_X3_get, q_sel_X3_get, q_ini_RX3, q_code_X3_get⟩ hv_X3_get (MP.rec hK hP) hP ⟨Nat.le_of_ble_eq_true rfl, Nat.le_of_ble_eq_true rfl⟩ ⟨(show _ ≤ (ecT A B (F 4)).toNat by omega), (show _ ≤ 4 * (ecT A B (F 4)).toNat by omega)⟩ rfl hl.1 rfl (Nat.le_of_ble_eq_true rfl) dX3_findEvents_91) ?_
                    rw [hg]
                    refine lv_aload_n hx hb dX3_findEvents_94 rfl (lv_at hl 2 rfl) ?_
                    refine lv_iload_n hx hb dX3_findEvents_95 rfl (lv_at hl 1 rfl) ?_
                    refine lv_iload_n hx hb dX3_findEvents_96 rfl (lv_at hl 0 rfl) ?_
                    refine k_R (c_VR (As := [.int (zI (i)), .int (zI (j))]) (rest := [.int (zI (bgM B i j)), .ref (ad 0)]) ⟨hx, hb, hml, hown, hts⟩ hG hS hA (c_X3_length l G ad (zN F 5 (ecT A B i + ec A B i j + bJ A B i (j - 1))) A4 B3 i j (by omega) (by rw [kp4.1]; omega) hok4) ⟨q_ml_RX3_85, q_im_X3_length, q_sel_X3_length, q_ini_RX3, q_code_X3_length⟩ hv_X3_length (MP.rec hK hP) hP ⟨Nat.le_of_ble_eq_true rfl, Nat.le_of_ble_eq_true rfl⟩ ⟨(show _ ≤ (ecT A B (F 4)).toNat by omega), (show _ ≤ 4 * (ecT A B (F 4)).toNat by omega)⟩ rfl hl.1 rfl (Nat.le_of_ble_eq_true rfl) dX3_findEvents_97) ?_
                    rw [kp4.tk i j]
                    refine z_iadd (x := bgM B i j) (y := mTk B i j) hx hb dX3_findEvents_100 ?_
                    refine lv_iload_n hx hb dX3_findEvents_101 rfl (lv_at hl 1 rfl) ?_
                    refine lv_aload_n hx hb dX3_findEvents_102 rfl (lv_at hl 2 rfl) ?_
                    refine lv_iload_n hx hb dX3_findEvents_103 rfl (lv_at hl 1 rfl) ?_
                    refine lv_iload_n hx hb dX3_findEvents_104 rfl (lv_at hl 0 rfl) ?_
                    refine k_R (c_VR (As := [.int (zI (i)), .int (zI (j))]) (rest := [.int (zI (i)), .int (zI ((bgM B i j) + (mTk B i j))), .ref (ad 0)]) ⟨hx, hb, hml, hown, hts⟩ hG hS hA (c_X3_tone l G ad (zN F 5 (ecT A B i + ec A B i j + bJ A B i (j - 1))) A4 B3 i j (by omega) (by rw [kp4.1]; omega) hok4) ⟨q_ml_RX3_133, q_im_X3_tone, q_sel_X3_tone, q_ini_RX3, q_code_X3_tone⟩ hv_X3_tone (MP.rec hK hP) hP ⟨Nat.le_of_ble_eq_true rfl, Nat.le_of_ble_eq_true rfl⟩ ⟨(show _ ≤ (ecT A B (F 4)).toNat by omega), (show _ ≤ 4 * (ecT A B (F 4)).toNat by omega)⟩ rfl hl.1 rfl (Nat.le_of_ble_eq_true rfl) dX3_findEvents_105) ?_
                    rw [kp4.tn i j]
                    refine z_iconst hx hb dX3_findEvents_108 ?_
                    refine k_Wv (c_VW (As := [.int (zI ((bgM B i j) + (mTk B i j))), .int (zI (i)), .int (zI (mTn B i j)), .int (zI (0))]) (rest := []) ⟨hx, hb, hml, hown, hts⟩ hG hS hA (c_X3_put l G ad (zN F 5 (ecT A B i + ec A B i j + bJ A B i (j - 1))) A4 B3 ((bgM B i j) + (mTk B i j)) i (mTn B i j) 0 H1.size (by omega) (by omega) (by omega) (by rw [zN_s]; omega) hre4) ⟨q_ml_RX3_182, q_im_X3_put, q_sel_X3_put, q_ini_RX3, q_code_X3_put⟩ hv_X3_put (MP.rec hK hP) hP ⟨Nat.le_of_ble_eq_true rfl, Nat.le_of_ble_eq_true rfl⟩ ⟨(show _ ≤ (ecT A B (F 4)).toNat by omega), (show _ ≤ 4 * (ecT A B (F 4)).toNat by omega)⟩ rfl hl.1 rfl (Nat.le_of_ble_eq_true rfl) dX3_findEvents_109) hS (fA_mono hS.1) (fun H1 locs1 hq hz1 hk1 hS => ?_)
                    rw [zN_s, zN_N, hev4] at hq
                    obtain ⟨A5, hP, kpE, tmE, hevE, hreE⟩ : ∃ A5, MP G ad (zN F 5 (ecT A B i + ec A B i (j + 1))) A5 B3 H1 ∧ KP A B A5 B3 ∧ (∀ u, 0 ≤ u → u < i + 1 → TM (A 0 u) B u A5 B3) ∧ A5 4 = evF A B i (evO A B (A 4) i) (j + 1) ∧ rngI (A5 4) := ⟨_, by rw [show (ecT A B i + ec A B i (j + 1)) = (ecT A B i + ec A B i j + bJ A B i (j - 1)) + 1 by omega]; exact hq, kp4.W (by decide) _, (fun u q0 q1 => ⟨(congrFun (zW_n _ (by decide)) u).trans (tm4 u q0 q1).1, (tm4 u q0 q1).2⟩), by rw [evF_s A B i _ hj0, zW_s]; unfold evS; rw [if_neg hnr, if_neg h_82], by rw [zW_s, ← hev4]; exact ptE_rng hre4 (by omega) (by omega) (by omega) (by omega) (by omega)⟩
                    refine z_iinc (lv' := [(2, .int (zI (j + 1))), (1, .int (zI (i))), (0, .ref (ad 0))]) hx hb dX3_findEvents_112 hl (k := 0) rfl (by decide) rfl (fun ls hl => ?_)
                    refine lv_goto (tgt := 22) hx hb dX3_findEvents_115 (by decide) ?_
                    exact ih2 (j + 1) (cN + (1) + (1)) (sN + (4) + (4)) _ _ (by omega) (by omega) (by omega) (by omega) kpE tmE hevE hreE (by omega) H1 _ hP hS _ (lv_sub hl [0, 1, 2] rfl)
              · skip
                have hes2 : ec A B i (j + 1) = ec A B i j := by rw [hes]; unfold ecS; rw [if_pos (by omega), Int.add_zero]
                have hP : MP G ad (zN F 5 (ecT A B i + ec A B i (j + 1))) A3 B3 H := by rw [hes2]; exact hP
                have kpE := kp3
                have tmE := tm3
                have hreE := hre3
                have hevE : A3 4 = evF A B i (evO A B (A 4) i) (j + 1) := by rw [evF_s A B i _ hj0]; unfold evS; rw [if_pos (by omega)]; exact hev3
                refine lv_goto (tgt := 112) hx hb dX3_findEvents_42 (by decide) ?_
                refine z_iinc (lv' := [(2, .int (zI (j + 1))), (1, .int (zI (i))), (0, .ref (ad 0))]) hx hb dX3_findEvents_112 hl (k := 0) rfl (by decide) rfl (fun ls hl => ?_)
                refine lv_goto (tgt := 22) hx hb dX3_findEvents_115 (by decide) ?_
                exact ih2 (j + 1) (cN) (sN) _ _ (by omega) (by omega) (by omega) (by omega) kpE tmE hevE hreE (by omega) H _ hP hS _ (lv_sub hl [0, 1, 2] rfl)
        exact lp_22 201 0 cN sN A2 B2 (by omega) (by omega) (by rw [ec_0, Int.add_zero]; exact hcN) (by rw [ec_0, Int.add_zero]; exact hsN) kp2 tm2 (by rw [e4, hev]; rfl) (by rw [e4]; exact hre) (by omega) H1 _ hP hS _ (lv_sub hl [0, 1, 2] rfl)
  exact lp_7 5 0 0 0 A B (by omega) (by omega) rfl rfl (KP.rfl' A B) (fun u q0 q1 => absurd q1 (by omega)) rfl hVe (by omega) H _ hP hS _ (lv_sub hl [0, 1] rfl)
