theorem MP.nrm {G : zG} {ad : Nat → Nat} {F : Nat → Int} {A : Nat → Int → Int} {B : Int → Int → Int} {H : Heap} (h : MP G ad F A B H) : ∃ g, rngI g ∧ MP G ad F (zW A 4 g) B H := by
  refine ⟨fun k => (zI (A 4 k)).toInt, fun k _ _ => zI_rng _, PP.congr h fun k hk => ?_⟩
  by_cases e : k = 10
  · subst e
    have q : zA (fun k => (zI (A 4 k)).toInt) = zA (A 4) := funext fun j => zI_of _
    show mE G ad F (zW A 4 _) B 10 = mE G ad F A B 10
    unfold mE
    simp only [zW_s, q]
    simp
  · exact mE_uW4 _ k e hk
theorem KP.sc {F : Nat → Int} {A A' : Nat → Int → Int} {B B' : Int → Int → Int} (h : KP A B A' B') (w : Int) : scM F A' B' w = scM F A B w := by
  have q : barsM F A' B' (F 4) = barsM F A B (F 4) := pf_congr fun i a _ _ => by rw [h.1, h.bg' i]
  have r : endM A' B' (F 4) = endM A B (F 4) := pf_congr fun i a _ _ => by rw [h.1, h.bg' i]
  unfold scM
  rw [q, r]
theorem stC_congr {g g' : Int → Prop} [DecidablePred g] [DecidablePred g'] (h : ∀ e, g e = g' e) (n : Int) : stC g n = stC g' n := pf_congr fun i a _ _ => by
  rw [show (if ¬ g (i - 1) ∧ g i then (1 : Int) else 0) = if ¬ g' (i - 1) ∧ g' i then 1 else 0 from zite (by rw [h, h])]
theorem bmN_congr {g g' : Int → Prop} [DecidablePred g] [DecidablePred g'] (h : ∀ e, g e = g' e) (e : Int) : bmN g e = bmN g' e := by
  unfold bmN
  rw [stC_congr h]
  exact zite (by rw [h, h])
theorem KPgM {F : Nat → Int} {A A' : Nat → Int → Int} {B B' : Int → Int → Int} (h : KP A B A' B') (v e : Int) : gM F A' B' v e = gM F A B v e := by
  unfold gM
  rw [h.1, h.cb v e, h.cb v (e + 1), h.bg' v]
theorem KPhoR {F : Nat → Int} {A A' : Nat → Int → Int} {B B' : Int → Int → Int} (h : KP A B A' B') (v e : Int) : hoR F B' v e = hoR F B v e := by
  funext x
  show (if _ then _ else _) = (if _ then _ else _)
  unfold barP
  rw [h.bg' v]
theorem KPhoF {F : Nat → Int} {A A' : Nat → Int → Int} {B B' : Int → Int → Int} (h : KP A B A' B') (v : Int) (x : Int → Int) (e : Int) : hoF F B' v x e = hoF F B v x e := pf_congr fun i a _ _ => by
  unfold hoS plM
  rw [KPhoR h v i, h.2 v i 2 (by omega) (by omega), h.2 v i 3 (by omega) (by omega), h.2 v i 4 (by omega) (by omega), h.2 v i 5 (by omega) (by omega)]
theorem KP.sh {F : Nat → Int} {A A' : Nat → Int → Int} {B B' : Int → Int → Int} (h : KP A B A' B') (v : Int) (x : Int → Int) (e : Int) : shM F A' B' v x e = shM F A B v x e := by
  have q := iff_of_eq (h.jm v (e - 1))
  show (if B' v (10 * e + 2) = 0 then 0 else if ¬ hoR F B' v e (hoF F B' v x e) (plM B' v e) = B' v (10 * e + 4) ∧ ¬ jmM A' B' v (e - 1) then 1 else 0) = (if B v (10 * e + 2) = 0 then 0 else if ¬ hoR F B v e (hoF F B v x e) (plM B v e) = B v (10 * e + 4) ∧ ¬ jmM A B v (e - 1) then 1 else 0)
  rw [KPhoR h v e, KPhoF h v x e, show plM B' v e = plM B v e by unfold plM; rw [h.2 v e 3 (by omega) (by omega), h.2 v e 5 (by omega) (by omega)], h.2 v e 2 (by omega) (by omega), h.2 v e 4 (by omega) (by omega)]
  rw [show (if ¬ hoR F B v e (hoF F B v x e) (plM B v e) = B v (10 * e + 4) ∧ ¬ jmM A' B' v (e - 1) then (1 : Int) else 0) = (if ¬ hoR F B v e (hoF F B v x e) (plM B v e) = B v (10 * e + 4) ∧ ¬ jmM A B v (e - 1) then (1 : Int) else 0) from zite (by rw [q])]
theorem KP.el {F : Nat → Int} {A A' : Nat → Int → Int} {B B' : Int → Int → Int} (h : KP A B A' B') (x : Int → Int) (v e w : Int) : elP F A' B' x v e w = elP F A B x v e w := by
  unfold elP
  rw [bmN_congr (fun e => KPgM h v e), h.bg' v, h.tk v e, h.tn v e, h.sh v x e, h.2 v e 0 (by omega) (by omega), h.2 v e 1 (by omega) (by omega), h.2 v e 6 (by omega) (by omega)]
theorem KP.vp {F : Nat → Int} {A A' : Nat → Int → Int} {B B' : Int → Int → Int} (h : KP A B A' B') (x : Int → Int) (v w : Int) : vpM F A' B' x v w = vpM F A B x v w := by
  have q : pf (if 4 < w then -1 else 0) (vpS A' B' (shM F A' B' v x) v w) (A 0 v) = pf (if 4 < w then -1 else 0) (vpS A B (shM F A B v x) v w) (A 0 v) := pf_congr fun i a i0 i1 => by
    unfold vpS
    rw [h.tn v i, h.sh v x i]
    rw [show (if jmM A' B' v (i - 1) then a + 0 else a + 1) = (if jmM A B v (i - 1) then a + 0 else a + 1) from zite (iff_of_eq (h.jm v (i - 1)))]
  unfold vpM
  rw [stC_congr (fun e => KPgM h v e), h.1, h.bg' v, q]
theorem KPbJ {A A' : Nat → Int → Int} {B B' : Int → Int → Int} (h : KP A B A' B') (v e : Int) : bJ A' B' v e = bJ A B v e := zite (iff_of_eq (h.jm v e))
theorem KPecS {A A' : Nat → Int → Int} {B B' : Int → Int → Int} (h : KP A B A' B') (v e : Int) : ecS A' B' v e = ecS A B v e := by
  unfold ecS
  rw [KPbJ h v (e - 1), KPbJ h v e, h.2 v e 2 (by omega) (by omega)]
theorem KPec {A A' : Nat → Int → Int} {B B' : Int → Int → Int} (h : KP A B A' B') (v n : Int) : ec A' B' v n = ec A B v n := pf_congr fun i a _ _ => by rw [KPecS h]
theorem KPeT {A A' : Nat → Int → Int} {B B' : Int → Int → Int} (h : KP A B A' B') (n : Int) : ecT A' B' n = ecT A B n := pf_congr fun i a _ _ => by rw [h.1, KPec h]
theorem KPevS {A A' : Nat → Int → Int} {B B' : Int → Int → Int} (h : KP A B A' B') (v e : Int) (g : Int → Int) : evS A' B' v e g = evS A B v e g := by
  unfold evS
  rw [zite (iff_of_eq (h.jm v e)), zite (iff_of_eq (h.jm v (e - 1))), h.2 v e 2 (by omega) (by omega), KPeT h v, KPec h v e, KPbJ h v (e - 1), h.bg' v, h.tn v e, h.tk v e]
theorem KPev {A A' : Nat → Int → Int} {B B' : Int → Int → Int} (h : KP A B A' B') (g : Int → Int) (n : Int) : evO A' B' g n = evO A B g n := pf_congr fun i a _ _ => by
  rw [h.1]
  exact pf_congr fun j b _ _ => KPevS h i j b
theorem KPlz {A A' : Nat → Int → Int} {B B' : Int → Int → Int} (h : KP A B A' B') (v n : Int) : lzM A' B' v n = lzM A B v n := pf_congr fun i a _ _ => by
  rw [zite (show (B' v (10 * i + 6) = 1 ∧ ¬ jmM A' B' v i) ↔ (B v (10 * i + 6) = 1 ∧ ¬ jmM A B v i) by rw [h.2 v i 6 (by omega) (by omega), iff_of_eq (h.jm v i)])]
theorem KPps {A A' : Nat → Int → Int} {B B' : Int → Int → Int} (h : KP A B A' B') (v n : Int) : psM A' B' v n = psM A B v n := pf_congr fun i a _ _ => by rw [h.par]
theorem KPfau {F : Nat → Int} {A A' : Nat → Int → Int} {B B' : Int → Int → Int} (h : KP A B A' B') (n : Int) : fauM F A' B' n = fauM F A B n := by
  have q : barsM F A' B' (F 4) = barsM F A B (F 4) := pf_congr fun i a _ _ => by rw [h.1, h.bg' i]
  exact pf_congr fun i a _ _ => by rw [q, h.bg' i, KPlz h, KPps h, h.1]
/-- a step of the checksum -/
def dA (d : Int64) (x : Int) : Int64 := d * 31 + (zI x).toInt64
def h00 : Int → Int := fun _ => 0
def dgS (F : Nat → Int) (A : Nat → Int → Int) (B : Int → Int → Int) : Int → Int64 := pf 389 (fun w d => dA d (scM F A B w))
def dg7 (F : Nat → Int) (A : Nat → Int → Int) (B : Int → Int → Int) (v : Int) (d : Int64) : Int → Int64 := pf d (fun w d => dA d (vpM F A B h00 v w))
def dg9 (F : Nat → Int) (A : Nat → Int → Int) (B : Int → Int → Int) (v e : Int) (d : Int64) : Int → Int64 := pf d (fun w d => dA d (elP F A B h00 v e w))
def dgF (F : Nat → Int) (A : Nat → Int → Int) (B : Int → Int → Int) (v : Int) (d : Int64) : Int → Int64 := pf d (fun e d => dg9 F A B v e d 9)
def dgV (F : Nat → Int) (A : Nat → Int → Int) (B : Int → Int → Int) : Int → Int64 := pf (dgS F A B 5) (fun v d => dgF F A B v (dg7 F A B v d 7) (A 0 v))
def dgE (g : Int → Int) (d : Int64) : Int → Int64 := pf d (fun k d => dA d (g k))
def dgM (F : Nat → Int) (A : Nat → Int → Int) (B : Int → Int → Int) (g : Int → Int) : Int64 := dgE (evO A B g (F 4)) (dA (dA (dgV F A B (F 4)) (fauM F A B (F 4))) (ecT A B (F 4))) (4 * ecT A B (F 4))
set_option maxHeartbeats 2000000 in
theorem c_X3_digest (l : Launch) (G : zG) (ad : Nat → Nat) (F : Nat → Int) (A : Nat → Int → Int) (B : Int → Int → Int) (sz : Nat) (hVM : MOK F A B) : MW l yX3_digest cX3_digest 6 (some .long) 5 114 ((ecT A B (F 4)).toNat) (4 * (ecT A B (F 4)).toNat) G [.ref (ad 0)] (fA 11 ad sz) sz (MP G ad F A B) (QL (fA 11 ad sz) (fun r H => ∃ g, rngI g ∧ r = dgM (zN F 0 0) A B g ∧ ∃ A' B', MP G ad (zN (zN F 0 0) 5 (ecT A B (F 4))) A' B' H ∧ KP A B A' B')) := by
  refine mw_of hp_X3_digest (Nat.le_of_ble_eq_true rfl) ?_
  intro p env s m below meth c ls hB hsz hP hl
  obtain ⟨hx, hb, hml, hr, hlk, hown, hts, hG⟩ := hB
  subst hsz
  have hK := hG.1
  have hS : va_S (fA 11 ad s.heap.size) s.heap s.heap [] := va_S.rf
  have hA : ∀ q : Nat, (fA 11 ad s.heap.size) q → G.2.2 ≤ q := fA_lo hP.1.2 hG.2.1
  have hD : ∀ k, k < 11 → (fA 11 ad s.heap.size) (ad k) := fun k hk => fA_in hk
  have hl : lv_has ls 6 [(0, .ref (ad 0))] := hl
  have h1b := hVM.1
  have h2b := hVM.2.1
  have h3b := hVM.2.2.1
  have h4b := hVM.2.2.2.1
  have hok0 : MOK (zN F 0 0) A B := hVM.F0 0
  have hc9 : ecT A B (zN F 0 0 4) = ecT A B (F 4) := rfl
  refine lv_aload_n hx hb dX3_digest_0 rfl (lv_at hl 0 rfl) ?_
  refine z_iconst hx hb dX3_digest_1 ?_
  refine zm_put (x := 0) hx hb hK hts hown hP hS (hD 0 (by decide)) 0 (by decide) q_fl_RX3_37 dX3_digest_2 (fun H locs hP hz ho hS => ?_)
  refine lv_ldc2 hx hb hown (hts _ q_k_RX3_192) dX3_digest_5 ?_
  refine lv_lstore_n (lv' := [(1, .long (389)), (0, .ref (ad 0))]) hx hb dX3_digest_8 rfl hl (by decide) rfl (fun ls hl => ?_)
  refine z_iconst hx hb dX3_digest_9 ?_
  refine lv_istore_n (lv' := [(3, .int (zI (0))), (1, .long (389)), (0, .ref (ad 0))]) hx hb dX3_digest_10 rfl hl (by decide) rfl (fun ls hl => ?_)
  have lp_11 : ∀ (n : Nat) (w : Int) (d : Int64) (A1 : Nat → Int → Int) (B1 : Int → Int → Int), 0 ≤ w → w ≤ 5 → d = dgS (zN F 0 0) A B w → KP A B A1 B1 → 5 - w < n → ∀ (H : Heap) (locs : List Loc), MP G ad (zN F 0 (0)) A1 B1 H → va_S (fA 11 ad s.heap.size) s.heap H locs → ∀ (ls : Array Slot), lv_has ls 6 [(3, .int (zI (w))), (1, .long (d)), (0, .ref (ad 0))] → W p l env (rmz 5 114 (ecT A B (F 4)).toNat (4 * (ecT A B (F 4)).toNat)) s m (([.ref (ad 0)] : List Value).toArray) below meth c H locs 0 0 (MQ below (QL (fA 11 ad s.heap.size) (fun r H => ∃ g, rngI g ∧ r = dgM (zN F 0 0) A B g ∧ ∃ A' B', MP G ad (zN (zN F 0 0) 5 (ecT A B (F 4))) A' B' H ∧ KP A B A' B')) (([.ref (ad 0)] : List Value).toArray) s (ecT A B (F 4)).toNat (4 * (ecT A B (F 4)).toNat) (fA 11 ad s.heap.size)) (F0 m 11 ls []) := by
    intro n
    induction n with
    | zero => intro w d A1 B1 h0 h1 h2 hkp hm H locs hP hS ls hl; exact absurd hm (by omega)
    | succ n ih =>
      intro w d A1 B1 h0 h1 h2 hkp hm H locs hP hS ls hl
      refine lv_iload_n hx hb dX3_digest_11 rfl (lv_at hl 0 rfl) ?_
      refine z_iconst hx hb dX3_digest_12 ?_
      refine z_icmp_ge (a := w) (b := 5) (tgt := 35) hx hb dX3_digest_13 (by decide) (by omega) (by omega) (fun h_13 => ?_) (fun h_13 => ?_)
      · skip
        refine z_iconst hx hb dX3_digest_35 ?_
        refine lv_istore_n (lv' := [(3, .int (zI (0))), (1, .long (d)), (0, .ref (ad 0))]) hx hb dX3_digest_36 rfl hl (by decide) rfl (fun ls hl => ?_)
        have hd0 : d = dgV (zN F 0 0) A B 0 := by rw [h2, show w = 5 by omega]; rfl
        have lp_37 : ∀ (n : Nat) (i : Int) (d : Int64) (A1 : Nat → Int → Int) (B1 : Int → Int → Int), 0 ≤ i → i ≤ F 4 → d = dgV (zN F 0 0) A B i → KP A B A1 B1 → F 4 - i < n → ∀ (H : Heap) (locs : List Loc), MP G ad (zN F 0 (0)) A1 B1 H → va_S (fA 11 ad s.heap.size) s.heap H locs → ∀ (ls : Array Slot), lv_has ls 6 [(3, .int (zI (i))), (1, .long (d)), (0, .ref (ad 0))] → W p l env (rmz 5 114 (ecT A B (F 4)).toNat (4 * (ecT A B (F 4)).toNat)) s m (([.ref (ad 0)] : List Value).toArray) below meth c H locs 0 0 (MQ below (QL (fA 11 ad s.heap.size) (fun r H => ∃ g, rngI g ∧ r = dgM (zN F 0 0) A B g ∧ ∃ A' B', MP G ad (zN (zN F 0 0) 5 (ecT A B (F 4))) A' B' H ∧ KP A B A' B')) (([.ref (ad 0)] : List Value).toArray) s (ecT A B (F 4)).toNat (4 * (ecT A B (F 4)).toNat) (fA 11 ad s.heap.size)) (F0 m 37 ls []) := by
          intro n
          induction n with
          | zero => intro i d A1 B1 h0 h1 h2 hkp hm H locs hP hS ls hl; exact absurd hm (by omega)
          | succ n ih =>
            intro i d A1 B1 h0 h1 h2 hkp hm H locs hP hS ls hl
            have hmn := hVM.many (v := i)
            refine lv_iload_n hx hb dX3_digest_37 rfl (lv_at hl 0 rfl) ?_
            refine lv_aload_n hx hb dX3_digest_38 rfl (lv_at hl 2 rfl) ?_
            refine zm_get hx hb hK hts hown hP 4 (by decide) q_fl_RX3_40 (v := .int (zI (F 4))) rfl dX3_digest_39 ?_
            refine z_icmp_ge (a := i) (b := F 4) (tgt := 140) hx hb dX3_digest_42 (by decide) (by omega) (by omega) (fun h_42 => ?_) (fun h_42 => ?_)
            · skip
              obtain ⟨g, hg, hP⟩ := MP.nrm hP
              have kpg : KP A B (zW A1 4 g) B1 := hkp.W (by decide) g
              have hcg : ecT (zW A1 4 g) B1 (zN F 0 0 4) = ecT A B (F 4) := KPeT kpg _
              have hd9 : d = dgV (zN F 0 0) A B (F 4) := by rw [h2, show F 4 = i by omega]
              refine lv_aload_n hx hb dX3_digest_140 rfl (lv_at hl 2 rfl) ?_
              refine k_Wv (c_VW (As := []) (rest := []) ⟨hx, hb, hml, hown, hts⟩ hG hS hA (c_X3_findEvents l G ad (zN F 0 (0)) (zW A1 4 g) B1 H.size ((kpg.ok hVM).F0 0) (by rw [zW_s]; exact hg)) ⟨q_ml_RX3_186, q_im_X3_findEvents, q_sel_X3_findEvents, q_ini_RX3, q_code_X3_findEvents⟩ hv_X3_findEvents (MP.rec hK hP) hP ⟨Nat.le_of_ble_eq_true rfl, Nat.le_of_ble_eq_true rfl⟩ ⟨by rw [KPeT kpg]; exact Nat.le_of_eq (Nat.zero_add _), by rw [KPeT kpg]; exact Nat.le_of_eq (Nat.zero_add _)⟩ rfl hl.1 rfl (Nat.le_of_ble_eq_true rfl) dX3_digest_141) hS (fA_mono hS.1) (fun H1 locs1 hq hz1 hk1 hS => ?_)
              obtain ⟨A3, B3, hP, kp3, tm3, hev, hre⟩ := hq
              rw [KPeT kpg] at hP
              rw [zW_s, KPev kpg] at hev
              have hP : MP G ad (zN (zN F 0 0) 5 (ecT A B (F 4))) A3 B3 H1 := hP
              have kp30 := kpg.trans kp3
              refine lv_lload_n hx hb dX3_digest_144 rfl (lv_at hl 1 rfl) ?_
              refine lv_ldc2 hx hb hown (hts _ q_k_RX3_194) dX3_digest_145 ?_
              refine lv_lmul hx hb dX3_digest_148 ?_
              refine lv_aload_n hx hb dX3_digest_149 rfl (lv_at hl 2 rfl) ?_
              refine k_Wi (c_VW (As := []) (rest := [.long ((d) * (31))]) ⟨hx, hb, hml, hown, hts⟩ hG hS hA (c_X3_faultsOf l G ad (zN (zN F 0 (0)) 5 ((ecT A B (F 4)))) A3 B3 H1.size (((kp30.ok hVM).F0 0).F5 _)) ⟨q_ml_RX3_169, q_im_X3_faultsOf, q_sel_X3_faultsOf, q_ini_RX3, q_code_X3_faultsOf⟩ hv_X3_faultsOf (MP.rec hK hP) hP ⟨Nat.le_of_ble_eq_true rfl, Nat.le_of_ble_eq_true rfl⟩ ⟨(show _ ≤ (ecT A B (F 4)).toNat by omega), (show _ ≤ 4 * (ecT A B (F 4)).toNat by omega)⟩ rfl hl.1 rfl (Nat.le_of_ble_eq_true rfl) dX3_digest_150) hS (fA_mono hS.1) (fun r_150 H1 locs1 hq hz1 hk1 hS => ?_)
              obtain ⟨hr9, A4, B4, hP, kp4, e44⟩ := hq
              have hr8 : r_150 = fauM (zN F 0 0) A B (F 4) := hr9.trans (KPfau kp30 _)
              subst hr8
              have hev4 : A4 4 = evO A B g (F 4) := e44.trans hev
              have hre4 : rngI (A4 4) := by rw [e44]; exact hre
              refine lv_i2l (v := (zI (fauM (zN F 0 0) A B (F 4))).toInt64) hx hb dX3_digest_153 rfl ?_
              refine lv_ladd hx hb dX3_digest_154 ?_
              refine lv_ldc2 hx hb hown (hts _ q_k_RX3_194) dX3_digest_155 ?_
              refine lv_lmul hx hb dX3_digest_158 ?_
              refine lv_aload_n hx hb dX3_digest_159 rfl (lv_at hl 2 rfl) ?_
              refine zm_get hx hb hK hts hown hP 10 (by decide) q_fl_RX3_175 (v := .int (zI ((ecT A B (F 4))))) rfl dX3_digest_160 ?_
              refine lv_i2l (v := (zI ((ecT A B (F 4)))).toInt64) hx hb dX3_digest_163 rfl ?_
              refine lv_ladd hx hb dX3_digest_164 ?_
              have hd8 : ((((d) * (31)) + ((zI (fauM (zN F 0 0) A B (F 4))).toInt64)) * (31)) + ((zI ((ecT A B (F 4)))).toInt64) = dgE (evO A B g (F 4)) (dA (dA (dgV (zN F 0 0) A B (F 4)) (fauM (zN F 0 0) A B (F 4))) (ecT A B (F 4))) 0 := by rw [hd9]; rfl
              have hec := ecT_rng hVM (a := 0) (b := F 4) (by omega) (by omega) (by omega)
              have hec0 : ecT A B 0 = 0 := rfl
              refine lv_lstore_n (lv' := [(1, .long (((((d) * (31)) + ((zI (fauM (zN F 0 0) A B (F 4))).toInt64)) * (31)) + ((zI ((ecT A B (F 4)))).toInt64))), (3, .int (zI (i))), (0, .ref (ad 0))]) hx hb dX3_digest_165 rfl hl (by decide) rfl (fun ls hl => ?_)
              refine z_iconst hx hb dX3_digest_166 ?_
              refine lv_istore_n (lv' := [(3, .int (zI (0))), (1, .long (((((d) * (31)) + ((zI (fauM (zN F 0 0) A B (F 4))).toInt64)) * (31)) + ((zI ((ecT A B (F 4)))).toInt64))), (0, .ref (ad 0))]) hx hb dX3_digest_167 rfl hl (by decide) rfl (fun ls hl => ?_)
              rw [hcg]
              have lp_168 : ∀ (n : Nat) (k : Int) (d5 : Int64), 0 ≤ k → k ≤ 4 * (ecT A B (F 4)) → d5 = dgE (evO A B g (F 4)) (dA (dA (dgV (zN F 0 0) A B (F 4)) (fauM (zN F 0 0) A B (F 4))) (ecT A B (F 4))) k → 4 * (ecT A B (F 4)) - k < n → ∀ (H : Heap) (locs : List Loc), MP G ad (zN (zN F 0 (0)) 5 ((ecT A B (F 4)))) A4 B4 H → va_S (fA 11 ad s.heap.size) s.heap H locs → ∀ (ls : Array Slot), lv_has ls 6 [(3, .int (zI (k))), (1, .long (d5)), (0, .ref (ad 0))] → W p l env (rmz 5 114 (ecT A B (F 4)).toNat (4 * (ecT A B (F 4)).toNat)) s m (([.ref (ad 0)] : List Value).toArray) below meth c H locs (0 + ((ecT A B (F 4)).toNat)) (0 + (4 * (ecT A B (F 4)).toNat)) (MQ below (QL (fA 11 ad s.heap.size) (fun r H => ∃ g, rngI g ∧ r = dgM (zN F 0 0) A B g ∧ ∃ A' B', MP G ad (zN (zN F 0 0) 5 (ecT A B (F 4))) A' B' H ∧ KP A B A' B')) (([.ref (ad 0)] : List Value).toArray) s (ecT A B (F 4)).toNat (4 * (ecT A B (F 4)).toNat) (fA 11 ad s.heap.size)) (F0 m 168 ls []) := by
                intro n
                induction n with
                | zero => intro k d5 hk0 hk1 hk2 hmk H locs hP hS ls hl; exact absurd hmk (by omega)
                | succ n ih =>
                  intro k d5 hk0 hk1 hk2 hmk H locs hP hS ls hl
                  refine lv_iload_n hx hb dX3_digest_168 rfl (lv_at hl 0 rfl) ?_
                  refine z_iconst hx hb dX3_digest_169 ?_
                  refine lv_aload_n hx hb dX3_digest_170 rfl (lv_at hl 2 rfl) ?_
                  refine zm_get hx hb hK hts hown hP 10 (by decide) q_fl_RX3_175 (v := .int (zI ((ecT A B (F 4))))) rfl dX3_digest_171 ?_
                  refine z_imul (x := 4) (y := (ecT A B (F 4))) hx hb dX3_digest_174 ?_
                  refine z_icmp_ge (a := k) (b := (4) * ((ecT A B (F 4)))) (tgt := 198) hx hb dX3_digest_175 (by decide) (by omega) (by omega) (fun h_175 => ?_) (fun h_175 => ?_)
                  · skip
                    refine lv_lload_n hx hb dX3_digest_198 rfl (lv_at hl 1 rfl) ?_
                    exact e_Wl (r := d5) hx hb hr hlk hS (by omega) (by omega) ⟨g, hg, by rw [hk2, show k = 4 * ecT A B (F 4) by omega]; rfl, A4, B4, hP, kp30.trans kp4⟩ dX3_digest_199
                  · skip
                    refine lv_lload_n hx hb dX3_digest_178 rfl (lv_at hl 1 rfl) ?_
                    refine lv_ldc2 hx hb hown (hts _ q_k_RX3_194) dX3_digest_179 ?_
                    refine lv_lmul hx hb dX3_digest_182 ?_
                    refine lv_aload_n hx hb dX3_digest_183 rfl (lv_at hl 2 rfl) ?_
                    refine zm_get hx hb hK hts hown hP 11 (by decide) q_fl_RX3_34 (v := .ref (ad 10)) rfl dX3_digest_184 ?_
                    refine lv_iload_n hx hb dX3_digest_187 rfl (lv_at hl 0 rfl) ?_
                    have hrk := hre4 k (by omega) (by omega)
                    refine zm_lA4 hx hb hK hP (i := k) (by omega) dX3_digest_188 ?_
                    rw [hev4]
                    refine lv_i2l (v := (zI (evO A B g (F 4) (k))).toInt64) hx hb dX3_digest_189 rfl ?_
                    refine lv_ladd hx hb dX3_digest_190 ?_
                    refine lv_lstore_n (lv' := [(1, .long (((d5) * (31)) + ((zI (evO A B g (F 4) (k))).toInt64))), (3, .int (zI (k))), (0, .ref (ad 0))]) hx hb dX3_digest_191 rfl hl (by decide) rfl (fun ls hl => ?_)
                    refine z_iinc (lv' := [(3, .int (zI (k + 1))), (1, .long (((d5) * (31)) + ((zI (evO A B g (F 4) (k))).toInt64))), (0, .ref (ad 0))]) hx hb dX3_digest_192 hl (k := 1) rfl (by decide) rfl (fun ls hl => ?_)
                    refine lv_goto (tgt := 168) hx hb dX3_digest_195 (by decide) ?_
                    exact ih (k + 1) (((d5) * (31)) + ((zI (evO A B g (F 4) (k))).toInt64)) (by omega) (by omega) (by rw [show dgE (evO A B g (F 4)) (dA (dA (dgV (zN F 0 0) A B (F 4)) (fauM (zN F 0 0) A B (F 4))) (ecT A B (F 4))) (k + 1) = dA (dgE (evO A B g (F 4)) (dA (dA (dgV (zN F 0 0) A B (F 4)) (fauM (zN F 0 0) A B (F 4))) (ecT A B (F 4))) k) (evO A B g (F 4) k) from pf_s _ _ hk0, ← hk2]; rfl) (by omega) H _ hP hS _ (lv_sub hl [0, 1, 2] rfl)
              exact lp_168 6401 0 (((((d) * (31)) + ((zI (fauM (zN F 0 0) A B (F 4))).toInt64)) * (31)) + ((zI ((ecT A B (F 4)))).toInt64)) (by omega) (by omega) hd8 (by omega) H1 _ hP hS _ (lv_sub hl [0, 1, 2] rfl)
            · skip
              refine lv_aload_n hx hb dX3_digest_45 rfl (lv_at hl 2 rfl) ?_
              refine lv_iload_n hx hb dX3_digest_46 rfl (lv_at hl 0 rfl) ?_
              refine k_Wv (c_VW (As := [.int (zI (i))]) (rest := []) ⟨hx, hb, hml, hown, hts⟩ hG hS hA (c_X3_find l G ad (zN F 0 (0)) A1 B1 i H.size (by omega) ((hkp.ok hVM).F0 0)) ⟨q_ml_RX3_145, q_im_X3_find, q_sel_X3_find, q_ini_RX3, q_code_X3_find⟩ hv_X3_find (MP.rec hK hP) hP ⟨Nat.le_of_ble_eq_true rfl, Nat.le_of_ble_eq_true rfl⟩ ⟨(show _ ≤ (ecT A B (F 4)).toNat by omega), (show _ ≤ 4 * (ecT A B (F 4)).toNat by omega)⟩ rfl hl.1 rfl (Nat.le_of_ble_eq_true rfl) dX3_digest_47) hS (fA_mono hS.1) (fun H1 locs1 hq hz1 hk1 hS => ?_)
              obtain ⟨A2, B2, hP, kp12, tm1, h81, h91, hs1⟩ := hq
              have kp2 := hkp.trans kp12
              have tm2 : TM (A 0 i) B i A2 B2 := by rw [← hkp.1]; exact ⟨tm1.1.trans (hkp.bg i _), fun e q0 q1 => (tm1.2 e q0 q1).trans (hkp.bg i e)⟩
              have hok1 : MOK (zN F 0 0) A1 B1 := (hkp.ok hVM).F0 0
              refine z_iconst hx hb dX3_digest_50 ?_
              refine lv_istore (lv' := [(4, .int (zI (0))), (3, .int (zI (i))), (1, .long (d)), (0, .ref (ad 0))]) hx hb dX3_digest_51 hl (by decide) rfl (fun ls hl => ?_)
              have lp_53 : ∀ (n : Nat) (w : Int) (d2 : Int64), 0 ≤ w → w ≤ 7 → d2 = dg7 (zN F 0 0) A B i d w → 7 - w < n → ∀ (H : Heap) (locs : List Loc), MP G ad (zN F 0 (0)) A2 B2 H → va_S (fA 11 ad s.heap.size) s.heap H locs → ∀ (ls : Array Slot), lv_has ls 6 [(4, .int (zI (w))), (3, .int (zI (i))), (1, .long (d2)), (0, .ref (ad 0))] → W p l env (rmz 5 114 (ecT A B (F 4)).toNat (4 * (ecT A B (F 4)).toNat)) s m (([.ref (ad 0)] : List Value).toArray) below meth c H locs 0 0 (MQ below (QL (fA 11 ad s.heap.size) (fun r H => ∃ g, rngI g ∧ r = dgM (zN F 0 0) A B g ∧ ∃ A' B', MP G ad (zN (zN F 0 0) 5 (ecT A B (F 4))) A' B' H ∧ KP A B A' B')) (([.ref (ad 0)] : List Value).toArray) s (ecT A B (F 4)).toNat (4 * (ecT A B (F 4)).toNat) (fA 11 ad s.heap.size)) (F0 m 53 ls []) := by
                intro n
                induction n with
                | zero => intro w d2 hw0 hw1 hw2 hmw H locs hP hS ls hl; exact absurd hmw (by omega)
                | succ n ih2 =>
                  intro w d2 hw0 hw1 hw2 hmw H locs hP hS ls hl
                  refine lv_iload hx hb dX3_digest_53 (lv_at hl 0 rfl) ?_
                  refine z_bipush hx hb dX3_digest_55 (by decide) ?_
                  refine z_icmp_ge (a := w) (b := 7) (tgt := 81) hx hb dX3_digest_57 (by decide) (by omega) (by omega) (fun h_57 => ?_) (fun h_57 => ?_)
                  · skip
                    refine z_iconst hx hb dX3_digest_81 ?_
                    refine lv_istore (lv' := [(4, .int (zI (0))), (3, .int (zI (i))), (1, .long (d2)), (0, .ref (ad 0))]) hx hb dX3_digest_82 hl (by decide) rfl (fun ls hl => ?_)
                    have hmn := hmn (by omega)
                    have hw7 : d2 = dg7 (zN F 0 0) A B i d 7 := by rw [hw2, show w = 7 by omega]
                    have lp_84 : ∀ (n : Nat) (e : Int) (d3 : Int64), 0 ≤ e → e ≤ A 0 i → d3 = dgF (zN F 0 0) A B i d2 e → A 0 i - e < n → ∀ (H : Heap) (locs : List Loc), MP G ad (zN F 0 (0)) A2 B2 H → va_S (fA 11 ad s.heap.size) s.heap H locs → ∀ (ls : Array Slot), lv_has ls 6 [(4, .int (zI (e))), (3, .int (zI (i))), (1, .long (d3)), (0, .ref (ad 0))] → W p l env (rmz 5 114 (ecT A B (F 4)).toNat (4 * (ecT A B (F 4)).toNat)) s m (([.ref (ad 0)] : List Value).toArray) below meth c H locs 0 0 (MQ below (QL (fA 11 ad s.heap.size) (fun r H => ∃ g, rngI g ∧ r = dgM (zN F 0 0) A B g ∧ ∃ A' B', MP G ad (zN (zN F 0 0) 5 (ecT A B (F 4))) A' B' H ∧ KP A B A' B')) (([.ref (ad 0)] : List Value).toArray) s (ecT A B (F 4)).toNat (4 * (ecT A B (F 4)).toNat) (fA 11 ad s.heap.size)) (F0 m 84 ls []) := by
                      intro n
                      induction n with
                      | zero => intro e d3 he0 he1 he2 hme H locs hP hS ls hl; exact absurd hme (by omega)
                      | succ n ih3 =>
                        intro e d3 he0 he1 he2 hme H locs hP hS ls hl
                        have eA0 : A2 0 i = A 0 i := by rw [kp2.1]
                        refine lv_iload hx hb dX3_digest_84 (lv_at hl 0 rfl) ?_
                        refine lv_aload_n hx hb dX3_digest_86 rfl (lv_at hl 3 rfl) ?_
                        refine zm_get hx hb hK hts hown hP 5 (by decide) q_fl_RX3_16 (v := .ref (ad 1)) rfl dX3_digest_87 ?_
                        refine lv_iload_n hx hb dX3_digest_90 rfl (lv_at hl 1 rfl) ?_
                        refine zm_lA0 hx hb hK hP (i := i) (by omega) dX3_digest_91 ?_
                        refine z_icmp_ge (a := e) (b := A2 0 (i)) (tgt := 134) hx hb dX3_digest_92 (by decide) (by omega) (by omega) (fun h_92 => ?_) (fun h_92 => ?_)
                        · skip
                          have he9 : A 0 i = e := by omega
                          refine z_iinc (lv' := [(3, .int (zI (i + 1))), (4, .int (zI (e))), (1, .long (d3)), (0, .ref (ad 0))]) hx hb dX3_digest_134 hl (k := 1) rfl (by decide) rfl (fun ls hl => ?_)
                          refine lv_goto (tgt := 37) hx hb dX3_digest_137 (by decide) ?_
                          exact ih (i + 1) (d3) A2 B2 (by omega) (by omega) (by rw [show dgV (zN F 0 0) A B (i + 1) = dgF (zN F 0 0) A B i (dg7 (zN F 0 0) A B i (dgV (zN F 0 0) A B i) 7) (A 0 i) from pf_s _ _ h0, ← h2, ← hw7, he9]; exact he2) kp2 (by omega) H _ hP hS _ (lv_sub hl [0, 2, 3] rfl)
                        · skip
                          refine z_iconst hx hb dX3_digest_95 ?_
                          refine lv_istore (lv' := [(5, .int (zI (0))), (4, .int (zI (e))), (3, .int (zI (i))), (1, .long (d3)), (0, .ref (ad 0))]) hx hb dX3_digest_96 hl (by decide) rfl (fun ls hl => ?_)
                          have hbr := bgM_rng hVM (v := i) (by omega) (e := e) (by omega)
                          have h72 : B2 i (10 * e + 7) = bgM B i e := tm2.2 e (by omega) (by omega)
                          have lp_98 : ∀ (n : Nat) (x : Int) (d4 : Int64), 0 ≤ x → x ≤ 9 → d4 = dg9 (zN F 0 0) A B i e d3 x → 9 - x < n → ∀ (H : Heap) (locs : List Loc), MP G ad (zN F 0 (0)) A2 B2 H → va_S (fA 11 ad s.heap.size) s.heap H locs → ∀ (ls : Array Slot), lv_has ls 6 [(5, .int (zI (x))), (4, .int (zI (e))), (3, .int (zI (i))), (1, .long (d4)), (0, .ref (ad 0))] → W p l env (rmz 5 114 (ecT A B (F 4)).toNat (4 * (ecT A B (F 4)).toNat)) s m (([.ref (ad 0)] : List Value).toArray) below meth c H locs 0 0 (MQ below (QL (fA 11 ad s.heap.size) (fun r H => ∃ g, rngI g ∧ r = dgM (zN F 0 0) A B g ∧ ∃ A' B', MP G ad (zN (zN F 0 0) 5 (ecT A B (F 4))) A' B' H ∧ KP A B A' B')) (([.ref (ad 0)] : List Value).toArray) s (ecT A B (F 4)).toNat (4 * (ecT A B (F 4)).toNat) (fA 11 ad s.heap.size)) (F0 m 98 ls []) := by
                            intro n
                            induction n with
                            | zero => intro x d4 hx0 hx1 hx2 hmx H locs hP hS ls hl; exact absurd hmx (by omega)
                            | succ n ih4 =>
                              intro x d4 hx0 hx1 hx2 hmx H locs hP hS ls hl
                              refine lv_iload hx hb dX3_digest_98 (lv_at hl 0 rfl) ?_
                              refine z_bipush hx hb dX3_digest_100 (by decide) ?_
                              refine z_icmp_ge (a := x) (b := 9) (tgt := 128) hx hb dX3_digest_102 (by decide) (by omega) (by omega) (fun h_102 => ?_) (fun h_102 => ?_)
                              · skip
                                refine z_iinc (lv' := [(4, .int (zI (e + 1))), (5, .int (zI (x))), (3, .int (zI (i))), (1, .long (d4)), (0, .ref (ad 0))]) hx hb dX3_digest_128 hl (k := 1) rfl (by decide) rfl (fun ls hl => ?_)
                                refine lv_goto (tgt := 84) hx hb dX3_digest_131 (by decide) ?_
                                exact ih3 (e + 1) (d4) (by omega) (by omega) (by rw [show dgF (zN F 0 0) A B i d2 (e + 1) = dg9 (zN F 0 0) A B i e (dgF (zN F 0 0) A B i d2 e) 9 from pf_s _ _ he0, ← he2, show (9 : Int) = x by omega]; exact hx2) (by omega) H _ hP hS _ (lv_sub hl [0, 2, 3, 4] rfl)
                              · skip
                                refine lv_lload_n hx hb dX3_digest_105 rfl (lv_at hl 3 rfl) ?_
                                refine lv_ldc2 hx hb hown (hts _ q_k_RX3_194) dX3_digest_106 ?_
                                refine lv_lmul hx hb dX3_digest_109 ?_
                                refine lv_aload_n hx hb dX3_digest_110 rfl (lv_at hl 4 rfl) ?_
                                refine lv_iload_n hx hb dX3_digest_111 rfl (lv_at hl 2 rfl) ?_
                                refine lv_iload hx hb dX3_digest_112 (lv_at hl 1 rfl) ?_
                                refine lv_iload hx hb dX3_digest_114 (lv_at hl 0 rfl) ?_
                                refine k_R (c_VR (As := [.int (zI (i)), .int (zI (e)), .int (zI (x))]) (rest := [.long ((d4) * (31))]) ⟨hx, hb, hml, hown, hts⟩ hG hS hA (c_X3_elementTold l G ad (zN F 0 (0)) A2 B2 i e x (by omega) (by rw [kp2.1]; omega) (by rw [h72]; omega) (by omega) ((kp2.ok hVM).F0 0)) ⟨q_ml_RX3_148, q_im_X3_elementTold, q_sel_X3_elementTold, q_ini_RX3, q_code_X3_elementTold⟩ hv_X3_elementTold (MP.rec hK hP) hP ⟨Nat.le_of_ble_eq_true rfl, Nat.le_of_ble_eq_true rfl⟩ ⟨(show _ ≤ (ecT A B (F 4)).toNat by omega), (show _ ≤ 4 * (ecT A B (F 4)).toNat by omega)⟩ rfl hl.1 rfl (Nat.le_of_ble_eq_true rfl) dX3_digest_116) ?_
                                rw [elP_eq kp12 (h72.trans (hkp.bg i e).symm) (h81 e he0 (by rw [hkp.1]; omega)) (h91 e he0 (by rw [hkp.1]; omega)), elP_ind hok1 (by omega) (A1 3) h00 ⟨he0, by rw [hkp.1]; omega⟩ x, hkp.el h00 i e x]
                                refine lv_i2l (v := (zI (elP (zN F 0 0) A B h00 i e x)).toInt64) hx hb dX3_digest_119 rfl ?_
                                refine lv_ladd hx hb dX3_digest_120 ?_
                                refine lv_lstore_n (lv' := [(1, .long (((d4) * (31)) + ((zI (elP (zN F 0 0) A B h00 i e x)).toInt64))), (5, .int (zI (x))), (4, .int (zI (e))), (3, .int (zI (i))), (0, .ref (ad 0))]) hx hb dX3_digest_121 rfl hl (by decide) rfl (fun ls hl => ?_)
                                refine z_iinc (lv' := [(5, .int (zI (x + 1))), (1, .long (((d4) * (31)) + ((zI (elP (zN F 0 0) A B h00 i e x)).toInt64))), (4, .int (zI (e))), (3, .int (zI (i))), (0, .ref (ad 0))]) hx hb dX3_digest_122 hl (k := 1) rfl (by decide) rfl (fun ls hl => ?_)
                                refine lv_goto (tgt := 98) hx hb dX3_digest_125 (by decide) ?_
                                exact ih4 (x + 1) (((d4) * (31)) + ((zI (elP (zN F 0 0) A B h00 i e x)).toInt64)) (by omega) (by omega) (by rw [show dg9 (zN F 0 0) A B i e d3 (x + 1) = dA (dg9 (zN F 0 0) A B i e d3 x) (elP (zN F 0 0) A B h00 i e x) from pf_s _ _ hx0, ← hx2]; rfl) (by omega) H _ hP hS _ (lv_sub hl [0, 2, 3, 1, 4] rfl)
                          exact lp_98 10 0 d3 (by omega) (by omega) rfl (by omega) H _ hP hS _ (lv_sub hl [0, 1, 2, 3, 4] rfl)
                    exact lp_84 201 0 d2 (by omega) (by omega) rfl (by omega) H _ hP hS _ (lv_sub hl [0, 1, 2, 3] rfl)
                  · skip
                    refine lv_lload_n hx hb dX3_digest_60 rfl (lv_at hl 2 rfl) ?_
                    refine lv_ldc2 hx hb hown (hts _ q_k_RX3_194) dX3_digest_61 ?_
                    refine lv_lmul hx hb dX3_digest_64 ?_
                    refine lv_aload_n hx hb dX3_digest_65 rfl (lv_at hl 3 rfl) ?_
                    refine lv_iload_n hx hb dX3_digest_66 rfl (lv_at hl 1 rfl) ?_
                    refine lv_iload hx hb dX3_digest_67 (lv_at hl 0 rfl) ?_
                    refine k_R (c_VR (As := [.int (zI (i)), .int (zI (w))]) (rest := [.long ((d2) * (31))]) ⟨hx, hb, hml, hown, hts⟩ hG hS hA (c_X3_voiceTold l G ad (zN F 0 (0)) A2 B2 i w (by omega) (by omega) (fun e q0 q1 => by rw [h81 e q0 (by rw [← kp12.1]; exact q1)]; exact shM_01 _ _ _ _ _ _) ((kp2.ok hVM).F0 0)) ⟨q_ml_RX3_151, q_im_X3_voiceTold, q_sel_X3_voiceTold, q_ini_RX3, q_code_X3_voiceTold⟩ hv_X3_voiceTold (MP.rec hK hP) hP ⟨Nat.le_of_ble_eq_true rfl, Nat.le_of_ble_eq_true rfl⟩ ⟨(show _ ≤ (ecT A B (F 4)).toNat by omega), (show _ ≤ 4 * (ecT A B (F 4)).toNat by omega)⟩ rfl hl.1 rfl (Nat.le_of_ble_eq_true rfl) dX3_digest_69) ?_
                    rw [vpM_eq kp12 tm1.1 hs1 h81, vpM_ind hok1 (by omega) (A1 3) h00, hkp.vp h00 i w]
                    refine lv_i2l (v := (zI (vpM (zN F 0 0) A B h00 i w)).toInt64) hx hb dX3_digest_72 rfl ?_
                    refine lv_ladd hx hb dX3_digest_73 ?_
                    refine lv_lstore_n (lv' := [(1, .long (((d2) * (31)) + ((zI (vpM (zN F 0 0) A B h00 i w)).toInt64))), (4, .int (zI (w))), (3, .int (zI (i))), (0, .ref (ad 0))]) hx hb dX3_digest_74 rfl hl (by decide) rfl (fun ls hl => ?_)
                    refine z_iinc (lv' := [(4, .int (zI (w + 1))), (1, .long (((d2) * (31)) + ((zI (vpM (zN F 0 0) A B h00 i w)).toInt64))), (3, .int (zI (i))), (0, .ref (ad 0))]) hx hb dX3_digest_75 hl (k := 1) rfl (by decide) rfl (fun ls hl => ?_)
                    refine lv_goto (tgt := 53) hx hb dX3_digest_78 (by decide) ?_
                    exact ih2 (w + 1) (((d2) * (31)) + ((zI (vpM (zN F 0 0) A B h00 i w)).toInt64)) (by omega) (by omega) (by rw [show dg7 (zN F 0 0) A B i d (w + 1) = dA (dg7 (zN F 0 0) A B i d w) (vpM (zN F 0 0) A B h00 i w) from pf_s _ _ hw0, ← hw2]; rfl) (by omega) H _ hP hS _ (lv_sub hl [0, 2, 1, 3] rfl)
              exact lp_53 8 0 d (by omega) (by omega) rfl (by omega) H1 _ hP hS _ (lv_sub hl [0, 1, 2, 3] rfl)
        exact lp_37 5 0 d A1 B1 (by omega) (by omega) hd0 hkp (by omega) H _ hP hS _ (lv_sub hl [0, 1, 2] rfl)
      · skip
        refine lv_lload_n hx hb dX3_digest_16 rfl (lv_at hl 1 rfl) ?_
        refine lv_ldc2 hx hb hown (hts _ q_k_RX3_194) dX3_digest_17 ?_
        refine lv_lmul hx hb dX3_digest_20 ?_
        refine lv_aload_n hx hb dX3_digest_21 rfl (lv_at hl 2 rfl) ?_
        refine lv_iload_n hx hb dX3_digest_22 rfl (lv_at hl 0 rfl) ?_
        refine k_Wi (c_VW (As := [.int (zI (w))]) (rest := [.long ((d) * (31))]) ⟨hx, hb, hml, hown, hts⟩ hG hS hA (c_X3_scoreTold l G ad (zN F 0 (0)) A1 B1 w H.size (by omega) ((hkp.ok hVM).F0 0)) ⟨q_ml_RX3_100, q_im_X3_scoreTold, q_sel_X3_scoreTold, q_ini_RX3, q_code_X3_scoreTold⟩ hv_X3_scoreTold (MP.rec hK hP) hP ⟨Nat.le_of_ble_eq_true rfl, Nat.le_of_ble_eq_true rfl⟩ ⟨(show _ ≤ (ecT A B (F 4)).toNat by omega), (show _ ≤ 4 * (ecT A B (F 4)).toNat by omega)⟩ rfl hl.1 rfl (Nat.le_of_ble_eq_true rfl) dX3_digest_23) hS (fA_mono hS.1) (fun r_23 H1 locs1 hq hz1 hk1 hS => ?_)
        obtain ⟨hr9, A2, B2, hP, kp2⟩ := hq
        rw [hkp.sc w] at hr9
        subst hr9
        refine lv_i2l (v := (zI (scM (zN F 0 0) A B w)).toInt64) hx hb dX3_digest_26 rfl ?_
        refine lv_ladd hx hb dX3_digest_27 ?_
        refine lv_lstore_n (lv' := [(1, .long (((d) * (31)) + ((zI (scM (zN F 0 0) A B w)).toInt64))), (3, .int (zI (w))), (0, .ref (ad 0))]) hx hb dX3_digest_28 rfl hl (by decide) rfl (fun ls hl => ?_)
        refine z_iinc (lv' := [(3, .int (zI (w + 1))), (1, .long (((d) * (31)) + ((zI (scM (zN F 0 0) A B w)).toInt64))), (0, .ref (ad 0))]) hx hb dX3_digest_29 hl (k := 1) rfl (by decide) rfl (fun ls hl => ?_)
        refine lv_goto (tgt := 11) hx hb dX3_digest_32 (by decide) ?_
        exact ih (w + 1) (((d) * (31)) + ((zI (scM (zN F 0 0) A B w)).toInt64)) A2 B2 (by omega) (by omega) (by rw [show dgS (zN F 0 0) A B (w + 1) = dA (dgS (zN F 0 0) A B w) (scM (zN F 0 0) A B w) from pf_s _ _ h0, ← h2]; rfl) (hkp.trans kp2) (by omega) H1 _ hP hS _ (lv_sub hl [0, 1, 2] rfl)
  exact lp_11 6 0 389 A B (by omega) (by omega) rfl (KP.rfl' A B) (by omega) H _ hP hS _ (lv_sub hl [0, 1, 2] rfl)
