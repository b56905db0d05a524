theorem valT_12 {k : Int} (h : 0 ≤ k ∧ k < 15) : valT k % 12 = 0 := co15 (q := fun k => valT k % 12 = 0) (by decide) h
theorem VK_12 {pa d : Int} (h : VK pa d) : tkO pa d % 12 = 0 := by
  obtain ⟨k, hk, rfl, rfl⟩ := h
  rw [tkO_val hk]
  exact valT_12 hk
def kkC (b en a : Int) : Int := fp (fun k => valT k ≤ min en ((a / b + 1) * b) - a) 15
def ctL (b en fr a : Int) : Int := if (en - 1) / b = fr / b then en - fr else valT (kkC b en a)
def ctA (b en fr : Int) : Int → Int := pf fr (fun _ a => a + ctL b en fr a)
def cutN (b en fr : Int) : Int := fp (fun n => en ≤ ctA b en fr n) 57
theorem ctA_s (b en fr : Int) {n : Int} (h : 0 ≤ n) : ctA b en fr (n + 1) = ctA b en fr n + ctL b en fr (ctA b en fr n) := pf_s _ _ h
def elC (b en fr : Int) (sd : Int → Int) (n w : Int) : Int :=
  if w = 0 ∧ ¬ (en - 1) / b = fr / b then valP (kkC b en (ctA b en fr n)) else if w = 1 ∧ ¬ (en - 1) / b = fr / b then valD (kkC b en (ctA b en fr n)) else if w = 6 ∧ ctA b en fr (n + 1) < en then sd 2 else sd w
theorem fp_ge {q : Int → Prop} [DecidablePred q] {m n : Int} (h0 : 0 ≤ m) (h1 : fp q m = m) (h2 : m ≤ n) : m ≤ fp q n := by
  have a := (fp_spec (q := q) (n := m) h0).2
  have b := fp_spec (q := q) (n := n) (by omega)
  have g := fp_le (q := q) (n := n) (by omega)
  by_cases e : fp q n < m
  · exact absurd (b.1 (by omega)) (a _ g.1 (by omega))
  · omega
theorem cutN_eq {b en fr q : Int} (h0 : 0 ≤ q) (h1 : fp (fun n => en ≤ ctA b en fr n) q = q) (h2 : en ≤ ctA b en fr q) (h3 : q < 57) : cutN b en fr = q := by
  unfold cutN
  exact fp_yes h0 h1 h2 h3
theorem left_rng {b a : Int} {y : Int} (hb : b = 12 * y) (hy : 4 ≤ y ∧ y ≤ 192) (ha : a % 12 = 0) : a + 12 ≤ (a / b + 1) * b ∧ (a / b + 1) * b ≤ a + b ∧ (a / b + 1) * b % 12 = 0 := by
  have h1 := Int.lt_ediv_add_one_mul_self a (b := b) (by omega)
  have h2 := Int.ediv_mul_le a (b := b) (by omega)
  have h3 : (a / b + 1) * b = a / b * b + b := by rw [Int.add_mul, Int.one_mul]
  have h4 : (a / b + 1) * b = 12 * ((a / b + 1) * y) := by
    rw [hb, Int.mul_left_comm]
  rw [h4] at h1 h3 ⊢
  generalize (a / b + 1) * y = z at *
  omega
theorem zB_at {B : Int → Int → Int} {v e9 w9 x u e w : Int} (h : 0 ≤ w9 ∧ w9 < 10) (h' : 0 ≤ w ∧ w < 10) : zB B v (10 * e9 + w9) x u (10 * e + w) = if u = v ∧ e = e9 ∧ w = w9 then x else B u (10 * e + w) := by
  unfold zB
  exact zite (by omega)
theorem zcpB_at {B : Int → Int → Int} {v e9 u e w : Int} {sd : Int → Int} (h' : 0 ≤ w ∧ w < 10) : zBw B v (zcp sd (B v) 0 (10 * e9) 7) u (10 * e + w) = if u = v ∧ e = e9 ∧ w < 7 then sd w else B u (10 * e + w) := by
  unfold zBw
  by_cases hu : u = v
  · subst hu
    rw [if_pos rfl]
    unfold zcp
    by_cases q : 10 * e9 ≤ 10 * e + w ∧ 10 * e + w < 10 * e9 + 7
    · rw [if_pos q, if_pos ⟨rfl, by omega, by omega⟩, show 0 + (10 * e + w - 10 * e9) = w by omega]
    · rw [if_neg q, if_neg (by omega)]
  · rw [if_neg hu, if_neg (fun z => hu z.1)]
theorem MOK.same {F : Nat → Int} {A : Nat → Int → Int} {B B1 : Int → Int → Int} (hM : MOK F A B) (h : ∀ u e w, 0 ≤ w → w < 7 → 0 ≤ e → e < A 0 u → B1 u (10 * e + w) = B u (10 * e + w)) : MOK F A B1 := by
  obtain ⟨h1, h2, h3, h4, h5⟩ := hM
  refine ⟨h1, h2, h3, h4, fun v hv hv2 => ⟨(h5 v hv hv2).1, fun e he he2 => ?_⟩⟩
  rw [h v e 0 (by omega) (by omega) he he2, h v e 1 (by omega) (by omega) he he2, h v e 2 (by omega) (by omega) he he2, h v e 3 (by omega) (by omega) he he2, h v e 4 (by omega) (by omega) he he2, h v e 5 (by omega) (by omega) he he2, h v e 6 (by omega) (by omega) he he2]
  exact (h5 v hv hv2).2 e he he2
theorem nD_of {ad : Nat → Nat} {sz sa : Nat} (h : sa < sz) (hsa : ∀ k, k < 11 → ad k ≠ sa) : ¬ fA 11 ad sz sa := fun q => q.elim (fun ⟨k, hk, e⟩ => hsa k hk e.symm) (fun q => absurd h (by omega))
set_option maxHeartbeats 2000000 in
theorem c_X3_cut (l : Launch) (G : zG) (ad : Nat → Nat) (F : Nat → Int) (A : Nat → Int → Int) (B : Int → Int → Int) (sa : Nat) (sd : Int → Int) (b en : Int) (v fr L : Int) (sz : Nat) (hv : 0 ≤ v ∧ v < 4) (hvk : VK (sd 0) (sd 1)) (hfr : 0 ≤ fr ∧ fr ≤ 1000000 ∧ fr % 12 = 0) (hL : L = 0 ∨ L = 1) (hbb : b = (F 1 * 384 / F 2)) (hen : en = (fr + tkO (sd 0) (sd 1))) (hVl : L = 1 → A 0 v + cutN b en fr ≤ 200) (hVM : MOK F A B) : MW l yX3_cut cX3_cut 13 (some .int) 1 37 (0) (0) G [.ref (ad 0), .int (zI (v)), .int (zI (fr)), .ref (sa), .int (zI (L))] (fA 11 ad sz) sz (fun H => MP G ad F A B H ∧ va_at G.1 vwCl (sa, .inl (G.2.1 0, 7, .inl (zA sd))) H ∧ ∀ k, k < 11 → ad k ≠ sa) (QW (fA 11 ad sz) (fun r H => r = cutN b en fr ∧ (1 ≤ r ∧ r ≤ 56) ∧ ∃ B', MP G ad F A B' H ∧ (L = 0 → B' = B) ∧ (L = 1 → ∀ u e w, 0 ≤ w → w < 10 → B' u (10 * e + w) = if u = v ∧ A 0 v ≤ e ∧ e < A 0 v + r ∧ w < 7 then elC b en fr sd (e - A 0 v) w else B u (10 * e + w)))) := by
  refine mw_of hp_X3_cut (Nat.le_of_ble_eq_true rfl) ?_
  intro p env s m below meth c ls hB hsz hP hl
  obtain ⟨hx, hb, hml, hr, hlk, hown, hts, hG⟩ := hB
  subst hsz
  have hK := hG.1
  have hS : va_S (fA 11 ad s.heap.size) s.heap s.heap [] := va_S.rf
  have hA : ∀ q : Nat, (fA 11 ad s.heap.size) q → G.2.2 ≤ q := fA_lo hP.1.1.2 hG.2.1
  have hD : ∀ k, k < 11 → (fA 11 ad s.heap.size) (ad k) := fun k hk => fA_in hk
  have hl : lv_has ls 13 [(0, .ref (ad 0)), (1, .int (zI (v))), (2, .int (zI (fr))), (3, .ref (sa)), (4, .int (zI (L)))] := hl
  obtain ⟨hP, hN0, hsa⟩ := hP
  have hnD := nD_of hN0.lt hsa
  have hmn := hVM.many hv
  have h1b := hVM.1
  have h2b := hVM.2.1
  have hba : 48 ≤ F 1 * 384 / F 2 ∧ F 1 * 384 / F 2 ≤ 2304 := by rcases h2b with h | h | h <;> rw [h] <;> omega
  have hvr := VK_rng hvk
  have hv12 := VK_12 hvk
  rw [← hbb] at hba
  obtain ⟨y, hy, hy2⟩ : ∃ y, b = 12 * y ∧ (4 ≤ y ∧ y ≤ 192) := by
    rcases h2b with h | h | h
    · exact ⟨16 * F 1, by rw [hbb, h]; omega, by omega⟩
    · exact ⟨8 * F 1, by rw [hbb, h]; omega, by omega⟩
    · exact ⟨4 * F 1, by rw [hbb, h]; omega, by omega⟩
  refine lv_iload_n hx hb dX3_cut_0 rfl (lv_at hl 2 rfl) ?_
  refine lv_aload_n hx hb dX3_cut_1 rfl (lv_at hl 3 rfl) ?_
  refine z_iconst hx hb dX3_cut_2 ?_
  refine z_ald (n := 7) hx hb hK (hN0.kept (hS.2.1 sa hN0.lt hnD)) (i := 0) (by decide) (by decide) dX3_cut_3 ?_
  refine lv_aload_n hx hb dX3_cut_4 rfl (lv_at hl 3 rfl) ?_
  refine z_iconst hx hb dX3_cut_5 ?_
  refine z_ald (n := 7) hx hb hK (hN0.kept (hS.2.1 sa hN0.lt hnD)) (i := 1) (by decide) (by decide) dX3_cut_6 ?_
  refine k_R (c_SR (As := [.int (zI (sd 0)), .int (zI (sd 1))]) (rest := [.int (zI (fr))]) ⟨hx, hb, hml, hown, hts⟩ hG hS hA (c_X3_ticksOf l G (sd 0) (sd 1) (show 1 ≤ (sd 0) ∧ (sd 0) ≤ 1000 by omega) (show -2147483648 ≤ (sd 1) ∧ (sd 1) ≤ 2147483647 by omega)) ⟨q_ml_RX3_61, q_st_X3_ticksOf, q_ini_RX3, q_code_X3_ticksOf⟩ hs_X3_ticksOf trivial ⟨by decide, by decide⟩ ⟨Nat.zero_le _, Nat.zero_le _⟩ rfl hl.1 rfl (Nat.le_of_ble_eq_true rfl) dX3_cut_7) ?_
  refine z_iadd (x := fr) (y := tkO (sd 0) (sd 1)) hx hb dX3_cut_10 ?_
  rw [← hen]
  refine lv_istore (lv' := [(5, .int (zI (en))), (0, .ref (ad 0)), (1, .int (zI (v))), (2, .int (zI (fr))), (3, .ref (sa)), (4, .int (zI (L)))]) hx hb dX3_cut_11 hl (by decide) rfl (fun ls hl => ?_)
  refine lv_iload hx hb dX3_cut_13 (lv_at hl 0 rfl) ?_
  refine z_iconst hx hb dX3_cut_15 ?_
  refine z_isub (x := en) (y := 1) hx hb dX3_cut_16 ?_
  refine lv_aload_n hx hb dX3_cut_17 rfl (lv_at hl 1 rfl) ?_
  refine k_R (c_VR (As := []) (rest := [.int (zI ((en) - (1)))]) ⟨hx, hb, hml, hown, hts⟩ hG hS hA (c_X3_bar l G ad F A B hVM) ⟨q_ml_RX3_81, q_im_X3_bar, q_sel_X3_bar, q_ini_RX3, q_code_X3_bar⟩ hv_X3_bar (MP.rec hK hP) hP ⟨by decide, by decide⟩ ⟨Nat.zero_le _, Nat.zero_le _⟩ rfl hl.1 rfl (Nat.le_of_ble_eq_true rfl) dX3_cut_18) ?_
  rw [← hbb]
  have hdn : 0 ≤ (en - 1) / b ∧ (en - 1) / b ≤ en - 1 := ⟨Int.ediv_nonneg (by omega) (by omega), Int.ediv_le_self _ (by omega)⟩
  have hdf : 0 ≤ fr / b ∧ fr / b ≤ fr := ⟨Int.ediv_nonneg (by omega) (by omega), Int.ediv_le_self _ (by omega)⟩
  refine z_idiv hx hb dX3_cut_21 (by omega) (by omega) ?_
  refine lv_iload_n hx hb dX3_cut_22 rfl (lv_at hl 3 rfl) ?_
  refine lv_aload_n hx hb dX3_cut_23 rfl (lv_at hl 1 rfl) ?_
  refine k_R (c_VR (As := []) (rest := [.int (zI (fr)), .int (zI (((en) - (1)) / (b)))]) ⟨hx, hb, hml, hown, hts⟩ hG hS hA (c_X3_bar l G ad F A B hVM) ⟨q_ml_RX3_81, q_im_X3_bar, q_sel_X3_bar, q_ini_RX3, q_code_X3_bar⟩ hv_X3_bar (MP.rec hK hP) hP ⟨by decide, by decide⟩ ⟨Nat.zero_le _, Nat.zero_le _⟩ rfl hl.1 rfl (Nat.le_of_ble_eq_true rfl) dX3_cut_24) ?_
  rw [← hbb]
  refine z_idiv hx hb dX3_cut_27 (by omega) (by omega) ?_
  refine z_icmp_ne (a := ((en) - (1)) / (b)) (b := (fr) / (b)) (tgt := 35) hx hb dX3_cut_28 (by decide) (by omega) (by omega) (fun h_28 => ?_) (fun h_28 => ?_)
  · skip
    refine z_iconst hx hb dX3_cut_35 ?_
    rw [show zI 0 = zI (bI ((en - 1) / b = fr / b)) from congrArg zI (bI_f h_28)]
    refine lv_istore (lv' := [(6, .int (zI (bI ((en - 1) / b = fr / b)))), (5, .int (zI (en))), (0, .ref (ad 0)), (1, .int (zI (v))), (2, .int (zI (fr))), (3, .ref (sa)), (4, .int (zI (L)))]) hx hb dX3_cut_36 hl (by decide) rfl (fun ls hl => ?_)
    refine lv_iload_n hx hb dX3_cut_38 rfl (lv_at hl 4 rfl) ?_
    refine lv_istore (lv' := [(7, .int (zI (fr))), (6, .int (zI (bI ((en - 1) / b = fr / b)))), (5, .int (zI (en))), (0, .ref (ad 0)), (1, .int (zI (v))), (2, .int (zI (fr))), (3, .ref (sa)), (4, .int (zI (L)))]) hx hb dX3_cut_39 hl (by decide) rfl (fun ls hl => ?_)
    refine z_iconst hx hb dX3_cut_41 ?_
    refine lv_istore (lv' := [(8, .int (zI (0))), (7, .int (zI (fr))), (6, .int (zI (bI ((en - 1) / b = fr / b)))), (5, .int (zI (en))), (0, .ref (ad 0)), (1, .int (zI (v))), (2, .int (zI (fr))), (3, .ref (sa)), (4, .int (zI (L)))]) hx hb dX3_cut_42 hl (by decide) rfl (fun ls hl => ?_)
    have lp_44 : ∀ (n : Nat) (q a : Int) (B1 : Int → Int → Int), 0 ≤ q → a = ctA b en fr q → (fr ≤ a ∧ a ≤ en ∧ a % 12 = 0 ∧ 12 * q ≤ a - fr) → ((en - 1) / b = fr / b → a < en → a = fr) → fp (fun n => en ≤ ctA b en fr n) q = q → (L = 0 ∧ B1 = B ∨ L = 1 ∧ (∀ u e w, 0 ≤ w → w < 10 → B1 u (10 * e + w) = if u = v ∧ A 0 v ≤ e ∧ e < A 0 v + q ∧ w < 7 then elC b en fr sd (e - A 0 v) w else B u (10 * e + w))) → (en - a < n * 12) → ∀ (H : Heap) (locs : List Loc), MP G ad F A B1 H → va_S (fA 11 ad s.heap.size) s.heap H locs → ∀ (ls : Array Slot), lv_has ls 13 [(8, .int (zI (q))), (7, .int (zI (a))), (6, .int (zI (bI ((en - 1) / b = fr / b)))), (5, .int (zI (en))), (0, .ref (ad 0)), (1, .int (zI (v))), (2, .int (zI (fr))), (3, .ref (sa)), (4, .int (zI (L)))] → W p l env (rmz 1 37 0 0) s m (([.ref (ad 0), .int (zI (v)), .int (zI (fr)), .ref (sa), .int (zI (L))] : List Value).toArray) below meth c H locs 0 0 (MQ below (QW (fA 11 ad s.heap.size) (fun r H => r = cutN b en fr ∧ (1 ≤ r ∧ r ≤ 56) ∧ ∃ B', MP G ad F A B' H ∧ (L = 0 → B' = B) ∧ (L = 1 → ∀ u e w, 0 ≤ w → w < 10 → B' u (10 * e + w) = if u = v ∧ A 0 v ≤ e ∧ e < A 0 v + r ∧ w < 7 then elC b en fr sd (e - A 0 v) w else B u (10 * e + w)))) (([.ref (ad 0), .int (zI (v)), .int (zI (fr)), .ref (sa), .int (zI (L))] : List Value).toArray) s 0 0 (fA 11 ad s.heap.size)) (F0 m 44 ls []) := by
      intro n
      induction n with
      | zero => intro q a B1 h0 haq ha hone hfp hst hm H locs hP hS ls hl; exact absurd hm (by omega)
      | succ n ih =>
        intro q a B1 h0 haq ha hone hfp hst hm H locs hP hS ls hl
        have hsA := ctA_s b en fr h0
        have hlr := left_rng hy hy2 ha.2.2.1
        have hokB : MOK F A B1 := by
          rcases hst with z | z
          · rw [z.2]; exact hVM
          · exact hVM.same fun u e w w0 w1 e0 e1 => by rw [z.2 u e w w0 (by omega), if_neg (by intro q9; rw [q9.1] at e1; omega)]
        refine lv_iload hx hb dX3_cut_44 (lv_at hl 1 rfl) ?_
        refine lv_iload hx hb dX3_cut_46 (lv_at hl 3 rfl) ?_
        refine z_icmp_ge (a := a) (b := en) (tgt := 241) hx hb dX3_cut_48 (by decide) (by omega) (by omega) (fun h_48 => ?_) (fun h_48 => ?_)
        · skip
          refine lv_iload hx hb dX3_cut_241 (lv_at hl 0 rfl) ?_
          have hq1 : 1 ≤ q := by
            rcases (by omega : q = 0 ∨ 1 ≤ q) with z | z
            · rw [z] at haq
              have : a = fr := haq
              omega
            · exact z
          exact e_Wi (r := q) hx hb hr hlk (n_i _) hS (by omega) (by omega) ⟨(cutN_eq h0 hfp (by rw [← haq]; omega) (by omega)).symm, (by omega), B1, hP, (fun z => (hst.resolve_right (fun z9 => absurd z9.1 (by omega))).2), (fun z => (hst.resolve_left (fun z9 => absurd z9.1 (by omega))).2)⟩ dX3_cut_243
        · skip
          have hfp1 := fp_no h0 hfp (show ¬ en ≤ ctA b en fr q by rw [← haq]; omega)
          have hda : 0 ≤ a / b ∧ a / b ≤ a := ⟨Int.ediv_nonneg (by omega) (by omega), Int.ediv_le_self _ (by omega)⟩
          have hcn : q + 1 ≤ cutN b en fr := fp_ge (by omega) hfp1 (by omega)
          refine z_iconst hx hb dX3_cut_51 ?_
          refine lv_istore (lv' := [(9, .int (zI (0))), (8, .int (zI (q))), (7, .int (zI (a))), (6, .int (zI (bI ((en - 1) / b = fr / b)))), (5, .int (zI (en))), (0, .ref (ad 0)), (1, .int (zI (v))), (2, .int (zI (fr))), (3, .ref (sa)), (4, .int (zI (L)))]) hx hb dX3_cut_52 hl (by decide) rfl (fun ls hl => ?_)
          refine lv_iload hx hb dX3_cut_54 (lv_at hl 4 rfl) ?_
          refine lv_iload hx hb dX3_cut_56 (lv_at hl 2 rfl) ?_
          refine lv_aload_n hx hb dX3_cut_58 rfl (lv_at hl 5 rfl) ?_
          refine k_R (c_VR (As := []) (rest := [.int (zI (a)), .int (zI (en))]) ⟨hx, hb, hml, hown, hts⟩ hG hS hA (c_X3_bar l G ad F A B1 hokB) ⟨q_ml_RX3_81, q_im_X3_bar, q_sel_X3_bar, q_ini_RX3, q_code_X3_bar⟩ hv_X3_bar (MP.rec hK hP) hP ⟨by decide, by decide⟩ ⟨Nat.zero_le _, Nat.zero_le _⟩ rfl hl.1 rfl (Nat.le_of_ble_eq_true rfl) dX3_cut_59) ?_
          rw [← hbb]
          refine z_idiv hx hb dX3_cut_62 (by omega) (by omega) ?_
          refine z_iconst hx hb dX3_cut_63 ?_
          refine z_iadd (x := (a) / (b)) (y := 1) hx hb dX3_cut_64 ?_
          refine lv_aload_n hx hb dX3_cut_65 rfl (lv_at hl 5 rfl) ?_
          refine k_R (c_VR (As := []) (rest := [.int (zI (((a) / (b)) + (1))), .int (zI (en))]) ⟨hx, hb, hml, hown, hts⟩ hG hS hA (c_X3_bar l G ad F A B1 hokB) ⟨q_ml_RX3_81, q_im_X3_bar, q_sel_X3_bar, q_ini_RX3, q_code_X3_bar⟩ hv_X3_bar (MP.rec hK hP) hP ⟨by decide, by decide⟩ ⟨Nat.zero_le _, Nat.zero_le _⟩ rfl hl.1 rfl (Nat.le_of_ble_eq_true rfl) dX3_cut_66) ?_
          rw [← hbb]
          refine z_imul (x := ((a) / (b)) + (1)) (y := b) hx hb dX3_cut_69 ?_
          refine k_R (c_SR (As := [.int (zI (en)), .int (zI ((((a) / (b)) + (1)) * (b)))]) (rest := []) ⟨hx, hb, hml, hown, hts⟩ hG hS hA (c_J9_min_7cf53 l G en ((((a) / (b)) + (1)) * (b)) (show -2147483648 ≤ en ∧ en ≤ 2147483647 by omega) (show -2147483648 ≤ ((((a) / (b)) + (1)) * (b)) ∧ ((((a) / (b)) + (1)) * (b)) ≤ 2147483647 by omega)) ⟨q_ml_RX3_110, q_st_J9_min_7cf53, q_ini_RJ9, q_code_J9_min_7cf53⟩ hs_J9_min_7cf53 trivial ⟨by decide, by decide⟩ ⟨Nat.zero_le _, Nat.zero_le _⟩ rfl hl.1 rfl (Nat.le_of_ble_eq_true rfl) dX3_cut_70) ?_
          refine lv_iload hx hb dX3_cut_73 (lv_at hl 2 rfl) ?_
          refine z_isub (x := min en ((((a) / (b)) + (1)) * (b))) (y := a) hx hb dX3_cut_75 ?_
          refine lv_istore (lv' := [(10, .int (zI ((min en ((((a) / (b)) + (1)) * (b))) - (a)))), (9, .int (zI (0))), (8, .int (zI (q))), (7, .int (zI (a))), (6, .int (zI (bI ((en - 1) / b = fr / b)))), (5, .int (zI (en))), (0, .ref (ad 0)), (1, .int (zI (v))), (2, .int (zI (fr))), (3, .ref (sa)), (4, .int (zI (L)))]) hx hb dX3_cut_76 hl (by decide) rfl (fun ls hl => ?_)
          have hlf : 12 ≤ min en ((a / b + 1) * b) - a ∧ min en ((a / b + 1) * b) - a ≤ en - a := by omega
          have lp_78 : ∀ (n : Nat) (k : Int), 0 ≤ k → k ≤ 14 → fp (fun k => valT k ≤ min en ((a / b + 1) * b) - a) k = k → 15 - k < n → ∀ (H : Heap) (locs : List Loc), MP G ad F A B1 H → va_S (fA 11 ad s.heap.size) s.heap H locs → ∀ (ls : Array Slot), lv_has ls 13 [(10, .int (zI ((min en ((((a) / (b)) + (1)) * (b))) - (a)))), (9, .int (zI (k))), (8, .int (zI (q))), (7, .int (zI (a))), (6, .int (zI (bI ((en - 1) / b = fr / b)))), (5, .int (zI (en))), (0, .ref (ad 0)), (1, .int (zI (v))), (2, .int (zI (fr))), (3, .ref (sa)), (4, .int (zI (L)))] → W p l env (rmz 1 37 0 0) s m (([.ref (ad 0), .int (zI (v)), .int (zI (fr)), .ref (sa), .int (zI (L))] : List Value).toArray) below meth c H locs 0 0 (MQ below (QW (fA 11 ad s.heap.size) (fun r H => r = cutN b en fr ∧ (1 ≤ r ∧ r ≤ 56) ∧ ∃ B', MP G ad F A B' H ∧ (L = 0 → B' = B) ∧ (L = 1 → ∀ u e w, 0 ≤ w → w < 10 → B' u (10 * e + w) = if u = v ∧ A 0 v ≤ e ∧ e < A 0 v + r ∧ w < 7 then elC b en fr sd (e - A 0 v) w else B u (10 * e + w)))) (([.ref (ad 0), .int (zI (v)), .int (zI (fr)), .ref (sa), .int (zI (L))] : List Value).toArray) s 0 0 (fA 11 ad s.heap.size)) (F0 m 78 ls []) := by
            intro n
            induction n with
            | zero => intro k hk0 hk1 hkf hmk H locs hP hS ls hl; exact absurd hmk (by omega)
            | succ n ih2 =>
              intro k hk0 hk1 hkf hmk H locs hP hS ls hl
              have hvp := valP_rng (k := k) (by omega)
              have hvd := valD_rng (k := k) (by omega)
              have hvt := valT_rng (k := k) (by omega)
              have hvt12 := valT_12 (k := k) (by omega)
              have hv14 : valT 14 = 12 := rfl
              refine z_gets hx hb hG hts hS hA (own := RX3) (C := "ScorePressModel") (n := "PARTS") (vs := [1, 1, 1, 2, 2, 2, 4, 4, 4, 8, 8, 8, 16, 16, 32]) (index := 51) (by decide) hown q_fl_RX3_51 dX3_cut_78 (fun t_1 ht_1 => ?_)
              refine lv_iload hx hb dX3_cut_81 (lv_at hl 1 rfl) ?_
              refine z_tld (vs := [1, 1, 1, 2, 2, 2, 4, 4, 4, 8, 8, 8, 16, 16, 32]) hx hb ht_1 hS (i := k) (by have h9 : ([1, 1, 1, 2, 2, 2, 4, 4, 4, 8, 8, 8, 16, 16, 32] : List Int).length = 15 := rfl; omega) (by decide) dX3_cut_83 ?_
              refine z_gets hx hb hG hts hS hA (own := RX3) (C := "ScorePressModel") (n := "DOTS") (vs := [2, 1, 0, 2, 1, 0, 2, 1, 0, 2, 1, 0, 1, 0, 0]) (index := 54) (by decide) hown q_fl_RX3_54 dX3_cut_84 (fun t_2 ht_2 => ?_)
              refine lv_iload hx hb dX3_cut_87 (lv_at hl 1 rfl) ?_
              refine z_tld (vs := [2, 1, 0, 2, 1, 0, 2, 1, 0, 2, 1, 0, 1, 0, 0]) hx hb ht_2 hS (i := k) (by have h9 : ([2, 1, 0, 2, 1, 0, 2, 1, 0, 2, 1, 0, 1, 0, 0] : List Int).length = 15 := rfl; omega) (by decide) dX3_cut_89 ?_
              refine k_R (c_SR (As := [.int (zI (valP k)), .int (zI (valD k))]) (rest := []) ⟨hx, hb, hml, hown, hts⟩ hG hS hA (c_X3_ticksOf l G (valP k) (valD k) (show 1 ≤ (valP k) ∧ (valP k) ≤ 1000 by omega) (show -2147483648 ≤ (valD k) ∧ (valD k) ≤ 2147483647 by omega)) ⟨q_ml_RX3_61, q_st_X3_ticksOf, q_ini_RX3, q_code_X3_ticksOf⟩ hs_X3_ticksOf trivial ⟨by decide, by decide⟩ ⟨Nat.zero_le _, Nat.zero_le _⟩ rfl hl.1 rfl (Nat.le_of_ble_eq_true rfl) dX3_cut_90) ?_
              rw [tkO_val (by omega)]
              refine lv_iload hx hb dX3_cut_93 (lv_at hl 0 rfl) ?_
              refine z_icmp_le (a := valT k) (b := (min en ((((a) / (b)) + (1)) * (b))) - (a)) (tgt := 104) hx hb dX3_cut_95 (by decide) (by omega) (by omega) (fun h_95 => ?_) (fun h_95 => ?_)
              · skip
                have hkk : kkC b en a = k := fp_yes hk0 hkf (by omega) (by omega)
                refine lv_iload hx hb dX3_cut_104 (lv_at hl 4 rfl) ?_
                refine z_bif_eq (q := (en - 1) / b = fr / b) (tgt := 116) hx hb dX3_cut_106 (by decide) (fun h_106 => ?_) (fun h_106 => ?_)
                · skip
                  refine z_gets hx hb hG hts hS hA (own := RX3) (C := "ScorePressModel") (n := "PARTS") (vs := [1, 1, 1, 2, 2, 2, 4, 4, 4, 8, 8, 8, 16, 16, 32]) (index := 51) (by decide) hown q_fl_RX3_51 dX3_cut_116 (fun t_3 ht_3 => ?_)
                  refine lv_iload hx hb dX3_cut_119 (lv_at hl 1 rfl) ?_
                  refine z_tld (vs := [1, 1, 1, 2, 2, 2, 4, 4, 4, 8, 8, 8, 16, 16, 32]) hx hb ht_3 hS (i := k) (by have h9 : ([1, 1, 1, 2, 2, 2, 4, 4, 4, 8, 8, 8, 16, 16, 32] : List Int).length = 15 := rfl; omega) (by decide) dX3_cut_121 ?_
                  refine z_gets hx hb hG hts hS hA (own := RX3) (C := "ScorePressModel") (n := "DOTS") (vs := [2, 1, 0, 2, 1, 0, 2, 1, 0, 2, 1, 0, 1, 0, 0]) (index := 54) (by decide) hown q_fl_RX3_54 dX3_cut_122 (fun t_4 ht_4 => ?_)
                  refine lv_iload hx hb dX3_cut_125 (lv_at hl 1 rfl) ?_
                  refine z_tld (vs := [2, 1, 0, 2, 1, 0, 2, 1, 0, 2, 1, 0, 1, 0, 0]) hx hb ht_4 hS (i := k) (by have h9 : ([2, 1, 0, 2, 1, 0, 2, 1, 0, 2, 1, 0, 1, 0, 0] : List Int).length = 15 := rfl; omega) (by decide) dX3_cut_127 ?_
                  refine k_R (c_SR (As := [.int (zI (valP k)), .int (zI (valD k))]) (rest := []) ⟨hx, hb, hml, hown, hts⟩ hG hS hA (c_X3_ticksOf l G (valP k) (valD k) (show 1 ≤ (valP k) ∧ (valP k) ≤ 1000 by omega) (show -2147483648 ≤ (valD k) ∧ (valD k) ≤ 2147483647 by omega)) ⟨q_ml_RX3_61, q_st_X3_ticksOf, q_ini_RX3, q_code_X3_ticksOf⟩ hs_X3_ticksOf trivial ⟨by decide, by decide⟩ ⟨Nat.zero_le _, Nat.zero_le _⟩ rfl hl.1 rfl (Nat.le_of_ble_eq_true rfl) dX3_cut_128) ?_
                  rw [tkO_val (by omega)]
                  have hcl : ctL b en fr a = valT k := by unfold ctL; rw [if_neg h_106, hkk]
                  rw [← hcl]
                  refine lv_istore (lv' := [(11, .int (zI (ctL b en fr a))), (10, .int (zI ((min en ((((a) / (b)) + (1)) * (b))) - (a)))), (9, .int (zI (k))), (8, .int (zI (q))), (7, .int (zI (a))), (6, .int (zI (bI ((en - 1) / b = fr / b)))), (5, .int (zI (en))), (0, .ref (ad 0)), (1, .int (zI (v))), (2, .int (zI (fr))), (3, .ref (sa)), (4, .int (zI (L)))]) hx hb dX3_cut_131 hl (by decide) rfl (fun ls hl => ?_)
                  refine lv_iload hx hb dX3_cut_133 (lv_at hl 4 rfl) ?_
                  refine lv_iload hx hb dX3_cut_135 (lv_at hl 0 rfl) ?_
                  refine z_iadd (x := a) (y := ctL b en fr a) hx hb dX3_cut_137 ?_
                  rw [← haq] at hsA
                  rw [← hsA]
                  have hat : fr ≤ ctA b en fr (q + 1) ∧ ctA b en fr (q + 1) ≤ en ∧ ctA b en fr (q + 1) % 12 = 0 ∧ 12 * (q + 1) ≤ ctA b en fr (q + 1) - fr := by rw [hsA, hcl]; omega
                  refine lv_istore (lv' := [(7, .int (zI (ctA b en fr (q + 1)))), (11, .int (zI (ctL b en fr a))), (10, .int (zI ((min en ((((a) / (b)) + (1)) * (b))) - (a)))), (9, .int (zI (k))), (8, .int (zI (q))), (6, .int (zI (bI ((en - 1) / b = fr / b)))), (5, .int (zI (en))), (0, .ref (ad 0)), (1, .int (zI (v))), (2, .int (zI (fr))), (3, .ref (sa)), (4, .int (zI (L)))]) hx hb dX3_cut_138 hl (by decide) rfl (fun ls hl => ?_)
                  refine lv_iload hx hb dX3_cut_140 (lv_at hl 11 rfl) ?_
                  refine z_if_eq (a := L) (tgt := 235) hx hb dX3_cut_142 (by decide) (by omega) (fun h_142 => ?_) (fun h_142 => ?_)
                  · skip
                    refine z_iinc (lv' := [(8, .int (zI (q + 1))), (7, .int (zI (ctA b en fr (q + 1)))), (11, .int (zI (ctL b en fr a))), (10, .int (zI ((min en ((((a) / (b)) + (1)) * (b))) - (a)))), (9, .int (zI (k))), (6, .int (zI (bI ((en - 1) / b = fr / b)))), (5, .int (zI (en))), (0, .ref (ad 0)), (1, .int (zI (v))), (2, .int (zI (fr))), (3, .ref (sa)), (4, .int (zI (L)))]) hx hb dX3_cut_235 hl (k := 4) rfl (by decide) rfl (fun ls hl => ?_)
                    refine lv_goto (tgt := 44) hx hb dX3_cut_238 (by decide) ?_
                    have hZ : (L = 0 ∧ B1 = B ∨ L = 1 ∧ (∀ u e w, 0 ≤ w → w < 10 → B1 u (10 * e + w) = if u = v ∧ A 0 v ≤ e ∧ e < A 0 v + (q + 1) ∧ w < 7 then elC b en fr sd (e - A 0 v) w else B u (10 * e + w))) := by
                      first
                      | exact Or.inl ⟨by omega, (hst.resolve_right (fun z => absurd z.1 (by omega))).2⟩
                      | (refine Or.inr ⟨by omega, fun u e w w0 w1 => ?_⟩
                         have hB1 := (hst.resolve_left (fun z => absurd z.1 (by omega))).2 u e w w0 w1
                         (repeat rw [zB_at (by omega) (by omega)])
                         rw [zcpB_at ⟨w0, w1⟩, hB1]
                         by_cases he : u = v ∧ e = A 0 v + q ∧ w < 7
                         · rw [if_pos (show u = v ∧ A 0 v ≤ e ∧ e < A 0 v + (q + 1) ∧ w < 7 by omega), show e - A 0 v = q by omega]
                           unfold elC
                           rw [hsA, ← haq, hkk]
                           (repeat' split) <;> first | rfl | (exfalso; omega)
                         · (repeat rw [if_neg (show ¬ (u = v ∧ e = A 0 v + q ∧ _) by omega)])
                           exact zite (by omega))
                    exact ih (q + 1) (ctA b en fr (q + 1)) (B1) (by omega) rfl hat (fun z z9 => by first | exact absurd z h_106 | omega) hfp1 hZ (by omega) H _ hP hS _ (lv_sub hl [0, 1, 5, 6, 7, 8, 9, 10, 11] rfl)
                  · skip
                    have hl1 := hVl (by omega)
                    refine z_bipush hx hb dX3_cut_145 (by decide) ?_
                    refine lv_aload_n hx hb dX3_cut_147 rfl (lv_at hl 7 rfl) ?_
                    refine zm_get hx hb hK hts hown hP 5 (by decide) q_fl_RX3_16 (v := .ref (ad 1)) rfl dX3_cut_148 ?_
                    refine lv_iload_n hx hb dX3_cut_151 rfl (lv_at hl 8 rfl) ?_
                    refine zm_lA0 hx hb hK hP (i := v) (by omega) dX3_cut_152 ?_
                    refine lv_iload hx hb dX3_cut_153 (lv_at hl 4 rfl) ?_
                    refine z_iadd (x := A 0 (v)) (y := q) hx hb dX3_cut_155 ?_
                    refine z_imul (x := 10) (y := (A 0 (v)) + (q)) hx hb dX3_cut_156 ?_
                    refine lv_istore (lv' := [(12, .int (zI ((10) * ((A 0 (v)) + (q))))), (7, .int (zI (ctA b en fr (q + 1)))), (11, .int (zI (ctL b en fr a))), (10, .int (zI ((min en ((((a) / (b)) + (1)) * (b))) - (a)))), (9, .int (zI (k))), (8, .int (zI (q))), (6, .int (zI (bI ((en - 1) / b = fr / b)))), (5, .int (zI (en))), (0, .ref (ad 0)), (1, .int (zI (v))), (2, .int (zI (fr))), (3, .ref (sa)), (4, .int (zI (L)))]) hx hb dX3_cut_157 hl (by decide) rfl (fun ls hl => ?_)
                    refine lv_aload_n hx hb dX3_cut_159 rfl (lv_at hl 11 rfl) ?_
                    refine z_iconst hx hb dX3_cut_160 ?_
                    refine lv_aload_n hx hb dX3_cut_161 rfl (lv_at hl 8 rfl) ?_
                    refine zm_get hx hb hK hts hown hP 6 (by decide) q_fl_RX3_22 (v := .ref (ad 2)) rfl dX3_cut_162 ?_
                    refine lv_iload_n hx hb dX3_cut_165 rfl (lv_at hl 9 rfl) ?_
                    refine zm_aB hx hb hK hP (i := v) (by omega) dX3_cut_166 ?_
                    refine lv_iload hx hb dX3_cut_167 (lv_at hl 0 rfl) ?_
                    refine z_bipush hx hb dX3_cut_169 (by decide) ?_
                    refine zm_cpB hx hb (hml.trans hl.1.symm) hown hts hK hP hS (v := v) (by omega) (hD (3 + (v).toNat) (by omega)) (hN0.kept (hS.2.1 sa hN0.lt hnD)) (sp := 0) (dp := (10) * ((A 0 (v)) + (q))) (n := 7) (by omega) (by omega) (by omega) (by omega) (by omega) (by decide) (Nat.le_of_ble_eq_true rfl) (Nat.le_of_ble_eq_true rfl) dX3_cut_171 (fun H locs hP hz hS => ?_)
                    refine lv_iload hx hb dX3_cut_174 (lv_at hl 6 rfl) ?_
                    refine z_bif_ne (q := (en - 1) / b = fr / b) (tgt := 213) hx hb dX3_cut_176 (by decide) (fun h_176 => ?_) (fun h_176 => ?_)
                    · skip
                      refine lv_iload hx hb dX3_cut_213 (lv_at hl 1 rfl) ?_
                      refine lv_iload hx hb dX3_cut_215 (lv_at hl 7 rfl) ?_
                      refine z_icmp_ge (a := ctA b en fr (q + 1)) (b := en) (tgt := 235) hx hb dX3_cut_217 (by decide) (by omega) (by omega) (fun h_217 => ?_) (fun h_217 => ?_)
                      · skip
                        refine z_iinc (lv' := [(8, .int (zI (q + 1))), (12, .int (zI ((10) * ((A 0 (v)) + (q))))), (7, .int (zI (ctA b en fr (q + 1)))), (11, .int (zI (ctL b en fr a))), (10, .int (zI ((min en ((((a) / (b)) + (1)) * (b))) - (a)))), (9, .int (zI (k))), (6, .int (zI (bI ((en - 1) / b = fr / b)))), (5, .int (zI (en))), (0, .ref (ad 0)), (1, .int (zI (v))), (2, .int (zI (fr))), (3, .ref (sa)), (4, .int (zI (L)))]) hx hb dX3_cut_235 hl (k := 5) rfl (by decide) rfl (fun ls hl => ?_)
                        refine lv_goto (tgt := 44) hx hb dX3_cut_238 (by decide) ?_
                        have hZ : (L = 0 ∧ (zBw B1 (v) (zcp (sd) (B1 (v)) (0) ((10) * ((A 0 (v)) + (q))) (7))) = B ∨ L = 1 ∧ (∀ u e w, 0 ≤ w → w < 10 → (zBw B1 (v) (zcp (sd) (B1 (v)) (0) ((10) * ((A 0 (v)) + (q))) (7))) u (10 * e + w) = if u = v ∧ A 0 v ≤ e ∧ e < A 0 v + (q + 1) ∧ w < 7 then elC b en fr sd (e - A 0 v) w else B u (10 * e + w))) := by
                          first
                          | exact Or.inl ⟨by omega, (hst.resolve_right (fun z => absurd z.1 (by omega))).2⟩
                          | (refine Or.inr ⟨by omega, fun u e w w0 w1 => ?_⟩
                             have hB1 := (hst.resolve_left (fun z => absurd z.1 (by omega))).2 u e w w0 w1
                             (repeat rw [zB_at (by omega) (by omega)])
                             rw [zcpB_at ⟨w0, w1⟩, hB1]
                             by_cases he : u = v ∧ e = A 0 v + q ∧ w < 7
                             · rw [if_pos (show u = v ∧ A 0 v ≤ e ∧ e < A 0 v + (q + 1) ∧ w < 7 by omega), show e - A 0 v = q by omega]
                               unfold elC
                               rw [hsA, ← haq, hkk]
                               (repeat' split) <;> first | rfl | (exfalso; omega)
                             · (repeat rw [if_neg (show ¬ (u = v ∧ e = A 0 v + q ∧ _) by omega)])
                               exact zite (by omega))
                        exact ih (q + 1) (ctA b en fr (q + 1)) ((zBw B1 (v) (zcp (sd) (B1 (v)) (0) ((10) * ((A 0 (v)) + (q))) (7)))) (by omega) rfl hat (fun z z9 => by first | exact absurd z h_106 | omega) hfp1 hZ (by omega) H _ hP hS _ (lv_sub hl [0, 2, 6, 7, 8, 9, 10, 11, 12] rfl)
                      · skip
                        refine lv_aload_n hx hb dX3_cut_220 rfl (lv_at hl 8 rfl) ?_
                        refine zm_get hx hb hK hts hown hP 6 (by decide) q_fl_RX3_22 (v := .ref (ad 2)) rfl dX3_cut_221 ?_
                        refine lv_iload_n hx hb dX3_cut_224 rfl (lv_at hl 9 rfl) ?_
                        refine zm_aB hx hb hK hP (i := v) (by omega) dX3_cut_225 ?_
                        refine lv_iload hx hb dX3_cut_226 (lv_at hl 0 rfl) ?_
                        refine z_bipush hx hb dX3_cut_228 (by decide) ?_
                        refine z_iadd (x := (10) * ((A 0 (v)) + (q))) (y := 6) hx hb dX3_cut_230 ?_
                        refine lv_aload_n hx hb dX3_cut_231 rfl (lv_at hl 11 rfl) ?_
                        refine z_iconst hx hb dX3_cut_232 ?_
                        refine z_ald (n := 7) hx hb hK (hN0.kept (hS.2.1 sa hN0.lt hnD)) (i := 2) (by decide) (by decide) dX3_cut_233 ?_
                        refine zm_sB (x := sd 2) hx hb hK hP hS (v := v) (by omega) (hD (3 + (v).toNat) (by omega)) (i := ((10) * ((A 0 (v)) + (q))) + (6)) (by omega) dX3_cut_234 (fun H locs hP hz ho hS => ?_)
                        refine z_iinc (lv' := [(8, .int (zI (q + 1))), (12, .int (zI ((10) * ((A 0 (v)) + (q))))), (7, .int (zI (ctA b en fr (q + 1)))), (11, .int (zI (ctL b en fr a))), (10, .int (zI ((min en ((((a) / (b)) + (1)) * (b))) - (a)))), (9, .int (zI (k))), (6, .int (zI (bI ((en - 1) / b = fr / b)))), (5, .int (zI (en))), (0, .ref (ad 0)), (1, .int (zI (v))), (2, .int (zI (fr))), (3, .ref (sa)), (4, .int (zI (L)))]) hx hb dX3_cut_235 hl (k := 5) rfl (by decide) rfl (fun ls hl => ?_)
                        refine lv_goto (tgt := 44) hx hb dX3_cut_238 (by decide) ?_
                        have hZ : (L = 0 ∧ (zB (zBw B1 (v) (zcp (sd) (B1 (v)) (0) ((10) * ((A 0 (v)) + (q))) (7))) (v) (((10) * ((A 0 (v)) + (q))) + (6)) (sd 2)) = B ∨ L = 1 ∧ (∀ u e w, 0 ≤ w → w < 10 → (zB (zBw B1 (v) (zcp (sd) (B1 (v)) (0) ((10) * ((A 0 (v)) + (q))) (7))) (v) (((10) * ((A 0 (v)) + (q))) + (6)) (sd 2)) u (10 * e + w) = if u = v ∧ A 0 v ≤ e ∧ e < A 0 v + (q + 1) ∧ w < 7 then elC b en fr sd (e - A 0 v) w else B u (10 * e + w))) := by
                          first
                          | exact Or.inl ⟨by omega, (hst.resolve_right (fun z => absurd z.1 (by omega))).2⟩
                          | (refine Or.inr ⟨by omega, fun u e w w0 w1 => ?_⟩
                             have hB1 := (hst.resolve_left (fun z => absurd z.1 (by omega))).2 u e w w0 w1
                             (repeat rw [zB_at (by omega) (by omega)])
                             rw [zcpB_at ⟨w0, w1⟩, hB1]
                             by_cases he : u = v ∧ e = A 0 v + q ∧ w < 7
                             · rw [if_pos (show u = v ∧ A 0 v ≤ e ∧ e < A 0 v + (q + 1) ∧ w < 7 by omega), show e - A 0 v = q by omega]
                               unfold elC
                               rw [hsA, ← haq, hkk]
                               (repeat' split) <;> first | rfl | (exfalso; omega)
                             · (repeat rw [if_neg (show ¬ (u = v ∧ e = A 0 v + q ∧ _) by omega)])
                               exact zite (by omega))
                        exact ih (q + 1) (ctA b en fr (q + 1)) ((zB (zBw B1 (v) (zcp (sd) (B1 (v)) (0) ((10) * ((A 0 (v)) + (q))) (7))) (v) (((10) * ((A 0 (v)) + (q))) + (6)) (sd 2))) (by omega) rfl hat (fun z z9 => by first | exact absurd z h_106 | omega) hfp1 hZ (by omega) H _ hP hS _ (lv_sub hl [0, 2, 6, 7, 8, 9, 10, 11, 12] rfl)
                    · skip
                      refine lv_aload_n hx hb dX3_cut_179 rfl (lv_at hl 8 rfl) ?_
                      refine zm_get hx hb hK hts hown hP 6 (by decide) q_fl_RX3_22 (v := .ref (ad 2)) rfl dX3_cut_180 ?_
                      refine lv_iload_n hx hb dX3_cut_183 rfl (lv_at hl 9 rfl) ?_
                      refine zm_aB hx hb hK hP (i := v) (by omega) dX3_cut_184 ?_
                      refine lv_iload hx hb dX3_cut_185 (lv_at hl 0 rfl) ?_
                      refine z_iconst hx hb dX3_cut_187 ?_
                      refine z_iadd (x := (10) * ((A 0 (v)) + (q))) (y := 0) hx hb dX3_cut_188 ?_
                      refine z_gets hx hb hG hts hS hA (own := RX3) (C := "ScorePressModel") (n := "PARTS") (vs := [1, 1, 1, 2, 2, 2, 4, 4, 4, 8, 8, 8, 16, 16, 32]) (index := 51) (by decide) hown q_fl_RX3_51 dX3_cut_189 (fun t_5 ht_5 => ?_)
                      refine lv_iload hx hb dX3_cut_192 (lv_at hl 4 rfl) ?_
                      refine z_tld (vs := [1, 1, 1, 2, 2, 2, 4, 4, 4, 8, 8, 8, 16, 16, 32]) hx hb ht_5 hS (i := k) (by have h9 : ([1, 1, 1, 2, 2, 2, 4, 4, 4, 8, 8, 8, 16, 16, 32] : List Int).length = 15 := rfl; omega) (by decide) dX3_cut_194 ?_
                      refine zm_sB (x := valP k) hx hb hK hP hS (v := v) (by omega) (hD (3 + (v).toNat) (by omega)) (i := ((10) * ((A 0 (v)) + (q))) + (0)) (by omega) dX3_cut_195 (fun H locs hP hz ho hS => ?_)
                      refine lv_aload_n hx hb dX3_cut_196 rfl (lv_at hl 8 rfl) ?_
                      refine zm_get hx hb hK hts hown hP 6 (by decide) q_fl_RX3_22 (v := .ref (ad 2)) rfl dX3_cut_197 ?_
                      refine lv_iload_n hx hb dX3_cut_200 rfl (lv_at hl 9 rfl) ?_
                      refine zm_aB hx hb hK hP (i := v) (by omega) dX3_cut_201 ?_
                      refine lv_iload hx hb dX3_cut_202 (lv_at hl 0 rfl) ?_
                      refine z_iconst hx hb dX3_cut_204 ?_
                      refine z_iadd (x := (10) * ((A 0 (v)) + (q))) (y := 1) hx hb dX3_cut_205 ?_
                      refine z_gets hx hb hG hts hS hA (own := RX3) (C := "ScorePressModel") (n := "DOTS") (vs := [2, 1, 0, 2, 1, 0, 2, 1, 0, 2, 1, 0, 1, 0, 0]) (index := 54) (by decide) hown q_fl_RX3_54 dX3_cut_206 (fun t_6 ht_6 => ?_)
                      refine lv_iload hx hb dX3_cut_209 (lv_at hl 4 rfl) ?_
                      refine z_tld (vs := [2, 1, 0, 2, 1, 0, 2, 1, 0, 2, 1, 0, 1, 0, 0]) hx hb ht_6 hS (i := k) (by have h9 : ([2, 1, 0, 2, 1, 0, 2, 1, 0, 2, 1, 0, 1, 0, 0] : List Int).length = 15 := rfl; omega) (by decide) dX3_cut_211 ?_
                      refine zm_sB (x := valD k) hx hb hK hP hS (v := v) (by omega) (hD (3 + (v).toNat) (by omega)) (i := ((10) * ((A 0 (v)) + (q))) + (1)) (by omega) dX3_cut_212 (fun H locs hP hz ho hS => ?_)
                      refine lv_iload hx hb dX3_cut_213 (lv_at hl 1 rfl) ?_
                      refine lv_iload hx hb dX3_cut_215 (lv_at hl 7 rfl) ?_
                      refine z_icmp_ge (a := ctA b en fr (q + 1)) (b := en) (tgt := 235) hx hb dX3_cut_217 (by decide) (by omega) (by omega) (fun h_217 => ?_) (fun h_217 => ?_)
                      · skip
                        refine z_iinc (lv' := [(8, .int (zI (q + 1))), (12, .int (zI ((10) * ((A 0 (v)) + (q))))), (7, .int (zI (ctA b en fr (q + 1)))), (11, .int (zI (ctL b en fr a))), (10, .int (zI ((min en ((((a) / (b)) + (1)) * (b))) - (a)))), (9, .int (zI (k))), (6, .int (zI (bI ((en - 1) / b = fr / b)))), (5, .int (zI (en))), (0, .ref (ad 0)), (1, .int (zI (v))), (2, .int (zI (fr))), (3, .ref (sa)), (4, .int (zI (L)))]) hx hb dX3_cut_235 hl (k := 5) rfl (by decide) rfl (fun ls hl => ?_)
                        refine lv_goto (tgt := 44) hx hb dX3_cut_238 (by decide) ?_
                        have hZ : (L = 0 ∧ (zB (zB (zBw B1 (v) (zcp (sd) (B1 (v)) (0) ((10) * ((A 0 (v)) + (q))) (7))) (v) (((10) * ((A 0 (v)) + (q))) + (0)) (valP k)) (v) (((10) * ((A 0 (v)) + (q))) + (1)) (valD k)) = B ∨ L = 1 ∧ (∀ u e w, 0 ≤ w → w < 10 → (zB (zB (zBw B1 (v) (zcp (sd) (B1 (v)) (0) ((10) * ((A 0 (v)) + (q))) (7))) (v) (((10) * ((A 0 (v)) + (q))) + (0)) (valP k)) (v) (((10) * ((A 0 (v)) + (q))) + (1)) (valD k)) u (10 * e + w) = if u = v ∧ A 0 v ≤ e ∧ e < A 0 v + (q + 1) ∧ w < 7 then elC b en fr sd (e - A 0 v) w else B u (10 * e + w))) := by
                          first
                          | exact Or.inl ⟨by omega, (hst.resolve_right (fun z => absurd z.1 (by omega))).2⟩
                          | (refine Or.inr ⟨by omega, fun u e w w0 w1 => ?_⟩
                             have hB1 := (hst.resolve_left (fun z => absurd z.1 (by omega))).2 u e w w0 w1
                             (repeat rw [zB_at (by omega) (by omega)])
                             rw [zcpB_at ⟨w0, w1⟩, hB1]
                             by_cases he : u = v ∧ e = A 0 v + q ∧ w < 7
                             · rw [if_pos (show u = v ∧ A 0 v ≤ e ∧ e < A 0 v + (q + 1) ∧ w < 7 by omega), show e - A 0 v = q by omega]
                               unfold elC
                               rw [hsA, ← haq, hkk]
                               (repeat' split) <;> first | rfl | (exfalso; omega)
                             · (repeat rw [if_neg (show ¬ (u = v ∧ e = A 0 v + q ∧ _) by omega)])
                               exact zite (by omega))
                        exact ih (q + 1) (ctA b en fr (q + 1)) ((zB (zB (zBw B1 (v) (zcp (sd) (B1 (v)) (0) ((10) * ((A 0 (v)) + (q))) (7))) (v) (((10) * ((A 0 (v)) + (q))) + (0)) (valP k)) (v) (((10) * ((A 0 (v)) + (q))) + (1)) (valD k))) (by omega) rfl hat (fun z z9 => by first | exact absurd z h_106 | omega) hfp1 hZ (by omega) H _ hP hS _ (lv_sub hl [0, 2, 6, 7, 8, 9, 10, 11, 12] rfl)
                      · skip
                        refine lv_aload_n hx hb dX3_cut_220 rfl (lv_at hl 8 rfl) ?_
                        refine zm_get hx hb hK hts hown hP 6 (by decide) q_fl_RX3_22 (v := .ref (ad 2)) rfl dX3_cut_221 ?_
                        refine lv_iload_n hx hb dX3_cut_224 rfl (lv_at hl 9 rfl) ?_
                        refine zm_aB hx hb hK hP (i := v) (by omega) dX3_cut_225 ?_
                        refine lv_iload hx hb dX3_cut_226 (lv_at hl 0 rfl) ?_
                        refine z_bipush hx hb dX3_cut_228 (by decide) ?_
                        refine z_iadd (x := (10) * ((A 0 (v)) + (q))) (y := 6) hx hb dX3_cut_230 ?_
                        refine lv_aload_n hx hb dX3_cut_231 rfl (lv_at hl 11 rfl) ?_
                        refine z_iconst hx hb dX3_cut_232 ?_
                        refine z_ald (n := 7) hx hb hK (hN0.kept (hS.2.1 sa hN0.lt hnD)) (i := 2) (by decide) (by decide) dX3_cut_233 ?_
                        refine zm_sB (x := sd 2) hx hb hK hP hS (v := v) (by omega) (hD (3 + (v).toNat) (by omega)) (i := ((10) * ((A 0 (v)) + (q))) + (6)) (by omega) dX3_cut_234 (fun H locs hP hz ho hS => ?_)
                        refine z_iinc (lv' := [(8, .int (zI (q + 1))), (12, .int (zI ((10) * ((A 0 (v)) + (q))))), (7, .int (zI (ctA b en fr (q + 1)))), (11, .int (zI (ctL b en fr a))), (10, .int (zI ((min en ((((a) / (b)) + (1)) * (b))) - (a)))), (9, .int (zI (k))), (6, .int (zI (bI ((en - 1) / b = fr / b)))), (5, .int (zI (en))), (0, .ref (ad 0)), (1, .int (zI (v))), (2, .int (zI (fr))), (3, .ref (sa)), (4, .int (zI (L)))]) hx hb dX3_cut_235 hl (k := 5) rfl (by decide) rfl (fun ls hl => ?_)
                        refine lv_goto (tgt := 44) hx hb dX3_cut_238 (by decide) ?_
                        have hZ : (L = 0 ∧ (zB (zB (zB (zBw B1 (v) (zcp (sd) (B1 (v)) (0) ((10) * ((A 0 (v)) + (q))) (7))) (v) (((10) * ((A 0 (v)) + (q))) + (0)) (valP k)) (v) (((10) * ((A 0 (v)) + (q))) + (1)) (valD k)) (v) (((10) * ((A 0 (v)) + (q))) + (6)) (sd 2)) = B ∨ L = 1 ∧ (∀ u e w, 0 ≤ w → w < 10 → (zB (zB (zB (zBw B1 (v) (zcp (sd) (B1 (v)) (0) ((10) * ((A 0 (v)) + (q))) (7))) (v) (((10) * ((A 0 (v)) + (q))) + (0)) (valP k)) (v) (((10) * ((A 0 (v)) + (q))) + (1)) (valD k)) (v) (((10) * ((A 0 (v)) + (q))) + (6)) (sd 2)) u (10 * e + w) = if u = v ∧ A 0 v ≤ e ∧ e < A 0 v + (q + 1) ∧ w < 7 then elC b en fr sd (e - A 0 v) w else B u (10 * e + w))) := by
                          first
                          | exact Or.inl ⟨by omega, (hst.resolve_right (fun z => absurd z.1 (by omega))).2⟩
                          | (refine Or.inr ⟨by omega, fun u e w w0 w1 => ?_⟩
                             have hB1 := (hst.resolve_left (fun z => absurd z.1 (by omega))).2 u e w w0 w1
                             (repeat rw [zB_at (by omega) (by omega)])
                             rw [zcpB_at ⟨w0, w1⟩, hB1]
                             by_cases he : u = v ∧ e = A 0 v + q ∧ w < 7
                             · rw [if_pos (show u = v ∧ A 0 v ≤ e ∧ e < A 0 v + (q + 1) ∧ w < 7 by omega), show e - A 0 v = q by omega]
                               unfold elC
                               rw [hsA, ← haq, hkk]
                               (repeat' split) <;> first | rfl | (exfalso; omega)
                             · (repeat rw [if_neg (show ¬ (u = v ∧ e = A 0 v + q ∧ _) by omega)])
                               exact zite (by omega))
                        exact ih (q + 1) (ctA b en fr (q + 1)) ((zB (zB (zB (zBw B1 (v) (zcp (sd) (B1 (v)) (0) ((10) * ((A 0 (v)) + (q))) (7))) (v) (((10) * ((A 0 (v)) + (q))) + (0)) (valP k)) (v) (((10) * ((A 0 (v)) + (q))) + (1)) (valD k)) (v) (((10) * ((A 0 (v)) + (q))) + (6)) (sd 2))) (by omega) rfl hat (fun z z9 => by first | exact absurd z h_106 | omega) hfp1 hZ (by omega) H _ hP hS _ (lv_sub hl [0, 2, 6, 7, 8, 9, 10, 11, 12] rfl)
                · skip
                  refine lv_iload hx hb dX3_cut_109 (lv_at hl 5 rfl) ?_
                  refine lv_iload_n hx hb dX3_cut_111 rfl (lv_at hl 8 rfl) ?_
                  refine z_isub (x := en) (y := fr) hx hb dX3_cut_112 ?_
                  have hfa := hone h_106 (by omega)
                  have hcl : ctL b en fr a = en - fr := if_pos h_106
                  rw [← hcl]
                  refine lv_goto (tgt := 131) hx hb dX3_cut_113 (by decide) ?_
                  refine lv_istore (lv' := [(11, .int (zI (ctL b en fr a))), (10, .int (zI ((min en ((((a) / (b)) + (1)) * (b))) - (a)))), (9, .int (zI (k))), (8, .int (zI (q))), (7, .int (zI (a))), (6, .int (zI (bI ((en - 1) / b = fr / b)))), (5, .int (zI (en))), (0, .ref (ad 0)), (1, .int (zI (v))), (2, .int (zI (fr))), (3, .ref (sa)), (4, .int (zI (L)))]) hx hb dX3_cut_131 hl (by decide) rfl (fun ls hl => ?_)
                  refine lv_iload hx hb dX3_cut_133 (lv_at hl 4 rfl) ?_
                  refine lv_iload hx hb dX3_cut_135 (lv_at hl 0 rfl) ?_
                  refine z_iadd (x := a) (y := ctL b en fr a) hx hb dX3_cut_137 ?_
                  rw [← haq] at hsA
                  rw [← hsA]
                  have hat : fr ≤ ctA b en fr (q + 1) ∧ ctA b en fr (q + 1) ≤ en ∧ ctA b en fr (q + 1) % 12 = 0 ∧ 12 * (q + 1) ≤ ctA b en fr (q + 1) - fr := by rw [hsA, hcl]; omega
                  refine lv_istore (lv' := [(7, .int (zI (ctA b en fr (q + 1)))), (11, .int (zI (ctL b en fr a))), (10, .int (zI ((min en ((((a) / (b)) + (1)) * (b))) - (a)))), (9, .int (zI (k))), (8, .int (zI (q))), (6, .int (zI (bI ((en - 1) / b = fr / b)))), (5, .int (zI (en))), (0, .ref (ad 0)), (1, .int (zI (v))), (2, .int (zI (fr))), (3, .ref (sa)), (4, .int (zI (L)))]) hx hb dX3_cut_138 hl (by decide) rfl (fun ls hl => ?_)
                  refine lv_iload hx hb dX3_cut_140 (lv_at hl 11 rfl) ?_
                  refine z_if_eq (a := L) (tgt := 235) hx hb dX3_cut_142 (by decide) (by omega) (fun h_142 => ?_) (fun h_142 => ?_)
                  · skip
                    refine z_iinc (lv' := [(8, .int (zI (q + 1))), (7, .int (zI (ctA b en fr (q + 1)))), (11, .int (zI (ctL b en fr a))), (10, .int (zI ((min en ((((a) / (b)) + (1)) * (b))) - (a)))), (9, .int (zI (k))), (6, .int (zI (bI ((en - 1) / b = fr / b)))), (5, .int (zI (en))), (0, .ref (ad 0)), (1, .int (zI (v))), (2, .int (zI (fr))), (3, .ref (sa)), (4, .int (zI (L)))]) hx hb dX3_cut_235 hl (k := 4) rfl (by decide) rfl (fun ls hl => ?_)
                    refine lv_goto (tgt := 44) hx hb dX3_cut_238 (by decide) ?_
                    have hZ : (L = 0 ∧ B1 = B ∨ L = 1 ∧ (∀ u e w, 0 ≤ w → w < 10 → B1 u (10 * e + w) = if u = v ∧ A 0 v ≤ e ∧ e < A 0 v + (q + 1) ∧ w < 7 then elC b en fr sd (e - A 0 v) w else B u (10 * e + w))) := by
                      first
                      | exact Or.inl ⟨by omega, (hst.resolve_right (fun z => absurd z.1 (by omega))).2⟩
                      | (refine Or.inr ⟨by omega, fun u e w w0 w1 => ?_⟩
                         have hB1 := (hst.resolve_left (fun z => absurd z.1 (by omega))).2 u e w w0 w1
                         (repeat rw [zB_at (by omega) (by omega)])
                         rw [zcpB_at ⟨w0, w1⟩, hB1]
                         by_cases he : u = v ∧ e = A 0 v + q ∧ w < 7
                         · rw [if_pos (show u = v ∧ A 0 v ≤ e ∧ e < A 0 v + (q + 1) ∧ w < 7 by omega), show e - A 0 v = q by omega]
                           unfold elC
                           rw [hsA, ← haq, hkk]
                           (repeat' split) <;> first | rfl | (exfalso; omega)
                         · (repeat rw [if_neg (show ¬ (u = v ∧ e = A 0 v + q ∧ _) by omega)])
                           exact zite (by omega))
                    exact ih (q + 1) (ctA b en fr (q + 1)) (B1) (by omega) rfl hat (fun z z9 => by first | exact absurd z h_106 | omega) hfp1 hZ (by omega) H _ hP hS _ (lv_sub hl [0, 1, 5, 6, 7, 8, 9, 10, 11] rfl)
                  · skip
                    have hl1 := hVl (by omega)
                    refine z_bipush hx hb dX3_cut_145 (by decide) ?_
                    refine lv_aload_n hx hb dX3_cut_147 rfl (lv_at hl 7 rfl) ?_
                    refine zm_get hx hb hK hts hown hP 5 (by decide) q_fl_RX3_16 (v := .ref (ad 1)) rfl dX3_cut_148 ?_
                    refine lv_iload_n hx hb dX3_cut_151 rfl (lv_at hl 8 rfl) ?_
                    refine zm_lA0 hx hb hK hP (i := v) (by omega) dX3_cut_152 ?_
                    refine lv_iload hx hb dX3_cut_153 (lv_at hl 4 rfl) ?_
                    refine z_iadd (x := A 0 (v)) (y := q) hx hb dX3_cut_155 ?_
                    refine z_imul (x := 10) (y := (A 0 (v)) + (q)) hx hb dX3_cut_156 ?_
                    refine lv_istore (lv' := [(12, .int (zI ((10) * ((A 0 (v)) + (q))))), (7, .int (zI (ctA b en fr (q + 1)))), (11, .int (zI (ctL b en fr a))), (10, .int (zI ((min en ((((a) / (b)) + (1)) * (b))) - (a)))), (9, .int (zI (k))), (8, .int (zI (q))), (6, .int (zI (bI ((en - 1) / b = fr / b)))), (5, .int (zI (en))), (0, .ref (ad 0)), (1, .int (zI (v))), (2, .int (zI (fr))), (3, .ref (sa)), (4, .int (zI (L)))]) hx hb dX3_cut_157 hl (by decide) rfl (fun ls hl => ?_)
                    refine lv_aload_n hx hb dX3_cut_159 rfl (lv_at hl 11 rfl) ?_
                    refine z_iconst hx hb dX3_cut_160 ?_
                    refine lv_aload_n hx hb dX3_cut_161 rfl (lv_at hl 8 rfl) ?_
                    refine zm_get hx hb hK hts hown hP 6 (by decide) q_fl_RX3_22 (v := .ref (ad 2)) rfl dX3_cut_162 ?_
                    refine lv_iload_n hx hb dX3_cut_165 rfl (lv_at hl 9 rfl) ?_
                    refine zm_aB hx hb hK hP (i := v) (by omega) dX3_cut_166 ?_
                    refine lv_iload hx hb dX3_cut_167 (lv_at hl 0 rfl) ?_
                    refine z_bipush hx hb dX3_cut_169 (by decide) ?_
                    refine zm_cpB hx hb (hml.trans hl.1.symm) hown hts hK hP hS (v := v) (by omega) (hD (3 + (v).toNat) (by omega)) (hN0.kept (hS.2.1 sa hN0.lt hnD)) (sp := 0) (dp := (10) * ((A 0 (v)) + (q))) (n := 7) (by omega) (by omega) (by omega) (by omega) (by omega) (by decide) (Nat.le_of_ble_eq_true rfl) (Nat.le_of_ble_eq_true rfl) dX3_cut_171 (fun H locs hP hz hS => ?_)
                    refine lv_iload hx hb dX3_cut_174 (lv_at hl 6 rfl) ?_
                    refine z_bif_ne (q := (en - 1) / b = fr / b) (tgt := 213) hx hb dX3_cut_176 (by decide) (fun h_176 => ?_) (fun h_176 => ?_)
                    · skip
                      refine lv_iload hx hb dX3_cut_213 (lv_at hl 1 rfl) ?_
                      refine lv_iload hx hb dX3_cut_215 (lv_at hl 7 rfl) ?_
                      refine z_icmp_ge (a := ctA b en fr (q + 1)) (b := en) (tgt := 235) hx hb dX3_cut_217 (by decide) (by omega) (by omega) (fun h_217 => ?_) (fun h_217 => ?_)
                      · skip
                        refine z_iinc (lv' := [(8, .int (zI (q + 1))), (12, .int (zI ((10) * ((A 0 (v)) + (q))))), (7, .int (zI (ctA b en fr (q + 1)))), (11, .int (zI (ctL b en fr a))), (10, .int (zI ((min en ((((a) / (b)) + (1)) * (b))) - (a)))), (9, .int (zI (k))), (6, .int (zI (bI ((en - 1) / b = fr / b)))), (5, .int (zI (en))), (0, .ref (ad 0)), (1, .int (zI (v))), (2, .int (zI (fr))), (3, .ref (sa)), (4, .int (zI (L)))]) hx hb dX3_cut_235 hl (k := 5) rfl (by decide) rfl (fun ls hl => ?_)
                        refine lv_goto (tgt := 44) hx hb dX3_cut_238 (by decide) ?_
                        have hZ : (L = 0 ∧ (zBw B1 (v) (zcp (sd) (B1 (v)) (0) ((10) * ((A 0 (v)) + (q))) (7))) = B ∨ L = 1 ∧ (∀ u e w, 0 ≤ w → w < 10 → (zBw B1 (v) (zcp (sd) (B1 (v)) (0) ((10) * ((A 0 (v)) + (q))) (7))) u (10 * e + w) = if u = v ∧ A 0 v ≤ e ∧ e < A 0 v + (q + 1) ∧ w < 7 then elC b en fr sd (e - A 0 v) w else B u (10 * e + w))) := by
                          first
                          | exact Or.inl ⟨by omega, (hst.resolve_right (fun z => absurd z.1 (by omega))).2⟩
                          | (refine Or.inr ⟨by omega, fun u e w w0 w1 => ?_⟩
                             have hB1 := (hst.resolve_left (fun z => absurd z.1 (by omega))).2 u e w w0 w1
                             (repeat rw [zB_at (by omega) (by omega)])
                             rw [zcpB_at ⟨w0, w1⟩, hB1]
                             by_cases he : u = v ∧ e = A 0 v + q ∧ w < 7
                             · rw [if_pos (show u = v ∧ A 0 v ≤ e ∧ e < A 0 v + (q + 1) ∧ w < 7 by omega), show e - A 0 v = q by omega]
                               unfold elC
                               rw [hsA, ← haq, hkk]
                               (repeat' split) <;> first | rfl | (exfalso; omega)
                             · (repeat rw [if_neg (show ¬ (u = v ∧ e = A 0 v + q ∧ _) by omega)])
                               exact zite (by omega))
                        exact ih (q + 1) (ctA b en fr (q + 1)) ((zBw B1 (v) (zcp (sd) (B1 (v)) (0) ((10) * ((A 0 (v)) + (q))) (7)))) (by omega) rfl hat (fun z z9 => by first | exact absurd z h_106 | omega) hfp1 hZ (by omega) H _ hP hS _ (lv_sub hl [0, 2, 6, 7, 8, 9, 10, 11, 12] rfl)
                      · skip
                        refine lv_aload_n hx hb dX3_cut_220 rfl (lv_at hl 8 rfl) ?_
                        refine zm_get hx hb hK hts hown hP 6 (by decide) q_fl_RX3_22 (v := .ref (ad 2)) rfl dX3_cut_221 ?_
                        refine lv_iload_n hx hb dX3_cut_224 rfl (lv_at hl 9 rfl) ?_
                        refine zm_aB hx hb hK hP (i := v) (by omega) dX3_cut_225 ?_
                        refine lv_iload hx hb dX3_cut_226 (lv_at hl 0 rfl) ?_
                        refine z_bipush hx hb dX3_cut_228 (by decide) ?_
                        refine z_iadd (x := (10) * ((A 0 (v)) + (q))) (y := 6) hx hb dX3_cut_230 ?_
                        refine lv_aload_n hx hb dX3_cut_231 rfl (lv_at hl 11 rfl) ?_
                        refine z_iconst hx hb dX3_cut_232 ?_
                        refine z_ald (n := 7) hx hb hK (hN0.kept (hS.2.1 sa hN0.lt hnD)) (i := 2) (by decide) (by decide) dX3_cut_233 ?_
                        refine zm_sB (x := sd 2) hx hb hK hP hS (v := v) (by omega) (hD (3 + (v).toNat) (by omega)) (i := ((10) * ((A 0 (v)) + (q))) + (6)) (by omega) dX3_cut_234 (fun H locs hP hz ho hS => ?_)
                        refine z_iinc (lv' := [(8, .int (zI (q + 1))), (12, .int (zI ((10) * ((A 0 (v)) + (q))))), (7, .int (zI (ctA b en fr (q + 1)))), (11, .int (zI (ctL b en fr a))), (10, .int (zI ((min en ((((a) / (b)) + (1)) * (b))) - (a)))), (9, .int (zI (k))), (6, .int (zI (bI ((en - 1) / b = fr / b)))), (5, .int (zI (en))), (0, .ref (ad 0)), (1, .int (zI (v))), (2, .int (zI (fr))), (3, .ref (sa)), (4, .int (zI (L)))]) hx hb dX3_cut_235 hl (k := 5) rfl (by decide) rfl (fun ls hl => ?_)
                        refine lv_goto (tgt := 44) hx hb dX3_cut_238 (by decide) ?_
                        have hZ : (L = 0 ∧ (zB (zBw B1 (v) (zcp (sd) (B1 (v)) (0) ((10) * ((A 0 (v)) + (q))) (7))) (v) (((10) * ((A 0 (v)) + (q))) + (6)) (sd 2)) = B ∨ L = 1 ∧ (∀ u e w, 0 ≤ w → w < 10 → (zB (zBw B1 (v) (zcp (sd) (B1 (v)) (0) ((10) * ((A 0 (v)) + (q))) (7))) (v) (((10) * ((A 0 (v)) + (q))) + (6)) (sd 2)) u (10 * e + w) = if u = v ∧ A 0 v ≤ e ∧ e < A 0 v + (q + 1) ∧ w < 7 then elC b en fr sd (e - A 0 v) w else B u (10 * e + w))) := by
                          first
                          | exact Or.inl ⟨by omega, (hst.resolve_right (fun z => absurd z.1 (by omega))).2⟩
                          | (refine Or.inr ⟨by omega, fun u e w w0 w1 => ?_⟩
                             have hB1 := (hst.resolve_left (fun z => absurd z.1 (by omega))).2 u e w w0 w1
                             (repeat rw [zB_at (by omega) (by omega)])
                             rw [zcpB_at ⟨w0, w1⟩, hB1]
                             by_cases he : u = v ∧ e = A 0 v + q ∧ w < 7
                             · rw [if_pos (show u = v ∧ A 0 v ≤ e ∧ e < A 0 v + (q + 1) ∧ w < 7 by omega), show e - A 0 v = q by omega]
                               unfold elC
                               rw [hsA, ← haq, hkk]
                               (repeat' split) <;> first | rfl | (exfalso; omega)
                             · (repeat rw [if_neg (show ¬ (u = v ∧ e = A 0 v + q ∧ _) by omega)])
                               exact zite (by omega))
                        exact ih (q + 1) (ctA b en fr (q + 1)) ((zB (zBw B1 (v) (zcp (sd) (B1 (v)) (0) ((10) * ((A 0 (v)) + (q))) (7))) (v) (((10) * ((A 0 (v)) + (q))) + (6)) (sd 2))) (by omega) rfl hat (fun z z9 => by first | exact absurd z h_106 | omega) hfp1 hZ (by omega) H _ hP hS _ (lv_sub hl [0, 2, 6, 7, 8, 9, 10, 11, 12] rfl)
                    · skip
                      refine lv_aload_n hx hb dX3_cut_179 rfl (lv_at hl 8 rfl) ?_
                      refine zm_get hx hb hK hts hown hP 6 (by decide) q_fl_RX3_22 (v := .ref (ad 2)) rfl dX3_cut_180 ?_
                      refine lv_iload_n hx hb dX3_cut_183 rfl (lv_at hl 9 rfl) ?_
                      refine zm_aB hx hb hK hP (i := v) (by omega) dX3_cut_184 ?_
                      refine lv_iload hx hb dX3_cut_185 (lv_at hl 0 rfl) ?_
                      refine z_iconst hx hb dX3_cut_187 ?_
                      refine z_iadd (x := (10) * ((A 0 (v)) + (q))) (y := 0) hx hb dX3_cut_188 ?_
                      refine z_gets hx hb hG hts hS hA (own := RX3) (C := "ScorePressModel") (n := "PARTS") (vs := [1, 1, 1, 2, 2, 2, 4, 4, 4, 8, 8, 8, 16, 16, 32]) (index := 51) (by decide) hown q_fl_RX3_51 dX3_cut_189 (fun t_7 ht_7 => ?_)
                      refine lv_iload hx hb dX3_cut_192 (lv_at hl 4 rfl) ?_
                      refine z_tld (vs := [1, 1, 1, 2, 2, 2, 4, 4, 4, 8, 8, 8, 16, 16, 32]) hx hb ht_7 hS (i := k) (by have h9 : ([1, 1, 1, 2, 2, 2, 4, 4, 4, 8, 8, 8, 16, 16, 32] : List Int).length = 15 := rfl; omega) (by decide) dX3_cut_194 ?_
                      refine zm_sB (x := valP k) hx hb hK hP hS (v := v) (by omega) (hD (3 + (v).toNat) (by omega)) (i := ((10) * ((A 0 (v)) + (q))) + (0)) (by omega) dX3_cut_195 (fun H locs hP hz ho hS => ?_)
                      refine lv_aload_n hx hb dX3_cut_196 rfl (lv_at hl 8 rfl) ?_
                      refine zm_get hx hb hK hts hown hP 6 (by decide) q_fl_RX3_22 (v := .ref (ad 2)) rfl dX3_cut_197 ?_
                      refine lv_iload_n hx hb dX3_cut_200 rfl (lv_at hl 9 rfl) ?_
                      refine zm_aB hx hb hK hP (i := v) (by omega) dX3_cut_201 ?_
                      refine lv_iload hx hb dX3_cut_202 (lv_at hl 0 rfl) ?_
                      refine z_iconst hx hb dX3_cut_204 ?_
                      refine z_iadd (x := (10) * ((A 0 (v)) + (q))) (y := 1) hx hb dX3_cut_205 ?_
                      refine z_gets hx hb hG hts hS hA (own := RX3) (C := "ScorePressModel") (n := "DOTS") (vs := [2, 1, 0, 2, 1, 0, 2, 1, 0, 2, 1, 0, 1, 0, 0]) (index := 54) (by decide) hown q_fl_RX3_54 dX3_cut_206 (fun t_8 ht_8 => ?_)
                      refine lv_iload hx hb dX3_cut_209 (lv_at hl 4 rfl) ?_
                      refine z_tld (vs := [2, 1, 0, 2, 1, 0, 2, 1, 0, 2, 1, 0, 1, 0, 0]) hx hb ht_8 hS (i := k) (by have h9 : ([2, 1, 0, 2, 1, 0, 2, 1, 0, 2, 1, 0, 1, 0, 0] : List Int).length = 15 := rfl; omega) (by decide) dX3_cut_211 ?_
                      refine zm_sB (x := valD k) hx hb hK hP hS (v := v) (by omega) (hD (3 + (v).toNat) (by omega)) (i := ((10) * ((A 0 (v)) + (q))) + (1)) (by omega) dX3_cut_212 (fun H locs hP hz ho hS => ?_)
                      refine lv_iload hx hb dX3_cut_213 (lv_at hl 1 rfl) ?_
                      refine lv_iload hx hb dX3_cut_215 (lv_at hl 7 rfl) ?_
                      refine z_icmp_ge (a := ctA b en fr (q + 1)) (b := en) (tgt := 235) hx hb dX3_cut_217 (by decide) (by omega) (by omega) (fun h_217 => ?_) (fun h_217 => ?_)
                      · skip
                        refine z_iinc (lv' := [(8, .int (zI (q + 1))), (12, .int (zI ((10) * ((A 0 (v)) + (q))))), (7, .int (zI (ctA b en fr (q + 1)))), (11, .int (zI (ctL b en fr a))), (10, .int (zI ((min en ((((a) / (b)) + (1)) * (b))) - (a)))), (9, .int (zI (k))), (6, .int (zI (bI ((en - 1) / b = fr / b)))), (5, .int (zI (en))), (0, .ref (ad 0)), (1, .int (zI (v))), (2, .int (zI (fr))), (3, .ref (sa)), (4, .int (zI (L)))]) hx hb dX3_cut_235 hl (k := 5) rfl (by decide) rfl (fun ls hl => ?_)
                        refine lv_goto (tgt := 44) hx hb dX3_cut_238 (by decide) ?_
                        have hZ : (L = 0 ∧ (zB (zB (zBw B1 (v) (zcp (sd) (B1 (v)) (0) ((10) * ((A 0 (v)) + (q))) (7))) (v) (((10) * ((A 0 (v)) + (q))) + (0)) (valP k)) (v) (((10) * ((A 0 (v)) + (q))) + (1)) (valD k)) = B ∨ L = 1 ∧ (∀ u e w, 0 ≤ w → w < 10 → (zB (zB (zBw B1 (v) (zcp (sd) (B1 (v)) (0) ((10) * ((A 0 (v)) + (q))) (7))) (v) (((10) * ((A 0 (v)) + (q))) + (0)) (valP k)) (v) (((10) * ((A 0 (v)) + (q))) + (1)) (valD k)) u (10 * e + w) = if u = v ∧ A 0 v ≤ e ∧ e < A 0 v + (q + 1) ∧ w < 7 then elC b en fr sd (e - A 0 v) w else B u (10 * e + w))) := by
                          first
                          | exact Or.inl ⟨by omega, (hst.resolve_right (fun z => absurd z.1 (by omega))).2⟩
                          | (refine Or.inr ⟨by omega, fun u e w w0 w1 => ?_⟩
                             have hB1 := (hst.resolve_left (fun z => absurd z.1 (by omega))).2 u e w w0 w1
                             (repeat rw [zB_at (by omega) (by omega)])
                             rw [zcpB_at ⟨w0, w1⟩, hB1]
                             by_cases he : u = v ∧ e = A 0 v + q ∧ w < 7
                             · rw [if_pos (show u = v ∧ A 0 v ≤ e ∧ e < A 0 v + (q + 1) ∧ w < 7 by omega), show e - A 0 v = q by omega]
                               unfold elC
                               rw [hsA, ← haq, hkk]
                               (repeat' split) <;> first | rfl | (exfalso; omega)
                             · (repeat rw [if_neg (show ¬ (u = v ∧ e = A 0 v + q ∧ _) by omega)])
                               exact zite (by omega))
                        exact ih (q + 1) (ctA b en fr (q + 1)) ((zB (zB (zBw B1 (v) (zcp (sd) (B1 (v)) (0) ((10) * ((A 0 (v)) + (q))) (7))) (v) (((10) * ((A 0 (v)) + (q))) + (0)) (valP k)) (v) (((10) * ((A 0 (v)) + (q))) + (1)) (valD k))) (by omega) rfl hat (fun z z9 => by first | exact absurd z h_106 | omega) hfp1 hZ (by omega) H _ hP hS _ (lv_sub hl [0, 2, 6, 7, 8, 9, 10, 11, 12] rfl)
                      · skip
                        refine lv_aload_n hx hb dX3_cut_220 rfl (lv_at hl 8 rfl) ?_
                        refine zm_get hx hb hK hts hown hP 6 (by decide) q_fl_RX3_22 (v := .ref (ad 2)) rfl dX3_cut_221 ?_
                        refine lv_iload_n hx hb dX3_cut_224 rfl (lv_at hl 9 rfl) ?_
                        refine zm_aB hx hb hK hP (i := v) (by omega) dX3_cut_225 ?_
                        refine lv_iload hx hb dX3_cut_226 (lv_at hl 0 rfl) ?_
                        refine z_bipush hx hb dX3_cut_228 (by decide) ?_
                        refine z_iadd (x := (10) * ((A 0 (v)) + (q))) (y := 6) hx hb dX3_cut_230 ?_
                        refine lv_aload_n hx hb dX3_cut_231 rfl (lv_at hl 11 rfl) ?_
                        refine z_iconst hx hb dX3_cut_232 ?_
                        refine z_ald (n := 7) hx hb hK (hN0.kept (hS.2.1 sa hN0.lt hnD)) (i := 2) (by decide) (by decide) dX3_cut_233 ?_
                        refine zm_sB (x := sd 2) hx hb hK hP hS (v := v) (by omega) (hD (3 + (v).toNat) (by omega)) (i := ((10) * ((A 0 (v)) + (q))) + (6)) (by omega) dX3_cut_234 (fun H locs hP hz ho hS => ?_)
                        refine z_iinc (lv' := [(8, .int (zI (q + 1))), (12, .int (zI ((10) * ((A 0 (v)) + (q))))), (7, .int (zI (ctA b en fr (q + 1)))), (11, .int (zI (ctL b en fr a))), (10, .int (zI ((min en ((((a) / (b)) + (1)) * (b))) - (a)))), (9, .int (zI (k))), (6, .int (zI (bI ((en - 1) / b = fr / b)))), (5, .int (zI (en))), (0, .ref (ad 0)), (1, .int (zI (v))), (2, .int (zI (fr))), (3, .ref (sa)), (4, .int (zI (L)))]) hx hb dX3_cut_235 hl (k := 5) rfl (by decide) rfl (fun ls hl => ?_)
                        refine lv_goto (tgt := 44) hx hb dX3_cut_238 (by decide) ?_
                        have hZ : (L = 0 ∧ (zB (zB (zB (zBw B1 (v) (zcp (sd) (B1 (v)) (0) ((10) * ((A 0 (v)) + (q))) (7))) (v) (((10) * ((A 0 (v)) + (q))) + (0)) (valP k)) (v) (((10) * ((A 0 (v)) + (q))) + (1)) (valD k)) (v) (((10) * ((A 0 (v)) + (q))) + (6)) (sd 2)) = B ∨ L = 1 ∧ (∀ u e w, 0 ≤ w → w < 10 → (zB (zB (zB (zBw B1 (v) (zcp (sd) (B1 (v)) (0) ((10) * ((A 0 (v)) + (q))) (7))) (v) (((10) * ((A 0 (v)) + (q))) + (0)) (valP k)) (v) (((10) * ((A 0 (v)) + (q))) + (1)) (valD k)) (v) (((10) * ((A 0 (v)) + (q))) + (6)) (sd 2)) u (10 * e + w) = if u = v ∧ A 0 v ≤ e ∧ e < A 0 v + (q + 1) ∧ w < 7 then elC b en fr sd (e - A 0 v) w else B u (10 * e + w))) := by
                          first
                          | exact Or.inl ⟨by omega, (hst.resolve_right (fun z => absurd z.1 (by omega))).2⟩
                          | (refine Or.inr ⟨by omega, fun u e w w0 w1 => ?_⟩
                             have hB1 := (hst.resolve_left (fun z => absurd z.1 (by omega))).2 u e w w0 w1
                             (repeat rw [zB_at (by omega) (by omega)])
                             rw [zcpB_at ⟨w0, w1⟩, hB1]
                             by_cases he : u = v ∧ e = A 0 v + q ∧ w < 7
                             · rw [if_pos (show u = v ∧ A 0 v ≤ e ∧ e < A 0 v + (q + 1) ∧ w < 7 by omega), show e - A 0 v = q by omega]
                               unfold elC
                               rw [hsA, ← haq, hkk]
                               (repeat' split) <;> first | rfl | (exfalso; omega)
                             · (repeat rw [if_neg (show ¬ (u = v ∧ e = A 0 v + q ∧ _) by omega)])
                               exact zite (by omega))
                        exact ih (q + 1) (ctA b en fr (q + 1)) ((zB (zB (zB (zBw B1 (v) (zcp (sd) (B1 (v)) (0) ((10) * ((A 0 (v)) + (q))) (7))) (v) (((10) * ((A 0 (v)) + (q))) + (0)) (valP k)) (v) (((10) * ((A 0 (v)) + (q))) + (1)) (valD k)) (v) (((10) * ((A 0 (v)) + (q))) + (6)) (sd 2))) (by omega) rfl hat (fun z z9 => by first | exact absurd z h_106 | omega) hfp1 hZ (by omega) H _ hP hS _ (lv_sub hl [0, 2, 6, 7, 8, 9, 10, 11, 12] rfl)
              · skip
                refine z_iinc (lv' := [(9, .int (zI (k + 1))), (10, .int (zI ((min en ((((a) / (b)) + (1)) * (b))) - (a)))), (8, .int (zI (q))), (7, .int (zI (a))), (6, .int (zI (bI ((en - 1) / b = fr / b)))), (5, .int (zI (en))), (0, .ref (ad 0)), (1, .int (zI (v))), (2, .int (zI (fr))), (3, .ref (sa)), (4, .int (zI (L)))]) hx hb dX3_cut_98 hl (k := 1) rfl (by decide) rfl (fun ls hl => ?_)
                refine lv_goto (tgt := 78) hx hb dX3_cut_101 (by decide) ?_
                exact ih2 (k + 1) (by omega) (by have : ¬ k = 14 := (fun z => by rw [z] at h_95; omega); omega) (fp_no hk0 hkf (by omega)) (by omega) H _ hP hS _ (lv_sub hl [1, 0, 2, 3, 4, 5, 6, 7, 8, 9, 10] rfl)
          exact lp_78 16 0 (by omega) (by omega) (fp_0 _) (by omega) H _ hP hS _ (lv_sub hl [0, 1, 2, 3, 4, 5, 6, 7, 8, 9, 10] rfl)
    exact lp_44 57 0 fr B (by omega) (pf_0 _ _).symm (by omega) (fun _ _ => rfl) (fp_0 _) (by rcases hL with z | z; exact Or.inl ⟨z, rfl⟩; exact Or.inr ⟨z, fun u e w w0 w1 => by rw [if_neg (by omega)]⟩) (by omega) s.heap _ hP hS _ (lv_sub hl [0, 1, 2, 3, 4, 5, 6, 7, 8] rfl)
  · skip
    refine z_iconst hx hb dX3_cut_31 ?_
    rw [show zI 1 = zI (bI ((en - 1) / b = fr / b)) from congrArg zI (bI_t h_28)]
    refine lv_goto (tgt := 36) hx hb dX3_cut_32 (by decide) ?_
    refine lv_istore (lv' := [(6, .int (zI (bI ((en - 1) / b = fr / b)))), (5, .int (zI (en))), (0, .ref (ad 0)), (1, .int (zI (v))), (2, .int (zI (fr))), (3, .ref (sa)), (4, .int (zI (L)))]) hx hb dX3_cut_36 hl (by decide) rfl (fun ls hl => ?_)
    refine lv_iload_n hx hb dX3_cut_38 rfl (lv_at hl 4 rfl) ?_
    refine lv_istore (lv' := [(7, .int (zI (fr))), (6, .int (zI (bI ((en - 1) / b = fr / b)))), (5, .int (zI (en))), (0, .ref (ad 0)), (1, .int (zI (v))), (2, .int (zI (fr))), (3, .ref (sa)), (4, .int (zI (L)))]) hx hb dX3_cut_39 hl (by decide) rfl (fun ls hl => ?_)
    refine z_iconst hx hb dX3_cut_41 ?_
    refine lv_istore (lv' := [(8, .int (zI (0))), (7, .int (zI (fr))), (6, .int (zI (bI ((en - 1) / b = fr / b)))), (5, .int (zI (en))), (0, .ref (ad 0)), (1, .int (zI (v))), (2, .int (zI (fr))), (3, .ref (sa)), (4, .int (zI (L)))]) hx hb dX3_cut_42 hl (by decide) rfl (fun ls hl => ?_)
    have lp_44 : ∀ (n : Nat) (q a : Int) (B1 : Int → Int → Int), 0 ≤ q → a = ctA b en fr q → (fr ≤ a ∧ a ≤ en ∧ a % 12 = 0 ∧ 12 * q ≤ a - fr) → ((en - 1) / b = fr / b → a < en → a = fr) → fp (fun n => en ≤ ctA b en fr n) q = q → (L = 0 ∧ B1 = B ∨ L = 1 ∧ (∀ u e w, 0 ≤ w → w < 10 → B1 u (10 * e + w) = if u = v ∧ A 0 v ≤ e ∧ e < A 0 v + q ∧ w < 7 then elC b en fr sd (e - A 0 v) w else B u (10 * e + w))) → (en - a < n * 12) → ∀ (H : Heap) (locs : List Loc), MP G ad F A B1 H → va_S (fA 11 ad s.heap.size) s.heap H locs → ∀ (ls : Array Slot), lv_has ls 13 [(8, .int (zI (q))), (7, .int (zI (a))), (6, .int (zI (bI ((en - 1) / b = fr / b)))), (5, .int (zI (en))), (0, .ref (ad 0)), (1, .int (zI (v))), (2, .int (zI (fr))), (3, .ref (sa)), (4, .int (zI (L)))] → W p l env (rmz 1 37 0 0) s m (([.ref (ad 0), .int (zI (v)), .int (zI (fr)), .ref (sa), .int (zI (L))] : List Value).toArray) below meth c H locs 0 0 (MQ below (QW (fA 11 ad s.heap.size) (fun r H => r = cutN b en fr ∧ (1 ≤ r ∧ r ≤ 56) ∧ ∃ B', MP G ad F A B' H ∧ (L = 0 → B' = B) ∧ (L = 1 → ∀ u e w, 0 ≤ w → w < 10 → B' u (10 * e + w) = if u = v ∧ A 0 v ≤ e ∧ e < A 0 v + r ∧ w < 7 then elC b en fr sd (e - A 0 v) w else B u (10 * e + w)))) (([.ref (ad 0), .int (zI (v)), .int (zI (fr)), .ref (sa), .int (zI (L))] : List Value).toArray) s 0 0 (fA 11 ad s.heap.size)) (F0 m 44 ls []) := by
      intro n
      induction n with
      | zero => intro q a B1 h0 haq ha hone hfp hst hm H locs hP hS ls hl; exact absurd hm (by omega)
      | succ n ih =>
        intro q a B1 h0 haq ha hone hfp hst hm H locs hP hS ls hl
        have hsA := ctA_s b en fr h0
        have hlr := left_rng hy hy2 ha.2.2.1
        have hokB : MOK F A B1 := by
          rcases hst with z | z
          · rw [z.2]; exact hVM
          · exact hVM.same fun u e w w0 w1 e0 e1 => by rw [z.2 u e w w0 (by omega), if_neg (by intro q9; rw [q9.1] at e1; omega)]
        refine lv_iload hx hb dX3_cut_44 (lv_at hl 1 rfl) ?_
        refine lv_iload hx hb dX3_cut_46 (lv_at hl 3 rfl) ?_
        refine z_icmp_ge (a := a) (b := en) (tgt := 241) hx hb dX3_cut_48 (by decide) (by omega) (by omega) (fun h_48 => ?_) (fun h_48 => ?_)
        · skip
          refine lv_iload hx hb dX3_cut_241 (lv_at hl 0 rfl) ?_
          have hq1 : 1 ≤ q := by
            rcases (by omega : q = 0 ∨ 1 ≤ q) with z | z
            · rw [z] at haq
              have : a = fr := haq
              omega
            · exact z
          exact e_Wi (r := q) hx hb hr hlk (n_i _) hS (by omega) (by omega) ⟨(cutN_eq h0 hfp (by rw [← haq]; omega) (by omega)).symm, (by omega), B1, hP, (fun z => (hst.resolve_right (fun z9 => absurd z9.1 (by omega))).2), (fun z => (hst.resolve_left (fun z9 => absurd z9.1 (by omega))).2)⟩ dX3_cut_243
        · skip
          have hfp1 := fp_no h0 hfp (show ¬ en ≤ ctA b en fr q by rw [← haq]; omega)
          have hda : 0 ≤ a / b ∧ a / b ≤ a := ⟨Int.ediv_nonneg (by omega) (by omega), Int.ediv_le_self _ (by omega)⟩
          have hcn : q + 1 ≤ cutN b en fr := fp_ge (by omega) hfp1 (by omega)
          refine z_iconst hx hb dX3_cut_51 ?_
          refine lv_istore (lv' := [(9, .int (zI (0))), (8, .int (zI (q))), (7, .int (zI (a))), (6, .int (zI (bI ((en - 1) / b = fr / b)))), (5, .int (zI (en))), (0, .ref (ad 0)), (1, .int (zI (v))), (2, .int (zI (fr))), (3, .ref (sa)), (4, .int (zI (L)))]) hx hb dX3_cut_52 hl (by decide) rfl (fun ls hl => ?_)
          refine lv_iload hx hb dX3_cut_54 (lv_at hl 4 rfl) ?_
          refine lv_iload hx hb dX3_cut_56 (lv_at hl 2 rfl) ?_
          refine lv_aload_n hx hb dX3_cut_58 rfl (lv_at hl 5 rfl) ?_
          refine k_R (c_VR (As := []) (rest := [.int (zI (a)), .int (zI (en))]) ⟨hx, hb, hml, hown, hts⟩ hG hS hA (c_X3_bar l G ad F A B1 hokB) ⟨q_ml_RX3_81, q_im_X3_bar, q_sel_X3_bar, q_ini_RX3, q_code_X3_bar⟩ hv_X3_bar (MP.rec hK hP) hP ⟨by decide, by decide⟩ ⟨Nat.zero_le _, Nat.zero_le _⟩ rfl hl.1 rfl (Nat.le_of_ble_eq_true rfl) dX3_cut_59) ?_
          rw [← hbb]
          refine z_idiv hx hb dX3_cut_62 (by omega) (by omega) ?_
          refine z_iconst hx hb dX3_cut_63 ?_
          refine z_iadd (x := (a) / (b)) (y := 1) hx hb dX3_cut_64 ?_
          refine lv_aload_n hx hb dX3_cut_65 rfl (lv_at hl 5 rfl) ?_
          refine k_R (c_VR (As := []) (rest := [.int (zI (((a) / (b)) + (1))), .int (zI (en))]) ⟨hx, hb, hml, hown, hts⟩ hG hS hA (c_X3_bar l G ad F A B1 hokB) ⟨q_ml_RX3_81, q_im_X3_bar, q_sel_X3_bar, q_ini_RX3, q_code_X3_bar⟩ hv_X3_bar (MP.rec hK hP) hP ⟨by decide, by decide⟩ ⟨Nat.zero_le _, Nat.zero_le _⟩ rfl hl.1 rfl (Nat.le_of_ble_eq_true rfl) dX3_cut_66) ?_
          rw [← hbb]
          refine z_imul (x := ((a) / (b)) + (1)) (y := b) hx hb dX3_cut_69 ?_
          refine k_R (c_SR (As := [.int (zI (en)), .int (zI ((((a) / (b)) + (1)) * (b)))]) (rest := []) ⟨hx, hb, hml, hown, hts⟩ hG hS hA (c_J9_min_7cf53 l G en ((((a) / (b)) + (1)) * (b)) (show -2147483648 ≤ en ∧ en ≤ 2147483647 by omega) (show -2147483648 ≤ ((((a) / (b)) + (1)) * (b)) ∧ ((((a) / (b)) + (1)) * (b)) ≤ 2147483647 by omega)) ⟨q_ml_RX3_110, q_st_J9_min_7cf53, q_ini_RJ9, q_code_J9_min_7cf53⟩ hs_J9_min_7cf53 trivial ⟨by decide, by decide⟩ ⟨Nat.zero_le _, Nat.zero_le _⟩ rfl hl.1 rfl (Nat.le_of_ble_eq_true rfl) dX3_cut_70) ?_
          refine lv_iload hx hb dX3_cut_73 (lv_at hl 2 rfl) ?_
          refine z_isub (x := min en ((((a) / (b)) + (1)) * (b))) (y := a) hx hb dX3_cut_75 ?_
          refine lv_istore (lv' := [(10, .int (zI ((min en ((((a) / (b)) + (1)) * (b))) - (a)))), (9, .int (zI (0))), (8, .int (zI (q))), (7, .int (zI (a))), (6, .int (zI (bI ((en - 1) / b = fr / b)))), (5, .int (zI (en))), (0, .ref (ad 0)), (1, .int (zI (v))), (2, .int (zI (fr))), (3, .ref (sa)), (4, .int (zI (L)))]) hx hb dX3_cut_76 hl (by decide) rfl (fun ls hl => ?_)
          have hlf : 12 ≤ min en ((a / b + 1) * b) - a ∧ min en ((a / b + 1) * b) - a ≤ en - a := by omega
          have lp_78 : ∀ (n : Nat) (k : Int), 0 ≤ k → k ≤ 14 → fp (fun k => valT k ≤ min en ((a / b + 1) * b) - a) k = k → 15 - k < n → ∀ (H : Heap) (locs : List Loc), MP G ad F A B1 H → va_S (fA 11 ad s.heap.size) s.heap H locs → ∀ (ls : Array Slot), lv_has ls 13 [(10, .int (zI ((min en ((((a) / (b)) + (1)) * (b))) - (a)))), (9, .int (zI (k))), (8, .int (zI (q))), (7, .int (zI (a))), (6, .int (zI (bI ((en - 1) / b = fr / b)))), (5, .int (zI (en))), (0, .ref (ad 0)), (1, .int (zI (v))), (2, .int (zI (fr))), (3, .ref (sa)), (4, .int (zI (L)))] → W p l env (rmz 1 37 0 0) s m (([.ref (ad 0), .int (zI (v)), .int (zI (fr)), .ref (sa), .int (zI (L))] : List Value).toArray) below meth c H locs 0 0 (MQ below (QW (fA 11 ad s.heap.size) (fun r H => r = cutN b en fr ∧ (1 ≤ r ∧ r ≤ 56) ∧ ∃ B', MP G ad F A B' H ∧ (L = 0 → B' = B) ∧ (L = 1 → ∀ u e w, 0 ≤ w → w < 10 → B' u (10 * e + w) = if u = v ∧ A 0 v ≤ e ∧ e < A 0 v + r ∧ w < 7 then elC b en fr sd (e - A 0 v) w else B u (10 * e + w)))) (([.ref (ad 0), .int (zI (v)), .int (zI (fr)), .ref (sa), .int (zI (L))] : List Value).toArray) s 0 0 (fA 11 ad s.heap.size)) (F0 m 78 ls []) := by
            intro n
            induction n with
            | zero => intro k hk0 hk1 hkf hmk H locs hP hS ls hl; exact absurd hmk (by omega)
            | succ n ih2 =>
              intro k hk0 hk1 hkf hmk H locs hP hS ls hl
              have hvp := valP_rng (k := k) (by omega)
              have hvd := valD_rng (k := k) (by omega)
              have hvt := valT_rng (k := k) (by omega)
              have hvt12 := valT_12 (k := k) (by omega)
              have hv14 : valT 14 = 12 := rfl
              refine z_gets hx hb hG hts hS hA (own := RX3) (C := "ScorePressModel") (n := "PARTS") (vs := [1, 1, 1, 2, 2, 2, 4, 4, 4, 8, 8, 8, 16, 16, 32]) (index := 51) (by decide) hown q_fl_RX3_51 dX3_cut_78 (fun t_9 ht_9 => ?_)
              refine lv_iload hx hb dX3_cut_81 (lv_at hl 1 rfl) ?_
              refine z_tld (vs := [1, 1, 1, 2, 2, 2, 4, 4, 4, 8, 8, 8, 16, 16, 32]) hx hb ht_9 hS (i := k) (by have h9 : ([1, 1, 1, 2, 2, 2, 4, 4, 4, 8, 8, 8, 16, 16, 32] : List Int).length = 15 := rfl; omega) (by decide) dX3_cut_83 ?_
              refine z_gets hx hb hG hts hS hA (own := RX3) (C := "ScorePressModel") (n := "DOTS") (vs := [2, 1, 0, 2, 1, 0, 2, 1, 0, 2, 1, 0, 1, 0, 0]) (index := 54) (by decide) hown q_fl_RX3_54 dX3_cut_84 (fun t_10 ht_10 => ?_)
              refine lv_iload hx hb dX3_cut_87 (lv_at hl 1 rfl) ?_
              refine z_tld (vs := [2, 1, 0, 2, 1, 0, 2, 1, 0, 2, 1, 0, 1, 0, 0]) hx hb ht_10 hS (i := k) (by have h9 : ([2, 1, 0, 2, 1, 0, 2, 1, 0, 2, 1, 0, 1, 0, 0] : List Int).length = 15 := rfl; omega) (by decide) dX3_cut_89 ?_
              refine k_R (c_SR (As := [.int (zI (valP k)), .int (zI (valD k))]) (rest := []) ⟨hx, hb, hml, hown, hts⟩ hG hS hA (c_X3_ticksOf l G (valP k) (valD k) (show 1 ≤ (valP k) ∧ (valP k) ≤ 1000 by omega) (show -2147483648 ≤ (valD k) ∧ (valD k) ≤ 2147483647 by omega)) ⟨q_ml_RX3_61, q_st_X3_ticksOf, q_ini_RX3, q_code_X3_ticksOf⟩ hs_X3_ticksOf trivial ⟨by decide, by decide⟩ ⟨Nat.zero_le _, Nat.zero_le _⟩ rfl hl.1 rfl (Nat.le_of_ble_eq_true rfl) dX3_cut_90) ?_
              rw [tkO_val (by omega)]
              refine lv_iload hx hb dX3_cut_93 (lv_at hl 0 rfl) ?_
              refine z_icmp_le (a := valT k) (b := (min en ((((a) / (b)) + (1)) * (b))) - (a)) (tgt := 104) hx hb dX3_cut_95 (by decide) (by omega) (by omega) (fun h_95 => ?_) (fun h_95 => ?_)
              · skip
                have hkk : kkC b en a = k := fp_yes hk0 hkf (by omega) (by omega)
                refine lv_iload hx hb dX3_cut_104 (lv_at hl 4 rfl) ?_
                refine z_bif_eq (q := (en - 1) / b = fr / b) (tgt := 116) hx hb dX3_cut_106 (by decide) (fun h_106 => ?_) (fun h_106 => ?_)
                · skip
                  refine z_gets hx hb hG hts hS hA (own := RX3) (C := "ScorePressModel") (n := "PARTS") (vs := [1, 1, 1, 2, 2, 2, 4, 4, 4, 8, 8, 8, 16, 16, 32]) (index := 51) (by decide) hown q_fl_RX3_51 dX3_cut_116 (fun t_11 ht_11 => ?_)
                  refine lv_iload hx hb dX3_cut_119 (lv_at hl 1 rfl) ?_
                  refine z_tld (vs := [1, 1, 1, 2, 2, 2, 4, 4, 4, 8, 8, 8, 16, 16, 32]) hx hb ht_11 hS (i := k) (by have h9 : ([1, 1, 1, 2, 2, 2, 4, 4, 4, 8, 8, 8, 16, 16, 32] : List Int).length = 15 := rfl; omega) (by decide) dX3_cut_121 ?_
                  refine z_gets hx hb hG hts hS hA (own := RX3) (C := "ScorePressModel") (n := "DOTS") (vs := [2, 1, 0, 2, 1, 0, 2, 1, 0, 2, 1, 0, 1, 0, 0]) (index := 54) (by decide) hown q_fl_RX3_54 dX3_cut_122 (fun t_12 ht_12 => ?_)
                  refine lv_iload hx hb dX3_cut_125 (lv_at hl 1 rfl) ?_
                  refine z_tld (vs := [2, 1, 0, 2, 1, 0, 2, 1, 0, 2, 1, 0, 1, 0, 0]) hx hb ht_12 hS (i := k) (by have h9 : ([2, 1, 0, 2, 1, 0, 2, 1, 0, 2, 1, 0, 1, 0, 0] : List Int).length = 15 := rfl; omega) (by decide) dX3_cut_127 ?_
                  refine k_R (c_SR (As := [.int (zI (valP k)), .int (zI (valD k))]) (rest := []) ⟨hx, hb, hml, hown, hts⟩ hG hS hA (c_X3_ticksOf l G (valP k) (valD k) (show 1 ≤ (valP k) ∧ (valP k) ≤ 1000 by omega) (show -2147483648 ≤ (valD k) ∧ (valD k) ≤ 2147483647 by omega)) ⟨q_ml_RX3_61, q_st_X3_ticksOf, q_ini_RX3, q_code_X3_ticksOf⟩ hs_X3_ticksOf trivial ⟨by decide, by decide⟩ ⟨Nat.zero_le _, Nat.zero_le _⟩ rfl hl.1 rfl (Nat.le_of_ble_eq_true rfl) dX3_cut_128) ?_
                  rw [tkO_val (by omega)]
                  have hcl : ctL b en fr a = valT k := by unfold ctL; rw [if_neg h_106, hkk]
                  rw [← hcl]
                  refine lv_istore (lv' := [(11, .int (zI (ctL b en fr a))), (10, .int (zI ((min en ((((a) / (b)) + (1)) * (b))) - (a)))), (9, .int (zI (k))), (8, .int (zI (q))), (7, .int (zI (a))), (6, .int (zI (bI ((en - 1) / b = fr / b)))), (5, .int (zI (en))), (0, .ref (ad 0)), (1, .int (zI (v))), (2, .int (zI (fr))), (3, .ref (sa)), (4, .int (zI (L)))]) hx hb dX3_cut_131 hl (by decide) rfl (fun ls hl => ?_)
                  refine lv_iload hx hb dX3_cut_133 (lv_at hl 4 rfl) ?_
                  refine lv_iload hx hb dX3_cut_135 (lv_at hl 0 rfl) ?_
                  refine z_iadd (x := a) (y := ctL b en fr a) hx hb dX3_cut_137 ?_
                  rw [← haq] at hsA
                  rw [← hsA]
                  have hat : fr ≤ ctA b en fr (q + 1) ∧ ctA b en fr (q + 1) ≤ en ∧ ctA b en fr (q + 1) % 12 = 0 ∧ 12 * (q + 1) ≤ ctA b en fr (q + 1) - fr := by rw [hsA, hcl]; omega
                  refine lv_istore (lv' := [(7, .int (zI (ctA b en fr (q + 1)))), (11, .int (zI (ctL b en fr a))), (10, .int (zI ((min en ((((a) / (b)) + (1)) * (b))) - (a)))), (9, .int (zI (k))), (8, .int (zI (q))), (6, .int (zI (bI ((en - 1) / b = fr / b)))), (5, .int (zI (en))), (0, .ref (ad 0)), (1, .int (zI (v))), (2, .int (zI (fr))), (3, .ref (sa)), (4, .int (zI (L)))]) hx hb dX3_cut_138 hl (by decide) rfl (fun ls hl => ?_)
                  refine lv_iload hx hb dX3_cut_140 (lv_at hl 11 rfl) ?_
                  refine z_if_eq (a := L) (tgt := 235) hx hb dX3_cut_142 (by decide) (by omega) (fun h_142 => ?_) (fun h_142 => ?_)
                  · skip
                    refine z_iinc (lv' := [(8, .int (zI (q + 1))), (7, .int (zI (ctA b en fr (q + 1)))), (11, .int (zI (ctL b en fr a))), (10, .int (zI ((min en ((((a) / (b)) + (1)) * (b))) - (a)))), (9, .int (zI (k))), (6, .int (zI (bI ((en - 1) / b = fr / b)))), (5, .int (zI (en))), (0, .ref (ad 0)), (1, .int (zI (v))), (2, .int (zI (fr))), (3, .ref (sa)), (4, .int (zI (L)))]) hx hb dX3_cut_235 hl (k := 4) rfl (by decide) rfl (fun ls hl => ?_)
                    refine lv_goto (tgt := 44) hx hb dX3_cut_238 (by decide) ?_
                    have hZ : (L = 0 ∧ B1 = B ∨ L = 1 ∧ (∀ u e w, 0 ≤ w → w < 10 → B1 u (10 * e + w) = if u = v ∧ A 0 v ≤ e ∧ e < A 0 v + (q + 1) ∧ w < 7 then elC b en fr sd (e - A 0 v) w else B u (10 * e + w))) := by
                      first
                      | exact Or.inl ⟨by omega, (hst.resolve_right (fun z => absurd z.1 (by omega))).2⟩
                      | (refine Or.inr ⟨by omega, fun u e w w0 w1 => ?_⟩
                         have hB1 := (hst.resolve_left (fun z => absurd z.1 (by omega))).2 u e w w0 w1
                         (repeat rw [zB_at (by omega) (by omega)])
                         rw [zcpB_at ⟨w0, w1⟩, hB1]
                         by_cases he : u = v ∧ e = A 0 v + q ∧ w < 7
                         · rw [if_pos (show u = v ∧ A 0 v ≤ e ∧ e < A 0 v + (q + 1) ∧ w < 7 by omega), show e - A 0 v = q by omega]
                           unfold elC
                           rw [hsA, ← haq, hkk]
                           (repeat' split) <;> first | rfl | (exfalso; omega)
                         · (repeat rw [if_neg (show ¬ (u = v ∧ e = A 0 v + q ∧ _) by omega)])
                           exact zite (by omega))
                    exact ih (q + 1) (ctA b en fr (q + 1)) (B1) (by omega) rfl hat (fun z z9 => by first | exact absurd z h_106 | omega) hfp1 hZ (by omega) H _ hP hS _ (lv_sub hl [0, 1, 5, 6, 7, 8, 9, 10, 11] rfl)
                  · skip
                    have hl1 := hVl (by omega)
                    refine z_bipush hx hb dX3_cut_145 (by decide) ?_
                    refine lv_aload_n hx hb dX3_cut_147 rfl (lv_at hl 7 rfl) ?_
                    refine zm_get hx hb hK hts hown hP 5 (by decide) q_fl_RX3_16 (v := .ref (ad 1)) rfl dX3_cut_148 ?_
                    refine lv_iload_n hx hb dX3_cut_151 rfl (lv_at hl 8 rfl) ?_
                    refine zm_lA0 hx hb hK hP (i := v) (by omega) dX3_cut_152 ?_
                    refine lv_iload hx hb dX3_cut_153 (lv_at hl 4 rfl) ?_
                    refine z_iadd (x := A 0 (v)) (y := q) hx hb dX3_cut_155 ?_
                    refine z_imul (x := 10) (y := (A 0 (v)) + (q)) hx hb dX3_cut_156 ?_
                    refine lv_istore (lv' := [(12, .int (zI ((10) * ((A 0 (v)) + (q))))), (7, .int (zI (ctA b en fr (q + 1)))), (11, .int (zI (ctL b en fr a))), (10, .int (zI ((min en ((((a) / (b)) + (1)) * (b))) - (a)))), (9, .int (zI (k))), (8, .int (zI (q))), (6, .int (zI (bI ((en - 1) / b = fr / b)))), (5, .int (zI (en))), (0, .ref (ad 0)), (1, .int (zI (v))), (2, .int (zI (fr))), (3, .ref (sa)), (4, .int (zI (L)))]) hx hb dX3_cut_157 hl (by decide) rfl (fun ls hl => ?_)
                    refine lv_aload_n hx hb dX3_cut_159 rfl (lv_at hl 11 rfl) ?_
                    refine z_iconst hx hb dX3_cut_160 ?_
                    refine lv_aload_n hx hb dX3_cut_161 rfl (lv_at hl 8 rfl) ?_
                    refine zm_get hx hb hK hts hown hP 6 (by decide) q_fl_RX3_22 (v := .ref (ad 2)) rfl dX3_cut_162 ?_
                    refine lv_iload_n hx hb dX3_cut_165 rfl (lv_at hl 9 rfl) ?_
                    refine zm_aB hx hb hK hP (i := v) (by omega) dX3_cut_166 ?_
                    refine lv_iload hx hb dX3_cut_167 (lv_at hl 0 rfl) ?_
                    refine z_bipush hx hb dX3_cut_169 (by decide) ?_
                    refine zm_cpB hx hb (hml.trans hl.1.symm) hown hts hK hP hS (v := v) (by omega) (hD (3 + (v).toNat) (by omega)) (hN0.kept (hS.2.1 sa hN0.lt hnD)) (sp := 0) (dp := (10) * ((A 0 (v)) + (q))) (n := 7) (by omega) (by omega) (by omega) (by omega) (by omega) (by decide) (Nat.le_of_ble_eq_true rfl) (Nat.le_of_ble_eq_true rfl) dX3_cut_171 (fun H locs hP hz hS => ?_)
                    refine lv_iload hx hb dX3_cut_174 (lv_at hl 6 rfl) ?_
                    refine z_bif_ne (q := (en - 1) / b = fr / b) (tgt := 213) hx hb dX3_cut_176 (by decide) (fun h_176 => ?_) (fun h_176 => ?_)
                    · skip
                      refine lv_iload hx hb dX3_cut_213 (lv_at hl 1 rfl) ?_
                      refine lv_iload hx hb dX3_cut_215 (lv_at hl 7 rfl) ?_
                      refine z_icmp_ge (a := ctA b en fr (q + 1)) (b := en) (tgt := 235) hx hb dX3_cut_217 (by decide) (by omega) (by omega) (fun h_217 => ?_) (fun h_217 => ?_)
                      · skip
                        refine z_iinc (lv' := [(8, .int (zI (q + 1))), (12, .int (zI ((10) * ((A 0 (v)) + (q))))), (7, .int (zI (ctA b en fr (q + 1)))), (11, .int (zI (ctL b en fr a))), (10, .int (zI ((min en ((((a) / (b)) + (1)) * (b))) - (a)))), (9, .int (zI (k))), (6, .int (zI (bI ((en - 1) / b = fr / b)))), (5, .int (zI (en))), (0, .ref (ad 0)), (1, .int (zI (v))), (2, .int (zI (fr))), (3, .ref (sa)), (4, .int (zI (L)))]) hx hb dX3_cut_235 hl (k := 5) rfl (by decide) rfl (fun ls hl => ?_)
                        refine lv_goto (tgt := 44) hx hb dX3_cut_238 (by decide) ?_
                        have hZ : (L = 0 ∧ (zBw B1 (v) (zcp (sd) (B1 (v)) (0) ((10) * ((A 0 (v)) + (q))) (7))) = B ∨ L = 1 ∧ (∀ u e w, 0 ≤ w → w < 10 → (zBw B1 (v) (zcp (sd) (B1 (v)) (0) ((10) * ((A 0 (v)) + (q))) (7))) u (10 * e + w) = if u = v ∧ A 0 v ≤ e ∧ e < A 0 v + (q + 1) ∧ w < 7 then elC b en fr sd (e - A 0 v) w else B u (10 * e + w))) := by
                          first
                          | exact Or.inl ⟨by omega, (hst.resolve_right (fun z => absurd z.1 (by omega))).2⟩
                          | (refine Or.inr ⟨by omega, fun u e w w0 w1 => ?_⟩
                             have hB1 := (hst.resolve_left (fun z => absurd z.1 (by omega))).2 u e w w0 w1
                             (repeat rw [zB_at (by omega) (by omega)])
                             rw [zcpB_at ⟨w0, w1⟩, hB1]
                             by_cases he : u = v ∧ e = A 0 v + q ∧ w < 7
                             · rw [if_pos (show u = v ∧ A 0 v ≤ e ∧ e < A 0 v + (q + 1) ∧ w < 7 by omega), show e - A 0 v = q by omega]
                               unfold elC
                               rw [hsA, ← haq, hkk]
                               (repeat' split) <;> first | rfl | (exfalso; omega)
                             · (repeat rw [if_neg (show ¬ (u = v ∧ e = A 0 v + q ∧ _) by omega)])
                               exact zite (by omega))
                        exact ih (q + 1) (ctA b en fr (q + 1)) ((zBw B1 (v) (zcp (sd) (B1 (v)) (0) ((10) * ((A 0 (v)) + (q))) (7)))) (by omega) rfl hat (fun z z9 => by first | exact absurd z h_106 | omega) hfp1 hZ (by omega) H _ hP hS _ (lv_sub hl [0, 2, 6, 7, 8, 9, 10, 11, 12] rfl)
                      · skip
                        refine lv_aload_n hx hb dX3_cut_220 rfl (lv_at hl 8 rfl) ?_
                        refine zm_get hx hb hK hts hown hP 6 (by decide) q_fl_RX3_22 (v := .ref (ad 2)) rfl dX3_cut_221 ?_
                        refine lv_iload_n hx hb dX3_cut_224 rfl (lv_at hl 9 rfl) ?_
                        refine zm_aB hx hb hK hP (i := v) (by omega) dX3_cut_225 ?_
                        refine lv_iload hx hb dX3_cut_226 (lv_at hl 0 rfl) ?_
                        refine z_bipush hx hb dX3_cut_228 (by decide) ?_
                        refine z_iadd (x := (10) * ((A 0 (v)) + (q))) (y := 6) hx hb dX3_cut_230 ?_
                        refine lv_aload_n hx hb dX3_cut_231 rfl (lv_at hl 11 rfl) ?_
                        refine z_iconst hx hb dX3_cut_232 ?_
                        refine z_ald (n := 7) hx hb hK (hN0.kept (hS.2.1 sa hN0.lt hnD)) (i := 2) (by decide) (by decide) dX3_cut_233 ?_
                        refine zm_sB (x := sd 2) hx hb hK hP hS (v := v) (by omega) (hD (3 + (v).toNat) (by omega)) (i := ((10) * ((A 0 (v)) + (q))) + (6)) (by omega) dX3_cut_234 (fun H locs hP hz ho hS => ?_)
                        refine z_iinc (lv' := [(8, .int (zI (q + 1))), (12, .int (zI ((10) * ((A 0 (v)) + (q))))), (7, .int (zI (ctA b en fr (q + 1)))), (11, .int (zI (ctL b en fr a))), (10, .int (zI ((min en ((((a) / (b)) + (1)) * (b))) - (a)))), (9, .int (zI (k))), (6, .int (zI (bI ((en - 1) / b = fr / b)))), (5, .int (zI (en))), (0, .ref (ad 0)), (1, .int (zI (v))), (2, .int (zI (fr))), (3, .ref (sa)), (4, .int (zI (L)))]) hx hb dX3_cut_235 hl (k := 5) rfl (by decide) rfl (fun ls hl => ?_)
                        refine lv_goto (tgt := 44) hx hb dX3_cut_238 (by decide) ?_
                        have hZ : (L = 0 ∧ (zB (zBw B1 (v) (zcp (sd) (B1 (v)) (0) ((10) * ((A 0 (v)) + (q))) (7))) (v) (((10) * ((A 0 (v)) + (q))) + (6)) (sd 2)) = B ∨ L = 1 ∧ (∀ u e w, 0 ≤ w → w < 10 → (zB (zBw B1 (v) (zcp (sd) (B1 (v)) (0) ((10) * ((A 0 (v)) + (q))) (7))) (v) (((10) * ((A 0 (v)) + (q))) + (6)) (sd 2)) u (10 * e + w) = if u = v ∧ A 0 v ≤ e ∧ e < A 0 v + (q + 1) ∧ w < 7 then elC b en fr sd (e - A 0 v) w else B u (10 * e + w))) := by
                          first
                          | exact Or.inl ⟨by omega, (hst.resolve_right (fun z => absurd z.1 (by omega))).2⟩
                          | (refine Or.inr ⟨by omega, fun u e w w0 w1 => ?_⟩
                             have hB1 := (hst.resolve_left (fun z => absurd z.1 (by omega))).2 u e w w0 w1
                             (repeat rw [zB_at (by omega) (by omega)])
                             rw [zcpB_at ⟨w0, w1⟩, hB1]
                             by_cases he : u = v ∧ e = A 0 v + q ∧ w < 7
                             · rw [if_pos (show u = v ∧ A 0 v ≤ e ∧ e < A 0 v + (q + 1) ∧ w < 7 by omega), show e - A 0 v = q by omega]
                               unfold elC
                               rw [hsA, ← haq, hkk]
                               (repeat' split) <;> first | rfl | (exfalso; omega)
                             · (repeat rw [if_neg (show ¬ (u = v ∧ e = A 0 v + q ∧ _) by omega)])
                               exact zite (by omega))
                        exact ih (q + 1) (ctA b en fr (q + 1)) ((zB (zBw B1 (v) (zcp (sd) (B1 (v)) (0) ((10) * ((A 0 (v)) + (q))) (7))) (v) (((10) * ((A 0 (v)) + (q))) + (6)) (sd 2))) (by omega) rfl hat (fun z z9 => by first | exact absurd z h_106 | omega) hfp1 hZ (by omega) H _ hP hS _ (lv_sub hl [0, 2, 6, 7, 8, 9, 10, 11, 12] rfl)
                    · skip
                      refine lv_aload_n hx hb dX3_cut_179 rfl (lv_at hl 8 rfl) ?_
                      refine zm_get hx hb hK hts hown hP 6 (by decide) q_fl_RX3_22 (v := .ref (ad 2)) rfl dX3_cut_180 ?_
                      refine lv_iload_n hx hb dX3_cut_183 rfl (lv_at hl 9 rfl) ?_
                      refine zm_aB hx hb hK hP (i := v) (by omega) dX3_cut_184 ?_
                      refine lv_iload hx hb dX3_cut_185 (lv_at hl 0 rfl) ?_
                      refine z_iconst hx hb dX3_cut_187 ?_
                      refine z_iadd (x := (10) * ((A 0 (v)) + (q))) (y := 0) hx hb dX3_cut_188 ?_
                      refine z_gets hx hb hG hts hS hA (own := RX3) (C := "ScorePressModel") (n := "PARTS") (vs := [1, 1, 1, 2, 2, 2, 4, 4, 4, 8, 8, 8, 16, 16, 32]) (index := 51) (by decide) hown q_fl_RX3_51 dX3_cut_189 (fun t_13 ht_13 => ?_)
                      refine lv_iload hx hb dX3_cut_192 (lv_at hl 4 rfl) ?_
                      refine z_tld (vs := [1, 1, 1, 2, 2, 2, 4, 4, 4, 8, 8, 8, 16, 16, 32]) hx hb ht_13 hS (i := k) (by have h9 : ([1, 1, 1, 2, 2, 2, 4, 4, 4, 8, 8, 8, 16, 16, 32] : List Int).length = 15 := rfl; omega) (by decide) dX3_cut_194 ?_
                      refine zm_sB (x := valP k) hx hb hK hP hS (v := v) (by omega) (hD (3 + (v).toNat) (by omega)) (i := ((10) * ((A 0 (v)) + (q))) + (0)) (by omega) dX3_cut_195 (fun H locs hP hz ho hS => ?_)
                      refine lv_aload_n hx hb dX3_cut_196 rfl (lv_at hl 8 rfl) ?_
                      refine zm_get hx hb hK hts hown hP 6 (by decide) q_fl_RX3_22 (v := .ref (ad 2)) rfl dX3_cut_197 ?_
                      refine lv_iload_n hx hb dX3_cut_200 rfl (lv_at hl 9 rfl) ?_
                      refine zm_aB hx hb hK hP (i := v) (by omega) dX3_cut_201 ?_
                      refine lv_iload hx hb dX3_cut_202 (lv_at hl 0 rfl) ?_
                      refine z_iconst hx hb dX3_cut_204 ?_
                      refine z_iadd (x := (10) * ((A 0 (v)) + (q))) (y := 1) hx hb dX3_cut_205 ?_
                      refine z_gets hx hb hG hts hS hA (own := RX3) (C := "ScorePressModel") (n := "DOTS") (vs := [2, 1, 0, 2, 1, 0, 2, 1, 0, 2, 1, 0, 1, 0, 0]) (index := 54) (by decide) hown q_fl_RX3_54 dX3_cut_206 (fun t_14 ht_14 => ?_)
                      refine lv_iload hx hb dX3_cut_209 (lv_at hl 4 rfl) ?_
                      refine z_tld (vs := [2, 1, 0, 2, 1, 0, 2, 1, 0, 2, 1, 0, 1, 0, 0]) hx hb ht_14 hS (i := k) (by have h9 : ([2, 1, 0, 2, 1, 0, 2, 1, 0, 2, 1, 0, 1, 0, 0] : List Int).length = 15 := rfl; omega) (by decide) dX3_cut_211 ?_
                      refine zm_sB (x := valD k) hx hb hK hP hS (v := v) (by omega) (hD (3 + (v).toNat) (by omega)) (i := ((10) * ((A 0 (v)) + (q))) + (1)) (by omega) dX3_cut_212 (fun H locs hP hz ho hS => ?_)
                      refine lv_iload hx hb dX3_cut_213 (lv_at hl 1 rfl) ?_
                      refine lv_iload hx hb dX3_cut_215 (lv_at hl 7 rfl) ?_
                      refine z_icmp_ge (a := ctA b en fr (q + 1)) (b := en) (tgt := 235) hx hb dX3_cut_217 (by decide) (by omega) (by omega) (fun h_217 => ?_) (fun h_217 => ?_)
                      · skip
                        refine z_iinc (lv' := [(8, .int (zI (q + 1))), (12, .int (zI ((10) * ((A 0 (v)) + (q))))), (7, .int (zI (ctA b en fr (q + 1)))), (11, .int (zI (ctL b en fr a))), (10, .int (zI ((min en ((((a) / (b)) + (1)) * (b))) - (a)))), (9, .int (zI (k))), (6, .int (zI (bI ((en - 1) / b = fr / b)))), (5, .int (zI (en))), (0, .ref (ad 0)), (1, .int (zI (v))), (2, .int (zI (fr))), (3, .ref (sa)), (4, .int (zI (L)))]) hx hb dX3_cut_235 hl (k := 5) rfl (by decide) rfl (fun ls hl => ?_)
                        refine lv_goto (tgt := 44) hx hb dX3_cut_238 (by decide) ?_
                        have hZ : (L = 0 ∧ (zB (zB (zBw B1 (v) (zcp (sd) (B1 (v)) (0) ((10) * ((A 0 (v)) + (q))) (7))) (v) (((10) * ((A 0 (v)) + (q))) + (0)) (valP k)) (v) (((10) * ((A 0 (v)) + (q))) + (1)) (valD k)) = B ∨ L = 1 ∧ (∀ u e w, 0 ≤ w → w < 10 → (zB (zB (zBw B1 (v) (zcp (sd) (B1 (v)) (0) ((10) * ((A 0 (v)) + (q))) (7))) (v) (((10) * ((A 0 (v)) + (q))) + (0)) (valP k)) (v) (((10) * ((A 0 (v)) + (q))) + (1)) (valD k)) u (10 * e + w) = if u = v ∧ A 0 v ≤ e ∧ e < A 0 v + (q + 1) ∧ w < 7 then elC b en fr sd (e - A 0 v) w else B u (10 * e + w))) := by
                          first
                          | exact Or.inl ⟨by omega, (hst.resolve_right (fun z => absurd z.1 (by omega))).2⟩
                          | (refine Or.inr ⟨by omega, fun u e w w0 w1 => ?_⟩
                             have hB1 := (hst.resolve_left (fun z => absurd z.1 (by omega))).2 u e w w0 w1
                             (repeat rw [zB_at (by omega) (by omega)])
                             rw [zcpB_at ⟨w0, w1⟩, hB1]
                             by_cases he : u = v ∧ e = A 0 v + q ∧ w < 7
                             · rw [if_pos (show u = v ∧ A 0 v ≤ e ∧ e < A 0 v + (q + 1) ∧ w < 7 by omega), show e - A 0 v = q by omega]
                               unfold elC
                               rw [hsA, ← haq, hkk]
                               (repeat' split) <;> first | rfl | (exfalso; omega)
                             · (repeat rw [if_neg (show ¬ (u = v ∧ e = A 0 v + q ∧ _) by omega)])
                               exact zite (by omega))
                        exact ih (q + 1) (ctA b en fr (q + 1)) ((zB (zB (zBw B1 (v) (zcp (sd) (B1 (v)) (0) ((10) * ((A 0 (v)) + (q))) (7))) (v) (((10) * ((A 0 (v)) + (q))) + (0)) (valP k)) (v) (((10) * ((A 0 (v)) + (q))) + (1)) (valD k))) (by omega) rfl hat (fun z z9 => by first | exact absurd z h_106 | omega) hfp1 hZ (by omega) H _ hP hS _ (lv_sub hl [0, 2, 6, 7, 8, 9, 10, 11, 12] rfl)
                      · skip
                        refine lv_aload_n hx hb dX3_cut_220 rfl (lv_at hl 8 rfl) ?_
                        refine zm_get hx hb hK hts hown hP 6 (by decide) q_fl_RX3_22 (v := .ref (ad 2)) rfl dX3_cut_221 ?_
                        refine lv_iload_n hx hb dX3_cut_224 rfl (lv_at hl 9 rfl) ?_
                        refine zm_aB hx hb hK hP (i := v) (by omega) dX3_cut_225 ?_
                        refine lv_iload hx hb dX3_cut_226 (lv_at hl 0 rfl) ?_
                        refine z_bipush hx hb dX3_cut_228 (by decide) ?_
                        refine z_iadd (x := (10) * ((A 0 (v)) + (q))) (y := 6) hx hb dX3_cut_230 ?_
                        refine lv_aload_n hx hb dX3_cut_231 rfl (lv_at hl 11 rfl) ?_
                        refine z_iconst hx hb dX3_cut_232 ?_
                        refine z_ald (n := 7) hx hb hK (hN0.kept (hS.2.1 sa hN0.lt hnD)) (i := 2) (by decide) (by decide) dX3_cut_233 ?_
                        refine zm_sB (x := sd 2) hx hb hK hP hS (v := v) (by omega) (hD (3 + (v).toNat) (by omega)) (i := ((10) * ((A 0 (v)) + (q))) + (6)) (by omega) dX3_cut_234 (fun H locs hP hz ho hS => ?_)
                        refine z_iinc (lv' := [(8, .int (zI (q + 1))), (12, .int (zI ((10) * ((A 0 (v)) + (q))))), (7, .int (zI (ctA b en fr (q + 1)))), (11, .int (zI (ctL b en fr a))), (10, .int (zI ((min en ((((a) / (b)) + (1)) * (b))) - (a)))), (9, .int (zI (k))), (6, .int (zI (bI ((en - 1) / b = fr / b)))), (5, .int (zI (en))), (0, .ref (ad 0)), (1, .int (zI (v))), (2, .int (zI (fr))), (3, .ref (sa)), (4, .int (zI (L)))]) hx hb dX3_cut_235 hl (k := 5) rfl (by decide) rfl (fun ls hl => ?_)
                        refine lv_goto (tgt := 44) hx hb dX3_cut_238 (by decide) ?_
                        have hZ : (L = 0 ∧ (zB (zB (zB (zBw B1 (v) (zcp (sd) (B1 (v)) (0) ((10) * ((A 0 (v)) + (q))) (7))) (v) (((10) * ((A 0 (v)) + (q))) + (0)) (valP k)) (v) (((10) * ((A 0 (v)) + (q))) + (1)) (valD k)) (v) (((10) * ((A 0 (v)) + (q))) + (6)) (sd 2)) = B ∨ L = 1 ∧ (∀ u e w, 0 ≤ w → w < 10 → (zB (zB (zB (zBw B1 (v) (zcp (sd) (B1 (v)) (0) ((10) * ((A 0 (v)) + (q))) (7))) (v) (((10) * ((A 0 (v)) + (q))) + (0)) (valP k)) (v) (((10) * ((A 0 (v)) + (q))) + (1)) (valD k)) (v) (((10) * ((A 0 (v)) + (q))) + (6)) (sd 2)) u (10 * e + w) = if u = v ∧ A 0 v ≤ e ∧ e < A 0 v + (q + 1) ∧ w < 7 then elC b en fr sd (e - A 0 v) w else B u (10 * e + w))) := by
                          first
                          | exact Or.inl ⟨by omega, (hst.resolve_right (fun z => absurd z.1 (by omega))).2⟩
                          | (refine Or.inr ⟨by omega, fun u e w w0 w1 => ?_⟩
                             have hB1 := (hst.resolve_left (fun z => absurd z.1 (by omega))).2 u e w w0 w1
                             (repeat rw [zB_at (by omega) (by omega)])
                             rw [zcpB_at ⟨w0, w1⟩, hB1]
                             by_cases he : u = v ∧ e = A 0 v + q ∧ w < 7
                             · rw [if_pos (show u = v ∧ A 0 v ≤ e ∧ e < A 0 v + (q + 1) ∧ w < 7 by omega), show e - A 0 v = q by omega]
                               unfold elC
                               rw [hsA, ← haq, hkk]
                               (repeat' split) <;> first | rfl | (exfalso; omega)
                             · (repeat rw [if_neg (show ¬ (u = v ∧ e = A 0 v + q ∧ _) by omega)])
                               exact zite (by omega))
                        exact ih (q + 1) (ctA b en fr (q + 1)) ((zB (zB (zB (zBw B1 (v) (zcp (sd) (B1 (v)) (0) ((10) * ((A 0 (v)) + (q))) (7))) (v) (((10) * ((A 0 (v)) + (q))) + (0)) (valP k)) (v) (((10) * ((A 0 (v)) + (q))) + (1)) (valD k)) (v) (((10) * ((A 0 (v)) + (q))) + (6)) (sd 2))) (by omega) rfl hat (fun z z9 => by first | exact absurd z h_106 | omega) hfp1 hZ (by omega) H _ hP hS _ (lv_sub hl [0, 2, 6, 7, 8, 9, 10, 11, 12] rfl)
                · skip
                  refine lv_iload hx hb dX3_cut_109 (lv_at hl 5 rfl) ?_
                  refine lv_iload_n hx hb dX3_cut_111 rfl (lv_at hl 8 rfl) ?_
                  refine z_isub (x := en) (y := fr) hx hb dX3_cut_112 ?_
                  have hfa := hone h_106 (by omega)
                  have hcl : ctL b en fr a = en - fr := if_pos h_106
                  rw [← hcl]
                  refine lv_goto (tgt := 131) hx hb dX3_cut_113 (by decide) ?_
                  refine lv_istore (lv' := [(11, .int (zI (ctL b en fr a))), (10, .int (zI ((min en ((((a) / (b)) + (1)) * (b))) - (a)))), (9, .int (zI (k))), (8, .int (zI (q))), (7, .int (zI (a))), (6, .int (zI (bI ((en - 1) / b = fr / b)))), (5, .int (zI (en))), (0, .ref (ad 0)), (1, .int (zI (v))), (2, .int (zI (fr))), (3, .ref (sa)), (4, .int (zI (L)))]) hx hb dX3_cut_131 hl (by decide) rfl (fun ls hl => ?_)
                  refine lv_iload hx hb dX3_cut_133 (lv_at hl 4 rfl) ?_
                  refine lv_iload hx hb dX3_cut_135 (lv_at hl 0 rfl) ?_
                  refine z_iadd (x := a) (y := ctL b en fr a) hx hb dX3_cut_137 ?_
                  rw [← haq] at hsA
                  rw [← hsA]
                  have hat : fr ≤ ctA b en fr (q + 1) ∧ ctA b en fr (q + 1) ≤ en ∧ ctA b en fr (q + 1) % 12 = 0 ∧ 12 * (q + 1) ≤ ctA b en fr (q + 1) - fr := by rw [hsA, hcl]; omega
                  refine lv_istore (lv' := [(7, .int (zI (ctA b en fr (q + 1)))), (11, .int (zI (ctL b en fr a))), (10, .int (zI ((min en ((((a) / (b)) + (1)) * (b))) - (a)))), (9, .int (zI (k))), (8, .int (zI (q))), (6, .int (zI (bI ((en - 1) / b = fr / b)))), (5, .int (zI (en))), (0, .ref (ad 0)), (1, .int (zI (v))), (2, .int (zI (fr))), (3, .ref (sa)), (4, .int (zI (L)))]) hx hb dX3_cut_138 hl (by decide) rfl (fun ls hl => ?_)
                  refine lv_iload hx hb dX3_cut_140 (lv_at hl 11 rfl) ?_
                  refine z_if_eq (a := L) (tgt := 235) hx hb dX3_cut_142 (by decide) (by omega) (fun h_142 => ?_) (fun h_142 => ?_)
                  · skip
                    refine z_iinc (lv' := [(8, .int (zI (q + 1))), (7, .int (zI (ctA b en fr (q + 1)))), (11, .int (zI (ctL b en fr a))), (10, .int (zI ((min en ((((a) / (b)) + (1)) * (b))) - (a)))), (9, .int (zI (k))), (6, .int (zI (bI ((en - 1) / b = fr / b)))), (5, .int (zI (en))), (0, .ref (ad 0)), (1, .int (zI (v))), (2, .int (zI (fr))), (3, .ref (sa)), (4, .int (zI (L)))]) hx hb dX3_cut_235 hl (k := 4) rfl (by decide) rfl (fun ls hl => ?_)
                    refine lv_goto (tgt := 44) hx hb dX3_cut_238 (by decide) ?_
                    have hZ : (L = 0 ∧ B1 = B ∨ L = 1 ∧ (∀ u e w, 0 ≤ w → w < 10 → B1 u (10 * e + w) = if u = v ∧ A 0 v ≤ e ∧ e < A 0 v + (q + 1) ∧ w < 7 then elC b en fr sd (e - A 0 v) w else B u (10 * e + w))) := by
                      first
                      | exact Or.inl ⟨by omega, (hst.resolve_right (fun z => absurd z.1 (by omega))).2⟩
                      | (refine Or.inr ⟨by omega, fun u e w w0 w1 => ?_⟩
                         have hB1 := (hst.resolve_left (fun z => absurd z.1 (by omega))).2 u e w w0 w1
                         (repeat rw [zB_at (by omega) (by omega)])
                         rw [zcpB_at ⟨w0, w1⟩, hB1]
                         by_cases he : u = v ∧ e = A 0 v + q ∧ w < 7
                         · rw [if_pos (show u = v ∧ A 0 v ≤ e ∧ e < A 0 v + (q + 1) ∧ w < 7 by omega), show e - A 0 v = q by omega]
                           unfold elC
                           rw [hsA, ← haq, hkk]
                           (repeat' split) <;> first | rfl | (exfalso; omega)
                         · (repeat rw [if_neg (show ¬ (u = v ∧ e = A 0 v + q ∧ _) by omega)])
                           exact zite (by omega))
                    exact ih (q + 1) (ctA b en fr (q + 1)) (B1) (by omega) rfl hat (fun z z9 => by first | exact absurd z h_106 | omega) hfp1 hZ (by omega) H _ hP hS _ (lv_sub hl [0, 1, 5, 6, 7, 8, 9, 10, 11] rfl)
                  · skip
                    have hl1 := hVl (by omega)
                    refine z_bipush hx hb dX3_cut_145 (by decide) ?_
                    refine lv_aload_n hx hb dX3_cut_147 rfl (lv_at hl 7 rfl) ?_
                    refine zm_get hx hb hK hts hown hP 5 (by decide) q_fl_RX3_16 (v := .ref (ad 1)) rfl dX3_cut_148 ?_
                    refine lv_iload_n hx hb dX3_cut_151 rfl (lv_at hl 8 rfl) ?_
                    refine zm_lA0 hx hb hK hP (i := v) (by omega) dX3_cut_152 ?_
                    refine lv_iload hx hb dX3_cut_153 (lv_at hl 4 rfl) ?_
                    refine z_iadd (x := A 0 (v)) (y := q) hx hb dX3_cut_155 ?_
                    refine z_imul (x := 10) (y := (A 0 (v)) + (q)) hx hb dX3_cut_156 ?_
                    refine lv_istore (lv' := [(12, .int (zI ((10) * ((A 0 (v)) + (q))))), (7, .int (zI (ctA b en fr (q + 1)))), (11, .int (zI (ctL b en fr a))), (10, .int (zI ((min en ((((a) / (b)) + (1)) * (b))) - (a)))), (9, .int (zI (k))), (8, .int (zI (q))), (6, .int (zI (bI ((en - 1) / b = fr / b)))), (5, .int (zI (en))), (0, .ref (ad 0)), (1, .int (zI (v))), (2, .int (zI (fr))), (3, .ref (sa)), (4, .int (zI (L)))]) hx hb dX3_cut_157 hl (by decide) rfl (fun ls hl => ?_)
                    refine lv_aload_n hx hb dX3_cut_159 rfl (lv_at hl 11 rfl) ?_
                    refine z_iconst hx hb dX3_cut_160 ?_
                    refine lv_aload_n hx hb dX3_cut_161 rfl (lv_at hl 8 rfl) ?_
                    refine zm_get hx hb hK hts hown hP 6 (by decide) q_fl_RX3_22 (v := .ref (ad 2)) rfl dX3_cut_162 ?_
                    refine lv_iload_n hx hb dX3_cut_165 rfl (lv_at hl 9 rfl) ?_
                    refine zm_aB hx hb hK hP (i := v) (by omega) dX3_cut_166 ?_
                    refine lv_iload hx hb dX3_cut_167 (lv_at hl 0 rfl) ?_
                    refine z_bipush hx hb dX3_cut_169 (by decide) ?_
                    refine zm_cpB hx hb (hml.trans hl.1.symm) hown hts hK hP hS (v := v) (by omega) (hD (3 + (v).toNat) (by omega)) (hN0.kept (hS.2.1 sa hN0.lt hnD)) (sp := 0) (dp := (10) * ((A 0 (v)) + (q))) (n := 7) (by omega) (by omega) (by omega) (by omega) (by omega) (by decide) (Nat.le_of_ble_eq_true rfl) (Nat.le_of_ble_eq_true rfl) dX3_cut_171 (fun H locs hP hz hS => ?_)
                    refine lv_iload hx hb dX3_cut_174 (lv_at hl 6 rfl) ?_
                    refine z_bif_ne (q := (en - 1) / b = fr / b) (tgt := 213) hx hb dX3_cut_176 (by decide) (fun h_176 => ?_) (fun h_176 => ?_)
                    · skip
                      refine lv_iload hx hb dX3_cut_213 (lv_at hl 1 rfl) ?_
                      refine lv_iload hx hb dX3_cut_215 (lv_at hl 7 rfl) ?_
                      refine z_icmp_ge (a := ctA b en fr (q + 1)) (b := en) (tgt := 235) hx hb dX3_cut_217 (by decide) (by omega) (by omega) (fun h_217 => ?_) (fun h_217 => ?_)
                      · skip
                        refine z_iinc (lv' := [(8, .int (zI (q + 1))), (12, .int (zI ((10) * ((A 0 (v)) + (q))))), (7, .int (zI (ctA b en fr (q + 1)))), (11, .int (zI (ctL b en fr a))), (10, .int (zI ((min en ((((a) / (b)) + (1)) * (b))) - (a)))), (9, .int (zI (k))), (6, .int (zI (bI ((en - 1) / b = fr / b)))), (5, .int (zI (en))), (0, .ref (ad 0)), (1, .int (zI (v))), (2, .int (zI (fr))), (3, .ref (sa)), (4, .int (zI (L)))]) hx hb dX3_cut_235 hl (k := 5) rfl (by decide) rfl (fun ls hl => ?_)
                        refine lv_goto (tgt := 44) hx hb dX3_cut_238 (by decide) ?_
                        have hZ : (L = 0 ∧ (zBw B1 (v) (zcp (sd) (B1 (v)) (0) ((10) * ((A 0 (v)) + (q))) (7))) = B ∨ L = 1 ∧ (∀ u e w, 0 ≤ w → w < 10 → (zBw B1 (v) (zcp (sd) (B1 (v)) (0) ((10) * ((A 0 (v)) + (q))) (7))) u (10 * e + w) = if u = v ∧ A 0 v ≤ e ∧ e < A 0 v + (q + 1) ∧ w < 7 then elC b en fr sd (e - A 0 v) w else B u (10 * e + w))) := by
                          first
                          | exact Or.inl ⟨by omega, (hst.resolve_right (fun z => absurd z.1 (by omega))).2⟩
                          | (refine Or.inr ⟨by omega, fun u e w w0 w1 => ?_⟩
                             have hB1 := (hst.resolve_left (fun z => absurd z.1 (by omega))).2 u e w w0 w1
                             (repeat rw [zB_at (by omega) (by omega)])
                             rw [zcpB_at ⟨w0, w1⟩, hB1]
                             by_cases he : u = v ∧ e = A 0 v + q ∧ w < 7
                             · rw [if_pos (show u = v ∧ A 0 v ≤ e ∧ e < A 0 v + (q + 1) ∧ w < 7 by omega), show e - A 0 v = q by omega]
                               unfold elC
                               rw [hsA, ← haq, hkk]
                               (repeat' split) <;> first | rfl | (exfalso; omega)
                             · (repeat rw [if_neg (show ¬ (u = v ∧ e = A 0 v + q ∧ _) by omega)])
                               exact zite (by omega))
                        exact ih (q + 1) (ctA b en fr (q + 1)) ((zBw B1 (v) (zcp (sd) (B1 (v)) (0) ((10) * ((A 0 (v)) + (q))) (7)))) (by omega) rfl hat (fun z z9 => by first | exact absurd z h_106 | omega) hfp1 hZ (by omega) H _ hP hS _ (lv_sub hl [0, 2, 6, 7, 8, 9, 10, 11, 12] rfl)
                      · skip
                        refine lv_aload_n hx hb dX3_cut_220 rfl (lv_at hl 8 rfl) ?_
                        refine zm_get hx hb hK hts hown hP 6 (by decide) q_fl_RX3_22 (v := .ref (ad 2)) rfl dX3_cut_221 ?_
                        refine lv_iload_n hx hb dX3_cut_224 rfl (lv_at hl 9 rfl) ?_
                        refine zm_aB hx hb hK hP (i := v) (by omega) dX3_cut_225 ?_
                        refine lv_iload hx hb dX3_cut_226 (lv_at hl 0 rfl) ?_
                        refine z_bipush hx hb dX3_cut_228 (by decide) ?_
                        refine z_iadd (x := (10) * ((A 0 (v)) + (q))) (y := 6) hx hb dX3_cut_230 ?_
                        refine lv_aload_n hx hb dX3_cut_231 rfl (lv_at hl 11 rfl) ?_
                        refine z_iconst hx hb dX3_cut_232 ?_
                        refine z_ald (n := 7) hx hb hK (hN0.kept (hS.2.1 sa hN0.lt hnD)) (i := 2) (by decide) (by decide) dX3_cut_233 ?_
                        refine zm_sB (x := sd 2) hx hb hK hP hS (v := v) (by omega) (hD (3 + (v).toNat) (by omega)) (i := ((10) * ((A 0 (v)) + (q))) + (6)) (by omega) dX3_cut_234 (fun H locs hP hz ho hS => ?_)
                        refine z_iinc (lv' := [(8, .int (zI (q + 1))), (12, .int (zI ((10) * ((A 0 (v)) + (q))))), (7, .int (zI (ctA b en fr (q + 1)))), (11, .int (zI (ctL b en fr a))), (10, .int (zI ((min en ((((a) / (b)) + (1)) * (b))) - (a)))), (9, .int (zI (k))), (6, .int (zI (bI ((en - 1) / b = fr / b)))), (5, .int (zI (en))), (0, .ref (ad 0)), (1, .int (zI (v))), (2, .int (zI (fr))), (3, .ref (sa)), (4, .int (zI (L)))]) hx hb dX3_cut_235 hl (k := 5) rfl (by decide) rfl (fun ls hl => ?_)
                        refine lv_goto (tgt := 44) hx hb dX3_cut_238 (by decide) ?_
                        have hZ : (L = 0 ∧ (zB (zBw B1 (v) (zcp (sd) (B1 (v)) (0) ((10) * ((A 0 (v)) + (q))) (7))) (v) (((10) * ((A 0 (v)) + (q))) + (6)) (sd 2)) = B ∨ L = 1 ∧ (∀ u e w, 0 ≤ w → w < 10 → (zB (zBw B1 (v) (zcp (sd) (B1 (v)) (0) ((10) * ((A 0 (v)) + (q))) (7))) (v) (((10) * ((A 0 (v)) + (q))) + (6)) (sd 2)) u (10 * e + w) = if u = v ∧ A 0 v ≤ e ∧ e < A 0 v + (q + 1) ∧ w < 7 then elC b en fr sd (e - A 0 v) w else B u (10 * e + w))) := by
                          first
                          | exact Or.inl ⟨by omega, (hst.resolve_right (fun z => absurd z.1 (by omega))).2⟩
                          | (refine Or.inr ⟨by omega, fun u e w w0 w1 => ?_⟩
                             have hB1 := (hst.resolve_left (fun z => absurd z.1 (by omega))).2 u e w w0 w1
                             (repeat rw [zB_at (by omega) (by omega)])
                             rw [zcpB_at ⟨w0, w1⟩, hB1]
                             by_cases he : u = v ∧ e = A 0 v + q ∧ w < 7
                             · rw [if_pos (show u = v ∧ A 0 v ≤ e ∧ e < A 0 v + (q + 1) ∧ w < 7 by omega), show e - A 0 v = q by omega]
                               unfold elC
                               rw [hsA, ← haq, hkk]
                               (repeat' split) <;> first | rfl | (exfalso; omega)
                             · (repeat rw [if_neg (show ¬ (u = v ∧ e = A 0 v + q ∧ _) by omega)])
                               exact zite (by omega))
                        exact ih (q + 1) (ctA b en fr (q + 1)) ((zB (zBw B1 (v) (zcp (sd) (B1 (v)) (0) ((10) * ((A 0 (v)) + (q))) (7))) (v) (((10) * ((A 0 (v)) + (q))) + (6)) (sd 2))) (by omega) rfl hat (fun z z9 => by first | exact absurd z h_106 | omega) hfp1 hZ (by omega) H _ hP hS _ (lv_sub hl [0, 2, 6, 7, 8, 9, 10, 11, 12] rfl)
                    · skip
                      refine lv_aload_n hx hb dX3_cut_179 rfl (lv_at hl 8 rfl) ?_
                      refine zm_get hx hb hK hts hown hP 6 (by decide) q_fl_RX3_22 (v := .ref (ad 2)) rfl dX3_cut_180 ?_
                      refine lv_iload_n hx hb dX3_cut_183 rfl (lv_at hl 9 rfl) ?_
                      refine zm_aB hx hb hK hP (i := v) (by omega) dX3_cut_184 ?_
                      refine lv_iload hx hb dX3_cut_185 (lv_at hl 0 rfl) ?_
                      refine z_iconst hx hb dX3_cut_187 ?_
                      refine z_iadd (x := (10) * ((A 0 (v)) + (q))) (y := 0) hx hb dX3_cut_188 ?_
                      refine z_gets hx hb hG hts hS hA (own := RX3) (C := "ScorePressModel") (n := "PARTS") (vs := [1, 1, 1, 2, 2, 2, 4, 4, 4, 8, 8, 8, 16, 16, 32]) (index := 51) (by decide) hown q_fl_RX3_51 dX3_cut_189 (fun t_15 ht_15 => ?_)
                      refine lv_iload hx hb dX3_cut_192 (lv_at hl 4 rfl) ?_
                      refine z_tld (vs := [1, 1, 1, 2, 2, 2, 4, 4, 4, 8, 8, 8, 16, 16, 32]) hx hb ht_15 hS (i := k) (by have h9 : ([1, 1, 1, 2, 2, 2, 4, 4, 4, 8, 8, 8, 16, 16, 32] : List Int).length = 15 := rfl; omega) (by decide) dX3_cut_194 ?_
                      refine zm_sB (x := valP k) hx hb hK hP hS (v := v) (by omega) (hD (3 + (v).toNat) (by omega)) (i := ((10) * ((A 0 (v)) + (q))) + (0)) (by omega) dX3_cut_195 (fun H locs hP hz ho hS => ?_)
                      refine lv_aload_n hx hb dX3_cut_196 rfl (lv_at hl 8 rfl) ?_
                      refine zm_get hx hb hK hts hown hP 6 (by decide) q_fl_RX3_22 (v := .ref (ad 2)) rfl dX3_cut_197 ?_
                      refine lv_iload_n hx hb dX3_cut_200 rfl (lv_at hl 9 rfl) ?_
                      refine zm_aB hx hb hK hP (i := v) (by omega) dX3_cut_201 ?_
                      refine lv_iload hx hb dX3_cut_202 (lv_at hl 0 rfl) ?_
                      refine z_iconst hx hb dX3_cut_204 ?_
                      refine z_iadd (x := (10) * ((A 0 (v)) + (q))) (y := 1) hx hb dX3_cut_205 ?_
                      refine z_gets hx hb hG hts hS hA (own := RX3) (C := "ScorePressModel") (n := "DOTS") (vs := [2, 1, 0, 2, 1, 0, 2, 1, 0, 2, 1, 0, 1, 0, 0]) (index := 54) (by decide) hown q_fl_RX3_54 dX3_cut_206 (fun t_16 ht_16 => ?_)
                      refine lv_iload hx hb dX3_cut_209 (lv_at hl 4 rfl) ?_
                      refine z_tld (vs := [2, 1, 0, 2, 1, 0, 2, 1, 0, 2, 1, 0, 1, 0, 0]) hx hb ht_16 hS (i := k) (by have h9 : ([2, 1, 0, 2, 1, 0, 2, 1, 0, 2, 1, 0, 1, 0, 0] : List Int).length = 15 := rfl; omega) (by decide) dX3_cut_211 ?_
                      refine zm_sB (x := valD k) hx hb hK hP hS (v := v) (by omega) (hD (3 + (v).toNat) (by omega)) (i := ((10) * ((A 0 (v)) + (q))) + (1)) (by omega) dX3_cut_212 (fun H locs hP hz ho hS => ?_)
                      refine lv_iload hx hb dX3_cut_213 (lv_at hl 1 rfl) ?_
                      refine lv_iload hx hb dX3_cut_215 (lv_at hl 7 rfl) ?_
                      refine z_icmp_ge (a := ctA b en fr (q + 1)) (b := en) (tgt := 235) hx hb dX3_cut_217 (by decide) (by omega) (by omega) (fun h_217 => ?_) (fun h_217 => ?_)
                      · skip
                        refine z_iinc (lv' := [(8, .int (zI (q + 1))), (12, .int (zI ((10) * ((A 0 (v)) + (q))))), (7, .int (zI (ctA b en fr (q + 1)))), (11, .int (zI (ctL b en fr a))), (10, .int (zI ((min en ((((a) / (b)) + (1)) * (b))) - (a)))), (9, .int (zI (k))), (6, .int (zI (bI ((en - 1) / b = fr / b)))), (5, .int (zI (en))), (0, .ref (ad 0)), (1, .int (zI (v))), (2, .int (zI (fr))), (3, .ref (sa)), (4, .int (zI (L)))]) hx hb dX3_cut_235 hl (k := 5) rfl (by decide) rfl (fun ls hl => ?_)
                        refine lv_goto (tgt := 44) hx hb dX3_cut_238 (by decide) ?_
                        have hZ : (L = 0 ∧ (zB (zB (zBw B1 (v) (zcp (sd) (B1 (v)) (0) ((10) * ((A 0 (v)) + (q))) (7))) (v) (((10) * ((A 0 (v)) + (q))) + (0)) (valP k)) (v) (((10) * ((A 0 (v)) + (q))) + (1)) (valD k)) = B ∨ L = 1 ∧ (∀ u e w, 0 ≤ w → w < 10 → (zB (zB (zBw B1 (v) (zcp (sd) (B1 (v)) (0) ((10) * ((A 0 (v)) + (q))) (7))) (v) (((10) * ((A 0 (v)) + (q))) + (0)) (valP k)) (v) (((10) * ((A 0 (v)) + (q))) + (1)) (valD k)) u (10 * e + w) = if u = v ∧ A 0 v ≤ e ∧ e < A 0 v + (q + 1) ∧ w < 7 then elC b en fr sd (e - A 0 v) w else B u (10 * e + w))) := by
                          first
                          | exact Or.inl ⟨by omega, (hst.resolve_right (fun z => absurd z.1 (by omega))).2⟩
                          | (refine Or.inr ⟨by omega, fun u e w w0 w1 => ?_⟩
                             have hB1 := (hst.resolve_left (fun z => absurd z.1 (by omega))).2 u e w w0 w1
                             (repeat rw [zB_at (by omega) (by omega)])
                             rw [zcpB_at ⟨w0, w1⟩, hB1]
                             by_cases he : u = v ∧ e = A 0 v + q ∧ w < 7
                             · rw [if_pos (show u = v ∧ A 0 v ≤ e ∧ e < A 0 v + (q + 1) ∧ w < 7 by omega), show e - A 0 v = q by omega]
                               unfold elC
                               rw [hsA, ← haq, hkk]
                               (repeat' split) <;> first | rfl | (exfalso; omega)
                             · (repeat rw [if_neg (show ¬ (u = v ∧ e = A 0 v + q ∧ _) by omega)])
                               exact zite (by omega))
                        exact ih (q + 1) (ctA b en fr (q + 1)) ((zB (zB (zBw B1 (v) (zcp (sd) (B1 (v)) (0) ((10) * ((A 0 (v)) + (q))) (7))) (v) (((10) * ((A 0 (v)) + (q))) + (0)) (valP k)) (v) (((10) * ((A 0 (v)) + (q))) + (1)) (valD k))) (by omega) rfl hat (fun z z9 => by first | exact absurd z h_106 | omega) hfp1 hZ (by omega) H _ hP hS _ (lv_sub hl [0, 2, 6, 7, 8, 9, 10, 11, 12] rfl)
                      · skip
                        refine lv_aload_n hx hb dX3_cut_220 rfl (lv_at hl 8 rfl) ?_
                        refine zm_get hx hb hK hts hown hP 6 (by decide) q_fl_RX3_22 (v := .ref (ad 2)) rfl dX3_cut_221 ?_
                        refine lv_iload_n hx hb dX3_cut_224 rfl (lv_at hl 9 rfl) ?_
                        refine zm_aB hx hb hK hP (i := v) (by omega) dX3_cut_225 ?_
                        refine lv_iload hx hb dX3_cut_226 (lv_at hl 0 rfl) ?_
                        refine z_bipush hx hb dX3_cut_228 (by decide) ?_
                        refine z_iadd (x := (10) * ((A 0 (v)) + (q))) (y := 6) hx hb dX3_cut_230 ?_
                        refine lv_aload_n hx hb dX3_cut_231 rfl (lv_at hl 11 rfl) ?_
                        refine z_iconst hx hb dX3_cut_232 ?_
                        refine z_ald (n := 7) hx hb hK (hN0.kept (hS.2.1 sa hN0.lt hnD)) (i := 2) (by decide) (by decide) dX3_cut_233 ?_
                        refine zm_sB (x := sd 2) hx hb hK hP hS (v := v) (by omega) (hD (3 + (v).toNat) (by omega)) (i := ((10) * ((A 0 (v)) + (q))) + (6)) (by omega) dX3_cut_234 (fun H locs hP hz ho hS => ?_)
                        refine z_iinc (lv' := [(8, .int (zI (q + 1))), (12, .int (zI ((10) * ((A 0 (v)) + (q))))), (7, .int (zI (ctA b en fr (q + 1)))), (11, .int (zI (ctL b en fr a))), (10, .int (zI ((min en ((((a) / (b)) + (1)) * (b))) - (a)))), (9, .int (zI (k))), (6, .int (zI (bI ((en - 1) / b = fr / b)))), (5, .int (zI (en))), (0, .ref (ad 0)), (1, .int (zI (v))), (2, .int (zI (fr))), (3, .ref (sa)), (4, .int (zI (L)))]) hx hb dX3_cut_235 hl (k := 5) rfl (by decide) rfl (fun ls hl => ?_)
                        refine lv_goto (tgt := 44) hx hb dX3_cut_238 (by decide) ?_
                        have hZ : (L = 0 ∧ (zB (zB (zB (zBw B1 (v) (zcp (sd) (B1 (v)) (0) ((10) * ((A 0 (v)) + (q))) (7))) (v) (((10) * ((A 0 (v)) + (q))) + (0)) (valP k)) (v) (((10) * ((A 0 (v)) + (q))) + (1)) (valD k)) (v) (((10) * ((A 0 (v)) + (q))) + (6)) (sd 2)) = B ∨ L = 1 ∧ (∀ u e w, 0 ≤ w → w < 10 → (zB (zB (zB (zBw B1 (v) (zcp (sd) (B1 (v)) (0) ((10) * ((A 0 (v)) + (q))) (7))) (v) (((10) * ((A 0 (v)) + (q))) + (0)) (valP k)) (v) (((10) * ((A 0 (v)) + (q))) + (1)) (valD k)) (v) (((10) * ((A 0 (v)) + (q))) + (6)) (sd 2)) u (10 * e + w) = if u = v ∧ A 0 v ≤ e ∧ e < A 0 v + (q + 1) ∧ w < 7 then elC b en fr sd (e - A 0 v) w else B u (10 * e + w))) := by
                          first
                          | exact Or.inl ⟨by omega, (hst.resolve_right (fun z => absurd z.1 (by omega))).2⟩
                          | (refine Or.inr ⟨by omega, fun u e w w0 w1 => ?_⟩
                             have hB1 := (hst.resolve_left (fun z => absurd z.1 (by omega))).2 u e w w0 w1
                             (repeat rw [zB_at (by omega) (by omega)])
                             rw [zcpB_at ⟨w0, w1⟩, hB1]
                             by_cases he : u = v ∧ e = A 0 v + q ∧ w < 7
                             · rw [if_pos (show u = v ∧ A 0 v ≤ e ∧ e < A 0 v + (q + 1) ∧ w < 7 by omega), show e - A 0 v = q by omega]
                               unfold elC
                               rw [hsA, ← haq, hkk]
                               (repeat' split) <;> first | rfl | (exfalso; omega)
                             · (repeat rw [if_neg (show ¬ (u = v ∧ e = A 0 v + q ∧ _) by omega)])
                               exact zite (by omega))
                        exact ih (q + 1) (ctA b en fr (q + 1)) ((zB (zB (zB (zBw B1 (v) (zcp (sd) (B1 (v)) (0) ((10) * ((A 0 (v)) + (q))) (7))) (v) (((10) * ((A 0 (v)) + (q))) + (0)) (valP k)) (v) (((10) * ((A 0 (v)) + (q))) + (1)) (valD k)) (v) (((10) * ((A 0 (v)) + (q))) + (6)) (sd 2))) (by omega) rfl hat (fun z z9 => by first | exact absurd z h_106 | omega) hfp1 hZ (by omega) H _ hP hS _ (lv_sub hl [0, 2, 6, 7, 8, 9, 10, 11, 12] rfl)
              · skip
                refine z_iinc (lv' := [(9, .int (zI (k + 1))), (10, .int (zI ((min en ((((a) / (b)) + (1)) * (b))) - (a)))), (8, .int (zI (q))), (7, .int (zI (a))), (6, .int (zI (bI ((en - 1) / b = fr / b)))), (5, .int (zI (en))), (0, .ref (ad 0)), (1, .int (zI (v))), (2, .int (zI (fr))), (3, .ref (sa)), (4, .int (zI (L)))]) hx hb dX3_cut_98 hl (k := 1) rfl (by decide) rfl (fun ls hl => ?_)
                refine lv_goto (tgt := 78) hx hb dX3_cut_101 (by decide) ?_
                exact ih2 (k + 1) (by omega) (by have : ¬ k = 14 := (fun z => by rw [z] at h_95; omega); omega) (fp_no hk0 hkf (by omega)) (by omega) H _ hP hS _ (lv_sub hl [1, 0, 2, 3, 4, 5, 6, 7, 8, 9, 10] rfl)
          exact lp_78 16 0 (by omega) (by omega) (fp_0 _) (by omega) H _ hP hS _ (lv_sub hl [0, 1, 2, 3, 4, 5, 6, 7, 8, 9, 10] rfl)
    exact lp_44 57 0 fr B (by omega) (pf_0 _ _).symm (by omega) (fun _ _ => rfl) (fp_0 _) (by rcases hL with z | z; exact Or.inl ⟨z, rfl⟩; exact Or.inr ⟨z, fun u e w w0 w1 => by rw [if_neg (by omega)]⟩) (by omega) s.heap _ hP hS _ (lv_sub hl [0, 1, 2, 3, 4, 5, 6, 7, 8] rfl)
