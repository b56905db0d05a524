theorem feF_spec {Fv : Int → Nat → Int} {S : Int → Nat → Int → Int} {dn : Int → Int} {n : Int} (hn : 0 ≤ n) : (feF Fv S dn n).1 = -1 ∨ (0 ≤ (feF Fv S dn n).1 ∧ (feF Fv S dn n).1 < n ∧ dn (feF Fv S dn n).1 < 2 * Fv (feF Fv S dn n).1 2) := by
  obtain ⟨k, rfl⟩ : ∃ k : Nat, n = (k : Int) := ⟨n.toNat, by omega⟩
  induction k with
  | zero => exact Or.inl rfl
  | succ k ih =>
    have q := ih (by omega)
    rw [show ((k + 1 : Nat) : Int) = (k : Int) + 1 by omega, feF_s Fv S dn (by omega)]
    generalize feF Fv S dn (k : Int) = z at q
    unfold feS
    by_cases h1 : dn (k : Int) < 2 * Fv (k : Int) 2
    · rw [if_pos h1]
      by_cases h2 : z.1 < 0 ∨ rkE S dn (k : Int) < z.2
      · rw [if_pos h2]
        exact Or.inr ⟨(by show 0 ≤ (k : Int); omega), (by show (k : Int) < (k : Int) + 1; omega), h1⟩
      · rw [if_neg h2]
        rcases q with q | q
        · exact Or.inl q
        · exact Or.inr ⟨q.1, by omega, q.2.2⟩
    · rw [if_neg h1]
      rcases q with q | q
      · exact Or.inl q
      · exact Or.inr ⟨q.1, by omega, q.2.2⟩
def dnZ (dn : Int → Int) (n : Int) : Int → Int := fun k => if 0 ≤ k ∧ k < n then 0 else dn k
theorem dnZ_0 (dn : Int → Int) : dnZ dn 0 = dn := by
  funext k
  unfold dnZ
  rw [if_neg (by omega)]
theorem zite9 {α : Type} {b d : Prop} [Decidable b] [Decidable d] {x y : α} (h : b ↔ d) : (if b then x else y) = if d then x else y := by
  by_cases q : b
  · rw [if_pos q, if_pos (h.mp q)]
  · rw [if_neg q, if_neg (fun z => q (h.mpr z))]
theorem dnZ_s (dn : Int → Int) {n : Int} (hn : 0 ≤ n) : zU (dnZ dn n) n 0 = dnZ dn (n + 1) := by
  funext k
  unfold zU dnZ
  by_cases e : k = n
  · rw [if_pos e, if_pos (by omega)]
  · rw [if_neg e]
    exact zite9 (by omega)
abbrev mgT : Type := (Nat → Int → Int) × (Int → Int)
def mgS (Fv : Int → Nat → Int) (S : Int → Nat → Int → Int) (n i : Int) (z : mgT) : mgT := if 0 ≤ (feF Fv S z.2 n).1 then (evPut z.1 (S (feF Fv S z.2 n).1) i (feF Fv S z.2 n).1 (z.2 (feF Fv S z.2 n).1), zU z.2 (feF Fv S z.2 n).1 (z.2 (feF Fv S z.2 n).1 + 1)) else z
def mgF (Fv : Int → Nat → Int) (S : Int → Nat → Int → Int) (n : Int) (E : Nat → Int → Int) (dn : Int → Int) : Int → mgT := pf (E, dnZ dn n) (mgS Fv S n)
theorem mgF_s (Fv : Int → Nat → Int) (S : Int → Nat → Int → Int) (n : Int) (E : Nat → Int → Int) (dn : Int → Int) {i : Int} (h : 0 ≤ i) : mgF Fv S n E dn (i + 1) = mgS Fv S n i (mgF Fv S n E dn i) := pf_s _ _ h
set_option maxHeartbeats 2000000 in
theorem c_X0_merge (l : Launch) (G : zG) (ad : Nat → Nat) (F : Nat → Int) (A E : Nat → Int → Int) (T P S Av : Int → Nat → Int → Int) (Fv : Int → Nat → Int) (c9 m9 : Int) (sz : Nat) (hc : 0 ≤ c9 ∧ c9 ≤ 4) (hm9 : 0 ≤ m9 ∧ m9 ≤ 1600) (hVS : ∀ v j, 0 ≤ v → v < c9 → 0 ≤ j → j < Fv v 2 → (0 ≤ S v 0 j ∧ S v 0 j ≤ 1000000) ∧ (0 ≤ S v 1 j ∧ S v 1 j ≤ 1000000)) (hVC : COK F Fv) : MW l yX0_merge cX0_merge 6 none 4 88 (0) (0) G [.ref (ad 2), .ref (ad 1), .int (zI (c9)), .int (zI (m9))] (fA 94 ad sz) sz (CP G ad F A E T P S Av Fv) (QV (fA 94 ad sz) (fun H => CP G ad F (zW A 0 (mgF Fv S c9 E (A 0) m9).2) (mgF Fv S c9 E (A 0) m9).1 T P S Av Fv H)) := by
  refine mw_of hp_X0_merge (Nat.le_of_ble_eq_true rfl) ?_
  intro p env s m below meth c ls hB hsz hP hl
  obtain ⟨hx, hb, hml, hr, hlk, hown, hts, hG⟩ := hB
  subst hsz
  have hK := hG.1
  have hS : va_S (fA 94 ad s.heap.size) s.heap s.heap [] := va_S.rf
  have hA : ∀ q : Nat, (fA 94 ad s.heap.size) q → G.2.2 ≤ q := fA_lo hP.1.2 hG.2.1
  have hD : ∀ k, k < 94 → (fA 94 ad s.heap.size) (ad k) := fun k hk => fA_in hk
  have hl : lv_has ls 6 [(0, .ref (ad 2)), (1, .ref (ad 1)), (2, .int (zI (c9))), (3, .int (zI (m9)))] := hl
  refine z_iconst hx hb dX0_merge_0 ?_
  refine lv_istore (lv' := [(4, .int (zI (0))), (0, .ref (ad 2)), (1, .ref (ad 1)), (2, .int (zI (c9))), (3, .int (zI (m9)))]) hx hb dX0_merge_1 hl (by decide) rfl (fun ls hl => ?_)
  have hP : CP G ad F (zW A 0 (dnZ (A 0) 0)) E T P S Av Fv s.heap := by rw [dnZ_0, zW_id]; exact hP
  have lp_3 : ∀ (n : Nat) (i : Int), 0 ≤ i → i ≤ c9 → c9 - i < n → ∀ (H : Heap) (locs : List Loc), CP G ad F (zW A 0 (dnZ (A 0) i)) E T P S Av Fv H → va_S (fA 94 ad s.heap.size) s.heap H locs → ∀ (ls : Array Slot), lv_has ls 6 [(4, .int (zI (i))), (0, .ref (ad 2)), (1, .ref (ad 1)), (2, .int (zI (c9))), (3, .int (zI (m9)))] → W p l env (rmz 4 88 0 0) s m (([.ref (ad 2), .ref (ad 1), .int (zI (c9)), .int (zI (m9))] : List Value).toArray) below meth c H locs 0 0 (MQ below (QV (fA 94 ad s.heap.size) (fun H => CP G ad F (zW A 0 (mgF Fv S c9 E (A 0) m9).2) (mgF Fv S c9 E (A 0) m9).1 T P S Av Fv H)) (([.ref (ad 2), .ref (ad 1), .int (zI (c9)), .int (zI (m9))] : List Value).toArray) s 0 0 (fA 94 ad s.heap.size)) (F0 m 3 ls []) := by
    intro n
    induction n with
    | zero => intro i h0 h1 hm H locs hP hS ls hl; exact absurd hm (by omega)
    | succ n ih =>
      intro i h0 h1 hm H locs hP hS ls hl
      refine lv_iload hx hb dX0_merge_3 (lv_at hl 0 rfl) ?_
      refine lv_iload_n hx hb dX0_merge_5 rfl (lv_at hl 3 rfl) ?_
      refine z_icmp_ge (a := i) (b := c9) (tgt := 23) hx hb dX0_merge_6 (by decide) (by omega) (by omega) (fun h_6 => ?_) (fun h_6 => ?_)
      · skip
        refine z_iconst hx hb dX0_merge_23 ?_
        refine lv_istore (lv' := [(4, .int (zI (0))), (0, .ref (ad 2)), (1, .ref (ad 1)), (2, .int (zI (c9))), (3, .int (zI (m9)))]) hx hb dX0_merge_24 hl (by decide) rfl (fun ls hl => ?_)
        have hP : CP G ad F (zW A 0 (dnZ (A 0) c9)) E T P S Av Fv H := by rw [show c9 = i by omega]; exact hP
        have hdn0 : ∀ v, 0 ≤ v → v < c9 → 0 ≤ dnZ (A 0) c9 v ∧ dnZ (A 0) c9 v ≤ 2 * Fv v 2 := fun v q0 q1 => by
          have hvi := hVC.2 v q0 (by omega)
          unfold dnZ
          rw [if_pos ⟨q0, q1⟩]
          omega
        have lp_26 : ∀ (n : Nat) (i : Int) (E1 : Nat → Int → Int) (dn : Int → Int), 0 ≤ i → i ≤ m9 → mgF Fv S c9 E (A 0) i = (E1, dn) → (∀ v, 0 ≤ v → v < c9 → 0 ≤ dn v ∧ dn v ≤ 2 * Fv v 2) → m9 - i < n → ∀ (H : Heap) (locs : List Loc), CP G ad F (zW A 0 dn) E1 T P S Av Fv H → va_S (fA 94 ad s.heap.size) s.heap H locs → ∀ (ls : Array Slot), lv_has ls 6 [(4, .int (zI (i))), (0, .ref (ad 2)), (1, .ref (ad 1)), (2, .int (zI (c9))), (3, .int (zI (m9)))] → W p l env (rmz 4 88 0 0) s m (([.ref (ad 2), .ref (ad 1), .int (zI (c9)), .int (zI (m9))] : List Value).toArray) below meth c H locs 0 0 (MQ below (QV (fA 94 ad s.heap.size) (fun H => CP G ad F (zW A 0 (mgF Fv S c9 E (A 0) m9).2) (mgF Fv S c9 E (A 0) m9).1 T P S Av Fv H)) (([.ref (ad 2), .ref (ad 1), .int (zI (c9)), .int (zI (m9))] : List Value).toArray) s 0 0 (fA 94 ad s.heap.size)) (F0 m 26 ls []) := by
          intro n
          induction n with
          | zero => intro i E1 dn h0 h1 h2 hdn hm H locs hP hS ls hl; exact absurd hm (by omega)
          | succ n ih2 =>
            intro i E1 dn h0 h1 h2 hdn hm H locs hP hS ls hl
            have hs := mgF_s Fv S c9 E (A 0) h0
            rw [h2] at hs
            have hrk : ∀ v, 0 ≤ v → v < c9 → dn v < 2 * Fv v 2 → -1000000000 ≤ rkE S dn v ∧ rkE S dn v ≤ 1000000000 := fun v q0 q1 q2 => by
              have hd := hdn v q0 q1
              have hz := hVS v (dn v / 2) q0 q1 (by omega) (by omega)
              have hb9 := bI_01 (dn v % 2 = 0)
              unfold rkE tkE
              split <;> omega
            refine lv_iload hx hb dX0_merge_26 (lv_at hl 0 rfl) ?_
            refine lv_iload_n hx hb dX0_merge_28 rfl (lv_at hl 4 rfl) ?_
            refine z_icmp_ge (a := i) (b := m9) (tgt := 74) hx hb dX0_merge_29 (by decide) (by omega) (by omega) (fun h_29 => ?_) (fun h_29 => ?_)
            · skip
              exact e_Wv hx hb hr hlk hS (by omega) (by omega) (by rw [show m9 = i by omega, h2]; exact hP) dX0_merge_74
            · skip
              refine lv_aload_n hx hb dX0_merge_32 rfl (lv_at hl 1 rfl) ?_
              refine lv_aload_n hx hb dX0_merge_33 rfl (lv_at hl 2 rfl) ?_
              refine lv_iload_n hx hb dX0_merge_34 rfl (lv_at hl 3 rfl) ?_
              refine k_R (c_VR (As := [.ref (ad 1), .int (zI (c9))]) (rest := []) ⟨hx, hb, hml, hown, hts⟩ hG hS hA (c_X0_findEarliest l G ad F (zW A 0 dn) E1 T P S Av Fv c9 (by omega) (by rw [zW_s]; exact hdn) (fun v q0 q1 q2 => by rw [zW_s] at q2 ⊢; exact hrk v q0 q1 q2) hVC) ⟨q_ml_RX0_20, q_im_X0_findEarliest, q_sel_X0_findEarliest, q_ini_RX0, q_code_X0_findEarliest⟩ hv_X0_findEarliest (CP.recE hK hP) hP ⟨by decide, by decide⟩ ⟨Nat.zero_le _, Nat.zero_le _⟩ rfl hl.1 rfl (Nat.le_of_ble_eq_true rfl) dX0_merge_35) ?_
              rw [zW_s]
              obtain ⟨a, ha⟩ : ∃ a, a = (feF Fv S dn c9).1 := ⟨_, rfl⟩
              rw [← ha]
              have hsp := feF_spec (Fv := Fv) (S := S) (dn := dn) (n := c9) hc.1
              rw [← ha] at hsp
              refine lv_istore (lv' := [(5, .int (zI (a))), (4, .int (zI (i))), (0, .ref (ad 2)), (1, .ref (ad 1)), (2, .int (zI (c9))), (3, .int (zI (m9)))]) hx hb dX0_merge_38 hl (by decide) rfl (fun ls hl => ?_)
              refine lv_iload hx hb dX0_merge_40 (lv_at hl 0 rfl) ?_
              refine z_if_lt (a := a) (tgt := 68) hx hb dX0_merge_42 (by decide) (by omega) (fun h_42 => ?_) (fun h_42 => ?_)
              · skip
                have hst : mgF Fv S c9 E (A 0) (i + 1) = (E1, dn) := by rw [hs]; unfold mgS; rw [if_neg (show ¬ 0 ≤ (feF Fv S dn c9).1 by rw [← ha]; omega)]
                have hdn9 := hdn
                refine z_iinc (lv' := [(4, .int (zI (i + 1))), (5, .int (zI (a))), (0, .ref (ad 2)), (1, .ref (ad 1)), (2, .int (zI (c9))), (3, .int (zI (m9)))]) hx hb dX0_merge_68 hl (k := 1) rfl (by decide) rfl (fun ls hl => ?_)
                refine lv_goto (tgt := 26) hx hb dX0_merge_71 (by decide) ?_
                exact ih2 (i + 1) _ _ (by omega) (by omega) hst hdn9 (by omega) H _ hP hS _ (lv_sub hl [0, 2, 3, 4, 5] rfl)
              · skip
                have hvi := hVC.2 a (by omega) (by omega)
                have hda := hdn a (by omega) (by omega)
                refine lv_aload_n hx hb dX0_merge_45 rfl (lv_at hl 2 rfl) ?_
                refine lv_iload hx hb dX0_merge_46 (lv_at hl 1 rfl) ?_
                refine lv_iload hx hb dX0_merge_48 (lv_at hl 0 rfl) ?_
                refine lv_aload_n hx hb dX0_merge_50 rfl (lv_at hl 3 rfl) ?_
                refine lv_iload hx hb dX0_merge_51 (lv_at hl 0 rfl) ?_
                refine zs_aV hx hb hK hP (i := a) (by omega) dX0_merge_53 ?_
                have hV_a : VP G (vad ad (a)) (T (a)) (P (a)) (S (a)) (Av (a)) (Fv (a)) H := CP.voice hP (a) (by omega)
                refine k_Wv (c_VW (As := [.int (zI (i)), .int (zI (a)), .ref (vad ad (a) 0)]) (rest := []) ⟨hx, hb, hml, hown, hts⟩ hG hS hA (c_X0_put l G ad F (zW A 0 dn) E1 T P S Av Fv i a H.size (by omega) (by omega) (by rw [zW_s]; omega)) ⟨q_ml_RX0_24, q_im_X0_put, q_sel_X0_put, q_ini_RX0, q_code_X0_put⟩ hv_X0_put (CP.recE hK hP) hP ⟨by decide, by decide⟩ ⟨Nat.zero_le _, Nat.zero_le _⟩ rfl hl.1 rfl (Nat.le_of_ble_eq_true rfl) dX0_merge_54) hS (fA_mono hS.1) (fun H1 locs1 hq hz1 hk1 hS => ?_)
                rw [zW_s] at hq
                have hP := hq
                refine lv_aload_n hx hb dX0_merge_57 rfl (lv_at hl 2 rfl) ?_
                refine ze_get hx hb hK hts hown hP 1 (by decide) q_fl_RX0_16 (v := .ref (ad 4)) rfl dX0_merge_58 ?_
                refine lv_iload hx hb dX0_merge_61 (lv_at hl 0 rfl) ?_
                refine lv_dup2_11 hx hb dX0_merge_63 rfl rfl ?_
                refine zs_lA0 hx hb hK hP (i := a) (by omega) dX0_merge_64 ?_
                refine z_iconst hx hb dX0_merge_65 ?_
                refine z_iadd (x := dn (a)) (y := 1) hx hb dX0_merge_66 ?_
                refine zs_sA0 (x := (dn (a)) + (1)) hx hb hK hP hS (hD 4 (by decide)) (i := a) (by omega) dX0_merge_67 (fun H locs hP hz ho hS => ?_)
                rw [zW_R] at hP
                have hst : mgF Fv S c9 E (A 0) (i + 1) = (evPut E1 (S a) i a (dn a), zU dn a (dn a + 1)) := by rw [hs]; unfold mgS; rw [if_pos (show 0 ≤ (feF Fv S dn c9).1 by rw [← ha]; omega), ← ha]
                have hdn9 : ∀ v, 0 ≤ v → v < c9 → 0 ≤ zU dn a (dn a + 1) v ∧ zU dn a (dn a + 1) v ≤ 2 * Fv v 2 := fun v q0 q1 => by
                  have hd := hdn v q0 q1
                  unfold zU
                  split
                  · rename_i q
                    rw [q]; omega
                  · exact hd
                refine z_iinc (lv' := [(4, .int (zI (i + 1))), (5, .int (zI (a))), (0, .ref (ad 2)), (1, .ref (ad 1)), (2, .int (zI (c9))), (3, .int (zI (m9)))]) hx hb dX0_merge_68 hl (k := 1) rfl (by decide) rfl (fun ls hl => ?_)
                refine lv_goto (tgt := 26) hx hb dX0_merge_71 (by decide) ?_
                exact ih2 (i + 1) _ _ (by omega) (by omega) hst hdn9 (by omega) H _ hP hS _ (lv_sub hl [0, 2, 3, 4, 5] rfl)
        exact lp_26 1601 0 E (dnZ (A 0) c9) (by omega) (by omega) rfl hdn0 (by omega) H _ hP hS _ (lv_sub hl [0, 1, 2, 3, 4] rfl)
      · skip
        refine lv_aload_n hx hb dX0_merge_9 rfl (lv_at hl 1 rfl) ?_
        refine ze_get hx hb hK hts hown hP 1 (by decide) q_fl_RX0_16 (v := .ref (ad 4)) rfl dX0_merge_10 ?_
        refine lv_iload hx hb dX0_merge_13 (lv_at hl 0 rfl) ?_
        refine z_iconst hx hb dX0_merge_15 ?_
        refine zs_sA0 (x := 0) hx hb hK hP hS (hD 4 (by decide)) (i := i) (by omega) dX0_merge_16 (fun H locs hP hz ho hS => ?_)
        rw [zW_R] at hP
        rw [dnZ_s _ h0] at hP
        refine z_iinc (lv' := [(4, .int (zI (i + 1))), (0, .ref (ad 2)), (1, .ref (ad 1)), (2, .int (zI (c9))), (3, .int (zI (m9)))]) hx hb dX0_merge_17 hl (k := 0) rfl (by decide) rfl (fun ls hl => ?_)
        refine lv_goto (tgt := 3) hx hb dX0_merge_20 (by decide) ?_
        exact ih (i + 1) (by omega) (by omega) (by omega) H _ hP hS _ (lv_sub hl [0, 1, 2, 3, 4] rfl)
  exact lp_3 5 0 (by omega) (by omega) (by omega) s.heap _ hP hS _ (lv_sub hl [0, 1, 2, 3, 4] rfl)
