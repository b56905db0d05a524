/-- the voices below i are f's, the others g's -/
def upV {α : Type} (f g : Int → α) (i : Int) : Int → α := fun v => if 0 ≤ v ∧ v < i then f v else g v
theorem upV_0 {α : Type} (f g : Int → α) : upV f g 0 = g := by
  funext v
  unfold upV
  rw [if_neg (by omega)]
theorem upV_at {α : Type} (f g : Int → α) (i : Int) : upV f g i i = g i := by
  unfold upV
  rw [if_neg (by omega)]
theorem upV_s {α : Type} (f g : Int → α) {i : Int} (hi : 0 ≤ i) : zV (upV f g i) i (f i) = upV f g (i + 1) := by
  funext v
  unfold zV upV
  by_cases e : v = i
  · rw [if_pos e, if_pos (by omega), e]
  · rw [if_neg e]
    exact zite9 (by omega)
set_option maxHeartbeats 2000000 in
theorem c_X2_arrangeAll (l : Launch) (G : zG) (ad : Nat → Nat) (F : Nat → Int) (A E : Nat → Int → Int) (T P S Av : Int → Nat → Int → Int) (Fv : Int → Nat → Int) (sz : Nat) (hk9 : -7 ≤ F 3 ∧ F 3 ≤ 7) (hb99 : 0 < F 1 ∧ F 1 ≤ 1000000) (hVv : ∀ v, 0 ≤ v → v < F 0 → VOK (T v) (P v) (Fv v 0) ∧ ∀ p, 0 ≤ p → p < 63 → -2 ≤ Av v 1 p ∧ Av v 1 p ≤ 2) (hVC : COK F Fv) : MW l yX2_arrangeAll cX2_arrangeAll 2 none 5 109 (0) (0) G [.ref (ad 0)] (fA 94 ad sz) sz (CP G ad F A E T P S Av Fv) (QV (fA 94 ad sz) (fun H => CP G ad (zN F 4 0) A E (upV (fun v => arT (T v) (P v) (Av v) (Fv v 0) (F 3) (F 1)) T (F 0)) P (upV (fun v => (arSo (T v) (S v) (Fv v 0)).2) S (F 0)) (upV (fun v => (arSg (T v) (P v) (Av v) (Fv v 0) (F 3)).2.1) Av (F 0)) (upV (fun v => arF (T v) (P v) (S v) (Av v) (Fv v) (Fv v 0) (F 3) (F 1)) Fv (F 0)) H)) := by
  refine mw_of hp_X2_arrangeAll (Nat.le_of_ble_eq_true rfl) ?_
  intro p env s m below meth c ls hB hsz hP hl
  obtain ⟨hx, hb, hml, hr, hlk, hown, hts, hG⟩ := hB
  subst hsz
  have hK := hG.1
  have hS : va_S (fA 94 ad s.heap.size) s.heap s.heap [] := va_S.rf
  have hA : ∀ q : Nat, (fA 94 ad s.heap.size) q → G.2.2 ≤ q := fA_lo hP.1.2 hG.2.1
  have hD : ∀ k, k < 94 → (fA 94 ad s.heap.size) (ad k) := fun k hk => fA_in hk
  have hl : lv_has ls 2 [(0, .ref (ad 0))] := hl
  have h0b := hVC.1
  refine z_iconst hx hb dX2_arrangeAll_0 ?_
  refine lv_istore_n (lv' := [(1, .int (zI (0))), (0, .ref (ad 0))]) hx hb dX2_arrangeAll_1 rfl hl (by decide) rfl (fun ls hl => ?_)
  have hP : CP G ad F A E (upV (fun v => arT (T v) (P v) (Av v) (Fv v 0) (F 3) (F 1)) T (0)) P (upV (fun v => (arSo (T v) (S v) (Fv v 0)).2) S (0)) (upV (fun v => (arSg (T v) (P v) (Av v) (Fv v 0) (F 3)).2.1) Av (0)) (upV (fun v => arF (T v) (P v) (S v) (Av v) (Fv v) (Fv v 0) (F 3) (F 1)) Fv (0)) s.heap := by rw [upV_0, upV_0, upV_0, upV_0]; exact hP
  have lp_2 : ∀ (n : Nat) (i : Int), 0 ≤ i → i ≤ F 0 → F 0 - i < n → ∀ (H : Heap) (locs : List Loc), CP G ad F A E (upV (fun v => arT (T v) (P v) (Av v) (Fv v 0) (F 3) (F 1)) T (i)) P (upV (fun v => (arSo (T v) (S v) (Fv v 0)).2) S (i)) (upV (fun v => (arSg (T v) (P v) (Av v) (Fv v 0) (F 3)).2.1) Av (i)) (upV (fun v => arF (T v) (P v) (S v) (Av v) (Fv v) (Fv v 0) (F 3) (F 1)) Fv (i)) H → va_S (fA 94 ad s.heap.size) s.heap H locs → ∀ (ls : Array Slot), lv_has ls 2 [(1, .int (zI (i))), (0, .ref (ad 0))] → W p l env (rmz 5 109 0 0) s m (([.ref (ad 0)] : List Value).toArray) below meth c H locs 0 0 (MQ below (QV (fA 94 ad s.heap.size) (fun H => CP G ad (zN F 4 0) A E (upV (fun v => arT (T v) (P v) (Av v) (Fv v 0) (F 3) (F 1)) T (F 0)) P (upV (fun v => (arSo (T v) (S v) (Fv v 0)).2) S (F 0)) (upV (fun v => (arSg (T v) (P v) (Av v) (Fv v 0) (F 3)).2.1) Av (F 0)) (upV (fun v => arF (T v) (P v) (S v) (Av v) (Fv v) (Fv v 0) (F 3) (F 1)) Fv (F 0)) H)) (([.ref (ad 0)] : List Value).toArray) s 0 0 (fA 94 ad s.heap.size)) (F0 m 2 ls []) := by
    intro n
    induction n with
    | zero => intro i h0 h1 hm H locs hP hS ls hl; exact absurd hm (by omega)
    | succ n ih =>
      intro i h0 h1 hm H locs hP hS ls hl
      refine lv_iload_n hx hb dX2_arrangeAll_2 rfl (lv_at hl 0 rfl) ?_
      refine lv_aload_n hx hb dX2_arrangeAll_3 rfl (lv_at hl 1 rfl) ?_
      refine zs_get hx hb hK hts hown hP 3 (by decide) q_fl_RX2_26 (v := .int (zI (F 0))) rfl dX2_arrangeAll_4 ?_
      refine z_icmp_ge (a := i) (b := F 0) (tgt := 33) hx hb dX2_arrangeAll_7 (by decide) (by omega) (by omega) (fun h_7 => ?_) (fun h_7 => ?_)
      · skip
        have h9 : i = F 0 := by omega
        rw [h9] at hP
        refine lv_aload_n hx hb dX2_arrangeAll_33 rfl (lv_at hl 1 rfl) ?_
        refine z_iconst hx hb dX2_arrangeAll_34 ?_
        refine zs_put (x := 0) hx hb hK hts hown hP hS (hD 0 (by decide)) 4 (by decide) (by first | exact bI_01 _ | decide | omega) q_fl_RX2_39 dX2_arrangeAll_35 (fun H locs hP hz ho hS => ?_)
        exact e_Wv hx hb hr hlk hS (by omega) (by omega) hP dX2_arrangeAll_38
      · skip
        refine lv_aload_n hx hb dX2_arrangeAll_10 rfl (lv_at hl 1 rfl) ?_
        refine zs_get hx hb hK hts hown hP 0 (by decide) q_fl_RX2_11 (v := .ref (ad 1)) rfl dX2_arrangeAll_11 ?_
        refine lv_iload_n hx hb dX2_arrangeAll_14 rfl (lv_at hl 0 rfl) ?_
        refine zs_aV hx hb hK hP (i := i) (by omega) dX2_arrangeAll_15 ?_
        have hV_i : VP G (vad ad (i)) ((upV (fun v => arT (T v) (P v) (Av v) (Fv v 0) (F 3) (F 1)) T (i)) (i)) (P (i)) ((upV (fun v => (arSo (T v) (S v) (Fv v 0)).2) S (i)) (i)) ((upV (fun v => (arSg (T v) (P v) (Av v) (Fv v 0) (F 3)).2.1) Av (i)) (i)) ((upV (fun v => arF (T v) (P v) (S v) (Av v) (Fv v) (Fv v 0) (F 3) (F 1)) Fv (i)) (i)) H := CP.voice hP (i) (by omega)
        rw [upV_at, upV_at, upV_at, upV_at] at hV_i
        have hvv := hVv i h0 (by omega)
        refine lv_aload_n hx hb dX2_arrangeAll_16 rfl (lv_at hl 1 rfl) ?_
        refine zs_get hx hb hK hts hown hP 6 (by decide) q_fl_RX2_36 (v := .int (zI (F 3))) rfl dX2_arrangeAll_17 ?_
        refine lv_aload_n hx hb dX2_arrangeAll_20 rfl (lv_at hl 1 rfl) ?_
        refine zs_get hx hb hK hts hown hP 4 (by decide) q_fl_RX2_30 (v := .int (zI (F 1))) rfl dX2_arrangeAll_21 ?_
        refine k_Wv (c_VW (As := [.int (zI (F 3)), .int (zI (F 1))]) (rest := []) ⟨hx, hb, hml, hown, hts⟩ hG hS hA (c_X1_arrange l G (vad ad (i)) (T (i)) (P (i)) (S (i)) (Av (i)) (Fv (i)) (F 3) (F 1) H.size hk9 hb99 hvv.1 hvv.2) ⟨q_ml_RX2_226, q_im_X1_arrange, q_sel_X1_arrange, q_ini_RX1, q_code_X1_arrange⟩ hv_X1_arrange (VP.rec hK hV_i) hV_i ⟨by decide, by decide⟩ ⟨Nat.zero_le _, Nat.zero_le _⟩ rfl hl.1 rfl (Nat.le_of_ble_eq_true rfl) dX2_arrangeAll_24) hS (fA_v (by omega) hS.1) (fun H1 locs1 hq hz1 hk1 hS => ?_)
        have hP := CP.putF hP i (by omega) hq hk1
        rw [show zV P i (P i) = P from zV_id P i] at hP
        have hP : CP G ad F A E (upV (fun v => arT (T v) (P v) (Av v) (Fv v 0) (F 3) (F 1)) T (i + 1)) P (upV (fun v => (arSo (T v) (S v) (Fv v 0)).2) S (i + 1)) (upV (fun v => (arSg (T v) (P v) (Av v) (Fv v 0) (F 3)).2.1) Av (i + 1)) (upV (fun v => arF (T v) (P v) (S v) (Av v) (Fv v) (Fv v 0) (F 3) (F 1)) Fv (i + 1)) H1 := by rw [← upV_s _ _ h0, ← upV_s _ _ h0, ← upV_s _ _ h0, ← upV_s _ _ h0]; exact hP
        refine z_iinc (lv' := [(1, .int (zI (i + 1))), (0, .ref (ad 0))]) hx hb dX2_arrangeAll_27 hl (k := 0) rfl (by decide) rfl (fun ls hl => ?_)
        refine lv_goto (tgt := 2) hx hb dX2_arrangeAll_30 (by decide) ?_
        exact ih (i + 1) (by omega) (by omega) (by omega) H1 _ hP hS _ (lv_sub hl [0, 1] rfl)
  exact lp_2 5 0 (by omega) (by omega) (by omega) s.heap _ hP hS _ (lv_sub hl [0, 1] rfl)
