/-! the Hand: beats, part, key, the voices: rows of rows of nine numbers; lo: the least of its cells -/
theorem q_cl_A16 : Cond.classLink RX3 16 (FieldType.array (.array .int)).toString ∈ lw_all := q_cl_RX3_16
theorem q_cl_A30 : Cond.classLink RX3 30 (FieldType.array .int).toString ∈ lw_all := q_cl_RX3_30
def hD (B : Int → Int → Int) (v e : Int) : Int → Int := fun k => if k < 7 then B v (10 * e + k) else if k = 7 then bgM B v e else mTk B v e
abbrev hF (bt pt ky : Int) (vs : Nat) : List Value := [.int (zI bt), .int (zI pt), .int (zI ky), .ref vs]
def HO (G : zG) (h vs : Nat) (bt pt ky : Int) (H : Heap) : Prop := va_at G.1 vwCl (h, .inr (3, hF bt pt ky vs)) H
abbrev rw9 (G : zG) (C : Int → Int) : va_E := .inl (G.2.1 0, 9, .inl (zA C))
/-- the rows of a voice: k of them, at the cell x -/
def HV (G : zG) (lo x vs k : Nat) (C : Nat → Int → Int) (H : Heap) : Prop := ∃ g : Nat → Nat, (lo ≤ x ∧ x ≠ vs) ∧ va_at G.1 vwCl (x, va_refs G 1 k (fun j => some (g j))) H ∧ ∀ e : Nat, e < k → (lo ≤ g e ∧ g e ≠ vs) ∧ va_at G.1 vwCl (g e, rw9 G (C e)) H
def HP9 (G : zG) (h lo vs : Nat) (f : Nat → Nat) (bt pt ky nv : Int) (n : Int → Int) (B : Int → Int → Int) (H : Heap) : Prop :=
  (h < lo ∧ lo ≤ vs) ∧ HO G h vs bt pt ky H ∧ va_at G.1 vwCl (vs, va_refs G 3 nv.toNat (fun j => some (f j))) H ∧ ∀ v : Nat, (v : Int) < nv → HV G lo (f v) vs (n v).toNat (fun e => hD B v e) H
theorem HV.kept {G : zG} {lo x vs k : Nat} {C : Nat → Int → Int} {H H1 : Heap} (h : HV G lo x vs k C H) (ho : ∀ q : Nat, q < H.size → lo ≤ q → q ≠ vs → H1[q]? = H[q]?) : HV G lo x vs k C H1 := by
  obtain ⟨g, a, b, c⟩ := h
  exact ⟨g, a, b.kept (ho _ b.lt a.1 a.2), fun e he => ⟨(c e he).1, (c e he).2.kept (ho _ (c e he).2.lt (c e he).1.1 (c e he).1.2)⟩⟩
theorem HV.congr {G : zG} {lo x vs k : Nat} {C C' : Nat → Int → Int} {H : Heap} (h : HV G lo x vs k C H) (hC : ∀ e, e < k → C e = C' e) : HV G lo x vs k C' H := by
  obtain ⟨g, a, b, c⟩ := h
  exact ⟨g, a, b, fun e he => ⟨(c e he).1, by rw [← hC e he]; exact (c e he).2⟩⟩
theorem HP9.kept {G : zG} {h lo vs : Nat} {f : Nat → Nat} {bt pt ky nv : Int} {n : Int → Int} {B : Int → Int → Int} {H H1 : Heap} (p : HP9 G h lo vs f bt pt ky nv n B H) (ho : ∀ q : Nat, q < H.size → h ≤ q → H1[q]? = H[q]?) : HP9 G h lo vs f bt pt ky nv n B H1 :=
  ⟨p.1, va_at.kept p.2.1 (ho _ (va_at.lt p.2.1) (Nat.le_refl h)), p.2.2.1.kept (ho _ p.2.2.1.lt (by have := p.1; show h ≤ vs; omega)), fun v hv => (p.2.2.2 v hv).kept (fun q h1 h2 _ => ho q h1 (by have := p.1; omega))⟩
theorem va_i9 {G : zG} {a N : Nat} {F F' : Int → Int} {H : Heap} (h : va_at G.1 vwCl (a, .inl (G.2.1 0, N, .inl (zA F))) H) (hF : ∀ k : Nat, k < N → F k = F' k) : va_at G.1 vwCl (a, .inl (G.2.1 0, N, .inl (zA F'))) H := by
  show H[a]? = some (vp_cell _ _)
  have h : H[a]? = some (vp_cell (G.2.1 0) (N, .inl (zA F))) := h
  rw [h, vp_cell_i, vp_cell_i]
  refine congrArg some (arrV_congr fun j hj => ?_)
  show Value.int (zI (F j)) = Value.int (zI (F' j))
  rw [hF j hj]
theorem va_r9 {G : zG} {a t N : Nat} {f f' : Nat → Option Nat} {H : Heap} (h : va_at G.1 vwCl (a, va_refs G t N f) H) (hF : ∀ k : Nat, k < N → f k = f' k) : va_at G.1 vwCl (a, va_refs G t N f') H := by
  show H[a]? = some (vp_cell _ _)
  have h : H[a]? = some (vp_cell (G.2.1 t) (N, .inr (.inr (.inr (.inr f))))) := h
  rw [h, vp_cell_q, vp_cell_q]
  refine congrArg some (arrV_congr fun j hj => ?_)
  show va_rf (f j) = va_rf (f' j)
  rw [hF j hj]
def dm (d : Int) : Int := if d = 0 then 4 else if d = 1 then 6 else 7
theorem tkH_val {k : Int} (h : 0 ≤ k ∧ k < 15) : 384 / valP k * dm (valD k) / 4 = valT k := co15 (q := fun k => 384 / valP k * dm (valD k) / 4 = valT k) (by decide) h
theorem c_X3_bar (l : Launch) (G : zG) (h vs : Nat) (bt pt ky : Int) (hbt : 1 ≤ bt ∧ bt ≤ 12) (hpt : pt = 2 ∨ pt = 4 ∨ pt = 8) : MR l yX3_bar cX3_bar 1 (some .int) 0 0 G [.ref h] (HO G h vs bt pt ky) (.int (zI (bt * 384 / pt))) := by
  refine mr_of hp_X3_bar (Nat.le_of_ble_eq_true rfl) ?_
  intro p env s m below meth c ls hB hP hl
  obtain ⟨hx, hb, hml, hr, hlk, hown, hts, hG⟩ := hB
  have hK := hG.1
  have hS : va_S fN s.heap s.heap [] := va_S.rf
  have hA : ∀ q : Nat, fN q → G.2.2 ≤ q := fun _ h => h.elim
  have hl : lv_has ls 1 [(0, .ref h)] := hl
  refine lv_aload_n hx hb dX3_bar_0 rfl (lv_at hl 0 rfl) ?_
  refine z_get (C := RX3) (T := TX3) (N := 4) hx hb hK hts u_in_X3 hown hP rfl 0 (by decide) q_fl_RX3_7 (v := .int (zI bt)) rfl dX3_bar_1 ?_
  refine z_sipush hx hb dX3_bar_4 (by decide) ?_
  refine z_imul (x := bt) (y := 384) hx hb dX3_bar_7 ?_
  refine lv_aload_n hx hb dX3_bar_8 rfl (lv_at hl 0 rfl) ?_
  refine z_get (C := RX3) (T := TX3) (N := 4) hx hb hK hts u_in_X3 hown hP rfl 1 (by decide) q_fl_RX3_13 (v := .int (zI pt)) rfl dX3_bar_9 ?_
  refine z_idiv (x := bt * 384) (y := pt) hx hb dX3_bar_12 (by omega) (by omega) ?_
  exact e_R (r' := bt * 384 / pt) hx hb hr hlk (n_i _) rfl dX3_bar_13
set_option maxHeartbeats 600000 in
theorem c_X3_ticks (l : Launch) (G : zG)  (pa d : Int) (hpa : 1 ≤ pa ∧ pa ≤ 32) (hd9 : 0 ≤ d ∧ d ≤ 2) : MR l yX3_ticks cX3_ticks 2 (some .int) 0 0 G [.int (zI (pa)), .int (zI (d))] ((fun _ => True)) (.int (zI (384 / pa * dm d / 4))) := by
  refine mr_of hp_X3_ticks (Nat.le_of_ble_eq_true rfl) ?_
  intro p env s m below meth c ls hB hP hl
  obtain ⟨hx, hb, hml, hr, hlk, hown, hts, hG⟩ := hB
  have hK := hG.1
  have hS : va_S (fun _ => False) s.heap s.heap [] := va_S.rf
  have hA : ∀ q : Nat, (fun _ : Nat => False) q → G.2.2 ≤ q := fun _ h => h.elim
  have hl : lv_has ls 2 [(0, .int (zI (pa))), (1, .int (zI (d)))] := hl
  have q1 : 0 ≤ 384 / pa := Int.ediv_nonneg (by decide) (by omega)
  have q2 : 384 / pa ≤ 384 := Int.ediv_le_self _ (by decide)
  refine z_sipush hx hb dX3_ticks_0 (by decide) ?_
  refine lv_iload_n hx hb dX3_ticks_3 rfl (lv_at hl 0 rfl) ?_
  refine z_idiv hx hb dX3_ticks_4 (by omega) (by omega) ?_
  refine lv_iload_n hx hb dX3_ticks_5 rfl (lv_at hl 1 rfl) ?_
  refine z_if_ne (a := d) (tgt := 13) hx hb dX3_ticks_6 (by decide) (by omega) (fun h_6 => ?_) (fun h_6 => ?_)
  · skip
    refine lv_iload_n hx hb dX3_ticks_13 rfl (lv_at hl 1 rfl) ?_
    refine z_iconst hx hb dX3_ticks_14 ?_
    refine z_icmp_ne (a := d) (b := 1) (tgt := 23) hx hb dX3_ticks_15 (by decide) (by omega) (by omega) (fun h_15 => ?_) (fun h_15 => ?_)
    · skip
      refine z_bipush hx hb dX3_ticks_23 (by decide) ?_
      refine z_imul (x := (384) / (pa)) (y := 7) hx hb dX3_ticks_25 ?_
      refine z_iconst hx hb dX3_ticks_26 ?_
      refine z_idiv hx hb dX3_ticks_27 (by omega) (by omega) ?_
      exact e_R (r' := (((384) / (pa)) * (7)) / (4)) hx hb hr hlk (n_i _) (by first | rfl | omega | (simp only [dm]; (repeat' split) <;> omega)) dX3_ticks_28
    · skip
      refine z_bipush hx hb dX3_ticks_18 (by decide) ?_
      refine lv_goto (tgt := 25) hx hb dX3_ticks_20 (by decide) ?_
      refine z_imul (x := (384) / (pa)) (y := 6) hx hb dX3_ticks_25 ?_
      refine z_iconst hx hb dX3_ticks_26 ?_
      refine z_idiv hx hb dX3_ticks_27 (by omega) (by omega) ?_
      exact e_R (r' := (((384) / (pa)) * (6)) / (4)) hx hb hr hlk (n_i _) (by first | rfl | omega | (simp only [dm]; (repeat' split) <;> omega)) dX3_ticks_28
  · skip
    refine z_iconst hx hb dX3_ticks_9 ?_
    refine lv_goto (tgt := 25) hx hb dX3_ticks_10 (by decide) ?_
    refine z_imul (x := (384) / (pa)) (y := 4) hx hb dX3_ticks_25 ?_
    refine z_iconst hx hb dX3_ticks_26 ?_
    refine z_idiv hx hb dX3_ticks_27 (by omega) (by omega) ?_
    exact e_R (r' := (((384) / (pa)) * (4)) / (4)) hx hb hr hlk (n_i _) (by first | rfl | omega | (simp only [dm]; (repeat' split) <;> omega)) dX3_ticks_28
theorem c_X3_end (l : Launch) (G : zG) (h lo vs : Nat) (f : Nat → Nat) (bt pt ky nv : Int) (n : Int → Int) (B : Int → Int → Int) (v : Int) (hv : 0 ≤ v ∧ v < nv) (hn4 : nv ≤ 4) (hn : 0 ≤ n v ∧ n v ≤ 240) : MR l yX3_end cX3_end 3 (some .int) 0 0 G [.ref h, .int (zI v)] (HP9 G h lo vs f bt pt ky nv n B) (.int (zI (bgM B v (n v)))) := by
  refine mr_of hp_X3_end (Nat.le_of_ble_eq_true rfl) ?_
  intro p env s m below meth c ls hB hP hl
  obtain ⟨hx, hb, hml, hr, hlk, hown, hts, hG⟩ := hB
  have hK := hG.1
  have hS : va_S fN s.heap s.heap [] := va_S.rf
  have hA : ∀ q : Nat, fN q → G.2.2 ≤ q := fun _ h => h.elim
  have hl : lv_has ls 3 [(0, .ref h), (1, .int (zI v))] := hl
  obtain ⟨-, hO, hVs, hVv⟩ := hP
  have hP := hO
  obtain ⟨g, -, hg, hr9⟩ := hVv v.toNat (by omega)
  rw [Int.toNat_of_nonneg hv.1] at hg hr9
  obtain ⟨k, hk⟩ : ∃ k : Nat, k = (n v).toNat := ⟨_, rfl⟩
  rw [← hk] at hg hr9
  have hkn : (k : Int) = n v := by omega
  refine lv_aload_n hx hb dX3_end_0 rfl (lv_at hl 0 rfl) ?_
  refine z_get (C := RX3) (T := TX3) (N := 4) hx hb hK hts u_in_X3 hown hP rfl 3 (by decide) q_fl_RX3_18 (v := .ref vs) rfl dX3_end_1 ?_
  refine lv_iload_n hx hb dX3_end_4 rfl (lv_at hl 1 rfl) ?_
  refine z_aldr (t0 := 3) (n := nv.toNat) hx hb hK rfl rfl hVs (i := v) (by omega) (by omega) rfl dX3_end_5 ?_
  refine lv_astore_n (lv' := [(2, .ref (f v.toNat)), (0, .ref h), (1, .int (zI v))]) hx hb dX3_end_6 rfl hl (by decide) rfl (fun ls hl => ?_)
  refine lv_aload_n hx hb dX3_end_7 rfl (lv_at hl 0 rfl) ?_
  refine z_alenA hx hb hK (t0 := 1) rfl hg dX3_end_8 ?_
  refine z_if_ne (a := (k : Int)) (tgt := 16) hx hb dX3_end_9 (by decide) (by omega) (fun h9 => ?_) (fun h9 => ?_)
  · have hk1 : k - 1 < k := by omega
    have hc := (hr9 (k - 1) hk1).2
    have e7 : hD B v ((k - 1 : Nat) : Int) 7 = bgM B v (n v - 1) := by
      unfold hD
      rw [if_neg (by decide), if_pos rfl, show ((k - 1 : Nat) : Int) = n v - 1 by omega]
    have e8 : hD B v ((k - 1 : Nat) : Int) 8 = mTk B v (n v - 1) := by
      unfold hD
      rw [if_neg (by decide), if_neg (by decide), show ((k - 1 : Nat) : Int) = n v - 1 by omega]
    have hs := bgM_s B v (e := n v - 1) (by omega)
    rw [show n v - 1 + 1 = n v by omega] at hs
    refine lv_aload_n hx hb dX3_end_16 rfl (lv_at hl 0 rfl) ?_
    refine lv_aload_n hx hb dX3_end_17 rfl (lv_at hl 0 rfl) ?_
    refine z_alenA hx hb hK (t0 := 1) rfl hg dX3_end_18 ?_
    refine z_iconst hx hb dX3_end_19 ?_
    refine z_isub (x := (k : Int)) (y := 1) hx hb dX3_end_20 ?_
    refine z_aldr (t0 := 1) (n := k) hx hb hK rfl rfl hg (i := (k : Int) - 1) (by omega) (by omega) (q := g (k - 1)) (by rw [show ((k : Int) - 1).toNat = k - 1 by omega]) dX3_end_21 ?_
    refine z_bipush hx hb dX3_end_22 (by decide) ?_
    refine z_ald (n := 9) hx hb hK hc (i := 7) (by decide) (by decide) dX3_end_24 ?_
    refine lv_aload_n hx hb dX3_end_25 rfl (lv_at hl 0 rfl) ?_
    refine lv_aload_n hx hb dX3_end_26 rfl (lv_at hl 0 rfl) ?_
    refine z_alenA hx hb hK (t0 := 1) rfl hg dX3_end_27 ?_
    refine z_iconst hx hb dX3_end_28 ?_
    refine z_isub (x := (k : Int)) (y := 1) hx hb dX3_end_29 ?_
    refine z_aldr (t0 := 1) (n := k) hx hb hK rfl rfl hg (i := (k : Int) - 1) (by omega) (by omega) (q := g (k - 1)) (by rw [show ((k : Int) - 1).toNat = k - 1 by omega]) dX3_end_30 ?_
    refine z_bipush hx hb dX3_end_31 (by decide) ?_
    refine z_ald (n := 9) hx hb hK hc (i := 8) (by decide) (by decide) dX3_end_33 ?_
    refine z_iadd hx hb dX3_end_34 ?_
    exact e_R hx hb hr hlk (n_i _) (by show hD B v ((k - 1 : Nat) : Int) 7 + hD B v ((k - 1 : Nat) : Int) 8 = _; rw [e7, e8]; exact hs.symm) dX3_end_35
  · refine z_iconst hx hb dX3_end_12 ?_
    refine lv_goto (tgt := 35) hx hb dX3_end_13 (by decide) ?_
    exact e_R (r' := 0) hx hb hr hlk (n_i _) (by rw [show n v = 0 by omega]; rfl) dX3_end_35
theorem c_X3_keySign (l : Launch) (G : zG) (h vs : Nat) (bt pt ky x : Int) (hky : -7 ≤ ky ∧ ky ≤ 7) : MRB l yX3_keySign cX3_keySign 4 (some .int) 4 120 G [.ref h, .int (zI x)] (HO G h vs bt pt ky) (fun r => -1 ≤ r ∧ r ≤ 1) := by
  refine mrb_of hp_X3_keySign (Nat.le_of_ble_eq_true rfl) ?_
  intro p env s m below meth c ls hB hP hl
  obtain ⟨hx, hb, hml, hr, hlk, hown, hts, hG⟩ := hB
  have hK := hG.1
  have hS : va_S fN s.heap s.heap [] := va_S.rf
  have hA : ∀ q : Nat, fN q → G.2.2 ≤ q := fun _ h => h.elim
  have hl : lv_has ls 4 [(0, .ref h), (1, .int (zI x))] := hl
  refine va_ldcS hx hb hown hG.2.2.2.2.2.2.2.2.2.2.2.1.2 dX3_keySign_0 ?_
  refine lv_astore_n (lv' := [(2, .ref (G.2.1 12)), (0, .ref h), (1, .int (zI x))]) hx hb dX3_keySign_2 rfl hl (by decide) rfl (fun ls hl => ?_)
  refine lv_aload_n hx hb dX3_keySign_3 rfl (lv_at hl 0 rfl) ?_
  refine z_bipush hx hb dX3_keySign_4 (by decide) ?_
  refine lv_iload_n hx hb dX3_keySign_6 rfl (lv_at hl 2 rfl) ?_
  refine z_iadd (x := 48) (y := x) hx hb dX3_keySign_7 ?_
  refine z_i2cB hx hb dX3_keySign_8 (fun w hw => ?_)
  refine k_RB (c_VB (As := [.int (zI w)]) (rest := []) ⟨hx, hb, hml, hown, hts⟩ hG hS hA (c_J0_indexOf_0f7a4 l G w hw) ⟨q_ml_RX3_59, q_im_J0_indexOf_0f7a4, q_sel_J0_indexOf_0f7a4, q_ini_RJ0, q_code_J0_indexOf_0f7a4⟩ hv_J0_indexOf_0f7a4 (tx_rec hG hS) trivial ⟨Nat.le_of_ble_eq_true rfl, Nat.le_of_ble_eq_true rfl⟩ ⟨Nat.zero_le _, Nat.zero_le _⟩ rfl hl.1 rfl (Nat.le_of_ble_eq_true rfl) dX3_keySign_9) (fun r hr9 => ?_)
  refine lv_istore_n (lv' := [(3, .int (zI r)), (2, .ref (G.2.1 12)), (0, .ref h), (1, .int (zI x))]) hx hb dX3_keySign_12 rfl hl (by decide) rfl (fun ls hl => ?_)
  refine lv_aload_n hx hb dX3_keySign_13 rfl (lv_at hl 2 rfl) ?_
  refine z_get (C := RX3) (T := TX3) (N := 4) hx hb hK hts u_in_X3 hown hP rfl 2 (by decide) q_fl_RX3_62 (v := .int (zI ky)) rfl dX3_keySign_14 ?_
  refine lv_iload_n hx hb dX3_keySign_17 rfl (lv_at hl 0 rfl) ?_
  refine z_icmp_le (a := ky) (b := r) (tgt := 25) hx hb dX3_keySign_18 (by decide) (by omega) (by omega) (fun _ => ?_) (fun _ => ?_)
  · refine lv_aload_n hx hb dX3_keySign_25 rfl (lv_at hl 2 rfl) ?_
    refine z_get (C := RX3) (T := TX3) (N := 4) hx hb hK hts u_in_X3 hown hP rfl 2 (by decide) q_fl_RX3_62 (v := .int (zI ky)) rfl dX3_keySign_26 ?_
    refine lv_iload_n hx hb dX3_keySign_29 rfl (lv_at hl 0 rfl) ?_
    refine z_bipush hx hb dX3_keySign_30 (by decide) ?_
    refine z_isub (x := r) (y := 6) hx hb dX3_keySign_32 ?_
    refine z_icmp_ge (a := ky) (b := r - 6) (tgt := 40) hx hb dX3_keySign_33 (by decide) (by omega) (by omega) (fun _ => ?_) (fun _ => ?_)
    · refine z_iconst hx hb dX3_keySign_40 ?_
      exact e_RB hx hb hr hlk (n_i _) ⟨by decide, by decide⟩ dX3_keySign_41
    · refine z_iconst hx hb dX3_keySign_36 ?_
      refine lv_goto (tgt := 41) hx hb dX3_keySign_37 (by decide) ?_
      exact e_RB hx hb hr hlk (n_i _) ⟨by decide, by decide⟩ dX3_keySign_41
  · refine z_iconst hx hb dX3_keySign_21 ?_
    refine lv_goto (tgt := 41) hx hb dX3_keySign_22 (by decide) ?_
    exact e_RB hx hb hr hlk (n_i _) ⟨by decide, by decide⟩ dX3_keySign_41
