def tkE (S : Nat → Int → Int) (k : Int) : Int := if k % 2 = 0 then S 0 (k / 2) else S 1 (k / 2)
set_option maxHeartbeats 600000 in
theorem c_X0_isBeginning (l : Launch) (G : zG)  (k : Int) (hk : 0 ≤ k ∧ k < 400) : MR l yX0_isBeginning cX0_isBeginning 1 (some .boolean) 0 0 G [.int (zI (k))] ((fun _ => True)) (.int (zI (bI (k % 2 = 0)))) := by
  refine mr_of hp_X0_isBeginning (Nat.le_of_ble_eq_true rfl) ?_
  intro p env s m below meth c ls hB hP hl
  obtain ⟨hx, hb, hml, hr, hlk, hown, hts, hG⟩ := hB
  have hK := hG.1
  have hS : va_S (fun _ => False) s.heap s.heap [] := va_S.rf
  have hA : ∀ q : Nat, (fun _ : Nat => False) q → G.2.2 ≤ q := fun _ h => h.elim
  have hl : lv_has ls 1 [(0, .int (zI (k)))] := hl
  refine lv_iload_n hx hb dX0_isBeginning_0 rfl (lv_at hl 0 rfl) ?_
  refine z_iconst hx hb dX0_isBeginning_1 ?_
  refine z_iand1 hx hb dX0_isBeginning_2 (by omega) ?_
  refine z_if_ne (a := (k) % 2) (tgt := 10) hx hb dX0_isBeginning_3 (by decide) (by omega) (fun h_3 => ?_) (fun h_3 => ?_)
  · skip
    refine z_iconst hx hb dX0_isBeginning_10 ?_
    exact e_R (r' := 0) hx hb hr hlk (n_z (by first | exact bI_01 _ | (left; rfl) | (right; rfl) | omega)) (bI_f (by omega)) dX0_isBeginning_11
  · skip
    refine z_iconst hx hb dX0_isBeginning_6 ?_
    refine lv_goto (tgt := 11) hx hb dX0_isBeginning_7 (by decide) ?_
    exact e_R (r' := 1) hx hb hr hlk (n_z (by first | exact bI_01 _ | (left; rfl) | (right; rfl) | omega)) (bI_t (by omega)) dX0_isBeginning_11
