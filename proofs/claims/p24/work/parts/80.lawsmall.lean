/-! the law's small helpers: a number below another, a cell of the script -/
theorem c_L_below (l : Launch) (G : zG) (x n : Int) (hn : 0 < n ∧ n ≤ 100) : MRB l yL_below cL_below 2 (some .int) 0 0 G [.int (zI x), .int (zI n)] (fun _ => True) (fun r => 0 ≤ r ∧ r < n) := by
  refine mrb_of hp_L_below (Nat.le_of_ble_eq_true rfl) ?_
  intro p env s m below meth c ls hB hP hl
  obtain ⟨hx, hb, hml, hr, hlk, hown, hts, hG⟩ := hB
  have hK := hG.1
  have hS : va_S fN s.heap s.heap [] := va_S.rf
  have hl : lv_has ls 2 [(0, .int (zI x)), (1, .int (zI n))] := hl
  refine lv_iload_n hx hb dL_below_0 rfl (lv_at hl 0 rfl) ?_
  refine lv_ldc (v := zI 2147483647) hx hb hown (hts _ q_k_RL_7) dL_below_1 ?_
  refine z_iandM hx hb dL_below_3 (fun w hw => ?_)
  refine lv_iload_n hx hb dL_below_4 rfl (lv_at hl 1 rfl) ?_
  refine z_iremt (x := w) (y := n) hx hb dL_below_5 (by omega) (by omega) ?_
  have e : w - w.tdiv n * n = w % n := by rw [Int.tdiv_eq_ediv_of_nonneg hw.1, Int.emod_def, Int.mul_comm]
  exact e_RB hx hb hr hlk (n_i _) (by rw [e]; exact ⟨Int.emod_nonneg _ (by omega), Int.emod_lt_of_pos _ hn.1⟩) dL_below_6
theorem c_L_cell (l : Launch) (G : zG) (k : Int) (hk : 0 ≤ k ∧ k ≤ 15) : MRB l yL_cell cL_cell 2 (some .int) 0 0 G [.ref (G.2.1 10), .int (zI k)] (fun _ => True) (fun r => -2147483648 ≤ r ∧ r ≤ 2147483647) := by
  refine mrb_of hp_L_cell (Nat.le_of_ble_eq_true rfl) ?_
  intro p env s m below meth c ls hB hP hl
  obtain ⟨hx, hb, hml, hr, hlk, hown, hts, hG⟩ := hB
  have hK := hG.1
  have hS : va_S fN s.heap s.heap [] := va_S.rf
  have hl : lv_has ls 2 [(0, .ref (G.2.1 10)), (1, .int (zI k))] := hl
  obtain ⟨hb1, hb2, xs, hX⟩ := hG.2.2.2.2.2.2.2.2.2.2.1
  have hbl : G.2.1 10 < s.heap.size := Nat.lt_of_lt_of_le hb1 hG.2.1
  obtain ⟨L, hL⟩ : ∃ L : Nat, L = G.2.1 11 := ⟨_, rfl⟩
  rw [← hL] at hb2 hX
  have hb2 : L ≤ 260 := hb2
  refine lv_iload_n hx hb dL_cell_0 rfl (lv_at hl 1 rfl) ?_
  refine lv_aload_n hx hb dL_cell_1 rfl (lv_at hl 0 rfl) ?_
  refine va_slen hx hb hX hbl (fun h => h.elim) hS dL_cell_2 ?_
  rw [show Int32.ofNat L = zI (L : Int) from (zI_nat _).symm]
  refine z_icmp_ge (a := k) (b := (L : Int)) (tgt := 12) hx hb dL_cell_3 (by decide) (by omega) (by omega) (fun h => ?_) (fun h => ?_)
  · refine lv_ldc (v := zI 790386105) hx hb hown (hts _ q_k_RL_8) dL_cell_12 ?_
    refine lv_iload_n hx hb dL_cell_14 rfl (lv_at hl 1 rfl) ?_
    refine z_iconst hx hb dL_cell_15 ?_
    refine z_iadd (x := k) (y := 3) hx hb dL_cell_16 ?_
    refine z_imul (x := 790386105) (y := k + 3) hx hb dL_cell_17 ?_
    generalize zI (790386105 * (k + 3)) = w
    rw [← zI_of w]
    exact e_RB hx hb hr hlk (n_i _) (zI_rng w) dL_cell_18
  · refine lv_aload_n hx hb dL_cell_6 rfl (lv_at hl 0 rfl) ?_
    refine lv_iload_n hx hb dL_cell_7 rfl (lv_at hl 1 rfl) ?_
    refine va_sld hx hb hX hbl (fun h => h.elim) hS (zI_in hk.1 (by omega) (by omega)) dL_cell_8 ?_
    generalize xs (zI k).toNatClampNeg = w
    rw [← zI_of w]
    refine lv_goto (tgt := 18) hx hb dL_cell_9 (by decide) ?_
    exact e_RB hx hb hr hlk (n_i _) (zI_rng w) dL_cell_18
/-! a value is cut into at most 38 pieces -/
section CB9
variable {b fr x N : Int}
theorem cb_step (hx : 0 ≤ x ∧ x < 15) (hb : 48 ≤ b ∧ b % 12 = 0) (hf : 0 ≤ fr ∧ fr % 12 = 0) (hall : ∀ j, 0 ≤ j → j < N → ctA b (fr + valT x) fr j < fr + valT x ∧ (fr ≤ ctA b (fr + valT x) fr j ∧ ctA b (fr + valT x) fr j % 12 = 0) ∧ ctA b (fr + valT x) fr (j + 1) = ctA b (fr + valT x) fr j + valT (kkC b (fr + valT x) (ctA b (fr + valT x) fr j))) :
    ∀ q : Nat, (q : Int) < N → 36 * (q : Int) ≤ 2 * (ctA b (fr + valT x) fr q - fr) + (if ctA b (fr + valT x) fr q % b = 0 then 12 else 0) := by
  have v12 := valT_12' hx
  intro q
  induction q with
  | zero => intro _; show 36 * 0 ≤ 2 * (fr - fr) + _; split <;> omega
  | succ q ih =>
    intro hq
    have i := ih (by omega)
    obtain ⟨a1, a2, a3⟩ := hall (q : Int) (by omega) (by omega)
    have nx := (hall ((q : Int) + 1) (by omega) (by omega)).1
    rw [show ((q + 1 : Nat) : Int) = (q : Int) + 1 by omega, a3]
    rw [a3] at nx
    generalize ctA b (fr + valT x) fr (q : Int) = a at i a1 a2 nx ⊢
    have k := kk_ok (b := b) (en := fr + valT x) (a := a) hb ⟨by omega, a2.2⟩ ⟨a1, by omega⟩
    have kf := kk_first (b := b) (en := fr + valT x) (a := a) hb ⟨by omega, a2.2⟩ ⟨a1, by omega⟩ (X := 13) (by decide)
    have k12 := valT_12' k.2.2.1
    have kr := valT_rng k.2.2.1
    have e13 : valT 13 = 24 := by decide
    rw [e13] at kf
    rcases Int.lt_or_le (min (fr + valT x - a) ((a / b + 1) * b - a)) 24 with z | z
    · have t12 : valT (kkC b (fr + valT x) a) = 12 := by omega
      have bnd : (a / b + 1) * b - a = 12 := by
        obtain ⟨y, hy⟩ : ∃ y, b = 12 * y := ⟨b / 12, by omega⟩
        have e4 : (a / b + 1) * b = 12 * ((a / b + 1) * y) := by rw [show (a / b + 1) * b = (a / b + 1) * (12 * y) by rw [← hy], Int.mul_left_comm]
        generalize (a / b + 1) * y = z9 at e4
        omega
      have md : (a + valT (kkC b (fr + valT x) a)) % b = 0 := by rw [t12, show a + 12 = (a / b + 1) * b by omega]; exact Int.mul_emod_left _ _
      rw [if_pos md]
      have nm : ¬ a % b = 0 := fun w => by
        have e1 := Int.mul_ediv_add_emod a b
        rw [w, Int.mul_comm] at e1
        have e3 : (a / b + 1) * b = a / b * b + b := by rw [Int.add_mul, Int.one_mul]
        omega
      rw [if_neg nm] at i
      omega
    · have k13 := kf.mp z
      have t24 : 24 ≤ valT (kkC b (fr + valT x) a) := by
        rcases (by omega : kkC b (fr + valT x) a = 13 ∨ kkC b (fr + valT x) a < 13) with w | w
        · rw [w, e13]; exact Int.le_refl _
        · have := valT_dec k.2.2.1.1 w (by decide); omega
      split at i <;> split <;> omega
theorem cb_le (hx : 0 ≤ x ∧ x < 15) (hb : 48 ≤ b ∧ b % 12 = 0) (hf : 0 ≤ fr ∧ fr % 12 = 0) (hN : N = cutN b (fr + valT x) fr) : 1 ≤ N ∧ N ≤ 38 := by
  obtain ⟨-, hN1, hend, hall⟩ := pc_all hx hb hf (fun _ => 0) hN
  have ct12 : ∀ q : Nat, (q : Int) ≤ N → ctA b (fr + valT x) fr q % 12 = 0 := fun q hq => (pc_steps hx hb hf (fun _ => 0) q (fun j j0 j1 => (hall j j0 (by omega)).2.1.2)).2.2.2.2.2
  have H : ∀ j, 0 ≤ j → j < N → ctA b (fr + valT x) fr j < fr + valT x ∧ (fr ≤ ctA b (fr + valT x) fr j ∧ ctA b (fr + valT x) fr j % 12 = 0) ∧ ctA b (fr + valT x) fr (j + 1) = ctA b (fr + valT x) fr j + valT (kkC b (fr + valT x) (ctA b (fr + valT x) fr j)) := fun j j0 j1 => by
    have q := hall j j0 j1
    have c := ct12 j.toNat (by omega)
    rw [Int.toNat_of_nonneg j0] at c
    exact ⟨q.2.1.2, ⟨q.2.1.1, c⟩, by rw [q.2.2.2.1, q.2.2.1]⟩
  have vt := valT_rng hx
  have s := cb_step hx hb hf H (N - 1).toNat (by omega)
  rw [show (((N - 1).toNat : Nat) : Int) = N - 1 by omega] at s
  have l := (H (N - 1) (by omega) (by omega)).1
  refine ⟨hN1.1, ?_⟩
  split at s <;> omega
end CB9
