/-! numbers of the machine by whole numbers -/
def zI (z : Int) : Int32 := Int32.ofInt z
theorem zI_toInt {a : Int} (h : -2147483648 ≤ a ∧ a ≤ 2147483647) : (zI a).toInt = a := Int32.toInt_ofInt_of_le (by omega) (by omega)
theorem zI_of (x : Int32) : zI x.toInt = x := Int32.ofInt_toInt x
theorem zI_rng (x : Int32) : -2147483648 ≤ x.toInt ∧ x.toInt ≤ 2147483647 := by
  have h1 := Int32.toInt_lt x
  have h2 := Int32.le_toInt x
  omega
theorem zI_add (a b : Int) : zI a + zI b = zI (a + b) := (Int32.ofInt_add a b).symm
theorem zI_sub (a b : Int) : zI a - zI b = zI (a - b) := (Int32.ofInt_sub a b).symm
theorem zI_mul (a b : Int) : zI a * zI b = zI (a * b) := (Int32.ofInt_mul a b).symm
theorem zI_neg (a : Int) : -zI a = zI (-a) := (Int32.ofInt_neg a).symm
theorem zI_lt {a b : Int} (ha : -2147483648 ≤ a ∧ a ≤ 2147483647) (hb : -2147483648 ≤ b ∧ b ≤ 2147483647) : zI a < zI b ↔ a < b := by
  rw [Int32.lt_iff_toInt_lt, zI_toInt ha, zI_toInt hb]
theorem zI_le {a b : Int} (ha : -2147483648 ≤ a ∧ a ≤ 2147483647) (hb : -2147483648 ≤ b ∧ b ≤ 2147483647) : zI a ≤ zI b ↔ a ≤ b := by
  rw [Int32.le_iff_toInt_le, zI_toInt ha, zI_toInt hb]
theorem zI_eq {a b : Int} (ha : -2147483648 ≤ a ∧ a ≤ 2147483647) (hb : -2147483648 ≤ b ∧ b ≤ 2147483647) : zI a = zI b ↔ a = b := by
  rw [← Int32.toInt_inj, zI_toInt ha, zI_toInt hb]
theorem zI_0 : zI 0 = 0 := rfl
theorem zI_nat (n : Nat) : zI (n : Int) = nI n := Int32.ofInt_eq_ofNat
theorem zI_cl {i : Int} (h0 : 0 ≤ i) (h1 : i ≤ 2147483647) : (zI i).toNatClampNeg = i.toNat := by
  show (zI i).toInt.toNat = i.toNat
  rw [zI_toInt ⟨by omega, h1⟩]
theorem zI_in {i : Int} {n : Nat} (h0 : 0 ≤ i) (h : i < n) (hn : n ≤ 2147483647) : vp_in (zI i) n := by
  rw [vp_in_iff, zI_toInt ⟨by omega, by omega⟩]
  exact ⟨h0, h⟩
theorem zI_div {a b : Int} (ha : 0 ≤ a ∧ a ≤ 2147483647) (hb : 0 < b ∧ b ≤ 2147483647) : zI a / zI b = zI (a / b) := by
  obtain ⟨x, rfl⟩ : ∃ x : Nat, a = x := ⟨a.toNat, by omega⟩
  obtain ⟨y, rfl⟩ : ∃ y : Nat, b = y := ⟨b.toNat, by omega⟩
  rw [zI_nat, zI_nat, pk_div (by omega) (by omega) (by omega), ← zI_nat]
  congr 1
theorem zI_ne0 {b : Int} (hb : 0 < b ∧ b ≤ 2147483647) : ¬ zI b = 0 := by
  rw [← zI_0, zI_eq ⟨by omega, by omega⟩ ⟨by omega, by omega⟩]
  omega
theorem zI_shr1 {a : Int} (ha : 0 ≤ a ∧ a ≤ 2147483647) : zI a >>> (zI 1 &&& 31) = zI (a / 2) := by
  obtain ⟨x, rfl⟩ : ∃ x : Nat, a = x := ⟨a.toNat, by omega⟩
  rw [zI_nat, show (zI 1 &&& 31) = 1 by decide, pk_shrN (by omega) 1 1 (by decide), ← zI_nat]
  congr 1
theorem zI_and1 {a : Int} (ha : 0 ≤ a ∧ a ≤ 2147483647) : zI a &&& zI 1 = zI (a % 2) := by
  obtain ⟨x, rfl⟩ : ∃ x : Nat, a = x := ⟨a.toNat, by omega⟩
  rw [zI_nat, pk_andN (by omega) 1 (by decide), ← zI_nat]
  congr 1
/-- an array's contents -/
abbrev zA (F : Int → Int) : Nat → Int32 := fun k => zI (F (k : Int))
def zU (F : Int → Int) (i x : Int) : Int → Int := fun j => if j = i then x else F j
def zR (T : Nat → Int → Int) (w : Nat) (i x : Int) : Nat → Int → Int := fun v j => if v = w ∧ j = i then x else T v j
def zN (F : Nat → Int) (k : Nat) (x : Int) : Nat → Int := fun j => if j = k then x else F j
theorem zU_s (F : Int → Int) (i x : Int) : zU F i x i = x := if_pos rfl
theorem zU_n {F : Int → Int} {i x j : Int} (h : j ≠ i) : zU F i x j = F j := if_neg h
theorem zR_s (T : Nat → Int → Int) (w : Nat) (i x : Int) : zR T w i x w i = x := if_pos ⟨rfl, rfl⟩
theorem zR_n {T : Nat → Int → Int} {w v : Nat} {i x j : Int} (h : v ≠ w ∨ j ≠ i) : zR T w i x v j = T v j := if_neg (fun q => h.elim (fun z => z q.1) (fun z => z q.2))
theorem zN_s (F : Nat → Int) (k : Nat) (x : Int) : zN F k x k = x := if_pos rfl
theorem zN_n {F : Nat → Int} {k j : Nat} {x : Int} (h : j ≠ k) : zN F k x j = F j := if_neg h
theorem zR_row (T : Nat → Int → Int) (w : Nat) (i x : Int) : zR T w i x w = zU (T w) i x := by
  funext j
  unfold zR zU
  simp
theorem zR_off {T : Nat → Int → Int} {w v : Nat} (i x : Int) (h : v ≠ w) : zR T w i x v = T v := by
  funext j
  unfold zR
  simp [h]
theorem zA_at {F : Int → Int} {i : Int} (h0 : 0 ≤ i) (h1 : i ≤ 2147483647) : (zA F) (zI i).toNatClampNeg = zI (F i) := by
  show zI (F ((zI i).toNatClampNeg : Int)) = _
  rw [zI_cl h0 h1, Int.toNat_of_nonneg h0]
theorem zA_up {F : Int → Int} {i x : Int} (h0 : 0 ≤ i) (h1 : i ≤ 2147483647) : upd (zA F) (zI i).toNatClampNeg (zI x) = zA (zU F i x) := by
  funext j
  rw [zI_cl h0 h1]
  unfold upd zU
  by_cases h : j = i.toNat
  · have h2 : (j : Int) = i := by omega
    rw [if_pos h]
    show _ = zI (if (j : Int) = i then x else F j)
    rw [if_pos h2]
  · have h2 : ¬ (j : Int) = i := by omega
    rw [if_neg h]
    show _ = zI (if (j : Int) = i then x else F j)
    rw [if_neg h2]
/-! the classes' numbers, what never changes -/
abbrev zG : Type := va_G × (Nat → ClassId)
abbrev zT (G : zG) : List (ClassId × FieldType) := [(G.2 0, .int), (G.2 1, .array .int), (G.2 2, .object RX1), (G.2 3, .long)]
def nestM : List (String × Nat × MethodName × String) := [(RX2, 17, yX0_init, RX2), (RX2, 43, yX1_init, RX2), (RX1, 117, yX2_signOfKey, RX2), (RX1, 127, yX2_wholeParts, RX2), (RX1, 64, yX2_toneOf, RX2), (RX1, 72, yX2_signAt, RX2), (RX1, 79, yX2_stepAt, RX2), (RX1, 82, yX2_octaveAt, RX2), (RX1, 85, yX2_isPitch, RX2)]
def nestF : List (String × Nat × String × String × String × String) := [(RX1, 55, "ScorePress", "VALUE_TICKS", "[I", RX2), (RX1, 58, "ScorePress", "VALUE_PARTS", "[I", RX2), (RX1, 61, "ScorePress", "VALUE_DOTS", "[I", RX2)]
def statT : List (String × String × List Int) := [("ScorePress", "STEP_TONES", [0, 2, 4, 5, 7, 9, 11]), ("ScorePress", "SHARP_PLACES", [1, 3, 5, 0, 2, 4, 6]), ("ScorePress", "VALUE_PARTS", [1, 1, 1, 2, 2, 2, 4, 4, 4, 8, 8, 8, 16, 16, 32]), ("ScorePress", "VALUE_DOTS", [2, 1, 0, 2, 1, 0, 2, 1, 0, 2, 1, 0, 1, 0, 0]), ("ScorePress", "VALUE_TICKS", [672, 576, 384, 336, 288, 192, 168, 144, 96, 84, 72, 48, 36, 24, 12]), ("ScorePressModel", "TONES", [0, 2, 4, 5, 7, 9, 11]), ("ScorePressModel", "RAISED", [3, 0, 4, 1, 5, 2, 6]), ("ScorePressModel", "PARTS", [1, 1, 1, 2, 2, 2, 4, 4, 4, 8, 8, 8, 16, 16, 32]), ("ScorePressModel", "DOTS", [2, 1, 0, 2, 1, 0, 2, 1, 0, 2, 1, 0, 1, 0, 0])]
/-- a table's content, by its place in statT -/
def tb (j : Nat) (k : Int) : Int := ((statT.getD j ("", "", [])).2.2).getD k.toNat 0
def zlen (j : Nat) : Nat := ((statT.getD j ("", "", [])).2.2).length
