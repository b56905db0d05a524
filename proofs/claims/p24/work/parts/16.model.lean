/-! the model: F thrown beats part key voices eventMany, A many ends beams holding events, B the tables -/
def zB (B : Int → Int → Int) (v i x : Int) : Int → Int → Int := fun u j => if u = v ∧ j = i then x else B u j
section MPS
variable {G : zG} {ad : Nat → Nat} {F : Nat → Int} {A : Nat → Int → Int} {B : Int → Int → Int} {H : Heap}
end MPS
section ZM
variable {p : Program} {l : Launch} {e : Env} {R : Room} {s : State} {m : MethodId} {args : Array Value} {below : List Frame} {meth : Method} {c : Code} {H : Heap} {locs : List Loc} {cells slots : Nat} {Q : State → Prop}
variable {cc : ByteArray} {pc : Nat} {ls : Array Slot} {rest : List Value} {D : Nat → Prop} {H0 : Heap}
variable {G : zG} {ad : Nat → Nat} {F : Nat → Int} {A : Nat → Int → Int} {B : Int → Int → Int}
end ZM
/-- the ticks of a value -/
def tkO (pa d : Int) : Int := 384 / pa + (if 0 < d then 384 / pa / 2 else 0) + (if 1 < d then 384 / pa / 4 else 0)
/-- part and dots are those of a value -/
abbrev VK (pa d : Int) : Prop := ∃ k, (0 ≤ k ∧ k < 15) ∧ valP k = pa ∧ valD k = d
theorem tkO_val {k : Int} (h : 0 ≤ k ∧ k < 15) : tkO (valP k) (valD k) = valT k := co15 (q := fun k => tkO (valP k) (valD k) = valT k) (by decide) h
theorem VK_rng {pa d : Int} (h : VK pa d) : (1 ≤ pa ∧ pa ≤ 32) ∧ (0 ≤ d ∧ d ≤ 2) ∧ 12 ≤ tkO pa d ∧ tkO pa d ≤ 672 := by
  obtain ⟨k, hk, rfl, rfl⟩ := h
  have h1 := valP_rng hk
  have h2 := valD_rng hk
  have h3 := valT_rng hk
  rw [tkO_val hk]
  omega
def MOK (F : Nat → Int) (A : Nat → Int → Int) (B : Int → Int → Int) : Prop :=
  (1 ≤ F 1 ∧ F 1 ≤ 12) ∧ (F 2 = 2 ∨ F 2 = 4 ∨ F 2 = 8) ∧ (-7 ≤ F 3 ∧ F 3 ≤ 7) ∧ (0 ≤ F 4 ∧ F 4 ≤ 4) ∧ ∀ v, 0 ≤ v → v < 4 → (0 ≤ A 0 v ∧ A 0 v ≤ 200) ∧ ∀ e, 0 ≤ e → e < A 0 v →
    VK (B v (10 * e + 0)) (B v (10 * e + 1)) ∧ (0 ≤ B v (10 * e + 2) ∧ B v (10 * e + 2) ≤ 1) ∧ (0 ≤ B v (10 * e + 3) ∧ B v (10 * e + 3) < 7) ∧ (-2 ≤ B v (10 * e + 4) ∧ B v (10 * e + 4) ≤ 2) ∧ (0 ≤ B v (10 * e + 5) ∧ B v (10 * e + 5) < 9) ∧ (0 ≤ B v (10 * e + 6) ∧ B v (10 * e + 6) ≤ 1)
/-- an element's facts -/
theorem MOK.el {F : Nat → Int} {A : Nat → Int → Int} {B : Int → Int → Int} (h : MOK F A B) {v e : Int} (hv : 0 ≤ v ∧ v < 4) (he : 0 ≤ e ∧ e < A 0 v) :
    (1 ≤ B v (10 * e + 0) ∧ B v (10 * e + 0) ≤ 32) ∧ (0 ≤ B v (10 * e + 1) ∧ B v (10 * e + 1) ≤ 2) ∧ (12 ≤ tkO (B v (10 * e + 0)) (B v (10 * e + 1)) ∧ tkO (B v (10 * e + 0)) (B v (10 * e + 1)) ≤ 672) ∧ (0 ≤ B v (10 * e + 2) ∧ B v (10 * e + 2) ≤ 1) ∧ (0 ≤ B v (10 * e + 3) ∧ B v (10 * e + 3) < 7) ∧ (-2 ≤ B v (10 * e + 4) ∧ B v (10 * e + 4) ≤ 2) ∧ (0 ≤ B v (10 * e + 5) ∧ B v (10 * e + 5) < 9) ∧ (0 ≤ B v (10 * e + 6) ∧ B v (10 * e + 6) ≤ 1) := by
  have q := (h.2.2.2.2 v hv.1 hv.2).2 e he.1 he.2
  have r := VK_rng q.1
  exact ⟨r.1, r.2.1, r.2.2, q.2⟩
theorem MOK.many {F : Nat → Int} {A : Nat → Int → Int} {B : Int → Int → Int} (h : MOK F A B) {v : Int} (hv : 0 ≤ v ∧ v < 4) : 0 ≤ A 0 v ∧ A 0 v ≤ 200 := (h.2.2.2.2 v hv.1 hv.2).1
def mTn (B : Int → Int → Int) (v e : Int) : Int := if B v (10 * e + 2) = 0 then -1 else toneF (B v (10 * e + 3)) (B v (10 * e + 4)) (B v (10 * e + 5))
def mTk (B : Int → Int → Int) (v e : Int) : Int := tkO (B v (10 * e + 0)) (B v (10 * e + 1))
theorem mTn_rng {F : Nat → Int} {A : Nat → Int → Int} {B : Int → Int → Int} (h : MOK F A B) {v e : Int} (hv : 0 ≤ v ∧ v < 4) (he : 0 ≤ e ∧ e < A 0 v) : -2 ≤ mTn B v e ∧ mTn B v e ≤ 109 := by
  have q := h.el hv he
  have r := stepT_rng q.2.2.2.2.1
  unfold mTn toneF
  split <;> omega
def sgM (key st : Int) : Int := if fp (fun k => ([3, 0, 4, 1, 5, 2, 6] : List Int).getD k.toNat 0 = st) 7 < 7 then (if fp (fun k => ([3, 0, 4, 1, 5, 2, 6] : List Int).getD k.toNat 0 = st) 7 < key then 1 else if 6 - fp (fun k => ([3, 0, 4, 1, 5, 2, 6] : List Int).getD k.toNat 0 = st) 7 < -key then -1 else 0) else 0
def isV (pa d : Int) (n : Int) : Int := pf 0 (fun k a => if a = 0 then bI (valP k = pa ∧ valD k = d) else 1) n
theorem isV_01 {pa d n : Int} (h : 0 ≤ n) : isV pa d n = 0 ∨ isV pa d n = 1 := by
  refine pf_ind (fun (n : Int) (a : Int) => a = 0 ∨ a = 1) (Or.inl rfl) ?_ h
  intro i a _ _
  split
  · exact bI_01 _
  · exact Or.inr rfl

