/-! the law: its rows -/
def LX (p : Program) (l : Launch) (s : State) (m : MethodId) (args : Array Value) (c : Code) (G : zG) (b L : Nat) (xs : Nat → Int32) : Prop := (p.tables.exec = Jvm.exec ∧ c.code = cL_law ∧ c.maxLocals = 9 ∧ s.vm.findClass RL = some m.cls ∧ ∀ w ∈ lw_all, w.before args s = true) ∧ GK G s ∧ CT s ∧ va_X b L xs s s.heap ∧ b < s.heap.size ∧ l.stackTraces = false ∧ G.2.2 = s.heap.size
def AL (s : State) : Nat → Prop := fun q => s.heap.size ≤ q
def AD (ad am : Nat → Nat) (oa z : Nat) : Prop := (∀ k, k < 94 → z ≤ ad k ∧ ad k ≠ oa ∧ ∀ j, j < 11 → ad k ≠ am j) ∧ (∀ j, j < 11 → z ≤ am j ∧ am j ≠ oa) ∧ z ≤ oa
def JI (G : zG) (ad am : Nat → Nat) (oa : Nat) (tb : Int) (H : Heap) : Prop := ∃ (F : Nat → Int) (AC E : Nat → Int → Int) (T P S Av : Int → Nat → Int → Int) (Fv : Int → Nat → Int) (O : Int64) (FM : Nat → Int) (A : Nat → Int → Int) (B : Int → Int → Int), CP G ad F AC E T P S Av Fv H ∧ OP G oa O H ∧ MP G am FM A B H ∧ REL F E T P S Av Fv FM A B ∧ ecT A B (FM 4) ≤ tb
def sx (xs : Nat → Int32) (j : Int) : Int := (xs j.toNat).toInt
theorem sx_rng (xs : Nat → Int32) (j : Int) : -2147483648 ≤ sx xs j ∧ sx xs j ≤ 2147483647 := zI_rng _
theorem lC_self (x : Int64) : lC x x = 0 := by
  unfold lC lg_cmp
  rw [if_neg (by exact fun h => absurd h (by simp)), if_pos rfl]
  rfl
theorem HP.kr {G : zG} {oa : Nat} {O : Int64} {PO : Int64 → Heap → Prop} {ks : List (Int × String)} {PX : String → Heap → Prop} {k : Int} {H : Heap} (h : HP G oa O PO ks PX k H) (hks : ∀ q ∈ ks, 0 ≤ q.1 ∧ q.1 ≤ 3) : -2147483648 ≤ k ∧ k ≤ 2147483647 := by
  rcases h with ⟨rfl, -⟩ | ⟨-, q, hq, rfl, -⟩
  · exact ⟨by decide, by decide⟩
  · have := hks q hq
    omega
theorem MP.k9 {G : zG} {am : Nat → Nat} {FM : Nat → Int} {A : Nat → Int → Int} {B : Int → Int → Int} {H H1 : Heap} (h : MP G am FM A B H) (ho : ∀ k, k < 11 → H1[am k]? = H[am k]?) : MP G am FM A B H1 := PP.kept h ho
section AD9
variable {ad am : Nat → Nat} {oa z sz j k : Nat}
theorem AD.amh (D : AD ad am oa z) (hj : j < 11) (hl : am j < sz) : ¬ hA9 ad oa sz (am j) := fun h => h.elim (fun h => h.elim (fun ⟨k, hk, e⟩ => (D.1 k hk).2.2 j hj e.symm) (fun h => absurd hl (Nat.not_lt.mpr h))) (fun e => (D.2.1 j hj).2 e)
theorem AD.amc (D : AD ad am oa z) (hj : j < 11) (hl : am j < sz) : ¬ fA 94 ad sz (am j) := fun h => D.amh hj hl (Or.inl h)
theorem AD.adm (D : AD ad am oa z) (hk : k < 94) (hl : ad k < sz) : ¬ fA 11 am sz (ad k) := fun h => h.elim (fun ⟨j, hj, e⟩ => (D.1 k hk).2.2 j hj e) (fun h => absurd hl (Nat.not_lt.mpr h))
theorem AD.oam (D : AD ad am oa z) (hl : oa < sz) : ¬ fA 11 am sz oa := fun h => h.elim (fun ⟨j, hj, e⟩ => (D.2.1 j hj).2 e.symm) (fun h => absurd hl (Nat.not_lt.mpr h))
theorem AD.ne (D : AD ad am oa z) : ∀ k, k < 94 → ad k ≠ oa := fun k hk => (D.1 k hk).2.1
theorem AD.sh (D : AD ad am oa z) (hz : z ≤ sz) : ∀ q, hA9 ad oa sz q → z ≤ q := fun q h => h.elim (fun h => h.elim (fun ⟨k, hk, e⟩ => e ▸ (D.1 k hk).1) (fun h => Nat.le_trans hz h)) (fun e => e ▸ D.2.2)
theorem AD.sc (D : AD ad am oa z) (hz : z ≤ sz) : ∀ q, fA 94 ad sz q → z ≤ q := fun q h => D.sh hz q (Or.inl h)
theorem AD.sm (D : AD ad am oa z) (hz : z ≤ sz) : ∀ q, fA 11 am sz q → z ≤ q := fun q h => h.elim (fun ⟨k, hk, e⟩ => e ▸ (D.2.1 k hk).1) (fun h => Nat.le_trans hz h)
end AD9
section LW9
variable {p : Program} {l : Launch} {e : Env} {R : Room} {s : State} {m : MethodId} {args : Array Value} {below : List Frame} {meth : Method} {c : Code} {H : Heap} {locs : List Loc} {cells slots : Nat} {Q : State → Prop}
variable {cc : ByteArray} {pc : Nat} {ls : Array Slot} {rest st0 : List Value} {A A1 : Nat → Prop} {H0 : Heap} {G : zG} {mc ms : Nat}
theorem z_sld {b L : Nat} {xs : Nat → Int32} (X : LX p l s m args c G b L xs) (hS : va_S (AL s) s.heap H locs) {j : Int} (hj : 0 ≤ j ∧ j < L) (hL : L ≤ 4096) (hdg : decode cL_law pc = .ok (.iaload, 1))
    (kk : W p l e R s m args below meth c H locs cells slots Q (F0 m (pc + 1) ls (.int (zI (sx xs j)) :: rest))) : W p l e R s m args below meth c H locs cells slots Q (F0 m pc ls (.int (zI j) :: .ref b :: rest)) := by
  refine va_sld X.1.1 X.1.2.1 X.2.2.2.1 X.2.2.2.2.1 (fun h => absurd X.2.2.2.2.1 (Nat.not_lt.mpr h)) hS (zI_in hj.1 hj.2 (by omega)) hdg ?_
  rw [zI_cl hj.1 (by omega), ← zI_of (xs j.toNat)]
  exact kk
theorem z_nz (hexec : p.tables.exec = Jvm.exec) (hb : c.code = cc) {v : Int} (hv : -2147483648 ≤ v ∧ v ≤ 2147483647) (d0 : decode cc pc = .ok (.ifCond .eq 7, 3)) (d3 : decode cc (pc + 3) = .ok (.iconst 1, 1)) (d4 : decode cc (pc + 4) = .ok (.goto 4, 3)) (d7 : decode cc (pc + 7) = .ok (.iconst 0, 1))
    (kk : W p l e R s m args below meth c H locs cells slots Q (F0 m (pc + 8) ls (.int (zI (bI (¬ v = 0))) :: rest))) : W p l e R s m args below meth c H locs cells slots Q (F0 m pc ls (.int (zI v) :: rest)) := by
  refine z_if_eq (a := v) (tgt := pc + 7) hexec hb d0 (by omega) hv (fun h => ?_) (fun h => ?_)
  · refine z_iconst hexec hb d7 ?_
    rw [bI_f (p := ¬ v = 0) (fun q => q h)]
    exact kk
  · refine z_iconst hexec hb d3 ?_
    refine lv_goto (tgt := pc + 8) hexec hb d4 (by omega) ?_
    rw [bI_t (p := ¬ v = 0) h]
    exact kk
theorem good_H {own : String} {idx n : Nat} {y : MethodName} {cc : ByteArray} {ret : Option FieldType} {hh : List (Nat × Nat × Nat × Nat)} (h : Cond.methodLink own idx y ∈ lw_all ∧ Cond.static y ∈ lw_all ∧ Cond.initialized y.cls ∈ lw_all ∧ Cond.codeWith y cc n ret hh ∈ lw_all) : GoodIn lw_all (va_wsS own idx y (lw_mw y cc n ret hh)) := by
  intro w hw
  unfold va_wsS at hw
  simp only [List.mem_append, List.mem_cons, List.not_mem_nil, or_false] at hw
  rcases hw with h1 | h1
  · rcases h1 with rfl | rfl | rfl
    all_goals first | exact ⟨h.1, lw_good h.1⟩ | exact ⟨h.2.1, lw_good h.2.1⟩ | exact ⟨h.2.2.1, lw_good h.2.2.1⟩
  · rcases h1 with rfl | h1
    · exact ⟨h.2.2.2, lw_good h.2.2.2⟩
    · exact ⟨h1, lw_good h1⟩
theorem c_H {y : MethodName} {bytes : ByteArray} {maxL nL n f lo idx : Nat} {hh : List (Nat × Nat × Nat × Nat)} {own : String} {As : List Value} {Pic : Heap → Prop} {Post : Int → Heap → Prop}
    (S : p.tables.exec = Jvm.exec ∧ c.code = cc ∧ c.maxLocals = nL ∧ s.vm.findClass own = some m.cls ∧ ∀ w ∈ lw_all, w.before args s = true) (hG : GK G s) (hC : CT s) (hS : va_S A s.heap H locs) (hA : ∀ q, A q → G.2.2 ≤ q)
    (hM : HM l y bytes maxL hh f lo mc ms G As A1 H.size Pic Post)
    (hw : Cond.methodLink own idx y ∈ lw_all ∧ Cond.static y ∈ lw_all ∧ Cond.initialized y.cls ∈ lw_all ∧ Cond.codeWith y bytes maxL (some .int) hh ∈ lw_all)
    (hd : y.cls ≠ "java/lang/invoke/MethodHandle" ∧ y.cls ≠ "java/lang/invoke/VarHandle" ∧ (parseMethodDescriptor y.desc).map (fun d => d.parameters.length) = some n)
    (hP : Pic H) (hR : f + 1 ≤ R.frames ∧ 8 + (maxL + 11) + lo ≤ R.locals) (hfit : cells + mc ≤ R.cells ∧ slots + ms ≤ R.slots)
    (hn : As.length = n) (hsize : ls.size = nL) (hstack : st0 = As.reverse ++ rest) (hcat : (rest.map fun v => v.category).sum ≤ 8) (hdg : decode cc pc = .ok (.invokestatic idx, 3)) :
    va_Run p l e R s m args below meth c H locs cells slots mc ms (F0 m pc ls st0) rest (QW A1 Post As.toArray) A1 := by
  obtain ⟨hx, hb, hml, hown, hts⟩ := S
  exact vx_runSW (hh := hh) (As := As) (rest := rest) (Ts := lw_all) (own := own) ⟨hx, hb, hml, hown, hts⟩ hM (vx_cwSW n hts (good_H hw) rfl rfl rfl hd hR) ⟨Ph_blind G _ _ Pic, fun U hU hW => ⟨rfl, ⟨GK_call hG hS hA hU hW, hC.warm hW⟩, by rw [hU]; exact ⟨rfl, hP⟩⟩⟩ rfl hn hsize hstack (lv_room hcat) hdg hfit
end LW9
