theorem q_ml_copy : Cond.methodLink RX3 113 arraycopyName ∈ lw_all := lw_all_t 741 (by decide +kernel) (by decide +kernel)
theorem q_st_copy : Cond.static arraycopyName ∈ lw_all := lw_all_t 742 (by decide +kernel) (by decide +kernel)
theorem q_nat_copy : Cond.native arraycopyName ∈ lw_all := lw_all_t 743 (by decide +kernel) (by decide +kernel)
def zcp (f g : Int → Int) (sp dp n : Int) : Int → Int := fun k => if dp ≤ k ∧ k < dp + n then f (sp + (k - dp)) else g k
section ZCN
variable {p : Program} {l : Launch} {e : Env} {R : Room} {s : State} {m : MethodId} {args : Array Value} {below : List Frame} {meth : Method} {c : Code} {H : Heap} {locs : List Loc} {cells slots : Nat} {Q : State → Prop}
variable {cc : ByteArray} {pc : Nat} {ls : Array Slot} {rest : List Value} {D : Nat → Prop} {H0 : Heap} {G : zG} {a a0 : Nat}
theorem z_newI (hexec : p.tables.exec = Jvm.exec) (hb : c.code = cc) (hts : ∀ w ∈ lw_all, w.before args s = true) (hK : va_K G.1 vwCl (zT G) s) (hS : va_S D H0 H locs) {n : Int} (hn : 0 ≤ n ∧ n ≤ 10000) (hcells : cells + 1 ≤ R.cells) (hslots : slots + n.toNat ≤ R.slots) (hdg : decode cc pc = .ok (.newarray .int, 2))
    (kk : ∀ H1 : Heap, va_at G.1 vwCl (H.size, .inl (G.2.1 0, n.toNat, .inl (zA (fun _ => 0)))) H1 → H1.size = H.size + 1 → (∀ q : Nat, q < H.size → H1[q]? = H[q]?) → va_S D H0 H1 locs → W p l e R s m args below meth c H1 locs (cells + 1) (slots + n.toNat) Q (F0 m (pc + 2) ls (.ref H.size :: rest))) : W p l e R s m args below meth c H locs cells slots Q (F0 m pc ls (.int (zI n) :: rest)) := by
  have hcl := zI_cl hn.1 (by omega : n ≤ 2147483647)
  refine va_newaK (atype := .int) (N := n.toNat) hexec hb (hts _ q_arr_int) rfl hdg rfl ?_ hcl ?_ hcells hslots rfl fun H1 cA e1 z1 o1 hAr hNm => ?_
  · rw [← zI_0, zI_lt ⟨by omega, by omega⟩ ⟨by omega, by omega⟩]; omega
  · show n.toNat * 4 ≤ _; omega
  · have hcA : G.2.1 0 = cA := Option.some.inj ((hK.2 0 _ rfl).2.symm.trans hNm)
    refine kk H1 ?_ z1 o1 ⟨Nat.le_trans hS.1 (by omega), fun q h1 h2 => (o1 q (Nat.lt_of_lt_of_le h1 hS.1)).trans (hS.2.1 q h1 h2), hS.2.2⟩
    rw [hcA]
    exact e1
theorem z_copy (hexec : p.tables.exec = Jvm.exec) (hb : c.code = cc) (hml : c.maxLocals = ls.size) (hown : s.vm.findClass RX3 = some m.cls) (hts : ∀ w ∈ lw_all, w.before args s = true) (hini : (Cond.initialized "java/lang/System").before args s = true)
    (hK : va_K G.1 vwCl (zT G) s) (hS : va_S D H0 H locs) (hD : D a) {n0 n1 : Nat} {f g : Int → Int} (ha0 : va_at G.1 vwCl (a0, .inl (G.2.1 0, n0, .inl (zA f))) H) (ha1 : va_at G.1 vwCl (a, .inl (G.2.1 0, n1, .inl (zA g))) H)
    {sp dp n : Int} (h1 : 0 ≤ sp) (h2 : 0 ≤ dp) (h3 : 0 ≤ n) (h4 : sp + n ≤ n0) (h5 : dp + n ≤ n1) (h6 : n0 ≤ 1000000 ∧ n1 ≤ 1000000)
    (hframes : 1 ≤ R.frames) (hlocals : (rest.map fun v => v.category).sum + 18 ≤ R.locals) (hdg : decode cc pc = .ok (.invokestatic 113, 3))
    (kk : ∀ (H1 : Heap) (locs1 : List Loc), va_at G.1 vwCl (a, .inl (G.2.1 0, n1, .inl (zA (zcp f g sp dp n)))) H1 → H1.size = H.size → (∀ q : Nat, q ≠ a → H1[q]? = H[q]?) → va_S D H0 H1 locs1 → W p l e R s m args below meth c H1 locs1 cells slots Q (F0 m (pc + 3) ls rest)) : W p l e R s m args below meth c H locs cells slots Q (F0 m pc ls (.int (zI n) :: .int (zI dp) :: .ref a :: .int (zI sp) :: .ref a0 :: rest)) := by
  have c1 := zI_cl h1 (by omega : sp ≤ 2147483647)
  have c2 := zI_cl h2 (by omega : dp ≤ 2147483647)
  have c3 := zI_cl h3 (by omega : n ≤ 2147483647)
  have nn : ∀ z : Int, 0 ≤ z → z ≤ 2147483647 → ¬ zI z < 0 := fun z hz hz2 => by
    rw [← zI_0, zI_lt ⟨by omega, by omega⟩ ⟨by omega, by omega⟩]; omega
  intro T hT X
  have hc0 : H[a0]? = some (vp_cell (G.2.1 0) (n0, .inl (zA f))) := ha0
  have hc1 : H[a]? = some (vp_cell (G.2.1 0) (n1, .inl (zA g))) := ha1
  obtain ⟨-, k0, hk0, cm0, hkk0⟩ := (hK.2 0 _ rfl).1 n0 (fun j => .int (zA f j))
  obtain ⟨-, k1, hk1, cm1, hkk1⟩ := (hK.2 0 _ rfl).1 n1 (fun j => .int (zA g j))
  obtain ⟨vm', X', step⟩ := X.arraycopy hexec hown (hts _ q_ml_copy) (hts _ q_nat_copy) (hts _ q_st_copy) hini (src := a0) (dst := a) (cs := vp_cell (G.2.1 0) (n0, .inl (zA f))) (cd := vp_cell (G.2.1 0) (n1, .inl (zA g))) (srcPos := zI sp) (destPos := zI dp) (n := zI n) (by rw [hT]; exact hc0) (by rw [hT]; exact hc1)
    (fun _ h => by cases h) (fun _ h => by cases h) (fun h => by cases h) (fun h => by cases h) hk0 hk1 hkk0 hkk1 (by simp [refKind]) (nn _ h1 (by omega)) (nn _ h2 (by omega)) (nn _ h3 (by omega))
    (by rw [zI_toInt ⟨by omega, by omega⟩, zI_toInt ⟨by omega, by omega⟩]; show ¬ _ > ((arrV _ n0 (fun j => .int (zA f j))).slots.size : Int); rw [arrV_size]; omega)
    (by rw [zI_toInt ⟨by omega, by omega⟩, zI_toInt ⟨by omega, by omega⟩]; show ¬ _ > ((arrV _ n1 (fun j => .int (zA g j))).slots.size : Int); rw [arrV_size]; omega)
    (fun vm₁ _ i hi => by
      have e : (vp_cell (G.2.1 0) (n0, .inl (zA f))).slots.getD ((zI sp).toNatClampNeg + i) .null = .int (zA f ((zI sp).toNatClampNeg + i)) := by
        show (arrV (G.2.1 0) n0 (fun j => .int (zA f j))).slots.getD _ _ = _
        rw [Array.getD_eq_getD_getElem?, arrV_read _ _ (by rw [c1]; rw [c3] at hi; omega)]
        rfl
      refine ⟨?_, ?_⟩
      · rw [e]; rfl
      · rw [e]
        exact trivial)
    (g := F0 m pc ls (.int (zI n) :: .int (zI dp) :: .ref a :: .int (zI sp) :: .ref a0 :: rest)) rfl (by rw [hml]) (rest := rest) rfl (by rw [hb]; exact hdg) hframes (by show 2 * 0 + _ + (nativeFrameWords "java/lang/System" "arraycopy" 5 + 11) ≤ _; rw [show nativeFrameWords "java/lang/System" "arraycopy" 5 = 7 by decide]; omega)
  have e1 : copied (vp_cell (G.2.1 0) (n0, .inl (zA f))) (vp_cell (G.2.1 0) (n1, .inl (zA g))) (zI sp) (zI dp) (zI n) = vp_cell (G.2.1 0) (n1, .inl (va_cpy (zA f) (zA g) (zI sp).toNatClampNeg (zI dp).toNatClampNeg (zI n).toNatClampNeg)) := va_copied (fun z => .int z) (G.2.1 0) (G.2.1 0) (zA f) (zA g) (by rw [c1, c3]; omega)
  have e2 : va_cpy (zA f) (zA g) (zI sp).toNatClampNeg (zI dp).toNatClampNeg (zI n).toNatClampNeg = zA (zcp f g sp dp n) := by
    rw [c1, c2, c3]
    funext k
    show (if dp.toNat ≤ k ∧ k < dp.toNat + n.toNat then zI (f ((sp.toNat + (k - dp.toNat) : Nat) : Int)) else zI (g k)) = zI (if dp ≤ (k : Int) ∧ (k : Int) < dp + n then f (sp + ((k : Int) - dp)) else g k)
    by_cases hc : dp.toNat ≤ k ∧ k < dp.toNat + n.toNat
    · rw [if_pos hc, if_pos (by omega), show ((sp.toNat + (k - dp.toNat) : Nat) : Int) = sp + ((k : Int) - dp) by omega]
    · rw [if_neg hc, if_neg (by omega)]
  rw [e1, e2] at X' step
  have hl : a < H.size := (Array.getElem?_eq_some_iff.mp hc1).1
  have hheap : ((T.setVm vm').setCell a (vp_cell (G.2.1 0) (n1, .inl (zA (zcp f g sp dp n))))).heap = H.setIfInBounds a (vp_cell (G.2.1 0) (n1, .inl (zA (zcp f g sp dp n)))) := by rw [← hT]; rfl
  have oq : ∀ q : Nat, q ≠ a → (H.setIfInBounds a (vp_cell (G.2.1 0) (n1, .inl (zA (zcp f g sp dp n)))))[q]? = H[q]? := fun q hq => by simp [Array.getElem?_setIfInBounds, Ne.symm hq]
  obtain ⟨t, a1, b1⟩ := kk _ _ (show (H.setIfInBounds a _)[a]? = some _ by simp [Array.getElem?_setIfInBounds, hl]) (by simp) oq ⟨by simp; exact hS.1, fun q g1 g2 => by
      rw [oq q (fun e => g2 (by rw [e]; exact hD))]
      exact hS.2.1 q g1 g2, fun q hq => by
      rcases List.mem_append.mp hq with h | h
      · exact hS.2.2 q h
      · obtain ⟨z, -, hz⟩ := List.mem_map.mp h
        rw [← hz]
        exact hD⟩ _ hheap X'
  exact ⟨t, step t a1, b1⟩
end ZCN
theorem q_ini_sys : Cond.initialized "java/lang/System" ∈ lw_all := lw_all_t 12 (by decide +kernel) (by decide +kernel)
