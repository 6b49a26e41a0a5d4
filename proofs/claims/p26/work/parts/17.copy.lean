def fX5_copyRow (n1 : Nat) (f1 : Nat → Int32) (n2 : Nat) (f2 : Nat → Int32) : Nat → Int32 := va_cpy f1 f2 0 0 n2
section CPR
variable {p : Program} {l : Launch} {e : Env} {R : Room} {s : State} {m : MethodId} {args : Array Value} {below : List Frame} {meth : Method} {c : Code} {H : Heap} {locs : List Loc} {cells slots : Nat} {Q : State → Prop}
variable {y0 : MethodName} {cc : ByteArray} {nL : Nat} {ret0 : Option FieldType} {rest : List Value} {pc : Nat} {ls : Array Slot} {G : GT} {ws : va_W} {A : Nat → Prop} {H0 : Heap} {a : Nat}
/-- System.arraycopy out of an int array that is only read: from 0 to 0 -/
theorem cp_rd (hC : CX p s m meth c y0 cc nL ret0 args) (hls : ls.size = nL) {index : Nat} (hlink : Cond.methodLink y0.cls index arraycopyName ∈ bigW) (hnat : Cond.native arraycopyName ∈ bigW) (hstat : Cond.static arraycopyName ∈ bigW) (hini : Cond.initialized "java/lang/System" ∈ bigW)
    (hKN : KN G s H) (hP : PW G ws H) (hD : va_D A ws) (hS : va_S A H0 H locs) {b0 n : Nat} {f : Nat → Int32} (hR : RD b0 n f s H) (q1 : Nat) {g : Nat → Int32} (ha1 : ws[q1]? = some (a, .inl (gI G, n, .inl g))) (hn : n < 2 ^ 31)
    (hframes : 1 ≤ R.frames) (hlocals : (rest.map fun v => v.category).sum + (nativeFrameWords "java/lang/System" "arraycopy" 5 + 11) ≤ R.locals) (hdg : decode cc pc = .ok (.invokestatic index, 3))
    (kk : ∀ (H1 : Heap) (locs1 : List Loc), PW G (ws.set q1 (a, .inl (gI G, n, .inl (va_cpy f g 0 0 n)))) H1 → va_S A H0 H1 locs1 → W p l e R s m args below meth c H1 locs1 cells slots Q (F0 m (pc + 3) ls rest)) : W p l e R s m args below meth c H locs cells slots Q (F0 m pc ls (.int (nI n) :: .int 0 :: .ref a :: .int 0 :: .ref b0 :: rest)) := by
  have hB := hC.2.2.2.2.2.2.1
  intro T hT X
  obtain ⟨cs, r1, r2, r3, r4, r5, r6, -⟩ := hR
  have hc1 : H[a]? = some (vp_cell (gI G) (n, .inl g)) := hP q1 _ ha1
  obtain ⟨w0, k0, hk0, cm0, hkk0⟩ := r2
  obtain ⟨-, k1, hk1, cm1, hkk1⟩ := (hKN.k.2 0 _ rfl).1 n (fun j => .int (g j))
  have hcl : (nI n).toNatClampNeg = n := nI_clamp hn
  have hti : (nI n).toInt = (n : Int) := nI_toInt hn
  have h0 : (0 : Int32).toNatClampNeg = 0 := rfl
  have h0i : (0 : Int32).toInt = 0 := rfl
  obtain ⟨vm', X', step⟩ := X.arraycopy hC.1 hC.2.2.2.2.1 (hB _ hlink) (hB _ hnat) (hB _ hstat) (hB _ hini) (src := b0) (dst := a) (cs := cs) (cd := vp_cell (gI G) (n, .inl g)) (srcPos := 0) (destPos := 0) (n := nI n) (by rw [hT]; exact r1) (by rw [hT]; exact hc1)
    w0 (fun _ h => by cases h) r3 (fun h => by cases h) hk0 hk1 hkk0 hkk1 (by rfl) (by decide) (by decide) (nI_pos hn)
    (by rw [h0i, hti]; omega)
    (by rw [h0i, hti]; show ¬ _ > ((arrV (gI G) n (fun j => .int (g j))).slots.size : Int); rw [arrV_size]; omega)
    (fun vm₁ _ i hi => by
      have e : cs.slots.getD ((0 : Int32).toNatClampNeg + i) .null = .int (f i) := by
        rw [h0, Nat.zero_add, Array.getD_eq_getD_getElem?, r6 i (by rw [hcl] at hi; exact hi)]
        rfl
      refine ⟨?_, ?_⟩
      · rw [e]; rfl
      · rw [e]; exact trivial)
    (g := F0 m pc ls (.int (nI n) :: .int 0 :: .ref a :: .int 0 :: .ref b0 :: rest)) rfl (hls.trans hC.2.2.2.1.symm) (rest := rest) rfl (by rw [hC.2.1]; exact hdg) hframes (by show 2 * 0 + _ + _ ≤ _; omega)
  have e1 : copied cs (vp_cell (gI G) (n, .inl g)) 0 0 (nI n) = vp_cell (gI G) (n, .inl (va_cpy f g 0 0 n)) := by
    have := va_copiedX (fun z : Int32 => Value.int z) cs (gI G) (n0 := n) (n1 := n) (sp := 0) (dp := 0) (n := n) f g r6 (by omega)
    show (arrV (gI G) n (fun j => .int (g j))).storeRun (0 : Int32).toNatClampNeg (cs.stretch (0 : Int32).toNatClampNeg (nI n).toNatClampNeg) = _
    rw [hcl, h0]
    exact this
  rw [e1] at X' step
  have hl : a < H.size := (Array.getElem?_eq_some_iff.mp hc1).1
  have hheap : ((T.setVm vm').setCell a (vp_cell (gI G) (n, .inl (va_cpy f g 0 0 n)))).heap = H.setIfInBounds a (vp_cell (gI G) (n, .inl (va_cpy f g 0 0 n))) := by rw [← hT]; rfl
  have oq : ∀ q : Nat, q ≠ a → (H.setIfInBounds a (vp_cell (gI G) (n, .inl (va_cpy f g 0 0 n))))[q]? = H[q]? := fun q hq => by simp [Array.getElem?_setIfInBounds, Ne.symm hq]
  obtain ⟨t, a1, b1⟩ := kk _ _ (hP.set hD ha1 (show (H.setIfInBounds a _)[a]? = some _ by simp [Array.getElem?_setIfInBounds, hl]) oq) ⟨by simp; exact hS.1, fun q g1 g2 => by
      rw [oq q (fun e => g2 (by rw [e]; exact hD.2 q1 _ ha1))]
      exact hS.2.1 q g1 g2, fun q hq => by
      rcases List.mem_append.mp hq with h | h
      · exact hS.2.2 q h
      · obtain ⟨z, -, hz⟩ := List.mem_map.mp h
        rw [← hz]
        exact hD.2 q1 _ ha1⟩ _ hheap X'
  exact ⟨t, step t a1, b1⟩
end CPR
theorem dX5_copyRow_0 : decode cX5_copyRow 0 = .ok (.aload_n 0, 1) := by decide +kernel
theorem dX5_copyRow_1 : decode cX5_copyRow 1 = .ok (.iconst 0, 1) := by decide +kernel
theorem dX5_copyRow_2 : decode cX5_copyRow 2 = .ok (.aload_n 1, 1) := by decide +kernel
theorem dX5_copyRow_3 : decode cX5_copyRow 3 = .ok (.iconst 0, 1) := by decide +kernel
theorem dX5_copyRow_4 : decode cX5_copyRow 4 = .ok (.aload_n 0, 1) := by decide +kernel
theorem dX5_copyRow_5 : decode cX5_copyRow 5 = .ok (.arraylength, 1) := by decide +kernel
theorem dX5_copyRow_6 : decode cX5_copyRow 6 = .ok (.aload_n 1, 1) := by decide +kernel
theorem dX5_copyRow_7 : decode cX5_copyRow 7 = .ok (.arraylength, 1) := by decide +kernel
theorem dX5_copyRow_8 : decode cX5_copyRow 8 = .ok (.invokestatic 313, 3) := by decide +kernel
theorem dX5_copyRow_11 : decode cX5_copyRow 11 = .ok (.invokestatic 316, 3) := by decide +kernel
theorem dX5_copyRow_14 : decode cX5_copyRow 14 = .ok (.return_, 1) := by decide +kernel
theorem c_X5_copyRow (l : Launch) (G : GT) (a1 n1 : Nat) (f1 : Nat → Int32) (a2 n2 : Nat) (f2 : Nat → Int32) (hlow : gL G ≤ a2) (hn : n1 = n2 ∧ n2 < 2 ^ 31) : Met l yX5_copyRow (Cond.code yX5_copyRow cX5_copyRow 2 none :: bigW) ({ frames := 1, cells := 0, slots := 0, locals := 30 }) (BP G [.ref a1, .ref a2] (fun U H => RD a1 n1 f1 U H ∧ PW G (a1W G a2 n2 f2) H)) (QE none (fun H => PW G (a1W G a2 n2 (fX5_copyRow n1 f1 n2 f2)) H) (fun z => z = a2)) 0 0 (fun z => z = a2) := by
  obtain ⟨rfl, hn⟩ := hn
  refine met_of (by decide) (Nat.le_of_ble_eq_true rfl) ?_
  intro p e s m below meth c ls hC hKN hB0 hl
  obtain ⟨hR1, hP⟩ := hB0
  have hl : lv_has ls 2 [(0, .ref a1), (1, .ref a2)] := hl
  have hS : va_S (fun z => z = a2) s.heap s.heap [] := va_S.rf
  refine lv_aload_n hC.1 hC.2.1 dX5_copyRow_0 rfl (lv_at hl 0 rfl) ?_
  refine lv_iconst (v := 0) hC.1 hC.2.1 dX5_copyRow_1 (by decide) ?_
  refine lv_aload_n hC.1 hC.2.1 dX5_copyRow_2 rfl (lv_at hl 1 rfl) ?_
  refine lv_iconst (v := 0) hC.1 hC.2.1 dX5_copyRow_3 (by decide) ?_
  refine lv_aload_n hC.1 hC.2.1 dX5_copyRow_4 rfl (lv_at hl 0 rfl) ?_
  refine rd_len hC hR1 dX5_copyRow_5 ?_
  refine lv_aload_n hC.1 hC.2.1 dX5_copyRow_6 rfl (lv_at hl 1 rfl) ?_
  refine alen_n hC hKN hP 0 rfl dX5_copyRow_7 ?_
  refine va_mmin hC.1 hC.2.1 (hC.2.2.2.1.trans hl.1.symm) hC.2.2.2.2.1 (hC.2.2.2.2.2.2.1 _ wd_34) (hC.2.2.2.2.2.2.1 _ wd_35) (hC.2.2.2.2.2.2.1 _ wd_3) (hC.2.2.2.2.2.2.1 _ wd_36) (Nat.le_of_ble_eq_true rfl) (Nat.le_of_ble_eq_true rfl) (Nat.zero_le _) (Nat.zero_le _) dX5_copyRow_8 ?_
  rw [ite_self]
  refine cp_rd hC hl.1 wd_37 wd_39 wd_38 wd_4 hKN hP (a1W_D f2) hS hR1 0 rfl hn (Nat.le_of_ble_eq_true rfl) (Nat.le_of_ble_eq_true rfl) dX5_copyRow_11 (fun H locs hP hS => ?_)
  exact eE_v hC hP hS dX5_copyRow_14
