theorem hdA_ent {G : GT} {a b : Nat → Nat} {x : HV} {z : Nat} (hz : hdA a b z) : ∃ (k : Nat) (p : Nat × va_E), (hdW G a b x)[k]? = some p ∧ p.1 = z := by
  have e : (hdW G a b x).map Prod.fst = (List.range 38).map a ++ (List.range 66).map b := rfl
  have hm : z ∈ (hdW G a b x).map Prod.fst := by
    rw [e]
    rcases hz with ⟨i, hi, e⟩ | ⟨i, hi, e⟩
    · exact List.mem_append_left _ (List.mem_map.mpr ⟨i, List.mem_range.mpr hi, e.symm⟩)
    · exact List.mem_append_right _ (List.mem_map.mpr ⟨i, List.mem_range.mpr hi, e.symm⟩)
  obtain ⟨p, hp, he⟩ := List.mem_map.mp hm
  obtain ⟨k, hk⟩ := List.getElem?_of_mem hp
  exact ⟨k, p, hk, he⟩
theorem hdA_lt {G : GT} {a b : Nat → Nat} {x : HV} {H : Heap} (hP : PW G (hdW G a b x) H) {z : Nat} (hz : hdA a b z) : z < H.size := by
  obtain ⟨k, p, hk, he⟩ := hdA_ent (G := G) (x := x) hz
  rw [← he]
  exact (hP k p hk).lt
theorem mdA_lt {G : GT} {q : Nat → Nat} {v : SV} {hs : Int64} {H : Heap} (hP : PW G (mdW G q v hs) H) {z : Nat} (hz : mdA q z) : z < H.size := by
  have e : (mdW G q v hs).map Prod.fst = (List.range 9).map q := rfl
  have hm : z ∈ (mdW G q v hs).map Prod.fst := by
    rw [e]
    obtain ⟨i, hi, e⟩ := hz
    exact List.mem_map.mpr ⟨i, List.mem_range.mpr hi, e.symm⟩
  obtain ⟨p, hp, he⟩ := List.mem_map.mp hm
  obtain ⟨k, hk⟩ := List.getElem?_of_mem hp
  rw [← he]
  exact (hP k p hk).lt
section NJ
variable {p : Program} {l : Launch} {e : Env} {R : Room} {s : State} {m : MethodId} {args : Array Value} {below : List Frame} {meth : Method} {c : Code} {H : Heap} {locs : List Loc} {cells slots : Nat} {Q : State → Prop}
variable {y0 : MethodName} {cc : ByteArray} {nL : Nat} {ret0 : Option FieldType} {rest : List Value} {pc : Nat} {ls : Array Slot} {G : GT} {ws : va_W} {A : Nat → Prop} {H0 : Heap}
theorem nwJ (hC : CX p s m meth c y0 cc nL ret0 args) (hKN : KN G s H) (hP : PW G ws H) (hS : va_S A H0 H locs) (n : Nat) {i : Int32} (hi : i = nI n) (hn : n < 2 ^ 20) (hcells : cells + 1 ≤ R.cells) (hslots : slots + n ≤ R.slots) (hdg : decode cc pc = .ok (.newarray .long, 2))
    (kk : ∀ (H1 : Heap), PW G (ws ++ [(H.size, .inl (gJ G, n, .inr (.inl (fun _ => 0))))]) H1 → va_S A H0 H1 locs → W p l e R s m args below meth c H1 locs (cells + 1) (slots + n) Q (F0 m (pc + 2) ls (.ref H.size :: rest))) : W p l e R s m args below meth c H locs cells slots Q (F0 m pc ls (.int i :: rest)) := by
  subst hi
  have hr : s.vm.findClass ("[" ++ FieldType.long.toString) = some (gJ G) := (hKN.1.1.2 1 _ rfl).2
  refine va_newaK (atype := .long) hC.1 hC.2.1 (hC.2.2.2.2.2.2.1 _ wd_1251) rfl hdg rfl (nI_pos (by omega)) (nI_clamp (by omega)) (show n * 8 ≤ 536870912 by omega) hcells hslots rfl fun H1 cA e1 z1 o1 hAr hNm => ?_
  have e : cA = gJ G := Option.some.inj (hNm.symm.trans hr)
  subst e
  have hk : ∀ (k : Nat) (x : Nat × va_E), ws[k]? = some x → H1[x.1]? = H[x.1]? := fun k x hx => o1 x.1 ((hP k x hx).lt)
  refine kk H1 ((hP.kept hk).app (fun k x hx => ?_)) ⟨Nat.le_trans hS.1 (by omega), fun x h1 h2 => (o1 x (Nat.lt_of_lt_of_le h1 hS.1)).trans (hS.2.1 x h1 h2), hS.2.2⟩
  have hz : k < 1 := (List.getElem?_eq_some_iff.mp hx).1
  rw [show k = 0 by omega] at hx
  cases hx
  exact e1
end NJ
theorem dL_law_0 : decode code 0 = .ok (.new 8, 3) := by decide +kernel
theorem dL_law_3 : decode code 3 = .ok (.dup, 1) := by decide +kernel
theorem dL_law_4 : decode code 4 = .ok (.invokespecial 69, 3) := by decide +kernel
theorem dL_law_7 : decode code 7 = .ok (.astore_n 1, 1) := by decide +kernel
theorem dL_law_8 : decode code 8 = .ok (.new 70, 3) := by decide +kernel
theorem dL_law_11 : decode code 11 = .ok (.dup, 1) := by decide +kernel
theorem dL_law_12 : decode code 12 = .ok (.invokespecial 72, 3) := by decide +kernel
theorem dL_law_15 : decode code 15 = .ok (.astore_n 2, 1) := by decide +kernel
theorem dL_law_16 : decode code 16 = .ok (.iconst 1, 1) := by decide +kernel
theorem dL_law_17 : decode code 17 = .ok (.newarray .long, 2) := by decide +kernel
theorem dL_law_19 : decode code 19 = .ok (.astore_n 3, 1) := by decide +kernel
theorem dL_law_20 : decode code 20 = .ok (.iconst 0, 1) := by decide +kernel
theorem dL_law_21 : decode code 21 = .ok (.istore 4, 2) := by decide +kernel
set_option maxHeartbeats 1000000 in
set_option maxRecDepth 100000 in
theorem lw_entry {p : Program} {l : Launch} {e : Env} {s : State} {m : MethodId} {below : List Frame} {meth : Method} {c : Code} {G : GT} {b L : Nat} {xs : Nat → Int32} (hC : CX p s m meth c (lawName meth) code 9 ret #[Value.ref b]) (hT : l.stackTraces = false) (hK0 : KN G s s.heap) (hgl : gL G = s.heap.size) (hX : va_X b L xs s s.heap) (hbl : b < s.heap.size) (hL : L ≤ 1536) : ∀ ls : Array Slot, lv_has ls 9 [(0, .ref b)] → W p l e room_1 s m #[Value.ref b] below meth c s.heap [] 0 0 (lw_Z below #[Value.ref b] s) (F0 m 0 ls []) := by
  intro ls hl
  have hbA : ¬ (fun z : Nat => s.heap.size ≤ z) b := Nat.not_le.mpr hbl
  have hAL : ∀ z, s.heap.size ≤ z → gL G ≤ z := fun z h => by rw [hgl]; exact h
  have hS : va_S (fun z : Nat => s.heap.size ≤ z) s.heap s.heap [] := va_S.rf
  have hP : PW G [] s.heap := fun k q h => by simp at h
  have hD : va_D (fun z : Nat => s.heap.size ≤ z) [] := ⟨fun i j p q h => by simp at h, fun k q h => by simp at h⟩
  refine nwO hC (hK0.go hAL hS) hP hD hS (fun _ h => h) fwX5 (ci := 5) rfl wd_23 wd_24 wd_1 (fs := [.null, .null, .null, .null, .null, .null, .int 0, .int 0]) (by decide) (Nat.le_of_ble_eq_true rfl) (Nat.le_of_ble_eq_true rfl) dL_law_0 (fun z5 H1 hP1 hD1 hSa hz5 => ?_)
  have hS := hSa
  refine lv_dup hC.1 hC.2.1 dL_law_3 rfl ?_
  refine runE (rI (B := fun _ H => H.size = H1.size ∧ PW G [(z5, .inr (5, [.null, .null, .null, .null, .null, .null, .int 0, .int 0]))] H) (rest := [.ref z5]) hC mwX5_init (c_X5_init l G z5 H1.size hz5) rfl wd_26 wd_25 ⟨rfl, rfl⟩ ⟨Nat.le_of_ble_eq_true rfl, Nat.le_of_ble_eq_true rfl⟩ (stb_h (fun H => H.size = H1.size ∧ PW G [(z5, .inr (5, [.null, .null, .null, .null, .null, .null, .int 0, .int 0]))] H)) (hK0.go hAL hS) ⟨rfl, hP1⟩ hl.1 (Nat.le_of_ble_eq_true rfl) dL_law_4 ⟨Nat.le_of_ble_eq_true rfl, Nat.le_of_ble_eq_true rfl⟩) hS (mk_free (L := []) hD1 (fun z h => Nat.le_trans hS.1 h)) (mk_free (L := []) hD1 (fun z h => Nat.le_trans hS.1 h)) (fun H2 locs2 hn _ hk hS2 => ?_)
  obtain ⟨a, b0, ea, hq, hPh, hin⟩ := hn
  subst ea
  refine lv_astore_n (lv' := [(1, .ref (a 0)), (0, .ref b)]) hC.1 hC.2.1 dL_law_7 rfl hl (by decide) rfl (fun ls hl => ?_)
  have hS := hS2
  have hAh : ∀ z, hdA a b0 z → s.heap.size ≤ z := fun z hz => mk_free (L := []) hD1 (fun z h => Nat.le_trans hSa.1 h) z (hin z hz)
  have hDh : va_D (fun z : Nat => s.heap.size ≤ z) (hdW G a b0 hv0) := va_D_mono (hdD_D hq hv0) hAh
  refine nwO hC (hK0.go hAL hS) hPh hDh hS (fun _ h => h) fwX6 (ci := 6) rfl wd_881 wd_882 wd_9 (fs := [.null, .null, .int 0, .null, .int 0, .null, .int 0, .int 0, .int 0, .int 0, .null, .int 0, .int 0, .int 0, .null, .null, .null, .long 0]) (by decide) (Nat.le_of_ble_eq_true rfl) (Nat.le_of_ble_eq_true rfl) dL_law_8 (fun z6 H3 hP3 hD3 hS3 hz6 => ?_)
  have hS := hS3
  refine lv_dup hC.1 hC.2.1 dL_law_11 rfl ?_
  have hP3h := (PW_app.mp hP3).1
  refine runE (rI (B := fun _ H => H.size = H3.size ∧ PW G [(z6, .inr (6, [.null, .null, .int 0, .null, .int 0, .null, .int 0, .int 0, .int 0, .int 0, .null, .int 0, .int 0, .int 0, .null, .null, .null, .long 0]))] H) (rest := [.ref z6]) hC mwX6_init (c_X6_init l G z6 H3.size hz6) rfl wd_884 wd_883 ⟨rfl, rfl⟩ ⟨Nat.le_of_ble_eq_true rfl, Nat.le_of_ble_eq_true rfl⟩ (stb_h (fun H => H.size = H3.size ∧ PW G [(z6, .inr (6, [.null, .null, .int 0, .null, .int 0, .null, .int 0, .int 0, .int 0, .int 0, .null, .int 0, .int 0, .int 0, .null, .null, .null, .long 0]))] H)) (hK0.go hAL hS) ⟨rfl, (PW_app.mp hP3).2⟩ hl.1 (Nat.le_of_ble_eq_true rfl) dL_law_12 ⟨Nat.le_of_ble_eq_true rfl, Nat.le_of_ble_eq_true rfl⟩) hS (mk_free (L := hdW G a b0 hv0) hD3 (fun z h => Nat.le_trans hS.1 h)) (mk_free (L := hdW G a b0 hv0) hD3 (fun z h => Nat.le_trans hS.1 h)) (fun H4 locs4 hn hz4 hk hS4 => ?_)
  obtain ⟨w1, w2, w3, w4, w5, w6, w7, w8, hPm, hDm⟩ := hn
  obtain ⟨q, eq0, hmq, hPq, hqi⟩ := md_new (G := G) (q := z6) (z1 := w1) (z2 := w2) (z3 := w3) (z4 := w4) (z5 := w5) (z6 := w6) (z7 := w7) (z8 := w8) hPm hDm (fun z h => hAL z (mk_free (L := hdW G a b0 hv0) hD3 (fun z h => Nat.le_trans hS3.1 h) z h))
  subst eq0
  refine lv_astore_n (lv' := [(2, .ref (q 0)), (1, .ref (a 0)), (0, .ref b)]) hC.1 hC.2.1 dL_law_15 rfl hl (by decide) rfl (fun ls hl => ?_)
  have hS := hS4
  have hAm : ∀ z, mdA q z → s.heap.size ≤ z := fun z hz => mk_free (L := hdW G a b0 hv0) hD3 (fun z h => Nat.le_trans hS3.1 h) z (hqi z hz)
  have hdj : ∀ z, hdA a b0 z → ¬ mdA q z := fun z hz hm => by
    obtain ⟨k, p, hk1, he⟩ := hdA_ent (G := G) (x := hv0) hz
    rcases hqi z hm with ⟨k2, e2, h2⟩ | h2
    · cases k2 with
      | zero =>
        cases h2
        have i1 := (List.getElem?_eq_some_iff.mp hk1).1
        have i2 := hD3.1 k (hdW G a b0 hv0).length p (q 0, .inr (6, [.null, .null, .int 0, .null, .int 0, .null, .int 0, .int 0, .int 0, .int 0, .null, .int 0, .int 0, .int 0, .null, .null, .null, .long 0])) (by rw [List.getElem?_append_left i1]; exact hk1) (by rw [List.getElem?_append_right (Nat.le_refl _), Nat.sub_self]; rfl) he
        omega
      | succ k2 => simp at h2
    · exact absurd (hdA_lt hP3h hz) (Nat.not_lt.mpr h2)
  have hPh4 : PW G (hdW G a b0 hv0) H4 := va_P.kept hP3h (fun k p hp => hk _ ((hP3h k p hp).lt) (fun z => by
    rcases z with ⟨k2, e2, h2⟩ | h2
    · cases k2 with
      | zero =>
        have i1 := (List.getElem?_eq_some_iff.mp hp).1
        have h3 : (q 0, (.inr (6, [.null, .null, .int 0, .null, .int 0, .null, .int 0, .int 0, .int 0, .int 0, .null, .int 0, .int 0, .int 0, .null, .null, .null, .long 0]) : va_E)) = (p.1, e2) := Option.some.inj h2
        have i2 := hD3.1 k (hdW G a b0 hv0).length p (q 0, .inr (6, [.null, .null, .int 0, .null, .int 0, .null, .int 0, .int 0, .int 0, .int 0, .null, .int 0, .int 0, .int 0, .null, .null, .null, .long 0])) (by rw [List.getElem?_append_left i1]; exact hp) (by rw [List.getElem?_append_right (Nat.le_refl _), Nat.sub_self]; rfl) (congrArg Prod.fst h3).symm
        omega
      | succ k2 => simp at h2
    · exact absurd ((hP3h k p hp).lt) (Nat.not_lt.mpr h2)))
  refine lv_iconst (v := 1) hC.1 hC.2.1 dL_law_16 (by decide) ?_
  refine nwJ hC (hK0.go hAL hS) (ws := hdW G a b0 hv0 ++ mdW G q mv0 0) (PW_app.mpr ⟨hPh4, hPq⟩) hS 1 rfl (by decide) (Nat.le_of_ble_eq_true rfl) (Nat.le_of_ble_eq_true rfl) dL_law_17 (fun H5 hP5 hS5 => ?_)
  refine lv_astore_n (lv' := [(3, .ref H4.size), (2, .ref (q 0)), (1, .ref (a 0)), (0, .ref b)]) hC.1 hC.2.1 dL_law_19 rfl hl (by decide) rfl (fun ls hl => ?_)
  refine lv_iconst (v := nI (3 * 0)) hC.1 hC.2.1 dL_law_20 (by decide) ?_
  refine lv_istore (lv' := [(4, .int (nI (3 * 0))), (3, .ref H4.size), (2, .ref (q 0)), (1, .ref (a 0)), (0, .ref b)]) hC.1 hC.2.1 dL_law_21 hl (by decide) rfl (fun ls hl => ?_)
  have hP6 := PW_app.mp hP5
  have hP7 := PW_app.mp hP6.1
  refine lw_loop hC hT hK0 hgl hX hbl hL 513 0 (Nat.zero_le _) (by omega) a b0 q H4.size hv0 mv0 0 0 H5 _ _ _ ls RelH_new ⟨hq, hmq, hAL _ hS.1, fun z hz e => ?_, fun z hz hm => ?_, fun z hz => ?_, hAm, PW_cons.mpr ⟨hP6.2, hP7.1⟩, hP7.2⟩ hS5 (Nat.le_of_ble_eq_true rfl) (Nat.le_of_ble_eq_true rfl) hl
  · exact absurd (hdA_lt hPh4 hz) (by rw [e]; exact Nat.lt_irrefl _)
  · rcases hz with e | hz
    · exact absurd (mdA_lt hPq hm) (by rw [e]; exact Nat.lt_irrefl _)
    · exact hdj z hz hm
  · rcases hz with e | hz
    · rw [e]; exact hS.1
    · exact hAh z hz
