theorem dL_law_23 : decode code 23 = .ok (.iload 4, 2) := by decide +kernel
theorem dL_law_25 : decode code 25 = .ok (.aload_n 0, 1) := by decide +kernel
theorem dL_law_26 : decode code 26 = .ok (.arraylength, 1) := by decide +kernel
theorem dL_law_27 : decode code 27 = .ok (.iconst 3, 1) := by decide +kernel
theorem dL_law_28 : decode code 28 = .ok (.isub, 1) := by decide +kernel
theorem dL_law_29 : decode code 29 = .ok (.if_icmp .gt 1246, 3) := by decide +kernel
theorem dL_law_32 : decode code 32 = .ok (.aload_n 0, 1) := by decide +kernel
theorem dL_law_33 : decode code 33 = .ok (.iload 4, 2) := by decide +kernel
theorem dL_law_35 : decode code 35 = .ok (.iaload, 1) := by decide +kernel
theorem dL_law_36 : decode code 36 = .ok (.bipush 31, 2) := by decide +kernel
theorem dL_law_38 : decode code 38 = .ok (.iand, 1) := by decide +kernel
theorem dL_law_39 : decode code 39 = .ok (.tableswitch 1230 0 22 #[105, 161, 229, 285, 341, 409, 465, 478, 491, 535, 603, 647, 660, 704, 772, 840, 896, 964, 1020, 1076, 1132, 1173, 1216], 105) := by decide +kernel
theorem dL_law_1269 : decode code 1269 = .ok (.iinc 4 3, 3) := by decide +kernel
theorem dL_law_1272 : decode code 1272 = .ok (.goto (-1249), 3) := by decide +kernel
theorem dL_law_1275 : decode code 1275 = .ok (.iconst 1, 1) := by decide +kernel
theorem dL_law_1276 : decode code 1276 = .ok (.ireturn, 1) := by decide +kernel
theorem lw_gt {L n : Nat} (hL : L ≤ 1536) (h : 3 * n ≤ L) (k : L < 3 * n + 3) : nI L - 3 < nI (3 * n) := by
  rcases Nat.lt_or_ge L 3 with q | q
  · have hn : n = 0 := by omega
    subst hn
    rcases (show L = 0 ∨ L = 1 ∨ L = 2 by omega) with r | r | r <;> subst r <;> decide
  · have e : nI L - 3 = nI (L - 3) := by
      have e1 : nI L = nI (L - 3) + 3 := by
        show nI L = nI (L - 3) + nI 3
        rw [nI_add, Nat.sub_add_cancel q]
      rw [e1]
      exact Int32.add_sub_cancel _ _
    rw [e]
    exact nI_lt (by omega) (by omega)
set_option maxHeartbeats 1000000 in
set_option maxRecDepth 100000 in
theorem lw_head {p : Program} {l : Launch} {e : Env} {s : State} {m : MethodId} {below : List Frame} {meth : Method} {c : Code} {G : GT} {b L : Nat} {xs : Nat → Int32} (hC : CX p s m meth c (lawName meth) code 9 ret #[Value.ref b]) (hT : l.stackTraces = false) (hK0 : KN G s s.heap) (hgl : gL G = s.heap.size) (hX : va_X b L xs s s.heap) (hbl : b < s.heap.size) (hL : L ≤ 1536) {n : Nat} (h3 : 3 * n ≤ L) (kk : 3 * n + 3 ≤ L → LAt p l e s m below meth c G b 23 (n + 1) (nI (3 * (n + 1)))) : LAt p l e s m below meth c G b 23 n (nI (3 * n)) := by
  intro a b0 q w x v hs y H locs cells slots ls hR hW hS hc hs9 hl
  have hbA : ¬ (fun z : Nat => s.heap.size ≤ z) b := Nat.not_le.mpr hbl
  obtain ⟨i4, e4⟩ : ∃ z, z = nI (3 * n) := ⟨_, rfl⟩
  rw [← e4] at hl
  refine lv_iload hC.1 hC.2.1 dL_law_23 (lv_at hl 0 rfl) ?_
  refine lv_aload_n hC.1 hC.2.1 dL_law_25 rfl (lv_at hl 4 rfl) ?_
  refine va_slen hC.1 hC.2.1 hX hbl hbA hS dL_law_26 ?_
  refine lv_iconst (v := 3) hC.1 hC.2.1 dL_law_27 (by decide) ?_
  refine lv_isub hC.1 hC.2.1 dL_law_28 ?_
  refine lv_icmp_gt (tgt := 1275) hC.1 hC.2.1 dL_law_29 (by decide) (fun _ => ?_) (fun hg => ?_)
  · refine lv_iconst (v := 1) hC.1 hC.2.1 dL_law_1275 (by decide) ?_
    refine va_forget (fun q hq => hS.2.2 q hq) ?_
    refine W.widen (k := 601024) (n := 7293034) (by omega) (by omega) ?_
    exact lw_ret (d0 := s.drawn) (Drawn.sameBut.refl s.drawn lw_cs) hC.1 hC.2.1 hC.2.2.1 hC.2.2.2.2.2.1 dL_law_1276
  have h33 : 3 * n + 3 ≤ L := by
    rcases Nat.lt_or_ge L (3 * n + 3) with q | q
    · exact absurd (by rw [e4]; exact lw_gt hL h3 q) hg
    · exact q
  have h0 : vp_in i4 L := by rw [e4]; exact vp_in_nI (by omega) (by omega)
  have h1 : vp_in (i4 + 1) L := by rw [e4, nI_1]; exact vp_in_nI (by omega) (by omega)
  have h2 : vp_in (i4 + 2) L := by rw [e4, show nI (3 * n) + 2 = nI (3 * n + 2) from nI_add _ 2]; exact vp_in_nI (by omega) (by omega)
  have hn : n < 512 := by omega
  have kc : LAt p l e s m below meth c G b 1269 (n + 1) i4 := by
    intro a b0 q w x v hs y H locs cells slots ls hR hW hS hc hs9 hl
    refine lv_iinc (v := nI (3 * (n + 1))) (lv' := [(4, .int (nI (3 * (n + 1)))), (3, .ref w), (2, .ref (q 0)), (1, .ref (a 0)), (0, .ref b)]) hC.1 hC.2.1 dL_law_1269 hl (k := 0) rfl (by rw [e4]; exact nI_add (3 * n) 3) (by decide) rfl (fun ls hl => ?_)
    refine lv_goto (tgt := 23) hC.1 hC.2.1 dL_law_1272 (by decide) ?_
    exact kk h33 a b0 q w x v hs y H locs cells slots ls hR hW hS hc hs9 hl
  refine lv_aload_n hC.1 hC.2.1 dL_law_32 rfl (lv_at hl 4 rfl) ?_
  refine lv_iload hC.1 hC.2.1 dL_law_33 (lv_at hl 0 rfl) ?_
  refine va_sld hC.1 hC.2.1 hX hbl hbA hS h0 dL_law_35 ?_
  refine lv_bipush (v := 31) hC.1 hC.2.1 dL_law_36 (by decide) ?_
  refine lv_iand hC.1 hC.2.1 dL_law_38 ?_
  refine lv_topi (fun z ez => ?_)
  by_cases k0 : z = 0
  · refine swIn hC (tgt := 144) 0 k0 dL_law_39 (by decide) (by decide) rfl (by decide) ?_
    exact lw_c0 hC hT hK0 hgl hX hbl hn h1 h2 kc a b0 q w x v hs y H locs cells slots ls hR hW hS hc hs9 hl
  by_cases k1 : z = 1
  · refine swIn hC (tgt := 200) 1 k1 dL_law_39 (by decide) (by decide) rfl (by decide) ?_
    exact lw_c1 hC hT hK0 hgl hX hbl hn h1 h2 kc a b0 q w x v hs y H locs cells slots ls hR hW hS hc hs9 hl
  by_cases k2 : z = 2
  · refine swIn hC (tgt := 268) 2 k2 dL_law_39 (by decide) (by decide) rfl (by decide) ?_
    exact lw_c2 hC hT hK0 hgl hX hbl hn h1 h2 kc a b0 q w x v hs y H locs cells slots ls hR hW hS hc hs9 hl
  by_cases k3 : z = 3
  · refine swIn hC (tgt := 324) 3 k3 dL_law_39 (by decide) (by decide) rfl (by decide) ?_
    exact lw_c3 hC hT hK0 hgl hX hbl hn h1 h2 kc a b0 q w x v hs y H locs cells slots ls hR hW hS hc hs9 hl
  by_cases k4 : z = 4
  · refine swIn hC (tgt := 380) 4 k4 dL_law_39 (by decide) (by decide) rfl (by decide) ?_
    exact lw_c4 hC hT hK0 hgl hX hbl hn h1 h2 kc a b0 q w x v hs y H locs cells slots ls hR hW hS hc hs9 hl
  by_cases k5 : z = 5
  · refine swIn hC (tgt := 448) 5 k5 dL_law_39 (by decide) (by decide) rfl (by decide) ?_
    exact lw_c5 hC hT hK0 hgl hX hbl hn h1 h2 kc a b0 q w x v hs y H locs cells slots ls hR hW hS hc hs9 hl
  by_cases k6 : z = 6
  · refine swIn hC (tgt := 504) 6 k6 dL_law_39 (by decide) (by decide) rfl (by decide) ?_
    exact lw_c6 hC hT hK0 hgl hX hbl hn h1 h2 kc a b0 q w x v hs y H locs cells slots ls hR hW hS hc hs9 hl
  by_cases k7 : z = 7
  · refine swIn hC (tgt := 517) 7 k7 dL_law_39 (by decide) (by decide) rfl (by decide) ?_
    exact lw_c7 hC hT hK0 hgl hX hbl hn h1 h2 kc a b0 q w x v hs y H locs cells slots ls hR hW hS hc hs9 hl
  by_cases k8 : z = 8
  · refine swIn hC (tgt := 530) 8 k8 dL_law_39 (by decide) (by decide) rfl (by decide) ?_
    exact lw_c8 hC hT hK0 hgl hX hbl hn h1 h2 kc a b0 q w x v hs y H locs cells slots ls hR hW hS hc hs9 hl
  by_cases k9 : z = 9
  · refine swIn hC (tgt := 574) 9 k9 dL_law_39 (by decide) (by decide) rfl (by decide) ?_
    exact lw_c9 hC hT hK0 hgl hX hbl hn h1 h2 kc a b0 q w x v hs y H locs cells slots ls hR hW hS hc hs9 hl
  by_cases k10 : z = 10
  · refine swIn hC (tgt := 642) 10 k10 dL_law_39 (by decide) (by decide) rfl (by decide) ?_
    exact lw_c10 hC hT hK0 hgl hX hbl hn h1 h2 kc a b0 q w x v hs y H locs cells slots ls hR hW hS hc hs9 hl
  by_cases k11 : z = 11
  · refine swIn hC (tgt := 686) 11 k11 dL_law_39 (by decide) (by decide) rfl (by decide) ?_
    exact lw_c11 hC hT hK0 hgl hX hbl hn h1 h2 kc a b0 q w x v hs y H locs cells slots ls hR hW hS hc hs9 hl
  by_cases k12 : z = 12
  · refine swIn hC (tgt := 699) 12 k12 dL_law_39 (by decide) (by decide) rfl (by decide) ?_
    exact lw_c12 hC hT hK0 hgl hX hbl hn h1 h2 kc a b0 q w x v hs y H locs cells slots ls hR hW hS hc hs9 hl
  by_cases k13 : z = 13
  · refine swIn hC (tgt := 743) 13 k13 dL_law_39 (by decide) (by decide) rfl (by decide) ?_
    exact lw_c13 hC hT hK0 hgl hX hbl hn h1 h2 kc a b0 q w x v hs y H locs cells slots ls hR hW hS hc hs9 hl
  by_cases k14 : z = 14
  · refine swIn hC (tgt := 811) 14 k14 dL_law_39 (by decide) (by decide) rfl (by decide) ?_
    exact lw_c14 hC hT hK0 hgl hX hbl hn h1 h2 kc a b0 q w x v hs y H locs cells slots ls hR hW hS hc hs9 hl
  by_cases k15 : z = 15
  · refine swIn hC (tgt := 879) 15 k15 dL_law_39 (by decide) (by decide) rfl (by decide) ?_
    exact lw_c15 hC hT hK0 hgl hX hbl hn h1 h2 kc a b0 q w x v hs y H locs cells slots ls hR hW hS hc hs9 hl
  by_cases k16 : z = 16
  · refine swIn hC (tgt := 935) 16 k16 dL_law_39 (by decide) (by decide) rfl (by decide) ?_
    exact lw_c16 hC hT hK0 hgl hX hbl hn h1 h2 kc a b0 q w x v hs y H locs cells slots ls hR hW hS hc hs9 hl
  by_cases k17 : z = 17
  · refine swIn hC (tgt := 1003) 17 k17 dL_law_39 (by decide) (by decide) rfl (by decide) ?_
    exact lw_c17 hC hT hK0 hgl hX hbl hn h1 h2 kc a b0 q w x v hs y H locs cells slots ls hR hW hS hc hs9 hl
  by_cases k18 : z = 18
  · refine swIn hC (tgt := 1059) 18 k18 dL_law_39 (by decide) (by decide) rfl (by decide) ?_
    exact lw_c18 hC hT hK0 hgl hX hbl hn h1 h2 kc a b0 q w x v hs y H locs cells slots ls hR hW hS hc hs9 hl
  by_cases k19 : z = 19
  · refine swIn hC (tgt := 1115) 19 k19 dL_law_39 (by decide) (by decide) rfl (by decide) ?_
    exact lw_c19 hC hT hK0 hgl hX hbl hn h1 h2 kc a b0 q w x v hs y H locs cells slots ls hR hW hS hc hs9 hl
  by_cases k20 : z = 20
  · refine swIn hC (tgt := 1171) 20 k20 dL_law_39 (by decide) (by decide) rfl (by decide) ?_
    exact lw_c20 hC hT hK0 hgl hX hbl hn h1 h2 kc a b0 q w x v hs y H locs cells slots ls hR hW hS hc hs9 hl
  by_cases k21 : z = 21
  · refine swIn hC (tgt := 1212) 21 k21 dL_law_39 (by decide) (by decide) rfl (by decide) ?_
    exact lw_c21 hC hT hK0 hgl hX hbl hn h1 h2 kc a b0 q w x v hs y H locs cells slots ls hR hW hS hc hs9 hl
  by_cases k22 : z = 22
  · refine swIn hC (tgt := 1255) 22 k22 dL_law_39 (by decide) (by decide) rfl (by decide) ?_
    exact lw_c22 hC hT hK0 hgl hX hbl hn h1 h2 kc a b0 q w x v hs y H locs cells slots ls hR hW hS hc hs9 hl
  refine lv_tableOut (tgt := 1269) hC.1 hC.2.1 dL_law_39 (sw_out 0 22 (by decide) (fun k h1 h2 => by match k, h1, h2 with | 0, _, _ => exact k0 | 1, _, _ => exact k1 | 2, _, _ => exact k2 | 3, _, _ => exact k3 | 4, _, _ => exact k4 | 5, _, _ => exact k5 | 6, _, _ => exact k6 | 7, _, _ => exact k7 | 8, _, _ => exact k8 | 9, _, _ => exact k9 | 10, _, _ => exact k10 | 11, _, _ => exact k11 | 12, _, _ => exact k12 | 13, _, _ => exact k13 | 14, _, _ => exact k14 | 15, _, _ => exact k15 | 16, _, _ => exact k16 | 17, _, _ => exact k17 | 18, _, _ => exact k18 | 19, _, _ => exact k19 | 20, _, _ => exact k20 | 21, _, _ => exact k21 | 22, _, _ => exact k22 | k + 23, _, h => exact absurd h (by omega))) (by decide) ?_
  exact kc a b0 q w x v hs y H locs cells slots ls (hR.mono (Nat.le_succ n)) hW hS (by omega) (by omega) hl
theorem lw_loop {p : Program} {l : Launch} {e : Env} {s : State} {m : MethodId} {below : List Frame} {meth : Method} {c : Code} {G : GT} {b L : Nat} {xs : Nat → Int32} (hC : CX p s m meth c (lawName meth) code 9 ret #[Value.ref b]) (hT : l.stackTraces = false) (hK0 : KN G s s.heap) (hgl : gL G = s.heap.size) (hX : va_X b L xs s s.heap) (hbl : b < s.heap.size) (hL : L ≤ 1536) : ∀ (k n : Nat), 3 * n ≤ L → L < 3 * (n + k) → LAt p l e s m below meth c G b 23 n (nI (3 * n)) := by
  intro k
  induction k with
  | zero => intro n h1 h2; exact absurd h2 (by omega)
  | succ k ih =>
    intro n h1 h2
    exact lw_head hC hT hK0 hgl hX hbl hL h1 (fun h3 => ih (n + 1) (by omega) (by omega))
