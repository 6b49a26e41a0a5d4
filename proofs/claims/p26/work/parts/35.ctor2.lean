def hv0 : HV := mkH sv0 sv0 sv0 sv0 sv0 sv0 sv0 sv0 sv0 zF zF 0 0 0
def adr (ws : va_W) (k : Nat) : Nat := match ws[k]? with
  | some p => p.1
  | none => 0
theorem adr_r {X Y : va_W} (n : Nat) {k : Nat} (hn : X.length = n) (hk : n ≤ k) : adr (X ++ Y) k = adr Y (k - n) := by
  unfold adr
  rw [List.getElem?_append_right (by omega), hn]
theorem adr_l {X Y : va_W} (n : Nat) {k : Nat} (hn : X.length = n) (hk : k < n) : adr (X ++ Y) k = adr X k := by
  unfold adr
  rw [List.getElem?_append_left (by omega)]
theorem adr_st {G : GT} {r : Nat → Nat} {v : SV} (i : Nat) (hi : i < 11) : adr (stW G r v) i = r i := by
  match i, hi with
  | 0, _ => rfl
  | 1, _ => rfl
  | 2, _ => rfl
  | 3, _ => rfl
  | 4, _ => rfl
  | 5, _ => rfl
  | 6, _ => rfl
  | 7, _ => rfl
  | 8, _ => rfl
  | 9, _ => rfl
  | 10, _ => rfl
  | i + 11, h => exact absurd h (by omega)
theorem adr_at {ws : va_W} (k : Nat) (hk : k < ws.length) : ∃ e, ws[k]? = some (adr ws k, e) := by
  unfold adr
  rw [List.getElem?_eq_getElem hk]
  exact ⟨_, rfl⟩
def pA5 : Nat → Nat := fun i => if i = 0 then 0 else if i = 1 then 34 else if i < 5 then i + 99 else i - 4
theorem pA5_i : ∀ i j : Nat, i < 38 → j < 38 → pA5 i = pA5 j → i = j := by
  intro i j hi hj h
  unfold pA5 at h
  (repeat (first | omega | split at h))
theorem pA5_b : ∀ i j : Nat, i < 38 → j < 66 → pA5 i = 35 + j → False := by
  intro i j hi hj h
  unfold pA5 at h
  (repeat (first | omega | split at h))
theorem pA5_lt (i : Nat) (hi : i < 38) : pA5 i < 104 := by
  unfold pA5
  (repeat (first | omega | split))
theorem pA5_5 (k : Nat) : pA5 (5 + k) = 1 + k := by
  unfold pA5
  rw [if_neg (by omega), if_neg (by omega), if_neg (by omega)]
  omega
def L5 (G : GT) (q z1 z2 z3 z4 : Nat) (r0 r1 r2 r3 r4 r5 r6 r7 r8 : Nat → Nat) : va_W := [(q, .inr (5, [.ref (r0 0), .ref (r1 0), .ref (r2 0), .ref z1, .ref z2, .ref z4, .int 0, .int 0]))] ++ (stW G r0 sv0 ++ (stW G r1 sv0 ++ (stW G r2 sv0 ++ ([(z1, .inl (gR G, 6, .inr (.inr (.inr (.inr (va_up (va_up (va_up (va_up (va_up (va_up (fun _ => none) 0 (some (r3 0))) 1 (some (r4 0))) 2 (some (r5 0))) 3 (some (r6 0))) 4 (some (r7 0))) 5 (some (r8 0))))))))] ++ (stW G r3 sv0 ++ (stW G r4 sv0 ++ (stW G r5 sv0 ++ (stW G r6 sv0 ++ (stW G r7 sv0 ++ (stW G r8 sv0 ++ ([(z2, .inr (0, [.ref z3, .int 0])), (z3, .inl (gI G, 60, .inl (fun _ => 0))), (z4, .inr (1, [.int 0, .int 0, .ref (gA G (10 + 0)), .int 0, .int 0, .int 0, .int 0, .int 0, .int 0, .int 0]))])))))))))))
theorem L5_len {G : GT} {q z1 z2 z3 z4 : Nat} {r0 r1 r2 r3 r4 r5 r6 r7 r8 : Nat → Nat} : (L5 G q z1 z2 z3 z4 r0 r1 r2 r3 r4 r5 r6 r7 r8).length = 104 := rfl
theorem L5_s0 {G : GT} {q z1 z2 z3 z4 : Nat} {r0 r1 r2 r3 r4 r5 r6 r7 r8 : Nat → Nat} (i : Nat) (hi : i < 11) : adr (L5 G q z1 z2 z3 z4 r0 r1 r2 r3 r4 r5 r6 r7 r8) (1 + i) = r0 i := by
  unfold L5
  rw [adr_r 1 rfl (by omega), adr_l 11 rfl (by omega), adr_st _ (by omega)]
  congr 1
  omega
theorem L5_s1 {G : GT} {q z1 z2 z3 z4 : Nat} {r0 r1 r2 r3 r4 r5 r6 r7 r8 : Nat → Nat} (i : Nat) (hi : i < 11) : adr (L5 G q z1 z2 z3 z4 r0 r1 r2 r3 r4 r5 r6 r7 r8) (12 + i) = r1 i := by
  unfold L5
  rw [adr_r 1 rfl (by omega), adr_r 11 rfl (by omega), adr_l 11 rfl (by omega), adr_st _ (by omega)]
  congr 1
  omega
theorem L5_s2 {G : GT} {q z1 z2 z3 z4 : Nat} {r0 r1 r2 r3 r4 r5 r6 r7 r8 : Nat → Nat} (i : Nat) (hi : i < 11) : adr (L5 G q z1 z2 z3 z4 r0 r1 r2 r3 r4 r5 r6 r7 r8) (23 + i) = r2 i := by
  unfold L5
  rw [adr_r 1 rfl (by omega), adr_r 11 rfl (by omega), adr_r 11 rfl (by omega), adr_l 11 rfl (by omega), adr_st _ (by omega)]
  congr 1
  omega
theorem L5_s3 {G : GT} {q z1 z2 z3 z4 : Nat} {r0 r1 r2 r3 r4 r5 r6 r7 r8 : Nat → Nat} (i : Nat) (hi : i < 11) : adr (L5 G q z1 z2 z3 z4 r0 r1 r2 r3 r4 r5 r6 r7 r8) (35 + i) = r3 i := by
  unfold L5
  rw [adr_r 1 rfl (by omega), adr_r 11 rfl (by omega), adr_r 11 rfl (by omega), adr_r 11 rfl (by omega), adr_r 1 rfl (by omega), adr_l 11 rfl (by omega), adr_st _ (by omega)]
  congr 1
  omega
theorem L5_s4 {G : GT} {q z1 z2 z3 z4 : Nat} {r0 r1 r2 r3 r4 r5 r6 r7 r8 : Nat → Nat} (i : Nat) (hi : i < 11) : adr (L5 G q z1 z2 z3 z4 r0 r1 r2 r3 r4 r5 r6 r7 r8) (46 + i) = r4 i := by
  unfold L5
  rw [adr_r 1 rfl (by omega), adr_r 11 rfl (by omega), adr_r 11 rfl (by omega), adr_r 11 rfl (by omega), adr_r 1 rfl (by omega), adr_r 11 rfl (by omega), adr_l 11 rfl (by omega), adr_st _ (by omega)]
  congr 1
  omega
theorem L5_s5 {G : GT} {q z1 z2 z3 z4 : Nat} {r0 r1 r2 r3 r4 r5 r6 r7 r8 : Nat → Nat} (i : Nat) (hi : i < 11) : adr (L5 G q z1 z2 z3 z4 r0 r1 r2 r3 r4 r5 r6 r7 r8) (57 + i) = r5 i := by
  unfold L5
  rw [adr_r 1 rfl (by omega), adr_r 11 rfl (by omega), adr_r 11 rfl (by omega), adr_r 11 rfl (by omega), adr_r 1 rfl (by omega), adr_r 11 rfl (by omega), adr_r 11 rfl (by omega), adr_l 11 rfl (by omega), adr_st _ (by omega)]
  congr 1
  omega
theorem L5_s6 {G : GT} {q z1 z2 z3 z4 : Nat} {r0 r1 r2 r3 r4 r5 r6 r7 r8 : Nat → Nat} (i : Nat) (hi : i < 11) : adr (L5 G q z1 z2 z3 z4 r0 r1 r2 r3 r4 r5 r6 r7 r8) (68 + i) = r6 i := by
  unfold L5
  rw [adr_r 1 rfl (by omega), adr_r 11 rfl (by omega), adr_r 11 rfl (by omega), adr_r 11 rfl (by omega), adr_r 1 rfl (by omega), adr_r 11 rfl (by omega), adr_r 11 rfl (by omega), adr_r 11 rfl (by omega), adr_l 11 rfl (by omega), adr_st _ (by omega)]
  congr 1
  omega
theorem L5_s7 {G : GT} {q z1 z2 z3 z4 : Nat} {r0 r1 r2 r3 r4 r5 r6 r7 r8 : Nat → Nat} (i : Nat) (hi : i < 11) : adr (L5 G q z1 z2 z3 z4 r0 r1 r2 r3 r4 r5 r6 r7 r8) (79 + i) = r7 i := by
  unfold L5
  rw [adr_r 1 rfl (by omega), adr_r 11 rfl (by omega), adr_r 11 rfl (by omega), adr_r 11 rfl (by omega), adr_r 1 rfl (by omega), adr_r 11 rfl (by omega), adr_r 11 rfl (by omega), adr_r 11 rfl (by omega), adr_r 11 rfl (by omega), adr_l 11 rfl (by omega), adr_st _ (by omega)]
  congr 1
  omega
theorem L5_s8 {G : GT} {q z1 z2 z3 z4 : Nat} {r0 r1 r2 r3 r4 r5 r6 r7 r8 : Nat → Nat} (i : Nat) (hi : i < 11) : adr (L5 G q z1 z2 z3 z4 r0 r1 r2 r3 r4 r5 r6 r7 r8) (90 + i) = r8 i := by
  unfold L5
  rw [adr_r 1 rfl (by omega), adr_r 11 rfl (by omega), adr_r 11 rfl (by omega), adr_r 11 rfl (by omega), adr_r 1 rfl (by omega), adr_r 11 rfl (by omega), adr_r 11 rfl (by omega), adr_r 11 rfl (by omega), adr_r 11 rfl (by omega), adr_r 11 rfl (by omega), adr_l 11 rfl (by omega), adr_st _ (by omega)]
  congr 1
  omega
theorem L5_z1 {G : GT} {q z1 z2 z3 z4 : Nat} {r0 r1 r2 r3 r4 r5 r6 r7 r8 : Nat → Nat} : adr (L5 G q z1 z2 z3 z4 r0 r1 r2 r3 r4 r5 r6 r7 r8) 34 = z1 := by
  unfold L5
  rw [adr_r 1 rfl (by omega), adr_r 11 rfl (by omega), adr_r 11 rfl (by omega), adr_r 11 rfl (by omega), adr_l 1 rfl (by omega)]
  rfl
theorem L5_z2 {G : GT} {q z1 z2 z3 z4 : Nat} {r0 r1 r2 r3 r4 r5 r6 r7 r8 : Nat → Nat} : adr (L5 G q z1 z2 z3 z4 r0 r1 r2 r3 r4 r5 r6 r7 r8) 101 = z2 := by
  unfold L5
  rw [adr_r 1 rfl (by omega), adr_r 11 rfl (by omega), adr_r 11 rfl (by omega), adr_r 11 rfl (by omega), adr_r 1 rfl (by omega), adr_r 11 rfl (by omega), adr_r 11 rfl (by omega), adr_r 11 rfl (by omega), adr_r 11 rfl (by omega), adr_r 11 rfl (by omega), adr_r 11 rfl (by omega)]
  rfl
theorem L5_z3 {G : GT} {q z1 z2 z3 z4 : Nat} {r0 r1 r2 r3 r4 r5 r6 r7 r8 : Nat → Nat} : adr (L5 G q z1 z2 z3 z4 r0 r1 r2 r3 r4 r5 r6 r7 r8) 102 = z3 := by
  unfold L5
  rw [adr_r 1 rfl (by omega), adr_r 11 rfl (by omega), adr_r 11 rfl (by omega), adr_r 11 rfl (by omega), adr_r 1 rfl (by omega), adr_r 11 rfl (by omega), adr_r 11 rfl (by omega), adr_r 11 rfl (by omega), adr_r 11 rfl (by omega), adr_r 11 rfl (by omega), adr_r 11 rfl (by omega)]
  rfl
theorem L5_z4 {G : GT} {q z1 z2 z3 z4 : Nat} {r0 r1 r2 r3 r4 r5 r6 r7 r8 : Nat → Nat} : adr (L5 G q z1 z2 z3 z4 r0 r1 r2 r3 r4 r5 r6 r7 r8) 103 = z4 := by
  unfold L5
  rw [adr_r 1 rfl (by omega), adr_r 11 rfl (by omega), adr_r 11 rfl (by omega), adr_r 11 rfl (by omega), adr_r 1 rfl (by omega), adr_r 11 rfl (by omega), adr_r 11 rfl (by omega), adr_r 11 rfl (by omega), adr_r 11 rfl (by omega), adr_r 11 rfl (by omega), adr_r 11 rfl (by omega)]
  rfl
theorem fin5a {G : GT} {q z1 z2 z3 z4 : Nat} {r0 r1 r2 r3 r4 r5 r6 r7 r8 : Nat → Nat} {H : Heap} (a b : Nat → Nat) (a0 : a 0 = q) (a1 : a 1 = z1) (a2 : a 2 = z2) (a3 : a 3 = z3) (a4 : a 4 = z4) (sa0 : ∀ i, i < 11 → sA a 0 i = r0 i) (sa1 : ∀ i, i < 11 → sA a 1 i = r1 i) (sa2 : ∀ i, i < 11 → sA a 2 i = r2 i) (sb0 : ∀ i, i < 11 → sB b 0 i = r3 i) (sb1 : ∀ i, i < 11 → sB b 1 i = r4 i) (sb2 : ∀ i, i < 11 → sB b 2 i = r5 i) (sb3 : ∀ i, i < 11 → sB b 3 i = r6 i) (sb4 : ∀ i, i < 11 → sB b 4 i = r7 i) (sb5 : ∀ i, i < 11 → sB b 5 i = r8 i) (hO : PW G [(q, .inr (5, [.ref (r0 0), .ref (r1 0), .ref (r2 0), .ref z1, .ref z2, .ref z4, .int 0, .int 0]))] H) (h0 : PW G (stW G r0 sv0) H) (h1 : PW G (stW G r1 sv0) H) (h2 : PW G (stW G r2 sv0) H) (h3 : PW G (stW G r3 sv0) H) (h4 : PW G (stW G r4 sv0) H) (h5 : PW G (stW G r5 sv0) H) (h6 : PW G (stW G r6 sv0) H) (h7 : PW G (stW G r7 sv0) H) (h8 : PW G (stW G r8 sv0) H) (hZ : PW G [(z1, .inl (gR G, 6, .inr (.inr (.inr (.inr (va_up (va_up (va_up (va_up (va_up (va_up (fun _ => none) 0 (some (r3 0))) 1 (some (r4 0))) 2 (some (r5 0))) 3 (some (r6 0))) 4 (some (r7 0))) 5 (some (r8 0))))))))] H) (hT : PW G [(z2, .inr (0, [.ref z3, .int 0])), (z3, .inl (gI G, 60, .inl (fun _ => 0))), (z4, .inr (1, [.int 0, .int 0, .ref (gA G (10 + 0)), .int 0, .int 0, .int 0, .int 0, .int 0, .int 0, .int 0]))] H) : PW G (hdW G a b hv0) H := by
  have b0 : ∀ k, k < 6 → b (11 * k) = sB b k 0 := fun k _ => rfl
  refine hd_iff.mpr ⟨fun k p hk => ?_, fun j hj => ?_, fun k hk => ?_⟩
  · have a5 : a 5 = r0 0 := sa0 0 (by decide)
    have a16 : a 16 = r1 0 := sa1 0 (by decide)
    have a27 : a 27 = r2 0 := sa2 0 (by decide)
    match k, hk with
    | 0, hk =>
      cases hk
      rw [a0, a5, a16, a27, a1, a2, a4]
      exact hO 0 _ rfl
    | 1, hk =>
      cases hk
      rw [a1]
      have e : H[z1]? = some (arrV (gR G) 6 (fun j => va_rf ((va_up (va_up (va_up (va_up (va_up (va_up (fun _ => none) 0 (some (r3 0))) 1 (some (r4 0))) 2 (some (r5 0))) 3 (some (r6 0))) 4 (some (r7 0))) 5 (some (r8 0))) j))) := hZ 0 _ rfl
      show H[z1]? = some (arrV (gR G) 6 (fun j => va_rf (some (b (11 * j)))))
      rw [e]
      refine congrArg some (arrV_ext fun j hj => congrArg va_rf ?_)
      match j, hj with
      | 0, _ => exact (congrArg some (sb0 0 (by decide))).symm
      | 1, _ => exact (congrArg some (sb1 0 (by decide))).symm
      | 2, _ => exact (congrArg some (sb2 0 (by decide))).symm
      | 3, _ => exact (congrArg some (sb3 0 (by decide))).symm
      | 4, _ => exact (congrArg some (sb4 0 (by decide))).symm
      | 5, _ => exact (congrArg some (sb5 0 (by decide))).symm
      | j + 6, h => exact absurd h (by omega)
    | 2, hk =>
      cases hk
      rw [a2, a3]
      exact hT 0 _ rfl
    | 3, hk =>
      cases hk
      rw [a3]
      exact hT 1 _ rfl
    | 4, hk =>
      cases hk
      rw [a4]
      exact hT 2 _ rfl
    | k + 5, hk => cases hk
  · match j, hj with
    | 0, _ => rw [stW_congr _ sa0]; exact h0
    | 1, _ => rw [stW_congr _ sa1]; exact h1
    | 2, _ => rw [stW_congr _ sa2]; exact h2
    | j + 3, h => exact absurd h (by omega)
  · match k, hk with
    | 0, _ => rw [stW_congr _ sb0]; exact h3
    | 1, _ => rw [stW_congr _ sb1]; exact h4
    | 2, _ => rw [stW_congr _ sb2]; exact h5
    | 3, _ => rw [stW_congr _ sb3]; exact h6
    | 4, _ => rw [stW_congr _ sb4]; exact h7
    | 5, _ => rw [stW_congr _ sb5]; exact h8
    | k + 6, h => exact absurd h (by omega)
theorem fin5 {G : GT} {q z1 z2 z3 z4 : Nat} {r0 r1 r2 r3 r4 r5 r6 r7 r8 : Nat → Nat} {A : Nat → Prop} {H : Heap} (hP : PW G ([(q, .inr (5, [.ref (r0 0), .ref (r1 0), .ref (r2 0), .ref z1, .ref z2, .ref z4, .int 0, .int 0]))] ++ stW G r0 sv0 ++ stW G r1 sv0 ++ stW G r2 sv0 ++ [(z1, .inl (gR G, 6, .inr (.inr (.inr (.inr (va_up (va_up (va_up (va_up (va_up (va_up (fun _ => none) 0 (some (r3 0))) 1 (some (r4 0))) 2 (some (r5 0))) 3 (some (r6 0))) 4 (some (r7 0))) 5 (some (r8 0))))))))] ++ stW G r3 sv0 ++ stW G r4 sv0 ++ stW G r5 sv0 ++ stW G r6 sv0 ++ stW G r7 sv0 ++ stW G r8 sv0 ++ [(z2, .inr (0, [.ref z3, .int 0])), (z3, .inl (gI G, 60, .inl (fun _ => 0))), (z4, .inr (1, [.int 0, .int 0, .ref (gA G (10 + 0)), .int 0, .int 0, .int 0, .int 0, .int 0, .int 0, .int 0]))]) H) (hD : va_D A ([(q, .inr (5, [.ref (r0 0), .ref (r1 0), .ref (r2 0), .ref z1, .ref z2, .ref z4, .int 0, .int 0]))] ++ stW G r0 sv0 ++ stW G r1 sv0 ++ stW G r2 sv0 ++ [(z1, .inl (gR G, 6, .inr (.inr (.inr (.inr (va_up (va_up (va_up (va_up (va_up (va_up (fun _ => none) 0 (some (r3 0))) 1 (some (r4 0))) 2 (some (r5 0))) 3 (some (r6 0))) 4 (some (r7 0))) 5 (some (r8 0))))))))] ++ stW G r3 sv0 ++ stW G r4 sv0 ++ stW G r5 sv0 ++ stW G r6 sv0 ++ stW G r7 sv0 ++ stW G r8 sv0 ++ [(z2, .inr (0, [.ref z3, .int 0])), (z3, .inl (gI G, 60, .inl (fun _ => 0))), (z4, .inr (1, [.int 0, .int 0, .ref (gA G (10 + 0)), .int 0, .int 0, .int 0, .int 0, .int 0, .int 0, .int 0]))])) (hAL : ∀ z, A z → gL G ≤ z) : ∃ a b : Nat → Nat, a 0 = q ∧ hdD G a b ∧ PW G (hdW G a b hv0) H ∧ ∀ z, hdA a b z → A z := by
  have eL : ([(q, .inr (5, [.ref (r0 0), .ref (r1 0), .ref (r2 0), .ref z1, .ref z2, .ref z4, .int 0, .int 0]))] ++ stW G r0 sv0 ++ stW G r1 sv0 ++ stW G r2 sv0 ++ [(z1, .inl (gR G, 6, .inr (.inr (.inr (.inr (va_up (va_up (va_up (va_up (va_up (va_up (fun _ => none) 0 (some (r3 0))) 1 (some (r4 0))) 2 (some (r5 0))) 3 (some (r6 0))) 4 (some (r7 0))) 5 (some (r8 0))))))))] ++ stW G r3 sv0 ++ stW G r4 sv0 ++ stW G r5 sv0 ++ stW G r6 sv0 ++ stW G r7 sv0 ++ stW G r8 sv0 ++ [(z2, .inr (0, [.ref z3, .int 0])), (z3, .inl (gI G, 60, .inl (fun _ => 0))), (z4, .inr (1, [.int 0, .int 0, .ref (gA G (10 + 0)), .int 0, .int 0, .int 0, .int 0, .int 0, .int 0, .int 0]))] : va_W) = L5 G q z1 z2 z3 z4 r0 r1 r2 r3 r4 r5 r6 r7 r8 := by
    unfold L5
    simp only [List.append_assoc]
  rw [eL] at hP hD
  clear eL
  have ha : ∀ i, i < 38 → A (adr (L5 G q z1 z2 z3 z4 r0 r1 r2 r3 r4 r5 r6 r7 r8) (pA5 i)) := fun i hi => by
    obtain ⟨e, h⟩ := adr_at (ws := L5 G q z1 z2 z3 z4 r0 r1 r2 r3 r4 r5 r6 r7 r8) (pA5 i) (by rw [L5_len]; exact pA5_lt i hi)
    exact hD.2 _ _ h
  have hb : ∀ i, i < 66 → A (adr (L5 G q z1 z2 z3 z4 r0 r1 r2 r3 r4 r5 r6 r7 r8) (35 + i)) := fun i hi => by
    obtain ⟨e, h⟩ := adr_at (ws := L5 G q z1 z2 z3 z4 r0 r1 r2 r3 r4 r5 r6 r7 r8) (35 + i) (by rw [L5_len]; omega)
    exact hD.2 _ _ h
  refine ⟨fun i => adr (L5 G q z1 z2 z3 z4 r0 r1 r2 r3 r4 r5 r6 r7 r8) (pA5 i), fun i => adr (L5 G q z1 z2 z3 z4 r0 r1 r2 r3 r4 r5 r6 r7 r8) (35 + i), rfl, ⟨⟨fun i hi => hAL _ (ha i hi), fun i j hi hj h => ?_⟩, ⟨fun i hi => hAL _ (hb i hi), fun i j hi hj h => ?_⟩, fun i j hi hj h => ?_⟩, ?_, fun z hz => ?_⟩
  · obtain ⟨e1, h1⟩ := adr_at (ws := L5 G q z1 z2 z3 z4 r0 r1 r2 r3 r4 r5 r6 r7 r8) (pA5 i) (by rw [L5_len]; exact pA5_lt i hi)
    obtain ⟨e2, h2⟩ := adr_at (ws := L5 G q z1 z2 z3 z4 r0 r1 r2 r3 r4 r5 r6 r7 r8) (pA5 j) (by rw [L5_len]; exact pA5_lt j hj)
    exact pA5_i i j hi hj (hD.1 _ _ _ _ h1 h2 h)
  · obtain ⟨e1, h1⟩ := adr_at (ws := L5 G q z1 z2 z3 z4 r0 r1 r2 r3 r4 r5 r6 r7 r8) (35 + i) (by rw [L5_len]; omega)
    obtain ⟨e2, h2⟩ := adr_at (ws := L5 G q z1 z2 z3 z4 r0 r1 r2 r3 r4 r5 r6 r7 r8) (35 + j) (by rw [L5_len]; omega)
    have := hD.1 _ _ _ _ h1 h2 h
    omega
  · obtain ⟨e1, h1⟩ := adr_at (ws := L5 G q z1 z2 z3 z4 r0 r1 r2 r3 r4 r5 r6 r7 r8) (pA5 i) (by rw [L5_len]; exact pA5_lt i hi)
    obtain ⟨e2, h2⟩ := adr_at (ws := L5 G q z1 z2 z3 z4 r0 r1 r2 r3 r4 r5 r6 r7 r8) (35 + j) (by rw [L5_len]; omega)
    exact pA5_b i j hi hj (hD.1 _ _ _ _ h1 h2 h)
  · have hP : PW G ([(q, .inr (5, [.ref (r0 0), .ref (r1 0), .ref (r2 0), .ref z1, .ref z2, .ref z4, .int 0, .int 0]))] ++ (stW G r0 sv0 ++ (stW G r1 sv0 ++ (stW G r2 sv0 ++ ([(z1, .inl (gR G, 6, .inr (.inr (.inr (.inr (va_up (va_up (va_up (va_up (va_up (va_up (fun _ => none) 0 (some (r3 0))) 1 (some (r4 0))) 2 (some (r5 0))) 3 (some (r6 0))) 4 (some (r7 0))) 5 (some (r8 0))))))))] ++ (stW G r3 sv0 ++ (stW G r4 sv0 ++ (stW G r5 sv0 ++ (stW G r6 sv0 ++ (stW G r7 sv0 ++ (stW G r8 sv0 ++ ([(z2, .inr (0, [.ref z3, .int 0])), (z3, .inl (gI G, 60, .inl (fun _ => 0))), (z4, .inr (1, [.int 0, .int 0, .ref (gA G (10 + 0)), .int 0, .int 0, .int 0, .int 0, .int 0, .int 0, .int 0]))])))))))))))) H := hP
    have t0 := PW_app.mp hP
    have t1 := PW_app.mp t0.2
    have t2 := PW_app.mp t1.2
    have t3 := PW_app.mp t2.2
    have t4 := PW_app.mp t3.2
    have t5 := PW_app.mp t4.2
    have t6 := PW_app.mp t5.2
    have t7 := PW_app.mp t6.2
    have t8 := PW_app.mp t7.2
    have t9 := PW_app.mp t8.2
    have t10 := PW_app.mp t9.2
    exact fin5a _ _ rfl L5_z1 L5_z2 L5_z3 L5_z4 (fun i hi => (congrArg (adr (L5 G q z1 z2 z3 z4 r0 r1 r2 r3 r4 r5 r6 r7 r8)) ((congrArg pA5 (show 5 + 11 * 0 + i = 5 + (0 + i) by omega)).trans ((pA5_5 _).trans (show 1 + (0 + i) = 1 + i by omega)))).trans (L5_s0 i hi)) (fun i hi => (congrArg (adr (L5 G q z1 z2 z3 z4 r0 r1 r2 r3 r4 r5 r6 r7 r8)) ((congrArg pA5 (show 5 + 11 * 1 + i = 5 + (11 + i) by omega)).trans ((pA5_5 _).trans (show 1 + (11 + i) = 12 + i by omega)))).trans (L5_s1 i hi)) (fun i hi => (congrArg (adr (L5 G q z1 z2 z3 z4 r0 r1 r2 r3 r4 r5 r6 r7 r8)) ((congrArg pA5 (show 5 + 11 * 2 + i = 5 + (22 + i) by omega)).trans ((pA5_5 _).trans (show 1 + (22 + i) = 23 + i by omega)))).trans (L5_s2 i hi)) (fun i hi => (congrArg (adr (L5 G q z1 z2 z3 z4 r0 r1 r2 r3 r4 r5 r6 r7 r8)) (show 35 + (11 * 0 + i) = 35 + i by omega)).trans (L5_s3 i hi)) (fun i hi => (congrArg (adr (L5 G q z1 z2 z3 z4 r0 r1 r2 r3 r4 r5 r6 r7 r8)) (show 35 + (11 * 1 + i) = 46 + i by omega)).trans (L5_s4 i hi)) (fun i hi => (congrArg (adr (L5 G q z1 z2 z3 z4 r0 r1 r2 r3 r4 r5 r6 r7 r8)) (show 35 + (11 * 2 + i) = 57 + i by omega)).trans (L5_s5 i hi)) (fun i hi => (congrArg (adr (L5 G q z1 z2 z3 z4 r0 r1 r2 r3 r4 r5 r6 r7 r8)) (show 35 + (11 * 3 + i) = 68 + i by omega)).trans (L5_s6 i hi)) (fun i hi => (congrArg (adr (L5 G q z1 z2 z3 z4 r0 r1 r2 r3 r4 r5 r6 r7 r8)) (show 35 + (11 * 4 + i) = 79 + i by omega)).trans (L5_s7 i hi)) (fun i hi => (congrArg (adr (L5 G q z1 z2 z3 z4 r0 r1 r2 r3 r4 r5 r6 r7 r8)) (show 35 + (11 * 5 + i) = 90 + i by omega)).trans (L5_s8 i hi)) t0.1 t1.1 t2.1 t3.1 t5.1 t6.1 t7.1 t8.1 t9.1 t10.1 t4.1 t10.2
  · rcases hz with ⟨i, hi, e⟩ | ⟨i, hi, e⟩
    · rw [e]; exact ha i hi
    · rw [e]; exact hb i hi
