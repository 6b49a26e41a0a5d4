def fX1_take (r : Nat → Int32) (x1 : Int32) : (Nat → Int32) × Int32 := if x1 = 59 then (let r_18 := fX1_takeBetween r
  (r_18.1, r_18.2)) else (if r 0 = 0 then (let r_2 := fX1_takeFirst r x1
  (r_2.1, r_2.2)) else if r 0 = 1 then (let r_5 := fX1_takeOfWord r x1
  (r_5.1, r_5.2)) else if r 0 = 2 then (let r_8 := fX1_takeOfDots r x1
  (r_8.1, r_8.2)) else if r 0 = 3 then (let r_11 := fX1_takeFirstOfPaper r x1
  (r_11.1, r_11.2)) else if r 0 = 4 then (let r_14 := fX1_takeDigit r x1
  (r_14.1, r_14.2)) else ((r, 0)))
def tX1_readUntilError_6 (r : Nat → Int32) (u : SV) (s : (Nat → Int32)) : (Nat → Int32) × Int32 := let v_6 := s; (v_6, u 1 0)
def bX1_readUntilError_6 (r : Nat → Int32) (u : SV) (d6 : Nat) (s : (Nat → Int32)) : ((Nat → Int32)) ⊕ ((Nat → Int32) × Int32) := let v_6 := s; let r_5 := fX1_take v_6 (fX0_codeAt u (nI d6))
  if r_5.2 = 0 then (Sum.inr (r_5.1, nI d6)) else (Sum.inl r_5.1)
def fX1_readUntilError (r : Nat → Int32) (u : SV) : (Nat → Int32) × Int32 := let r_2 := fX1_beginPart r
  Sum.elim (tX1_readUntilError_6 r u) id (lpR ((u 1 0).toNatClampNeg) 0 (bX1_readUntilError_6 r u) r_2)
theorem Z_X1_takeBetween (r : Nat → Int32) : (fX1_takeBetween r).2 = 0 ∨ (fX1_takeBetween r).2 = 1 := by
  unfold fX1_takeBetween
  split
  · exact Or.inl rfl
  · exact Or.inr rfl
theorem Z_X1_takeFirst (r : Nat → Int32) (x : Int32) : (fX1_takeFirst r x).2 = 0 ∨ (fX1_takeFirst r x).2 = 1 := by
  unfold fX1_takeFirst
  repeat' split
  all_goals first | exact Or.inl rfl | exact Or.inr rfl
theorem Z_X1_takeFirstOfPaper (r : Nat → Int32) (x : Int32) : (fX1_takeFirstOfPaper r x).2 = 0 ∨ (fX1_takeFirstOfPaper r x).2 = 1 := by
  unfold fX1_takeFirstOfPaper
  repeat' split
  all_goals first | exact Or.inl rfl | exact Or.inr rfl
theorem Z_X1_takeOfWord (r : Nat → Int32) (x : Int32) : (fX1_takeOfWord r x).2 = 0 ∨ (fX1_takeOfWord r x).2 = 1 := by
  unfold fX1_takeOfWord
  dsimp only
  repeat' split
  all_goals first | exact Or.inl rfl | exact Or.inr rfl
theorem Z_X1_takeOfDots (r : Nat → Int32) (x : Int32) : (fX1_takeOfDots r x).2 = 0 ∨ (fX1_takeOfDots r x).2 = 1 := by
  unfold fX1_takeOfDots
  dsimp only
  repeat' split
  all_goals first | exact Or.inl rfl | exact Or.inr rfl | exact Z_X1_takeStar _ _
theorem Z_X1_takeDigit (r : Nat → Int32) (x : Int32) : (fX1_takeDigit r x).2 = 0 ∨ (fX1_takeDigit r x).2 = 1 := by
  unfold fX1_takeDigit
  dsimp only
  repeat' split
  all_goals first | exact Or.inl rfl | exact Or.inr rfl
theorem Z_X1_take (r : Nat → Int32) (x : Int32) : (fX1_take r x).2 = 0 ∨ (fX1_take r x).2 = 1 := by
  unfold fX1_take
  dsimp only
  repeat' split
  all_goals first | exact Or.inl rfl | exact Z_X1_takeBetween _ | exact Z_X1_takeFirst _ _ | exact Z_X1_takeOfWord _ _ | exact Z_X1_takeOfDots _ _ | exact Z_X1_takeFirstOfPaper _ _ | exact Z_X1_takeDigit _ _
theorem W_beginPart {r : Nat → Int32} (h : (r 2).toNatClampNeg < 8) : (fX1_beginPart r 2).toNatClampNeg < 8 := h
theorem W_beginWord {r : Nat → Int32} {w : Nat} {x : Int32} (hw : w < 8) : ((fX1_beginWord r w x).1 2).toNatClampNeg < 8 := by
  show (nI w).toNatClampNeg < 8
  rw [nI_clamp (by omega)]
  exact hw
theorem W_take {r : Nat → Int32} (x : Int32) (h : (r 2).toNatClampNeg < 8) : ((fX1_take r x).1 2).toNatClampNeg < 8 := by
  have t1 : ((fX1_takeBetween r).1 2).toNatClampNeg < 8 := by
    unfold fX1_takeBetween
    split
    · exact h
    · exact W_beginPart h
  have t2 : ((fX1_takeFirst r x).1 2).toNatClampNeg < 8 := by
    unfold fX1_takeFirst
    dsimp only
    repeat' split
    all_goals first | exact h | exact W_beginWord (by decide)
  have t3 : ((fX1_takeFirstOfPaper r x).1 2).toNatClampNeg < 8 := by
    unfold fX1_takeFirstOfPaper
    dsimp only
    repeat' split
    all_goals first | exact h | exact W_beginWord (by decide)
  have t4 : ((fX1_takeOfWord r x).1 2).toNatClampNeg < 8 := by
    unfold fX1_takeOfWord
    dsimp only
    repeat' split
    all_goals exact h
  have t5 : ((fX1_takeStar r x).1 2).toNatClampNeg < 8 := by
    unfold fX1_takeStar
    repeat' split
    all_goals exact h
  have t6 : ((fX1_takeOfDots r x).1 2).toNatClampNeg < 8 := by
    unfold fX1_takeOfDots
    dsimp only
    repeat' split
    all_goals first | exact h | exact t5
  have t7 : ((fX1_takeDigit r x).1 2).toNatClampNeg < 8 := by
    unfold fX1_takeDigit
    dsimp only
    repeat' split
    all_goals exact h
  unfold fX1_take
  dsimp only
  repeat' split
  all_goals first | exact h | exact t1 | exact t2 | exact t3 | exact t4 | exact t6 | exact t7
theorem dX1_take_0 : decode cX1_take 0 = .ok (.iload_n 1, 1) := by decide +kernel
theorem dX1_take_1 : decode cX1_take 1 = .ok (.bipush 59, 2) := by decide +kernel
theorem dX1_take_3 : decode cX1_take 3 = .ok (.if_icmp .ne 8, 3) := by decide +kernel
theorem dX1_take_6 : decode cX1_take 6 = .ok (.aload_n 0, 1) := by decide +kernel
theorem dX1_take_7 : decode cX1_take 7 = .ok (.invokevirtual 61, 3) := by decide +kernel
theorem dX1_take_10 : decode cX1_take 10 = .ok (.ireturn, 1) := by decide +kernel
theorem dX1_take_11 : decode cX1_take 11 = .ok (.aload_n 0, 1) := by decide +kernel
theorem dX1_take_12 : decode cX1_take 12 = .ok (.getfield 21, 3) := by decide +kernel
theorem dX1_take_15 : decode cX1_take 15 = .ok (.tableswitch 63 0 4 #[33, 39, 45, 51, 57], 33) := by decide +kernel
theorem dX1_take_48 : decode cX1_take 48 = .ok (.aload_n 0, 1) := by decide +kernel
theorem dX1_take_49 : decode cX1_take 49 = .ok (.iload_n 1, 1) := by decide +kernel
theorem dX1_take_50 : decode cX1_take 50 = .ok (.invokevirtual 65, 3) := by decide +kernel
theorem dX1_take_53 : decode cX1_take 53 = .ok (.ireturn, 1) := by decide +kernel
theorem dX1_take_54 : decode cX1_take 54 = .ok (.aload_n 0, 1) := by decide +kernel
theorem dX1_take_55 : decode cX1_take 55 = .ok (.iload_n 1, 1) := by decide +kernel
theorem dX1_take_56 : decode cX1_take 56 = .ok (.invokevirtual 68, 3) := by decide +kernel
theorem dX1_take_59 : decode cX1_take 59 = .ok (.ireturn, 1) := by decide +kernel
theorem dX1_take_60 : decode cX1_take 60 = .ok (.aload_n 0, 1) := by decide +kernel
theorem dX1_take_61 : decode cX1_take 61 = .ok (.iload_n 1, 1) := by decide +kernel
theorem dX1_take_62 : decode cX1_take 62 = .ok (.invokevirtual 71, 3) := by decide +kernel
theorem dX1_take_65 : decode cX1_take 65 = .ok (.ireturn, 1) := by decide +kernel
theorem dX1_take_66 : decode cX1_take 66 = .ok (.aload_n 0, 1) := by decide +kernel
theorem dX1_take_67 : decode cX1_take 67 = .ok (.iload_n 1, 1) := by decide +kernel
theorem dX1_take_68 : decode cX1_take 68 = .ok (.invokevirtual 74, 3) := by decide +kernel
theorem dX1_take_71 : decode cX1_take 71 = .ok (.ireturn, 1) := by decide +kernel
theorem dX1_take_72 : decode cX1_take 72 = .ok (.aload_n 0, 1) := by decide +kernel
theorem dX1_take_73 : decode cX1_take 73 = .ok (.iload_n 1, 1) := by decide +kernel
theorem dX1_take_74 : decode cX1_take 74 = .ok (.invokevirtual 77, 3) := by decide +kernel
theorem dX1_take_77 : decode cX1_take 77 = .ok (.ireturn, 1) := by decide +kernel
theorem dX1_take_78 : decode cX1_take 78 = .ok (.iconst 0, 1) := by decide +kernel
theorem dX1_take_79 : decode cX1_take 79 = .ok (.ireturn, 1) := by decide +kernel
set_option maxHeartbeats 1000000 in
set_option maxRecDepth 100000 in
theorem c_X1_take (l : Launch) (G : GT) (a : Nat) (r : Nat → Int32) (x1 : Int32) (hlow : gL G ≤ a) (hI : (r 2).toNatClampNeg < 8) : Met l yX1_take (Cond.code yX1_take cX1_take 2 (some .boolean) :: bigW) ({ frames := 5, cells := 0, slots := 0, locals := 106 }) (BP G [.ref a, .int x1] (fun U H => PW G (rrW G a r) H)) (QE (some (.int (fX1_take r x1).2)) (fun H => PW G (rrW G a (fX1_take r x1).1) H) (fun z => z = a)) 0 0 (fun z => z = a) := by
  refine met_of (by decide) (Nat.le_of_ble_eq_true rfl) ?_
  intro p e s m below meth c ls hC hKN hB0 hl
  have hP := hB0
  have hl : lv_has ls 2 [(0, .ref a), (1, .int x1)] := hl
  have hS : va_S (fun z => z = a) s.heap s.heap [] := va_S.rf
  have hAL : ∀ z, (fun z => z = a) z → gL G ≤ z := fun z h => by have h : z = a := h; rw [h]; exact hlow
  have hg : fX1_take r x1 = fX1_take r x1 := rfl
  refine lv_iload_n hC.1 hC.2.1 dX1_take_0 rfl (lv_at hl 1 rfl) ?_
  refine lv_bipush (v := 59) hC.1 hC.2.1 dX1_take_1 (by decide +kernel) ?_
  refine lv_icmp_ne (tgt := 11) hC.1 hC.2.1 dX1_take_3 (by decide) (fun k3 => ?_) (fun k3 => ?_)
  · refine lv_aload_n hC.1 hC.2.1 dX1_take_11 rfl (lv_at hl 0 rfl) ?_
    refine gf (v := .int (r 0)) hC fwX1 hKN hP 0 rfl rfl 0 (by decide) rfl wd_167 rfl dX1_take_12 ?_
    by_cases k15_0 : r 0 = 0
    · refine swIn hC (tgt := 48) 0 k15_0 dX1_take_15 (by decide) (by decide) rfl (by decide) ?_
      refine lv_aload_n hC.1 hC.2.1 dX1_take_48 rfl (lv_at hl 0 rfl) ?_
      refine lv_iload_n hC.1 hC.2.1 dX1_take_49 rfl (lv_at hl 1 rfl) ?_
      refine runE (rV (B := fun U H => PW G (rrW G a r) H) (As := [.int x1]) (rest := []) hC mwX1_takeFirst (c_X1_takeFirst l G a r x1 hlow) iwX1_takeFirst wd_263 ⟨rfl, rfl⟩ ⟨Nat.le_of_ble_eq_true rfl, Nat.le_of_ble_eq_true rfl⟩ (stb_h (fun H => PW G (rrW G a r) H)) hKN hP (va_recv hKN.k hP (ci := 1) (q0 := 0) rfl rfl) rfl hl.1 rfl (Nat.le_of_ble_eq_true rfl) dX1_take_50 ⟨Nat.zero_le _, Nat.zero_le _⟩) hS (fun _ h => h) (fun _ h => h) (fun H locs hq_1 _ _ hS => ?_)
      have hP : PW G (rrW G a ((fX1_takeFirst r x1).1)) H := hq_1
      obtain ⟨r_2, er_2⟩ : ∃ z, z = fX1_takeFirst r x1 := ⟨_, rfl⟩
      rw [← er_2] at hP
      show W p l e ({ frames := 5, cells := 0, slots := 0, locals := 106 }) s m ([.ref a, .int x1] : List Value).toArray below meth c H locs (0 + 0) (0 + 0) _ (F0 m (50 + 3) ls [.int ((fX1_takeFirst r x1).2)])
      rw [← er_2]
      have hI : True := trivial
      have e_3 : fX1_take r x1 = (r_2.1, r_2.2) := by
        delta fX1_take
        try dsimp only
        rw [← er_2]
        exact Eq.trans (if_neg k3) (Eq.trans (if_pos k15_0) rfl)
      have hg : fX1_take r x1 = (r_2.1, r_2.2) := by have e2 := congrArg (fun z => z) e_3; exact hg.trans e2
      exact eE_z hC (by rw [hg]) (nb01 (by rw [er_2]; apply Z_X1_takeFirst)) (by show PW G (rrW G a (fX1_take r x1).1) H; rw [hg]; exact hP) hS dX1_take_53
    · skip
      by_cases k15_1 : r 0 = 1
      · refine swIn hC (tgt := 54) 1 k15_1 dX1_take_15 (by decide) (by decide) rfl (by decide) ?_
        refine lv_aload_n hC.1 hC.2.1 dX1_take_54 rfl (lv_at hl 0 rfl) ?_
        refine lv_iload_n hC.1 hC.2.1 dX1_take_55 rfl (lv_at hl 1 rfl) ?_
        refine runE (rV (B := fun U H => PW G (rrW G a r) H) (As := [.int x1]) (rest := []) hC mwX1_takeOfWord (c_X1_takeOfWord l G a r x1 hlow hI) iwX1_takeOfWord wd_279 ⟨rfl, rfl⟩ ⟨Nat.le_of_ble_eq_true rfl, Nat.le_of_ble_eq_true rfl⟩ (stb_h (fun H => PW G (rrW G a r) H)) hKN hP (va_recv hKN.k hP (ci := 1) (q0 := 0) rfl rfl) rfl hl.1 rfl (Nat.le_of_ble_eq_true rfl) dX1_take_56 ⟨Nat.zero_le _, Nat.zero_le _⟩) hS (fun _ h => h) (fun _ h => h) (fun H locs hq_4 _ _ hS => ?_)
        have hP : PW G (rrW G a ((fX1_takeOfWord r x1).1)) H := hq_4
        obtain ⟨r_5, er_5⟩ : ∃ z, z = fX1_takeOfWord r x1 := ⟨_, rfl⟩
        rw [← er_5] at hP
        show W p l e ({ frames := 5, cells := 0, slots := 0, locals := 106 }) s m ([.ref a, .int x1] : List Value).toArray below meth c H locs (0 + 0) (0 + 0) _ (F0 m (56 + 3) ls [.int ((fX1_takeOfWord r x1).2)])
        rw [← er_5]
        have hI : True := trivial
        have e_6 : fX1_take r x1 = (r_5.1, r_5.2) := by
          delta fX1_take
          try dsimp only
          rw [← er_5]
          exact Eq.trans (if_neg k3) (Eq.trans (if_neg k15_0) (Eq.trans (if_pos k15_1) rfl))
        have hg : fX1_take r x1 = (r_5.1, r_5.2) := by have e2 := congrArg (fun z => z) e_6; exact hg.trans e2
        exact eE_z hC (by rw [hg]) (nb01 (by rw [er_5]; apply Z_X1_takeOfWord)) (by show PW G (rrW G a (fX1_take r x1).1) H; rw [hg]; exact hP) hS dX1_take_59
      · skip
        by_cases k15_2 : r 0 = 2
        · refine swIn hC (tgt := 60) 2 k15_2 dX1_take_15 (by decide) (by decide) rfl (by decide) ?_
          refine lv_aload_n hC.1 hC.2.1 dX1_take_60 rfl (lv_at hl 0 rfl) ?_
          refine lv_iload_n hC.1 hC.2.1 dX1_take_61 rfl (lv_at hl 1 rfl) ?_
          refine runE (rV (B := fun U H => PW G (rrW G a r) H) (As := [.int x1]) (rest := []) hC mwX1_takeOfDots (c_X1_takeOfDots l G a r x1 hlow) iwX1_takeOfDots wd_331 ⟨rfl, rfl⟩ ⟨Nat.le_of_ble_eq_true rfl, Nat.le_of_ble_eq_true rfl⟩ (stb_h (fun H => PW G (rrW G a r) H)) hKN hP (va_recv hKN.k hP (ci := 1) (q0 := 0) rfl rfl) rfl hl.1 rfl (Nat.le_of_ble_eq_true rfl) dX1_take_62 ⟨Nat.zero_le _, Nat.zero_le _⟩) hS (fun _ h => h) (fun _ h => h) (fun H locs hq_7 _ _ hS => ?_)
          have hP : PW G (rrW G a ((fX1_takeOfDots r x1).1)) H := hq_7
          obtain ⟨r_8, er_8⟩ : ∃ z, z = fX1_takeOfDots r x1 := ⟨_, rfl⟩
          rw [← er_8] at hP
          show W p l e ({ frames := 5, cells := 0, slots := 0, locals := 106 }) s m ([.ref a, .int x1] : List Value).toArray below meth c H locs (0 + 0) (0 + 0) _ (F0 m (62 + 3) ls [.int ((fX1_takeOfDots r x1).2)])
          rw [← er_8]
          have hI : True := trivial
          have e_9 : fX1_take r x1 = (r_8.1, r_8.2) := by
            delta fX1_take
            try dsimp only
            rw [← er_8]
            exact Eq.trans (if_neg k3) (Eq.trans (if_neg k15_0) (Eq.trans (if_neg k15_1) (Eq.trans (if_pos k15_2) rfl)))
          have hg : fX1_take r x1 = (r_8.1, r_8.2) := by have e2 := congrArg (fun z => z) e_9; exact hg.trans e2
          exact eE_z hC (by rw [hg]) (nb01 (by rw [er_8]; apply Z_X1_takeOfDots)) (by show PW G (rrW G a (fX1_take r x1).1) H; rw [hg]; exact hP) hS dX1_take_65
        · skip
          by_cases k15_3 : r 0 = 3
          · refine swIn hC (tgt := 66) 3 k15_3 dX1_take_15 (by decide) (by decide) rfl (by decide) ?_
            refine lv_aload_n hC.1 hC.2.1 dX1_take_66 rfl (lv_at hl 0 rfl) ?_
            refine lv_iload_n hC.1 hC.2.1 dX1_take_67 rfl (lv_at hl 1 rfl) ?_
            refine runE (rV (B := fun U H => PW G (rrW G a r) H) (As := [.int x1]) (rest := []) hC mwX1_takeFirstOfPaper (c_X1_takeFirstOfPaper l G a r x1 hlow) iwX1_takeFirstOfPaper wd_345 ⟨rfl, rfl⟩ ⟨Nat.le_of_ble_eq_true rfl, Nat.le_of_ble_eq_true rfl⟩ (stb_h (fun H => PW G (rrW G a r) H)) hKN hP (va_recv hKN.k hP (ci := 1) (q0 := 0) rfl rfl) rfl hl.1 rfl (Nat.le_of_ble_eq_true rfl) dX1_take_68 ⟨Nat.zero_le _, Nat.zero_le _⟩) hS (fun _ h => h) (fun _ h => h) (fun H locs hq_10 _ _ hS => ?_)
            have hP : PW G (rrW G a ((fX1_takeFirstOfPaper r x1).1)) H := hq_10
            obtain ⟨r_11, er_11⟩ : ∃ z, z = fX1_takeFirstOfPaper r x1 := ⟨_, rfl⟩
            rw [← er_11] at hP
            show W p l e ({ frames := 5, cells := 0, slots := 0, locals := 106 }) s m ([.ref a, .int x1] : List Value).toArray below meth c H locs (0 + 0) (0 + 0) _ (F0 m (68 + 3) ls [.int ((fX1_takeFirstOfPaper r x1).2)])
            rw [← er_11]
            have hI : True := trivial
            have e_12 : fX1_take r x1 = (r_11.1, r_11.2) := by
              delta fX1_take
              try dsimp only
              rw [← er_11]
              exact Eq.trans (if_neg k3) (Eq.trans (if_neg k15_0) (Eq.trans (if_neg k15_1) (Eq.trans (if_neg k15_2) (Eq.trans (if_pos k15_3) rfl))))
            have hg : fX1_take r x1 = (r_11.1, r_11.2) := by have e2 := congrArg (fun z => z) e_12; exact hg.trans e2
            exact eE_z hC (by rw [hg]) (nb01 (by rw [er_11]; apply Z_X1_takeFirstOfPaper)) (by show PW G (rrW G a (fX1_take r x1).1) H; rw [hg]; exact hP) hS dX1_take_71
          · skip
            by_cases k15_4 : r 0 = 4
            · refine swIn hC (tgt := 72) 4 k15_4 dX1_take_15 (by decide) (by decide) rfl (by decide) ?_
              refine lv_aload_n hC.1 hC.2.1 dX1_take_72 rfl (lv_at hl 0 rfl) ?_
              refine lv_iload_n hC.1 hC.2.1 dX1_take_73 rfl (lv_at hl 1 rfl) ?_
              refine runE (rV (B := fun U H => PW G (rrW G a r) H) (As := [.int x1]) (rest := []) hC mwX1_takeDigit (c_X1_takeDigit l G a r x1 hlow) iwX1_takeDigit wd_356 ⟨rfl, rfl⟩ ⟨Nat.le_of_ble_eq_true rfl, Nat.le_of_ble_eq_true rfl⟩ (stb_h (fun H => PW G (rrW G a r) H)) hKN hP (va_recv hKN.k hP (ci := 1) (q0 := 0) rfl rfl) rfl hl.1 rfl (Nat.le_of_ble_eq_true rfl) dX1_take_74 ⟨Nat.zero_le _, Nat.zero_le _⟩) hS (fun _ h => h) (fun _ h => h) (fun H locs hq_13 _ _ hS => ?_)
              have hP : PW G (rrW G a ((fX1_takeDigit r x1).1)) H := hq_13
              obtain ⟨r_14, er_14⟩ : ∃ z, z = fX1_takeDigit r x1 := ⟨_, rfl⟩
              rw [← er_14] at hP
              show W p l e ({ frames := 5, cells := 0, slots := 0, locals := 106 }) s m ([.ref a, .int x1] : List Value).toArray below meth c H locs (0 + 0) (0 + 0) _ (F0 m (74 + 3) ls [.int ((fX1_takeDigit r x1).2)])
              rw [← er_14]
              have hI : True := trivial
              have e_15 : fX1_take r x1 = (r_14.1, r_14.2) := by
                delta fX1_take
                try dsimp only
                rw [← er_14]
                exact Eq.trans (if_neg k3) (Eq.trans (if_neg k15_0) (Eq.trans (if_neg k15_1) (Eq.trans (if_neg k15_2) (Eq.trans (if_neg k15_3) (Eq.trans (if_pos k15_4) rfl)))))
              have hg : fX1_take r x1 = (r_14.1, r_14.2) := by have e2 := congrArg (fun z => z) e_15; exact hg.trans e2
              exact eE_z hC (by rw [hg]) (nb01 (by rw [er_14]; apply Z_X1_takeDigit)) (by show PW G (rrW G a (fX1_take r x1).1) H; rw [hg]; exact hP) hS dX1_take_77
            · skip
              refine lv_tableOut (tgt := 78) hC.1 hC.2.1 dX1_take_15 (sw_out 0 4 (by decide) (fun k h1 h2 => by match k, h1, h2 with  | 0, _, _ => exact k15_0 | 1, _, _ => exact k15_1 | 2, _, _ => exact k15_2 | 3, _, _ => exact k15_3 | 4, _, _ => exact k15_4 | k + 5, _, h => exact absurd h (by omega))) (by decide) ?_
              refine lv_iconst (v := 0) hC.1 hC.2.1 dX1_take_78 (by decide) ?_
              have e_16 : fX1_take r x1 = (r, 0) := by
                delta fX1_take
                try dsimp only
                exact Eq.trans (if_neg k3) (Eq.trans (if_neg k15_0) (Eq.trans (if_neg k15_1) (Eq.trans (if_neg k15_2) (Eq.trans (if_neg k15_3) (Eq.trans (if_neg k15_4) rfl)))))
              have hg : fX1_take r x1 = (r, 0) := by have e2 := congrArg (fun z => z) e_16; exact hg.trans e2
              exact eE_z hC (by rw [hg]) rfl (by show PW G (rrW G a (fX1_take r x1).1) s.heap; rw [hg]; exact hP) hS dX1_take_79
  · refine lv_aload_n hC.1 hC.2.1 dX1_take_6 rfl (lv_at hl 0 rfl) ?_
    refine runE (rV (B := fun U H => PW G (rrW G a r) H) (As := []) (rest := []) hC mwX1_takeBetween (c_X1_takeBetween l G a r hlow) iwX1_takeBetween wd_255 ⟨rfl, rfl⟩ ⟨Nat.le_of_ble_eq_true rfl, Nat.le_of_ble_eq_true rfl⟩ (stb_h (fun H => PW G (rrW G a r) H)) hKN hP (va_recv hKN.k hP (ci := 1) (q0 := 0) rfl rfl) rfl hl.1 rfl (Nat.le_of_ble_eq_true rfl) dX1_take_7 ⟨Nat.zero_le _, Nat.zero_le _⟩) hS (fun _ h => h) (fun _ h => h) (fun H locs hq_17 _ _ hS => ?_)
    have hP : PW G (rrW G a ((fX1_takeBetween r).1)) H := hq_17
    obtain ⟨r_18, er_18⟩ : ∃ z, z = fX1_takeBetween r := ⟨_, rfl⟩
    rw [← er_18] at hP
    show W p l e ({ frames := 5, cells := 0, slots := 0, locals := 106 }) s m ([.ref a, .int x1] : List Value).toArray below meth c H locs (0 + 0) (0 + 0) _ (F0 m (7 + 3) ls [.int ((fX1_takeBetween r).2)])
    rw [← er_18]
    have hI : True := trivial
    have e_19 : fX1_take r x1 = (r_18.1, r_18.2) := by
      delta fX1_take
      try dsimp only
      rw [← er_18]
      exact Eq.trans (if_pos k3) rfl
    have hg : fX1_take r x1 = (r_18.1, r_18.2) := by have e2 := congrArg (fun z => z) e_19; exact hg.trans e2
    exact eE_z hC (by rw [hg]) (nb01 (by rw [er_18]; apply Z_X1_takeBetween)) (by show PW G (rrW G a (fX1_take r x1).1) H; rw [hg]; exact hP) hS dX1_take_10

theorem dX1_readUntilError_0 : decode cX1_readUntilError 0 = .ok (.aload_n 0, 1) := by decide +kernel
theorem dX1_readUntilError_1 : decode cX1_readUntilError 1 = .ok (.invokevirtual 45, 3) := by decide +kernel
theorem dX1_readUntilError_4 : decode cX1_readUntilError 4 = .ok (.iconst 0, 1) := by decide +kernel
theorem dX1_readUntilError_5 : decode cX1_readUntilError 5 = .ok (.istore_n 2, 1) := by decide +kernel
theorem dX1_readUntilError_6 : decode cX1_readUntilError 6 = .ok (.iload_n 2, 1) := by decide +kernel
theorem dX1_readUntilError_7 : decode cX1_readUntilError 7 = .ok (.aload_n 1, 1) := by decide +kernel
theorem dX1_readUntilError_8 : decode cX1_readUntilError 8 = .ok (.getfield 48, 3) := by decide +kernel
theorem dX1_readUntilError_11 : decode cX1_readUntilError 11 = .ok (.if_icmp .ge 23, 3) := by decide +kernel
theorem dX1_readUntilError_14 : decode cX1_readUntilError 14 = .ok (.aload_n 0, 1) := by decide +kernel
theorem dX1_readUntilError_15 : decode cX1_readUntilError 15 = .ok (.aload_n 1, 1) := by decide +kernel
theorem dX1_readUntilError_16 : decode cX1_readUntilError 16 = .ok (.iload_n 2, 1) := by decide +kernel
theorem dX1_readUntilError_17 : decode cX1_readUntilError 17 = .ok (.invokevirtual 53, 3) := by decide +kernel
theorem dX1_readUntilError_20 : decode cX1_readUntilError 20 = .ok (.invokevirtual 57, 3) := by decide +kernel
theorem dX1_readUntilError_23 : decode cX1_readUntilError 23 = .ok (.ifCond .ne 5, 3) := by decide +kernel
theorem dX1_readUntilError_26 : decode cX1_readUntilError 26 = .ok (.iload_n 2, 1) := by decide +kernel
theorem dX1_readUntilError_27 : decode cX1_readUntilError 27 = .ok (.ireturn, 1) := by decide +kernel
theorem dX1_readUntilError_28 : decode cX1_readUntilError 28 = .ok (.iinc 2 1, 3) := by decide +kernel
theorem dX1_readUntilError_31 : decode cX1_readUntilError 31 = .ok (.goto (-25), 3) := by decide +kernel
theorem dX1_readUntilError_34 : decode cX1_readUntilError 34 = .ok (.aload_n 1, 1) := by decide +kernel
theorem dX1_readUntilError_35 : decode cX1_readUntilError 35 = .ok (.getfield 48, 3) := by decide +kernel
theorem dX1_readUntilError_38 : decode cX1_readUntilError 38 = .ok (.ireturn, 1) := by decide +kernel
set_option maxHeartbeats 1000000 in
set_option maxRecDepth 100000 in
theorem c_X1_readUntilError (l : Launch) (G : GT) (a : Nat) (r : Nat → Int32) (b : Nat → Nat) (u : SV) (hlow : gL G ≤ a) (hdb : bfN a b) (hI : (r 2).toNatClampNeg < 8) : Met l yX1_readUntilError (Cond.code yX1_readUntilError cX1_readUntilError 3 (some .int) :: bigW) ({ frames := 6, cells := 0, slots := 0, locals := 127 }) (BP G [.ref a, .ref (b 0)] (fun U H => PW G (rrW G a r) H ∧ PW G (bfW G b u) H)) (QE (some (.int (fX1_readUntilError r u).2)) (fun H => PW G (rrW G a (fX1_readUntilError r u).1) H) (fun z => z = a)) 0 0 (fun z => z = a) := by
  refine met_of (by decide) (Nat.le_of_ble_eq_true rfl) ?_
  intro p e s m below meth c ls hC hKN hB0 hl
  obtain ⟨hP, hP2⟩ := hB0
  have hl : lv_has ls 3 [(0, .ref a), (1, .ref (b 0))] := hl
  have hS : va_S (fun z => z = a) s.heap s.heap [] := va_S.rf
  have hAL : ∀ z, (fun z => z = a) z → gL G ≤ z := fun z h => by have h : z = a := h; rw [h]; exact hlow
  have hg : fX1_readUntilError r u = fX1_readUntilError r u := rfl
  refine lv_aload_n hC.1 hC.2.1 dX1_readUntilError_0 rfl (lv_at hl 0 rfl) ?_
  refine runE (rV (B := fun U H => PW G (rrW G a r) H) (As := []) (rest := []) hC mwX1_beginPart (c_X1_beginPart l G a r hlow) iwX1_beginPart wd_240 ⟨rfl, rfl⟩ ⟨Nat.le_of_ble_eq_true rfl, Nat.le_of_ble_eq_true rfl⟩ (stb_h (fun H => PW G (rrW G a r) H)) hKN hP (va_recv hKN.k hP (ci := 1) (q0 := 0) rfl rfl) rfl hl.1 rfl (Nat.le_of_ble_eq_true rfl) dX1_readUntilError_1 ⟨Nat.zero_le _, Nat.zero_le _⟩) hS (fun _ h => h) (fun _ h => h) (fun H locs hq_1 _ _ hS => ?_)
  have hP : PW G (rrW G a (fX1_beginPart r)) H := hq_1
  obtain ⟨r_2, er_2⟩ : ∃ z, z = fX1_beginPart r := ⟨_, rfl⟩
  rw [← er_2] at hP
  have hI : (r_2 2).toNatClampNeg < 8 := by rw [er_2]; exact (W_beginPart hI)
  refine lv_iconst (v := 0) hC.1 hC.2.1 dX1_readUntilError_4 (by decide) ?_
  refine lv_istore_n (lv' := [(2, .int 0), (0, .ref a), (1, .ref (b 0))]) hC.1 hC.2.1 dX1_readUntilError_5 rfl hl (by decide) rfl (fun ls hl => ?_)
  have A6 : ∀ (v_6 : Nat → Int32), fX1_readUntilError r u = (tX1_readUntilError_6 r u v_6) → (v_6 2).toNatClampNeg < 8 → ∀ (H : Heap) (locs : List Loc), PW G (rrW G a v_6) H → va_S (fun z => z = a) s.heap H locs → ∀ (ls : Array Slot), lv_has ls 3 [(1, .ref (b 0))] → W p l e ({ frames := 6, cells := 0, slots := 0, locals := 127 }) s m ([.ref a, .ref (b 0)] : List Value).toArray below meth c H locs 0 0 (MQ below (QE (some (.int (fX1_readUntilError r u).2)) (fun H => PW G (rrW G a (fX1_readUntilError r u).1) H) (fun z => z = a)) ([.ref a, .ref (b 0)] : List Value).toArray s 0 0 (fun z => z = a)) (F0 m 34 ls []) := by
    intro  v_6 hg hI H locs hP hS ls hl
    refine lv_aload_n hC.1 hC.2.1 dX1_readUntilError_34 rfl (lv_at hl 0 rfl) ?_
    refine gfN (v := .int (u 1 0)) hC fwX0 (hKN.go hAL hS) (keepS hP2 hS (bfN_na hdb u)) 0 rfl rfl 1 (by decide) rfl (nf_18 (hKN.go hAL hS)) rfl dX1_readUntilError_35 ?_
    have e_3 : tX1_readUntilError_6 r u v_6 = (v_6, u 1 0) := by
      delta tX1_readUntilError_6
      try dsimp only
      try exact rfl
    have hg : fX1_readUntilError r u = (v_6, u 1 0) := by have e2 := congrArg (fun z => z) e_3; exact hg.trans e2
    exact eE_i hC (by rw [hg]) (by show PW G (rrW G a (fX1_readUntilError r u).1) H; rw [hg]; exact hP) hS dX1_readUntilError_38
  have L6 : ∀ (n6 d6 : Nat), ∀ (v_6 : Nat → Int32), d6 + n6 = ((u 1 0).toNatClampNeg) → fX1_readUntilError r u = (Sum.elim (tX1_readUntilError_6 r u) id (lpR n6 d6 (bX1_readUntilError_6 r u) v_6)) → (v_6 2).toNatClampNeg < 8 → ∀ (H : Heap) (locs : List Loc), PW G (rrW G a v_6) H → va_S (fun z => z = a) s.heap H locs → ∀ (ls : Array Slot), lv_has ls 3 [(0, .ref a), (1, .ref (b 0)), (2, .int (nI d6))] → W p l e ({ frames := 6, cells := 0, slots := 0, locals := 127 }) s m ([.ref a, .ref (b 0)] : List Value).toArray below meth c H locs 0 0 (MQ below (QE (some (.int (fX1_readUntilError r u).2)) (fun H => PW G (rrW G a (fX1_readUntilError r u).1) H) (fun z => z = a)) ([.ref a, .ref (b 0)] : List Value).toArray s 0 0 (fun z => z = a)) (F0 m 6 ls []) := by
    intro n6
    induction n6 with
    | zero =>
      intro d6 v_6 hd hg hI H locs hP hS ls hl
      refine lv_iload_n hC.1 hC.2.1 dX1_readUntilError_6 rfl (lv_at hl 2 rfl) ?_
      refine lv_aload_n hC.1 hC.2.1 dX1_readUntilError_7 rfl (lv_at hl 1 rfl) ?_
      refine gfN (v := .int (u 1 0)) hC fwX0 (hKN.go hAL hS) (keepS hP2 hS (bfN_na hdb u)) 0 rfl rfl 1 (by decide) rfl (nf_18 (hKN.go hAL hS)) rfl dX1_readUntilError_8 ?_
      refine lv_icmp_ge (tgt := 34) hC.1 hC.2.1 dX1_readUntilError_11 (by decide) (fun k11 => ?_) (fun k11 => ?_)
      · exact A6  v_6 hg hI _ _ hP hS _ (lv_sub hl [1] rfl)
      · exact absurd (cl_le (by omega) (by have := cl_lt (u 1 0); omega)) k11
    | succ n6 ih =>
      intro d6 v_6 hd hg hI H locs hP hS ls hl
      have hg : fX1_readUntilError r u = (Sum.elim (tX1_readUntilError_6 r u) id (lpRs n6 d6 (bX1_readUntilError_6 r u) (bX1_readUntilError_6 r u d6 v_6))) := hg
      refine lv_iload_n hC.1 hC.2.1 dX1_readUntilError_6 rfl (lv_at hl 2 rfl) ?_
      refine lv_aload_n hC.1 hC.2.1 dX1_readUntilError_7 rfl (lv_at hl 1 rfl) ?_
      refine gfN (v := .int (u 1 0)) hC fwX0 (hKN.go hAL hS) (keepS hP2 hS (bfN_na hdb u)) 0 rfl rfl 1 (by decide) rfl (nf_18 (hKN.go hAL hS)) rfl dX1_readUntilError_8 ?_
      refine lv_icmp_ge (tgt := 34) hC.1 hC.2.1 dX1_readUntilError_11 (by decide) (fun k11 => ?_) (fun k11 => ?_)
      · exact absurd k11 (cl_nle (by omega))
      · refine lv_aload_n hC.1 hC.2.1 dX1_readUntilError_14 rfl (lv_at hl 0 rfl) ?_
        refine lv_aload_n hC.1 hC.2.1 dX1_readUntilError_15 rfl (lv_at hl 1 rfl) ?_
        refine lv_iload_n hC.1 hC.2.1 dX1_readUntilError_16 rfl (lv_at hl 2 rfl) ?_
        refine runP (rV (B := fun U H => PW G (bfW G b u) H) (As := [.int (nI d6)]) (rest := [.ref a]) hC mwX0_codeAt (c_X0_codeAt l G b u (nI d6)) iwX0_codeAt wd_244 ⟨rfl, rfl⟩ ⟨Nat.le_of_ble_eq_true rfl, Nat.le_of_ble_eq_true rfl⟩ (stb_h (fun H => PW G (bfW G b u) H)) (hKN.go hAL hS) (keepS hP2 hS (bfN_na hdb u)) (va_recv (hKN.go hAL hS).k (keepS hP2 hS (bfN_na hdb u)) (ci := 0) (q0 := 0) rfl rfl) rfl hl.1 rfl (Nat.le_of_ble_eq_true rfl) dX1_readUntilError_17 ⟨Nat.zero_le _, Nat.zero_le _⟩) ?_
        refine runE (rV (B := fun U H => PW G (rrW G a v_6) H) (As := [.int (fX0_codeAt u (nI d6))]) (rest := []) hC mwX1_take (c_X1_take l G a v_6 (fX0_codeAt u (nI d6)) hlow hI) iwX1_take wd_251 ⟨rfl, rfl⟩ ⟨Nat.le_of_ble_eq_true rfl, Nat.le_of_ble_eq_true rfl⟩ (stb_h (fun H => PW G (rrW G a v_6) H)) (hKN.go hAL hS) hP (va_recv (hKN.go hAL hS).k hP (ci := 1) (q0 := 0) rfl rfl) rfl hl.1 rfl (Nat.le_of_ble_eq_true rfl) dX1_readUntilError_20 ⟨Nat.zero_le _, Nat.zero_le _⟩) hS (fun _ h => h) (fun _ h => h) (fun H locs hq_4 _ _ hS => ?_)
        have hP : PW G (rrW G a ((fX1_take v_6 (fX0_codeAt u (nI d6))).1)) H := hq_4
        obtain ⟨r_5, er_5⟩ : ∃ z, z = fX1_take v_6 (fX0_codeAt u (nI d6)) := ⟨_, rfl⟩
        rw [← er_5] at hP
        show W p l e ({ frames := 6, cells := 0, slots := 0, locals := 127 }) s m ([.ref a, .ref (b 0)] : List Value).toArray below meth c H locs (0 + 0) (0 + 0) _ (F0 m (20 + 3) ls [.int ((fX1_take v_6 (fX0_codeAt u (nI d6))).2)])
        rw [← er_5]
        have hI : (r_5.1 2).toNatClampNeg < 8 := by rw [er_5]; exact (W_take _ hI)
        refine lv_if_ne (tgt := 28) hC.1 hC.2.1 dX1_readUntilError_23 (by decide) (fun k23 => ?_) (fun k23 => ?_)
        · refine lv_iinc (v := nI (d6 + 1)) (lv' := [(2, .int (nI (d6 + 1))), (0, .ref a), (1, .ref (b 0))]) hC.1 hC.2.1 dX1_readUntilError_28 hl (k := 2) rfl (nI_1 _) (by decide) rfl (fun ls hl => ?_)
          refine lv_goto (tgt := 6) hC.1 hC.2.1 dX1_readUntilError_31 (by decide) ?_
          have e_6 : bX1_readUntilError_6 r u d6 v_6 = Sum.inl r_5.1 := by
            delta bX1_readUntilError_6
            try dsimp only
            rw [← er_5]
            exact Eq.trans (if_neg k23) rfl
          have hg : fX1_readUntilError r u = (Sum.elim (tX1_readUntilError_6 r u) id (lpR n6 (d6 + 1) (bX1_readUntilError_6 r u) r_5.1)) := by have e2 := congrArg (fun z => (Sum.elim (tX1_readUntilError_6 r u) id (lpRs n6 d6 (bX1_readUntilError_6 r u) z))) e_6; exact hg.trans e2
          exact ih (d6 + 1) r_5.1 (by omega) hg hI _ _ hP hS _ (lv_sub hl [1, 2, 0] rfl)
        · refine lv_iload_n hC.1 hC.2.1 dX1_readUntilError_26 rfl (lv_at hl 2 rfl) ?_
          have e_7 : bX1_readUntilError_6 r u d6 v_6 = Sum.inr (r_5.1, nI d6) := by
            delta bX1_readUntilError_6
            try dsimp only
            rw [← er_5]
            exact Eq.trans (if_pos k23) rfl
          have hg : fX1_readUntilError r u = (r_5.1, nI d6) := by have e2 := congrArg (fun z => (Sum.elim (tX1_readUntilError_6 r u) id (lpRs n6 d6 (bX1_readUntilError_6 r u) z))) e_7; exact hg.trans e2
          exact eE_i hC (by rw [hg]) (by show PW G (rrW G a (fX1_readUntilError r u).1) H; rw [hg]; exact hP) hS dX1_readUntilError_27
  have e_8 : fX1_readUntilError r u = Sum.elim (tX1_readUntilError_6 r u) id (lpR ((u 1 0).toNatClampNeg) 0 (bX1_readUntilError_6 r u) r_2) := by
    delta fX1_readUntilError
    try dsimp only
    rw [← er_2]
  have hg : fX1_readUntilError r u = (Sum.elim (tX1_readUntilError_6 r u) id (lpR ((u 1 0).toNatClampNeg) 0 (bX1_readUntilError_6 r u) r_2)) := by have e2 := congrArg (fun z => z) e_8; exact hg.trans e2
  exact L6  ((u 1 0).toNatClampNeg) 0 r_2 (by omega) hg hI _ _ hP hS _ (lv_sub hl [1, 2, 0] rfl)
