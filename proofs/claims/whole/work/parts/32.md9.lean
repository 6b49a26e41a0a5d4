def tX6_mixStrip_2 (v : SV) (hs : Int64) (s : Int64) : Int64 := let h_2 := s; h_2
def tX6_mixStrip_46 (v : SV) (hs : Int64) (d2 : Nat) (s : Int32 × Int64) : Int64 := let y2_46 := s.1; let h_46 := s.2; h_46
def bX6_mixStrip_46 (v : SV) (hs : Int64) (d2 : Nat) (s : Int32 × Int64) : Bool × (Int32 × Int64) := let y2_46 := s.1; let h_46 := s.2; if (fX6_toldAt v d2 y2_46) = (-1) then ((false, (y2_46, h_46))) else (let r_5 := fX6_mix v h_46 ((fX6_toldAt v d2 y2_46).toInt64)
  (true, (y2_46 + 1, r_5)))
def tX6_mixStrip_15 (v : SV) (hs : Int64) (d2 : Nat) (s : Int64) : Int64 := let h_15 := s; tX6_mixStrip_46 v hs d2 (lpB (mR + 1) (bX6_mixStrip_46 v hs d2) (0, h_15))
def bX6_mixStrip_15 (v : SV) (hs : Int64) (d2 : Nat) (d15 : Nat) (s : Int64) : Int64 := let h_15 := s; let r_9 := fX6_mix v h_15 (((v 0) ((88 + (3 * d2)) + d15)).toInt64)
  r_9
def bX6_mixStrip_2 (v : SV) (hs : Int64) (d2 : Nat) (s : Int64) : Int64 := let h_2 := s; tX6_mixStrip_15 v hs d2 (lpF 3 0 (bX6_mixStrip_15 v hs d2) h_2)
def fX6_mixStrip (v : SV) (hs : Int64) : Int64 := tX6_mixStrip_2 v hs (lpF (((v 0) 87).toNatClampNeg) 0 (bX6_mixStrip_2 v hs) hs)
theorem toldAt_end {v : SV} {d k : Nat} (hp : le_n ((v 0) (90 + 3 * d)) 24) (hk : 48 ≤ k) (hk2 : k < 2 ^ 31) : fX6_toldAt v d (nI k) = -1 := by
  have e : (88 + 3 * d) + 2 = 90 + 3 * d := by omega
  have h1 := lq hp
  have h2 := hp.2
  unfold fX6_toldAt
  rw [e, h1]
  generalize ((v 0) (90 + 3 * d)).toNatClampNeg = c at h2
  split
  · rfl
  · have k24 : ¬ nI k < 24 := nI_nlt (a := k) (b := 24) (by omega) hk2
    rw [if_neg k24, if_neg]
    rw [show (24 : Int32) + nI c = nI (24 + c) from nI_add 24 c, show nI (24 + c) - 2 = nI (24 + c - 2) from pk_sub (b := 2) (by omega)]
    exact nI_ge (by omega) (by omega)
theorem T_mixStrip (v : SV) (hs : Int64) (d : Nat) (h : Int64) (hp : le_n ((v 0) (90 + 3 * d)) 24) : lpT (mR + 1) (bX6_mixStrip_46 v hs d) (0, h) := by
  have key : ∀ (n k : Nat) (h : Int64), 48 ≤ k + n → k ≤ 48 → lpT (n + 1) (bX6_mixStrip_46 v hs d) (nI k, h) := by
    intro n
    induction n with
    | zero =>
      intro k h h1 h2
      refine Or.inl ?_
      unfold bX6_mixStrip_46
      dsimp only
      rw [if_pos (toldAt_end hp (by omega) (by omega))]
    | succ n ih =>
      intro k h h1 h2
      by_cases q : fX6_toldAt v d (nI k) = -1
      · refine Or.inl ?_
        unfold bX6_mixStrip_46
        dsimp only
        rw [if_pos q]
      · have k48 : k < 48 := by
          rcases Nat.lt_or_ge k 48 with z | z
          · exact z
          · exact absurd (toldAt_end hp z (by omega)) q
        refine Or.inr ?_
        have e : ∃ h2, bX6_mixStrip_46 v hs d (nI k, h) = (true, (nI (k + 1), h2)) := by
          unfold bX6_mixStrip_46
          dsimp only
          rw [if_neg q, nI_1]
          exact ⟨_, rfl⟩
        obtain ⟨h2, e⟩ := e
        rw [e]
        exact ih (k + 1) h2 (by omega) (by omega)
  have h0 := key mR 0 h (by show 48 ≤ 0 + 60; omega) (by omega)
  rw [nI_0] at h0
  exact h0
def DI (v : SV) : Prop := SI (v 0) ∧ le_n ((v 0) 87) 12 ∧ (∀ j, j < 12 → le_n ((v 0) (90 + 3 * j)) 24) ∧ le_n (v 8 6) 60
theorem DI_row {v w : SV} (h : DI v) (h1 : ∀ k, k < 124 → w 0 k = v 0 k) (h2 : w 8 6 = v 8 6) : DI w := by
  refine ⟨SI_row h.1 h1, ?_, fun j hj => ?_, ?_⟩
  · rw [h1 87 (by omega)]; exact h.2.1
  · rw [h1 _ (by omega)]; exact h.2.2.1 j hj
  · rw [h2]; exact h.2.2.2
theorem WB_eq (v : SV) (x1 x2 : Int32) : (fX6_wouldBring v x1 x2).1 = fX6_putBack (fX6_printLine (fX6_putAside v) x1).1 := by
  unfold fX6_wouldBring
  dsimp only
  split
  · rfl
  · split
    · rfl
    · split
      · rfl
      · split
        · rfl
        · split <;> rfl
theorem FRM.s6 {v w : SV} (h : FRM v w) : w 8 6 = v 8 6 := by
  obtain ⟨a1, a2, a3, a4, a5, a6, a7, a8, a9, b1, b2, b3, b4⟩ := h
  exact b2
theorem WB_len (v : SV) (x1 x2 : Int32) : (fX6_wouldBring v x1 x2).1 8 6 = v 8 6 := by
  rw [WB_eq, (putBack_row _).2.s6, (F_printLine _ _).s6]
  exact ((putAside_eq v).2.1.s6).symm
theorem better_aux (y : Int32) (r_3 r_6 : SV × Int32) : (if r_3.2 ≤ r_6.2 then (mkM (upd (r_6.1 0) 79 y) (r_6.1 1) (r_6.1 2) (r_6.1 3) (r_6.1 4) (r_6.1 5) (r_6.1 6) (r_6.1 7) (r_6.1 8 0) (r_6.1 8 1) (r_6.1 8 2) (r_6.1 8 3) (r_6.1 8 4) (r_6.1 8 5) (r_6.1 8 6) (r_6.1 8 7) (r_6.1 8 8), (0 : Int32)) else (mkM (upd (r_6.1 0) 79 y) (r_6.1 1) (r_6.1 2) (r_6.1 3) (r_6.1 4) (r_6.1 5) (r_6.1 6) (r_6.1 7) (r_6.1 8 0) (r_6.1 8 1) (r_6.1 8 2) (r_6.1 8 3) (r_6.1 8 4) (r_6.1 8 5) (r_6.1 8 6) (r_6.1 8 7) (r_6.1 8 8), 1)).1 = mkM (upd (r_6.1 0) 79 y) (r_6.1 1) (r_6.1 2) (r_6.1 3) (r_6.1 4) (r_6.1 5) (r_6.1 6) (r_6.1 7) (r_6.1 8 0) (r_6.1 8 1) (r_6.1 8 2) (r_6.1 8 3) (r_6.1 8 4) (r_6.1 8 5) (r_6.1 8 6) (r_6.1 8 7) (r_6.1 8 8) := by
  split <;> rfl
theorem mkM_0 (a0 a1 a2 a3 a4 a5 a6 a7 : Nat → Int32) (b0 b1 b2 b3 b4 b5 b6 b7 b8 : Int32) : mkM a0 a1 a2 a3 a4 a5 a6 a7 b0 b1 b2 b3 b4 b5 b6 b7 b8 0 = a0 := rfl
theorem mkM_86 (a0 a1 a2 a3 a4 a5 a6 a7 : Nat → Int32) (b0 b1 b2 b3 b4 b5 b6 b7 b8 : Int32) : mkM a0 a1 a2 a3 a4 a5 a6 a7 b0 b1 b2 b3 b4 b5 b6 b7 b8 8 6 = b6 := rfl
theorem better_row (v : SV) (x1 : Int32) : ∀ k, k < 124 → ((fX6_better v x1).1 0) k = v 0 k := by
  intro k hk
  unfold fX6_better
  dsimp only
  rw [better_aux, mkM_0]
  by_cases q : k = 79
  · rw [q, pk_us]
  · rw [pk_un q, WB_row _ _ _ k hk, mkM_0, pk_un q, WB_row _ _ _ k hk, mkM_0, pk_un q]
theorem better_len (v : SV) (x1 : Int32) : (fX6_better v x1).1 8 6 = v 8 6 := by
  unfold fX6_better
  dsimp only
  rw [better_aux, mkM_86, WB_len, mkM_86, WB_len, mkM_86]
theorem dX6_mixStrip_0 : decode cX6_mixStrip 0 = .ok (.iconst 0, 1) := by decide +kernel
theorem dX6_mixStrip_1 : decode cX6_mixStrip 1 = .ok (.istore_n 1, 1) := by decide +kernel
theorem dX6_mixStrip_2 : decode cX6_mixStrip 2 = .ok (.iload_n 1, 1) := by decide +kernel
theorem dX6_mixStrip_3 : decode cX6_mixStrip 3 = .ok (.aload_n 0, 1) := by decide +kernel
theorem dX6_mixStrip_4 : decode cX6_mixStrip 4 = .ok (.getfield 7, 3) := by decide +kernel
theorem dX6_mixStrip_7 : decode cX6_mixStrip 7 = .ok (.bipush 87, 2) := by decide +kernel
theorem dX6_mixStrip_9 : decode cX6_mixStrip 9 = .ok (.iaload, 1) := by decide +kernel
theorem dX6_mixStrip_10 : decode cX6_mixStrip 10 = .ok (.if_icmp .ge 69, 3) := by decide +kernel
theorem dX6_mixStrip_13 : decode cX6_mixStrip 13 = .ok (.iconst 0, 1) := by decide +kernel
theorem dX6_mixStrip_14 : decode cX6_mixStrip 14 = .ok (.istore_n 2, 1) := by decide +kernel
theorem dX6_mixStrip_15 : decode cX6_mixStrip 15 = .ok (.iload_n 2, 1) := by decide +kernel
theorem dX6_mixStrip_16 : decode cX6_mixStrip 16 = .ok (.iconst 3, 1) := by decide +kernel
theorem dX6_mixStrip_17 : decode cX6_mixStrip 17 = .ok (.if_icmp .ge 27, 3) := by decide +kernel
theorem dX6_mixStrip_20 : decode cX6_mixStrip 20 = .ok (.aload_n 0, 1) := by decide +kernel
theorem dX6_mixStrip_21 : decode cX6_mixStrip 21 = .ok (.aload_n 0, 1) := by decide +kernel
theorem dX6_mixStrip_22 : decode cX6_mixStrip 22 = .ok (.getfield 7, 3) := by decide +kernel
theorem dX6_mixStrip_25 : decode cX6_mixStrip 25 = .ok (.bipush 88, 2) := by decide +kernel
theorem dX6_mixStrip_27 : decode cX6_mixStrip 27 = .ok (.iconst 3, 1) := by decide +kernel
theorem dX6_mixStrip_28 : decode cX6_mixStrip 28 = .ok (.iload_n 1, 1) := by decide +kernel
theorem dX6_mixStrip_29 : decode cX6_mixStrip 29 = .ok (.imul, 1) := by decide +kernel
theorem dX6_mixStrip_30 : decode cX6_mixStrip 30 = .ok (.iadd, 1) := by decide +kernel
theorem dX6_mixStrip_31 : decode cX6_mixStrip 31 = .ok (.iload_n 2, 1) := by decide +kernel
theorem dX6_mixStrip_32 : decode cX6_mixStrip 32 = .ok (.iadd, 1) := by decide +kernel
theorem dX6_mixStrip_33 : decode cX6_mixStrip 33 = .ok (.iaload, 1) := by decide +kernel
theorem dX6_mixStrip_34 : decode cX6_mixStrip 34 = .ok (.i2l, 1) := by decide +kernel
theorem dX6_mixStrip_35 : decode cX6_mixStrip 35 = .ok (.invokevirtual 222, 3) := by decide +kernel
theorem dX6_mixStrip_38 : decode cX6_mixStrip 38 = .ok (.iinc 2 1, 3) := by decide +kernel
theorem dX6_mixStrip_41 : decode cX6_mixStrip 41 = .ok (.goto (-26), 3) := by decide +kernel
theorem dX6_mixStrip_44 : decode cX6_mixStrip 44 = .ok (.iconst 0, 1) := by decide +kernel
theorem dX6_mixStrip_45 : decode cX6_mixStrip 45 = .ok (.istore_n 2, 1) := by decide +kernel
theorem dX6_mixStrip_46 : decode cX6_mixStrip 46 = .ok (.aload_n 0, 1) := by decide +kernel
theorem dX6_mixStrip_47 : decode cX6_mixStrip 47 = .ok (.iload_n 1, 1) := by decide +kernel
theorem dX6_mixStrip_48 : decode cX6_mixStrip 48 = .ok (.iload_n 2, 1) := by decide +kernel
theorem dX6_mixStrip_49 : decode cX6_mixStrip 49 = .ok (.invokevirtual 174, 3) := by decide +kernel
theorem dX6_mixStrip_52 : decode cX6_mixStrip 52 = .ok (.iconst (-1), 1) := by decide +kernel
theorem dX6_mixStrip_53 : decode cX6_mixStrip 53 = .ok (.if_icmp .eq 20, 3) := by decide +kernel
theorem dX6_mixStrip_56 : decode cX6_mixStrip 56 = .ok (.aload_n 0, 1) := by decide +kernel
theorem dX6_mixStrip_57 : decode cX6_mixStrip 57 = .ok (.aload_n 0, 1) := by decide +kernel
theorem dX6_mixStrip_58 : decode cX6_mixStrip 58 = .ok (.iload_n 1, 1) := by decide +kernel
theorem dX6_mixStrip_59 : decode cX6_mixStrip 59 = .ok (.iload_n 2, 1) := by decide +kernel
theorem dX6_mixStrip_60 : decode cX6_mixStrip 60 = .ok (.invokevirtual 174, 3) := by decide +kernel
theorem dX6_mixStrip_63 : decode cX6_mixStrip 63 = .ok (.i2l, 1) := by decide +kernel
theorem dX6_mixStrip_64 : decode cX6_mixStrip 64 = .ok (.invokevirtual 222, 3) := by decide +kernel
theorem dX6_mixStrip_67 : decode cX6_mixStrip 67 = .ok (.iinc 2 1, 3) := by decide +kernel
theorem dX6_mixStrip_70 : decode cX6_mixStrip 70 = .ok (.goto (-24), 3) := by decide +kernel
theorem dX6_mixStrip_73 : decode cX6_mixStrip 73 = .ok (.iinc 1 1, 3) := by decide +kernel
theorem dX6_mixStrip_76 : decode cX6_mixStrip 76 = .ok (.goto (-74), 3) := by decide +kernel
theorem dX6_mixStrip_79 : decode cX6_mixStrip 79 = .ok (.return_, 1) := by decide +kernel
set_option maxHeartbeats 1000000 in
set_option maxRecDepth 100000 in
theorem c_X6_mixStrip (l : Launch) (G : GT) (q : Nat → Nat) (v : SV) (hs : Int64) (hq : mdD G q) (h12 : le_n ((v 0) 87) 12) (h90 : ∀ j, j < 12 → le_n ((v 0) (90 + 3 * j)) 24) : Met l yX6_mixStrip (Cond.code yX6_mixStrip cX6_mixStrip 3 none :: bigW) ({ frames := 3, cells := 0, slots := 0, locals := 66 }) (BP G [.ref (q 0)] (fun U H => PW G (mdW G q v hs) H)) (QE (none) (fun H => PW G (mdW G q v (fX6_mixStrip v hs)) H) (mdA q)) 0 0 (mdA q) := by
  refine met_of (by decide) (Nat.le_of_ble_eq_true rfl) ?_
  intro p e s m below meth c ls hC hKN hB0 hl
  have hP := hB0
  have hl : lv_has ls 3 [(0, .ref (q 0))] := hl
  have hS : va_S (mdA q) s.heap s.heap [] := va_S.rf
  have hAL : ∀ a, (mdA q) a → gL G ≤ a := mdD_low hq
  have hg : fX6_mixStrip v hs = fX6_mixStrip v hs := rfl
  refine lv_iconst (v := 0) hC.1 hC.2.1 dX6_mixStrip_0 (by decide) ?_
  refine lv_istore_n (lv' := [(1, .int 0), (0, .ref (q 0))]) hC.1 hC.2.1 dX6_mixStrip_1 rfl hl (by decide) rfl (fun ls hl => ?_)
  have A2 : ∀ (h_2 : Int64), fX6_mixStrip v hs = (tX6_mixStrip_2 v hs h_2) → ∀ (H : Heap) (locs : List Loc), PW G (mdW G q v h_2) H → va_S (mdA q) s.heap H locs → ∀ (ls : Array Slot), lv_has ls 3 [] → W p l e ({ frames := 3, cells := 0, slots := 0, locals := 66 }) s m ([.ref (q 0)] : List Value).toArray below meth c H locs 0 0 (MQ below (QE (none) (fun H => PW G (mdW G q v (fX6_mixStrip v hs)) H) (mdA q)) ([.ref (q 0)] : List Value).toArray s 0 0 (mdA q)) (F0 m 79 ls []) := by
    intro  h_2 hg H locs hP hS ls hl
    have e_1 : tX6_mixStrip_2 v hs h_2 = h_2 := by delta tX6_mixStrip_2; exact rfl
    have hg : fX6_mixStrip v hs = h_2 := by have e2 := congrArg (fun z => z) e_1; exact hg.trans e2
    exact eE_v hC (by show PW G (mdW G q v (fX6_mixStrip v hs)) H; rw [hg]; exact hP) hS dX6_mixStrip_79
  have L2 : ∀ (n2 d2 : Nat), ∀ (h_2 : Int64), d2 + n2 = (((v 0) 87).toNatClampNeg) → fX6_mixStrip v hs = (tX6_mixStrip_2 v hs (lpF n2 d2 (bX6_mixStrip_2 v hs) h_2)) → ∀ (H : Heap) (locs : List Loc), PW G (mdW G q v h_2) H → va_S (mdA q) s.heap H locs → ∀ (ls : Array Slot), lv_has ls 3 [(0, .ref (q 0)), (1, .int (nI d2))] → W p l e ({ frames := 3, cells := 0, slots := 0, locals := 66 }) s m ([.ref (q 0)] : List Value).toArray below meth c H locs 0 0 (MQ below (QE (none) (fun H => PW G (mdW G q v (fX6_mixStrip v hs)) H) (mdA q)) ([.ref (q 0)] : List Value).toArray s 0 0 (mdA q)) (F0 m 2 ls []) := by
    intro n2
    induction n2 with
    | zero =>
      intro d2 h_2 hd hg H locs hP hS ls hl
      refine lv_iload_n hC.1 hC.2.1 dX6_mixStrip_2 rfl (lv_at hl 1 rfl) ?_
      refine lv_aload_n hC.1 hC.2.1 dX6_mixStrip_3 rfl (lv_at hl 0 rfl) ?_
      refine gf (v := .ref (q 1)) hC fwX6 (hKN.go hAL hS) hP 0 rfl rfl 0 (by decide) rfl wd_887 rfl dX6_mixStrip_4 ?_
      refine lv_bipush (v := 87) hC.1 hC.2.1 dX6_mixStrip_7 (by decide +kernel) ?_
      refine iald_k hC (hKN.go hAL hS) hP 1 rfl (n := 124) (f := (v 0)) 87 (rfl) (by omega) (by decide) dX6_mixStrip_9 ?_
      refine lv_icmp_ge (tgt := 79) hC.1 hC.2.1 dX6_mixStrip_10 (by decide) (fun k10 => ?_) (fun k10 => ?_)
      · exact A2  h_2 hg _ _ hP hS _ (lv_sub hl [] rfl)
      · exact absurd (cl_le (by omega) (by have := cl_lt ((v 0) 87); omega)) k10
    | succ n2 ih =>
      intro d2 h_2 hd hg H locs hP hS ls hl
      have hg : fX6_mixStrip v hs = (tX6_mixStrip_2 v hs (lpF n2 (d2 + 1) (bX6_mixStrip_2 v hs) (bX6_mixStrip_2 v hs d2 h_2))) := hg
      refine lv_iload_n hC.1 hC.2.1 dX6_mixStrip_2 rfl (lv_at hl 1 rfl) ?_
      refine lv_aload_n hC.1 hC.2.1 dX6_mixStrip_3 rfl (lv_at hl 0 rfl) ?_
      refine gf (v := .ref (q 1)) hC fwX6 (hKN.go hAL hS) hP 0 rfl rfl 0 (by decide) rfl wd_887 rfl dX6_mixStrip_4 ?_
      refine lv_bipush (v := 87) hC.1 hC.2.1 dX6_mixStrip_7 (by decide +kernel) ?_
      refine iald_k hC (hKN.go hAL hS) hP 1 rfl (n := 124) (f := (v 0)) 87 (rfl) (by omega) (by decide) dX6_mixStrip_9 ?_
      refine lv_icmp_ge (tgt := 79) hC.1 hC.2.1 dX6_mixStrip_10 (by decide) (fun k10 => ?_) (fun k10 => ?_)
      · exact absurd k10 (cl_nle (by omega))
      · refine lv_iconst (v := 0) hC.1 hC.2.1 dX6_mixStrip_13 (by decide) ?_
        refine lv_istore_n (lv' := [(2, .int 0), (0, .ref (q 0)), (1, .int (nI d2))]) hC.1 hC.2.1 dX6_mixStrip_14 rfl hl (by decide) rfl (fun ls hl => ?_)
        have A15 : ∀ (h_15 : Int64), fX6_mixStrip v hs = (tX6_mixStrip_2 v hs (lpF n2 (d2 + 1) (bX6_mixStrip_2 v hs) (tX6_mixStrip_15 v hs d2 h_15))) → ∀ (H : Heap) (locs : List Loc), PW G (mdW G q v h_15) H → va_S (mdA q) s.heap H locs → ∀ (ls : Array Slot), lv_has ls 3 [(0, .ref (q 0)), (1, .int (nI d2))] → W p l e ({ frames := 3, cells := 0, slots := 0, locals := 66 }) s m ([.ref (q 0)] : List Value).toArray below meth c H locs 0 0 (MQ below (QE (none) (fun H => PW G (mdW G q v (fX6_mixStrip v hs)) H) (mdA q)) ([.ref (q 0)] : List Value).toArray s 0 0 (mdA q)) (F0 m 44 ls []) := by
          intro  h_15 hg H locs hP hS ls hl
          refine lv_iconst (v := 0) hC.1 hC.2.1 dX6_mixStrip_44 (by decide) ?_
          refine lv_istore_n (lv' := [(2, .int 0), (0, .ref (q 0)), (1, .int (nI d2))]) hC.1 hC.2.1 dX6_mixStrip_45 rfl hl (by decide) rfl (fun ls hl => ?_)
          have A46 : ∀ (y2_46 : Int32) (h_46 : Int64), fX6_mixStrip v hs = (tX6_mixStrip_2 v hs (lpF n2 (d2 + 1) (bX6_mixStrip_2 v hs) (tX6_mixStrip_46 v hs d2 (y2_46, h_46)))) → ∀ (H : Heap) (locs : List Loc), PW G (mdW G q v h_46) H → va_S (mdA q) s.heap H locs → ∀ (ls : Array Slot), lv_has ls 3 [(0, .ref (q 0)), (1, .int (nI d2))] → W p l e ({ frames := 3, cells := 0, slots := 0, locals := 66 }) s m ([.ref (q 0)] : List Value).toArray below meth c H locs 0 0 (MQ below (QE (none) (fun H => PW G (mdW G q v (fX6_mixStrip v hs)) H) (mdA q)) ([.ref (q 0)] : List Value).toArray s 0 0 (mdA q)) (F0 m 73 ls []) := by
            intro  y2_46 h_46 hg H locs hP hS ls hl
            refine lv_iinc (v := nI (d2 + 1)) (lv' := [(1, .int (nI (d2 + 1))), (0, .ref (q 0))]) hC.1 hC.2.1 dX6_mixStrip_73 hl (k := 1) rfl (nI_1 _) (by decide) rfl (fun ls hl => ?_)
            refine lv_goto (tgt := 2) hC.1 hC.2.1 dX6_mixStrip_76 (by decide) ?_
            have e_2 : tX6_mixStrip_46 v hs d2 (y2_46, h_46) = h_46 := by delta tX6_mixStrip_46; exact rfl
            have hg : fX6_mixStrip v hs = (tX6_mixStrip_2 v hs (lpF n2 (d2 + 1) (bX6_mixStrip_2 v hs) h_46)) := by have e2 := congrArg (fun z => (tX6_mixStrip_2 v hs (lpF n2 (d2 + 1) (bX6_mixStrip_2 v hs) z))) e_2; exact hg.trans e2
            exact ih (d2 + 1) h_46 (by omega) hg _ _ hP hS _ (lv_sub hl [1, 0] rfl)
          have L46 : ∀ (n46 : Nat), ∀ (y2_46 : Int32) (h_46 : Int64), lpT n46 (bX6_mixStrip_46 v hs d2) (y2_46, h_46) → fX6_mixStrip v hs = (tX6_mixStrip_2 v hs (lpF n2 (d2 + 1) (bX6_mixStrip_2 v hs) (tX6_mixStrip_46 v hs d2 (lpB n46 (bX6_mixStrip_46 v hs d2) (y2_46, h_46))))) → ∀ (H : Heap) (locs : List Loc), PW G (mdW G q v h_46) H → va_S (mdA q) s.heap H locs → ∀ (ls : Array Slot), lv_has ls 3 [(0, .ref (q 0)), (1, .int (nI d2)), (2, .int y2_46)] → W p l e ({ frames := 3, cells := 0, slots := 0, locals := 66 }) s m ([.ref (q 0)] : List Value).toArray below meth c H locs 0 0 (MQ below (QE (none) (fun H => PW G (mdW G q v (fX6_mixStrip v hs)) H) (mdA q)) ([.ref (q 0)] : List Value).toArray s 0 0 (mdA q)) (F0 m 46 ls []) := by
            intro n46
            induction n46 with
            | zero =>
              intro y2_46 h_46 hT
              exact hT.elim
            | succ n46 ih =>
              intro y2_46 h_46 hT hg H locs hP hS ls hl
              have hg : fX6_mixStrip v hs = (tX6_mixStrip_2 v hs (lpF n2 (d2 + 1) (bX6_mixStrip_2 v hs) (tX6_mixStrip_46 v hs d2 (lpBs n46 (bX6_mixStrip_46 v hs d2) (bX6_mixStrip_46 v hs d2 (y2_46, h_46)))))) := hg
              have hT : lpTs n46 (bX6_mixStrip_46 v hs d2) (bX6_mixStrip_46 v hs d2 (y2_46, h_46)) := hT
              refine lv_aload_n hC.1 hC.2.1 dX6_mixStrip_46 rfl (lv_at hl 0 rfl) ?_
              refine lv_iload_n hC.1 hC.2.1 dX6_mixStrip_47 rfl (lv_at hl 1 rfl) ?_
              refine lv_iload_n hC.1 hC.2.1 dX6_mixStrip_48 rfl (lv_at hl 2 rfl) ?_
              refine runP (rV (B := fun U H => PW G (mdW G q v h_46) H) (As := [.int (nI d2), .int y2_46]) (rest := []) hC mwX6_toldAt (c_X6_toldAt l G q v h_46 d2 y2_46 (by have := h12.2; omega)) iwX6_toldAt wd_1126 ⟨rfl, rfl⟩ ⟨Nat.le_of_ble_eq_true rfl, Nat.le_of_ble_eq_true rfl⟩ (stb_h (fun H => PW G (mdW G q v h_46) H)) (hKN.go hAL hS) hP (va_recv (hKN.go hAL hS).k hP (ci := 6) (q0 := 0) rfl rfl) rfl hl.1 rfl (Nat.le_of_ble_eq_true rfl) dX6_mixStrip_49 ⟨Nat.zero_le _, Nat.zero_le _⟩) ?_
              refine lv_iconst (v := (-1)) hC.1 hC.2.1 dX6_mixStrip_52 (by decide) ?_
              refine lv_icmp_eq (tgt := 73) hC.1 hC.2.1 dX6_mixStrip_53 (by decide) (fun k53 => ?_) (fun k53 => ?_)
              · have e_3 : bX6_mixStrip_46 v hs d2 (y2_46, h_46) = (false, (y2_46, h_46)) := by delta bX6_mixStrip_46; exact Eq.trans (if_pos k53) rfl
                have hg : fX6_mixStrip v hs = (tX6_mixStrip_2 v hs (lpF n2 (d2 + 1) (bX6_mixStrip_2 v hs) (tX6_mixStrip_46 v hs d2 (y2_46, h_46)))) := by have e2 := congrArg (fun z => (tX6_mixStrip_2 v hs (lpF n2 (d2 + 1) (bX6_mixStrip_2 v hs) (tX6_mixStrip_46 v hs d2 (lpBs n46 (bX6_mixStrip_46 v hs d2) z))))) e_3; exact hg.trans e2
                have hT : lpTs n46 (bX6_mixStrip_46 v hs d2) (false, (y2_46, h_46)) := by rw [← e_3]; exact hT
                exact A46  y2_46 h_46 hg _ _ hP hS _ (lv_sub hl [0, 1] rfl)
              · refine lv_aload_n hC.1 hC.2.1 dX6_mixStrip_56 rfl (lv_at hl 0 rfl) ?_
                refine lv_aload_n hC.1 hC.2.1 dX6_mixStrip_57 rfl (lv_at hl 0 rfl) ?_
                refine lv_iload_n hC.1 hC.2.1 dX6_mixStrip_58 rfl (lv_at hl 1 rfl) ?_
                refine lv_iload_n hC.1 hC.2.1 dX6_mixStrip_59 rfl (lv_at hl 2 rfl) ?_
                refine runP (rV (B := fun U H => PW G (mdW G q v h_46) H) (As := [.int (nI d2), .int y2_46]) (rest := [.ref (q 0)]) hC mwX6_toldAt (c_X6_toldAt l G q v h_46 d2 y2_46 (by have := h12.2; omega)) iwX6_toldAt wd_1126 ⟨rfl, rfl⟩ ⟨Nat.le_of_ble_eq_true rfl, Nat.le_of_ble_eq_true rfl⟩ (stb_h (fun H => PW G (mdW G q v h_46) H)) (hKN.go hAL hS) hP (va_recv (hKN.go hAL hS).k hP (ci := 6) (q0 := 0) rfl rfl) rfl hl.1 rfl (Nat.le_of_ble_eq_true rfl) dX6_mixStrip_60 ⟨Nat.zero_le _, Nat.zero_le _⟩) ?_
                refine lv_i2l (v := (fX6_toldAt v d2 y2_46).toInt64) hC.1 hC.2.1 dX6_mixStrip_63 rfl ?_
                refine runE (rV (B := fun U H => PW G (mdW G q v h_46) H) (As := [.long ((fX6_toldAt v d2 y2_46).toInt64)]) (rest := []) hC mwX6_mix (c_X6_mix l G q v h_46 ((fX6_toldAt v d2 y2_46).toInt64) hq) iwX6_mix wd_1220 ⟨rfl, rfl⟩ ⟨Nat.le_of_ble_eq_true rfl, Nat.le_of_ble_eq_true rfl⟩ (stb_h (fun H => PW G (mdW G q v h_46) H)) (hKN.go hAL hS) hP (va_recv (hKN.go hAL hS).k hP (ci := 6) (q0 := 0) rfl rfl) rfl hl.1 rfl (Nat.le_of_ble_eq_true rfl) dX6_mixStrip_64 ⟨Nat.zero_le _, Nat.zero_le _⟩) hS (fun _ h => h) (fun _ h => h) (fun H locs hq_4 _ _ hS => ?_)
                have hP : PW G (mdW G q v (fX6_mix v h_46 ((fX6_toldAt v d2 y2_46).toInt64))) H := hq_4
                obtain ⟨r_5, er_5⟩ : ∃ z, z = fX6_mix v h_46 ((fX6_toldAt v d2 y2_46).toInt64) := ⟨_, rfl⟩
                rw [← er_5] at hP
                refine lv_iinc (v := y2_46 + 1) (lv' := [(2, .int (y2_46 + 1)), (0, .ref (q 0)), (1, .int (nI d2))]) hC.1 hC.2.1 dX6_mixStrip_67 hl (k := 2) rfl rfl (by decide) rfl (fun ls hl => ?_)
                refine lv_goto (tgt := 46) hC.1 hC.2.1 dX6_mixStrip_70 (by decide) ?_
                have e_6 : bX6_mixStrip_46 v hs d2 (y2_46, h_46) = (true, (y2_46 + 1, r_5)) := by have q_ := er_5.symm; subst q_; delta bX6_mixStrip_46; exact Eq.trans (if_neg k53) rfl
                have hg : fX6_mixStrip v hs = (tX6_mixStrip_2 v hs (lpF n2 (d2 + 1) (bX6_mixStrip_2 v hs) (tX6_mixStrip_46 v hs d2 (lpB n46 (bX6_mixStrip_46 v hs d2) (y2_46 + 1, r_5))))) := by have e2 := congrArg (fun z => (tX6_mixStrip_2 v hs (lpF n2 (d2 + 1) (bX6_mixStrip_2 v hs) (tX6_mixStrip_46 v hs d2 (lpBs n46 (bX6_mixStrip_46 v hs d2) z))))) e_6; exact hg.trans e2
                have hT : lpTs n46 (bX6_mixStrip_46 v hs d2) (true, (y2_46 + 1, r_5)) := by rw [← e_6]; exact hT
                exact ih (y2_46 + 1) r_5 (lpT_go hT) hg _ _ hP hS _ (lv_sub hl [1, 2, 0] rfl)
          have e_7 : tX6_mixStrip_15 v hs d2 h_15 = tX6_mixStrip_46 v hs d2 (lpB (mR + 1) (bX6_mixStrip_46 v hs d2) (0, h_15)) := by delta tX6_mixStrip_15; exact rfl
          have hg : fX6_mixStrip v hs = (tX6_mixStrip_2 v hs (lpF n2 (d2 + 1) (bX6_mixStrip_2 v hs) (tX6_mixStrip_46 v hs d2 (lpB (mR + 1) (bX6_mixStrip_46 v hs d2) (0, h_15))))) := by have e2 := congrArg (fun z => (tX6_mixStrip_2 v hs (lpF n2 (d2 + 1) (bX6_mixStrip_2 v hs) z))) e_7; exact hg.trans e2
          exact L46  (mR + 1) 0 h_15 (T_mixStrip v hs d2 _ (h90 d2 (by have := h12.2; omega))) hg _ _ hP hS _ (lv_sub hl [1, 2, 0] rfl)
        have L15 : ∀ (n15 d15 : Nat), ∀ (h_15 : Int64), d15 + n15 = 3 → fX6_mixStrip v hs = (tX6_mixStrip_2 v hs (lpF n2 (d2 + 1) (bX6_mixStrip_2 v hs) (tX6_mixStrip_15 v hs d2 (lpF n15 d15 (bX6_mixStrip_15 v hs d2) h_15)))) → ∀ (H : Heap) (locs : List Loc), PW G (mdW G q v h_15) H → va_S (mdA q) s.heap H locs → ∀ (ls : Array Slot), lv_has ls 3 [(0, .ref (q 0)), (1, .int (nI d2)), (2, .int (nI d15))] → W p l e ({ frames := 3, cells := 0, slots := 0, locals := 66 }) s m ([.ref (q 0)] : List Value).toArray below meth c H locs 0 0 (MQ below (QE (none) (fun H => PW G (mdW G q v (fX6_mixStrip v hs)) H) (mdA q)) ([.ref (q 0)] : List Value).toArray s 0 0 (mdA q)) (F0 m 15 ls []) := by
          intro n15
          induction n15 with
          | zero =>
            intro d15 h_15 hd hg H locs hP hS ls hl
            refine lv_iload_n hC.1 hC.2.1 dX6_mixStrip_15 rfl (lv_at hl 2 rfl) ?_
            refine lv_iconst (v := 3) hC.1 hC.2.1 dX6_mixStrip_16 (by decide) ?_
            refine lv_icmp_ge (tgt := 44) hC.1 hC.2.1 dX6_mixStrip_17 (by decide) (fun k17 => ?_) (fun k17 => ?_)
            · exact A15  h_15 hg _ _ hP hS _ (lv_sub hl [0, 1] rfl)
            · exact absurd (nI_le (a := 3) (b := d15) (by omega) (by omega)) k17
          | succ n15 ih =>
            intro d15 h_15 hd hg H locs hP hS ls hl
            have hg : fX6_mixStrip v hs = (tX6_mixStrip_2 v hs (lpF n2 (d2 + 1) (bX6_mixStrip_2 v hs) (tX6_mixStrip_15 v hs d2 (lpF n15 (d15 + 1) (bX6_mixStrip_15 v hs d2) (bX6_mixStrip_15 v hs d2 d15 h_15))))) := hg
            refine lv_iload_n hC.1 hC.2.1 dX6_mixStrip_15 rfl (lv_at hl 2 rfl) ?_
            refine lv_iconst (v := 3) hC.1 hC.2.1 dX6_mixStrip_16 (by decide) ?_
            refine lv_icmp_ge (tgt := 44) hC.1 hC.2.1 dX6_mixStrip_17 (by decide) (fun k17 => ?_) (fun k17 => ?_)
            · exact absurd k17 (nI_ge (a := d15) (b := 3) (by omega) (by omega))
            · refine lv_aload_n hC.1 hC.2.1 dX6_mixStrip_20 rfl (lv_at hl 0 rfl) ?_
              refine lv_aload_n hC.1 hC.2.1 dX6_mixStrip_21 rfl (lv_at hl 0 rfl) ?_
              refine gf (v := .ref (q 1)) hC fwX6 (hKN.go hAL hS) hP 0 rfl rfl 0 (by decide) rfl wd_887 rfl dX6_mixStrip_22 ?_
              refine lv_bipush (v := 88) hC.1 hC.2.1 dX6_mixStrip_25 (by decide +kernel) ?_
              refine lv_iconst (v := 3) hC.1 hC.2.1 dX6_mixStrip_27 (by decide) ?_
              refine lv_iload_n hC.1 hC.2.1 dX6_mixStrip_28 rfl (lv_at hl 1 rfl) ?_
              refine lv_imul hC.1 hC.2.1 dX6_mixStrip_29 ?_
              refine lv_iadd hC.1 hC.2.1 dX6_mixStrip_30 ?_
              refine lv_iload_n hC.1 hC.2.1 dX6_mixStrip_31 rfl (lv_at hl 2 rfl) ?_
              refine lv_iadd hC.1 hC.2.1 dX6_mixStrip_32 ?_
              refine iald_k hC (hKN.go hAL hS) hP 1 rfl (n := 124) (f := (v 0)) ((88 + (3 * d2)) + d15) (nE_add (nE_add (rfl) (nE_mul (rfl) (rfl))) (rfl)) (by have := h12.2; omega) (by decide) dX6_mixStrip_33 ?_
              refine lv_i2l (v := ((v 0) ((88 + (3 * d2)) + d15)).toInt64) hC.1 hC.2.1 dX6_mixStrip_34 rfl ?_
              refine runE (rV (B := fun U H => PW G (mdW G q v h_15) H) (As := [.long (((v 0) ((88 + (3 * d2)) + d15)).toInt64)]) (rest := []) hC mwX6_mix (c_X6_mix l G q v h_15 (((v 0) ((88 + (3 * d2)) + d15)).toInt64) hq) iwX6_mix wd_1220 ⟨rfl, rfl⟩ ⟨Nat.le_of_ble_eq_true rfl, Nat.le_of_ble_eq_true rfl⟩ (stb_h (fun H => PW G (mdW G q v h_15) H)) (hKN.go hAL hS) hP (va_recv (hKN.go hAL hS).k hP (ci := 6) (q0 := 0) rfl rfl) rfl hl.1 rfl (Nat.le_of_ble_eq_true rfl) dX6_mixStrip_35 ⟨Nat.zero_le _, Nat.zero_le _⟩) hS (fun _ h => h) (fun _ h => h) (fun H locs hq_8 _ _ hS => ?_)
              have hP : PW G (mdW G q v (fX6_mix v h_15 (((v 0) ((88 + (3 * d2)) + d15)).toInt64))) H := hq_8
              obtain ⟨r_9, er_9⟩ : ∃ z, z = fX6_mix v h_15 (((v 0) ((88 + (3 * d2)) + d15)).toInt64) := ⟨_, rfl⟩
              rw [← er_9] at hP
              refine lv_iinc (v := nI (d15 + 1)) (lv' := [(2, .int (nI (d15 + 1))), (0, .ref (q 0)), (1, .int (nI d2))]) hC.1 hC.2.1 dX6_mixStrip_38 hl (k := 2) rfl (nI_1 _) (by decide) rfl (fun ls hl => ?_)
              refine lv_goto (tgt := 15) hC.1 hC.2.1 dX6_mixStrip_41 (by decide) ?_
              have e_10 : bX6_mixStrip_15 v hs d2 d15 h_15 = r_9 := by have q_ := er_9.symm; subst q_; delta bX6_mixStrip_15; exact rfl
              have hg : fX6_mixStrip v hs = (tX6_mixStrip_2 v hs (lpF n2 (d2 + 1) (bX6_mixStrip_2 v hs) (tX6_mixStrip_15 v hs d2 (lpF n15 (d15 + 1) (bX6_mixStrip_15 v hs d2) r_9)))) := by have e2 := congrArg (fun z => (tX6_mixStrip_2 v hs (lpF n2 (d2 + 1) (bX6_mixStrip_2 v hs) (tX6_mixStrip_15 v hs d2 (lpF n15 (d15 + 1) (bX6_mixStrip_15 v hs d2) z))))) e_10; exact hg.trans e2
              exact ih (d15 + 1) r_9 (by omega) hg _ _ hP hS _ (lv_sub hl [1, 2, 0] rfl)
        have e_11 : bX6_mixStrip_2 v hs d2 h_2 = tX6_mixStrip_15 v hs d2 (lpF 3 0 (bX6_mixStrip_15 v hs d2) h_2) := by delta bX6_mixStrip_2; exact rfl
        have hg : fX6_mixStrip v hs = (tX6_mixStrip_2 v hs (lpF n2 (d2 + 1) (bX6_mixStrip_2 v hs) (tX6_mixStrip_15 v hs d2 (lpF 3 0 (bX6_mixStrip_15 v hs d2) h_2)))) := by have e2 := congrArg (fun z => (tX6_mixStrip_2 v hs (lpF n2 (d2 + 1) (bX6_mixStrip_2 v hs) z))) e_11; exact hg.trans e2
        exact L15  3 0 h_2 (by omega) hg _ _ hP hS _ (lv_sub hl [1, 2, 0] rfl)
  have e_12 : fX6_mixStrip v hs = tX6_mixStrip_2 v hs (lpF (((v 0) 87).toNatClampNeg) 0 (bX6_mixStrip_2 v hs) hs) := by delta fX6_mixStrip; exact rfl
  have hg : fX6_mixStrip v hs = (tX6_mixStrip_2 v hs (lpF (((v 0) 87).toNatClampNeg) 0 (bX6_mixStrip_2 v hs) hs)) := by have e2 := congrArg (fun z => z) e_12; exact hg.trans e2
  exact L2  (((v 0) 87).toNatClampNeg) 0 hs (by omega) hg _ _ hP hS _ (lv_sub hl [1, 0] rfl)
