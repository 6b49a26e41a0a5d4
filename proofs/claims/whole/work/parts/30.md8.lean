def tX6_print_32 (v : SV) (y1_32 : Int32) (s : SV) : SV × Int32 := let v_32 := s; (mkM (v_32 0) (v_32 1) (v_32 2) (v_32 3) (v_32 4) (v_32 5) (v_32 6) (v_32 7) (v_32 8 0) (v_32 8 1) (v_32 8 2) (v_32 8 3) (v_32 8 4) (v_32 8 5) 0 (v_32 8 7) (v_32 8 8), ((v_32 0) 83) - y1_32)
def bX6_print_32 (v : SV) (y1_32 : Int32) (d32 : Nat) (s : SV) : SV := let v_32 := s; if ((v_32 5) d32) = 0 then (let r_15 := fX6_printSome v_32 ((v_32 6) d32) ((v_32 7) d32)
  r_15.1) else (if ((v_32 5) d32) = 1 then (let r_12 := fX6_paperNow v_32 ((v_32 6) d32)
  r_12.1) else (let r_9 := fX6_pass v_32 ((v_32 6) d32)
  r_9))
def fX6_print (v : SV) : SV × Int32 := let r_3 := fX6_arePrints (mkM (v 0) (v 1) (v 2) (v 3) (v 4) (v 5) (v 6) (v 7) (v 8 0) (v 8 1) 0 (v 8 3) (v 8 4) (v 8 5) (v 8 6) (v 8 7) (v 8 8))
  if r_3.2 = 0 then (let r_19 := fX6_fails r_3.1 1
  (r_19.1, r_19.2)) else (let r_5 := fX6_save r_3.1
  tX6_print_32 v ((r_5 0) 83) (lpF ((r_5 8 8).toNatClampNeg) 0 (bX6_print_32 v ((r_5 0) 83)) r_5))
theorem ap_step (v : SV) (y : Int32) (w : SV) (h : QI w y) : FRX w (bX6_arePrints_15 v (y, w)).2.2 ∧ QI (bX6_arePrints_15 v (y, w)).2.2 (bX6_arePrints_15 v (y, w)).2.1 := by
  unfold bX6_arePrints_15
  dsimp only
  split
  · exact ⟨FRX.rf w, h⟩
  · rename_i q
    have hI := h q
    have s := takes_spec (a := 59) hI.1 (by decide)
    have R1 := RI_takes (a := 59) hI (by decide)
    split
    · exact ⟨FRX.of7 s.2.1, fun _ => R1⟩
    · exact ⟨(FRX.of7 s.2.1).tr (rp_spec _ R1.1).1, QI_readPart R1⟩
theorem ap_spec (v : SV) (h : le_n (v 8 6) 60) : FRX v (fX6_arePrints v).1 ∧ (¬ (fX6_arePrints v).2 = 0 → RI (fX6_arePrints v).1) := by
  have k : ∀ (n : Nat) (y : Int32) (w : SV), FRX v w → QI w y → FRX v (lpB n (bX6_arePrints_15 v) (y, w)).2 ∧ QI (lpB n (bX6_arePrints_15 v) (y, w)).2 (lpB n (bX6_arePrints_15 v) (y, w)).1 := by
    intro n y w f q
    refine lpB_inv (fun s : Int32 × SV => FRX v s.2 ∧ QI s.2 s.1) (fun s hs => ?_) n (y, w) ⟨f, q⟩
    obtain ⟨y, w⟩ := s
    have i := ap_step v y w hs.2
    exact ⟨hs.1.tr i.1, i.2⟩
  have t : ∀ s : Int32 × SV, FRX v s.2 → QI s.2 s.1 → FRX v (tX6_arePrints_15 v s).1 ∧ (¬ (tX6_arePrints_15 v s).2 = 0 → RI (tX6_arePrints_15 v s).1) := by
    intro s f q
    obtain ⟨y, w⟩ := s
    unfold tX6_arePrints_15
    dsimp only
    split
    · exact ⟨f, fun z => absurd rfl z⟩
    · rename_i n1
      split
      · exact ⟨f, fun _ => q n1⟩
      · exact ⟨f, fun z => absurd rfl z⟩
  have f0 : ∀ u : SV, u 8 6 = v 8 6 → u 8 7 = 0 → u 8 8 = 0 → RI u := fun u e6 e7 e8 => RI_0 (v := u) (BI_0 h e6 e7) rfl rfl e8
  have r0 := f0 (mkM (v 0) (v 1) (v 2) (v 3) (v 4) (v 5) (v 6) (v 7) (v 8 0) (v 8 1) (v 8 2) (v 8 3) (v 8 4) (v 8 5) (v 8 6) 0 0) rfl rfl rfl
  have g0 : FRX v (mkM (v 0) (v 1) (v 2) (v 3) (v 4) (v 5) (v 6) (v 7) (v 8 0) (v 8 1) (v 8 2) (v 8 3) (v 8 4) (v 8 5) (v 8 6) 0 0) := by
    refine ⟨fun j hj => ?_, fun k h1 => ?_⟩
    · match j, hj with
      | 0, _ => rfl
      | 1, _ => rfl
      | 2, _ => rfl
      | 3, _ => rfl
      | 4, _ => rfl
      | j + 5, h => exact absurd h (by omega)
    · match k, h1 with
      | 0, _ => rfl
      | 1, _ => rfl
      | 2, _ => rfl
      | 3, _ => rfl
      | 4, _ => rfl
      | 5, _ => rfl
      | 6, _ => rfl
      | k + 7, h => exact absurd h (by omega)
  unfold fX6_arePrints
  dsimp only
  generalize mkM (v 0) (v 1) (v 2) (v 3) (v 4) (v 5) (v 6) (v 7) (v 8 0) (v 8 1) (v 8 2) (v 8 3) (v 8 4) (v 8 5) (v 8 6) 0 0 = u at r0 g0 ⊢
  have i := k (mR + 1) (fX6_readPart u).2 (fX6_readPart u).1 (g0.tr (rp_spec u r0.1).1) (QI_readPart r0)
  exact t _ i.1 i.2
def PP (v : SV) : Prop := SI (v 0) ∧ le_n (v 8 0) 6 ∧ le_n (v 8 6) 60
def PQ (v : SV) (r : Int32) : Prop := SI (v 0) ∧ le_n (v 8 0) 6 ∧ (¬ r = 0 → RI v)
def PR (v : SV) : Prop := SI (v 0) ∧ RI v
theorem PQ_arePrints {v : SV} (h : PP v) : PQ (fX6_arePrints v).1 (fX6_arePrints v).2 := by
  have s := ap_spec v h.2.2
  refine ⟨?_, ?_, s.2⟩
  · rw [s.1.1 0 (by omega)]; exact h.1
  · rw [s.1.2 0 (by omega)]; exact h.2.1
theorem RI_fr {v w : SV} (h : RI v) (e5 : w 5 = v 5) (e6 : w 6 = v 6) (k6 : w 8 6 = v 8 6) (k7 : w 8 7 = v 8 7) (k8 : w 8 8 = v 8 8) : RI w := by
  unfold RI BI
  rw [e5, e6, k6, k7, k8]
  exact h
theorem RI_F {v w : SV} (h : RI v) (f : FRM v w) : RI w := by
  obtain ⟨a1, a2, a3, a4, a5, a6, a7, a8, a9, b1, b2, b3, b4⟩ := f
  exact RI_fr h a5 a6 b2 b3 b4
def FRS (v w : SV) : Prop := w 5 = v 5 ∧ w 6 = v 6 ∧ w 8 6 = v 8 6 ∧ w 8 7 = v 8 7 ∧ w 8 8 = v 8 8
theorem FRS.mk (v : SV) (a1 : Nat → Int32) (s0 : Int32) : FRS v (mkM (v 0) a1 (v 2) (v 3) (v 4) (v 5) (v 6) (v 7) s0 (v 8 1) (v 8 2) (v 8 3) (v 8 4) (v 8 5) (v 8 6) (v 8 7) (v 8 8)) := ⟨rfl, rfl, rfl, rfl, rfl⟩
theorem FRS.tr {a b c : SV} (h1 : FRS a b) (h2 : FRS b c) : FRS a c := ⟨h2.1.trans h1.1, h2.2.1.trans h1.2.1, h2.2.2.1.trans h1.2.2.1, h2.2.2.2.1.trans h1.2.2.2.1, h2.2.2.2.2.trans h1.2.2.2.2⟩
theorem FRS.rf (v : SV) : FRS v v := ⟨rfl, rfl, rfl, rfl, rfl⟩
theorem FRS_save (v : SV) : FRS v (fX6_save v) := by
  have h1 : ∀ n (s : SV), FRS v s → FRS v (lpF n 0 (bX6_save_11 v) s) := fun n s hs => lpF_inv (fun s : SV => FRS v s) n 0 s (fun d s _ _ hs => hs.tr (FRS.mk s _ _)) hs
  have h2 : ∀ n (s : SV), FRS v s → FRS v (lpF n 0 (bX6_save_51 v) s) := fun n s hs => lpF_inv (fun s : SV => FRS v s) n 0 s (fun d s _ _ hs => hs.tr (FRS.mk s _ _)) hs
  have h0 : ∀ s : SV, FRS s (tX6_save_51 v s) := fun s => FRS.mk s _ _
  have h3 : ∀ s : SV, FRS v s → FRS v (tX6_save_J49 v s) := fun s hs => (h2 124 s hs).tr (h0 _)
  have h4 : ∀ s : SV, FRS v s → FRS v (tX6_save_11 v s) := fun s hs => h3 _ (hs.tr (FRS.mk s _ _))
  unfold fX6_save
  split
  · exact h4 _ (h1 _ _ (FRS.rf v))
  · exact h3 _ (FRS.rf v)
theorem PR_save {v : SV} {r : Int32} (h : PQ v r) (k : ¬ r = 0) : PR (fX6_save v) := by
  have s := FRS_save v
  exact ⟨SI_save h.1, RI_fr (h.2.2 k) s.1 s.2.1 s.2.2.1 s.2.2.2.1 s.2.2.2.2⟩
theorem PL_fr {v w : SV} {y : Int32} (h1 : EqS (v 0) (w 0)) (h2 : FRM v w) (h : PR v ∧ v 8 8 = y) : PR w ∧ w 8 8 = y := by
  have e8 : w 8 8 = v 8 8 := by
    obtain ⟨a1, a2, a3, a4, a5, a6, a7, a8, a9, b1, b2, b3, b4⟩ := h2
    exact b4
  exact ⟨⟨SI_congr h1 h.1.1, RI_F h.1.2 h2⟩, e8.trans h.2⟩
theorem SI_paperNow {v : SV} {x : Int32} (hI : SI (v 0)) (hp : ∃ c, c ≤ 2 ∧ x = nI c) : SI ((fX6_paperNow v x).1 0) := by
  have k : ∀ n y (w : SV), SI (w 0) → SI ((lpF n 0 (bX6_paperNow_18 v x y) w) 0) := fun n y w hw => lpF_inv (fun s : SV => SI (s 0)) n 0 w (fun d s _ _ hs => SI_upd (r := s 0) (k := 88 + d) hs (Or.inr (by omega))) hw
  have t : ∀ y (w : SV), SI (w 0) → SI ((tX6_paperNow_18 v x y w).1 0) := fun y w hw => SI_upd (r := w 0) (k := 87) hw (Or.inr (by omega))
  have s : ∀ u : SV, u 0 = upd (v 0) 81 x → SI (u 0) := fun u e => by rw [e]; exact SI_paper hI hp
  unfold fX6_paperNow
  exact t _ _ (k _ _ _ (s _ rfl))
theorem PL_paper {v : SV} {x y : Int32} (hp : ∃ c, c ≤ 2 ∧ x = nI c) (h : PR v ∧ v 8 8 = y) : PR (fX6_paperNow v x).1 ∧ (fX6_paperNow v x).1 8 8 = y := by
  have f := F_paperNow v x
  have e8 : (fX6_paperNow v x).1 8 8 = v 8 8 := by
    obtain ⟨a1, a2, a3, a4, a5, a6, a7, a8, a9, b1, b2, b3, b4⟩ := f
    exact b4
  exact ⟨⟨SI_paperNow h.1.1 hp, RI_F h.1.2 f⟩, e8.trans h.2⟩
theorem PL_z {x y : Int32} {d : Nat} (e : x = y) (h : d + 0 = y.toNatClampNeg) : x ≤ nI d := by
  rw [e]; exact cl_le (Nat.le_of_eq h.symm) (by have := cl_lt y; omega)
theorem PL_s {x y : Int32} {d n : Nat} (e : x = y) (h : d + (n + 1) = y.toNatClampNeg) : ¬ x ≤ nI d := by
  rw [e]; exact cl_nle (by omega)
theorem PL_16 {v : SV} {y : Int32} {d n : Nat} (h : PR v ∧ v 8 8 = y) (hd : d + (n + 1) = y.toNatClampNeg) : d < 16 := by
  have a := (RI_15 h.1.2).2
  rw [h.2] at a
  omega
theorem PL_pap {v : SV} {y : Int32} {d n : Nat} (h : PR v ∧ v 8 8 = y) (hd : d + (n + 1) = y.toNatClampNeg) (k : v 5 d = 1) : ∃ c, c ≤ 2 ∧ v 6 d = nI c := h.1.2.2.2 d (by rw [h.2]; omega) k
theorem dX6_print_0 : decode cX6_print 0 = .ok (.aload_n 0, 1) := by decide +kernel
theorem dX6_print_1 : decode cX6_print 1 = .ok (.iconst 0, 1) := by decide +kernel
theorem dX6_print_2 : decode cX6_print 2 = .ok (.putfield 34, 3) := by decide +kernel
theorem dX6_print_5 : decode cX6_print 5 = .ok (.aload_n 0, 1) := by decide +kernel
theorem dX6_print_6 : decode cX6_print 6 = .ok (.invokevirtual 171, 3) := by decide +kernel
theorem dX6_print_9 : decode cX6_print 9 = .ok (.ifCond .ne 9, 3) := by decide +kernel
theorem dX6_print_12 : decode cX6_print 12 = .ok (.aload_n 0, 1) := by decide +kernel
theorem dX6_print_13 : decode cX6_print 13 = .ok (.iconst 1, 1) := by decide +kernel
theorem dX6_print_14 : decode cX6_print 14 = .ok (.invokevirtual 46, 3) := by decide +kernel
theorem dX6_print_17 : decode cX6_print 17 = .ok (.ireturn, 1) := by decide +kernel
theorem dX6_print_18 : decode cX6_print 18 = .ok (.aload_n 0, 1) := by decide +kernel
theorem dX6_print_19 : decode cX6_print 19 = .ok (.invokevirtual 54, 3) := by decide +kernel
theorem dX6_print_22 : decode cX6_print 22 = .ok (.aload_n 0, 1) := by decide +kernel
theorem dX6_print_23 : decode cX6_print 23 = .ok (.getfield 7, 3) := by decide +kernel
theorem dX6_print_26 : decode cX6_print 26 = .ok (.bipush 83, 2) := by decide +kernel
theorem dX6_print_28 : decode cX6_print 28 = .ok (.iaload, 1) := by decide +kernel
theorem dX6_print_29 : decode cX6_print 29 = .ok (.istore_n 1, 1) := by decide +kernel
theorem dX6_print_30 : decode cX6_print 30 = .ok (.iconst 0, 1) := by decide +kernel
theorem dX6_print_31 : decode cX6_print 31 = .ok (.istore_n 2, 1) := by decide +kernel
theorem dX6_print_32 : decode cX6_print 32 = .ok (.iload_n 2, 1) := by decide +kernel
theorem dX6_print_33 : decode cX6_print 33 = .ok (.aload_n 0, 1) := by decide +kernel
theorem dX6_print_34 : decode cX6_print 34 = .ok (.getfield 145, 3) := by decide +kernel
theorem dX6_print_37 : decode cX6_print 37 = .ok (.if_icmp .ge 72, 3) := by decide +kernel
theorem dX6_print_40 : decode cX6_print 40 = .ok (.aload_n 0, 1) := by decide +kernel
theorem dX6_print_41 : decode cX6_print 41 = .ok (.getfield 25, 3) := by decide +kernel
theorem dX6_print_44 : decode cX6_print 44 = .ok (.iload_n 2, 1) := by decide +kernel
theorem dX6_print_45 : decode cX6_print 45 = .ok (.iaload, 1) := by decide +kernel
theorem dX6_print_46 : decode cX6_print 46 = .ok (.ifCond .ne 23, 3) := by decide +kernel
theorem dX6_print_49 : decode cX6_print 49 = .ok (.aload_n 0, 1) := by decide +kernel
theorem dX6_print_50 : decode cX6_print 50 = .ok (.aload_n 0, 1) := by decide +kernel
theorem dX6_print_51 : decode cX6_print 51 = .ok (.getfield 28, 3) := by decide +kernel
theorem dX6_print_54 : decode cX6_print 54 = .ok (.iload_n 2, 1) := by decide +kernel
theorem dX6_print_55 : decode cX6_print 55 = .ok (.iaload, 1) := by decide +kernel
theorem dX6_print_56 : decode cX6_print 56 = .ok (.aload_n 0, 1) := by decide +kernel
theorem dX6_print_57 : decode cX6_print 57 = .ok (.getfield 31, 3) := by decide +kernel
theorem dX6_print_60 : decode cX6_print 60 = .ok (.iload_n 2, 1) := by decide +kernel
theorem dX6_print_61 : decode cX6_print 61 = .ok (.iaload, 1) := by decide +kernel
theorem dX6_print_62 : decode cX6_print 62 = .ok (.invokevirtual 121, 3) := by decide +kernel
theorem dX6_print_65 : decode cX6_print 65 = .ok (.istore_n 3, 1) := by decide +kernel
theorem dX6_print_66 : decode cX6_print 66 = .ok (.goto 37, 3) := by decide +kernel
theorem dX6_print_69 : decode cX6_print 69 = .ok (.aload_n 0, 1) := by decide +kernel
theorem dX6_print_70 : decode cX6_print 70 = .ok (.getfield 25, 3) := by decide +kernel
theorem dX6_print_73 : decode cX6_print 73 = .ok (.iload_n 2, 1) := by decide +kernel
theorem dX6_print_74 : decode cX6_print 74 = .ok (.iaload, 1) := by decide +kernel
theorem dX6_print_75 : decode cX6_print 75 = .ok (.iconst 1, 1) := by decide +kernel
theorem dX6_print_76 : decode cX6_print 76 = .ok (.if_icmp .ne 17, 3) := by decide +kernel
theorem dX6_print_79 : decode cX6_print 79 = .ok (.aload_n 0, 1) := by decide +kernel
theorem dX6_print_80 : decode cX6_print 80 = .ok (.aload_n 0, 1) := by decide +kernel
theorem dX6_print_81 : decode cX6_print 81 = .ok (.getfield 28, 3) := by decide +kernel
theorem dX6_print_84 : decode cX6_print 84 = .ok (.iload_n 2, 1) := by decide +kernel
theorem dX6_print_85 : decode cX6_print 85 = .ok (.iaload, 1) := by decide +kernel
theorem dX6_print_86 : decode cX6_print 86 = .ok (.invokevirtual 127, 3) := by decide +kernel
theorem dX6_print_89 : decode cX6_print 89 = .ok (.istore_n 3, 1) := by decide +kernel
theorem dX6_print_90 : decode cX6_print 90 = .ok (.goto 13, 3) := by decide +kernel
theorem dX6_print_93 : decode cX6_print 93 = .ok (.aload_n 0, 1) := by decide +kernel
theorem dX6_print_94 : decode cX6_print 94 = .ok (.aload_n 0, 1) := by decide +kernel
theorem dX6_print_95 : decode cX6_print 95 = .ok (.getfield 28, 3) := by decide +kernel
theorem dX6_print_98 : decode cX6_print 98 = .ok (.iload_n 2, 1) := by decide +kernel
theorem dX6_print_99 : decode cX6_print 99 = .ok (.iaload, 1) := by decide +kernel
theorem dX6_print_100 : decode cX6_print 100 = .ok (.invokevirtual 100, 3) := by decide +kernel
theorem dX6_print_103 : decode cX6_print 103 = .ok (.iinc 2 1, 3) := by decide +kernel
theorem dX6_print_106 : decode cX6_print 106 = .ok (.goto (-74), 3) := by decide +kernel
theorem dX6_print_109 : decode cX6_print 109 = .ok (.aload_n 0, 1) := by decide +kernel
theorem dX6_print_110 : decode cX6_print 110 = .ok (.iconst 0, 1) := by decide +kernel
theorem dX6_print_111 : decode cX6_print 111 = .ok (.putfield 133, 3) := by decide +kernel
theorem dX6_print_114 : decode cX6_print 114 = .ok (.aload_n 0, 1) := by decide +kernel
theorem dX6_print_115 : decode cX6_print 115 = .ok (.getfield 7, 3) := by decide +kernel
theorem dX6_print_118 : decode cX6_print 118 = .ok (.bipush 83, 2) := by decide +kernel
theorem dX6_print_120 : decode cX6_print 120 = .ok (.iaload, 1) := by decide +kernel
theorem dX6_print_121 : decode cX6_print 121 = .ok (.iload_n 1, 1) := by decide +kernel
theorem dX6_print_122 : decode cX6_print 122 = .ok (.isub, 1) := by decide +kernel
theorem dX6_print_123 : decode cX6_print 123 = .ok (.ireturn, 1) := by decide +kernel
set_option maxHeartbeats 1000000 in
set_option maxRecDepth 100000 in
theorem c_X6_print (l : Launch) (G : GT) (q : Nat → Nat) (v : SV) (hs : Int64) (hq : mdD G q) (hI : PP v) : Met l yX6_print (Cond.code yX6_print cX6_print 4 (some .int) :: bigW) ({ frames := 7, cells := 0, slots := 0, locals := 166 }) (BP G [.ref (q 0)] (fun U H => PW G (mdW G q v hs) H)) (QE (some (.int (fX6_print v).2)) (fun H => PW G (mdW G q (fX6_print v).1 hs) H) (mdA q)) 0 0 (mdA q) := by
  refine met_of (by decide) (Nat.le_of_ble_eq_true rfl) ?_
  intro p e s m below meth c ls hC hKN hB0 hl
  have hP := hB0
  have hl : lv_has ls 4 [(0, .ref (q 0))] := hl
  have hS : va_S (mdA q) s.heap s.heap [] := va_S.rf
  have hAL : ∀ a, (mdA q) a → gL G ≤ a := mdD_low hq
  have hg : fX6_print v = fX6_print v := rfl
  refine lv_aload_n hC.1 hC.2.1 dX6_print_0 rfl (lv_at hl 0 rfl) ?_
  refine lv_iconst (v := 0) hC.1 hC.2.1 dX6_print_1 (by decide) ?_
  refine pf (v := .int 0) (tv := .int) hC fwX6 hKN hP (mdD_D hq v hs) hS 0 rfl rfl 6 (by decide) rfl wd_893 rfl rfl rfl (Nat.le_of_ble_eq_true rfl) dX6_print_2 (fun H locs hq_1 hS => ?_)
  have hP : PW G (mdW G q (mkM (v 0) (v 1) (v 2) (v 3) (v 4) (v 5) (v 6) (v 7) (v 8 0) (v 8 1) 0 (v 8 3) (v 8 4) (v 8 5) (v 8 6) (v 8 7) (v 8 8)) hs) H := hq_1
  have hI : PP (mkM (v 0) (v 1) (v 2) (v 3) (v 4) (v 5) (v 6) (v 7) (v 8 0) (v 8 1) 0 (v 8 3) (v 8 4) (v 8 5) (v 8 6) (v 8 7) (v 8 8)) := hI
  refine lv_aload_n hC.1 hC.2.1 dX6_print_5 rfl (lv_at hl 0 rfl) ?_
  refine runE (rV (B := fun U H => PW G (mdW G q (mkM (v 0) (v 1) (v 2) (v 3) (v 4) (v 5) (v 6) (v 7) (v 8 0) (v 8 1) 0 (v 8 3) (v 8 4) (v 8 5) (v 8 6) (v 8 7) (v 8 8)) hs) H) (As := []) (rest := []) hC mwX6_arePrints (c_X6_arePrints l G q (mkM (v 0) (v 1) (v 2) (v 3) (v 4) (v 5) (v 6) (v 7) (v 8 0) (v 8 1) 0 (v 8 3) (v 8 4) (v 8 5) (v 8 6) (v 8 7) (v 8 8)) hs hq hI.2.2) iwX6_arePrints wd_1078 ⟨rfl, rfl⟩ ⟨Nat.le_of_ble_eq_true rfl, Nat.le_of_ble_eq_true rfl⟩ (stb_h (fun H => PW G (mdW G q (mkM (v 0) (v 1) (v 2) (v 3) (v 4) (v 5) (v 6) (v 7) (v 8 0) (v 8 1) 0 (v 8 3) (v 8 4) (v 8 5) (v 8 6) (v 8 7) (v 8 8)) hs) H)) (hKN.go hAL hS) hP (va_recv (hKN.go hAL hS).k hP (ci := 6) (q0 := 0) rfl rfl) rfl hl.1 rfl (Nat.le_of_ble_eq_true rfl) dX6_print_6 ⟨Nat.zero_le _, Nat.zero_le _⟩) hS (fun _ h => h) (fun _ h => h) (fun H locs hq_2 _ _ hS => ?_)
  have hP : PW G (mdW G q ((fX6_arePrints (mkM (v 0) (v 1) (v 2) (v 3) (v 4) (v 5) (v 6) (v 7) (v 8 0) (v 8 1) 0 (v 8 3) (v 8 4) (v 8 5) (v 8 6) (v 8 7) (v 8 8))).1) hs) H := hq_2
  obtain ⟨r_3, er_3⟩ : ∃ z, z = fX6_arePrints (mkM (v 0) (v 1) (v 2) (v 3) (v 4) (v 5) (v 6) (v 7) (v 8 0) (v 8 1) 0 (v 8 3) (v 8 4) (v 8 5) (v 8 6) (v 8 7) (v 8 8)) := ⟨_, rfl⟩
  rw [← er_3] at hP
  show W p l e ({ frames := 7, cells := 0, slots := 0, locals := 166 }) s m ([.ref (q 0)] : List Value).toArray below meth c H locs (0 + 0) (0 + 0) _ (F0 m (6 + 3) ls [.int ((fX6_arePrints (mkM (v 0) (v 1) (v 2) (v 3) (v 4) (v 5) (v 6) (v 7) (v 8 0) (v 8 1) 0 (v 8 3) (v 8 4) (v 8 5) (v 8 6) (v 8 7) (v 8 8))).2)])
  rw [← er_3]
  have hI : PQ r_3.1 r_3.2 := by rw [er_3]; exact (PQ_arePrints hI)
  refine lv_if_ne (tgt := 18) hC.1 hC.2.1 dX6_print_9 (by decide) (fun k9 => ?_) (fun k9 => ?_)
  · refine lv_aload_n hC.1 hC.2.1 dX6_print_18 rfl (lv_at hl 0 rfl) ?_
    refine runE (rV (B := fun U H => PW G (mdW G q r_3.1 hs) H) (As := []) (rest := []) hC mwX6_save (c_X6_save l G q r_3.1 hs hq (hI.2.1)) iwX6_save wd_962 ⟨rfl, rfl⟩ ⟨Nat.le_of_ble_eq_true rfl, Nat.le_of_ble_eq_true rfl⟩ (stb_h (fun H => PW G (mdW G q r_3.1 hs) H)) (hKN.go hAL hS) hP (va_recv (hKN.go hAL hS).k hP (ci := 6) (q0 := 0) rfl rfl) rfl hl.1 rfl (Nat.le_of_ble_eq_true rfl) dX6_print_19 ⟨Nat.zero_le _, Nat.zero_le _⟩) hS (fun _ h => h) (fun _ h => h) (fun H locs hq_4 _ _ hS => ?_)
    have hP : PW G (mdW G q (fX6_save r_3.1) hs) H := hq_4
    obtain ⟨r_5, er_5⟩ : ∃ z, z = fX6_save r_3.1 := ⟨_, rfl⟩
    rw [← er_5] at hP
    have hI : PR r_5 := by rw [er_5]; exact (PR_save hI k9)
    refine lv_aload_n hC.1 hC.2.1 dX6_print_22 rfl (lv_at hl 0 rfl) ?_
    refine gf (v := .ref (q 1)) hC fwX6 (hKN.go hAL hS) hP 0 rfl rfl 0 (by decide) rfl wd_887 rfl dX6_print_23 ?_
    refine lv_bipush (v := 83) hC.1 hC.2.1 dX6_print_26 (by decide +kernel) ?_
    refine iald_k hC (hKN.go hAL hS) hP 1 rfl (n := 124) (f := (r_5 0)) 83 (rfl) (by omega) (by decide) dX6_print_28 ?_
    refine lv_istore_n (lv' := [(1, .int ((r_5 0) 83)), (0, .ref (q 0))]) hC.1 hC.2.1 dX6_print_29 rfl hl (by decide) rfl (fun ls hl => ?_)
    refine lv_iconst (v := 0) hC.1 hC.2.1 dX6_print_30 (by decide) ?_
    refine lv_istore_n (lv' := [(2, .int 0), (1, .int ((r_5 0) 83)), (0, .ref (q 0))]) hC.1 hC.2.1 dX6_print_31 rfl hl (by decide) rfl (fun ls hl => ?_)
    have A32 : ∀ (y1_32 : Int32), ∀ (v_32 : SV), fX6_print v = (tX6_print_32 v y1_32 v_32) → True → ∀ (H : Heap) (locs : List Loc), PW G (mdW G q v_32 hs) H → va_S (mdA q) s.heap H locs → ∀ (ls : Array Slot), lv_has ls 4 [(0, .ref (q 0)), (1, .int y1_32)] → W p l e ({ frames := 7, cells := 0, slots := 0, locals := 166 }) s m ([.ref (q 0)] : List Value).toArray below meth c H locs 0 0 (MQ below (QE (some (.int (fX6_print v).2)) (fun H => PW G (mdW G q (fX6_print v).1 hs) H) (mdA q)) ([.ref (q 0)] : List Value).toArray s 0 0 (mdA q)) (F0 m 109 ls []) := by
      intro y1_32 v_32 hg hI H locs hP hS ls hl
      refine lv_aload_n hC.1 hC.2.1 dX6_print_109 rfl (lv_at hl 0 rfl) ?_
      refine lv_iconst (v := 0) hC.1 hC.2.1 dX6_print_110 (by decide) ?_
      refine pf (v := .int 0) (tv := .int) hC fwX6 (hKN.go hAL hS) hP (mdD_D hq v_32 hs) hS 0 rfl rfl 11 (by decide) rfl wd_898 rfl rfl rfl (Nat.le_of_ble_eq_true rfl) dX6_print_111 (fun H locs hq_6 hS => ?_)
      have hP : PW G (mdW G q (mkM (v_32 0) (v_32 1) (v_32 2) (v_32 3) (v_32 4) (v_32 5) (v_32 6) (v_32 7) (v_32 8 0) (v_32 8 1) (v_32 8 2) (v_32 8 3) (v_32 8 4) (v_32 8 5) 0 (v_32 8 7) (v_32 8 8)) hs) H := hq_6
      have hI : True := trivial
      refine lv_aload_n hC.1 hC.2.1 dX6_print_114 rfl (lv_at hl 0 rfl) ?_
      refine gf (v := .ref (q 1)) hC fwX6 (hKN.go hAL hS) hP 0 rfl rfl 0 (by decide) rfl wd_887 rfl dX6_print_115 ?_
      refine lv_bipush (v := 83) hC.1 hC.2.1 dX6_print_118 (by decide +kernel) ?_
      refine iald_k hC (hKN.go hAL hS) hP 1 rfl (n := 124) (f := (v_32 0)) 83 (rfl) (by omega) (by decide) dX6_print_120 ?_
      refine lv_iload_n hC.1 hC.2.1 dX6_print_121 rfl (lv_at hl 1 rfl) ?_
      refine lv_isub hC.1 hC.2.1 dX6_print_122 ?_
      have e_7 : tX6_print_32 v y1_32 v_32 = (mkM (v_32 0) (v_32 1) (v_32 2) (v_32 3) (v_32 4) (v_32 5) (v_32 6) (v_32 7) (v_32 8 0) (v_32 8 1) (v_32 8 2) (v_32 8 3) (v_32 8 4) (v_32 8 5) 0 (v_32 8 7) (v_32 8 8), ((v_32 0) 83) - y1_32) := by delta tX6_print_32; exact rfl
      have hg : fX6_print v = (mkM (v_32 0) (v_32 1) (v_32 2) (v_32 3) (v_32 4) (v_32 5) (v_32 6) (v_32 7) (v_32 8 0) (v_32 8 1) (v_32 8 2) (v_32 8 3) (v_32 8 4) (v_32 8 5) 0 (v_32 8 7) (v_32 8 8), ((v_32 0) 83) - y1_32) := by have e2 := congrArg (fun z => z) e_7; exact hg.trans e2
      exact eE_i hC (by rw [hg]) (by show PW G (mdW G q (fX6_print v).1 hs) H; rw [hg]; exact hP) hS dX6_print_123
    have L32 : ∀ (y1_32 : Int32), ∀ (n32 d32 : Nat), ∀ (v_32 : SV), d32 + n32 = ((r_5 8 8).toNatClampNeg) → fX6_print v = (tX6_print_32 v y1_32 (lpF n32 d32 (bX6_print_32 v y1_32) v_32)) → PR v_32 ∧ v_32 8 8 = r_5 8 8 → ∀ (H : Heap) (locs : List Loc), PW G (mdW G q v_32 hs) H → va_S (mdA q) s.heap H locs → ∀ (ls : Array Slot), lv_has ls 4 [(0, .ref (q 0)), (1, .int y1_32), (2, .int (nI d32))] → W p l e ({ frames := 7, cells := 0, slots := 0, locals := 166 }) s m ([.ref (q 0)] : List Value).toArray below meth c H locs 0 0 (MQ below (QE (some (.int (fX6_print v).2)) (fun H => PW G (mdW G q (fX6_print v).1 hs) H) (mdA q)) ([.ref (q 0)] : List Value).toArray s 0 0 (mdA q)) (F0 m 32 ls []) := by
      intro y1_32
      intro n32
      induction n32 with
      | zero =>
        intro d32 v_32 hd hg hI H locs hP hS ls hl
        refine lv_iload_n hC.1 hC.2.1 dX6_print_32 rfl (lv_at hl 2 rfl) ?_
        refine lv_aload_n hC.1 hC.2.1 dX6_print_33 rfl (lv_at hl 0 rfl) ?_
        refine gf (v := .int (v_32 8 8)) hC fwX6 (hKN.go hAL hS) hP 0 rfl rfl 13 (by decide) rfl wd_900 rfl dX6_print_34 ?_
        refine lv_icmp_ge (tgt := 109) hC.1 hC.2.1 dX6_print_37 (by decide) (fun k37 => ?_) (fun k37 => ?_)
        · exact A32 y1_32 v_32 hg trivial _ _ hP hS _ (lv_sub hl [0, 1] rfl)
        · exact absurd (PL_z hI.2 hd) k37
      | succ n32 ih =>
        intro d32 v_32 hd hg hI H locs hP hS ls hl
        have hg : fX6_print v = (tX6_print_32 v y1_32 (lpF n32 (d32 + 1) (bX6_print_32 v y1_32) (bX6_print_32 v y1_32 d32 v_32))) := hg
        refine lv_iload_n hC.1 hC.2.1 dX6_print_32 rfl (lv_at hl 2 rfl) ?_
        refine lv_aload_n hC.1 hC.2.1 dX6_print_33 rfl (lv_at hl 0 rfl) ?_
        refine gf (v := .int (v_32 8 8)) hC fwX6 (hKN.go hAL hS) hP 0 rfl rfl 13 (by decide) rfl wd_900 rfl dX6_print_34 ?_
        refine lv_icmp_ge (tgt := 109) hC.1 hC.2.1 dX6_print_37 (by decide) (fun k37 => ?_) (fun k37 => ?_)
        · exact absurd k37 (PL_s hI.2 hd)
        · refine lv_aload_n hC.1 hC.2.1 dX6_print_40 rfl (lv_at hl 0 rfl) ?_
          refine gf (v := .ref (q 6)) hC fwX6 (hKN.go hAL hS) hP 0 rfl rfl 14 (by decide) rfl wd_901 rfl dX6_print_41 ?_
          refine lv_iload_n hC.1 hC.2.1 dX6_print_44 rfl (lv_at hl 2 rfl) ?_
          refine iald_k hC (hKN.go hAL hS) hP 6 rfl (n := 16) (f := (v_32 5)) d32 (rfl) (PL_16 hI hd) (by decide) dX6_print_45 ?_
          refine lv_if_ne (tgt := 69) hC.1 hC.2.1 dX6_print_46 (by decide) (fun k46 => ?_) (fun k46 => ?_)
          · refine lv_aload_n hC.1 hC.2.1 dX6_print_69 rfl (lv_at hl 0 rfl) ?_
            refine gf (v := .ref (q 6)) hC fwX6 (hKN.go hAL hS) hP 0 rfl rfl 14 (by decide) rfl wd_901 rfl dX6_print_70 ?_
            refine lv_iload_n hC.1 hC.2.1 dX6_print_73 rfl (lv_at hl 2 rfl) ?_
            refine iald_k hC (hKN.go hAL hS) hP 6 rfl (n := 16) (f := (v_32 5)) d32 (rfl) (PL_16 hI hd) (by decide) dX6_print_74 ?_
            refine lv_iconst (v := 1) hC.1 hC.2.1 dX6_print_75 (by decide) ?_
            refine lv_icmp_ne (tgt := 93) hC.1 hC.2.1 dX6_print_76 (by decide) (fun k76 => ?_) (fun k76 => ?_)
            · refine lv_aload_n hC.1 hC.2.1 dX6_print_93 rfl (lv_at hl 0 rfl) ?_
              refine lv_aload_n hC.1 hC.2.1 dX6_print_94 rfl (lv_at hl 0 rfl) ?_
              refine gf (v := .ref (q 7)) hC fwX6 (hKN.go hAL hS) hP 0 rfl rfl 15 (by decide) rfl wd_902 rfl dX6_print_95 ?_
              refine lv_iload_n hC.1 hC.2.1 dX6_print_98 rfl (lv_at hl 2 rfl) ?_
              refine iald_k hC (hKN.go hAL hS) hP 7 rfl (n := 16) (f := (v_32 6)) d32 (rfl) (PL_16 hI hd) (by decide) dX6_print_99 ?_
              refine runE (rV (B := fun U H => PW G (mdW G q v_32 hs) H) (As := [.int ((v_32 6) d32)]) (rest := []) hC mwX6_pass (c_X6_pass l G q v_32 hs ((v_32 6) d32) hq hI.1.1) iwX6_pass wd_1011 ⟨rfl, rfl⟩ ⟨Nat.le_of_ble_eq_true rfl, Nat.le_of_ble_eq_true rfl⟩ (stb_h (fun H => PW G (mdW G q v_32 hs) H)) (hKN.go hAL hS) hP (va_recv (hKN.go hAL hS).k hP (ci := 6) (q0 := 0) rfl rfl) rfl hl.1 rfl (Nat.le_of_ble_eq_true rfl) dX6_print_100 ⟨Nat.zero_le _, Nat.zero_le _⟩) hS (fun _ h => h) (fun _ h => h) (fun H locs hq_8 _ _ hS => ?_)
              have hP : PW G (mdW G q (fX6_pass v_32 ((v_32 6) d32)) hs) H := hq_8
              obtain ⟨r_9, er_9⟩ : ∃ z, z = fX6_pass v_32 ((v_32 6) d32) := ⟨_, rfl⟩
              rw [← er_9] at hP
              have hI : PR r_9 ∧ r_9 8 8 = r_5 8 8 := by rw [er_9]; exact (PL_fr (S_pass _ _) (F_pass _ _) hI)
              refine lv_iinc (v := nI (d32 + 1)) (lv' := [(2, .int (nI (d32 + 1))), (0, .ref (q 0)), (1, .int y1_32)]) hC.1 hC.2.1 dX6_print_103 hl (k := 2) rfl (nI_1 _) (by decide) rfl (fun ls hl => ?_)
              refine lv_goto (tgt := 32) hC.1 hC.2.1 dX6_print_106 (by decide) ?_
              have e_10 : bX6_print_32 v y1_32 d32 v_32 = r_9 := by have q_ := er_9.symm; subst q_; delta bX6_print_32; exact Eq.trans (if_neg k46) (Eq.trans (if_neg k76) rfl)
              have hg : fX6_print v = (tX6_print_32 v y1_32 (lpF n32 (d32 + 1) (bX6_print_32 v y1_32) r_9)) := by have e2 := congrArg (fun z => (tX6_print_32 v y1_32 (lpF n32 (d32 + 1) (bX6_print_32 v y1_32) z))) e_10; exact hg.trans e2
              exact ih (d32 + 1) r_9 (by omega) hg (by first | exact hI | exact ⟨hI, rfl⟩) _ _ hP hS _ (lv_sub hl [1, 2, 0] rfl)
            · refine lv_aload_n hC.1 hC.2.1 dX6_print_79 rfl (lv_at hl 0 rfl) ?_
              refine lv_aload_n hC.1 hC.2.1 dX6_print_80 rfl (lv_at hl 0 rfl) ?_
              refine gf (v := .ref (q 7)) hC fwX6 (hKN.go hAL hS) hP 0 rfl rfl 15 (by decide) rfl wd_902 rfl dX6_print_81 ?_
              refine lv_iload_n hC.1 hC.2.1 dX6_print_84 rfl (lv_at hl 2 rfl) ?_
              refine iald_k hC (hKN.go hAL hS) hP 7 rfl (n := 16) (f := (v_32 6)) d32 (rfl) (PL_16 hI hd) (by decide) dX6_print_85 ?_
              refine runE (rV (B := fun U H => PW G (mdW G q v_32 hs) H) (As := [.int ((v_32 6) d32)]) (rest := []) hC mwX6_paperNow (c_X6_paperNow l G q v_32 hs ((v_32 6) d32) hq hI.1.1 (PL_pap hI hd k76)) iwX6_paperNow wd_1055 ⟨rfl, rfl⟩ ⟨Nat.le_of_ble_eq_true rfl, Nat.le_of_ble_eq_true rfl⟩ (stb_h (fun H => PW G (mdW G q v_32 hs) H)) (hKN.go hAL hS) hP (va_recv (hKN.go hAL hS).k hP (ci := 6) (q0 := 0) rfl rfl) rfl hl.1 rfl (Nat.le_of_ble_eq_true rfl) dX6_print_86 ⟨Nat.zero_le _, Nat.zero_le _⟩) hS (fun _ h => h) (fun _ h => h) (fun H locs hq_11 _ _ hS => ?_)
              have hP : PW G (mdW G q ((fX6_paperNow v_32 ((v_32 6) d32)).1) hs) H := hq_11
              obtain ⟨r_12, er_12⟩ : ∃ z, z = fX6_paperNow v_32 ((v_32 6) d32) := ⟨_, rfl⟩
              rw [← er_12] at hP
              show W p l e ({ frames := 7, cells := 0, slots := 0, locals := 166 }) s m ([.ref (q 0)] : List Value).toArray below meth c H locs (0 + 0) (0 + 0) _ (F0 m (86 + 3) ls [.int ((fX6_paperNow v_32 ((v_32 6) d32)).2)])
              rw [← er_12]
              have hI : PR r_12.1 ∧ r_12.1 8 8 = r_5 8 8 := by rw [er_12]; exact (PL_paper (PL_pap hI hd k76) hI)
              refine lv_istore_n (lv' := [(3, .int r_12.2), (0, .ref (q 0)), (1, .int y1_32), (2, .int (nI d32))]) hC.1 hC.2.1 dX6_print_89 rfl hl (by decide) rfl (fun ls hl => ?_)
              refine lv_goto (tgt := 103) hC.1 hC.2.1 dX6_print_90 (by decide) ?_
              refine lv_iinc (v := nI (d32 + 1)) (lv' := [(2, .int (nI (d32 + 1))), (3, .int r_12.2), (0, .ref (q 0)), (1, .int y1_32)]) hC.1 hC.2.1 dX6_print_103 hl (k := 3) rfl (nI_1 _) (by decide) rfl (fun ls hl => ?_)
              refine lv_goto (tgt := 32) hC.1 hC.2.1 dX6_print_106 (by decide) ?_
              have e_13 : bX6_print_32 v y1_32 d32 v_32 = r_12.1 := by have q_ := er_12.symm; subst q_; delta bX6_print_32; exact Eq.trans (if_neg k46) (Eq.trans (if_pos k76) rfl)
              have hg : fX6_print v = (tX6_print_32 v y1_32 (lpF n32 (d32 + 1) (bX6_print_32 v y1_32) r_12.1)) := by have e2 := congrArg (fun z => (tX6_print_32 v y1_32 (lpF n32 (d32 + 1) (bX6_print_32 v y1_32) z))) e_13; exact hg.trans e2
              exact ih (d32 + 1) r_12.1 (by omega) hg (by first | exact hI | exact ⟨hI, rfl⟩) _ _ hP hS _ (lv_sub hl [2, 3, 0] rfl)
          · refine lv_aload_n hC.1 hC.2.1 dX6_print_49 rfl (lv_at hl 0 rfl) ?_
            refine lv_aload_n hC.1 hC.2.1 dX6_print_50 rfl (lv_at hl 0 rfl) ?_
            refine gf (v := .ref (q 7)) hC fwX6 (hKN.go hAL hS) hP 0 rfl rfl 15 (by decide) rfl wd_902 rfl dX6_print_51 ?_
            refine lv_iload_n hC.1 hC.2.1 dX6_print_54 rfl (lv_at hl 2 rfl) ?_
            refine iald_k hC (hKN.go hAL hS) hP 7 rfl (n := 16) (f := (v_32 6)) d32 (rfl) (PL_16 hI hd) (by decide) dX6_print_55 ?_
            refine lv_aload_n hC.1 hC.2.1 dX6_print_56 rfl (lv_at hl 0 rfl) ?_
            refine gf (v := .ref (q 8)) hC fwX6 (hKN.go hAL hS) hP 0 rfl rfl 16 (by decide) rfl wd_903 rfl dX6_print_57 ?_
            refine lv_iload_n hC.1 hC.2.1 dX6_print_60 rfl (lv_at hl 2 rfl) ?_
            refine iald_k hC (hKN.go hAL hS) hP 8 rfl (n := 16) (f := (v_32 7)) d32 (rfl) (PL_16 hI hd) (by decide) dX6_print_61 ?_
            refine runE (rV (B := fun U H => PW G (mdW G q v_32 hs) H) (As := [.int ((v_32 6) d32), .int ((v_32 7) d32)]) (rest := []) hC mwX6_printSome (c_X6_printSome l G q v_32 hs ((v_32 6) d32) ((v_32 7) d32) hq hI.1.1) iwX6_printSome wd_1035 ⟨rfl, rfl⟩ ⟨Nat.le_of_ble_eq_true rfl, Nat.le_of_ble_eq_true rfl⟩ (stb_h (fun H => PW G (mdW G q v_32 hs) H)) (hKN.go hAL hS) hP (va_recv (hKN.go hAL hS).k hP (ci := 6) (q0 := 0) rfl rfl) rfl hl.1 rfl (Nat.le_of_ble_eq_true rfl) dX6_print_62 ⟨Nat.zero_le _, Nat.zero_le _⟩) hS (fun _ h => h) (fun _ h => h) (fun H locs hq_14 _ _ hS => ?_)
            have hP : PW G (mdW G q ((fX6_printSome v_32 ((v_32 6) d32) ((v_32 7) d32)).1) hs) H := hq_14
            obtain ⟨r_15, er_15⟩ : ∃ z, z = fX6_printSome v_32 ((v_32 6) d32) ((v_32 7) d32) := ⟨_, rfl⟩
            rw [← er_15] at hP
            show W p l e ({ frames := 7, cells := 0, slots := 0, locals := 166 }) s m ([.ref (q 0)] : List Value).toArray below meth c H locs (0 + 0) (0 + 0) _ (F0 m (62 + 3) ls [.int ((fX6_printSome v_32 ((v_32 6) d32) ((v_32 7) d32)).2)])
            rw [← er_15]
            have hI : PR r_15.1 ∧ r_15.1 8 8 = r_5 8 8 := by rw [er_15]; exact (PL_fr (S_printSome _ _ _) (F_printSome _ _ _) hI)
            refine lv_istore_n (lv' := [(3, .int r_15.2), (0, .ref (q 0)), (1, .int y1_32), (2, .int (nI d32))]) hC.1 hC.2.1 dX6_print_65 rfl hl (by decide) rfl (fun ls hl => ?_)
            refine lv_goto (tgt := 103) hC.1 hC.2.1 dX6_print_66 (by decide) ?_
            refine lv_iinc (v := nI (d32 + 1)) (lv' := [(2, .int (nI (d32 + 1))), (3, .int r_15.2), (0, .ref (q 0)), (1, .int y1_32)]) hC.1 hC.2.1 dX6_print_103 hl (k := 3) rfl (nI_1 _) (by decide) rfl (fun ls hl => ?_)
            refine lv_goto (tgt := 32) hC.1 hC.2.1 dX6_print_106 (by decide) ?_
            have e_16 : bX6_print_32 v y1_32 d32 v_32 = r_15.1 := by have q_ := er_15.symm; subst q_; delta bX6_print_32; exact Eq.trans (if_pos k46) rfl
            have hg : fX6_print v = (tX6_print_32 v y1_32 (lpF n32 (d32 + 1) (bX6_print_32 v y1_32) r_15.1)) := by have e2 := congrArg (fun z => (tX6_print_32 v y1_32 (lpF n32 (d32 + 1) (bX6_print_32 v y1_32) z))) e_16; exact hg.trans e2
            exact ih (d32 + 1) r_15.1 (by omega) hg (by first | exact hI | exact ⟨hI, rfl⟩) _ _ hP hS _ (lv_sub hl [2, 3, 0] rfl)
    have e_17 : fX6_print v = tX6_print_32 v ((r_5 0) 83) (lpF ((r_5 8 8).toNatClampNeg) 0 (bX6_print_32 v ((r_5 0) 83)) r_5) := by have q_ := er_5.symm; subst q_; have q_ := er_3.symm; subst q_; delta fX6_print; exact Eq.trans (if_neg k9) rfl
    have hg : fX6_print v = (tX6_print_32 v ((r_5 0) 83) (lpF ((r_5 8 8).toNatClampNeg) 0 (bX6_print_32 v ((r_5 0) 83)) r_5)) := by have e2 := congrArg (fun z => z) e_17; exact hg.trans e2
    exact L32 ((r_5 0) 83) ((r_5 8 8).toNatClampNeg) 0 r_5 (by omega) hg (by first | exact hI | exact ⟨hI, rfl⟩) _ _ hP hS _ (lv_sub hl [2, 1, 0] rfl)
  · refine lv_aload_n hC.1 hC.2.1 dX6_print_12 rfl (lv_at hl 0 rfl) ?_
    refine lv_iconst (v := 1) hC.1 hC.2.1 dX6_print_13 (by decide) ?_
    refine runE (rV (B := fun U H => PW G (mdW G q r_3.1 hs) H) (As := [.int 1]) (rest := []) hC mwX6_fails (c_X6_fails l G q r_3.1 hs 1 hq) iwX6_fails wd_950 ⟨rfl, rfl⟩ ⟨Nat.le_of_ble_eq_true rfl, Nat.le_of_ble_eq_true rfl⟩ (stb_h (fun H => PW G (mdW G q r_3.1 hs) H)) (hKN.go hAL hS) hP (va_recv (hKN.go hAL hS).k hP (ci := 6) (q0 := 0) rfl rfl) rfl hl.1 rfl (Nat.le_of_ble_eq_true rfl) dX6_print_14 ⟨Nat.zero_le _, Nat.zero_le _⟩) hS (fun _ h => h) (fun _ h => h) (fun H locs hq_18 _ _ hS => ?_)
    have hP : PW G (mdW G q ((fX6_fails r_3.1 1).1) hs) H := hq_18
    obtain ⟨r_19, er_19⟩ : ∃ z, z = fX6_fails r_3.1 1 := ⟨_, rfl⟩
    rw [← er_19] at hP
    show W p l e ({ frames := 7, cells := 0, slots := 0, locals := 166 }) s m ([.ref (q 0)] : List Value).toArray below meth c H locs (0 + 0) (0 + 0) _ (F0 m (14 + 3) ls [.int ((fX6_fails r_3.1 1).2)])
    rw [← er_19]
    have hI : True := trivial
    have e_20 : fX6_print v = (r_19.1, r_19.2) := by have q_ := er_19.symm; subst q_; have q_ := er_3.symm; subst q_; delta fX6_print; exact Eq.trans (if_pos k9) rfl
    have hg : fX6_print v = (r_19.1, r_19.2) := by have e2 := congrArg (fun z => z) e_20; exact hg.trans e2
    exact eE_i hC (by rw [hg]) (by show PW G (mdW G q (fX6_print v).1 hs) H; rw [hg]; exact hP) hS dX6_print_17
