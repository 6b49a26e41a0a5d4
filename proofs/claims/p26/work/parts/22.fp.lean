def fX4_darkShare (v : SV) : UInt64 := if 1 ≤ (v 8 5) then (FP.ddiv (FP.i2d ((v 8 5) - (v 8 6))) (FP.i2d (v 8 5))) else (FP.dconst1)
def tX2_mean_4 (v : SV) (s : Int32) : UInt32 := let y1_4 := s; FP.fdiv (FP.i2f y1_4) 1103101952
def bX2_mean_4 (v : SV) (d4 : Nat) (s : Int32) : Int32 := let y1_4 := s; y1_4 + ((v 0) d4)
def fX2_mean (v : SV) : UInt32 := tX2_mean_4 v (lpF 24 0 (bX2_mean_4 v) 0)
theorem met_WF {l : Launch} {y : MethodName} {ws ws' : List Cond} {rm : Room} {Pc : Array Value → State → Prop} {Qc : Array Value → State → Outcome → State → Prop} {mc ms : Nat} {free : Addr → Prop} {cc : ByteArray} {maxL : Nat} {ret : Option FieldType}
    (hy : plainFor y = true) (hw : ws = Cond.code y cc maxL ret :: ws')
    (body : ∀ p e s m args below meth c s₁, BodyLoose p l y (headSpec ws rm) cc maxL ret e s m args below meth c s₁ → c.maxLocals = maxL → Pc args s →
      W p l e (headSpec ws rm).room s m args below meth c s.heap [] 0 0 (MQ below Qc args s mc ms free) (entryFrame m args maxL)) : Met l y ws rm Pc Qc mc ms free := by
  refine MetFree.of_bodySF (code := cc) (maxLocals := maxL) (ret := ret) hy ?_ ?_
  · intro args s m h hn
    obtain ⟨meth, c, h1, h2, h3, h4, h5, h6, -, -⟩ := Cond.code_spec hn (atoms_spec (ws := ws) h _ (by rw [hw]; exact List.mem_cons_self))
    exact ⟨meth, c, h1, h2, h3, h4, h5, h6⟩
  · intro p e s m args below meth c s₁ B hml hP _
    have hh0 : s₁.heap = s.heap := by rw [B.state]; rfl
    obtain ⟨t, a1, o, b1, b2, b3⟩ := body p e s m args below meth c s₁ B hml hP s₁ hh0 (Stand.of_body B)
    exact ⟨t, o, a1, b1, b2, ⟨b3.1, b3.2⟩⟩
theorem met_ofF {l : Launch} {y : MethodName} {cc : ByteArray} {maxL : Nat} {ret : Option FieldType} {rm : Room} {G : GT} {av : List Value} {B : State → Heap → Prop} {Qc : Array Value → State → Outcome → State → Prop} {mc ms : Nat} {free : Addr → Prop}
    (hy : plainFor y = true) (hn : (lg_sl av).length ≤ maxL)
    (body : ∀ (p : Program) (e : Env) (s : State) (m : MethodId) (below : List Frame) (meth : Method) (c : Code) (ls : Array Slot), CX p s m meth c y cc maxL ret av.toArray → KN G s s.heap → B s s.heap → lv_has ls maxL (lv_args 0 av) → W p l e rm s m av.toArray below meth c s.heap [] 0 0 (MQ below Qc av.toArray s mc ms free) (F0 m 0 ls [])) :
    Met l y (Cond.code y cc maxL ret :: bigW) rm (BP G av B) Qc mc ms free := by
  refine met_WF (cc := cc) (maxL := maxL) (ret := ret) hy rfl ?_
  intro p e s m args below meth c s₁ Bd hml hv
  obtain ⟨rfl, hK, hB⟩ := hv
  have hts := atoms_spec (ws := Cond.code y cc maxL ret :: bigW) Bd.pre
  rw [lg_entry_eq]
  exact body p e s m below meth c _ ⟨Bd.exec, Bd.bytes, Bd.returns, hml, findClass_of_methodNamed Bd.named, Bd.notSynchronized, fun w hw => hts w (List.mem_cons_of_mem _ hw), (name_of_methodNamed Bd.named Bd.method).1⟩ hK hB (lv_entry av hn)
section ED
variable {p : Program} {l : Launch} {e : Env} {R : Room} {s : State} {m : MethodId} {args : Array Value} {below : List Frame} {meth : Method} {c : Code} {H : Heap} {locs : List Loc} {cells slots : Nat} {A : Nat → Prop}
variable {y0 : MethodName} {cc : ByteArray} {nL : Nat} {pc : Nat} {ls : Array Slot}
theorem eE_d {B1 : Heap → Prop} {F : Option Value} {v : UInt64} (hC : CX p s m meth c y0 cc nL (some .double) args) (hF : F = some (.double v)) (hB : B1 H) (hS : va_S A s.heap H locs) (hdg : decode cc pc = .ok (.dreturn, 1)) : W p l e R s m args below meth c H locs cells slots (MQ below (QE F B1 A) args s cells slots A) (F0 m pc ls [.double v]) := by
  subst hF; exact W.dret hC.1 hC.2.1 hC.2.2.1 (fun t ht _ => ⟨⟨rfl, by rw [ht]; exact hB⟩, hS.F ht⟩) hS.2.2 hdg hC.2.2.2.2.2.1
theorem eE_f {B1 : Heap → Prop} {F : Option Value} {v : UInt32} (hC : CX p s m meth c y0 cc nL (some .float) args) (hF : F = some (.float v)) (hB : B1 H) (hS : va_S A s.heap H locs) (hdg : decode cc pc = .ok (.freturn, 1)) : W p l e R s m args below meth c H locs cells slots (MQ below (QE F B1 A) args s cells slots A) (F0 m pc ls [.float v]) := by
  subst hF; exact W.fret hC.1 hC.2.1 hC.2.2.1 (fun t ht _ => ⟨⟨rfl, by rw [ht]; exact hB⟩, hS.F ht⟩) hS.2.2 hdg hC.2.2.2.2.2.1
end ED
theorem n64_of {r : UInt64} (h : FP.dIsNaN r = false) : vf_n64 r := by
  have h1 := (FP.Core.ne_nan r).mp ((FP.Core.notNaN_iff r).mp h)
  unfold vf_n64
  rw [UInt64.le_iff_toNat_le, UInt64.toNat_and]
  show r.toNat &&& (2 ^ 63 - 1) ≤ 9218868437227405312
  rw [Nat.and_two_pow_sub_one_eq_mod]
  exact h1
theorem n32_of {r : UInt32} (h : FP.fIsNaN r = false) : vf_n32 r := by
  have h1 := (FP.Core.ne_nan32 r).mp ((FP.Core.notNaN_iff32 r).mp h)
  unfold vf_n32
  rw [UInt32.le_iff_toNat_le, UInt32.toNat_and]
  show r.toNat &&& (2 ^ 31 - 1) ≤ 2139095040
  rw [Nat.and_two_pow_sub_one_eq_mod]
  exact h1
theorem i2d_nz {b : Int32} (h : ¬ b = 0) : ¬ FP.Core.DZero (FP.i2d b) := by
  rintro ⟨s, q, e⟩
  have w := FP.Core.l2d_whole (a := b.toInt64) (by
    have := Int32.le_toInt b
    have := Int32.toInt_lt b
    unfold FP.Core.Small53
    rw [Int32.toInt_toInt64]
    omega)
  rw [← FP.Core.i2d_l2d, show FP.Core.i2d b = FP.i2d b from rfl, e, Int32.toInt_toInt64] at w
  have w : FP.Core.signed s (0 * 2 ^ q.toNat) = b.toInt * ((2 ^ (-q).toNat : Nat) : Int) := w
  rw [Nat.zero_mul, FP.Core.signed_zero] at w
  rcases Int.mul_eq_zero.mp w.symm with z | z
  · exact h (Int32.toInt_inj.mp z)
  · have := Nat.two_pow_pos (-q).toNat
    omega
theorem i2d_notNaN (b : Int32) : FP.dIsNaN (FP.i2d b) = false := by
  show FP.Core.dIsNaN (FP.Core.i2d b) = false
  rw [FP.Core.i2d_l2d]
  exact FP.Core.l2d_notNaN _
theorem i2d_fin' (b : Int32) : FP.Core.DFin (FP.i2d b) := by
  show FP.Core.DFin (FP.Core.i2d b)
  rw [FP.Core.i2d_l2d]
  exact FP.Core.l2d_fin _
theorem n64_div (a : Int32) {b : Int32} (h : ¬ b = 0) : vf_n64 (FP.ddiv (FP.i2d a) (FP.i2d b)) := n64_of (FP.Core.ddiv_out (i2d_notNaN a) (i2d_fin' b) (i2d_nz h))
theorem v24 : FP.Core.val32 1103101952 = .fin false 12582912 (-19) := by decide +kernel
theorem n32_24 (a : Int32) : vf_n32 (FP.fdiv (FP.i2f a) 1103101952) := by
  refine n32_of (FP.Core.fdiv_out ?_ ⟨_, _, _, v24⟩ ?_)
  · show FP.Core.fIsNaN (FP.Core.i2f a) = false
    rw [FP.Core.i2f_l2f]
    exact FP.Core.l2f_notNaN _
  · rintro ⟨s, q, e⟩
    rw [v24] at e
    cases e
theorem dX4_darkShare_0 : decode cX4_darkShare 0 = .ok (.aload_n 0, 1) := by decide +kernel
theorem dX4_darkShare_1 : decode cX4_darkShare 1 = .ok (.getfield 31, 3) := by decide +kernel
theorem dX4_darkShare_4 : decode cX4_darkShare 4 = .ok (.iconst 1, 1) := by decide +kernel
theorem dX4_darkShare_5 : decode cX4_darkShare 5 = .ok (.if_icmp .ge 7, 3) := by decide +kernel
theorem dX4_darkShare_8 : decode cX4_darkShare 8 = .ok (.dconst 1, 1) := by decide +kernel
theorem dX4_darkShare_9 : decode cX4_darkShare 9 = .ok (.goto 19, 3) := by decide +kernel
theorem dX4_darkShare_12 : decode cX4_darkShare 12 = .ok (.aload_n 0, 1) := by decide +kernel
theorem dX4_darkShare_13 : decode cX4_darkShare 13 = .ok (.getfield 31, 3) := by decide +kernel
theorem dX4_darkShare_16 : decode cX4_darkShare 16 = .ok (.aload_n 0, 1) := by decide +kernel
theorem dX4_darkShare_17 : decode cX4_darkShare 17 = .ok (.getfield 34, 3) := by decide +kernel
theorem dX4_darkShare_20 : decode cX4_darkShare 20 = .ok (.isub, 1) := by decide +kernel
theorem dX4_darkShare_21 : decode cX4_darkShare 21 = .ok (.i2d, 1) := by decide +kernel
theorem dX4_darkShare_22 : decode cX4_darkShare 22 = .ok (.aload_n 0, 1) := by decide +kernel
theorem dX4_darkShare_23 : decode cX4_darkShare 23 = .ok (.getfield 31, 3) := by decide +kernel
theorem dX4_darkShare_26 : decode cX4_darkShare 26 = .ok (.i2d, 1) := by decide +kernel
theorem dX4_darkShare_27 : decode cX4_darkShare 27 = .ok (.ddiv, 1) := by decide +kernel
theorem dX4_darkShare_28 : decode cX4_darkShare 28 = .ok (.dreturn, 1) := by decide +kernel
set_option maxHeartbeats 1000000 in
set_option maxRecDepth 100000 in
theorem c_X4_darkShare (l : Launch) (G : GT) (q : Nat → Nat) (v : SV) : Met l yX4_darkShare (Cond.code yX4_darkShare cX4_darkShare 1 (some .double) :: bigW) ({ frames := 0, cells := 0, slots := 0, locals := 0 }) (BP G [.ref (q 8)] (fun U H => PW G (stW G q v) H)) (QP (.double (fX4_darkShare v))) 0 0 (fun _ => False) := by
  refine met_of (by decide) (Nat.le_of_ble_eq_true rfl) ?_
  intro p e s m below meth c ls hC hKN hB0 hl
  have hP := hB0
  have hl : lv_has ls 1 [(0, .ref (q 8))] := hl
  have hg : fX4_darkShare v = fX4_darkShare v := rfl
  refine lv_aload_n hC.1 hC.2.1 dX4_darkShare_0 rfl (lv_at hl 0 rfl) ?_
  refine gf (v := .int (v 8 5)) hC fwX4 hKN hP 8 rfl rfl 6 (by decide) rfl wd_82 rfl dX4_darkShare_1 ?_
  refine lv_iconst (v := 1) hC.1 hC.2.1 dX4_darkShare_4 (by decide) ?_
  refine lv_icmp_ge (tgt := 12) hC.1 hC.2.1 dX4_darkShare_5 (by decide) (fun k5 => ?_) (fun k5 => ?_)
  · refine lv_aload_n hC.1 hC.2.1 dX4_darkShare_12 rfl (lv_at hl 0 rfl) ?_
    refine gf (v := .int (v 8 5)) hC fwX4 hKN hP 8 rfl rfl 6 (by decide) rfl wd_82 rfl dX4_darkShare_13 ?_
    refine lv_aload_n hC.1 hC.2.1 dX4_darkShare_16 rfl (lv_at hl 0 rfl) ?_
    refine gf (v := .int (v 8 6)) hC fwX4 hKN hP 8 rfl rfl 7 (by decide) rfl wd_84 rfl dX4_darkShare_17 ?_
    refine lv_isub hC.1 hC.2.1 dX4_darkShare_20 ?_
    refine lv_i2d hC.1 hC.2.1 dX4_darkShare_21 ?_
    refine lv_aload_n hC.1 hC.2.1 dX4_darkShare_22 rfl (lv_at hl 0 rfl) ?_
    refine gf (v := .int (v 8 5)) hC fwX4 hKN hP 8 rfl rfl 6 (by decide) rfl wd_82 rfl dX4_darkShare_23 ?_
    refine lv_i2d hC.1 hC.2.1 dX4_darkShare_26 ?_
    refine lv_ddiv hC.1 hC.2.1 dX4_darkShare_27 (n64_div _ (fun h => by rw [h] at k5; exact absurd k5 (by decide))) ?_
    have e_1 : fX4_darkShare v = FP.ddiv (FP.i2d ((v 8 5) - (v 8 6))) (FP.i2d (v 8 5)) := by delta fX4_darkShare; exact Eq.trans (if_pos k5) rfl
    have hg : fX4_darkShare v = FP.ddiv (FP.i2d ((v 8 5) - (v 8 6))) (FP.i2d (v 8 5)) := by have e2 := congrArg (fun z => z) e_1; exact hg.trans e2
    exact eP_d hC (congrArg Value.double hg) dX4_darkShare_28
  · refine lv_dconst1 hC.1 hC.2.1 dX4_darkShare_8 ?_
    refine lv_goto (tgt := 28) hC.1 hC.2.1 dX4_darkShare_9 (by decide) ?_
    have e_2 : fX4_darkShare v = FP.dconst1 := by delta fX4_darkShare; exact Eq.trans (if_neg k5) rfl
    have hg : fX4_darkShare v = FP.dconst1 := by have e2 := congrArg (fun z => z) e_2; exact hg.trans e2
    exact eP_d hC (congrArg Value.double hg) dX4_darkShare_28

theorem dX2_mean_0 : decode cX2_mean 0 = .ok (.iconst 0, 1) := by decide +kernel
theorem dX2_mean_1 : decode cX2_mean 1 = .ok (.istore_n 1, 1) := by decide +kernel
theorem dX2_mean_2 : decode cX2_mean 2 = .ok (.iconst 0, 1) := by decide +kernel
theorem dX2_mean_3 : decode cX2_mean 3 = .ok (.istore_n 2, 1) := by decide +kernel
theorem dX2_mean_4 : decode cX2_mean 4 = .ok (.iload_n 2, 1) := by decide +kernel
theorem dX2_mean_5 : decode cX2_mean 5 = .ok (.aload_n 0, 1) := by decide +kernel
theorem dX2_mean_6 : decode cX2_mean 6 = .ok (.getfield 9, 3) := by decide +kernel
theorem dX2_mean_9 : decode cX2_mean 9 = .ok (.arraylength, 1) := by decide +kernel
theorem dX2_mean_10 : decode cX2_mean 10 = .ok (.if_icmp .ge 18, 3) := by decide +kernel
theorem dX2_mean_13 : decode cX2_mean 13 = .ok (.iload_n 1, 1) := by decide +kernel
theorem dX2_mean_14 : decode cX2_mean 14 = .ok (.aload_n 0, 1) := by decide +kernel
theorem dX2_mean_15 : decode cX2_mean 15 = .ok (.getfield 9, 3) := by decide +kernel
theorem dX2_mean_18 : decode cX2_mean 18 = .ok (.iload_n 2, 1) := by decide +kernel
theorem dX2_mean_19 : decode cX2_mean 19 = .ok (.iaload, 1) := by decide +kernel
theorem dX2_mean_20 : decode cX2_mean 20 = .ok (.iadd, 1) := by decide +kernel
theorem dX2_mean_21 : decode cX2_mean 21 = .ok (.istore_n 1, 1) := by decide +kernel
theorem dX2_mean_22 : decode cX2_mean 22 = .ok (.iinc 2 1, 3) := by decide +kernel
theorem dX2_mean_25 : decode cX2_mean 25 = .ok (.goto (-21), 3) := by decide +kernel
theorem dX2_mean_28 : decode cX2_mean 28 = .ok (.iload_n 1, 1) := by decide +kernel
theorem dX2_mean_29 : decode cX2_mean 29 = .ok (.i2f, 1) := by decide +kernel
theorem dX2_mean_30 : decode cX2_mean 30 = .ok (.ldc 165, 2) := by decide +kernel
theorem dX2_mean_32 : decode cX2_mean 32 = .ok (.fdiv, 1) := by decide +kernel
theorem dX2_mean_33 : decode cX2_mean 33 = .ok (.freturn, 1) := by decide +kernel
set_option maxHeartbeats 1000000 in
set_option maxRecDepth 100000 in
theorem c_X2_mean (l : Launch) (G : GT) (q : Nat → Nat) (v : SV) : Met l yX2_mean (Cond.code yX2_mean cX2_mean 3 (some .float) :: bigW) ({ frames := 0, cells := 0, slots := 0, locals := 0 }) (BP G [.ref (q 0)] (fun U H => PW G (stW G q v) H)) (QP (.float (fX2_mean v))) 0 0 (fun _ => False) := by
  refine met_of (by decide) (Nat.le_of_ble_eq_true rfl) ?_
  intro p e s m below meth c ls hC hKN hB0 hl
  have hP := hB0
  have hl : lv_has ls 3 [(0, .ref (q 0))] := hl
  have hg : fX2_mean v = fX2_mean v := rfl
  refine lv_iconst (v := 0) hC.1 hC.2.1 dX2_mean_0 (by decide) ?_
  refine lv_istore_n (lv' := [(1, .int 0), (0, .ref (q 0))]) hC.1 hC.2.1 dX2_mean_1 rfl hl (by decide) rfl (fun ls hl => ?_)
  refine lv_iconst (v := 0) hC.1 hC.2.1 dX2_mean_2 (by decide) ?_
  refine lv_istore_n (lv' := [(2, .int 0), (1, .int 0), (0, .ref (q 0))]) hC.1 hC.2.1 dX2_mean_3 rfl hl (by decide) rfl (fun ls hl => ?_)
  have A4 : ∀ (y1_4 : Int32), fX2_mean v = (tX2_mean_4 v y1_4) → ∀ (ls : Array Slot), lv_has ls 3 [(1, .int y1_4)] → W p l e ({ frames := 0, cells := 0, slots := 0, locals := 0 }) s m ([.ref (q 0)] : List Value).toArray below meth c s.heap [] 0 0 (MQ below (QP (.float (fX2_mean v))) ([.ref (q 0)] : List Value).toArray s 0 0 (fun _ => False)) (F0 m 28 ls []) := by
    intro  y1_4 hg ls hl
    refine lv_iload_n hC.1 hC.2.1 dX2_mean_28 rfl (lv_at hl 0 rfl) ?_
    refine lv_i2f hC.1 hC.2.1 dX2_mean_29 ?_
    refine lv_ldcf (v := 1103101952) hC.1 hC.2.1 hC.2.2.2.2.1 (hC.2.2.2.2.2.2.1 _ wd_394) dX2_mean_30 ?_
    refine lv_fdiv hC.1 hC.2.1 dX2_mean_32 (n32_24 _) ?_
    have e_1 : tX2_mean_4 v y1_4 = FP.fdiv (FP.i2f y1_4) 1103101952 := by delta tX2_mean_4; exact rfl
    have hg : fX2_mean v = FP.fdiv (FP.i2f y1_4) 1103101952 := by have e2 := congrArg (fun z => z) e_1; exact hg.trans e2
    exact eP_f hC (congrArg Value.float hg) dX2_mean_33
  have L4 : ∀ (n4 d4 : Nat), ∀ (y1_4 : Int32), d4 + n4 = 24 → fX2_mean v = (tX2_mean_4 v (lpF n4 d4 (bX2_mean_4 v) y1_4)) → ∀ (ls : Array Slot), lv_has ls 3 [(0, .ref (q 0)), (1, .int y1_4), (2, .int (nI d4))] → W p l e ({ frames := 0, cells := 0, slots := 0, locals := 0 }) s m ([.ref (q 0)] : List Value).toArray below meth c s.heap [] 0 0 (MQ below (QP (.float (fX2_mean v))) ([.ref (q 0)] : List Value).toArray s 0 0 (fun _ => False)) (F0 m 4 ls []) := by
    intro n4
    induction n4 with
    | zero =>
      intro d4 y1_4 hd hg ls hl
      refine lv_iload_n hC.1 hC.2.1 dX2_mean_4 rfl (lv_at hl 2 rfl) ?_
      refine lv_aload_n hC.1 hC.2.1 dX2_mean_5 rfl (lv_at hl 0 rfl) ?_
      refine gf (v := .ref (q 1)) hC fwX2 hKN hP 0 rfl rfl 0 (by decide) rfl wd_108 rfl dX2_mean_6 ?_
      refine alen_n hC hKN hP 1 rfl dX2_mean_9 ?_
      refine lv_icmp_ge (tgt := 28) hC.1 hC.2.1 dX2_mean_10 (by decide) (fun k10 => ?_) (fun k10 => ?_)
      · exact A4  y1_4 hg _ (lv_sub hl [1] rfl)
      · exact absurd (nI_le (a := 24) (b := d4) (by omega) (by omega)) k10
    | succ n4 ih =>
      intro d4 y1_4 hd hg ls hl
      have hg : fX2_mean v = (tX2_mean_4 v (lpF n4 (d4 + 1) (bX2_mean_4 v) (bX2_mean_4 v d4 y1_4))) := hg
      refine lv_iload_n hC.1 hC.2.1 dX2_mean_4 rfl (lv_at hl 2 rfl) ?_
      refine lv_aload_n hC.1 hC.2.1 dX2_mean_5 rfl (lv_at hl 0 rfl) ?_
      refine gf (v := .ref (q 1)) hC fwX2 hKN hP 0 rfl rfl 0 (by decide) rfl wd_108 rfl dX2_mean_6 ?_
      refine alen_n hC hKN hP 1 rfl dX2_mean_9 ?_
      refine lv_icmp_ge (tgt := 28) hC.1 hC.2.1 dX2_mean_10 (by decide) (fun k10 => ?_) (fun k10 => ?_)
      · exact absurd k10 (nI_ge (a := d4) (b := 24) (by omega) (by omega))
      · refine lv_iload_n hC.1 hC.2.1 dX2_mean_13 rfl (lv_at hl 1 rfl) ?_
        refine lv_aload_n hC.1 hC.2.1 dX2_mean_14 rfl (lv_at hl 0 rfl) ?_
        refine gf (v := .ref (q 1)) hC fwX2 hKN hP 0 rfl rfl 0 (by decide) rfl wd_108 rfl dX2_mean_15 ?_
        refine lv_iload_n hC.1 hC.2.1 dX2_mean_18 rfl (lv_at hl 2 rfl) ?_
        refine iald_k hC hKN hP 1 rfl (n := 24) (f := (v 0)) d4 (rfl) (by omega) (by first | decide | omega) dX2_mean_19 ?_
        refine lv_iadd hC.1 hC.2.1 dX2_mean_20 ?_
        refine lv_istore_n (lv' := [(1, .int (y1_4 + ((v 0) d4))), (0, .ref (q 0)), (2, .int (nI d4))]) hC.1 hC.2.1 dX2_mean_21 rfl hl (by decide) rfl (fun ls hl => ?_)
        refine lv_iinc (v := nI (d4 + 1)) (lv' := [(2, .int (nI (d4 + 1))), (1, .int (y1_4 + ((v 0) d4))), (0, .ref (q 0))]) hC.1 hC.2.1 dX2_mean_22 hl (k := 2) rfl (nI_1 _) (by decide) rfl (fun ls hl => ?_)
        refine lv_goto (tgt := 4) hC.1 hC.2.1 dX2_mean_25 (by decide) ?_
        have e_2 : bX2_mean_4 v d4 y1_4 = y1_4 + ((v 0) d4) := by delta bX2_mean_4; exact rfl
        have hg : fX2_mean v = (tX2_mean_4 v (lpF n4 (d4 + 1) (bX2_mean_4 v) (y1_4 + ((v 0) d4)))) := by have e2 := congrArg (fun z => (tX2_mean_4 v (lpF n4 (d4 + 1) (bX2_mean_4 v) z))) e_2; exact hg.trans e2
        exact ih (d4 + 1) (y1_4 + ((v 0) d4)) (by omega) hg _ (lv_sub hl [2, 1, 0] rfl)
  have e_3 : fX2_mean v = tX2_mean_4 v (lpF 24 0 (bX2_mean_4 v) 0) := by delta fX2_mean; exact rfl
  have hg : fX2_mean v = (tX2_mean_4 v (lpF 24 0 (bX2_mean_4 v) 0)) := by have e2 := congrArg (fun z => z) e_3; exact hg.trans e2
  exact L4  24 0 0 (by omega) hg _ (lv_sub hl [2, 1, 0] rfl)
