theorem mwJxf58ca_floatToIntBits_5c35a : MW yJxf58ca_floatToIntBits_5c35a cJxf58ca_floatToIntBits_5c35a 1 (some .int) 1 := ⟨wd_1243, wd_22, by decide, by decide, by decide +kernel⟩
theorem mwJxf58ca_isNaN_12338 : MW yJxf58ca_isNaN_12338 cJxf58ca_isNaN_12338 1 (some .boolean) 1 := ⟨wd_1246, wd_22, by decide, by decide, by decide +kernel⟩
theorem mwJxe99ae_doubleToLongBits_ccdee : MW yJxe99ae_doubleToLongBits_ccdee cJxe99ae_doubleToLongBits_ccdee 2 (some .long) 1 := ⟨wd_1233, wd_21, by decide, by decide, by decide +kernel⟩
theorem mwJxe99ae_isNaN_b9ae7 : MW yJxe99ae_isNaN_b9ae7 cJxe99ae_isNaN_b9ae7 2 (some .boolean) 1 := ⟨wd_1236, wd_21, by decide, by decide, by decide +kernel⟩
def fX6_share (v : SV) : UInt64 := if (fX6_sum v 26) = 0 then (FP.dconst1) else (FP.ddiv (FP.i2d ((fX6_sum v 26) - (fX6_sum v 50))) (FP.i2d (fX6_sum v 26)))
def fX6_darkness (v : SV) : SV × UInt64 := (mkM (v 0) (v 1) (v 2) (v 3) (v 4) (v 5) (v 6) (v 7) (v 8 0) (v 8 1) 0 (v 8 3) (v 8 4) (v 8 5) (v 8 6) (v 8 7) (v 8 8), fX6_share (mkM (v 0) (v 1) (v 2) (v 3) (v 4) (v 5) (v 6) (v 7) (v 8 0) (v 8 1) 0 (v 8 3) (v 8 4) (v 8 5) (v 8 6) (v 8 7) (v 8 8)))
def fX6_mean (v : SV) : UInt32 := FP.fdiv (FP.i2f (fX6_sum v 0)) 1103101952
def fX6_meanHeat (v : SV) : SV × UInt32 := (mkM (v 0) (v 1) (v 2) (v 3) (v 4) (v 5) (v 6) (v 7) (v 8 0) (v 8 1) 0 (v 8 3) (v 8 4) (v 8 5) (v 8 6) (v 8 7) (v 8 8), fX6_mean (mkM (v 0) (v 1) (v 2) (v 3) (v 4) (v 5) (v 6) (v 7) (v 8 0) (v 8 1) 0 (v 8 3) (v 8 4) (v 8 5) (v 8 6) (v 8 7) (v 8 8)))
def fX4_darkShare (v : SV) : UInt64 := if 1 ≤ (v 8 5) then (FP.ddiv (FP.i2d ((v 8 5) - (v 8 6))) (FP.i2d (v 8 5))) else (FP.dconst1)
def tX2_mean_4 (v : SV) (s : Int32) : UInt32 := let y1_4 := s; FP.fdiv (FP.i2f y1_4) 1103101952
def bX2_mean_4 (v : SV) (d4 : Nat) (s : Int32) : Int32 := let y1_4 := s; y1_4 + ((v 0) d4)
def fX2_mean (v : SV) : UInt32 := tX2_mean_4 v (lpF 24 0 (bX2_mean_4 v) 0)
def fJxe99ae_isNaN_b9ae7 (x1 : UInt64) : Int32 := if (Op.cmpValue (FP.dcmp x1 x1) .l) = 0 then (0) else (1)
def fJxe99ae_doubleToLongBits_ccdee (x1 : UInt64) : Int64 := if (fJxe99ae_isNaN_b9ae7 x1) = 0 then (x1.toInt64) else (9221120237041090560)
def fJxf58ca_isNaN_12338 (x1 : UInt32) : Int32 := if (Op.cmpValue (FP.fcmp x1 x1) .l) = 0 then (0) else (1)
def fJxf58ca_floatToIntBits_5c35a (x1 : UInt32) : Int32 := if (fJxf58ca_isNaN_12338 x1) = 0 then (x1.toInt32) else (2143289344)
def fX6_mix (v : SV) (hs : Int64) (x1 : Int64) : Int64 := let w_1 : Int64 := (31 * hs) + x1; w_1
theorem met_WF {l : Launch} {y : MethodName} {ws ws' : List Cond} {rm : Room} {Pc : Array Value → State → Prop} {Qc : Array Value → State → Outcome → State → Prop} {mc ms : Nat} {free : Addr → Prop} {cc : ByteArray} {maxL : Nat} {ret : Option FieldType}
    (hy : plainFor y = true) (hw : ws = Cond.code y cc maxL ret :: ws')
    (body : ∀ p e s m args below meth c s₁, BodyLoose p l y (headSpec ws rm) cc maxL ret e s m args below meth c s₁ → c.maxLocals = maxL → Pc args s →
      W p l e (headSpec ws rm).room s m args below meth c s.heap [] 0 0 (MQ below Qc args s mc ms free) (entryFrame m args maxL)) : Met l y ws rm Pc Qc mc ms free := by
  refine MetFree.of_bodySF (code := cc) (maxLocals := maxL) (ret := ret) hy ?_ ?_
  · intro args s m h hn
    obtain ⟨meth, c, h1, h2, h3, h4, h5, h6, -, -⟩ := Cond.code_spec hn (atoms_spec (ws := ws) h _ (by rw [hw]; exact List.mem_cons_self))
    exact ⟨meth, c, h1, h2, h3, h4, h5, h6⟩
  · intro p e s m args below meth c s₁ B hml hP _
    have hh0 : s₁.heap = s.heap := by rw [B.state]; rfl
    obtain ⟨t, a1, o, b1, b2, b3⟩ := body p e s m args below meth c s₁ B hml hP s₁ hh0 (Stand.of_body B)
    exact ⟨t, o, a1, b1, b2, ⟨b3.1, b3.2⟩⟩
theorem met_ofF {l : Launch} {y : MethodName} {cc : ByteArray} {maxL : Nat} {ret : Option FieldType} {rm : Room} {G : GT} {av : List Value} {B : State → Heap → Prop} {Qc : Array Value → State → Outcome → State → Prop} {mc ms : Nat} {free : Addr → Prop}
    (hy : plainFor y = true) (hn : (lg_sl av).length ≤ maxL)
    (body : ∀ (p : Program) (e : Env) (s : State) (m : MethodId) (below : List Frame) (meth : Method) (c : Code) (ls : Array Slot), CX p s m meth c y cc maxL ret av.toArray → KN G s s.heap → B s s.heap → lv_has ls maxL (lv_args 0 av) → W p l e rm s m av.toArray below meth c s.heap [] 0 0 (MQ below Qc av.toArray s mc ms free) (F0 m 0 ls [])) :
    Met l y (Cond.code y cc maxL ret :: bigW) rm (BP G av B) Qc mc ms free := by
  refine met_WF (cc := cc) (maxL := maxL) (ret := ret) hy rfl ?_
  intro p e s m args below meth c s₁ Bd hml hv
  obtain ⟨rfl, hK, hB⟩ := hv
  have hts := atoms_spec (ws := Cond.code y cc maxL ret :: bigW) Bd.pre
  rw [lg_entry_eq]
  exact body p e s m below meth c _ ⟨Bd.exec, Bd.bytes, Bd.returns, hml, findClass_of_methodNamed Bd.named, Bd.notSynchronized, fun w hw => hts w (List.mem_cons_of_mem _ hw), (name_of_methodNamed Bd.named Bd.method).1⟩ hK hB (lv_entry av hn)
section ED
variable {p : Program} {l : Launch} {e : Env} {R : Room} {s : State} {m : MethodId} {args : Array Value} {below : List Frame} {meth : Method} {c : Code} {H : Heap} {locs : List Loc} {cells slots : Nat} {A : Nat → Prop}
variable {y0 : MethodName} {cc : ByteArray} {nL : Nat} {pc : Nat} {ls : Array Slot}
theorem eE_d {B1 : Heap → Prop} {F : Option Value} {v : UInt64} (hC : CX p s m meth c y0 cc nL (some .double) args) (hF : F = some (.double v)) (hB : B1 H) (hS : va_S A s.heap H locs) (hdg : decode cc pc = .ok (.dreturn, 1)) : W p l e R s m args below meth c H locs cells slots (MQ below (QE F B1 A) args s cells slots A) (F0 m pc ls [.double v]) := by
  subst hF; exact W.dret hC.1 hC.2.1 hC.2.2.1 (fun t ht _ => ⟨⟨rfl, by rw [ht]; exact hB⟩, hS.F ht⟩) hS.2.2 hdg hC.2.2.2.2.2.1
theorem eE_f {B1 : Heap → Prop} {F : Option Value} {v : UInt32} (hC : CX p s m meth c y0 cc nL (some .float) args) (hF : F = some (.float v)) (hB : B1 H) (hS : va_S A s.heap H locs) (hdg : decode cc pc = .ok (.freturn, 1)) : W p l e R s m args below meth c H locs cells slots (MQ below (QE F B1 A) args s cells slots A) (F0 m pc ls [.float v]) := by
  subst hF; exact W.fret hC.1 hC.2.1 hC.2.2.1 (fun t ht _ => ⟨⟨rfl, by rw [ht]; exact hB⟩, hS.F ht⟩) hS.2.2 hdg hC.2.2.2.2.2.1
end ED
theorem n64_of {r : UInt64} (h : FP.dIsNaN r = false) : vf_n64 r := by
  have h1 := (FP.Core.ne_nan r).mp ((FP.Core.notNaN_iff r).mp h)
  unfold vf_n64
  rw [UInt64.le_iff_toNat_le, UInt64.toNat_and]
  show r.toNat &&& (2 ^ 63 - 1) ≤ 9218868437227405312
  rw [Nat.and_two_pow_sub_one_eq_mod]
  exact h1
theorem n32_of {r : UInt32} (h : FP.fIsNaN r = false) : vf_n32 r := by
  have h1 := (FP.Core.ne_nan32 r).mp ((FP.Core.notNaN_iff32 r).mp h)
  unfold vf_n32
  rw [UInt32.le_iff_toNat_le, UInt32.toNat_and]
  show r.toNat &&& (2 ^ 31 - 1) ≤ 2139095040
  rw [Nat.and_two_pow_sub_one_eq_mod]
  exact h1
theorem i2d_nz {b : Int32} (h : ¬ b = 0) : ¬ FP.Core.DZero (FP.i2d b) := by
  rintro ⟨s, q, e⟩
  have w := FP.Core.l2d_whole (a := b.toInt64) (by
    have := Int32.le_toInt b
    have := Int32.toInt_lt b
    unfold FP.Core.Small53
    rw [Int32.toInt_toInt64]
    omega)
  rw [← FP.Core.i2d_l2d, show FP.Core.i2d b = FP.i2d b from rfl, e, Int32.toInt_toInt64] at w
  have w : FP.Core.signed s (0 * 2 ^ q.toNat) = b.toInt * ((2 ^ (-q).toNat : Nat) : Int) := w
  rw [Nat.zero_mul, FP.Core.signed_zero] at w
  rcases Int.mul_eq_zero.mp w.symm with z | z
  · exact h (Int32.toInt_inj.mp z)
  · have := Nat.two_pow_pos (-q).toNat
    omega
theorem i2d_notNaN (b : Int32) : FP.dIsNaN (FP.i2d b) = false := by
  show FP.Core.dIsNaN (FP.Core.i2d b) = false
  rw [FP.Core.i2d_l2d]
  exact FP.Core.l2d_notNaN _
theorem i2d_fin' (b : Int32) : FP.Core.DFin (FP.i2d b) := by
  show FP.Core.DFin (FP.Core.i2d b)
  rw [FP.Core.i2d_l2d]
  exact FP.Core.l2d_fin _
theorem n64_div (a : Int32) {b : Int32} (h : ¬ b = 0) : vf_n64 (FP.ddiv (FP.i2d a) (FP.i2d b)) := n64_of (FP.Core.ddiv_out (i2d_notNaN a) (i2d_fin' b) (i2d_nz h))
theorem v24 : FP.Core.val32 1103101952 = .fin false 12582912 (-19) := by decide +kernel
theorem n32_24 (a : Int32) : vf_n32 (FP.fdiv (FP.i2f a) 1103101952) := by
  refine n32_of (FP.Core.fdiv_out ?_ ⟨_, _, _, v24⟩ ?_)
  · show FP.Core.fIsNaN (FP.Core.i2f a) = false
    rw [FP.Core.i2f_l2f]
    exact FP.Core.l2f_notNaN _
  · rintro ⟨s, q, e⟩
    rw [v24] at e
    cases e
theorem dX6_share_0 : decode cX6_share 0 = .ok (.aload_n 0, 1) := by decide +kernel
theorem dX6_share_1 : decode cX6_share 1 = .ok (.bipush 26, 2) := by decide +kernel
theorem dX6_share_3 : decode cX6_share 3 = .ok (.invokevirtual 118, 3) := by decide +kernel
theorem dX6_share_6 : decode cX6_share 6 = .ok (.istore_n 1, 1) := by decide +kernel
theorem dX6_share_7 : decode cX6_share 7 = .ok (.iload_n 1, 1) := by decide +kernel
theorem dX6_share_8 : decode cX6_share 8 = .ok (.ifCond .ne 7, 3) := by decide +kernel
theorem dX6_share_11 : decode cX6_share 11 = .ok (.dconst 1, 1) := by decide +kernel
theorem dX6_share_12 : decode cX6_share 12 = .ok (.goto 15, 3) := by decide +kernel
theorem dX6_share_15 : decode cX6_share 15 = .ok (.iload_n 1, 1) := by decide +kernel
theorem dX6_share_16 : decode cX6_share 16 = .ok (.aload_n 0, 1) := by decide +kernel
theorem dX6_share_17 : decode cX6_share 17 = .ok (.bipush 50, 2) := by decide +kernel
theorem dX6_share_19 : decode cX6_share 19 = .ok (.invokevirtual 118, 3) := by decide +kernel
theorem dX6_share_22 : decode cX6_share 22 = .ok (.isub, 1) := by decide +kernel
theorem dX6_share_23 : decode cX6_share 23 = .ok (.i2d, 1) := by decide +kernel
theorem dX6_share_24 : decode cX6_share 24 = .ok (.iload_n 1, 1) := by decide +kernel
theorem dX6_share_25 : decode cX6_share 25 = .ok (.i2d, 1) := by decide +kernel
theorem dX6_share_26 : decode cX6_share 26 = .ok (.ddiv, 1) := by decide +kernel
theorem dX6_share_27 : decode cX6_share 27 = .ok (.dreturn, 1) := by decide +kernel
set_option maxHeartbeats 1000000 in
set_option maxRecDepth 100000 in
theorem c_X6_share (l : Launch) (G : GT) (q : Nat → Nat) (v : SV) (hs : Int64) : Met l yX6_share (Cond.code yX6_share cX6_share 2 (some .double) :: bigW) ({ frames := 1, cells := 0, slots := 0, locals := 23 }) (BP G [.ref (q 0)] (fun U H => PW G (mdW G q v hs) H)) (QP (.double (fX6_share v))) 0 0 (fun _ => False) := by
  refine met_of (by decide) (Nat.le_of_ble_eq_true rfl) ?_
  intro p e s m below meth c ls hC hKN hB0 hl
  have hP := hB0
  have hl : lv_has ls 2 [(0, .ref (q 0))] := hl
  have hg : fX6_share v = fX6_share v := rfl
  refine lv_aload_n hC.1 hC.2.1 dX6_share_0 rfl (lv_at hl 0 rfl) ?_
  refine lv_bipush (v := 26) hC.1 hC.2.1 dX6_share_1 (by decide +kernel) ?_
  refine runP (rV (B := fun U H => PW G (mdW G q v hs) H) (As := [.int 26]) (rest := []) hC mwX6_sum (c_X6_sum l G q v hs 26 (by decide)) iwX6_sum wd_1039 ⟨rfl, rfl⟩ ⟨Nat.le_of_ble_eq_true rfl, Nat.le_of_ble_eq_true rfl⟩ (stb_h (fun H => PW G (mdW G q v hs) H)) hKN hP (va_recv hKN.k hP (ci := 6) (q0 := 0) rfl rfl) rfl hl.1 rfl (Nat.le_of_ble_eq_true rfl) dX6_share_3 ⟨Nat.zero_le _, Nat.zero_le _⟩) ?_
  refine lv_istore_n (lv' := [(1, .int (fX6_sum v 26)), (0, .ref (q 0))]) hC.1 hC.2.1 dX6_share_6 rfl hl (by decide) rfl (fun ls hl => ?_)
  refine lv_iload_n hC.1 hC.2.1 dX6_share_7 rfl (lv_at hl 0 rfl) ?_
  refine lv_if_ne (tgt := 15) hC.1 hC.2.1 dX6_share_8 (by decide) (fun k8 => ?_) (fun k8 => ?_)
  · refine lv_iload_n hC.1 hC.2.1 dX6_share_15 rfl (lv_at hl 0 rfl) ?_
    refine lv_aload_n hC.1 hC.2.1 dX6_share_16 rfl (lv_at hl 1 rfl) ?_
    refine lv_bipush (v := 50) hC.1 hC.2.1 dX6_share_17 (by decide +kernel) ?_
    refine runP (rV (B := fun U H => PW G (mdW G q v hs) H) (As := [.int 50]) (rest := [.int (fX6_sum v 26)]) hC mwX6_sum (c_X6_sum l G q v hs 50 (by decide)) iwX6_sum wd_1039 ⟨rfl, rfl⟩ ⟨Nat.le_of_ble_eq_true rfl, Nat.le_of_ble_eq_true rfl⟩ (stb_h (fun H => PW G (mdW G q v hs) H)) hKN hP (va_recv hKN.k hP (ci := 6) (q0 := 0) rfl rfl) rfl hl.1 rfl (Nat.le_of_ble_eq_true rfl) dX6_share_19 ⟨Nat.zero_le _, Nat.zero_le _⟩) ?_
    refine lv_isub hC.1 hC.2.1 dX6_share_22 ?_
    refine lv_i2d hC.1 hC.2.1 dX6_share_23 ?_
    refine lv_iload_n hC.1 hC.2.1 dX6_share_24 rfl (lv_at hl 0 rfl) ?_
    refine lv_i2d hC.1 hC.2.1 dX6_share_25 ?_
    refine lv_ddiv hC.1 hC.2.1 dX6_share_26 (n64_div _ k8) ?_
    have e_1 : fX6_share v = FP.ddiv (FP.i2d ((fX6_sum v 26) - (fX6_sum v 50))) (FP.i2d (fX6_sum v 26)) := by delta fX6_share; exact Eq.trans (if_neg k8) rfl
    have hg : fX6_share v = FP.ddiv (FP.i2d ((fX6_sum v 26) - (fX6_sum v 50))) (FP.i2d (fX6_sum v 26)) := by have e2 := congrArg (fun z => z) e_1; exact hg.trans e2
    exact eP_d hC (congrArg Value.double hg) dX6_share_27
  · refine lv_dconst1 hC.1 hC.2.1 dX6_share_11 ?_
    refine lv_goto (tgt := 27) hC.1 hC.2.1 dX6_share_12 (by decide) ?_
    have e_2 : fX6_share v = FP.dconst1 := by delta fX6_share; exact Eq.trans (if_pos k8) rfl
    have hg : fX6_share v = FP.dconst1 := by have e2 := congrArg (fun z => z) e_2; exact hg.trans e2
    exact eP_d hC (congrArg Value.double hg) dX6_share_27

theorem dX6_darkness_0 : decode cX6_darkness 0 = .ok (.aload_n 0, 1) := by decide +kernel
theorem dX6_darkness_1 : decode cX6_darkness 1 = .ok (.iconst 0, 1) := by decide +kernel
theorem dX6_darkness_2 : decode cX6_darkness 2 = .ok (.putfield 34, 3) := by decide +kernel
theorem dX6_darkness_5 : decode cX6_darkness 5 = .ok (.aload_n 0, 1) := by decide +kernel
theorem dX6_darkness_6 : decode cX6_darkness 6 = .ok (.invokevirtual 207, 3) := by decide +kernel
theorem dX6_darkness_9 : decode cX6_darkness 9 = .ok (.dreturn, 1) := by decide +kernel
set_option maxHeartbeats 1000000 in
set_option maxRecDepth 100000 in
theorem c_X6_darkness (l : Launch) (G : GT) (q : Nat → Nat) (v : SV) (hs : Int64) (hq : mdD G q) : Met l yX6_darkness (Cond.code yX6_darkness cX6_darkness 1 (some .double) :: bigW) ({ frames := 2, cells := 0, slots := 0, locals := 44 }) (BP G [.ref (q 0)] (fun U H => PW G (mdW G q v hs) H)) (QE (some (.double (fX6_darkness v).2)) (fun H => PW G (mdW G q (fX6_darkness v).1 hs) H) (mdA q)) 0 0 (mdA q) := by
  refine met_of (by decide) (Nat.le_of_ble_eq_true rfl) ?_
  intro p e s m below meth c ls hC hKN hB0 hl
  have hP := hB0
  have hl : lv_has ls 1 [(0, .ref (q 0))] := hl
  have hS : va_S (mdA q) s.heap s.heap [] := va_S.rf
  have hAL : ∀ a, (mdA q) a → gL G ≤ a := mdD_low hq
  have hg : fX6_darkness v = fX6_darkness v := rfl
  refine lv_aload_n hC.1 hC.2.1 dX6_darkness_0 rfl (lv_at hl 0 rfl) ?_
  refine lv_iconst (v := 0) hC.1 hC.2.1 dX6_darkness_1 (by decide) ?_
  refine pf (v := .int 0) (tv := .int) hC fwX6 hKN hP (mdD_D hq v hs) hS 0 rfl rfl 6 (by decide) rfl wd_893 rfl rfl rfl (Nat.le_of_ble_eq_true rfl) dX6_darkness_2 (fun H locs hq_1 hS => ?_)
  have hP : PW G (mdW G q (mkM (v 0) (v 1) (v 2) (v 3) (v 4) (v 5) (v 6) (v 7) (v 8 0) (v 8 1) 0 (v 8 3) (v 8 4) (v 8 5) (v 8 6) (v 8 7) (v 8 8)) hs) H := hq_1
  refine lv_aload_n hC.1 hC.2.1 dX6_darkness_5 rfl (lv_at hl 0 rfl) ?_
  refine runP (rV (B := fun U H => PW G (mdW G q (mkM (v 0) (v 1) (v 2) (v 3) (v 4) (v 5) (v 6) (v 7) (v 8 0) (v 8 1) 0 (v 8 3) (v 8 4) (v 8 5) (v 8 6) (v 8 7) (v 8 8)) hs) H) (As := []) (rest := []) hC mwX6_share (c_X6_share l G q (mkM (v 0) (v 1) (v 2) (v 3) (v 4) (v 5) (v 6) (v 7) (v 8 0) (v 8 1) 0 (v 8 3) (v 8 4) (v 8 5) (v 8 6) (v 8 7) (v 8 8)) hs) iwX6_share wd_1202 ⟨rfl, rfl⟩ ⟨Nat.le_of_ble_eq_true rfl, Nat.le_of_ble_eq_true rfl⟩ (stb_h (fun H => PW G (mdW G q (mkM (v 0) (v 1) (v 2) (v 3) (v 4) (v 5) (v 6) (v 7) (v 8 0) (v 8 1) 0 (v 8 3) (v 8 4) (v 8 5) (v 8 6) (v 8 7) (v 8 8)) hs) H)) (hKN.go hAL hS) hP (va_recv (hKN.go hAL hS).k hP (ci := 6) (q0 := 0) rfl rfl) rfl hl.1 rfl (Nat.le_of_ble_eq_true rfl) dX6_darkness_6 ⟨Nat.zero_le _, Nat.zero_le _⟩) ?_
  have e_2 : fX6_darkness v = (mkM (v 0) (v 1) (v 2) (v 3) (v 4) (v 5) (v 6) (v 7) (v 8 0) (v 8 1) 0 (v 8 3) (v 8 4) (v 8 5) (v 8 6) (v 8 7) (v 8 8), fX6_share (mkM (v 0) (v 1) (v 2) (v 3) (v 4) (v 5) (v 6) (v 7) (v 8 0) (v 8 1) 0 (v 8 3) (v 8 4) (v 8 5) (v 8 6) (v 8 7) (v 8 8))) := by delta fX6_darkness; exact rfl
  have hg : fX6_darkness v = (mkM (v 0) (v 1) (v 2) (v 3) (v 4) (v 5) (v 6) (v 7) (v 8 0) (v 8 1) 0 (v 8 3) (v 8 4) (v 8 5) (v 8 6) (v 8 7) (v 8 8), fX6_share (mkM (v 0) (v 1) (v 2) (v 3) (v 4) (v 5) (v 6) (v 7) (v 8 0) (v 8 1) 0 (v 8 3) (v 8 4) (v 8 5) (v 8 6) (v 8 7) (v 8 8))) := by have e2 := congrArg (fun z => z) e_2; exact hg.trans e2
  exact eE_d hC (by rw [hg]) (by show PW G (mdW G q (fX6_darkness v).1 hs) H; rw [hg]; exact hP) hS dX6_darkness_9

theorem dX6_mean_0 : decode cX6_mean 0 = .ok (.aload_n 0, 1) := by decide +kernel
theorem dX6_mean_1 : decode cX6_mean 1 = .ok (.iconst 0, 1) := by decide +kernel
theorem dX6_mean_2 : decode cX6_mean 2 = .ok (.invokevirtual 118, 3) := by decide +kernel
theorem dX6_mean_5 : decode cX6_mean 5 = .ok (.i2f, 1) := by decide +kernel
theorem dX6_mean_6 : decode cX6_mean 6 = .ok (.ldc 211, 2) := by decide +kernel
theorem dX6_mean_8 : decode cX6_mean 8 = .ok (.fdiv, 1) := by decide +kernel
theorem dX6_mean_9 : decode cX6_mean 9 = .ok (.freturn, 1) := by decide +kernel
set_option maxHeartbeats 1000000 in
set_option maxRecDepth 100000 in
theorem c_X6_mean (l : Launch) (G : GT) (q : Nat → Nat) (v : SV) (hs : Int64) : Met l yX6_mean (Cond.code yX6_mean cX6_mean 1 (some .float) :: bigW) ({ frames := 1, cells := 0, slots := 0, locals := 23 }) (BP G [.ref (q 0)] (fun U H => PW G (mdW G q v hs) H)) (QP (.float (fX6_mean v))) 0 0 (fun _ => False) := by
  refine met_of (by decide) (Nat.le_of_ble_eq_true rfl) ?_
  intro p e s m below meth c ls hC hKN hB0 hl
  have hP := hB0
  have hl : lv_has ls 1 [(0, .ref (q 0))] := hl
  have hg : fX6_mean v = fX6_mean v := rfl
  refine lv_aload_n hC.1 hC.2.1 dX6_mean_0 rfl (lv_at hl 0 rfl) ?_
  refine lv_iconst (v := 0) hC.1 hC.2.1 dX6_mean_1 (by decide) ?_
  refine runP (rV (B := fun U H => PW G (mdW G q v hs) H) (As := [.int 0]) (rest := []) hC mwX6_sum (c_X6_sum l G q v hs 0 (by decide)) iwX6_sum wd_1039 ⟨rfl, rfl⟩ ⟨Nat.le_of_ble_eq_true rfl, Nat.le_of_ble_eq_true rfl⟩ (stb_h (fun H => PW G (mdW G q v hs) H)) hKN hP (va_recv hKN.k hP (ci := 6) (q0 := 0) rfl rfl) rfl hl.1 rfl (Nat.le_of_ble_eq_true rfl) dX6_mean_2 ⟨Nat.zero_le _, Nat.zero_le _⟩) ?_
  refine lv_i2f hC.1 hC.2.1 dX6_mean_5 ?_
  refine lv_ldcf (v := 1103101952) hC.1 hC.2.1 hC.2.2.2.2.1 (hC.2.2.2.2.2.2.1 _ wd_1214) dX6_mean_6 ?_
  refine lv_fdiv hC.1 hC.2.1 dX6_mean_8 (n32_24 _) ?_
  have e_1 : fX6_mean v = FP.fdiv (FP.i2f (fX6_sum v 0)) 1103101952 := by delta fX6_mean; exact rfl
  have hg : fX6_mean v = FP.fdiv (FP.i2f (fX6_sum v 0)) 1103101952 := by have e2 := congrArg (fun z => z) e_1; exact hg.trans e2
  exact eP_f hC (congrArg Value.float hg) dX6_mean_9

theorem dX6_meanHeat_0 : decode cX6_meanHeat 0 = .ok (.aload_n 0, 1) := by decide +kernel
theorem dX6_meanHeat_1 : decode cX6_meanHeat 1 = .ok (.iconst 0, 1) := by decide +kernel
theorem dX6_meanHeat_2 : decode cX6_meanHeat 2 = .ok (.putfield 34, 3) := by decide +kernel
theorem dX6_meanHeat_5 : decode cX6_meanHeat 5 = .ok (.aload_n 0, 1) := by decide +kernel
theorem dX6_meanHeat_6 : decode cX6_meanHeat 6 = .ok (.invokevirtual 212, 3) := by decide +kernel
theorem dX6_meanHeat_9 : decode cX6_meanHeat 9 = .ok (.freturn, 1) := by decide +kernel
set_option maxHeartbeats 1000000 in
set_option maxRecDepth 100000 in
theorem c_X6_meanHeat (l : Launch) (G : GT) (q : Nat → Nat) (v : SV) (hs : Int64) (hq : mdD G q) : Met l yX6_meanHeat (Cond.code yX6_meanHeat cX6_meanHeat 1 (some .float) :: bigW) ({ frames := 2, cells := 0, slots := 0, locals := 43 }) (BP G [.ref (q 0)] (fun U H => PW G (mdW G q v hs) H)) (QE (some (.float (fX6_meanHeat v).2)) (fun H => PW G (mdW G q (fX6_meanHeat v).1 hs) H) (mdA q)) 0 0 (mdA q) := by
  refine met_of (by decide) (Nat.le_of_ble_eq_true rfl) ?_
  intro p e s m below meth c ls hC hKN hB0 hl
  have hP := hB0
  have hl : lv_has ls 1 [(0, .ref (q 0))] := hl
  have hS : va_S (mdA q) s.heap s.heap [] := va_S.rf
  have hAL : ∀ a, (mdA q) a → gL G ≤ a := mdD_low hq
  have hg : fX6_meanHeat v = fX6_meanHeat v := rfl
  refine lv_aload_n hC.1 hC.2.1 dX6_meanHeat_0 rfl (lv_at hl 0 rfl) ?_
  refine lv_iconst (v := 0) hC.1 hC.2.1 dX6_meanHeat_1 (by decide) ?_
  refine pf (v := .int 0) (tv := .int) hC fwX6 hKN hP (mdD_D hq v hs) hS 0 rfl rfl 6 (by decide) rfl wd_893 rfl rfl rfl (Nat.le_of_ble_eq_true rfl) dX6_meanHeat_2 (fun H locs hq_1 hS => ?_)
  have hP : PW G (mdW G q (mkM (v 0) (v 1) (v 2) (v 3) (v 4) (v 5) (v 6) (v 7) (v 8 0) (v 8 1) 0 (v 8 3) (v 8 4) (v 8 5) (v 8 6) (v 8 7) (v 8 8)) hs) H := hq_1
  refine lv_aload_n hC.1 hC.2.1 dX6_meanHeat_5 rfl (lv_at hl 0 rfl) ?_
  refine runP (rV (B := fun U H => PW G (mdW G q (mkM (v 0) (v 1) (v 2) (v 3) (v 4) (v 5) (v 6) (v 7) (v 8 0) (v 8 1) 0 (v 8 3) (v 8 4) (v 8 5) (v 8 6) (v 8 7) (v 8 8)) hs) H) (As := []) (rest := []) hC mwX6_mean (c_X6_mean l G q (mkM (v 0) (v 1) (v 2) (v 3) (v 4) (v 5) (v 6) (v 7) (v 8 0) (v 8 1) 0 (v 8 3) (v 8 4) (v 8 5) (v 8 6) (v 8 7) (v 8 8)) hs) iwX6_mean wd_1210 ⟨rfl, rfl⟩ ⟨Nat.le_of_ble_eq_true rfl, Nat.le_of_ble_eq_true rfl⟩ (stb_h (fun H => PW G (mdW G q (mkM (v 0) (v 1) (v 2) (v 3) (v 4) (v 5) (v 6) (v 7) (v 8 0) (v 8 1) 0 (v 8 3) (v 8 4) (v 8 5) (v 8 6) (v 8 7) (v 8 8)) hs) H)) (hKN.go hAL hS) hP (va_recv (hKN.go hAL hS).k hP (ci := 6) (q0 := 0) rfl rfl) rfl hl.1 rfl (Nat.le_of_ble_eq_true rfl) dX6_meanHeat_6 ⟨Nat.zero_le _, Nat.zero_le _⟩) ?_
  have e_2 : fX6_meanHeat v = (mkM (v 0) (v 1) (v 2) (v 3) (v 4) (v 5) (v 6) (v 7) (v 8 0) (v 8 1) 0 (v 8 3) (v 8 4) (v 8 5) (v 8 6) (v 8 7) (v 8 8), fX6_mean (mkM (v 0) (v 1) (v 2) (v 3) (v 4) (v 5) (v 6) (v 7) (v 8 0) (v 8 1) 0 (v 8 3) (v 8 4) (v 8 5) (v 8 6) (v 8 7) (v 8 8))) := by delta fX6_meanHeat; exact rfl
  have hg : fX6_meanHeat v = (mkM (v 0) (v 1) (v 2) (v 3) (v 4) (v 5) (v 6) (v 7) (v 8 0) (v 8 1) 0 (v 8 3) (v 8 4) (v 8 5) (v 8 6) (v 8 7) (v 8 8), fX6_mean (mkM (v 0) (v 1) (v 2) (v 3) (v 4) (v 5) (v 6) (v 7) (v 8 0) (v 8 1) 0 (v 8 3) (v 8 4) (v 8 5) (v 8 6) (v 8 7) (v 8 8))) := by have e2 := congrArg (fun z => z) e_2; exact hg.trans e2
  exact eE_f hC (by rw [hg]) (by show PW G (mdW G q (fX6_meanHeat v).1 hs) H; rw [hg]; exact hP) hS dX6_meanHeat_9

theorem dX4_darkShare_0 : decode cX4_darkShare 0 = .ok (.aload_n 0, 1) := by decide +kernel
theorem dX4_darkShare_1 : decode cX4_darkShare 1 = .ok (.getfield 31, 3) := by decide +kernel
theorem dX4_darkShare_4 : decode cX4_darkShare 4 = .ok (.iconst 1, 1) := by decide +kernel
theorem dX4_darkShare_5 : decode cX4_darkShare 5 = .ok (.if_icmp .ge 7, 3) := by decide +kernel
theorem dX4_darkShare_8 : decode cX4_darkShare 8 = .ok (.dconst 1, 1) := by decide +kernel
theorem dX4_darkShare_9 : decode cX4_darkShare 9 = .ok (.goto 19, 3) := by decide +kernel
theorem dX4_darkShare_12 : decode cX4_darkShare 12 = .ok (.aload_n 0, 1) := by decide +kernel
theorem dX4_darkShare_13 : decode cX4_darkShare 13 = .ok (.getfield 31, 3) := by decide +kernel
theorem dX4_darkShare_16 : decode cX4_darkShare 16 = .ok (.aload_n 0, 1) := by decide +kernel
theorem dX4_darkShare_17 : decode cX4_darkShare 17 = .ok (.getfield 34, 3) := by decide +kernel
theorem dX4_darkShare_20 : decode cX4_darkShare 20 = .ok (.isub, 1) := by decide +kernel
theorem dX4_darkShare_21 : decode cX4_darkShare 21 = .ok (.i2d, 1) := by decide +kernel
theorem dX4_darkShare_22 : decode cX4_darkShare 22 = .ok (.aload_n 0, 1) := by decide +kernel
theorem dX4_darkShare_23 : decode cX4_darkShare 23 = .ok (.getfield 31, 3) := by decide +kernel
theorem dX4_darkShare_26 : decode cX4_darkShare 26 = .ok (.i2d, 1) := by decide +kernel
theorem dX4_darkShare_27 : decode cX4_darkShare 27 = .ok (.ddiv, 1) := by decide +kernel
theorem dX4_darkShare_28 : decode cX4_darkShare 28 = .ok (.dreturn, 1) := by decide +kernel
set_option maxHeartbeats 1000000 in
set_option maxRecDepth 100000 in
theorem c_X4_darkShare (l : Launch) (G : GT) (q : Nat → Nat) (v : SV) : Met l yX4_darkShare (Cond.code yX4_darkShare cX4_darkShare 1 (some .double) :: bigW) ({ frames := 0, cells := 0, slots := 0, locals := 0 }) (BP G [.ref (q 8)] (fun U H => PW G (stW G q v) H)) (QP (.double (fX4_darkShare v))) 0 0 (fun _ => False) := by
  refine met_of (by decide) (Nat.le_of_ble_eq_true rfl) ?_
  intro p e s m below meth c ls hC hKN hB0 hl
  have hP := hB0
  have hl : lv_has ls 1 [(0, .ref (q 8))] := hl
  have hg : fX4_darkShare v = fX4_darkShare v := rfl
  refine lv_aload_n hC.1 hC.2.1 dX4_darkShare_0 rfl (lv_at hl 0 rfl) ?_
  refine gf (v := .int (v 8 5)) hC fwX4 hKN hP 8 rfl rfl 6 (by decide) rfl wd_90 rfl dX4_darkShare_1 ?_
  refine lv_iconst (v := 1) hC.1 hC.2.1 dX4_darkShare_4 (by decide) ?_
  refine lv_icmp_ge (tgt := 12) hC.1 hC.2.1 dX4_darkShare_5 (by decide) (fun k5 => ?_) (fun k5 => ?_)
  · refine lv_aload_n hC.1 hC.2.1 dX4_darkShare_12 rfl (lv_at hl 0 rfl) ?_
    refine gf (v := .int (v 8 5)) hC fwX4 hKN hP 8 rfl rfl 6 (by decide) rfl wd_90 rfl dX4_darkShare_13 ?_
    refine lv_aload_n hC.1 hC.2.1 dX4_darkShare_16 rfl (lv_at hl 0 rfl) ?_
    refine gf (v := .int (v 8 6)) hC fwX4 hKN hP 8 rfl rfl 7 (by decide) rfl wd_92 rfl dX4_darkShare_17 ?_
    refine lv_isub hC.1 hC.2.1 dX4_darkShare_20 ?_
    refine lv_i2d hC.1 hC.2.1 dX4_darkShare_21 ?_
    refine lv_aload_n hC.1 hC.2.1 dX4_darkShare_22 rfl (lv_at hl 0 rfl) ?_
    refine gf (v := .int (v 8 5)) hC fwX4 hKN hP 8 rfl rfl 6 (by decide) rfl wd_90 rfl dX4_darkShare_23 ?_
    refine lv_i2d hC.1 hC.2.1 dX4_darkShare_26 ?_
    refine lv_ddiv hC.1 hC.2.1 dX4_darkShare_27 (n64_div _ (fun h => by rw [h] at k5; exact absurd k5 (by decide))) ?_
    have e_1 : fX4_darkShare v = FP.ddiv (FP.i2d ((v 8 5) - (v 8 6))) (FP.i2d (v 8 5)) := by delta fX4_darkShare; exact Eq.trans (if_pos k5) rfl
    have hg : fX4_darkShare v = FP.ddiv (FP.i2d ((v 8 5) - (v 8 6))) (FP.i2d (v 8 5)) := by have e2 := congrArg (fun z => z) e_1; exact hg.trans e2
    exact eP_d hC (congrArg Value.double hg) dX4_darkShare_28
  · refine lv_dconst1 hC.1 hC.2.1 dX4_darkShare_8 ?_
    refine lv_goto (tgt := 28) hC.1 hC.2.1 dX4_darkShare_9 (by decide) ?_
    have e_2 : fX4_darkShare v = FP.dconst1 := by delta fX4_darkShare; exact Eq.trans (if_neg k5) rfl
    have hg : fX4_darkShare v = FP.dconst1 := by have e2 := congrArg (fun z => z) e_2; exact hg.trans e2
    exact eP_d hC (congrArg Value.double hg) dX4_darkShare_28

theorem dX2_mean_0 : decode cX2_mean 0 = .ok (.iconst 0, 1) := by decide +kernel
theorem dX2_mean_1 : decode cX2_mean 1 = .ok (.istore_n 1, 1) := by decide +kernel
theorem dX2_mean_2 : decode cX2_mean 2 = .ok (.iconst 0, 1) := by decide +kernel
theorem dX2_mean_3 : decode cX2_mean 3 = .ok (.istore_n 2, 1) := by decide +kernel
theorem dX2_mean_4 : decode cX2_mean 4 = .ok (.iload_n 2, 1) := by decide +kernel
theorem dX2_mean_5 : decode cX2_mean 5 = .ok (.aload_n 0, 1) := by decide +kernel
theorem dX2_mean_6 : decode cX2_mean 6 = .ok (.getfield 9, 3) := by decide +kernel
theorem dX2_mean_9 : decode cX2_mean 9 = .ok (.arraylength, 1) := by decide +kernel
theorem dX2_mean_10 : decode cX2_mean 10 = .ok (.if_icmp .ge 18, 3) := by decide +kernel
theorem dX2_mean_13 : decode cX2_mean 13 = .ok (.iload_n 1, 1) := by decide +kernel
theorem dX2_mean_14 : decode cX2_mean 14 = .ok (.aload_n 0, 1) := by decide +kernel
theorem dX2_mean_15 : decode cX2_mean 15 = .ok (.getfield 9, 3) := by decide +kernel
theorem dX2_mean_18 : decode cX2_mean 18 = .ok (.iload_n 2, 1) := by decide +kernel
theorem dX2_mean_19 : decode cX2_mean 19 = .ok (.iaload, 1) := by decide +kernel
theorem dX2_mean_20 : decode cX2_mean 20 = .ok (.iadd, 1) := by decide +kernel
theorem dX2_mean_21 : decode cX2_mean 21 = .ok (.istore_n 1, 1) := by decide +kernel
theorem dX2_mean_22 : decode cX2_mean 22 = .ok (.iinc 2 1, 3) := by decide +kernel
theorem dX2_mean_25 : decode cX2_mean 25 = .ok (.goto (-21), 3) := by decide +kernel
theorem dX2_mean_28 : decode cX2_mean 28 = .ok (.iload_n 1, 1) := by decide +kernel
theorem dX2_mean_29 : decode cX2_mean 29 = .ok (.i2f, 1) := by decide +kernel
theorem dX2_mean_30 : decode cX2_mean 30 = .ok (.ldc 165, 2) := by decide +kernel
theorem dX2_mean_32 : decode cX2_mean 32 = .ok (.fdiv, 1) := by decide +kernel
theorem dX2_mean_33 : decode cX2_mean 33 = .ok (.freturn, 1) := by decide +kernel
set_option maxHeartbeats 1000000 in
set_option maxRecDepth 100000 in
theorem c_X2_mean (l : Launch) (G : GT) (q : Nat → Nat) (v : SV) : Met l yX2_mean (Cond.code yX2_mean cX2_mean 3 (some .float) :: bigW) ({ frames := 0, cells := 0, slots := 0, locals := 0 }) (BP G [.ref (q 0)] (fun U H => PW G (stW G q v) H)) (QP (.float (fX2_mean v))) 0 0 (fun _ => False) := by
  refine met_of (by decide) (Nat.le_of_ble_eq_true rfl) ?_
  intro p e s m below meth c ls hC hKN hB0 hl
  have hP := hB0
  have hl : lv_has ls 3 [(0, .ref (q 0))] := hl
  have hg : fX2_mean v = fX2_mean v := rfl
  refine lv_iconst (v := 0) hC.1 hC.2.1 dX2_mean_0 (by decide) ?_
  refine lv_istore_n (lv' := [(1, .int 0), (0, .ref (q 0))]) hC.1 hC.2.1 dX2_mean_1 rfl hl (by decide) rfl (fun ls hl => ?_)
  refine lv_iconst (v := 0) hC.1 hC.2.1 dX2_mean_2 (by decide) ?_
  refine lv_istore_n (lv' := [(2, .int 0), (1, .int 0), (0, .ref (q 0))]) hC.1 hC.2.1 dX2_mean_3 rfl hl (by decide) rfl (fun ls hl => ?_)
  have A4 : ∀ (y1_4 : Int32), fX2_mean v = (tX2_mean_4 v y1_4) → ∀ (ls : Array Slot), lv_has ls 3 [(1, .int y1_4)] → W p l e ({ frames := 0, cells := 0, slots := 0, locals := 0 }) s m ([.ref (q 0)] : List Value).toArray below meth c s.heap [] 0 0 (MQ below (QP (.float (fX2_mean v))) ([.ref (q 0)] : List Value).toArray s 0 0 (fun _ => False)) (F0 m 28 ls []) := by
    intro  y1_4 hg ls hl
    refine lv_iload_n hC.1 hC.2.1 dX2_mean_28 rfl (lv_at hl 0 rfl) ?_
    refine lv_i2f hC.1 hC.2.1 dX2_mean_29 ?_
    refine lv_ldcf (v := 1103101952) hC.1 hC.2.1 hC.2.2.2.2.1 (hC.2.2.2.2.2.2.1 _ wd_394) dX2_mean_30 ?_
    refine lv_fdiv hC.1 hC.2.1 dX2_mean_32 (n32_24 _) ?_
    have e_1 : tX2_mean_4 v y1_4 = FP.fdiv (FP.i2f y1_4) 1103101952 := by delta tX2_mean_4; exact rfl
    have hg : fX2_mean v = FP.fdiv (FP.i2f y1_4) 1103101952 := by have e2 := congrArg (fun z => z) e_1; exact hg.trans e2
    exact eP_f hC (congrArg Value.float hg) dX2_mean_33
  have L4 : ∀ (n4 d4 : Nat), ∀ (y1_4 : Int32), d4 + n4 = 24 → fX2_mean v = (tX2_mean_4 v (lpF n4 d4 (bX2_mean_4 v) y1_4)) → ∀ (ls : Array Slot), lv_has ls 3 [(0, .ref (q 0)), (1, .int y1_4), (2, .int (nI d4))] → W p l e ({ frames := 0, cells := 0, slots := 0, locals := 0 }) s m ([.ref (q 0)] : List Value).toArray below meth c s.heap [] 0 0 (MQ below (QP (.float (fX2_mean v))) ([.ref (q 0)] : List Value).toArray s 0 0 (fun _ => False)) (F0 m 4 ls []) := by
    intro n4
    induction n4 with
    | zero =>
      intro d4 y1_4 hd hg ls hl
      refine lv_iload_n hC.1 hC.2.1 dX2_mean_4 rfl (lv_at hl 2 rfl) ?_
      refine lv_aload_n hC.1 hC.2.1 dX2_mean_5 rfl (lv_at hl 0 rfl) ?_
      refine gf (v := .ref (q 1)) hC fwX2 hKN hP 0 rfl rfl 0 (by decide) rfl wd_116 rfl dX2_mean_6 ?_
      refine alen_n hC hKN hP 1 rfl dX2_mean_9 ?_
      refine lv_icmp_ge (tgt := 28) hC.1 hC.2.1 dX2_mean_10 (by decide) (fun k10 => ?_) (fun k10 => ?_)
      · exact A4  y1_4 hg _ (lv_sub hl [1] rfl)
      · exact absurd (nI_le (a := 24) (b := d4) (by omega) (by omega)) k10
    | succ n4 ih =>
      intro d4 y1_4 hd hg ls hl
      have hg : fX2_mean v = (tX2_mean_4 v (lpF n4 (d4 + 1) (bX2_mean_4 v) (bX2_mean_4 v d4 y1_4))) := hg
      refine lv_iload_n hC.1 hC.2.1 dX2_mean_4 rfl (lv_at hl 2 rfl) ?_
      refine lv_aload_n hC.1 hC.2.1 dX2_mean_5 rfl (lv_at hl 0 rfl) ?_
      refine gf (v := .ref (q 1)) hC fwX2 hKN hP 0 rfl rfl 0 (by decide) rfl wd_116 rfl dX2_mean_6 ?_
      refine alen_n hC hKN hP 1 rfl dX2_mean_9 ?_
      refine lv_icmp_ge (tgt := 28) hC.1 hC.2.1 dX2_mean_10 (by decide) (fun k10 => ?_) (fun k10 => ?_)
      · exact absurd k10 (nI_ge (a := d4) (b := 24) (by omega) (by omega))
      · refine lv_iload_n hC.1 hC.2.1 dX2_mean_13 rfl (lv_at hl 1 rfl) ?_
        refine lv_aload_n hC.1 hC.2.1 dX2_mean_14 rfl (lv_at hl 0 rfl) ?_
        refine gf (v := .ref (q 1)) hC fwX2 hKN hP 0 rfl rfl 0 (by decide) rfl wd_116 rfl dX2_mean_15 ?_
        refine lv_iload_n hC.1 hC.2.1 dX2_mean_18 rfl (lv_at hl 2 rfl) ?_
        refine iald_k hC hKN hP 1 rfl (n := 24) (f := (v 0)) d4 (rfl) (by omega) (by decide) dX2_mean_19 ?_
        refine lv_iadd hC.1 hC.2.1 dX2_mean_20 ?_
        refine lv_istore_n (lv' := [(1, .int (y1_4 + ((v 0) d4))), (0, .ref (q 0)), (2, .int (nI d4))]) hC.1 hC.2.1 dX2_mean_21 rfl hl (by decide) rfl (fun ls hl => ?_)
        refine lv_iinc (v := nI (d4 + 1)) (lv' := [(2, .int (nI (d4 + 1))), (1, .int (y1_4 + ((v 0) d4))), (0, .ref (q 0))]) hC.1 hC.2.1 dX2_mean_22 hl (k := 2) rfl (nI_1 _) (by decide) rfl (fun ls hl => ?_)
        refine lv_goto (tgt := 4) hC.1 hC.2.1 dX2_mean_25 (by decide) ?_
        have e_2 : bX2_mean_4 v d4 y1_4 = y1_4 + ((v 0) d4) := by delta bX2_mean_4; exact rfl
        have hg : fX2_mean v = (tX2_mean_4 v (lpF n4 (d4 + 1) (bX2_mean_4 v) (y1_4 + ((v 0) d4)))) := by have e2 := congrArg (fun z => (tX2_mean_4 v (lpF n4 (d4 + 1) (bX2_mean_4 v) z))) e_2; exact hg.trans e2
        exact ih (d4 + 1) (y1_4 + ((v 0) d4)) (by omega) hg _ (lv_sub hl [2, 1, 0] rfl)
  have e_3 : fX2_mean v = tX2_mean_4 v (lpF 24 0 (bX2_mean_4 v) 0) := by delta fX2_mean; exact rfl
  have hg : fX2_mean v = (tX2_mean_4 v (lpF 24 0 (bX2_mean_4 v) 0)) := by have e2 := congrArg (fun z => z) e_3; exact hg.trans e2
  exact L4  24 0 0 (by omega) hg _ (lv_sub hl [2, 1, 0] rfl)

theorem dJxe99ae_isNaN_b9ae7_0 : decode cJxe99ae_isNaN_b9ae7 0 = .ok (.dload_n 0, 1) := by decide +kernel
theorem dJxe99ae_isNaN_b9ae7_1 : decode cJxe99ae_isNaN_b9ae7 1 = .ok (.dload_n 0, 1) := by decide +kernel
theorem dJxe99ae_isNaN_b9ae7_2 : decode cJxe99ae_isNaN_b9ae7 2 = .ok (.dcmp .l, 1) := by decide +kernel
theorem dJxe99ae_isNaN_b9ae7_3 : decode cJxe99ae_isNaN_b9ae7 3 = .ok (.ifCond .eq 7, 3) := by decide +kernel
theorem dJxe99ae_isNaN_b9ae7_6 : decode cJxe99ae_isNaN_b9ae7 6 = .ok (.iconst 1, 1) := by decide +kernel
theorem dJxe99ae_isNaN_b9ae7_7 : decode cJxe99ae_isNaN_b9ae7 7 = .ok (.goto 4, 3) := by decide +kernel
theorem dJxe99ae_isNaN_b9ae7_10 : decode cJxe99ae_isNaN_b9ae7 10 = .ok (.iconst 0, 1) := by decide +kernel
theorem dJxe99ae_isNaN_b9ae7_11 : decode cJxe99ae_isNaN_b9ae7 11 = .ok (.ireturn, 1) := by decide +kernel
set_option maxHeartbeats 1000000 in
set_option maxRecDepth 100000 in
theorem c_Jxe99ae_isNaN_b9ae7 (l : Launch) (G : GT) (x1 : UInt64) : Met l yJxe99ae_isNaN_b9ae7 (Cond.code yJxe99ae_isNaN_b9ae7 cJxe99ae_isNaN_b9ae7 2 (some .boolean) :: bigW) ({ frames := 0, cells := 0, slots := 0, locals := 0 }) (BP G [.double x1] (fun U H => True)) (QP (.int (fJxe99ae_isNaN_b9ae7 x1))) 0 0 (fun _ => False) := by
  refine met_of (by decide) (Nat.le_of_ble_eq_true rfl) ?_
  intro p e s m below meth c ls hC hKN hB0 hl
  have hl : lv_has ls 2 [(0, .double x1)] := hl
  have hg : fJxe99ae_isNaN_b9ae7 x1 = fJxe99ae_isNaN_b9ae7 x1 := rfl
  refine lv_dload_n hC.1 hC.2.1 dJxe99ae_isNaN_b9ae7_0 rfl (lv_at hl 0 rfl) ?_
  refine lv_dload_n hC.1 hC.2.1 dJxe99ae_isNaN_b9ae7_1 rfl (lv_at hl 0 rfl) ?_
  refine lv_dcmp hC.1 hC.2.1 dJxe99ae_isNaN_b9ae7_2 ?_
  refine lv_if_eq (tgt := 10) hC.1 hC.2.1 dJxe99ae_isNaN_b9ae7_3 (by decide) (fun k3 => ?_) (fun k3 => ?_)
  · refine lv_iconst (v := 0) hC.1 hC.2.1 dJxe99ae_isNaN_b9ae7_10 (by decide) ?_
    have e_1 : fJxe99ae_isNaN_b9ae7 x1 = 0 := by delta fJxe99ae_isNaN_b9ae7; exact Eq.trans (if_pos k3) rfl
    have hg : fJxe99ae_isNaN_b9ae7 x1 = 0 := by have e2 := congrArg (fun z => z) e_1; exact hg.trans e2
    exact eP_z hC (congrArg Value.int hg) rfl dJxe99ae_isNaN_b9ae7_11
  · refine lv_iconst (v := 1) hC.1 hC.2.1 dJxe99ae_isNaN_b9ae7_6 (by decide) ?_
    refine lv_goto (tgt := 11) hC.1 hC.2.1 dJxe99ae_isNaN_b9ae7_7 (by decide) ?_
    have e_2 : fJxe99ae_isNaN_b9ae7 x1 = 1 := by delta fJxe99ae_isNaN_b9ae7; exact Eq.trans (if_neg k3) rfl
    have hg : fJxe99ae_isNaN_b9ae7 x1 = 1 := by have e2 := congrArg (fun z => z) e_2; exact hg.trans e2
    exact eP_z hC (congrArg Value.int hg) rfl dJxe99ae_isNaN_b9ae7_11

theorem dJxe99ae_doubleToLongBits_ccdee_0 : decode cJxe99ae_doubleToLongBits_ccdee 0 = .ok (.dload_n 0, 1) := by decide +kernel
theorem dJxe99ae_doubleToLongBits_ccdee_1 : decode cJxe99ae_doubleToLongBits_ccdee 1 = .ok (.invokestatic 122, 3) := by decide +kernel
theorem dJxe99ae_doubleToLongBits_ccdee_4 : decode cJxe99ae_doubleToLongBits_ccdee 4 = .ok (.ifCond .ne 8, 3) := by decide +kernel
theorem dJxe99ae_doubleToLongBits_ccdee_7 : decode cJxe99ae_doubleToLongBits_ccdee 7 = .ok (.dload_n 0, 1) := by decide +kernel
theorem dJxe99ae_doubleToLongBits_ccdee_8 : decode cJxe99ae_doubleToLongBits_ccdee 8 = .ok (.invokestatic 134, 3) := by decide +kernel
theorem dJxe99ae_doubleToLongBits_ccdee_11 : decode cJxe99ae_doubleToLongBits_ccdee 11 = .ok (.lreturn, 1) := by decide +kernel
theorem dJxe99ae_doubleToLongBits_ccdee_12 : decode cJxe99ae_doubleToLongBits_ccdee 12 = .ok (.ldc2_w 137, 3) := by decide +kernel
theorem dJxe99ae_doubleToLongBits_ccdee_15 : decode cJxe99ae_doubleToLongBits_ccdee 15 = .ok (.lreturn, 1) := by decide +kernel
set_option maxHeartbeats 1000000 in
set_option maxRecDepth 100000 in
theorem c_Jxe99ae_doubleToLongBits_ccdee (l : Launch) (G : GT) (x1 : UInt64) : Met l yJxe99ae_doubleToLongBits_ccdee (Cond.code yJxe99ae_doubleToLongBits_ccdee cJxe99ae_doubleToLongBits_ccdee 2 (some .long) :: bigW) ({ frames := 1, cells := 0, slots := 0, locals := 24 }) (BP G [.double x1] (fun U H => True)) (QP (.long (fJxe99ae_doubleToLongBits_ccdee x1))) 0 0 (fun _ => False) := by
  refine met_of (by decide) (Nat.le_of_ble_eq_true rfl) ?_
  intro p e s m below meth c ls hC hKN hB0 hl
  have hl : lv_has ls 2 [(0, .double x1)] := hl
  have hg : fJxe99ae_doubleToLongBits_ccdee x1 = fJxe99ae_doubleToLongBits_ccdee x1 := rfl
  refine lv_dload_n hC.1 hC.2.1 dJxe99ae_doubleToLongBits_ccdee_0 rfl (lv_at hl 0 rfl) ?_
  refine runP (rS (B := fun U H => True) (As := [.double x1]) (rest := []) hC mwJxe99ae_isNaN_b9ae7 (c_Jxe99ae_isNaN_b9ae7 l G x1) wd_1235 wd_1234 ⟨rfl, rfl⟩ ⟨Nat.le_of_ble_eq_true rfl, Nat.le_of_ble_eq_true rfl⟩ (fun _ _ _ _ h => h) hKN trivial rfl hl.1 rfl (Nat.le_of_ble_eq_true rfl) dJxe99ae_doubleToLongBits_ccdee_1 ⟨Nat.zero_le _, Nat.zero_le _⟩) ?_
  refine lv_if_ne (tgt := 12) hC.1 hC.2.1 dJxe99ae_doubleToLongBits_ccdee_4 (by decide) (fun k4 => ?_) (fun k4 => ?_)
  · refine lv_ldc2 (v := 9221120237041090560) hC.1 hC.2.1 hC.2.2.2.2.1 (hC.2.2.2.2.2.2.1 _ wd_1240) dJxe99ae_doubleToLongBits_ccdee_12 ?_
    have e_1 : fJxe99ae_doubleToLongBits_ccdee x1 = 9221120237041090560 := by delta fJxe99ae_doubleToLongBits_ccdee; exact Eq.trans (if_neg k4) rfl
    have hg : fJxe99ae_doubleToLongBits_ccdee x1 = 9221120237041090560 := by have e2 := congrArg (fun z => z) e_1; exact hg.trans e2
    exact eP_l hC (congrArg Value.long hg) dJxe99ae_doubleToLongBits_ccdee_15
  · refine lv_dload_n hC.1 hC.2.1 dJxe99ae_doubleToLongBits_ccdee_7 rfl (lv_at hl 0 rfl) ?_
    refine vn_d2l hC.1 hC.2.1 (hC.2.2.2.1.trans hl.1.symm) hC.2.2.2.2.1 (hC.2.2.2.2.2.2.1 _ wd_1237) (hC.2.2.2.2.2.2.1 _ wd_1239) (hC.2.2.2.2.2.2.1 _ wd_1238) (hC.2.2.2.2.2.2.1 _ wd_21) (Nat.le_of_ble_eq_true rfl) (Nat.le_of_ble_eq_true rfl) dJxe99ae_doubleToLongBits_ccdee_8 ?_
    have e_2 : fJxe99ae_doubleToLongBits_ccdee x1 = x1.toInt64 := by delta fJxe99ae_doubleToLongBits_ccdee; exact Eq.trans (if_pos k4) rfl
    have hg : fJxe99ae_doubleToLongBits_ccdee x1 = x1.toInt64 := by have e2 := congrArg (fun z => z) e_2; exact hg.trans e2
    exact eP_l hC (congrArg Value.long hg) dJxe99ae_doubleToLongBits_ccdee_11

theorem dJxf58ca_isNaN_12338_0 : decode cJxf58ca_isNaN_12338 0 = .ok (.fload_n 0, 1) := by decide +kernel
theorem dJxf58ca_isNaN_12338_1 : decode cJxf58ca_isNaN_12338 1 = .ok (.fload_n 0, 1) := by decide +kernel
theorem dJxf58ca_isNaN_12338_2 : decode cJxf58ca_isNaN_12338 2 = .ok (.fcmp .l, 1) := by decide +kernel
theorem dJxf58ca_isNaN_12338_3 : decode cJxf58ca_isNaN_12338 3 = .ok (.ifCond .eq 7, 3) := by decide +kernel
theorem dJxf58ca_isNaN_12338_6 : decode cJxf58ca_isNaN_12338 6 = .ok (.iconst 1, 1) := by decide +kernel
theorem dJxf58ca_isNaN_12338_7 : decode cJxf58ca_isNaN_12338 7 = .ok (.goto 4, 3) := by decide +kernel
theorem dJxf58ca_isNaN_12338_10 : decode cJxf58ca_isNaN_12338 10 = .ok (.iconst 0, 1) := by decide +kernel
theorem dJxf58ca_isNaN_12338_11 : decode cJxf58ca_isNaN_12338 11 = .ok (.ireturn, 1) := by decide +kernel
set_option maxHeartbeats 1000000 in
set_option maxRecDepth 100000 in
theorem c_Jxf58ca_isNaN_12338 (l : Launch) (G : GT) (x1 : UInt32) : Met l yJxf58ca_isNaN_12338 (Cond.code yJxf58ca_isNaN_12338 cJxf58ca_isNaN_12338 1 (some .boolean) :: bigW) ({ frames := 0, cells := 0, slots := 0, locals := 0 }) (BP G [.float x1] (fun U H => True)) (QP (.int (fJxf58ca_isNaN_12338 x1))) 0 0 (fun _ => False) := by
  refine met_ofF (by decide +kernel) (Nat.le_of_ble_eq_true rfl) ?_
  intro p e s m below meth c ls hC hKN hB0 hl
  have hl : lv_has ls 1 [(0, .float x1)] := hl
  have hg : fJxf58ca_isNaN_12338 x1 = fJxf58ca_isNaN_12338 x1 := rfl
  refine lv_fload_n hC.1 hC.2.1 dJxf58ca_isNaN_12338_0 rfl (lv_at hl 0 rfl) ?_
  refine lv_fload_n hC.1 hC.2.1 dJxf58ca_isNaN_12338_1 rfl (lv_at hl 0 rfl) ?_
  refine lv_fcmp hC.1 hC.2.1 dJxf58ca_isNaN_12338_2 ?_
  refine lv_if_eq (tgt := 10) hC.1 hC.2.1 dJxf58ca_isNaN_12338_3 (by decide) (fun k3 => ?_) (fun k3 => ?_)
  · refine lv_iconst (v := 0) hC.1 hC.2.1 dJxf58ca_isNaN_12338_10 (by decide) ?_
    have e_1 : fJxf58ca_isNaN_12338 x1 = 0 := by delta fJxf58ca_isNaN_12338; exact Eq.trans (if_pos k3) rfl
    have hg : fJxf58ca_isNaN_12338 x1 = 0 := by have e2 := congrArg (fun z => z) e_1; exact hg.trans e2
    exact eP_z hC (congrArg Value.int hg) rfl dJxf58ca_isNaN_12338_11
  · refine lv_iconst (v := 1) hC.1 hC.2.1 dJxf58ca_isNaN_12338_6 (by decide) ?_
    refine lv_goto (tgt := 11) hC.1 hC.2.1 dJxf58ca_isNaN_12338_7 (by decide) ?_
    have e_2 : fJxf58ca_isNaN_12338 x1 = 1 := by delta fJxf58ca_isNaN_12338; exact Eq.trans (if_neg k3) rfl
    have hg : fJxf58ca_isNaN_12338 x1 = 1 := by have e2 := congrArg (fun z => z) e_2; exact hg.trans e2
    exact eP_z hC (congrArg Value.int hg) rfl dJxf58ca_isNaN_12338_11

theorem dJxf58ca_floatToIntBits_5c35a_0 : decode cJxf58ca_floatToIntBits_5c35a 0 = .ok (.fload_n 0, 1) := by decide +kernel
theorem dJxf58ca_floatToIntBits_5c35a_1 : decode cJxf58ca_floatToIntBits_5c35a 1 = .ok (.invokestatic 59, 3) := by decide +kernel
theorem dJxf58ca_floatToIntBits_5c35a_4 : decode cJxf58ca_floatToIntBits_5c35a 4 = .ok (.ifCond .ne 8, 3) := by decide +kernel
theorem dJxf58ca_floatToIntBits_5c35a_7 : decode cJxf58ca_floatToIntBits_5c35a 7 = .ok (.fload_n 0, 1) := by decide +kernel
theorem dJxf58ca_floatToIntBits_5c35a_8 : decode cJxf58ca_floatToIntBits_5c35a 8 = .ok (.invokestatic 74, 3) := by decide +kernel
theorem dJxf58ca_floatToIntBits_5c35a_11 : decode cJxf58ca_floatToIntBits_5c35a 11 = .ok (.ireturn, 1) := by decide +kernel
theorem dJxf58ca_floatToIntBits_5c35a_12 : decode cJxf58ca_floatToIntBits_5c35a 12 = .ok (.ldc 77, 2) := by decide +kernel
theorem dJxf58ca_floatToIntBits_5c35a_14 : decode cJxf58ca_floatToIntBits_5c35a 14 = .ok (.ireturn, 1) := by decide +kernel
set_option maxHeartbeats 1000000 in
set_option maxRecDepth 100000 in
theorem c_Jxf58ca_floatToIntBits_5c35a (l : Launch) (G : GT) (x1 : UInt32) : Met l yJxf58ca_floatToIntBits_5c35a (Cond.code yJxf58ca_floatToIntBits_5c35a cJxf58ca_floatToIntBits_5c35a 1 (some .int) :: bigW) ({ frames := 1, cells := 0, slots := 0, locals := 24 }) (BP G [.float x1] (fun U H => True)) (QP (.int (fJxf58ca_floatToIntBits_5c35a x1))) 0 0 (fun _ => False) := by
  refine met_ofF (by decide +kernel) (Nat.le_of_ble_eq_true rfl) ?_
  intro p e s m below meth c ls hC hKN hB0 hl
  have hl : lv_has ls 1 [(0, .float x1)] := hl
  have hg : fJxf58ca_floatToIntBits_5c35a x1 = fJxf58ca_floatToIntBits_5c35a x1 := rfl
  refine lv_fload_n hC.1 hC.2.1 dJxf58ca_floatToIntBits_5c35a_0 rfl (lv_at hl 0 rfl) ?_
  refine runP (rS (B := fun U H => True) (As := [.float x1]) (rest := []) hC mwJxf58ca_isNaN_12338 (c_Jxf58ca_isNaN_12338 l G x1) wd_1245 wd_1244 ⟨rfl, rfl⟩ ⟨Nat.le_of_ble_eq_true rfl, Nat.le_of_ble_eq_true rfl⟩ (fun _ _ _ _ h => h) hKN trivial rfl hl.1 rfl (Nat.le_of_ble_eq_true rfl) dJxf58ca_floatToIntBits_5c35a_1 ⟨Nat.zero_le _, Nat.zero_le _⟩) ?_
  refine lv_if_ne (tgt := 12) hC.1 hC.2.1 dJxf58ca_floatToIntBits_5c35a_4 (by decide) (fun k4 => ?_) (fun k4 => ?_)
  · refine lv_ldc (v := 2143289344) hC.1 hC.2.1 hC.2.2.2.2.1 (hC.2.2.2.2.2.2.1 _ wd_1250) dJxf58ca_floatToIntBits_5c35a_12 ?_
    have e_1 : fJxf58ca_floatToIntBits_5c35a x1 = 2143289344 := by delta fJxf58ca_floatToIntBits_5c35a; exact Eq.trans (if_neg k4) rfl
    have hg : fJxf58ca_floatToIntBits_5c35a x1 = 2143289344 := by have e2 := congrArg (fun z => z) e_1; exact hg.trans e2
    exact eP_i hC (congrArg Value.int hg) dJxf58ca_floatToIntBits_5c35a_14
  · refine lv_fload_n hC.1 hC.2.1 dJxf58ca_floatToIntBits_5c35a_7 rfl (lv_at hl 0 rfl) ?_
    refine vn_f2i hC.1 hC.2.1 (hC.2.2.2.1.trans hl.1.symm) hC.2.2.2.2.1 (hC.2.2.2.2.2.2.1 _ wd_1247) (hC.2.2.2.2.2.2.1 _ wd_1249) (hC.2.2.2.2.2.2.1 _ wd_1248) (hC.2.2.2.2.2.2.1 _ wd_22) (Nat.le_of_ble_eq_true rfl) (Nat.le_of_ble_eq_true rfl) dJxf58ca_floatToIntBits_5c35a_8 ?_
    have e_2 : fJxf58ca_floatToIntBits_5c35a x1 = x1.toInt32 := by delta fJxf58ca_floatToIntBits_5c35a; exact Eq.trans (if_pos k4) rfl
    have hg : fJxf58ca_floatToIntBits_5c35a x1 = x1.toInt32 := by have e2 := congrArg (fun z => z) e_2; exact hg.trans e2
    exact eP_i hC (congrArg Value.int hg) dJxf58ca_floatToIntBits_5c35a_11

theorem dX6_mix_0 : decode cX6_mix 0 = .ok (.aload_n 0, 1) := by decide +kernel
theorem dX6_mix_1 : decode cX6_mix 1 = .ok (.ldc2_w 216, 3) := by decide +kernel
theorem dX6_mix_4 : decode cX6_mix 4 = .ok (.aload_n 0, 1) := by decide +kernel
theorem dX6_mix_5 : decode cX6_mix 5 = .ok (.getfield 218, 3) := by decide +kernel
theorem dX6_mix_8 : decode cX6_mix 8 = .ok (.lmul, 1) := by decide +kernel
theorem dX6_mix_9 : decode cX6_mix 9 = .ok (.lload_n 1, 1) := by decide +kernel
theorem dX6_mix_10 : decode cX6_mix 10 = .ok (.ladd, 1) := by decide +kernel
theorem dX6_mix_11 : decode cX6_mix 11 = .ok (.putfield 218, 3) := by decide +kernel
theorem dX6_mix_14 : decode cX6_mix 14 = .ok (.return_, 1) := by decide +kernel
set_option maxHeartbeats 1000000 in
set_option maxRecDepth 100000 in
theorem c_X6_mix (l : Launch) (G : GT) (q : Nat → Nat) (v : SV) (hs : Int64) (x1 : Int64) (hq : mdD G q) : Met l yX6_mix (Cond.code yX6_mix cX6_mix 3 none :: bigW) ({ frames := 0, cells := 0, slots := 0, locals := 0 }) (BP G [.ref (q 0), .long x1] (fun U H => PW G (mdW G q v hs) H)) (QE (none) (fun H => PW G (mdW G q v (fX6_mix v hs x1)) H) (mdA q)) 0 0 (mdA q) := by
  refine met_of (by decide) (Nat.le_of_ble_eq_true rfl) ?_
  intro p e s m below meth c ls hC hKN hB0 hl
  have hP := hB0
  have hl : lv_has ls 3 [(0, .ref (q 0)), (1, .long x1)] := hl
  have hS : va_S (mdA q) s.heap s.heap [] := va_S.rf
  have hAL : ∀ a, (mdA q) a → gL G ≤ a := mdD_low hq
  have hg : fX6_mix v hs x1 = fX6_mix v hs x1 := rfl
  refine lv_aload_n hC.1 hC.2.1 dX6_mix_0 rfl (lv_at hl 0 rfl) ?_
  refine lv_ldc2 (v := 31) hC.1 hC.2.1 hC.2.2.2.2.1 (hC.2.2.2.2.2.2.1 _ wd_1224) dX6_mix_1 ?_
  refine lv_aload_n hC.1 hC.2.1 dX6_mix_4 rfl (lv_at hl 0 rfl) ?_
  refine gf (v := .long hs) hC fwX6 hKN hP 0 rfl rfl 17 (by decide) rfl wd_904 rfl dX6_mix_5 ?_
  refine lv_lmul hC.1 hC.2.1 dX6_mix_8 ?_
  refine lv_lload_n hC.1 hC.2.1 dX6_mix_9 rfl (lv_at hl 1 rfl) ?_
  refine lv_ladd hC.1 hC.2.1 dX6_mix_10 ?_
  refine lv_topl (fun w_1 ew_1 => ?_)
  refine pf (v := .long w_1) (tv := .long) hC fwX6 hKN hP (mdD_D hq v hs) hS 0 rfl rfl 17 (by decide) rfl wd_904 rfl rfl rfl (Nat.le_of_ble_eq_true rfl) dX6_mix_11 (fun H locs hq_2 hS => ?_)
  have hP : PW G (mdW G q v w_1) H := hq_2
  have e_3 : fX6_mix v hs x1 = w_1 := by have q_ := ew_1.symm; subst q_; delta fX6_mix; exact rfl
  have hg : fX6_mix v hs x1 = w_1 := by have e2 := congrArg (fun z => z) e_3; exact hg.trans e2
  exact eE_v hC (by show PW G (mdW G q v (fX6_mix v hs x1)) H; rw [hg]; exact hP) hS dX6_mix_14
