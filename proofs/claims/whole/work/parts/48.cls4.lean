/-- the exceptions that are thrown -/
def exN (k : Nat) : String := match k with
  | 0 => "java/lang/IllegalArgumentException"
  | 1 => "java/lang/IndexOutOfBoundsException"
  | _ => "java/lang/IllegalStateException"
def exI (k : Nat) : Nat := match k with
  | 0 => 52
  | 1 => 109
  | _ => 138
def exC (k : Nat) : Nat := match k with
  | 0 => 56
  | 1 => 113
  | _ => 142
def exNames : List String := ["java/lang/RuntimeException", "java/lang/Exception"]
def exOk (k : Nat) : Bool := (vx_atS "HeadDots" (exC k) (exN k) exNames).all (fun w => decide (w ∈ bigW) || decide (w = Cond.castable (exN k) (exN k)) || decide (∃ x ∈ declX, w = Cond.declares x))
def exGd (k : Nat) : Bool := (Cond.classLink "HeadDots" (exI k) (exN k) :: Cond.initialized (exN k) :: vx_atS "HeadDots" (exC k) (exN k) exNames).all vx_ot
theorem exOk_0 : exOk 0 = true := by decide +kernel
theorem exOk_1 : exOk 1 = true := by decide +kernel
theorem exOk_2 : exOk 2 = true := by decide +kernel
theorem exGd_0 : exGd 0 = true := by decide +kernel
theorem exGd_1 : exGd 1 = true := by decide +kernel
theorem exGd_2 : exGd 2 = true := by decide +kernel
theorem ex_at {k : Nat} (hk : k < 3) : ∀ w ∈ vx_atS "HeadDots" (exC k) (exN k) exNames, w ∈ bigW ∨ w = Cond.castable (exN k) (exN k) ∨ ∃ x ∈ declX, w = Cond.declares x := by
  intro w hw
  have h : exOk k = true := by
    match k, hk with
    | 0, _ => exact exOk_0
    | 1, _ => exact exOk_1
    | 2, _ => exact exOk_2
    | k + 3, h => exact absurd h (by omega)
  have h1 := List.all_eq_true.mp h w hw
  rcases Bool.or_eq_true_iff.mp h1 with z | z
  · rcases Bool.or_eq_true_iff.mp z with z | z
    · exact Or.inl (of_decide_eq_true z)
    · exact Or.inr (Or.inl (of_decide_eq_true z))
  · exact Or.inr (Or.inr (of_decide_eq_true z))
theorem ex_gd {k : Nat} (hk : k < 3) : ∀ w ∈ Cond.classLink "HeadDots" (exI k) (exN k) :: Cond.initialized (exN k) :: vx_atS "HeadDots" (exC k) (exN k) exNames, vx_ot w = true := by
  have h : exGd k = true := by
    match k, hk with
    | 0, _ => exact exGd_0
    | 1, _ => exact exGd_1
    | 2, _ => exact exGd_2
    | k + 3, h => exact absurd h (by omega)
  exact List.all_eq_true.mp h
theorem ex_lk {k : Nat} (hk : k < 3) : Cond.classLink "HeadDots" (exI k) (exN k) ∈ bigW := by
  match k, hk with
  | 0, _ => exact wd_609
  | 1, _ => exact wd_730
  | 2, _ => exact wd_763
  | k + 3, h => exact absurd h (by omega)
theorem ex_in {k : Nat} (hk : k < 3) : Cond.initialized (exN k) ∈ bigW := by
  match k, hk with
  | 0, _ => exact wd_13
  | 1, _ => exact wd_15
  | 2, _ => exact wd_16
  | k + 3, h => exact absurd h (by omega)
theorem ex_cx {k : Nat} (hk : k < 3) : exN k ∈ castX ∧ Bundle.fit (exN k) = true := by
  match k, hk with
  | 0, _ => exact ⟨by decide, by decide +kernel⟩
  | 1, _ => exact ⟨by decide, by decide +kernel⟩
  | 2, _ => exact ⟨by decide, by decide +kernel⟩
  | k + 3, h => exact absurd h (by omega)
theorem ex_nm : ∀ n ∈ exNames, Bundle.fit n = true := by decide +kernel
theorem PW_same {G : GT} {ws : va_W} {H H2 : Heap} (hP : PW G ws H) (h : ∀ q : Nat, q < H.size → H2[q]? = H[q]?) : PW G ws H2 := hP.kept (fun k q hk => h q.1 (hP k q hk).lt)
/-- a method of HeadDots that answers an int or throws -/
def QT (F : (HV × Int32) ⊕ (Nat × HV)) (B : HV → Heap → Prop) (A : Nat → Prop) : Array Value → State → Outcome → State → Prop := fun _ st o t => ∃ r : HV × Int32, F = .inl r ∧ (o = .returned (some (.int r.2)) ∧ B r.1 t.heap) ∧ va_F A st t
def XT (F : (HV × Int32) ⊕ (Nat × HV)) (B : HV → Heap → Prop) (A : Nat → Prop) : String → State → State → Prop := fun E st t => ∃ (k : Nat) (x' : HV), F = .inr (k, x') ∧ k < 3 ∧ E = exN k ∧ B x' t.heap ∧ va_F A st t
theorem met_ofX {l : Launch} {y : MethodName} {cc : ByteArray} {maxL : Nat} {ret : Option FieldType} {rm : Room} {G : GT} {av : List Value} {B : State → Heap → Prop} {Qc : Array Value → State → Outcome → State → Prop} {XC : String → State → State → Prop} {mc ms : Nat} {free : Addr → Prop}
    (hy : plainName y.cls = true) (hn : (lg_sl av).length ≤ maxL)
    (body : ∀ (p : Program) (e : Env) (s : State) (m : MethodId) (below : List Frame) (meth : Method) (c : Code) (ls : Array Slot), CX p s m meth c y cc maxL ret av.toArray → (∀ z ∈ c.exceptionTable.toList, False) → KN G s s.heap → B s s.heap → lv_has ls maxL (lv_args 0 av) → W p l e rm s m av.toArray below meth c s.heap [] 0 0 (vx_MQ below Qc XC av.toArray s mc ms free) (F0 m 0 ls [])) :
    vx_Met l y (Cond.code y cc maxL ret :: bigW) rm (BP G av B) Qc XC mc ms free := by
  refine vx_ofW (cc := cc) (maxL := maxL) (ret := ret) hy rfl ?_
  intro p e s m args below meth c s₁ Bd hml hX hv
  obtain ⟨rfl, hK, hB⟩ := hv
  have hts := atoms_spec (ws := Cond.code y cc maxL ret :: bigW) Bd.pre
  rw [lg_entry_eq]
  exact body p e s m below meth c _ ⟨Bd.exec, Bd.bytes, Bd.returns, hml, findClass_of_methodNamed Bd.named, Bd.notSynchronized, fun w hw => hts w (List.mem_cons_of_mem _ hw), (name_of_methodNamed Bd.named Bd.method).1⟩ hX hK hB (lv_entry av hn)
section ET
variable {p : Program} {l : Launch} {e : Env} {R : Room} {s : State} {m : MethodId} {args : Array Value} {below : List Frame} {meth : Method} {c : Code} {H : Heap} {locs : List Loc} {cells slots : Nat} {A : Nat → Prop}
variable {y0 : MethodName} {cc : ByteArray} {nL : Nat} {pc : Nat} {ls : Array Slot} {G : GT} {F : (HV × Int32) ⊕ (Nat × HV)} {B : HV → Heap → Prop} {x' : HV}
theorem eT_i {v : Int32} (hC : CX p s m meth c y0 cc nL (some .int) args) (hF : F = .inl (x', v)) (hB : B x' H) (hS : va_S A s.heap H locs) (hc : cells ≤ 1) (hs : slots ≤ 6) (hdg : decode cc pc = .ok (.ireturn, 1)) : W p l e R s m args below meth c H locs cells slots (vx_MQ below (QT F B A) (XT F B A) args s 1 6 A) (F0 m pc ls [.int v]) :=
  vx_ret (W.widen hc hs (W.iret hC.1 hC.2.1 hC.2.2.1 (fun t ht _ => ⟨_, hF, ⟨rfl, by rw [ht]; exact hB⟩, hS.F ht⟩) hS.2.2 hdg hC.2.2.2.2.2.1))
theorem eT_x (hC : CX p s m meth c y0 cc nL (some .int) args) (hcls : y0.cls = "HeadDots") (hX : ∀ z ∈ c.exceptionTable.toList, False) (hKN : KN G s s.heap) (hL : l.stackTraces = false) (k : Nat) (hk : k < 3) (i : Nat) (hi : i < 17) (hls : ls.size = nL) (hF : F = .inr (k, x')) (hB : ∀ H2 : Heap, H.size ≤ H2.size → (∀ q : Nat, q < H.size → H2[q]? = H[q]?) → B x' H2) (hS : va_S A s.heap H locs) (hAL : ∀ z, A z → gL G ≤ z)
    (d0 : decode cc pc = .ok (.new (exI k), 3)) (d3 : decode cc (pc + 3) = .ok (.dup, 1)) (d4 : decode cc (pc + 4) = .ok (.ldc (xIx i), 2)) (d6 : decode cc (pc + 6) = .ok (.invokespecial (exC k), 3)) (d9 : decode cc (pc + 9) = .ok (.athrow, 1))
    (hf : 5 < R.frames) (hl : 82 ≤ R.locals) (hRc : cells + 1 ≤ R.cells) (hRs : slots + 6 ≤ R.slots) (hc : cells + 1 ≤ 1) (hs : slots + 6 ≤ 6) : W p l e R s m args below meth c H locs cells slots (vx_MQ below (QT F B A) (XT F B A) args s 1 6 A) (F0 m pc ls []) := by
  have hown : s.vm.findClass "HeadDots" = some m.cls := by rw [← hcls]; exact hC.2.2.2.2.1
  have hw := hC.2.2.2.2.2.2.1
  have hcx := ex_cx hk
  refine vx_throwS (rest := []) (names := exNames) (A := A) hC.1 hC.2.1 hL hown hcx.2 ex_nm (hw _ (ex_lk hk)) (hw _ (ex_in hk)) (hKN.2.2.2.2.1.1 i hi) (fun w h => ?_) (ex_gd hk) (vx_Zq.narrow hKN.2.2.2.2.1.2.1 (fun q h => hAL q h)) (vx_Zq.narrow hKN.2.2.2.2.1.2.2 (fun q h => hAL q h)) hS (hls.trans hC.2.2.2.1.symm) d0 d3 d4 d6 d9 (fun z hz => (hX z hz).elim) hf hl hRc hRs hC.2.2.2.2.2.1 (fun t _ h1 h2 => ⟨k, x', hF, hk, rfl, hB t.heap h1 h2, Nat.le_trans hS.1 h1, fun q g1 g2 => (h2 q (Nat.lt_of_lt_of_le g1 hS.1)).trans (hS.2.1 q g1 g2)⟩) hS.2.2 hc hs
  rcases ex_at hk w h with z | z | ⟨x, hx, z⟩
  · exact hw _ z
  · rw [z]; exact va_Nw.use rfl (hKN.2.2.2.2.2.1 _ hcx.1)
  · rw [z]; exact va_Nw.use rfl (hKN.2.2.2.2.2.2.2.2.2 x hx)
end ET
