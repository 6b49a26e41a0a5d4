theorem bw_good {w : Cond} (h : w ∈ bigW) : (w.onTables && w.keeps) = true ∨ ∃ ty, w = .arrayClass ty := good_of_word (List.mem_filter.mp h).2
theorem bw_gi {x y : Cond} (h : y ∈ bigW) : GoodIn (x :: bigW) (y :: bigW) := fun w hw => by
  rcases List.mem_cons.mp hw with e | e
  · subst e; exact ⟨List.mem_cons_of_mem _ h, bw_good h⟩
  · exact ⟨List.mem_cons_of_mem _ e, bw_good e⟩
def nestF : List (String × Nat × String × String × String × String) := [(RX2, 18, RX5, "SETTING_FIRST", "[I", "HeadDots"), (RX2, 67, RX3, "size", "I", "HeadDots"), (RX5, 101, RX3, "size", "I", "HeadDots"), (RX2, 166, RX4, "dotsOf", "[I", "HeadDots"), (RX2, 169, RX4, "faintOf", "[I", "HeadDots"), (RX2, 74, RX4, "time", "I", "HeadDots"), (RX5, 283, RX4, "time", "I", "HeadDots"), (RX5, 158, RX4, "lines", "I", "HeadDots"), (RX5, 285, RX4, "parts", "I", "HeadDots"), (RX2, 100, RX4, "waits", "I", "HeadDots"), (RX5, 288, RX4, "waits", "I", "HeadDots"), (RX5, 291, RX4, "dots", "I", "HeadDots"), (RX5, 76, RX4, "faint", "I", "HeadDots"), (RX2, 130, RX4, "hottest", "I", "HeadDots"), (RX5, 295, RX4, "hottest", "I", "HeadDots"), (RX5, 97, RX2, "strip", "LHeadDots$Strip;", "HeadDots"), (RX5, 72, RX2, "totals", "LHeadDots$Totals;", "HeadDots"), (RX5, 298, RX2, "paperKind", "I", "HeadDots"), (RX2, 137, RX5, "PAPER_PULSE", "[I", "HeadDots"), (RX2, 140, RX5, "PAPER_DARK", "[I", "HeadDots"), (RX2, 153, RX5, "SETTING_MOST", "[I", "HeadDots"), (RX2, 156, RX5, "SETTING_LEAST", "[I", "HeadDots")]
def nestM : List (String × Nat × MethodName × String) := [(RX2, 24, yX5_copyRow, "HeadDots"), (RX2, 59, yX5_at, "HeadDots"), (RX2, 124, yX5_bitOf, "HeadDots"), (RX3, 43, yX5_at, "HeadDots"), (RX3, 54, yX5_bitOf, "HeadDots"), (RX3, 25, yX5_copyRow, "HeadDots"), (RX4, 40, yX5_copyRow, "HeadDots"), (RX2, 63, yX5_put, "HeadDots"), (RX3, 39, yX5_put, "HeadDots"), (RX4, 54, yX5_bitOf, "HeadDots")]
/-- the classes, the classes of the arrays (int, long, State), where the law begins to make, the addresses of what lies below -/
abbrev GT : Type := va_G × (Nat → ClassId) × Nat × (Nat → Nat)
abbrev gI (G : GT) : ClassId := G.2.1 0
abbrev gR (G : GT) : ClassId := G.2.1 1
abbrev gL (G : GT) : Nat := G.2.2.1
abbrev gA (G : GT) : Nat → Nat := G.2.2.2
def gT (G : GT) : List (ClassId × FieldType) := [(gI G, .int), (gR G, .object "HeadDots$State")]
def lowA (G : GT) : Nat → Prop := fun q => gL G ≤ q
abbrev PW (G : GT) (ws : va_W) (H : Heap) : Prop := va_P G.1 vwCl ws H
def stNm : Nat → String := fun k => match k with
  | 0 => "SETTING_FIRST"
  | 1 => "SETTING_LEAST"
  | 2 => "SETTING_MOST"
  | 3 => "PAPER_PULSE"
  | 4 => "PAPER_DARK"
  | _ => ""
def stLn : Nat → Nat := fun k => match k with
  | 0 => 7
  | 1 => 7
  | 2 => 7
  | 3 => 3
  | 4 => 3
  | _ => 0
def st0 : Nat → Int32 := fun j => ([120, 40, 500, 8, 100, 0, 5] : List Int32).getD j 0
def st1 : Nat → Int32 := fun j => ([50, 5, 330, 1, 1, 0, 0] : List Int32).getD j 0
def st2 : Nat → Int32 := fun j => ([300, 200, 900, 20, 200, 1, 50] : List Int32).getD j 0
def st3 : Nat → Int32 := fun j => ([0, (-15), 25] : List Int32).getD j 0
def st4 : Nat → Int32 := fun j => ([110, 90, 150] : List Int32).getD j 0
def stFn : Nat → Nat → Int32 := fun k => match k with
  | 0 => st0
  | 1 => st1
  | 2 => st2
  | 3 => st3
  | 4 => st4
  | _ => fun _ => 0
def wIx : Nat → Nat := fun k => match k with
  | 0 => 9
  | _ => 0
def wTx : Nat → String := fun k => match k with
  | 0 => ""
  | _ => ""
def KN (G : GT) (U : State) (H : Heap) : Prop :=
  (va_K G.1 vwCl (gT G) U ∧ gL G ≤ H.size) ∧ ((∀ q ∈ nestF, va_Nw (.fieldLinkNest q.1 q.2.1 q.2.2.1 q.2.2.2.1 q.2.2.2.2.1 q.2.2.2.2.2) U) ∧ (∀ q ∈ nestM, va_Nw (.methodLinkNest q.1 q.2.1 q.2.2.1 q.2.2.2) U)) ∧
  (∀ i, i < 5 → va_Z "HeadDots" (stNm i) "[I" (.ref (gA G i)) (lowA G) U H ∧ va_T .int (gA G i) (stLn i) (fun j => .int (stFn i j)) (lowA G) U H) ∧
  (∀ i, i < 1 → vk_R "HeadDots$Reader" (wIx i) (wTx i) (gA G (10 + i)) U) ∧ va_AO "HeadDots$State" U
theorem KN.warm {G : GT} {s U : State} {H : Heap} (hW : s.WarmedH U.vm) (h : KN G s H) : KN G U H := by
  obtain ⟨⟨a1, a2⟩, ⟨b1, b2⟩, c1, d2, f4⟩ := h
  have hv := hW.alike
  exact ⟨⟨va_K.moved hv a1, a2⟩, ⟨fun q hq => va_Nw.warmF hW (b1 q hq), fun q hq => va_Nw.warmM hW (b2 q hq)⟩, fun i hi => ⟨va_Z.moved hv (c1 i hi).1, va_T.moved hv (c1 i hi).2⟩, fun i hi => vk_R.warm hW (d2 i hi), va_AO.moved hv f4⟩
theorem KN.kept {G : GT} {s : State} {H H1 : Heap} (h : KN G s H) (hz : H.size ≤ H1.size) (hq : ∀ a : Nat, a < H.size → ¬ lowA G a → H1[a]? = H[a]?) : KN G s H1 := by
  obtain ⟨⟨a1, a2⟩, b, c1, d2, f⟩ := h
  exact ⟨⟨a1, Nat.le_trans a2 hz⟩, b, fun i hi => ⟨(c1 i hi).1.kept hq, (c1 i hi).2.kept hq⟩, d2, f⟩
theorem KN.go {G : GT} {s : State} {H0 H : Heap} {A : Nat → Prop} {locs : List Loc} (h : KN G s H0) (hA : ∀ a, A a → gL G ≤ a) (hS : va_S A H0 H locs) : KN G s H := h.kept hS.1 (fun a h1 h2 => hS.2.1 a h1 (fun z => h2 (hA a z)))
theorem KN.calling {G : GT} {U : State} (g : JFrame) (mk : MethodId) (a : Array Value) (h : KN G U U.heap) : KN G (U.calling g mk a) (U.calling g mk a).heap := KN.warm (s := U) (U := U.calling g mk a) (State.WarmedH.refl U) h
theorem KN.k {G : GT} {s : State} {H : Heap} (h : KN G s H) : va_K G.1 vwCl (gT G) s := h.1.1
/-- a picture that the tables' warming leaves as it is -/
def Stb (B : State → Heap → Prop) : Prop := ∀ (s U : State) (H : Heap), s.WarmedH U.vm → B s H → B U H
theorem stb_h (P : Heap → Prop) : Stb (fun _ H => P H) := fun _ _ _ _ h => h
theorem stb_and {B C : State → Heap → Prop} (h1 : Stb B) (h2 : Stb C) : Stb (fun U H => B U H ∧ C U H) := fun s U H hW h => ⟨h1 s U H hW h.1, h2 s U H hW h.2⟩
/-- an int array that is only read -/
def RD (a n : Nat) (f : Nat → Int32) (U : State) (H : Heap) : Prop := va_T .int a n (fun j => .int (f j)) (fun _ => False) U H
theorem stb_RD (a n : Nat) (f : Nat → Int32) : Stb (RD a n f) := fun _ _ _ hW h => va_T.moved hW.alike h
theorem KN.rd {G : GT} {s : State} {H : Heap} (h : KN G s H) (i : Nat) (hi : i < 5) : RD (gA G i) (stLn i) (stFn i) s H := ((h.2.2.1 i hi).2).narrow (fun _ q => q.elim)
theorem RD.ofP {G : GT} {s : State} {H : Heap} {ws : va_W} {a n : Nat} {f : Nat → Int32} (hK : KN G s H) (hP : PW G ws H) (k : Nat) (ha : ws[k]? = some (a, .inl (gI G, n, .inl f))) : RD a n f s H := by
  have h := hP k _ ha
  have hA : s.isArrayOf (arrV (gI G) n (fun j => .int (f j))) .int := (hK.1.1.2 0 _ rfl).1 n _
  refine ⟨_, h, hA, (fun q => by cases q), ?_, ?_, ?_, id⟩
  · show n ≤ (arrV _ _ _).slots.size
    rw [arrV_size]; exact Nat.le_refl _
  · show (arrV _ _ _).slots.size.toInt32 = _
    rw [arrV_size]
  · intro j hj
    show (arrV _ _ _).slots[j]? = _
    rw [arrV_read _ _ hj]
/-- a method's start: the arguments, what lies below, a picture of the heap -/
abbrev BP (G : GT) (av : List Value) (B : State → Heap → Prop) : Array Value → State → Prop := va_Pc av (fun U => KN G U U.heap ∧ B U U.heap)
theorem BP.blind {G : GT} {av : List Value} {B : State → Heap → Prop} (hB : Stb B) : FrameBlind (BP G av B) := fun a U g mk h => ⟨h.1, h.2.1.calling g mk a, hB U (U.calling g mk a) _ (State.WarmedH.refl U) h.2.2⟩
/-- a method that writes nothing -/
def QP (F : Value) : Array Value → State → Outcome → State → Prop := fun _ st o t => o = .returned (some F) ∧ t.heap = st.heap
/-- a method that writes in A alone -/
def QE (F : Option Value) (B : Heap → Prop) (A : Nat → Prop) : Array Value → State → Outcome → State → Prop := fun _ st o t => (o = .returned F ∧ B t.heap) ∧ va_F A st t
/-- what stands fast in a body -/
def CX (p : Program) (s : State) (m : MethodId) (meth : Method) (c : Code) (y : MethodName) (cc : ByteArray) (maxL : Nat) (ret : Option FieldType) (av : Array Value) : Prop :=
  p.tables.exec = Jvm.exec ∧ c.code = cc ∧ meth.sig.returnType = ret ∧ c.maxLocals = maxL ∧ s.vm.findClass y.cls = some m.cls ∧ meth.locks = false ∧ (∀ w ∈ bigW, w.before av s = true) ∧ meth.name = y.name
theorem met_of {l : Launch} {y : MethodName} {cc : ByteArray} {maxL : Nat} {ret : Option FieldType} {rm : Room} {G : GT} {av : List Value} {B : State → Heap → Prop} {Qc : Array Value → State → Outcome → State → Prop} {mc ms : Nat} {free : Addr → Prop}
    (hy : plainName y.cls = true) (hn : (lg_sl av).length ≤ maxL)
    (body : ∀ (p : Program) (e : Env) (s : State) (m : MethodId) (below : List Frame) (meth : Method) (c : Code) (ls : Array Slot), CX p s m meth c y cc maxL ret av.toArray → KN G s s.heap → B s s.heap → lv_has ls maxL (lv_args 0 av) → W p l e rm s m av.toArray below meth c s.heap [] 0 0 (MQ below Qc av.toArray s mc ms free) (F0 m 0 ls [])) :
    Met l y (Cond.code y cc maxL ret :: bigW) rm (BP G av B) Qc mc ms free := by
  refine Met.ofW (cc := cc) (maxL := maxL) (ret := ret) hy rfl ?_
  intro p e s m args below meth c s₁ Bd hml hv
  obtain ⟨rfl, hK, hB⟩ := hv
  have hts := atoms_spec (ws := Cond.code y cc maxL ret :: bigW) Bd.pre
  rw [lg_entry_eq]
  exact body p e s m below meth c _ ⟨Bd.exec, Bd.bytes, Bd.returns, hml, findClass_of_methodNamed Bd.named, Bd.notSynchronized, fun w hw => hts w (List.mem_cons_of_mem _ hw), (name_of_methodNamed Bd.named Bd.method).1⟩ hK hB (lv_entry av hn)
/-- a method's words, for those who call it -/
abbrev MW (y : MethodName) (bytes : ByteArray) (maxL : Nat) (ret : Option FieldType) (n : Nat) : Prop :=
  Cond.code y bytes maxL ret ∈ bigW ∧ Cond.initialized y.cls ∈ bigW ∧ y.cls ≠ "java/lang/invoke/MethodHandle" ∧ y.cls ≠ "java/lang/invoke/VarHandle" ∧ (parseMethodDescriptor y.desc).map (fun d => d.parameters.length) = some n
abbrev IW (y : MethodName) : Prop := Cond.instanceMethod y ∈ bigW ∧ Cond.selects y.cls y y ∈ bigW
theorem gi_B {y : MethodName} {bytes : ByteArray} {maxL n : Nat} {ret : Option FieldType} (h : MW y bytes maxL ret n) : GoodIn bigW (Cond.code y bytes maxL ret :: bigW) := fun w hw => by
  rcases List.mem_cons.mp hw with e | e
  · subst e; exact ⟨h.1, bw_good h.1⟩
  · exact ⟨e, bw_good e⟩
section CALLS
variable {p : Program} {l : Launch} {e : Env} {R : Room} {s : State} {m : MethodId} {args : Array Value} {below : List Frame} {meth : Method} {c : Code} {H : Heap} {locs : List Loc} {cells slots : Nat} {Q : State → Prop}
variable {y y0 : MethodName} {bytes cc : ByteArray} {maxL nL mc ms n index : Nat} {ret ret0 : Option FieldType} {rm : Room} {Qc : Array Value → State → Outcome → State → Prop} {free : Addr → Prop} {own host : String} {b : Addr} {As rest st0 : List Value} {pc : Nat} {ls : Array Slot} {G : GT} {B : State → Heap → Prop}
theorem cb_of (hC : CX p s m meth c y0 cc nL ret0 args) (hm : MW y bytes maxL ret n) (hlk : Cond.methodLink own index y ∈ bigW) (hrm : rm.cells = mc ∧ rm.slots = ms) (hR : rm.frames + 1 ≤ R.frames ∧ 8 + (maxL + 11) + rm.locals ≤ R.locals) :
    CallB R s args own index y bytes maxL ret (Cond.code y bytes maxL ret :: bigW) rm mc ms n :=
  callB_of n hC.2.2.2.2.2.2.1 (gi_B hm) rfl hrm.1 hrm.2 (hC.2.2.2.2.2.2.1 _ hm.2.1) (hC.2.2.2.2.2.2.1 _ hlk) hm.2.2 hR
theorem rV (hC : CX p s m meth c y0 cc nL ret0 args) (hm : MW y bytes maxL ret n) (hM : Met l y (Cond.code y bytes maxL ret :: bigW) rm (BP G (.ref b :: As) B) Qc mc ms free) (hi : IW y) (hlk : Cond.methodLink y0.cls index y ∈ bigW) (hrm : rm.cells = mc ∧ rm.slots = ms) (hR : rm.frames + 1 ≤ R.frames ∧ 8 + (maxL + 11) + rm.locals ≤ R.locals)
    (hSt : Stb B) (hKN : KN G s H) (hB : B s H)
    (hrc : ∃ cellB : Cell, H[b]? = some cellB ∧ cellB.vm.isStatics = false ∧ s.vm.findClass y.cls = some cellB.cls)
    (hn : As.length = n) (hls : ls.size = nL) (hst : st0 = As.reverse ++ .ref b :: rest) (hW : (rest.map fun v => v.category).sum ≤ 8) (hdg : decode cc pc = .ok (.invokevirtual index, 3)) (hf : cells + mc ≤ R.cells ∧ slots + ms ≤ R.slots) :
    va_Run p l e R s m args below meth c H locs cells slots mc ms (F0 m pc ls st0) rest (Qc (Value.ref b :: As).toArray) free :=
  va_runV (own := y0.cls) (C := y.cls) (Ts := bigW) ⟨hC.1, hC.2.1, hC.2.2.2.1, hC.2.2.2.2.1, hC.2.2.2.2.2.2.1⟩ hM ⟨cb_of hC hm hlk hrm hR, hC.2.2.2.2.2.2.1 _ hi.1, hC.2.2.2.2.2.2.1 _ hi.2⟩
    ⟨BP.blind hSt, hrc, fun U hU hw => ⟨rfl, by rw [hU]; exact hKN.warm hw, by rw [hU]; exact hSt s U H hw hB⟩⟩ rfl hn hls hst (lv_room hW) hdg hf
theorem rS (hC : CX p s m meth c y0 cc nL ret0 args) (hm : MW y bytes maxL ret n) (hM : Met l y (Cond.code y bytes maxL ret :: bigW) rm (BP G As B) Qc mc ms free) (hi : Cond.static y ∈ bigW) (hlk : Cond.methodLink y0.cls index y ∈ bigW) (hrm : rm.cells = mc ∧ rm.slots = ms) (hR : rm.frames + 1 ≤ R.frames ∧ 8 + (maxL + 11) + rm.locals ≤ R.locals)
    (hSt : Stb B) (hKN : KN G s H) (hB : B s H)
    (hn : As.length = n) (hls : ls.size = nL) (hst : st0 = As.reverse ++ rest) (hW : (rest.map fun v => v.category).sum ≤ 8) (hdg : decode cc pc = .ok (.invokestatic index, 3)) (hf : cells + mc ≤ R.cells ∧ slots + ms ≤ R.slots) :
    va_Run p l e R s m args below meth c H locs cells slots mc ms (F0 m pc ls st0) rest (Qc As.toArray) free :=
  va_runS (own := y0.cls) (Ts := bigW) ⟨hC.1, hC.2.1, hC.2.2.2.1, hC.2.2.2.2.1, hC.2.2.2.2.2.2.1⟩ hM ⟨cb_of hC hm hlk hrm hR, hC.2.2.2.2.2.2.1 _ hi⟩
    ⟨BP.blind hSt, fun U hU hw => ⟨rfl, by rw [hU]; exact hKN.warm hw, by rw [hU]; exact hSt s U H hw hB⟩⟩ rfl hn hls hst (lv_room hW) hdg hf
theorem rSN (hC : CX p s m meth c y0 cc nL ret0 args) (hm : MW y bytes maxL ret n) (hM : Met l y (Cond.code y bytes maxL ret :: bigW) rm (BP G As B) Qc mc ms free) (hi : Cond.static y ∈ bigW) (hlk : va_Nw (.methodLinkNest y0.cls index y host) s) (hrm : rm.cells = mc ∧ rm.slots = ms) (hR : rm.frames + 1 ≤ R.frames ∧ 8 + (maxL + 11) + rm.locals ≤ R.locals)
    (hSt : Stb B) (hKN : KN G s H) (hB : B s H)
    (hn : As.length = n) (hls : ls.size = nL) (hst : st0 = As.reverse ++ rest) (hW : (rest.map fun v => v.category).sum ≤ 8) (hdg : decode cc pc = .ok (.invokestatic index, 3)) (hf : cells + mc ≤ R.cells ∧ slots + ms ≤ R.slots) :
    va_Run p l e R s m args below meth c H locs cells slots mc ms (F0 m pc ls st0) rest (Qc As.toArray) free :=
  va_runSN (own := y0.cls) (Ts := bigW) ⟨hC.1, hC.2.1, hC.2.2.2.1, hC.2.2.2.2.1, hC.2.2.2.2.2.2.1⟩ hM ⟨va_cnB n hC.2.2.2.2.2.2.1 (gi_B hm) rfl hrm.1 hrm.2 hlk (hC.2.2.2.2.2.2.1 _ hm.2.1) hm.2.2 hR, hC.2.2.2.2.2.2.1 _ hi, trivial⟩
    ⟨BP.blind hSt, fun U hU hw => ⟨rfl, by rw [hU]; exact hKN.warm hw, by rw [hU]; exact hSt s U H hw hB⟩⟩ rfl hn hls hst (lv_room hW) hdg hf
theorem runP {F : Value} {a : Array Value} (hr : va_Run p l e R s m args below meth c H locs cells slots 0 0 (F0 m pc ls st0) rest (QP F a) (fun _ => False))
    (kk : W p l e R s m args below meth c H locs cells slots Q (F0 m (pc + 3) ls (F :: rest))) : W p l e R s m args below meth c H locs cells slots Q (F0 m pc ls st0) := by
  intro T hT X
  obtain ⟨v, st₀, t, T', L, h0, X', hL, e1, e2, ⟨hv, hz⟩, st⟩ := hr T hT X
  cases hv
  have hL0 : L = [] := by
    cases L with
    | nil => rfl
    | cons q L => exact absurd (hL q List.mem_cons_self) id
  subst hL0
  rw [List.append_nil] at X'
  obtain ⟨t2, a1, b1⟩ := kk T' (by rw [e1, hz, h0]) X'
  exact ⟨t2, st t2 a1, b1⟩
theorem runE {F : Option Value} {a : Array Value} {B1 : Heap → Prop} {A0 A1 : Nat → Prop} {H0 : Heap} (hr : va_Run p l e R s m args below meth c H locs cells slots mc ms (F0 m pc ls st0) rest (QE F B1 A1 a) free) (hS : va_S A0 H0 H locs) (hA : ∀ q, A1 q → A0 q) (hf : ∀ q, free q → A0 q)
    (kk : ∀ (H1 : Heap) (locs1 : List Loc), B1 H1 → H.size ≤ H1.size → (∀ q : Nat, q < H.size → ¬ A1 q → H1[q]? = H[q]?) → va_S A0 H0 H1 locs1 → W p l e R s m args below meth c H1 locs1 (cells + mc) (slots + ms) Q (F0 m (pc + 3) ls (F.toList ++ rest))) : W p l e R s m args below meth c H locs cells slots Q (F0 m pc ls st0) := by
  intro T hT X
  obtain ⟨v, st₀, t, T', L, h0, X', hL, e1, e2, ⟨⟨hv, hb⟩, hz, hk⟩, st⟩ := hr T hT X
  cases hv
  rw [h0] at hz hk
  obtain ⟨t2, a1, b1⟩ := kk T'.heap (locs ++ L) (by rw [e1]; exact hb) (by rw [e1]; exact hz) (fun q h1 h2 => by rw [e1]; exact hk q h1 h2)
    ⟨Nat.le_trans hS.1 (by rw [e1]; exact hz), fun q h1 h2 => by rw [e1, hk q (Nat.lt_of_lt_of_le h1 hS.1) (fun z => h2 (hA q z))]; exact hS.2.1 q h1 h2, fun q hq => by
      rcases List.mem_append.mp hq with h | h
      · exact hS.2.2 q h
      · exact hf _ (hL q h)⟩ T' rfl X'
  exact ⟨t2, st t2 a1, b1⟩
end CALLS
section ROWS
variable {p : Program} {l : Launch} {e : Env} {R : Room} {s : State} {m : MethodId} {args : Array Value} {below : List Frame} {meth : Method} {c : Code} {H : Heap} {locs : List Loc} {cells slots : Nat} {Q : State → Prop}
variable {y0 : MethodName} {cc : ByteArray} {nL : Nat} {ret0 : Option FieldType} {rest : List Value} {pc : Nat} {ls : Array Slot} {G : GT} {ws : va_W} {A : Nat → Prop} {H0 : Heap} {a : Nat}
theorem iald_k (hC : CX p s m meth c y0 cc nL ret0 args) (hKN : KN G s H) (hP : PW G ws H) (q0 : Nat) {n : Nat} {f : Nat → Int32} (ha : ws[q0]? = some (a, .inl (gI G, n, .inl f))) {i : Int32} (k : Nat) (hi : i = nI k) (hk : k < n) (hn : n < 2 ^ 31) (hdg : decode cc pc = .ok (.iaload, 1))
    (kk : W p l e R s m args below meth c H locs cells slots Q (F0 m (pc + 1) ls (.int (f k) :: rest))) : W p l e R s m args below meth c H locs cells slots Q (F0 m pc ls (.int i :: .ref a :: rest)) := by
  subst hi
  refine va_iald hC.1 hC.2.1 hKN.k hP q0 0 ha rfl (vp_in_nI hk hn) hdg ?_
  rw [nI_clamp (Nat.lt_trans hk hn)]
  exact kk
theorem iald_i (hC : CX p s m meth c y0 cc nL ret0 args) (hKN : KN G s H) (hP : PW G ws H) (q0 : Nat) {n : Nat} {f : Nat → Int32} (ha : ws[q0]? = some (a, .inl (gI G, n, .inl f))) {i : Int32} (hin : vp_in i n) (hdg : decode cc pc = .ok (.iaload, 1))
    (kk : W p l e R s m args below meth c H locs cells slots Q (F0 m (pc + 1) ls (.int (f i.toNatClampNeg) :: rest))) : W p l e R s m args below meth c H locs cells slots Q (F0 m pc ls (.int i :: .ref a :: rest)) :=
  va_iald hC.1 hC.2.1 hKN.k hP q0 0 ha rfl hin hdg kk
theorem alen_n (hC : CX p s m meth c y0 cc nL ret0 args) (hKN : KN G s H) (hP : PW G ws H) (q0 : Nat) {n : Nat} {f : Nat → Int32} (ha : ws[q0]? = some (a, .inl (gI G, n, .inl f))) (hdg : decode cc pc = .ok (.arraylength, 1))
    (kk : W p l e R s m args below meth c H locs cells slots Q (F0 m (pc + 1) ls (.int (nI n) :: rest))) : W p l e R s m args below meth c H locs cells slots Q (F0 m pc ls (.ref a :: rest)) :=
  va_alen hC.1 hC.2.1 hKN.k hP q0 0 ha rfl rfl hdg kk
theorem iast_k (hC : CX p s m meth c y0 cc nL ret0 args) (hKN : KN G s H) (hP : PW G ws H) (hD : va_D A ws) (hS : va_S A H0 H locs) (q0 : Nat) {n : Nat} {f : Nat → Int32} (ha : ws[q0]? = some (a, .inl (gI G, n, .inl f))) {i x : Int32} (k : Nat) (hi : i = nI k) (hk : k < n) (hn : n < 2 ^ 31) (hdg : decode cc pc = .ok (.iastore, 1))
    (kk : ∀ (H1 : Heap) (locs1 : List Loc), PW G (ws.set q0 (a, .inl (gI G, n, .inl (upd f k x)))) H1 → va_S A H0 H1 locs1 → W p l e R s m args below meth c H1 locs1 cells slots Q (F0 m (pc + 1) ls rest)) : W p l e R s m args below meth c H locs cells slots Q (F0 m pc ls (.int x :: .int i :: .ref a :: rest)) := by
  subst hi
  refine va_iast hC.1 hC.2.1 hKN.k hP hD hS q0 0 ha rfl (vp_in_nI hk hn) hdg (fun H1 locs1 h1 _ h3 => ?_)
  rw [nI_clamp (Nat.lt_trans hk hn)] at h1
  exact kk H1 locs1 h1 h3
theorem iast_i (hC : CX p s m meth c y0 cc nL ret0 args) (hKN : KN G s H) (hP : PW G ws H) (hD : va_D A ws) (hS : va_S A H0 H locs) (q0 : Nat) {n : Nat} {f : Nat → Int32} (ha : ws[q0]? = some (a, .inl (gI G, n, .inl f))) {i x : Int32} (hin : vp_in i n) (hdg : decode cc pc = .ok (.iastore, 1))
    (kk : ∀ (H1 : Heap) (locs1 : List Loc), PW G (ws.set q0 (a, .inl (gI G, n, .inl (upd f i.toNatClampNeg x)))) H1 → va_S A H0 H1 locs1 → W p l e R s m args below meth c H1 locs1 cells slots Q (F0 m (pc + 1) ls rest)) : W p l e R s m args below meth c H locs cells slots Q (F0 m pc ls (.int x :: .int i :: .ref a :: rest)) :=
  va_iast hC.1 hC.2.1 hKN.k hP hD hS q0 0 ha rfl hin hdg (fun H1 locs1 h1 _ h3 => kk H1 locs1 h1 h3)
theorem rd_ld (hC : CX p s m meth c y0 cc nL ret0 args) {n : Nat} {f : Nat → Int32} (hR : RD a n f s H) {i : Int32} (hin : vp_in i n) (hdg : decode cc pc = .ok (.iaload, 1))
    (kk : W p l e R s m args below meth c H locs cells slots Q (F0 m (pc + 1) ls (.int (f i.toNatClampNeg) :: rest))) : W p l e R s m args below meth c H locs cells slots Q (F0 m pc ls (.int i :: .ref a :: rest)) := by
  obtain ⟨cell, h1, h2, h3, h4, h5, h6, -⟩ := hR
  have hlt : i.toNatClampNeg < n := Nat.not_le.mp fun q => hin (Or.inr q)
  exact W.iald (v := .int (f i.toNatClampNeg)) hC.1 hC.2.1 h1 h2 h3 (fun q => q.elim (fun z => hin (Or.inl z)) (fun z => hin (Or.inr (Nat.le_trans h4 z)))) (h6 _ hlt) rfl rfl hdg kk
theorem rd_len (hC : CX p s m meth c y0 cc nL ret0 args) {n : Nat} {f : Nat → Int32} (hR : RD a n f s H) (hdg : decode cc pc = .ok (.arraylength, 1))
    (kk : W p l e R s m args below meth c H locs cells slots Q (F0 m (pc + 1) ls (.int (nI n) :: rest))) : W p l e R s m args below meth c H locs cells slots Q (F0 m pc ls (.ref a :: rest)) := by
  obtain ⟨cell, h1, h2, h3, h4, h5, h6, -⟩ := hR
  exact W.alen (n := nI n) hC.1 hC.2.1 h1 h2 h5 rfl rfl hdg kk
theorem gsN (hC : CX p s m meth c y0 cc nL ret0 args) {C n d host : String} {v : Value} {index : Nat} (hZ : va_Z C n d v A s H) (hlink : va_Nw (.fieldLinkNest y0.cls index C n d host) s) (hdg : decode cc pc = .ok (.getstatic index, 3))
    (kk : W p l e R s m args below meth c H locs cells slots Q (F0 m (pc + 3) ls (v :: rest))) : W p l e R s m args below meth c H locs cells slots Q (F0 m pc ls rest) := by
  obtain ⟨cf, kf, fi, f, a, cell, h1, h2, h3, h4, h5, h6, h7, h8⟩ := hZ
  exact va_WgetsN hC.1 hC.2.1 hC.2.2.2.2.1 (va_Nw.use rfl hlink) h1 h2 h3 h4 h5 (fun e => by rw [e] at h6; cases h6) h7 rfl hdg kk
theorem gs (hC : CX p s m meth c y0 cc nL ret0 args) {C n d : String} {v : Value} {index : Nat} (hZ : va_Z C n d v A s H) (hlink : Cond.fieldLink y0.cls index C n d ∈ bigW) (hdg : decode cc pc = .ok (.getstatic index, 3))
    (kk : W p l e R s m args below meth c H locs cells slots Q (F0 m (pc + 3) ls (v :: rest))) : W p l e R s m args below meth c H locs cells slots Q (F0 m pc ls rest) := by
  obtain ⟨cf, kf, fi, f, a, cell, h1, h2, h3, h4, h5, h6, h7, h8⟩ := hZ
  exact W.gets hC.1 hC.2.1 hC.2.2.2.2.1 (hC.2.2.2.2.2.2.1 _ hlink) h1 h2 h3 h4 h5 (fun e => by rw [e] at h6; cases h6) h7 rfl hdg kk
/-- a class of the world: its words in the common list, its types -/
abbrev FW (C : String) (T : u_T) (N : Nat) (ty : Nat → FieldType) : Prop := (∀ w ∈ u_ws C T N, w ∈ bigW) ∧ (∀ k, k < N → parseFieldDescriptor (T k).2.2.1 = some (ty k)) ∧ (∀ a, a < N → ∀ b, b < N → a ≠ b → (T a).2.1 ≠ (T b).2.1)
theorem gf (hC : CX p s m meth c y0 cc nL ret0 args) {C : String} {T : u_T} {N ci index : Nat} {ty : Nat → FieldType} (hw : FW C T N ty) (hKN : KN G s H) (hP : PW G ws H) (q0 : Nat) {fs : List Value} (he : ws[q0]? = some (a, .inr (ci, fs))) (hc : vwCl[ci]? = some (C, T, N)) (k : Nat) (hk : k < N) {fo fn fd : String} {ff : Bool} (hT : T k = (fo, fn, fd, ff)) (hlink : Cond.fieldLink y0.cls index fo fn fd ∈ bigW) {v : Value} (hv : fs[k]? = some v) (hdg : decode cc pc = .ok (.getfield index, 3))
    (kk : W p l e R s m args below meth c H locs cells slots Q (F0 m (pc + 3) ls (v :: rest))) : W p l e R s m args below meth c H locs cells slots Q (F0 m pc ls (.ref a :: rest)) :=
  va_get (ref := fo) (index := index) hC.1 hC.2.1 hC.2.2.2.2.2.2.1 hw.1 hC.2.2.2.2.1 hKN.k hP q0 he hc k hk (by rw [hT]; exact hC.2.2.2.2.2.2.1 _ hlink) (by rw [hT]; exact fun _ h => h) hv hdg kk
theorem gfN (hC : CX p s m meth c y0 cc nL ret0 args) {C host : String} {T : u_T} {N ci index : Nat} {ty : Nat → FieldType} (hw : FW C T N ty) (hKN : KN G s H) (hP : PW G ws H) (q0 : Nat) {fs : List Value} (he : ws[q0]? = some (a, .inr (ci, fs))) (hc : vwCl[ci]? = some (C, T, N)) (k : Nat) (hk : k < N) {fo fn fd : String} {ff : Bool} (hT : T k = (fo, fn, fd, ff)) (hlink : va_Nw (.fieldLinkNest y0.cls index fo fn fd host) s) {v : Value} (hv : fs[k]? = some v) (hdg : decode cc pc = .ok (.getfield index, 3))
    (kk : W p l e R s m args below meth c H locs cells slots Q (F0 m (pc + 3) ls (v :: rest))) : W p l e R s m args below meth c H locs cells slots Q (F0 m pc ls (.ref a :: rest)) :=
  va_getN (host := host) (ref := fo) (index := index) hC.1 hC.2.1 hC.2.2.2.2.2.2.1 hw.1 hC.2.2.2.2.1 hKN.k hP q0 he hc k hk (by rw [hT]; exact va_Nw.use rfl hlink) (by rw [hT]; exact fun _ h => h) hv hdg kk
theorem pf (hC : CX p s m meth c y0 cc nL ret0 args) {C : String} {T : u_T} {N ci index : Nat} {ty : Nat → FieldType} (hw : FW C T N ty) (hKN : KN G s H) (hP : PW G ws H) (hD : va_D A ws) (hS : va_S A H0 H locs) (q0 : Nat) {fs : List Value} (he : ws[q0]? = some (a, .inr (ci, fs))) (hc : vwCl[ci]? = some (C, T, N)) (k : Nat) (hk : k < N) {fo fn fd : String} (hT : T k = (fo, fn, fd, false)) (hlink : Cond.fieldLink y0.cls index fo fn fd ∈ bigW) {v : Value} {tv : FieldType} (ht : ty k = tv) (hn : narrow tv v = v) (hfit : fits tv v = true) (hl : k < fs.length) (hdg : decode cc pc = .ok (.putfield index, 3))
    (kk : ∀ (H1 : Heap) (locs1 : List Loc), PW G (ws.set q0 (a, .inr (ci, fs.set k v))) H1 → va_S A H0 H1 locs1 → W p l e R s m args below meth c H1 locs1 cells slots Q (F0 m (pc + 3) ls rest)) : W p l e R s m args below meth c H locs cells slots Q (F0 m pc ls (v :: .ref a :: rest)) :=
  va_put (ref := fo) (index := index) (ty := tv) hC.1 hC.2.1 hC.2.2.2.2.2.2.1 hw.1 ty hw.2.1 hw.2.2 hC.2.2.2.2.1 hKN.k hP hD hS q0 he hc k hk (by rw [hT]; exact hC.2.2.2.2.2.2.1 _ hlink) (by rw [hT]; exact fun _ h => h) (by rw [hT]) (by rw [hw.2.1 k hk, ht]) hn hfit hl hdg (fun H1 locs1 h1 _ h3 => kk H1 locs1 h1 h3)
theorem pfN (hC : CX p s m meth c y0 cc nL ret0 args) {C host : String} {T : u_T} {N ci index : Nat} {ty : Nat → FieldType} (hw : FW C T N ty) (hKN : KN G s H) (hP : PW G ws H) (hD : va_D A ws) (hS : va_S A H0 H locs) (q0 : Nat) {fs : List Value} (he : ws[q0]? = some (a, .inr (ci, fs))) (hc : vwCl[ci]? = some (C, T, N)) (k : Nat) (hk : k < N) {fo fn fd : String} (hT : T k = (fo, fn, fd, false)) (hlink : va_Nw (.fieldLinkNest y0.cls index fo fn fd host) s) {v : Value} {tv : FieldType} (ht : ty k = tv) (hn : narrow tv v = v) (hfit : fits tv v = true) (hl : k < fs.length) (hdg : decode cc pc = .ok (.putfield index, 3))
    (kk : ∀ (H1 : Heap) (locs1 : List Loc), PW G (ws.set q0 (a, .inr (ci, fs.set k v))) H1 → va_S A H0 H1 locs1 → W p l e R s m args below meth c H1 locs1 cells slots Q (F0 m (pc + 3) ls rest)) : W p l e R s m args below meth c H locs cells slots Q (F0 m pc ls (v :: .ref a :: rest)) :=
  va_putN (host := host) (ref := fo) (index := index) (ty := tv) hC.1 hC.2.1 hC.2.2.2.2.2.2.1 hw.1 ty hw.2.1 hw.2.2 hC.2.2.2.2.1 hKN.k hP hD hS q0 he hc k hk (by rw [hT]; exact va_Nw.use rfl hlink) (by rw [hT]; exact fun _ h => h) (by rw [hT]) (by rw [hw.2.1 k hk, ht]) hn hfit hl hdg (fun H1 locs1 h1 _ h3 => kk H1 locs1 h1 h3)
theorem eP_i {F : Value} {v : Int32} (hC : CX p s m meth c y0 cc nL (some .int) args) (hF : F = .int v) (hdg : decode cc pc = .ok (.ireturn, 1)) : W p l e R s m args below meth c s.heap [] 0 0 (MQ below (QP F) args s 0 0 (fun _ => False)) (F0 m pc ls [.int v]) := by
  subst hF; exact W.iret hC.1 hC.2.1 hC.2.2.1 (fun t ht _ => ⟨rfl, ht⟩) (fun _ h => nomatch h) hdg hC.2.2.2.2.2.1
theorem eP_z {F : Value} {v : Int32} (hC : CX p s m meth c y0 cc nL (some .boolean) args) (hF : F = .int v) (hn : narrow .boolean (.int v) = .int v) (hdg : decode cc pc = .ok (.ireturn, 1)) : W p l e R s m args below meth c s.heap [] 0 0 (MQ below (QP F) args s 0 0 (fun _ => False)) (F0 m pc ls [.int v]) := by
  subst hF; exact W.zret hC.1 hC.2.1 hC.2.2.1 hn (fun t ht _ => ⟨rfl, ht⟩) (fun _ h => nomatch h) hdg hC.2.2.2.2.2.1
theorem eP_l {F : Value} {v : Int64} (hC : CX p s m meth c y0 cc nL (some .long) args) (hF : F = .long v) (hdg : decode cc pc = .ok (.lreturn, 1)) : W p l e R s m args below meth c s.heap [] 0 0 (MQ below (QP F) args s 0 0 (fun _ => False)) (F0 m pc ls [.long v]) := by
  subst hF; exact W.lret hC.1 hC.2.1 hC.2.2.1 (fun t ht _ => ⟨rfl, ht⟩) (fun _ h => nomatch h) hdg hC.2.2.2.2.2.1
theorem eP_d {F : Value} {v : UInt64} (hC : CX p s m meth c y0 cc nL (some .double) args) (hF : F = .double v) (hdg : decode cc pc = .ok (.dreturn, 1)) : W p l e R s m args below meth c s.heap [] 0 0 (MQ below (QP F) args s 0 0 (fun _ => False)) (F0 m pc ls [.double v]) := by
  subst hF; exact W.dret hC.1 hC.2.1 hC.2.2.1 (fun t ht _ => ⟨rfl, ht⟩) (fun _ h => nomatch h) hdg hC.2.2.2.2.2.1
theorem eP_f {F : Value} {v : UInt32} (hC : CX p s m meth c y0 cc nL (some .float) args) (hF : F = .float v) (hdg : decode cc pc = .ok (.freturn, 1)) : W p l e R s m args below meth c s.heap [] 0 0 (MQ below (QP F) args s 0 0 (fun _ => False)) (F0 m pc ls [.float v]) := by
  subst hF; exact W.fret hC.1 hC.2.1 hC.2.2.1 (fun t ht _ => ⟨rfl, ht⟩) (fun _ h => nomatch h) hdg hC.2.2.2.2.2.1
theorem eE_v {B1 : Heap → Prop} (hC : CX p s m meth c y0 cc nL none args) (hB : B1 H) (hS : va_S A s.heap H locs) (hdg : decode cc pc = .ok (.return_, 1)) : W p l e R s m args below meth c H locs cells slots (MQ below (QE none B1 A) args s cells slots A) (F0 m pc ls []) :=
  W.vret hC.1 hC.2.1 hC.2.2.1 (fun t ht _ => ⟨⟨rfl, by rw [ht]; exact hB⟩, hS.F ht⟩) hS.2.2 hdg hC.2.2.2.2.2.1
theorem eE_i {B1 : Heap → Prop} {F : Option Value} {v : Int32} (hC : CX p s m meth c y0 cc nL (some .int) args) (hF : F = some (.int v)) (hB : B1 H) (hS : va_S A s.heap H locs) (hdg : decode cc pc = .ok (.ireturn, 1)) : W p l e R s m args below meth c H locs cells slots (MQ below (QE F B1 A) args s cells slots A) (F0 m pc ls [.int v]) := by
  subst hF; exact W.iret hC.1 hC.2.1 hC.2.2.1 (fun t ht _ => ⟨⟨rfl, by rw [ht]; exact hB⟩, hS.F ht⟩) hS.2.2 hdg hC.2.2.2.2.2.1
theorem eE_z {B1 : Heap → Prop} {F : Option Value} {v : Int32} (hC : CX p s m meth c y0 cc nL (some .boolean) args) (hF : F = some (.int v)) (hn : narrow .boolean (.int v) = .int v) (hB : B1 H) (hS : va_S A s.heap H locs) (hdg : decode cc pc = .ok (.ireturn, 1)) : W p l e R s m args below meth c H locs cells slots (MQ below (QE F B1 A) args s cells slots A) (F0 m pc ls [.int v]) := by
  subst hF; exact W.zret hC.1 hC.2.1 hC.2.2.1 hn (fun t ht _ => ⟨⟨rfl, by rw [ht]; exact hB⟩, hS.F ht⟩) hS.2.2 hdg hC.2.2.2.2.2.1
theorem eE_l {B1 : Heap → Prop} {F : Option Value} {v : Int64} (hC : CX p s m meth c y0 cc nL (some .long) args) (hF : F = some (.long v)) (hB : B1 H) (hS : va_S A s.heap H locs) (hdg : decode cc pc = .ok (.lreturn, 1)) : W p l e R s m args below meth c H locs cells slots (MQ below (QE F B1 A) args s cells slots A) (F0 m pc ls [.long v]) := by
  subst hF; exact W.lret hC.1 hC.2.1 hC.2.2.1 (fun t ht _ => ⟨⟨rfl, by rw [ht]; exact hB⟩, hS.F ht⟩) hS.2.2 hdg hC.2.2.2.2.2.1
end ROWS

