/-! the law's wrappers: a call of a method that answers an int or throws, and the catching -/
section RT
variable {p : Program} {l : Launch} {e : Env} {R : Room} {s : State} {m : MethodId} {args : Array Value} {below : List Frame} {meth : Method} {c : Code} {H : Heap} {locs : List Loc} {cells slots : Nat} {Q : State → Prop}
variable {y y0 : MethodName} {bytes cc : ByteArray} {maxL nL mc ms n index : Nat} {ret ret0 : Option FieldType} {rm : Room} {Qc : Array Value → State → Outcome → State → Prop} {XC : String → State → State → Prop} {free : Addr → Prop} {b : Addr} {As rest st0 : List Value} {pc : Nat} {ls : Array Slot} {G : GT} {B : State → Heap → Prop}
theorem runT {F : (HV × Int32) ⊕ (Nat × HV)} {B1 : HV → Heap → Prop} {A0 A1 : Nat → Prop} {H0 : Heap} {a : Array Value} (hr : vx_Run p l e R s m args below meth c H locs cells slots mc ms (F0 m pc ls st0) rest (QT F B1 A1 a) (XT F B1 A1) free) (hS : va_S A0 H0 H locs) (hA : ∀ q, A1 q → A0 q) (hf : ∀ q, free q → A0 q)
    (kk : ∀ (x' : HV) (v : Int32), F = .inl (x', v) → ∀ (H1 : Heap) (locs1 : List Loc), B1 x' H1 → H.size ≤ H1.size → (∀ q : Nat, q < H.size → ¬ A1 q → H1[q]? = H[q]?) → va_S A0 H0 H1 locs1 → W p l e R s m args below meth c H1 locs1 (cells + mc) (slots + ms) Q (F0 m (pc + 3) ls (.int v :: rest)))
    (kx : ∀ (k : Nat) (x' : HV), F = .inr (k, x') → k < 3 → ∀ (ce : Cell) (q9 : Addr) (H1 : Heap) (locs1 : List Loc), B1 x' H1 → H.size ≤ H1.size → (∀ q : Nat, q < H.size → ¬ A1 q → H1[q]? = H[q]?) → va_S A0 H0 H1 locs1 → H1[q9]? = some ce → ce.vm = .none → s.vm.findClass (exN k) = some ce.cls → vx_W p l e R s m args below meth c H1 locs1 (cells + mc) (slots + ms) Q (F0 m pc ls rest) q9) : W p l e R s m args below meth c H locs cells slots Q (F0 m pc ls st0) := by
  intro T hT X
  rcases hr T hT X with ⟨v, st₀, t, T', L, h0, X', hL, e1, e2, ⟨r, hF', ⟨hv, hb⟩, hF⟩, st⟩ | ⟨q, st₀, t, T', L, E, ce, h0, X', hL, e1, e2, ⟨k, x', hF', hk, hE, hb, hF⟩, hce, hcv, hcl, st⟩
  · cases hv
    obtain ⟨k1, k2, k3⟩ := vx_keep h0 e1 hS (fun q _ h => hA q h) hf hL hF
    obtain ⟨t2, a1, b1⟩ := kk r.1 r.2 hF' T'.heap (locs ++ L) (by rw [e1]; exact hb) k1 k2 k3 T' rfl X'
    exact ⟨t2, st t2 a1, b1⟩
  · subst hE
    obtain ⟨k1, k2, k3⟩ := vx_keep h0 e1 hS (fun q _ h => hA q h) hf hL hF
    obtain ⟨t2, a1, b1⟩ := kx k x' hF' hk ce q T'.heap (locs ++ L) (by rw [e1]; exact hb) k1 k2 k3 (by rw [e1]; exact hce) hcv hcl T' rfl X'
    exact ⟨t2, st.trans a1, b1⟩
theorem rVT (hC : CX p s m meth c y0 cc nL ret0 args) (hm : MW y bytes maxL ret n) (hM : vx_Met l y (Cond.code y bytes maxL ret :: bigW) rm (BP G (.ref b :: As) B) Qc XC mc ms free) (hi : IW y) (hlk : Cond.methodLink y0.cls index y ∈ bigW) (hrm : rm.cells = mc ∧ rm.slots = ms) (hR : rm.frames + 1 ≤ R.frames ∧ 8 + (maxL + 11) + rm.locals ≤ R.locals)
    (hSt : Stb B) (hKN : KN G s H) (hB : B s H)
    (hrc : ∃ cellB : Cell, H[b]? = some cellB ∧ cellB.vm.isStatics = false ∧ s.vm.findClass y.cls = some cellB.cls)
    (hn : As.length = n) (hls : ls.size = nL) (hst : st0 = As.reverse ++ .ref b :: rest) (hW : (rest.map fun v => v.category).sum ≤ 8) (hdg : decode cc pc = .ok (.invokevirtual index, 3)) (hf : cells + mc ≤ R.cells ∧ slots + ms ≤ R.slots) :
    vx_Run p l e R s m args below meth c H locs cells slots mc ms (F0 m pc ls st0) rest (Qc (Value.ref b :: As).toArray) XC free :=
  vx_runV (own := y0.cls) (C := y.cls) (Ts := bigW) ⟨hC.1, hC.2.1, hC.2.2.2.1, hC.2.2.2.2.1, hC.2.2.2.2.2.2.1⟩ hM ⟨cb_of hC hm hlk hrm hR, hC.2.2.2.2.2.2.1 _ hi.1, hC.2.2.2.2.2.2.1 _ hi.2⟩
    ⟨BP.blind hSt, hrc, fun U hU hw => ⟨rfl, by rw [hU]; exact hKN.warm hw, by rw [hU]; exact hSt s U H hw hB⟩⟩ rfl hn hls hst (lv_room hW) hdg hf
/-- caught by the row x of this method's table -/
theorem ctch (hC : CX p s m meth c y0 cc nL ret0 args) {k : Nat} {ce : Cell} {q : Addr} (hKN : KN G s H) (hk : k < 3) (pre : List ExceptionTableEntry) (x : ExceptionTableEntry) (suf : List ExceptionTableEntry) (hsplit : c.exceptionTable.toList = pre ++ x :: suf)
    (hpass : ∀ z ∈ pre, z.catchType ≠ 0 ∧ ∃ nm : String, Cond.classLink y0.cls z.catchType nm ∈ bigW ∧ va_Nc (exN k) nm s) (hx : covers x pc = true) (h0 : x.catchType ≠ 0) (hlink : Cond.classLink y0.cls x.catchType (exN k) ∈ bigW) (hcell : H[q]? = some ce) (hv : ce.vm = .none) (hcl : s.vm.findClass (exN k) = some ce.cls)
    (kk : W p l e R s m args below meth c H locs cells slots Q (F0 m x.handlerPc ls [.ref q])) : vx_W p l e R s m args below meth c H locs cells slots Q (F0 m pc ls rest) q :=
  vx_catch (own := y0.cls) (name := exN k) hC.2.2.2.2.1 pre x suf hsplit (fun z hz => by
    obtain ⟨h1, nm, h2, h3⟩ := hpass z hz
    exact Or.inr ⟨h1, nm, hC.2.2.2.2.2.2.1 _ h2, h3⟩) hx h0 (hC.2.2.2.2.2.2.1 _ hlink) (va_Nw.use rfl (hKN.2.2.2.2.2.1 _ (ex_cx hk).1)) hcell hv hcl kk
end RT
theorem met_ofXH {l : Launch} {y : MethodName} {cc : ByteArray} {maxL : Nat} {ret : Option FieldType} {hh : List (Nat × Nat × Nat × Nat)} {rm : Room} {G : GT} {av : List Value} {B : State → Heap → Prop} {Qc : Array Value → State → Outcome → State → Prop} {XC : String → State → State → Prop} {mc ms : Nat} {free : Addr → Prop}
    (hy : plainName y.cls = true) (hn : (lg_sl av).length ≤ maxL)
    (body : ∀ (p : Program) (e : Env) (s : State) (m : MethodId) (below : List Frame) (meth : Method) (c : Code) (ls : Array Slot), CX p s m meth c y cc maxL ret av.toArray → c.exceptionTable.toList = tableOf hh → KN G s s.heap → B s s.heap → lv_has ls maxL (lv_args 0 av) → W p l e rm s m av.toArray below meth c s.heap [] 0 0 (vx_MQ below Qc XC av.toArray s mc ms free) (F0 m 0 ls [])) :
    vx_Met l y (Cond.codeWith y cc maxL ret hh :: bigW) rm (BP G av B) Qc XC mc ms free := by
  refine vx_ofWH (cc := cc) (maxL := maxL) (ret := ret) (hh := hh) hy rfl ?_
  intro p e s m args below meth c s₁ Bd hml hv
  obtain ⟨rfl, hK, hB⟩ := hv
  have hts := atoms_spec (ws := Cond.codeWith y cc maxL ret hh :: bigW) Bd.pre
  rw [lg_entry_eq]
  exact body p e s m below meth c _ ⟨Bd.exec, Bd.bytes, Bd.returns, hml, findClass_of_methodNamed Bd.named, Bd.notSynchronized, fun w hw => hts w (List.mem_cons_of_mem _ hw), (name_of_methodNamed Bd.named Bd.method).1⟩ (vx_table (x := y) Bd (hts _ List.mem_cons_self)) hK hB (lv_entry av hn)
