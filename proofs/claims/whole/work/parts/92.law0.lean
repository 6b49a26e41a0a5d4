/-! the law: its rows -/
section LW0
variable {p : Program} {l : Launch} {e : Env} {R : Room} {s : State} {m : MethodId} {args : Array Value} {below : List Frame} {meth : Method} {c : Code} {H : Heap} {locs : List Loc} {cells slots : Nat} {Q : State → Prop}
variable {y y0 : MethodName} {bytes cc : ByteArray} {maxL nL mc ms n index : Nat} {ret ret0 : Option FieldType} {rm : Room} {Qc : Array Value → State → Outcome → State → Prop} {XC : String → State → State → Prop} {free : Addr → Prop} {b : Addr} {As rest st0 : List Value} {pc : Nat} {ls : Array Slot} {G : GT} {B : State → Heap → Prop}
theorem lv_lcmpE (hexec : p.tables.exec = Jvm.exec) (hb : c.code = cc) {x y : Int64} (hdg : decode cc pc = .ok (.lcmp, 1)) (h : x = y)
    (k : W p l e R s m args below meth c H locs cells slots Q (F0 m (pc + 1) ls (.int 0 :: rest))) : W p l e R s m args below meth c H locs cells slots Q (F0 m pc ls (.long y :: .long x :: rest)) := by
  subst h
  intro T hT X
  obtain ⟨t, a, b⟩ := k T hT X
  refine ⟨t, ?_, b⟩
  have h1 : ¬ (x > x) := fun h => Int64.lt_irrefl h
  jvm_step X.here [X.here.top, hexec, hb, hdg, h1]
  exact a
theorem rSX {hh : List (Nat × Nat × Nat × Nat)} (hC : CX p s m meth c y0 cc nL ret0 args) (hcw : Cond.codeWith y bytes maxL ret hh ∈ bigW) (hini : Cond.initialized y.cls ∈ bigW) (hst : Cond.static y ∈ bigW) (hlk : Cond.methodLink y0.cls index y ∈ bigW)
    (hd : y.cls ≠ "java/lang/invoke/MethodHandle" ∧ y.cls ≠ "java/lang/invoke/VarHandle" ∧ (parseMethodDescriptor y.desc).map (fun d => d.parameters.length) = some n)
    (hM : vx_Met l y (Cond.codeWith y bytes maxL ret hh :: bigW) rm (BP G As B) Qc XC mc ms free) (hrm : rm.cells = mc ∧ rm.slots = ms) (hR : rm.frames + 1 ≤ R.frames ∧ 8 + (maxL + 11) + rm.locals ≤ R.locals)
    (hSt : Stb B) (hKN : KN G s H) (hB : B s H)
    (hn : As.length = n) (hls : ls.size = nL) (hst0 : st0 = As.reverse ++ rest) (hW : (rest.map fun v => v.category).sum ≤ 8) (hdg : decode cc pc = .ok (.invokestatic index, 3)) (hf : cells + mc ≤ R.cells ∧ slots + ms ≤ R.slots) :
    vx_Run p l e R s m args below meth c H locs cells slots mc ms (F0 m pc ls st0) rest (Qc As.toArray) XC free :=
  vx_runSX (own := y0.cls) (Ts := bigW) (hh := hh) ⟨hC.1, hC.2.1, hC.2.2.2.1, hC.2.2.2.2.1, hC.2.2.2.2.2.2.1⟩ hM
    (vx_cwSW n hC.2.2.2.2.2.2.1 (fun w hw => by
      have hb : w ∈ bigW := by
        unfold va_wsS at hw
        rcases List.mem_append.mp hw with h | h
        · rcases List.mem_cons.mp h with h | h
          · rw [h]; exact hlk
          · rcases List.mem_cons.mp h with h | h
            · rw [h]; exact hst
            · rw [List.mem_singleton.mp h]; exact hini
        · rcases List.mem_cons.mp h with h | h
          · rw [h]; exact hcw
          · exact h
      exact ⟨hb, bw_good hb⟩) rfl hrm.1 hrm.2 hd hR)
    ⟨BP.blind hSt, fun U hU hw => ⟨rfl, by rw [hU]; exact hKN.warm hw, by rw [hU]; exact hSt s U H hw hB⟩⟩ rfl hn hls hst0 (lv_room hW) hdg hf
theorem runEX {F : Option Value} {a : Array Value} {B1 : Heap → Prop} {A0 A1 : Nat → Prop} {H0 : Heap} (hr : vx_Run p l e R s m args below meth c H locs cells slots mc ms (F0 m pc ls st0) rest (QE F B1 A1 a) (fun _ _ _ => False) free) (hS : va_S A0 H0 H locs) (hA : ∀ q, A1 q → A0 q) (hf : ∀ q, free q → A0 q)
    (kk : ∀ (H1 : Heap) (locs1 : List Loc), B1 H1 → H.size ≤ H1.size → (∀ q : Nat, q < H.size → ¬ A1 q → H1[q]? = H[q]?) → va_S A0 H0 H1 locs1 → W p l e R s m args below meth c H1 locs1 (cells + mc) (slots + ms) Q (F0 m (pc + 3) ls (F.toList ++ rest))) : W p l e R s m args below meth c H locs cells slots Q (F0 m pc ls st0) := by
  intro T hT X
  rcases hr T hT X with ⟨v, st₀, t, T', L, h0, X', hL, e1, e2, ⟨⟨hv, hb⟩, hF⟩, st⟩ | ⟨q, st₀, t, T', L, E, ce, h0, X', hL, e1, e2, hx, hce, hcv, hcl, st⟩
  · cases hv
    obtain ⟨k1, k2, k3⟩ := vx_keep h0 e1 hS (fun q _ h => hA q h) hf hL hF
    obtain ⟨t2, a1, b1⟩ := kk T'.heap (locs ++ L) (by rw [e1]; exact hb) k1 k2 k3 T' rfl X'
    exact ⟨t2, st t2 a1, b1⟩
  · exact hx.elim
end LW0
/-- the world of the law: the long array at w, HeadDots, the reference -/
def LWd (G : GT) (a b q : Nat → Nat) (w : Nat) (x : HV) (v : SV) (hs y : Int64) (A : Nat → Prop) (H : Heap) : Prop :=
  hdD G a b ∧ mdD G q ∧ gL G ≤ w ∧ (∀ z, hdA a b z → z ≠ w) ∧ (∀ z, wlA a b w z → ¬ mdA q z) ∧ (∀ z, wlA a b w z → A z) ∧ (∀ z, mdA q z → A z) ∧ PW G (wlE G w y :: hdW G a b x) H ∧ PW G (mdW G q v hs) H
theorem LWd.left {G : GT} {a b b' q : Nat → Nat} {w : Nat} {x x' : HV} {v : SV} {hs y y' : Int64} {A : Nat → Prop} {H H1 : Heap} (h : LWd G a b q w x v hs y A H) (hR : hdR G a b b') (hP : PW G (wlE G w y' :: hdW G a b' x') H1) (hk : ∀ z : Nat, z < H.size → ¬ wlA a b w z → H1[z]? = H[z]?) : LWd G a b' q w x' v hs y' A H1 := by
  obtain ⟨h1, h2, h3, h4, h5, h6, h7, h8, h9⟩ := h
  have hin : ∀ z, wlA a b' w z → wlA a b w z := fun z hz => hz.elim Or.inl (fun hz => Or.inr (hR.2 z hz))
  refine ⟨hR.1, h2, h3, fun z hz => h4 z (hR.2 z hz), fun z hz => h5 z (hin z hz), fun z hz => h6 z (hin z hz), h7, hP, va_P.kept h9 (fun k p hp => ?_)⟩
  exact hk _ ((h9 k p hp).lt) (fun z => h5 _ z ((mdD_D h2 v hs).2 k p hp))
theorem LWd.right {G : GT} {a b q : Nat → Nat} {w : Nat} {x : HV} {v v' : SV} {hs hs' y : Int64} {A : Nat → Prop} {H H1 : Heap} (h : LWd G a b q w x v hs y A H) (hP : PW G (mdW G q v' hs') H1) (hk : ∀ z : Nat, z < H.size → ¬ mdA q z → H1[z]? = H[z]?) : LWd G a b q w x v' hs' y A H1 := by
  obtain ⟨h1, h2, h3, h4, h5, h6, h7, h8, h9⟩ := h
  refine ⟨h1, h2, h3, h4, h5, h6, h7, va_P.kept h8 (fun k p hp => ?_), hP⟩
  exact hk _ ((h8 k p hp).lt) (h5 _ ((wl_D (hdR.rf h1) h4).2 k p hp))
/-- a call that HeadDots alone answers -/
theorem LWd.hd {G : GT} {a b q : Nat → Nat} {w : Nat} {x x' : HV} {v : SV} {hs y : Int64} {A : Nat → Prop} {H H1 : Heap} (h : LWd G a b q w x v hs y A H) (hP : PW G (hdW G a b x') H1) (hk : ∀ z : Nat, z < H.size → ¬ hdA a b z → H1[z]? = H[z]?) : LWd G a b q w x' v hs y A H1 :=
  h.left (hdR.rf h.1) (wl_join h.2.2.2.2.2.2.2.1 h.2.2.2.1 hk hP) (fun z hz hn => hk z hz (fun q => hn (Or.inr q)))
theorem LWd.P1 {G : GT} {a b q : Nat → Nat} {w : Nat} {x : HV} {v : SV} {hs y : Int64} {A : Nat → Prop} {H : Heap} (h : LWd G a b q w x v hs y A H) : PW G (wlE G w y :: hdW G a b x) H := h.2.2.2.2.2.2.2.1
theorem LWd.Ph {G : GT} {a b q : Nat → Nat} {w : Nat} {x : HV} {v : SV} {hs y : Int64} {A : Nat → Prop} {H : Heap} (h : LWd G a b q w x v hs y A H) : PW G (hdW G a b x) H := (PW_cons.mp h.P1).2
theorem LWd.P2 {G : GT} {a b q : Nat → Nat} {w : Nat} {x : HV} {v : SV} {hs y : Int64} {A : Nat → Prop} {H : Heap} (h : LWd G a b q w x v hs y A H) : PW G (mdW G q v hs) H := h.2.2.2.2.2.2.2.2
theorem LWd.A1 {G : GT} {a b q : Nat → Nat} {w : Nat} {x : HV} {v : SV} {hs y : Int64} {A : Nat → Prop} {H : Heap} (h : LWd G a b q w x v hs y A H) : ∀ z, wlA a b w z → A z := h.2.2.2.2.2.1
theorem LWd.Ah {G : GT} {a b q : Nat → Nat} {w : Nat} {x : HV} {v : SV} {hs y : Int64} {A : Nat → Prop} {H : Heap} (h : LWd G a b q w x v hs y A H) : ∀ z, hdA a b z → A z := fun z hz => h.A1 z (Or.inr hz)
theorem LWd.A2 {G : GT} {a b q : Nat → Nat} {w : Nat} {x : HV} {v : SV} {hs y : Int64} {A : Nat → Prop} {H : Heap} (h : LWd G a b q w x v hs y A H) : ∀ z, mdA q z → A z := h.2.2.2.2.2.2.1
/-- what the calls ask of the worlds -/
theorem RelH_x {n : Nat} {x : HV} {v : SV} (R : RelH n x v) : le_n (x 9 2 0) 6 ∧ (x 9 1 2).toNatClampNeg < 8 := by
  obtain ⟨q1, q2, ⟨k, k1, k2, k3, k4⟩, q5, q6⟩ := R
  exact ⟨by rw [k2]; exact le_n_nI k1 (by omega), q6⟩
theorem RelH_v {n : Nat} {x : HV} {v : SV} (R : RelH n x v) : MI v ∧ le_n (v 8 6) 60 ∧ DI v := by
  obtain ⟨q1, q2, ⟨k, k1, k2, k3, k4⟩, ⟨c, c1, c2, c3, c4⟩, q6⟩ := R
  have h6 : le_n (v 8 6) 60 := by rw [c3]; exact le_n_nI c1 (by omega)
  have g := q1.2
  refine ⟨⟨g.1, by rw [k3]; exact le_n_nI k1 (by omega)⟩, h6, g.1, ?_, fun j hj => ?_, h6⟩
  · rw [g.2.2.2.1.1]; exact le_n_nI g.2.2.2.1.2 (by omega)
  · rw [(g.2.2.2.2.1 j hj).1]; exact le_n_nI (g.2.2.2.2.1 j hj).2 (by omega)
/-- at pc, with n calls done and the counter i4, the law comes to its end -/
abbrev LAt (p : Program) (l : Launch) (e : Env) (s : State) (m : MethodId) (below : List Frame) (meth : Method) (c : Code) (G : GT) (b pc n : Nat) (i4 : Int32) : Prop :=
  ∀ (a b0 q : Nat → Nat) (w : Nat) (x : HV) (v : SV) (hs y : Int64) (H : Heap) (locs : List Loc) (cells slots : Nat) (ls : Array Slot), RelH n x v → LWd G a b0 q w x v hs y (fun z => s.heap.size ≤ z) H → va_S (fun z => s.heap.size ≤ z) s.heap H locs → cells ≤ 114 + n → slots ≤ 2769 + 6 * n → lv_has ls 9 [(4, .int i4), (3, .ref w), (2, .ref (q 0)), (1, .ref (a 0)), (0, .ref b)] → W p l e room_1 s m #[Value.ref b] below meth c H locs cells slots (lw_Z below #[Value.ref b] s) (F0 m pc ls [])
abbrev lawName (meth : Method) : MethodName := ⟨"HeadDotsLaw", meth.name, "([I)Z"⟩
