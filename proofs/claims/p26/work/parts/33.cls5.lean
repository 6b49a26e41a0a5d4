/-! making: rows of the constructors -/
theorem va_D_fst {A : Nat → Prop} {ws ws' : va_W} (hD : va_D A ws) (h : ws'.map Prod.fst = ws.map Prod.fst) : va_D A ws' := by
  have key : ∀ (k : Nat) (p : Nat × va_E), ws'[k]? = some p → ∃ p', ws[k]? = some p' ∧ p'.1 = p.1 := by
    intro k p hk
    have h1 : (ws'.map Prod.fst)[k]? = some p.1 := by rw [List.getElem?_map, hk]; rfl
    rw [h, List.getElem?_map] at h1
    cases hr : ws[k]? with
    | none => rw [hr] at h1; cases h1
    | some z => rw [hr] at h1; exact ⟨z, rfl, Option.some.inj h1⟩
  refine ⟨fun i j p q hi hj e => ?_, fun k p hk => ?_⟩
  · obtain ⟨p', h1, h2⟩ := key i p hi
    obtain ⟨q', h3, h4⟩ := key j q hj
    exact hD.1 i j p' q' h1 h3 (by rw [h2, h4, e])
  · obtain ⟨p', h1, h2⟩ := key k p hk
    rw [← h2]
    exact hD.2 k p' h1
/-- behind a constructor that had the newest object alone -/
theorem mk_join {G : GT} {A : Nat → Prop} {L w1 : va_W} {z : Nat} {e : va_E} {H H1 : Heap} (hP : PW G (L ++ [(z, e)]) H) (hD : va_D A (L ++ [(z, e)])) (hA : ∀ q, H.size ≤ q → A q) (hk : ∀ q : Nat, q < H.size → ¬ va_A [(z, e)] H.size q → H1[q]? = H[q]?) (hP1 : PW G w1 H1) (hD1 : va_D (va_A [(z, e)] H.size) w1) : PW G (L ++ w1) H1 ∧ va_D A (L ++ w1) := by
  have hL : ∀ (k : Nat) (p : Nat × va_E), L[k]? = some p → (L ++ [(z, e)])[k]? = some p := fun k p h => by
    rw [List.getElem?_append_left (List.getElem?_eq_some_iff.mp h).1]
    exact h
  have hz : (L ++ [(z, e)])[L.length]? = some (z, e) := by
    rw [List.getElem?_append_right (Nat.le_refl _), Nat.sub_self]
    rfl
  have hn : ∀ (k : Nat) (p : Nat × va_E), L[k]? = some p → p.1 < H.size ∧ p.1 ≠ z := fun k p h => by
    refine ⟨(hP k p (hL k p h)).lt, fun e1 => ?_⟩
    have e2 := hD.1 k L.length p (z, e) (hL k p h) hz e1
    have := (List.getElem?_eq_some_iff.mp h).1
    omega
  have hA1 : ∀ q, va_A [(z, e)] H.size q → q = z ∨ H.size ≤ q := fun q h => by
    rcases h with ⟨k, e', h⟩ | h
    · cases k with
      | zero => cases h; exact Or.inl rfl
      | succ k => simp at h
    · exact Or.inr h
  have hPL : PW G L H1 := fun k p h => (hP k p (hL k p h)).kept (hk p.1 (hn k p h).1 (fun q => by
    rcases hA1 _ q with q | q
    · exact (hn k p h).2 q
    · exact absurd (hn k p h).1 (by omega)))
  have hDL : va_D A L := ⟨fun i j p q hi hj e => hD.1 i j p q (hL i p hi) (hL j q hj) e, fun k p h => hD.2 k p (hL k p h)⟩
  have hDw : va_D A w1 := ⟨hD1.1, fun k p h => by
    rcases hA1 _ (hD1.2 k p h) with q | q
    · rw [q]; exact hD.2 _ _ hz
    · exact hA _ q⟩
  refine ⟨va_P.app hPL hP1, hDL.app hDw (fun i j p q hi hj e => ?_)⟩
  rcases hA1 _ (hD1.2 j q hj) with r | r
  · exact (hn i p hi).2 (e.trans r)
  · exact absurd (hn i p hi).1 (by omega)
theorem mk_free {A : Nat → Prop} {L : va_W} {z : Nat} {e : va_E} {n : Nat} (hD : va_D A (L ++ [(z, e)])) (hA : ∀ q, n ≤ q → A q) : ∀ q, va_A [(z, e)] n q → A q := fun q h => by
  rcases h with ⟨k, e', h⟩ | h
  · cases k with
    | zero => cases h; exact hD.2 L.length (z, e) (by rw [List.getElem?_append_right (Nat.le_refl _), Nat.sub_self]; rfl)
    | succ k => simp at h
  · exact hA q h
theorem mk_low {A : Nat → Prop} {G : GT} {q N : Nat} {e : va_E} (hA : A = va_A [(q, e)] N) (hq : gL G ≤ q) (hN : gL G ≤ N) : ∀ z, A z → gL G ≤ z := fun z h => by
  rw [hA] at h
  rcases h with ⟨k, e', h⟩ | h
  · cases k with
    | zero => cases h; exact hq
    | succ k => simp at h
  · exact Nat.le_trans hN h
theorem mk_D {q N : Nat} {e : va_E} : va_D (va_A [(q, e)] N) [(q, e)] := by
  refine ⟨fun i j p r hi hj _ => ?_, fun k p hk => Or.inl ⟨k, p.2, hk⟩⟩
  have := (List.getElem?_eq_some_iff.mp hi).1
  have := (List.getElem?_eq_some_iff.mp hj).1
  simp at *
  omega
section CT
variable {p : Program} {l : Launch} {e : Env} {R : Room} {s : State} {m : MethodId} {args : Array Value} {below : List Frame} {meth : Method} {c : Code} {H : Heap} {locs : List Loc} {cells slots : Nat} {Q : State → Prop}
variable {y y0 : MethodName} {cc bytes : ByteArray} {nL maxL index mc ms : Nat} {ret0 : Option FieldType} {rest st0 : List Value} {pc : Nat} {ls : Array Slot} {G : GT} {ws : va_W} {A : Nat → Prop} {H0 : Heap} {a : Nat} {rm : Room} {Qc : Array Value → State → Outcome → State → Prop} {free : Addr → Prop} {b : Addr} {B : State → Heap → Prop}
theorem oI (hC : CX p s m meth c y0 cc nL ret0 args) (hlk : Cond.methodLink y0.cls index ⟨"java/lang/Object", "<init>", "()V"⟩ ∈ bigW) (hls : ls.size = nL) (hdg : decode cc pc = .ok (.invokespecial index, 3)) (hf : 1 ≤ R.frames) (hl : (rest.map fun v => v.category).sum + 12 ≤ R.locals)
    (kk : W p l e R s m args below meth c H locs cells slots Q (F0 m (pc + 3) ls rest)) : W p l e R s m args below meth c H locs cells slots Q (F0 m pc ls (.ref a :: rest)) :=
  W.objInit hC.1 hC.2.1 hC.2.2.2.2.1 (hC.2.2.2.2.2.2.1 _ hlk) (hC.2.2.2.2.2.2.1 _ wd_21) (hC.2.2.2.2.2.2.1 _ wd_22) rfl (hls.trans hC.2.2.2.1.symm) rfl hdg hf (by show 2 * 0 + _ + 12 ≤ _; omega) kk
theorem nwI (hC : CX p s m meth c y0 cc nL ret0 args) (hKN : KN G s H) (hP : PW G ws H) (hD : va_D A ws) (hS : va_S A H0 H locs) (hA : ∀ q, H0.size ≤ q → A q) (n : Nat) {i : Int32} (hi : i = nI n) (hn : n < 2 ^ 20) (hcells : cells + 1 ≤ R.cells) (hslots : slots + n ≤ R.slots) (hdg : decode cc pc = .ok (.newarray .int, 2))
    (kk : ∀ (z : Nat) (H1 : Heap), PW G (ws ++ [(z, .inl (gI G, n, .inl (fun _ => 0)))]) H1 → va_D A (ws ++ [(z, .inl (gI G, n, .inl (fun _ => 0)))]) → va_S A H0 H1 locs → W p l e R s m args below meth c H1 locs (cells + 1) (slots + n) Q (F0 m (pc + 2) ls (.ref z :: rest))) : W p l e R s m args below meth c H locs cells slots Q (F0 m pc ls (.int i :: rest)) := by
  subst hi
  have hr : s.vm.findClass ("[" ++ FieldType.int.toString) = some (gI G) := (hKN.1.1.2 0 _ rfl).2
  refine va_newaK (atype := .int) hC.1 hC.2.1 (hC.2.2.2.2.2.2.1 _ wd_61) rfl hdg rfl (nI_pos (by omega)) (nI_clamp (by omega)) (show n * 4 ≤ 536870912 by omega) hcells hslots rfl fun H1 cA e1 z1 o1 hAr hNm => ?_
  have e : cA = gI G := Option.some.inj (hNm.symm.trans hr)
  subst e
  have hk : ∀ (k : Nat) (x : Nat × va_E), ws[k]? = some x → H1[x.1]? = H[x.1]? := fun k x hx => o1 x.1 ((hP k x hx).lt)
  refine kk H.size H1 ((hP.kept hk).app (fun k x hx => ?_)) (hD.push hP rfl (hA _ hS.1)) ⟨Nat.le_trans hS.1 (by omega), fun x h1 h2 => (o1 x (Nat.lt_of_lt_of_le h1 hS.1)).trans (hS.2.1 x h1 h2), hS.2.2⟩
  have hz : k < 1 := (List.getElem?_eq_some_iff.mp hx).1
  rw [show k = 0 by omega] at hx
  cases hx
  exact e1
theorem nwO (hC : CX p s m meth c y0 cc nL ret0 args) (hKN : KN G s H) (hP : PW G ws H) (hD : va_D A ws) (hS : va_S A H0 H locs) (hA : ∀ q, H0.size ≤ q → A q) {C : String} {T : u_T} {N ci : Nat} {ty : Nat → FieldType} (hw : FW C T N ty) (hc : vwCl[ci]? = some (C, T, N)) (hcl : Cond.classLink y0.cls index C ∈ bigW) (hinst : Cond.instantiable C N ∈ bigW) (hini : Cond.initialized C ∈ bigW) {fs : List Value} (hfs : ∀ j, j < N → defaultValue (ty j) = vp_V fs j) (hcells : cells + 1 ≤ R.cells) (hslots : slots + N ≤ R.slots) (hdg : decode cc pc = .ok (.new index, 3))
    (kk : ∀ (z : Nat) (H1 : Heap), PW G (ws ++ [(z, .inr (ci, fs))]) H1 → va_D A (ws ++ [(z, .inr (ci, fs))]) → va_S A H0 H1 locs → gL G ≤ z → W p l e R s m args below meth c H1 locs (cells + 1) (slots + N) Q (F0 m (pc + 3) ls (.ref z :: rest))) : W p l e R s m args below meth c H locs cells slots Q (F0 m pc ls rest) := by
  have hK := hKN.k
  have hKn := hK.1 ci _ hc
  refine W.newcK hC.1 hC.2.1 hC.2.2.2.2.1 (hC.2.2.2.2.2.2.1 _ hcl) (hC.2.2.2.2.2.2.1 _ hinst) (hC.2.2.2.2.2.2.1 _ hini) rfl hdg hcells hslots hKn.2.1 rfl fun H1 kC hkC e1 z1 o1 => ?_
  have hk : ∀ (k : Nat) (x : Nat × va_E), ws[k]? = some x → H1[x.1]? = H[x.1]? := fun k x hx => o1 x.1 ((hP k x hx).lt)
  refine kk H.size H1 ((hP.kept hk).app (fun k x hx => ?_)) (hD.push hP rfl (hA _ hS.1)) ⟨Nat.le_trans hS.1 (by omega), fun x h1 h2 => (o1 x (Nat.lt_of_lt_of_le h1 hS.1)).trans (hS.2.1 x h1 h2), hS.2.2⟩ hKN.1.2
  have hz : k < 1 := (List.getElem?_eq_some_iff.mp hx).1
  rw [show k = 0 by omega] at hx
  cases hx
  exact ⟨_, hc, (u_born ty hC.2.2.2.2.2.2.1 hw.1 hKn hkC e1 hw.2.1).to hfs⟩
theorem nwQ (hC : CX p s m meth c y0 cc nL ret0 args) (hKN : KN G s H) (hP : PW G ws H) (hD : va_D A ws) (hS : va_S A H0 H locs) (hA : ∀ q, H0.size ≤ q → A q) (hcl : Cond.classLink y0.cls index "HeadDots$State" ∈ bigW) (n : Nat) {i : Int32} (hi : i = nI n) (hn : n < 2 ^ 20) (hcells : cells + 1 ≤ R.cells) (hslots : slots + n ≤ R.slots) (hdg : decode cc pc = .ok (.anewarray index, 3))
    (kk : ∀ (z : Nat) (H1 : Heap), PW G (ws ++ [(z, .inl (gR G, n, .inr (.inr (.inr (.inr (fun _ => none))))))]) H1 → va_D A (ws ++ [(z, .inl (gR G, n, .inr (.inr (.inr (.inr (fun _ => none))))))]) → va_S A H0 H1 locs → W p l e R s m args below meth c H1 locs (cells + 1) (slots + n) Q (F0 m (pc + 3) ls (.ref z :: rest))) : W p l e R s m args below meth c H locs cells slots Q (F0 m pc ls (.int i :: rest)) := by
  subst hi
  refine va_newq hC.1 hC.2.1 hC.2.2.2.2.1 (hC.2.2.2.2.2.2.1 _ hcl) hKN.2.2.2.2 hKN.k hP hD hS hA (nI_pos (by omega)) (nI_clamp (by omega)) (by omega) hcells hslots hdg (fun q cA H1 hK h1 h2 h3 => ?_)
  obtain ⟨k1, c1, f1, f2, f3, f4⟩ := (hKN.1.1.2 1 _ rfl).2
  obtain ⟨k2, c2, g1, g2, g3, g4⟩ := (hK.2 2 _ rfl).2
  have e : cA = gR G := Option.some.inj (g4.symm.trans f4)
  subst e
  exact kk q H1 h1 h2 h3
theorem rI (hC : CX p s m meth c y0 cc nL ret0 args) (hm : MW y bytes maxL none 0) (hM : Met l y (Cond.code y bytes maxL none :: bigW) rm (BP G [.ref b] B) Qc mc ms free) (hy : y.name = "<init>") (hi : Cond.instanceMethod y ∈ bigW) (hlk : Cond.methodLink y0.cls index y ∈ bigW) (hrm : rm.cells = mc ∧ rm.slots = ms) (hR : rm.frames + 1 ≤ R.frames ∧ 8 + (maxL + 11) + rm.locals ≤ R.locals)
    (hSt : Stb B) (hKN : KN G s H) (hB : B s H)
    (hls : ls.size = nL) (hW : (rest.map fun v => v.category).sum ≤ 8) (hdg : decode cc pc = .ok (.invokespecial index, 3)) (hf : cells + mc ≤ R.cells ∧ slots + ms ≤ R.slots) :
    va_Run p l e R s m args below meth c H locs cells slots mc ms (F0 m pc ls (.ref b :: rest)) rest (Qc [Value.ref b].toArray) free :=
  va_runI (own := y0.cls) (As := []) (Ts := bigW) ⟨hC.1, hC.2.1, hC.2.2.2.1, hC.2.2.2.2.1, hC.2.2.2.2.2.2.1⟩ hM ⟨cb_of hC hm hlk hrm hR, hy, hC.2.2.2.2.2.2.1 _ hi⟩
    ⟨BP.blind hSt, fun U hU hw => ⟨rfl, by rw [hU]; exact hKN.warm hw, by rw [hU]; exact hSt s U H hw hB⟩⟩ rfl rfl hls rfl (lv_room hW) hdg hf
theorem pfF (hC : CX p s m meth c y0 cc nL ret0 args) {C : String} {T : u_T} {N ci index : Nat} {ty : Nat → FieldType} (hw : FW C T N ty) (hKN : KN G s H) (hP : PW G ws H) (hD : va_D A ws) (hS : va_S A H0 H locs) (q0 : Nat) {fs : List Value} (he : ws[q0]? = some (a, .inr (ci, fs))) (hc : vwCl[ci]? = some (C, T, N)) (k : Nat) (hk : k < N) {fo fn fd : String} (hT : T k = (fo, fn, fd, true)) (hy : y0.name = "<init>") (ho : fo = y0.cls) (hlink : Cond.fieldLink y0.cls index fo fn fd ∈ bigW) {v : Value} {tv : FieldType} (ht : ty k = tv) (hn : narrow tv v = v) (hfit : fits tv v = true) (hl : k < fs.length) (hdg : decode cc pc = .ok (.putfield index, 3))
    (kk : ∀ (H1 : Heap) (locs1 : List Loc), PW G (ws.set q0 (a, .inr (ci, fs.set k v))) H1 → va_S A H0 H1 locs1 → W p l e R s m args below meth c H1 locs1 cells slots Q (F0 m (pc + 3) ls rest)) : W p l e R s m args below meth c H locs cells slots Q (F0 m pc ls (v :: .ref a :: rest)) :=
  va_putF (ref := fo) (index := index) (ty := tv) hC.1 hC.2.1 hC.2.2.2.2.2.2.1 hw.1 ty hw.2.1 hw.2.2 hC.2.2.2.2.1 hKN.k hP hD hS q0 he hc k hk (by rw [hT]; exact hC.2.2.2.2.2.2.1 _ hlink) (by rw [hT]; exact fun _ h => h) (by rw [hT]) (hC.2.2.2.2.2.2.2.trans hy) (by rw [hT]; exact ho) (by rw [hw.2.1 k hk, ht]) hn hfit hl hdg (fun H1 locs1 h1 _ h3 => kk H1 locs1 h1 h3)
end CT
