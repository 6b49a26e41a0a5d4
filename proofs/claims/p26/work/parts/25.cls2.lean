section HDP
variable {G : GT} {a b : Nat → Nat} {x x' : HV} {H : Heap} {c : Nat × va_E} {k : Nat} {v' : SV}
theorem hd_put2 (h : PW G (List.set (hdW G a b x) (27 + k) c) H) (hk : k < 11) (e : List.set (stW G (sA a 2) (x 2)) k c = stW G (sA a 2) v') : PW G (hdW G a b (mkH (x 0) (x 1) v' (x 3) (x 4) (x 5) (x 6) (x 7) (x 8) (x 9 0) (x 9 1) (x 9 2 0) (x 9 2 1) (x 9 2 2))) H := by
  have q : List.set (hdW G a b x) (27 + k) c = hdO G a b x ++ (stW G (sA a 0) (x 0) ++ (stW G (sA a 1) (x 1) ++ (stW G (sA a 2) v' ++ hdT G b x))) := by
    unfold hdW
    have l0 : (hdO G a b x).length = 5 := rfl
    have l1 : (stW G (sA a 0) (x 0)).length = 11 := rfl
    have l2 : (stW G (sA a 1) (x 1)).length = 11 := rfl
    have l3 : (stW G (sA a 2) (x 2)).length = 11 := rfl
    rw [List.set_append, l0, if_neg (by omega), List.set_append, l1, if_neg (by omega), List.set_append, l2, if_neg (by omega), List.set_append, l3, if_pos (by omega), show 27 + k - 5 - 11 - 11 = k by omega, e]
  rw [q] at h
  exact h
theorem hd_putO (h : PW G (List.set (hdW G a b x) k c) H) (hk : k < 5) (e : List.set (hdO G a b x) k c = hdO G a b x') (e0 : x' 0 = x 0) (e1 : x' 1 = x 1) (e2 : x' 2 = x 2) (e3 : x' 3 = x 3) (e4 : x' 4 = x 4) (e5 : x' 5 = x 5) (e6 : x' 6 = x 6) (e7 : x' 7 = x 7) (e8 : x' 8 = x 8) : PW G (hdW G a b x') H := by
  have q : List.set (hdW G a b x) k c = hdW G a b x' := by
    unfold hdW hdT
    have l0 : (hdO G a b x).length = 5 := rfl
    rw [List.set_append, l0, if_pos hk, e, e0, e1, e2, e3, e4, e5, e6, e7, e8]
  rw [q] at h
  exact h
end HDP
theorem va_D_mono {A A' : Nat → Prop} {ws : va_W} (h : va_D A ws) (hA : ∀ z, A z → A' z) : va_D A' ws := ⟨h.1, fun k q hk => hA _ (h.2 k q hk)⟩
section HDR
variable {p : Program} {l : Launch} {e : Env} {R : Room} {s : State} {m : MethodId} {args : Array Value} {below : List Frame} {meth : Method} {c : Code} {H : Heap} {locs : List Loc} {cells slots : Nat} {Q : State → Prop}
variable {y0 : MethodName} {cc : ByteArray} {nL : Nat} {ret0 : Option FieldType} {rest : List Value} {pc : Nat} {ls : Array Slot} {G : GT} {H0 : Heap} {a b : Nat → Nat} {x x' : HV} {q : Nat}
theorem hd_at2 {k0 : Nat} (hk0 : k0 < 11) {z : Nat × va_E} (he : (stW G (sA a 2) (x 2))[k0]? = some z) : (hdW G a b x)[27 + k0]? = some z := by
  unfold hdW
  have l0 : (hdO G a b x).length = 5 := rfl
  have l1 : (stW G (sA a 0) (x 0)).length = 11 := rfl
  have l2 : (stW G (sA a 1) (x 1)).length = 11 := rfl
  have l3 : (stW G (sA a 2) (x 2)).length = 11 := rfl
  rw [List.getElem?_append_right (by rw [l0]; omega), l0, List.getElem?_append_right (by rw [l1]; omega), l1, List.getElem?_append_right (by rw [l2]; omega), l2, List.getElem?_append_left (by rw [l3]; omega), show 27 + k0 - 5 - 11 - 11 = k0 by omega]
  exact he
theorem hd_atO {k0 : Nat} (hk0 : k0 < 5) {z : Nat × va_E} (he : (hdO G a b x)[k0]? = some z) : (hdW G a b x)[k0]? = some z := by
  unfold hdW
  rw [List.getElem?_append_left hk0]
  exact he
theorem pf2N (hC : CX p s m meth c y0 cc nL ret0 args) {C host : String} {T : u_T} {N ci index : Nat} {ty : Nat → FieldType} (hw : FW C T N ty) (hKN : KN G s H) (hP : PW G (hdW G a b x) H) (hq : hdD G a b) {A : Nat → Prop} (hAb : ∀ z, hdA a b z → A z) (hS : va_S A H0 H locs) (k0 : Nat) (hk0 : k0 < 11) {fs : List Value} (he : (stW G (sA a 2) (x 2))[k0]? = some (q, .inr (ci, fs))) (hc : vwCl[ci]? = some (C, T, N)) (k : Nat) (hk : k < N) {fo fn fd : String} (hT : T k = (fo, fn, fd, false)) (hlink : va_Nw (.fieldLinkNest y0.cls index fo fn fd host) s) {v : Value} {tv : FieldType} (ht : ty k = tv) (hn : narrow tv v = v) (hfit : fits tv v = true) (hl : k < fs.length) {v' : SV} (hv' : List.set (stW G (sA a 2) (x 2)) k0 (q, .inr (ci, fs.set k v)) = stW G (sA a 2) v') (hdg : decode cc pc = .ok (.putfield index, 3))
    (kk : ∀ (H1 : Heap) (locs1 : List Loc), PW G (hdW G a b (mkH (x 0) (x 1) v' (x 3) (x 4) (x 5) (x 6) (x 7) (x 8) (x 9 0) (x 9 1) (x 9 2 0) (x 9 2 1) (x 9 2 2))) H1 → va_S A H0 H1 locs1 → W p l e R s m args below meth c H1 locs1 cells slots Q (F0 m (pc + 3) ls rest)) : W p l e R s m args below meth c H locs cells slots Q (F0 m pc ls (v :: .ref q :: rest)) :=
  pfN hC hw hKN hP (va_D_mono (hdD_D hq x) hAb) hS (27 + k0) (hd_at2 hk0 he) hc k hk hT hlink ht hn hfit hl hdg (fun H1 locs1 h1 h3 => kk H1 locs1 (hd_put2 h1 hk0 hv') h3)
/-- the states of two values are the same -/
def hdE (x x' : HV) : Prop := x' 0 = x 0 ∧ x' 1 = x 1 ∧ x' 2 = x 2 ∧ x' 3 = x 3 ∧ x' 4 = x 4 ∧ x' 5 = x 5 ∧ x' 6 = x 6 ∧ x' 7 = x 7 ∧ x' 8 = x 8
theorem pfON (hC : CX p s m meth c y0 cc nL ret0 args) {C host : String} {T : u_T} {N ci index : Nat} {ty : Nat → FieldType} (hw : FW C T N ty) (hKN : KN G s H) (hP : PW G (hdW G a b x) H) (hq : hdD G a b) {A : Nat → Prop} (hAb : ∀ z, hdA a b z → A z) (hS : va_S A H0 H locs) (k0 : Nat) (hk0 : k0 < 5) {fs : List Value} (he : (hdO G a b x)[k0]? = some (q, .inr (ci, fs))) (hc : vwCl[ci]? = some (C, T, N)) (k : Nat) (hk : k < N) {fo fn fd : String} (hT : T k = (fo, fn, fd, false)) (hlink : va_Nw (.fieldLinkNest y0.cls index fo fn fd host) s) {v : Value} {tv : FieldType} (ht : ty k = tv) (hn : narrow tv v = v) (hfit : fits tv v = true) (hl : k < fs.length) (hv' : List.set (hdO G a b x) k0 (q, .inr (ci, fs.set k v)) = hdO G a b x') (hx : hdE x x') (hdg : decode cc pc = .ok (.putfield index, 3))
    (kk : ∀ (H1 : Heap) (locs1 : List Loc), PW G (hdW G a b x') H1 → va_S A H0 H1 locs1 → W p l e R s m args below meth c H1 locs1 cells slots Q (F0 m (pc + 3) ls rest)) : W p l e R s m args below meth c H locs cells slots Q (F0 m pc ls (v :: .ref q :: rest)) :=
  pfN hC hw hKN hP (va_D_mono (hdD_D hq x) hAb) hS k0 (hd_atO hk0 he) hc k hk hT hlink ht hn hfit hl hdg (fun H1 locs1 h1 h3 => kk H1 locs1 (hd_putO h1 hk0 hv' hx.1 hx.2.1 hx.2.2.1 hx.2.2.2.1 hx.2.2.2.2.1 hx.2.2.2.2.2.1 hx.2.2.2.2.2.2.1 hx.2.2.2.2.2.2.2.1 hx.2.2.2.2.2.2.2.2) h3)
theorem pfOL (hC : CX p s m meth c y0 cc nL ret0 args) {C : String} {T : u_T} {N ci index : Nat} {ty : Nat → FieldType} (hw : FW C T N ty) (hKN : KN G s H) (hP : PW G (hdW G a b x) H) (hq : hdD G a b) {A : Nat → Prop} (hAb : ∀ z, hdA a b z → A z) (hS : va_S A H0 H locs) (k0 : Nat) (hk0 : k0 < 5) {fs : List Value} (he : (hdO G a b x)[k0]? = some (q, .inr (ci, fs))) (hc : vwCl[ci]? = some (C, T, N)) (k : Nat) (hk : k < N) {fo fn fd : String} (hT : T k = (fo, fn, fd, false)) (hlink : Cond.fieldLink y0.cls index fo fn fd ∈ bigW) {v : Value} {tv : FieldType} (ht : ty k = tv) (hn : narrow tv v = v) (hfit : fits tv v = true) (hl : k < fs.length) (hv' : List.set (hdO G a b x) k0 (q, .inr (ci, fs.set k v)) = hdO G a b x') (hx : hdE x x') (hdg : decode cc pc = .ok (.putfield index, 3))
    (kk : ∀ (H1 : Heap) (locs1 : List Loc), PW G (hdW G a b x') H1 → va_S A H0 H1 locs1 → W p l e R s m args below meth c H1 locs1 cells slots Q (F0 m (pc + 3) ls rest)) : W p l e R s m args below meth c H locs cells slots Q (F0 m pc ls (v :: .ref q :: rest)) :=
  pf hC hw hKN hP (va_D_mono (hdD_D hq x) hAb) hS k0 (hd_atO hk0 he) hc k hk hT hlink ht hn hfit hl hdg (fun H1 locs1 h1 h3 => kk H1 locs1 (hd_putO h1 hk0 hv' hx.1 hx.2.1 hx.2.2.1 hx.2.2.2.1 hx.2.2.2.2.1 hx.2.2.2.2.2.1 hx.2.2.2.2.2.2.1 hx.2.2.2.2.2.2.2.1 hx.2.2.2.2.2.2.2.2) h3)
end HDR
/-- the rounds that the loops over a number's exponent are given -/
def mB : Nat := 1023
def mC : Nat := 127
section LDW
variable {p : Program} {l : Launch} {e : Env} {R : Room} {s : State} {m : MethodId} {args : Array Value} {below : List Frame} {meth : Method} {c : Code} {H : Heap} {locs : List Loc} {cells slots : Nat} {Q : State → Prop} {cc : ByteArray} {pc : Nat} {ls : Array Slot} {rest : List Value}
theorem ldcwF {T : State} (X : Stand p l e R s m args below meth c T locs cells slots) (hexec : p.tables.exec = Jvm.exec) {index : Nat} {k : Class} {cf : ClassFile} {b : UInt32}
    (hk : s.vm.classes[m.cls]? = some k) (hcf : k.cf = some cf) (hc : cf.constantPool[index]? = some (.float b)) {g : JFrame} (hg : g.method = m) (hdg : decode c.code g.pc = .ok (.ldc_w index, 3)) :
    ∀ target, Steps p.tables e below (T.setTop { g with pc := g.pc + 3, stack := .float b :: g.stack }) target → Steps p.tables e below (T.setTop g) target := by
  obtain ⟨k', hk', he⟩ := X.warmed.alike.2.2 _ _ hk
  intro target hrest
  subst hg
  jvm_step X.here [hexec, hdg, ldc_w.wp_float (s := T) (f := g) X.here.top hk' (by rw [he]; exact hcf) hc]
  exact hrest
theorem lv_ldcwf (hexec : p.tables.exec = Jvm.exec) (hb : c.code = cc) {own : String} {index : Nat} {v : UInt32} (hown : s.vm.findClass own = some m.cls) (hconst : (Jvm.Cond.constantFloat own index v).before args s = true) (hdg : decode cc pc = .ok (.ldc_w index, 3)) (k : W p l e R s m args below meth c H locs cells slots Q (F0 m (pc + 3) ls (.float v :: rest))) : W p l e R s m args below meth c H locs cells slots Q (F0 m pc ls rest) := by
  intro T hT X
  obtain ⟨t, a, b⟩ := k T hT X
  obtain ⟨k9, cf, hk, hcf, hcp⟩ := Cond.constantFloat_spec hown hconst
  exact ⟨t, ldcwF X hexec hk hcf hcp (g := F0 m pc ls rest) rfl (by rw [hb]; exact hdg) t a, b⟩
end LDW
