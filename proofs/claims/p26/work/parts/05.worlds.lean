/-! the pictures of the worlds, small lemmas for the walks -/
abbrev SV : Type := Nat → Nat → Int32
def sr (v : SV) (i : Nat) (f : Nat → Int32) : SV := fun j => if j = i then f else v j
def ss (v : SV) (i k : Nat) (x : Int32) : SV := sr v i (upd (v i) k x)
def mkS (r0 r1 r2 r3 r4 r5 r6 r7 : Nat → Int32) (s0 s1 s2 s3 s4 s5 s6 s7 s8 s9 s10 : Int32) : SV := fun i => match i with
  | 0 => r0
  | 1 => r1
  | 2 => r2
  | 3 => r3
  | 4 => r4
  | 5 => r5
  | 6 => r6
  | 7 => r7
  | _ => fun k => match k with
    | 0 => s0
    | 1 => s1
    | 2 => s2
    | 3 => s3
    | 4 => s4
    | 5 => s5
    | 6 => s6
    | 7 => s7
    | 8 => s8
    | 9 => s9
    | _ => s10
def mkM (r0 r1 r2 r3 r4 r5 r6 r7 : Nat → Int32) (s0 s1 s2 s3 s4 s5 s6 s7 s8 : Int32) : SV := fun i => match i with
  | 0 => r0
  | 1 => r1
  | 2 => r2
  | 3 => r3
  | 4 => r4
  | 5 => r5
  | 6 => r6
  | 7 => r7
  | _ => fun k => match k with
    | 0 => s0
    | 1 => s1
    | 2 => s2
    | 3 => s3
    | 4 => s4
    | 5 => s5
    | 6 => s6
    | 7 => s7
    | _ => s8
/-- a State with its Strip and its Totals; rows 0 heat, 1 pulses, 2 settings, 3 dark, 4 faint, 5 parts, 6 dotsOf, 7 faintOf; row 8: 0 size, 1 time, 2 lines, 3 parts, 4 waits, 5 dots, 6 faint, 7 hottest, 8 lastLine, 9 lineBefore, 10 paperKind -/
def stW (G : GT) (q : Nat → Nat) (v : SV) : va_W :=
  [(q 0, .inr (2, [.ref (q 1), .ref (q 2), .ref (q 3), .ref (q 4), .ref (q 8), .int (v 8 8), .int (v 8 9), .int (v 8 10)])),
   (q 1, .inl (gI G, 24, .inl (v 0))), (q 2, .inl (gI G, 24, .inl (v 1))), (q 3, .inl (gI G, 7, .inl (v 2))),
   (q 4, .inr (3, [.ref (q 5), .ref (q 6), .ref (q 7), .int (v 8 0)])), (q 5, .inl (gI G, 12, .inl (v 3))), (q 6, .inl (gI G, 12, .inl (v 4))), (q 7, .inl (gI G, 12, .inl (v 5))),
   (q 8, .inr (4, [.ref (q 9), .ref (q 10), .int (v 8 1), .int (v 8 2), .int (v 8 3), .int (v 8 4), .int (v 8 5), .int (v 8 6), .int (v 8 7)])), (q 9, .inl (gI G, 24, .inl (v 6))), (q 10, .inl (gI G, 24, .inl (v 7)))]
def stA (q : Nat → Nat) : Nat → Prop := fun a => ∃ i, i < 11 ∧ a = q i
def stD (G : GT) (q : Nat → Nat) : Prop := (∀ i, i < 11 → gL G ≤ q i) ∧ ∀ i j, i < 11 → j < 11 → q i = q j → i = j
theorem va_D_of {A : Nat → Prop} {ws : va_W} {q : Nat → Nat} {n : Nat} (hw : ws.map Prod.fst = (List.range n).map q) (hA : ∀ i, i < n → A (q i)) (hi : ∀ i j, i < n → j < n → q i = q j → i = j) : va_D A ws := by
  have key : ∀ (k : Nat) (p : Nat × va_E), ws[k]? = some p → k < n ∧ p.1 = q k := by
    intro k p hk
    have h1 : (ws.map Prod.fst)[k]? = some p.1 := by rw [List.getElem?_map, hk]; rfl
    rw [hw, List.getElem?_map] at h1
    cases hr : (List.range n)[k]? with
    | none => rw [hr] at h1; cases h1
    | some z =>
      rw [hr] at h1
      obtain ⟨h2, h3⟩ := List.getElem?_eq_some_iff.mp hr
      simp at h2 h3
      subst h3
      exact ⟨h2, (Option.some.inj h1).symm⟩
  refine ⟨fun i j x y hx hy e => ?_, fun k p hk => ?_⟩
  · obtain ⟨a1, a2⟩ := key i x hx
    obtain ⟨b1, b2⟩ := key j y hy
    exact hi i j a1 b1 (by rw [← a2, ← b2]; exact e)
  · obtain ⟨a1, a2⟩ := key k p hk
    rw [a2]; exact hA k a1
theorem stD_D {G : GT} {q : Nat → Nat} (h : stD G q) (v : SV) : va_D (stA q) (stW G q v) := va_D_of (n := 11) (q := q) rfl (fun i hi => ⟨i, hi, rfl⟩) h.2
theorem stD_low {G : GT} {q : Nat → Nat} (h : stD G q) : ∀ a, stA q a → gL G ≤ a := fun a ⟨i, hi, e⟩ => by rw [e]; exact h.1 i hi
/-- the reference -/
def mdW (G : GT) (q : Nat → Nat) (v : SV) (hs : Int64) : va_W :=
  [(q 0, .inr (6, [.ref (q 1), .ref (q 2), .int (v 8 0), .ref (q 3), .int (v 8 1), .ref (q 4), .int (v 8 2), .int (v 8 3), .int (v 8 4), .int (v 8 5), .ref (q 5), .int (v 8 6), .int (v 8 7), .int (v 8 8), .ref (q 6), .ref (q 7), .ref (q 8), .long hs])),
   (q 1, .inl (gI G, 124, .inl (v 0))), (q 2, .inl (gI G, 744, .inl (v 1))), (q 3, .inl (gI G, 124, .inl (v 2))), (q 4, .inl (gI G, 124, .inl (v 3))),
   (q 5, .inl (gI G, 60, .inl (v 4))), (q 6, .inl (gI G, 16, .inl (v 5))), (q 7, .inl (gI G, 16, .inl (v 6))), (q 8, .inl (gI G, 16, .inl (v 7)))]
def mdA (q : Nat → Nat) : Nat → Prop := fun a => ∃ i, i < 9 ∧ a = q i
def mdD (G : GT) (q : Nat → Nat) : Prop := (∀ i, i < 9 → gL G ≤ q i) ∧ ∀ i j, i < 9 → j < 9 → q i = q j → i = j
theorem mdD_D {G : GT} {q : Nat → Nat} (h : mdD G q) (v : SV) (hs : Int64) : va_D (mdA q) (mdW G q v hs) := va_D_of (n := 9) (q := q) rfl (fun i hi => ⟨i, hi, rfl⟩) h.2
theorem mdD_low {G : GT} {q : Nat → Nat} (h : mdD G q) : ∀ a, mdA q a → gL G ≤ a := fun a ⟨i, hi, e⟩ => by rw [e]; exact h.1 i hi
/-- one int array -/
def a1W (G : GT) (a n : Nat) (f : Nat → Int32) : va_W := [(a, .inl (gI G, n, .inl f))]
theorem a1W_D {G : GT} {a n : Nat} (f : Nat → Int32) : va_D (fun z => z = a) (a1W G a n f) := va_D_of (n := 1) (q := fun _ => a) rfl (fun _ _ => rfl) (fun i j hi hj _ => by omega)
theorem one_of {G : GT} {ws : va_W} {H : Heap} {a n : Nat} {f : Nat → Int32} (hP : PW G ws H) (k : Nat) (h : ws[k]? = some (a, .inl (gI G, n, .inl f))) : PW G (a1W G a n f) H := by
  intro j q hj
  cases j with
  | zero => cases hj; exact hP k _ h
  | succ j => simp [a1W] at hj
theorem one_set {G : GT} {ws : va_W} {H H1 : Heap} {A : Nat → Prop} {a n : Nat} {f f1 : Nat → Int32} (hP : PW G ws H) (hD : va_D A ws) (k : Nat) (h : ws[k]? = some (a, .inl (gI G, n, .inl f))) (h1 : PW G (a1W G a n f1) H1) (hk : ∀ q : Nat, q < H.size → ¬ (fun z => z = a) q → H1[q]? = H[q]?) : PW G (ws.set k (a, .inl (gI G, n, .inl f1))) H1 := by
  have hl := (List.getElem?_eq_some_iff.mp h).1
  intro j q hj
  by_cases hjk : j = k
  · subst hjk
    rw [List.getElem?_set_self hl] at hj
    cases hj
    exact h1 0 _ rfl
  · rw [List.getElem?_set_ne (Ne.symm hjk)] at hj
    have hq := hP j q hj
    exact hq.kept (hk q.1 hq.lt (fun e => hjk (hD.1 j k q _ hj h e)))
/-! loops -/
section LP
variable {σ ρ : Type}
def lpF : Nat → Nat → (Nat → σ → σ) → σ → σ
  | 0, _, _, s => s
  | n + 1, d, b, s => lpF n (d + 1) b (b d s)
def lpD : Nat → (Nat → σ → σ) → σ → σ
  | 0, _, s => s
  | n + 1, b, s => lpD n b (b (n + 1) s)
def lpR : Nat → Nat → (Nat → σ → σ ⊕ ρ) → σ → σ ⊕ ρ
  | 0, _, _, s => .inl s
  | n + 1, d, b, s => match b d s with
    | .inl s' => lpR n (d + 1) b s'
    | .inr r => .inr r
def lpRs (n d : Nat) (b : Nat → σ → σ ⊕ ρ) (z : σ ⊕ ρ) : σ ⊕ ρ := match z with
    | .inl s' => lpR n (d + 1) b s'
    | .inr r => .inr r
def lpB : Nat → (σ → Bool × σ) → σ → σ
  | 0, _, s => s
  | n + 1, g, s => bif (g s).1 then lpB n g (g s).2 else (g s).2
def lpBs (n : Nat) (g : σ → Bool × σ) (z : Bool × σ) : σ := bif z.1 then lpB n g z.2 else z.2
def lpT : Nat → (σ → Bool × σ) → σ → Prop
  | 0, _, _ => False
  | n + 1, g, s => (g s).1 = false ∨ lpT n g (g s).2
def lpTs (n : Nat) (g : σ → Bool × σ) (z : Bool × σ) : Prop := z.1 = false ∨ lpT n g z.2
theorem lpT_go {n : Nat} {g : σ → Bool × σ} {s : σ} (h : lpTs n g (true, s)) : lpT n g s := h.elim (fun q => by cases q) id
end LP
/-- far above the steps of a loop that cools -/
def mS : Nat := 1000000
/-! numbers -/
theorem nE_add {x y : Int32} {a b : Nat} (h1 : x = nI a) (h2 : y = nI b) : x + y = nI (a + b) := by rw [h1, h2]; exact nI_add a b
theorem nE_mul {x y : Int32} {a b : Nat} (h1 : x = nI a) (h2 : y = nI b) : x * y = nI (a * b) := by rw [h1, h2]; exact pk_mul a b
theorem nE_sub {x y : Int32} {a b : Nat} (h1 : x = nI a) (h2 : y = nI b) (h : b ≤ a) : x - y = nI (a - b) := by rw [h1, h2]; exact pk_sub h
theorem i_clamp {x : Int32} (h : ¬ x < 0) : x = nI x.toNatClampNeg ∧ x.toNatClampNeg < 2 ^ 31 := by
  obtain ⟨j, hj, rfl⟩ := nI_of h
  rw [nI_clamp hj]; exact ⟨rfl, hj⟩
theorem vp_path {x : Int32} {n : Nat} (h1 : ¬ x < 0) (h2 : ¬ nI n ≤ x) : vp_in x n := by
  obtain ⟨e, hj⟩ := i_clamp h1
  intro h
  rcases h with h | h
  · exact h1 h
  · apply h2
    rw [e]
    exact nI_le h hj
theorem cl_lt (x : Int32) : x.toNatClampNeg < 2 ^ 31 := by
  by_cases h : x < 0
  · have : x.toNatClampNeg = 0 := by
      have h1 : x.toInt < 0 := by simpa using Int32.lt_iff_toInt_lt.mp h
      show x.toInt.toNat = 0
      omega
    rw [this]; decide
  · exact (i_clamp h).2
theorem cl_le {x : Int32} {d : Nat} (h : x.toNatClampNeg ≤ d) (hd : d < 2 ^ 31) : x ≤ nI d := by
  by_cases hx : x < 0
  · have h1 : x.toInt < 0 := by simpa using Int32.lt_iff_toInt_lt.mp hx
    rw [Int32.le_iff_toInt_le, nI_toInt hd]
    omega
  · obtain ⟨e, hj⟩ := i_clamp hx
    rw [e]; exact nI_le h hd
theorem cl_nle {x : Int32} {d : Nat} (h : d < x.toNatClampNeg) : ¬ x ≤ nI d := by
  have hx : ¬ x < 0 := fun hx => by
    have h1 : x.toInt < 0 := by simpa using Int32.lt_iff_toInt_lt.mp hx
    have : x.toNatClampNeg = 0 := by
      show x.toInt.toNat = 0
      omega
    omega
  obtain ⟨e, hj⟩ := i_clamp hx
  rw [e]; exact nI_ge h hj
theorem nb01 {v : Int32} (h : v = 0 ∨ v = 1) : narrow .boolean (.int v) = .int v := by
  rcases h with rfl | rfl <;> rfl
theorem sw_out {x : Int32} (lo hi : Nat) (hh : hi < 2 ^ 31) (h : ∀ k, lo ≤ k → k ≤ hi → ¬ x = nI k) : x.toInt < (lo : Int) ∨ (hi : Int) < x.toInt := by
  by_cases q : x.toInt < (lo : Int)
  · exact Or.inl q
  · refine Or.inr ?_
    have q := Int.not_lt.mp q
    have hx : ¬ x < 0 := fun z => by
      have h1 : x.toInt < 0 := by simpa using Int32.lt_iff_toInt_lt.mp z
      omega
    obtain ⟨e, hj⟩ := i_clamp hx
    have e2 : x.toInt = (x.toNatClampNeg : Int) := by
      have := nI_toInt hj
      rw [← e] at this
      exact this
    rcases Nat.lt_or_ge hi x.toNatClampNeg with z | z
    · rw [e2]; exact Int.ofNat_lt.mpr z
    · exact absurd e (h _ (by rw [e2] at q; exact Int.ofNat_le.mp q) z)
section SW
variable {p : Program} {l : Launch} {e : Env} {R : Room} {s : State} {m : MethodId} {args : Array Value} {below : List Frame} {meth : Method} {c : Code} {H : Heap} {locs : List Loc} {cells slots : Nat} {Q : State → Prop}
variable {y0 : MethodName} {cc : ByteArray} {nL : Nat} {ret0 : Option FieldType} {rest : List Value} {pc : Nat} {ls : Array Slot}
theorem swIn (hC : CX p s m meth c y0 cc nL ret0 args) {dflt lo hi : Int} {offs : Array Int} {len : Nat} {x : Int32} {off : Int} {tgt : Nat} (k : Int32) (hk : x = k) (hdg : decode cc pc = .ok (.tableswitch dflt lo hi offs, len)) (h1 : ¬ k.toInt < lo) (h2 : ¬ hi < k.toInt) (ho : offs[(k.toInt - lo).toNat]? = some off) (ht : (pc : Int) + off = (tgt : Int))
    (kk : W p l e R s m args below meth c H locs cells slots Q (F0 m tgt ls rest)) : W p l e R s m args below meth c H locs cells slots Q (F0 m pc ls (.int x :: rest)) := by
  subst hk; exact lv_tableIn hC.1 hC.2.1 hdg h1 h2 ho ht kk
theorem lkIn (hC : CX p s m meth c y0 cc nL ret0 args) {dflt : Int} {ps : Array (Int × Int)} {len : Nat} {x : Int32} {off : Int} {tgt : Nat} (k : Int32) (hk : x = k) (hdg : decode cc pc = .ok (.lookupswitch dflt ps, len)) (hp : (ps.toList.zip (ps.toList.drop 1)).all (fun (a, next) => a.1 < next.1) = true) (ho : Op.lookupswitch.offset ps.toList dflt k.toInt = off) (ht : (pc : Int) + off = (tgt : Int))
    (kk : W p l e R s m args below meth c H locs cells slots Q (F0 m tgt ls rest)) : W p l e R s m args below meth c H locs cells slots Q (F0 m pc ls (.int x :: rest)) := by
  subst hk; exact lv_lookup hC.1 hC.2.1 hdg hp ho ht kk
end SW
theorem ne_toInt {x : Int32} {k : Int32} (h : ¬ x = k) : x.toInt ≠ k.toInt := fun e => h (Int32.toInt_inj.mp e)
/-- another world, whose cells this method doesn't write -/
def naW (A : Nat → Prop) (ws : va_W) : Prop := ∀ (k : Nat) (p : Nat × va_E), ws[k]? = some p → ¬ A p.1
theorem keepS {G : GT} {ws : va_W} {H0 H : Heap} {A : Nat → Prop} {locs : List Loc} (hP : PW G ws H0) (hS : va_S A H0 H locs) (hn : naW A ws) : PW G ws H := hP.kept (fun k q hk => hS.2.1 q.1 (hP k q hk).lt (hn k q hk))
def stN (q q2 : Nat → Nat) : Prop := ∀ i j, i < 11 → j < 11 → ¬ q i = q2 j
theorem fst_of {ws : va_W} {q : Nat → Nat} {n : Nat} (hw : ws.map Prod.fst = (List.range n).map q) {k : Nat} {p : Nat × va_E} (hk : ws[k]? = some p) : k < n ∧ p.1 = q k := by
  have h1 : (ws.map Prod.fst)[k]? = some p.1 := by rw [List.getElem?_map, hk]; rfl
  rw [hw, List.getElem?_map] at h1
  cases hr : (List.range n)[k]? with
  | none => rw [hr] at h1; cases h1
  | some z =>
    rw [hr] at h1
    obtain ⟨h2, h3⟩ := List.getElem?_eq_some_iff.mp hr
    simp at h2 h3
    subst h3
    exact ⟨h2, (Option.some.inj h1).symm⟩
theorem stN_na {G : GT} {q q2 : Nat → Nat} (h : stN q q2) (v : SV) : naW (stA q) (stW G q2 v) := fun k p hk ⟨i, hi, e⟩ => by
  obtain ⟨a1, a2⟩ := fst_of (n := 11) (q := q2) rfl hk
  exact h i k hi a1 (by rw [← a2]; exact e.symm)
