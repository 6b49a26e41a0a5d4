theorem KN.str {G : GT} {s : State} {H : Heap} (h : KN G s H) (i : Nat) (hi : i < 1) : vk_R "HeadDots$Reader" (wIx i) (wTx i) (gA G (10 + i)) s := h.2.2.2.1 i hi
/-- a method that answers nothing and writes nothing -/
def QP0 : Array Value → State → Outcome → State → Prop := fun _ st o t => o = .returned none ∧ t.heap = st.heap
section STR
variable {p : Program} {l : Launch} {e : Env} {R : Room} {s : State} {m : MethodId} {args : Array Value} {below : List Frame} {meth : Method} {c : Code} {H : Heap} {locs : List Loc} {cells slots mc ms : Nat} {Q : State → Prop}
variable {y0 : MethodName} {cc : ByteArray} {nL : Nat} {ret0 : Option FieldType} {rest st0 : List Value} {pc : Nat} {ls : Array Slot} {G : GT} {A : Nat → Prop} {H0 : Heap} {a w index : Nat}
theorem runP0 {a : Array Value} (hr : va_Run p l e R s m args below meth c H locs cells slots 0 0 (F0 m pc ls st0) rest (QP0 a) (fun _ => False))
    (kk : W p l e R s m args below meth c H locs cells slots Q (F0 m (pc + 3) ls rest)) : W p l e R s m args below meth c H locs cells slots Q (F0 m pc ls st0) := by
  intro T hT X
  obtain ⟨v, st₀, t, T', L, h0, X', hL, e1, e2, ⟨hv, hz⟩, st⟩ := hr T hT X
  cases hv
  have hL0 : L = [] := by
    cases L with
    | nil => rfl
    | cons q L => exact absurd (hL q List.mem_cons_self) id
  subst hL0
  rw [List.append_nil] at X'
  obtain ⟨t2, a1, b1⟩ := kk T' (by rw [e1, hz, h0]) X'
  exact ⟨t2, st t2 a1, b1⟩
theorem eP_v (hC : CX p s m meth c y0 cc nL none args) (hdg : decode cc pc = .ok (.return_, 1)) : W p l e R s m args below meth c s.heap [] 0 0 (MQ below QP0 args s 0 0 (fun _ => False)) (F0 m pc ls []) :=
  W.vret hC.1 hC.2.1 hC.2.2.1 (fun t ht _ => ⟨rfl, ht⟩) (fun _ h => nomatch h) hdg hC.2.2.2.2.2.1
theorem eP_n {F : Value} {v : Int32} {ty : FieldType} (hC : CX p s m meth c y0 cc nL (some ty) args) (hF : F = .int v) (hn : narrow ty (.int v) = .int v) (hdg : decode cc pc = .ok (.ireturn, 1)) : W p l e R s m args below meth c s.heap [] 0 0 (MQ below (QP F) args s 0 0 (fun _ => False)) (F0 m pc ls [.int v]) := by
  subst hF; exact W.zret hC.1 hC.2.1 hC.2.2.1 hn (fun t ht _ => ⟨rfl, ht⟩) (fun _ h => nomatch h) hdg hC.2.2.2.2.2.1
end STR
/-- the reader: mode, modeBehindWord, word (its place among the words), wordAt, kind, dots, dotsDigits, paperKind, number, numberMost -/
def mkR (x0 x1 x2 x3 x4 x5 x6 x7 x8 x9 : Int32) : Nat → Int32 := fun k => match k with
  | 0 => x0
  | 1 => x1
  | 2 => x2
  | 3 => x3
  | 4 => x4
  | 5 => x5
  | 6 => x6
  | 7 => x7
  | 8 => x8
  | _ => x9
def rrW (G : GT) (a : Nat) (r : Nat → Int32) : va_W := [(a, .inr (1, [.int (r 0), .int (r 1), .ref (gA G (10 + (r 2).toNatClampNeg)), .int (r 3), .int (r 4), .int (r 5), .int (r 6), .int (r 7), .int (r 8), .int (r 9)]))]
theorem rrW_D {G : GT} {a : Nat} (r : Nat → Int32) : va_D (fun z => z = a) (rrW G a r) := va_D_of (n := 1) (q := fun _ => a) rfl (fun _ _ => rfl) (fun i j hi hj _ => by omega)
/-- the buffer: row 0 its codes, row 1 its length -/
def mkB (f : Nat → Int32) (n : Int32) : SV := fun i => match i with
  | 0 => f
  | _ => fun _ => n
def bfW (G : GT) (b : Nat → Nat) (u : SV) : va_W := [(b 0, .inr (0, [.ref (b 1), .int (u 1 0)])), (b 1, .inl (gI G, 60, .inl (u 0)))]
def bfA (b : Nat → Nat) : Nat → Prop := fun a => ∃ i, i < 2 ∧ a = b i
def bfD (G : GT) (b : Nat → Nat) : Prop := (∀ i, i < 2 → gL G ≤ b i) ∧ ∀ i j, i < 2 → j < 2 → b i = b j → i = j
theorem bfD_D {G : GT} {b : Nat → Nat} (h : bfD G b) (u : SV) : va_D (bfA b) (bfW G b u) := va_D_of (n := 2) (q := b) rfl (fun i hi => ⟨i, hi, rfl⟩) h.2
theorem bfD_low {G : GT} {b : Nat → Nat} (h : bfD G b) : ∀ a, bfA b a → gL G ≤ a := fun a ⟨i, hi, e⟩ => by rw [e]; exact h.1 i hi
def bfN (a : Nat) (b : Nat → Nat) : Prop := ∀ i, i < 2 → ¬ b i = a
theorem bfN_na {G : GT} {a : Nat} {b : Nat → Nat} (h : bfN a b) (u : SV) : naW (fun z => z = a) (bfW G b u) := fun k p hk e => by
  obtain ⟨a1, a2⟩ := fst_of (n := 2) (q := b) rfl hk
  exact h k a1 (by rw [← a2]; exact e)
theorem rr_word {G : GT} {a w : Nat} {x0 x1 x3 x4 x5 x6 x7 x8 x9 : Int32} (hw : w < 2 ^ 31) : rrW G a (mkR x0 x1 (nI w) x3 x4 x5 x6 x7 x8 x9) = [(a, .inr (1, [.int x0, .int x1, .ref (gA G (10 + w)), .int x3, .int x4, .int x5, .int x6, .int x7, .int x8, .int x9]))] := by
  show ([(a, .inr (1, [.int x0, .int x1, .ref (gA G (10 + (nI w).toNatClampNeg)), .int x3, .int x4, .int x5, .int x6, .int x7, .int x8, .int x9]))] : va_W) = _
  rw [nI_clamp hw]
