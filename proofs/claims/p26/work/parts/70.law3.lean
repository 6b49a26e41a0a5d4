/-! what lies below the law, at its entry -/
theorem ks_arr {s : State} {args : Array Value} {ty : FieldType} (h : (Cond.arrayClass ty).before args s = true) (hr : ∀ cA, va_RA s cA ty = (s.vm.findClass ("[" ++ ty.toString) = some cA)) : ∃ cA, ArrOfT s cA ty ∧ va_RA s cA ty := by
  obtain ⟨c, k, comp, h1, h2, h3⟩ := Cond.arrayClass_spec h
  exact ⟨c, fun n z => ⟨(fun k h => by cases h), k, h2, comp, h3⟩, by rw [hr]; exact h1⟩
theorem ks_obj {s : State} {args : Array Value} {C : String} (h : (Cond.arrayOver (.object C)).before args s = true) : ∃ cA, ArrOfT s cA (.object C) ∧ va_RA s cA (.object C) := by
  obtain ⟨comp, c, k, h1, h2, h3, h4, h5⟩ := Cond.arrayOver_spec h
  exact ⟨c, fun n z => ⟨(fun k h => by cases h), k, h3, comp, h4⟩, k, comp, h3, h4, h1, h5⟩
abbrev NR : Cond := Jvm.Cond.and given_1 narrow_1
set_option maxRecDepth 100000 in
theorem ks_a1 : ∀ i, i < 5 → (Cond.arrayOf (.static "HeadDots" (stNm i) "[I") .int) ∈ flatC NR := by decide +kernel
set_option maxRecDepth 100000 in
theorem ks_a2 : ∀ i, i < 5 → (Cond.eq (.length (.static "HeadDots" (stNm i) "[I")) (.int (Int32.ofNat (stLn i)))) ∈ flatC NR := by decide +kernel
set_option maxRecDepth 100000 in
theorem ks_a3 : ∀ i, i < 5 → ∀ j, j < stLn i → (Cond.eq (.elem (.static "HeadDots" (stNm i) "[I") (.int (Int32.ofNat j))) (.int (stFn i j))) ∈ flatC NR := by decide +kernel
set_option maxRecDepth 100000 in
theorem ks_a4 : ∀ i, i < 5 → (Cond.laysStatic "HeadDots" (stNm i) "[I") ∈ lw_tbl := by decide +kernel
abbrev tmR (i : Nat) : Term := .string "HeadDots$Reader" (wIx i)
set_option maxRecDepth 100000 in
theorem ks_s1 : ∀ i, i < 1 → (Cond.exactly (tmR i) "java/lang/String") ∈ flatC NR := by decide +kernel
set_option maxRecDepth 100000 in
theorem ks_s7 : ∀ i, i < 1 → (Cond.stringRef "HeadDots$Reader" (wIx i) (wTx i)) ∈ lw_tbl := by decide +kernel
set_option maxRecDepth 100000 in
theorem ks_n1 : ∀ q ∈ nestF, (Cond.fieldLinkNest q.1 q.2.1 q.2.2.1 q.2.2.2.1 q.2.2.2.2.1 q.2.2.2.2.2) ∈ lw_tbl := by decide +kernel
set_option maxRecDepth 100000 in
theorem ks_n2 : ∀ q ∈ nestM, (Cond.methodLinkNest q.1 q.2.1 q.2.2.1 q.2.2.2) ∈ lw_tbl := by decide +kernel
set_option maxHeartbeats 2000000 in
set_option maxRecDepth 100000 in
theorem ks_start {s : State} {b : Nat} (hts : ∀ w ∈ lw_tbl, w.before #[Value.ref b] s = true) (hgv : NR.before #[Value.ref b] s = true) : ∃ G : GT, gL G = s.heap.size ∧ KN G s s.heap := by
  have hs := flat_of_before _ hgv
  have htb : ∀ w ∈ bigW, w.before #[Value.ref b] s = true := fun w h => hts w (List.mem_filter.mp h).1
  obtain ⟨c0, i0, hK0⟩ := u_known (n := 2) htb fwX0.1 (htb _ wd_138)
  obtain ⟨c1, i1, hK1⟩ := u_known (n := 10) htb fwX1.1 (htb _ wd_151)
  obtain ⟨c2, i2, hK2⟩ := u_known (n := 8) htb fwX2.1 (htb _ wd_24)
  obtain ⟨c3, i3, hK3⟩ := u_known (n := 4) htb fwX3.1 (htb _ wd_41)
  obtain ⟨c4, i4, hK4⟩ := u_known (n := 9) htb fwX4.1 (htb _ wd_63)
  obtain ⟨c5, i5, hK5⟩ := u_known (n := 8) htb fwX5.1 (htb _ wd_16)
  obtain ⟨dC, dI, hKc⟩ : ∃ (dC : Nat → ClassId) (dI : Nat → Nat → Nat), ∀ (k : Nat) (q : vw_C), vwCl[k]? = some q → u_Kn s q.1 q.2.1 q.2.2 (dC k) (dI k) := by
    refine ⟨fun k => match k with | 0 => c0 | 1 => c1 | 2 => c2 | 3 => c3 | 4 => c4 | _ => c5, fun k => match k with | 0 => i0 | 1 => i1 | 2 => i2 | 3 => i3 | 4 => i4 | _ => i5, ?_⟩
    intro k q hq
    match k, hq with
    | 0, hq => cases hq; exact hK0
    | 1, hq => cases hq; exact hK1
    | 2, hq => cases hq; exact hK2
    | 3, hq => cases hq; exact hK3
    | 4, hq => cases hq; exact hK4
    | 5, hq => cases hq; exact hK5
    | k + 6, hq => simp [vwCl] at hq
  obtain ⟨cI, hI1, hI2⟩ := ks_arr (ty := .int) (htb _ wd_61) (fun _ => rfl)
  have hAO : (Cond.arrayOver (.object "HeadDots$State")).before #[Value.ref b] s = true := hts _ (by decide +kernel)
  obtain ⟨cR, hR1, hR2⟩ := ks_obj hAO
  have hA : ∀ (A : Nat → Prop), (∀ q, A q → s.heap.size ≤ q) → ∀ a : Nat, a < s.heap.size → ¬ A a := fun A h a h1 h2 => absurd (h a h2) (Nat.not_le.mpr h1)
  have hst : ∀ i : Nat, ∃ t : Nat, i < 5 → (Term.static "HeadDots" (stNm i) "[I").eval #[Value.ref b] s none [] s = some (.ref t) ∧ va_T .int t (stLn i) (fun j => .int (stFn i j)) (fun q => s.heap.size ≤ q) s s.heap := by
    intro i
    by_cases hi : i < 5
    · obtain ⟨t, h1, h2⟩ := va_Tof (tm := Term.static "HeadDots" (stNm i) "[I") (ty := .int) (N := stLn i) (f := fun j => .int (stFn i j)) (A := fun q => s.heap.size ≤ q) (by rcases (show i = 0 ∨ i = 1 ∨ i = 2 ∨ i = 3 ∨ i = 4 by omega) with e | e | e | e | e <;> subst e <;> decide) (hs _ (ks_a1 i hi)) (va_eqt (hs _ (ks_a2 i hi))) (fun j hj => va_eqt (hs _ (ks_a3 i hi j hj))) (hA _ (fun _ h => h))
      exact ⟨t, fun _ => ⟨h1, h2⟩⟩
    · exact ⟨0, fun h => absurd h hi⟩
  obtain ⟨st, hst⟩ := Classical.axiomOfChoice hst
  have hx : ∀ i : Nat, ∃ t : Nat, i < 1 → vk_R "HeadDots$Reader" (wIx i) (wTx i) t s := by
    intro i
    by_cases hi : i < 1
    · obtain ⟨a, c, cA, kA, q1, -⟩ := Cond.exactly_spec (args := #[Value.ref b]) (first := s) (o := none) (s := s) (idx := []) (t := tmR i) (cls := "java/lang/String") (hs _ (ks_s1 i hi))
      exact ⟨a, fun _ => vk_R.of (hts _ (ks_s7 i hi)) q1⟩
    · exact ⟨0, fun h => absurd h hi⟩
  obtain ⟨ax, hx⟩ := Classical.axiomOfChoice hx
  obtain ⟨ga, eg⟩ : ∃ ga : Nat → Nat, ga = fun k => if k < 10 then st k else ax (k - 10) := ⟨_, rfl⟩
  have g0 : ∀ i, i < 5 → ga i = st i := fun i hi => by rw [eg]; exact if_pos (by omega)
  have g1 : ∀ i, ga (10 + i) = ax i := fun i => by rw [eg]; show (if 10 + i < 10 then _ else _) = _; rw [if_neg (by omega), Nat.add_sub_cancel_left]
  refine ⟨((dC, dI), (fun k => match k with | 0 => cI | _ => cR), s.heap.size, ga), rfl, ?_⟩
  have hAl : ∀ a : Nat, a < s.heap.size → ¬ lowA ((dC, dI), (fun k => match k with | 0 => cI | _ => cR), s.heap.size, ga) a := hA _ (fun _ h => h)
  refine ⟨⟨⟨hKc, fun k q hk => ?_⟩, Nat.le_refl _⟩, ⟨fun q hq => va_Nw.of rfl (hts _ (ks_n1 q hq)), fun q hq => va_Nw.of rfl (hts _ (ks_n2 q hq))⟩, fun i hi => ?_, fun i hi => ?_, va_AO.of hAO⟩
  · match k, hk with
    | 0, hk => cases hk; exact ⟨hI1, hI2⟩
    | 1, hk => cases hk; exact ⟨hR1, hR2⟩
    | k + 2, hk => simp [gT] at hk
  · obtain ⟨h1, h2⟩ := hst i hi
    show va_Z "HeadDots" (stNm i) "[I" (.ref (ga i)) _ s s.heap ∧ va_T .int (ga i) _ _ _ s s.heap
    rw [g0 i hi]
    exact ⟨va_Zref (hts _ (ks_a4 i hi)) (htb _ wd_1) h1 hAl, h2⟩
  · show vk_R _ _ _ (ga (10 + i)) s
    rw [g1 i]
    exact hx i hi
theorem whole_start {p : Program} {e : Env} {s : State} {m : MethodId} {below : List Frame} {meth : Method} {c : Code} (l : Launch) (hflags : l.flags = flags0) {b L : Nat} {xs : Nat → Int32} (hL : L ≤ 260) (C0 : lw_At p s m meth c b L xs) : W p l e room_1 s m #[Value.ref b] below meth c s.heap [] 0 0 (lw_Z below #[Value.ref b] s) (entryFrame m ([Value.ref b] : List Value).toArray 10) := by
  obtain ⟨hx, hb, hr, hml, hown, hts, hX, hbl, hlocks, hgv⟩ := C0
  obtain ⟨G, hgl, hK0⟩ := ks_start hts hgv
  have hC : CX p s m meth c (lawName meth) code 10 ret #[Value.ref b] := ⟨hx, hb, hr, hml, hown, hlocks, fun w h => hts w (List.mem_filter.mp h).1, rfl⟩
  have hl := lv_entry ([.ref b]) (n := 10) (Nat.le_of_ble_eq_true rfl)
  rw [lg_entry_eq]
  exact lw_entry hC hK0 hgl hX hbl _ hl
