set_option maxHeartbeats 2000000 in
set_option maxRecDepth 100000 in
theorem ks_start {s : State} {b : Nat} (hts : ∀ w ∈ lw_tbl, w.before #[Value.ref b] s = true) (hgv : NR.before #[Value.ref b] s = true) : ∃ G : GT, gL G = s.heap.size ∧ KN G s s.heap := by
  have hs := flat_of_before _ hgv
  have htb : ∀ w ∈ bigW, w.before #[Value.ref b] s = true := fun w h => hts w (List.mem_filter.mp h).1
  obtain ⟨c0, i0, hK0⟩ := u_known (n := 2) htb fwX0.1 (htb _ wd_146)
  obtain ⟨c1, i1, hK1⟩ := u_known (n := 10) htb fwX1.1 (htb _ wd_161)
  obtain ⟨c2, i2, hK2⟩ := u_known (n := 8) htb fwX2.1 (htb _ wd_32)
  obtain ⟨c3, i3, hK3⟩ := u_known (n := 4) htb fwX3.1 (htb _ wd_49)
  obtain ⟨c4, i4, hK4⟩ := u_known (n := 9) htb fwX4.1 (htb _ wd_71)
  obtain ⟨c5, i5, hK5⟩ := u_known (n := 8) htb fwX5.1 (htb _ wd_24)
  obtain ⟨c6, i6, hK6⟩ := u_known (n := 18) htb fwX6.1 (htb _ wd_882)
  obtain ⟨dC, dI, hKc⟩ : ∃ (dC : Nat → ClassId) (dI : Nat → Nat → Nat), ∀ (k : Nat) (q : vw_C), vwCl[k]? = some q → u_Kn s q.1 q.2.1 q.2.2 (dC k) (dI k) := by
    refine ⟨fun k => match k with | 0 => c0 | 1 => c1 | 2 => c2 | 3 => c3 | 4 => c4 | 5 => c5 | _ => c6, fun k => match k with | 0 => i0 | 1 => i1 | 2 => i2 | 3 => i3 | 4 => i4 | 5 => i5 | _ => i6, ?_⟩
    intro k q hq
    match k, hq with
    | 0, hq => cases hq; exact hK0
    | 1, hq => cases hq; exact hK1
    | 2, hq => cases hq; exact hK2
    | 3, hq => cases hq; exact hK3
    | 4, hq => cases hq; exact hK4
    | 5, hq => cases hq; exact hK5
    | 6, hq => cases hq; exact hK6
    | k + 7, hq => simp [vwCl] at hq
  obtain ⟨cI, hI1, hI2⟩ := ks_arr (ty := .int) (htb _ wd_69) (fun _ => rfl)
  obtain ⟨cJ, hJ1, hJ2⟩ := ks_arr (ty := .long) (htb _ wd_1251) (fun _ => rfl)
  have hAO : (Cond.arrayOver (.object "HeadDots$State")).before #[Value.ref b] s = true := hts _ (by decide +kernel)
  obtain ⟨cR, hR1, hR2⟩ := ks_obj hAO
  have hA : ∀ (A : Nat → Prop), (∀ q, A q → s.heap.size ≤ q) → ∀ a : Nat, a < s.heap.size → ¬ A a := fun A h a h1 h2 => absurd (h a h2) (Nat.not_le.mpr h1)
  have hst : ∀ i : Nat, ∃ t : Nat, i < 5 → (Term.static "HeadDots" (stNm i) "[I").eval #[Value.ref b] s none [] s = some (.ref t) ∧ va_T .int t (stLn i) (fun j => .int (stFn i j)) (fun q => s.heap.size ≤ q) s s.heap := by
    intro i
    by_cases hi : i < 5
    · obtain ⟨t, h1, h2⟩ := va_Tof (tm := Term.static "HeadDots" (stNm i) "[I") (ty := .int) (N := stLn i) (f := fun j => .int (stFn i j)) (A := fun q => s.heap.size ≤ q) (by rcases (show i = 0 ∨ i = 1 ∨ i = 2 ∨ i = 3 ∨ i = 4 by omega) with e | e | e | e | e <;> subst e <;> decide) (hs _ (ks_a1 i hi)) (va_eqt (hs _ (ks_a2 i hi))) (fun j hj => va_eqt (hs _ (ks_a3 i hi j hj))) (hA _ (fun _ h => h))
      exact ⟨t, fun _ => ⟨h1, h2⟩⟩
    · exact ⟨0, fun h => absurd h hi⟩
  obtain ⟨st, hst⟩ := Classical.axiomOfChoice hst
  obtain ⟨adK, adV, hS, hSe⟩ := vk_Sof (args := #[Value.ref b]) (s := s) (N := 8) (tm := tmR) (len := wLen) (byt := wByt) (A := fun q => s.heap.size ≤ q) (by decide) (fun i hi => hs _ (ks_s1 i hi)) (fun i hi => hs _ (ks_s2 i hi)) (fun i hi => hs _ (ks_s3 i hi)) (fun i hi => hs _ (ks_s4 i hi)) (fun i hi j hj => hs _ (ks_s5 i hi j hj)) (fun i j hi hj hij => by
    rcases Nat.lt_or_ge i j with q | q
    · exact (ks_s6 i hi j hj q).imp (hs _) (hs _)
    · exact (ks_s6 j hj i hi (by omega)).symm.imp (hs _) (hs _)) (hA _ (fun _ h => h))
  have hx : ∀ i : Nat, ∃ t : Nat, i < 17 → vk_R "HeadDots" (xIx i) (xTx i) t s := by
    intro i
    by_cases hi : i < 17
    · obtain ⟨a, c, cA, kA, q1, -⟩ := Cond.exactly_spec (args := #[Value.ref b]) (first := s) (o := none) (s := s) (idx := []) (t := .string "HeadDots" (xIx i)) (cls := "java/lang/String") (hs _ (ks_x1 i hi))
      exact ⟨a, fun _ => vk_R.of (hts _ (ks_x2 i hi)) q1⟩
    · exact ⟨0, fun h => absurd h hi⟩
  obtain ⟨ax, hx⟩ := Classical.axiomOfChoice hx
  obtain ⟨ga, eg⟩ : ∃ ga : Nat → Nat, ga = fun k => if k < 10 then st k else if k < 20 then adK (k - 10) else if k < 30 then adV (k - 20) else ax (k - 30) := ⟨_, rfl⟩
  have g0 : ∀ i, i < 5 → ga i = st i := fun i hi => by rw [eg]; exact if_pos (by omega)
  have g1 : ∀ i, i < 8 → ga (10 + i) = adK i := fun i hi => by rw [eg]; show (if 10 + i < 10 then _ else _) = _; rw [if_neg (by omega), if_pos (by omega), Nat.add_sub_cancel_left]
  have g2 : ∀ i, i < 8 → ga (20 + i) = adV i := fun i hi => by rw [eg]; show (if 20 + i < 10 then _ else _) = _; rw [if_neg (by omega), if_neg (by omega), if_pos (by omega), Nat.add_sub_cancel_left]
  have g3 : ∀ i, ga (30 + i) = ax i := fun i => by rw [eg]; show (if 30 + i < 10 then _ else _) = _; rw [if_neg (by omega), if_neg (by omega), if_neg (by omega), Nat.add_sub_cancel_left]
  refine ⟨((dC, dI), (fun k => match k with | 0 => cI | 1 => cJ | _ => cR), s.heap.size, ga), rfl, ?_⟩
  have hAl : ∀ a : Nat, a < s.heap.size → ¬ lowA ((dC, dI), (fun k => match k with | 0 => cI | 1 => cJ | _ => cR), s.heap.size, ga) a := hA _ (fun _ h => h)
  refine ⟨⟨⟨hKc, fun k q hk => ?_⟩, Nat.le_refl _⟩, ⟨fun q hq => va_Nw.of rfl (hts _ (ks_n1 q hq)), fun q hq => va_Nw.of rfl (hts _ (ks_n2 q hq))⟩, fun i hi => ?_, ⟨vk_S_congr hS g1 g2, fun i hi => ?_, ?_, ?_⟩, ⟨fun i hi => ?_, ?_, ?_⟩, fun E hE => va_Nw.of rfl (hts _ (ks_c1 E hE)), va_Nc.of (hs (.not (.castable "java/lang/IllegalArgumentException" "java/lang/IndexOutOfBoundsException")) (by decide +kernel)), va_Nc.of (hs (.not (.castable "java/lang/IllegalStateException" "java/lang/IllegalArgumentException")) (by decide +kernel)), va_AO.of hAO, fun x hx => va_Nw.of rfl (hts _ (ks_c2 x hx))⟩
  · match k, hk with
    | 0, hk => cases hk; exact ⟨hI1, hI2⟩
    | 1, hk => cases hk; exact ⟨hJ1, hJ2⟩
    | 2, hk => cases hk; exact ⟨hR1, hR2⟩
    | k + 3, hk => simp [gT] at hk
  · obtain ⟨h1, h2⟩ := hst i hi
    show va_Z "HeadDots" (stNm i) "[I" (.ref (ga i)) _ s s.heap ∧ va_T .int (ga i) _ _ _ s s.heap
    rw [g0 i hi]
    exact ⟨va_Zref (hts _ (ks_a4 i hi)) (htb _ wd_1) h1 hAl, h2⟩
  · show vk_R _ _ _ (ga (10 + i)) s
    rw [g1 i hi]
    exact vk_R.of (hts _ (ks_s7 i hi)) (hSe i hi)
  · exact va_Zof (hts (.laysStatic "java/lang/String" "COMPACT_STRINGS" "Z") (by decide +kernel)) (htb _ wd_17) (va_eqt (hs (.eq (.static "java/lang/String" "COMPACT_STRINGS" "Z") (.int 1)) (by decide +kernel))) hAl
  · exact va_Zqof (hts (.laysStatic "jdk/internal/util/Preconditions" "SIOOBE_FORMATTER" "Ljava/util/function/BiFunction;") (by decide +kernel)) (htb _ wd_19) (hs (.isRef (.static "jdk/internal/util/Preconditions" "SIOOBE_FORMATTER" "Ljava/util/function/BiFunction;")) (by decide +kernel)) hAl
  · show vk_R _ _ _ (ga (30 + i)) s
    rw [g3 i]
    exact hx i hi
  · exact vx_Zqof (hts (.laysStatic "java/lang/Throwable" "UNASSIGNED_STACK" "[Ljava/lang/StackTraceElement;") (by decide +kernel)) (hts (.initialized "java/lang/Throwable") (by decide +kernel)) (hs (.isRef (.static "java/lang/Throwable" "UNASSIGNED_STACK" "[Ljava/lang/StackTraceElement;")) (by decide +kernel)) hAl
  · exact vx_Zqof (hts (.laysStatic "java/lang/Throwable" "SUPPRESSED_SENTINEL" "Ljava/util/List;") (by decide +kernel)) (hts (.initialized "java/lang/Throwable") (by decide +kernel)) (hs (.isRef (.static "java/lang/Throwable" "SUPPRESSED_SENTINEL" "Ljava/util/List;")) (by decide +kernel)) hAl
theorem whole_start {p : Program} {e : Env} {s : State} {m : MethodId} {below : List Frame} {meth : Method} {c : Code} (l : Launch) (hflags : l.flags = flags0) {b L : Nat} {xs : Nat → Int32} (hL : L ≤ 1536) (C0 : lw_At p s m meth c b L xs) : W p l e room_1 s m #[Value.ref b] below meth c s.heap [] 0 0 (lw_Z below #[Value.ref b] s) (entryFrame m ([Value.ref b] : List Value).toArray 9) := by
  obtain ⟨hx, hb, hr, hml, hown, hts, hX, hbl, hlocks, hgv⟩ := C0
  obtain ⟨G, hgl, hK0⟩ := ks_start hts hgv
  have hT : l.stackTraces = false := by
    unfold Launch.stackTraces
    rw [hflags]
    decide +kernel
  have hC : CX p s m meth c (lawName meth) code 9 ret #[Value.ref b] := ⟨hx, hb, hr, hml, hown, hlocks, fun w h => hts w (List.mem_filter.mp h).1, rfl⟩
  have hl := lv_entry ([.ref b]) (n := 9) (Nat.le_of_ble_eq_true rfl)
  rw [lg_entry_eq]
  exact lw_entry hC hT hK0 hgl hX hbl hL _ hl
