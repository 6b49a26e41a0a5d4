/-! what lies below the law, at its entry -/
theorem vk_S_congr {N : Nat} {len : List Nat} {byt : List (List Int32)} {adK adV adK' adV' : Nat → Nat} {A : Nat → Prop} {U : State} {H : Heap} (h : vk_S N len byt adK adV A U H) (hK : ∀ i, i < N → adK' i = adK i) (hV : ∀ i, i < N → adV' i = adV i) : vk_S N len byt adK' adV' A U H := by
  refine ⟨fun i hi => ?_, fun i j hi hj e => h.2 i j hi hj (by rw [← hK i hi, ← hK j hj]; exact e)⟩
  rw [hK i hi, hV i hi]
  exact h.1 i hi
theorem ks_arr {s : State} {args : Array Value} {ty : FieldType} (h : (Cond.arrayClass ty).before args s = true) (hr : ∀ cA, va_RA s cA ty = (s.vm.findClass ("[" ++ ty.toString) = some cA)) : ∃ cA, ArrOfT s cA ty ∧ va_RA s cA ty := by
  obtain ⟨c, k, comp, h1, h2, h3⟩ := Cond.arrayClass_spec h
  exact ⟨c, fun n z => ⟨(fun k h => by cases h), k, h2, comp, h3⟩, by rw [hr]; exact h1⟩
theorem ks_obj {s : State} {args : Array Value} {C : String} (h : (Cond.arrayOver (.object C)).before args s = true) : ∃ cA, ArrOfT s cA (.object C) ∧ va_RA s cA (.object C) := by
  obtain ⟨comp, c, k, h1, h2, h3, h4, h5⟩ := Cond.arrayOver_spec h
  exact ⟨c, fun n z => ⟨(fun k h => by cases h), k, h3, comp, h4⟩, k, comp, h3, h4, h1, h5⟩
abbrev NR : Cond := Jvm.Cond.and given_1 narrow_1
set_option maxRecDepth 100000 in
theorem ks_a1 : ∀ i, i < 5 → (Cond.arrayOf (.static "HeadDots" (stNm i) "[I") .int) ∈ flatC NR := by decide +kernel
set_option maxRecDepth 100000 in
theorem ks_a2 : ∀ i, i < 5 → (Cond.eq (.length (.static "HeadDots" (stNm i) "[I")) (.int (Int32.ofNat (stLn i)))) ∈ flatC NR := by decide +kernel
set_option maxRecDepth 100000 in
theorem ks_a3 : ∀ i, i < 5 → ∀ j, j < stLn i → (Cond.eq (.elem (.static "HeadDots" (stNm i) "[I") (.int (Int32.ofNat j))) (.int (stFn i j))) ∈ flatC NR := by decide +kernel
set_option maxRecDepth 100000 in
theorem ks_a4 : ∀ i, i < 5 → (Cond.laysStatic "HeadDots" (stNm i) "[I") ∈ lw_tbl := by decide +kernel
abbrev tmR (i : Nat) : Term := .string "HeadDots$Reader" (wIx i)
set_option maxRecDepth 100000 in
theorem ks_s1 : ∀ i, i < 8 → (Cond.exactly (tmR i) "java/lang/String") ∈ flatC NR := by decide +kernel
set_option maxRecDepth 100000 in
theorem ks_s2 : ∀ i, i < 8 → (Cond.eq (.field (tmR i) "java/lang/String" "coder" "B") (.int 0)) ∈ flatC NR := by decide +kernel
set_option maxRecDepth 100000 in
theorem ks_s3 : ∀ i, i < 8 → (Cond.arrayOf (.field (tmR i) "java/lang/String" "value" "[B") .byte) ∈ flatC NR := by decide +kernel
set_option maxRecDepth 100000 in
theorem ks_s4 : ∀ i, i < 8 → (Cond.eq (.length (.field (tmR i) "java/lang/String" "value" "[B")) (.int (Int32.ofNat (wLen.getD i 0)))) ∈ flatC NR := by decide +kernel
set_option maxRecDepth 100000 in
theorem ks_s5 : ∀ i, i < 8 → ∀ j, j < wLen.getD i 0 → (Cond.eq (.elem (.field (tmR i) "java/lang/String" "value" "[B") (.int (Int32.ofNat j))) (.int ((wByt.getD i []).getD j 0))) ∈ flatC NR := by decide +kernel
set_option maxRecDepth 100000 in
theorem ks_s6 : ∀ i, i < 8 → ∀ j, j < 8 → i < j → (Cond.not (Cond.eq (tmR i) (tmR j))) ∈ flatC NR ∨ (Cond.not (Cond.eq (tmR j) (tmR i))) ∈ flatC NR := by decide +kernel
set_option maxRecDepth 100000 in
theorem ks_s7 : ∀ i, i < 8 → (Cond.stringRef "HeadDots$Reader" (wIx i) (wTx i)) ∈ lw_tbl := by decide +kernel
set_option maxRecDepth 100000 in
theorem ks_x1 : ∀ i, i < 17 → (Cond.exactly (.string "HeadDots" (xIx i)) "java/lang/String") ∈ flatC NR := by decide +kernel
set_option maxRecDepth 100000 in
theorem ks_x2 : ∀ i, i < 17 → (Cond.stringRef "HeadDots" (xIx i) (xTx i)) ∈ lw_tbl := by decide +kernel
set_option maxRecDepth 100000 in
theorem ks_n1 : ∀ q ∈ nestF, (Cond.fieldLinkNest q.1 q.2.1 q.2.2.1 q.2.2.2.1 q.2.2.2.2.1 q.2.2.2.2.2) ∈ lw_tbl := by decide +kernel
set_option maxRecDepth 100000 in
theorem ks_n2 : ∀ q ∈ nestM, (Cond.methodLinkNest q.1 q.2.1 q.2.2.1 q.2.2.2) ∈ lw_tbl := by decide +kernel
set_option maxRecDepth 100000 in
theorem ks_c1 : ∀ E ∈ castX, (Cond.castable E E) ∈ lw_tbl := by decide +kernel
set_option maxRecDepth 100000 in
theorem ks_c2 : ∀ x ∈ declX, (Cond.declares x) ∈ lw_tbl := by decide +kernel
