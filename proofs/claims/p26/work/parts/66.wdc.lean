/-! would and wouldDot, whole: the new arrays -/
theorem D_inv {A : Nat → Prop} {ws : va_W} {q : Nat → Nat} {n : Nat} (hw : ws.map Prod.fst = (List.range n).map q) (hD : va_D A ws) : (∀ i, i < n → A (q i)) ∧ ∀ i j, i < n → j < n → q i = q j → i = j := by
  have key : ∀ i, i < n → ∃ p : Nat × va_E, ws[i]? = some p ∧ p.1 = q i := fun i hi => by
    have h1 : (ws.map Prod.fst)[i]? = some (q i) := by
      rw [hw, List.getElem?_map, List.getElem?_range hi]
      rfl
    rw [List.getElem?_map] at h1
    cases hr : ws[i]? with
    | none => rw [hr] at h1; cases h1
    | some p => rw [hr] at h1; exact ⟨p, rfl, Option.some.inj h1⟩
  refine ⟨fun i hi => ?_, fun i j hi hj e => ?_⟩
  · obtain ⟨p, h1, h2⟩ := key i hi
    rw [← h2]
    exact hD.2 i p h1
  · obtain ⟨p, h1, h2⟩ := key i hi
    obtain ⟨r, h3, h4⟩ := key j hj
    exact hD.1 i j p r h1 h3 (by rw [h2, h4, e])
theorem W_lt {G : GT} {ws : va_W} {H : Heap} {q : Nat → Nat} {n : Nat} (hw : ws.map Prod.fst = (List.range n).map q) (hP : PW G ws H) {i : Nat} (hi : i < n) : q i < H.size := by
  have h1 : (ws.map Prod.fst)[i]? = some (q i) := by
    rw [hw, List.getElem?_map, List.getElem?_range hi]
    rfl
  rw [List.getElem?_map] at h1
  cases hr : ws[i]? with
  | none => rw [hr] at h1; cases h1
  | some p =>
    rw [hr] at h1
    rw [← Option.some.inj h1]
    exact (hP i p hr).lt
theorem hdA_lt {G : GT} {a b : Nat → Nat} {x : HV} {H : Heap} (hP : PW G (hdW G a b x) H) {z : Nat} (hz : hdA a b z) : z < H.size := by
  have e : (hdW G a b x).map Prod.fst = (List.range 38).map a ++ (List.range 66).map b := rfl
  have hm : z ∈ (hdW G a b x).map Prod.fst := by
    rw [e]
    rcases hz with ⟨i, hi, e⟩ | ⟨i, hi, e⟩
    · exact List.mem_append_left _ (List.mem_map.mpr ⟨i, List.mem_range.mpr hi, e.symm⟩)
    · exact List.mem_append_right _ (List.mem_map.mpr ⟨i, List.mem_range.mpr hi, e.symm⟩)
  obtain ⟨p, hp, he⟩ := List.mem_map.mp hm
  obtain ⟨k, hk⟩ := List.getElem?_of_mem hp
  rw [← he]
  exact (hP k p hk).lt
theorem lwA_lt {G : GT} {q : Nat → Nat} {v : SV} {H : Heap} (hP : PW G (lwW G q v) H) {z : Nat} (hz : lwA q z) : z < H.size := by
  obtain ⟨i, hi, e⟩ := hz
  rw [e]
  exact W_lt (n := 5) (q := q) rfl hP hi
theorem va_S_mono {A B : Nat → Prop} {H0 H : Heap} {locs : List Loc} (h : va_S A H0 H locs) (hA : ∀ z, A z → B z) : va_S B H0 H locs := ⟨h.1, fun x h1 h2 => h.2.1 x h1 (fun z => h2 (hA x z)), fun q hq => hA _ (h.2.2 q hq)⟩
set_option maxHeartbeats 1000000 in
set_option maxRecDepth 100000 in
theorem c_L_wouldDot (l : Launch) (G : GT) (a b : Nat → Nat) (x : HV) (q : Nat → Nat) (v : SV) (k1 m N B : Nat) (hNL : gL G ≤ N) (hq : hdD G a b) (R : RLw B x v) (hk1 : k1 < 24) (hm : m ≤ 900) :
    Met l yL_wouldDot (Cond.code yL_wouldDot cL_wouldDot 12 (some .boolean) :: bigW) ({ frames := 5, cells := 1, slots := 24, locals := 116 }) (BP G [.ref (a 0), .ref (q 0), .ref (q 4), .int (nI k1), .int (nI m)] (fun _ H => H.size = N ∧ (PW G (hdW G a b x) H ∧ PW G (lwW G q v) H))) (QE (some (.int 1)) (fun H => (fun _ : Heap => True) H) (wdN N)) 1 24 (wdN N) := by
  refine met_of (by decide) (Nat.le_of_ble_eq_true rfl) ?_
  intro p e s mm below meth c ls hC hKN hB0 hl
  obtain ⟨hsz, hP2, hP3⟩ := hB0
  have hl : lv_has ls 12 [(0, .ref (a 0)), (1, .ref (q 0)), (2, .ref (q 4)), (3, .int (nI k1)), (4, .int (nI m))] := hl
  have hS : va_S (wdN N) s.heap s.heap [] := va_S.rf
  have hAs : ∀ z, s.heap.size ≤ z → wdN N z := fun z h => by rw [← hsz]; exact h
  refine lv_iconst (v := 0) hC.1 hC.2.1 dL_wouldDot_0 (by decide) ?_
  refine lv_istore (lv' := [(5, .int 0), (0, .ref (a 0)), (1, .ref (q 0)), (2, .ref (q 4)), (3, .int (nI k1)), (4, .int (nI m))]) hC.1 hC.2.1 dL_wouldDot_1 hl (by decide) rfl (fun ls hl => ?_)
  refine lv_iconst (v := 1) hC.1 hC.2.1 dL_wouldDot_3 (by decide) ?_
  refine lv_istore (lv' := [(6, .int 1), (5, .int 0), (0, .ref (a 0)), (1, .ref (q 0)), (2, .ref (q 4)), (3, .int (nI k1)), (4, .int (nI m))]) hC.1 hC.2.1 dL_wouldDot_4 hl (by decide) rfl (fun ls hl => ?_)
  refine lv_bipush (v := 24) hC.1 hC.2.1 dL_wouldDot_6 (by decide +kernel) ?_
  refine nwI hC hKN (ws := []) (A := wdN N) (fun k q h => by simp at h) ⟨fun i j p q h => by simp at h, fun k q h => by simp at h⟩ hS hAs 24 rfl (by decide) (Nat.le_of_ble_eq_true rfl) (Nat.le_of_ble_eq_true rfl) dL_wouldDot_8 (fun z H1 hP1 hD1 hS => ?_)
  refine lv_astore (lv' := [(7, .ref z), (6, .int 1), (5, .int 0), (0, .ref (a 0)), (1, .ref (q 0)), (2, .ref (q 4)), (3, .int (nI k1)), (4, .int (nI m))]) hC.1 hC.2.1 dL_wouldDot_10 hl (by decide) rfl (fun ls hl => ?_)
  have hz : wdN N z := hD1.2 0 _ rfl
  have hzL : gL G ≤ z := Nat.le_trans hNL hz
  have e1 := wouldDot_1 (f2 := fun _ => 0) R hk1 hm
  have hlt : ∀ z, lwA q z → ¬ wdN N z := fun z h => by
    have := lwA_lt hP3 h
    exact Nat.not_le.mpr (by omega)
  have hw := w_L_wouldDot (p := p) (l := l) (e := e) (m := mm) (below := below) (x2 := nI m) (f2 := fun _ => 0) hC hKN hzL hNL hz hq (fun z h => Nat.not_le.mpr (by have := hdA_lt hP2 h; omega)) hlt (fun i hi e => hlt z ⟨i, hi, e.symm⟩ hz) (show Lgs v from R.2.1.1) hk1 (nI_pos (by omega)) (iwn (a := 0) (b := 900) (by omega) hm (by omega)) hP2 hP3 hP1 hS (lv_sub hl [3, 4, 5, 6, 7, 2, 1, 0] rfl)
  rw [e1] at hw
  exact hw
/-- the places of the new arrays among the law's -/
def pW (i : Nat) : Nat := if i = 0 then 0 else if i = 4 then 1 else i + 1
theorem pW_i : ∀ i j, i < 5 → j < 5 → pW i = pW j → i = j := by
  intro i j hi hj h
  unfold pW at h
  (repeat (first | omega | split at h))
theorem pW_lt (i : Nat) (hi : i < 5) : pW i < 5 := by
  unfold pW
  (repeat (first | omega | split))
def qW (z0 z1 z2 z3 z4 : Nat) : Nat → Nat := fun i => match i with
  | 0 => z0
  | 1 => z1
  | 2 => z2
  | 3 => z3
  | _ => z4
theorem wd_new {G : GT} {A : Nat → Prop} {H : Heap} {z0 z1 z2 z3 z4 : Nat} (hP : PW G [(z0, .inl (gI G, 24, .inl (fun _ => 0))), (z1, .inl (gI G, 21, .inl (fun _ => 0))), (z2, .inl (gI G, 24, .inl (fun _ => 0))), (z3, .inl (gI G, 24, .inl (fun _ => 0))), (z4, .inl (gI G, 36, .inl (fun _ => 0)))] H) (hD : va_D A [(z0, .inl (gI G, 24, .inl (fun _ => 0))), (z1, .inl (gI G, 21, .inl (fun _ => 0))), (z2, .inl (gI G, 24, .inl (fun _ => 0))), (z3, .inl (gI G, 24, .inl (fun _ => 0))), (z4, .inl (gI G, 36, .inl (fun _ => 0)))]) (hA : ∀ z, A z → gL G ≤ z) :
    lwD G (fun i => qW z0 z1 z2 z3 z4 (pW i)) ∧ (∀ z, lwA (fun i => qW z0 z1 z2 z3 z4 (pW i)) z → A z) ∧ PW G (lwW G (fun i => qW z0 z1 z2 z3 z4 (pW i)) (fun _ _ => 0)) H := by
  obtain ⟨h1, h2⟩ := D_inv (n := 5) (q := qW z0 z1 z2 z3 z4) rfl hD
  refine ⟨⟨fun i hi => hA _ (h1 _ (pW_lt i hi)), fun i j hi hj e => pW_i i j hi hj (h2 _ _ (pW_lt i hi) (pW_lt j hj) e)⟩, fun z ⟨i, hi, e⟩ => by rw [e]; exact h1 _ (pW_lt i hi), fun k p hk => ?_⟩
  match k, hk with
  | 0, hk => cases hk; exact hP 0 _ rfl
  | 1, hk => cases hk; exact hP 2 _ rfl
  | 2, hk => cases hk; exact hP 3 _ rfl
  | 3, hk => cases hk; exact hP 4 _ rfl
  | 4, hk => cases hk; exact hP 1 _ rfl
  | k + 5, hk => simp [lwW] at hk
set_option maxHeartbeats 1000000 in
set_option maxRecDepth 100000 in
theorem c_L_would (l : Launch) (G : GT) (a b : Nat → Nat) (x : HV) (q : Nat → Nat) (v : SV) (X N B : Nat) (hNL : gL G ≤ N) (hq : hdD G a b) (R : RLw B x v) (hX : X < 2 ^ 24) (hB : B + 1 < 2 ^ 30) (hNq : ∀ z, lwA q z → ¬ hdA a b z) :
    Met l yL_would (Cond.code yL_would cL_would 13 (some .boolean) :: bigW) ({ frames := 7, cells := 5, slots := 129, locals := 164 }) (BP G [.ref (a 0), .ref (q 0), .ref (q 4), .int (nI X)] (fun _ H => H.size = N ∧ (PW G (hdW G a b x) H ∧ PW G (lwW G q v) H))) (QE (some (.int 1)) (fun H => PW G (hdW G a b (fL_would x v (fun _ _ => 0) (nI X)).1.2) H) (wdA a b N)) 5 129 (wdA a b N) := by
  refine met_of (by decide) (Nat.le_of_ble_eq_true rfl) ?_
  intro p e s mm below meth c ls hC hKN hB0 hl
  obtain ⟨hsz, hP2, hP3⟩ := hB0
  have hl : lv_has ls 13 [(0, .ref (a 0)), (1, .ref (q 0)), (2, .ref (q 4)), (3, .int (nI X))] := hl
  have hS : va_S (wdN N) s.heap s.heap [] := va_S.rf
  have hAs : ∀ z, s.heap.size ≤ z → wdN N z := fun z h => by rw [← hsz]; exact h
  have hAL : ∀ z, wdN N z → gL G ≤ z := fun z h => Nat.le_trans hNL h
  have hP : PW G [] s.heap := fun k q h => by simp at h
  have hD : va_D (wdN N) [] := ⟨fun i j p q h => by simp at h, fun k q h => by simp at h⟩
  refine lv_bipush (v := 24) hC.1 hC.2.1 dL_would_0 (by decide +kernel) ?_
  refine nwI hC (hKN.go hAL hS) hP hD hS hAs 24 rfl (by decide) (Nat.le_of_ble_eq_true rfl) (Nat.le_of_ble_eq_true rfl) dL_would_2 (fun z0 H1 hP hD hS => ?_)
  refine lv_astore (lv' := [(4, .ref z0), (0, .ref (a 0)), (1, .ref (q 0)), (2, .ref (q 4)), (3, .int (nI X))]) hC.1 hC.2.1 dL_would_4 hl (by decide) rfl (fun ls hl => ?_)
  refine lv_bipush (v := 21) hC.1 hC.2.1 dL_would_6 (by decide +kernel) ?_
  refine nwI hC (hKN.go hAL hS) hP hD hS hAs 21 rfl (by decide) (Nat.le_of_ble_eq_true rfl) (Nat.le_of_ble_eq_true rfl) dL_would_8 (fun z1 H2 hP hD hS => ?_)
  refine lv_astore (lv' := [(5, .ref z1), (4, .ref z0), (0, .ref (a 0)), (1, .ref (q 0)), (2, .ref (q 4)), (3, .int (nI X))]) hC.1 hC.2.1 dL_would_10 hl (by decide) rfl (fun ls hl => ?_)
  refine lv_bipush (v := 24) hC.1 hC.2.1 dL_would_12 (by decide +kernel) ?_
  refine nwI hC (hKN.go hAL hS) hP hD hS hAs 24 rfl (by decide) (Nat.le_of_ble_eq_true rfl) (Nat.le_of_ble_eq_true rfl) dL_would_14 (fun z2 H3 hP hD hS => ?_)
  refine lv_astore (lv' := [(6, .ref z2), (5, .ref z1), (4, .ref z0), (0, .ref (a 0)), (1, .ref (q 0)), (2, .ref (q 4)), (3, .int (nI X))]) hC.1 hC.2.1 dL_would_16 hl (by decide) rfl (fun ls hl => ?_)
  refine lv_bipush (v := 24) hC.1 hC.2.1 dL_would_18 (by decide +kernel) ?_
  refine nwI hC (hKN.go hAL hS) hP hD hS hAs 24 rfl (by decide) (Nat.le_of_ble_eq_true rfl) (Nat.le_of_ble_eq_true rfl) dL_would_20 (fun z3 H4 hP hD hS => ?_)
  refine lv_astore (lv' := [(7, .ref z3), (6, .ref z2), (5, .ref z1), (4, .ref z0), (0, .ref (a 0)), (1, .ref (q 0)), (2, .ref (q 4)), (3, .int (nI X))]) hC.1 hC.2.1 dL_would_22 hl (by decide) rfl (fun ls hl => ?_)
  refine lv_bipush (v := 36) hC.1 hC.2.1 dL_would_24 (by decide +kernel) ?_
  refine nwI hC (hKN.go hAL hS) hP hD hS hAs 36 rfl (by decide) (Nat.le_of_ble_eq_true rfl) (Nat.le_of_ble_eq_true rfl) dL_would_26 (fun z4 H5 hP hD hS => ?_)
  refine lv_astore (lv' := [(8, .ref z4), (7, .ref z3), (6, .ref z2), (5, .ref z1), (4, .ref z0), (0, .ref (a 0)), (1, .ref (q 0)), (2, .ref (q 4)), (3, .int (nI X))]) hC.1 hC.2.1 dL_would_28 hl (by decide) rfl (fun ls hl => ?_)
  obtain ⟨hql, hqA, hPn⟩ := wd_new hP hD hAL
  obtain ⟨k1, k2⟩ := would_1 (v2 := fun _ _ => 0) R hX hB (fun _ _ => rfl) (fun _ _ => rfl) (fun _ _ => rfl)
  have hdN : ∀ z, hdA a b z → ¬ wdN N z := fun z h => Nat.not_le.mpr (by have := hdA_lt hP2 h; omega)
  have hlN : ∀ z, lwA q z → ¬ wdN N z := fun z h => Nat.not_le.mpr (by have := lwA_lt hP3 h; omega)
  have hS2 : va_S (wdA a b N) s.heap H5 [] := va_S_mono hS (fun z h => Or.inr h)
  have hPh : PW G (hdW G a b x) H5 := PW_keep hP2 (fun z h1 h2 => hS.2.1 z h1 h2) (hd_na hq hdN x)
  have hqN : ∀ z, lwA (fun i => qW z0 z1 z2 z3 z4 (pW i)) z → N ≤ z := hqA
  have hq3 : ∀ i, i < 5 → q i < N := fun i hi => by have := lwA_lt hP3 ⟨i, hi, rfl⟩; omega
  have hw := w_L_would (p := p) (l := l) (e := e) (m := mm) (below := below) (x1 := nI X) (q2 := fun i => qW z0 z1 z2 z3 z4 (pW i)) (v2 := fun _ _ => 0) hC hKN hNL hql hq (fun z h1 h2 => hdN z h2 (hqN z h1)) hqN (fun z h1 h2 => h2.elim (hNq z h1) (hlN z h1)) (fun i j hi hj e => by
    have g1 := hq3 i hi
    have g2 := hqN _ ⟨j, hj, rfl⟩
    rw [e] at g1
    exact absurd g2 (Nat.not_le.mpr g1)) (show Lgs v from R.2.1.1) (iwn (a := 0) (b := 16777215) (by omega) (by omega) (by omega)) hP3 (PW_app.mpr ⟨hPn, hPh⟩) hS2 (lv_sub hl [5, 6, 7, 8, 4, 3, 2, 1, 0] rfl)
  rw [k1] at hw
  exact hw
