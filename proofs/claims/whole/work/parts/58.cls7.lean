/-! a new reference -/
def mv0 : SV := mkM (upd (upd (upd (upd (upd (upd (fun _ => 0) 74 120) 75 40) 76 500) 77 8) 78 100) 80 5) zF zF zF zF zF zF zF 0 0 0 0 0 0 0 0 0
theorem D_inv {A : Nat → Prop} {ws : va_W} {q : Nat → Nat} {n : Nat} (hw : ws.map Prod.fst = (List.range n).map q) (hD : va_D A ws) : (∀ i, i < n → A (q i)) ∧ ∀ i j, i < n → j < n → q i = q j → i = j := by
  have key : ∀ i, i < n → ∃ p : Nat × va_E, ws[i]? = some p ∧ p.1 = q i := fun i hi => by
    have h1 : (ws.map Prod.fst)[i]? = some (q i) := by
      rw [hw, List.getElem?_map, List.getElem?_range hi]
      rfl
    rw [List.getElem?_map] at h1
    cases hr : ws[i]? with
    | none => rw [hr] at h1; cases h1
    | some p => rw [hr] at h1; exact ⟨p, rfl, Option.some.inj h1⟩
  refine ⟨fun i hi => ?_, fun i j hi hj e => ?_⟩
  · obtain ⟨p, h1, h2⟩ := key i hi
    rw [← h2]
    exact hD.2 i p h1
  · obtain ⟨p, h1, h2⟩ := key i hi
    obtain ⟨r, h3, h4⟩ := key j hj
    exact hD.1 i j p r h1 h3 (by rw [h2, h4, e])
theorem md_new {G : GT} {A : Nat → Prop} {q z1 z2 z3 z4 z5 z6 z7 z8 : Nat} {H : Heap} (hP : PW G (mdW G (ad11 q z1 z2 z3 z4 z5 z6 z7 z8 0 0) mv0 0) H) (hD : va_D A (mdW G (ad11 q z1 z2 z3 z4 z5 z6 z7 z8 0 0) mv0 0)) (hAL : ∀ z, A z → gL G ≤ z) : ∃ r : Nat → Nat, r 0 = q ∧ mdD G r ∧ PW G (mdW G r mv0 0) H ∧ ∀ z, mdA r z → A z := by
  obtain ⟨h1, h2⟩ := D_inv (n := 9) (q := ad11 q z1 z2 z3 z4 z5 z6 z7 z8 0 0) rfl hD
  exact ⟨_, rfl, ⟨fun i hi => hAL _ (h1 i hi), h2⟩, hP, fun z ⟨i, hi, e⟩ => by rw [e]; exact h1 i hi⟩
