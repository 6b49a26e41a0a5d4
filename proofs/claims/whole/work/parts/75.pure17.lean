/-! the reference prints a line -/
theorem PL6 {w : SV} {X B : Nat} (G : Gd B (w 0)) (hX : X < 2 ^ 24) {u : SV × Int32} (hu : u = fX6_printLine w (nI X)) :
    (∀ k, k < 124 → u.1 0 k = nxt (w 0) X k) ∧ u.2 = nI (lnT (w 0) X) ∧ u.1 8 3 = nI (spE (w 0) X).2.2.2.1 ∧ u.1 8 5 = nI (spE (w 0) X).2.2.2.2 ∧ (∀ j, 1 ≤ j → j < 8 → u.1 j = w j) ∧ (∀ j, j < 9 → j ≠ 3 → j ≠ 4 → j ≠ 5 → u.1 8 j = w 8 j) := by
  have g1 := G.1
  have hp := ptN_le g1 X
  obtain ⟨w0, ew⟩ : ∃ z, z = mkM (w 0) (w 1) (w 2) (w 3) (w 4) (w 5) (w 6) (w 7) (w 8 0) (w 8 1) (w 8 2) 0 0 0 (w 8 6) (w 8 7) (w 8 8) := ⟨_, rfl⟩
  have key := lpF_0 (fun k s => k ≤ ptN (w 0) X → MR w (w 0) X k s) (b := bX6_printLine_32 w (nI X) (w 0 82) (nI (ptN (w 0) X))) (ptN (w 0) X) w0 (fun k s hk hs _ => mr_step g1 (fun d hd => (G.2.1 d hd).2) hX hk s (hs (by omega))) (fun _ => by
    rw [ew]
    refine ⟨fun d hd => ?_, fun d hd => ?_, fun d hd => ?_, ?_, nI_0.symm, ?_, nI_0.symm, fun _ _ _ => rfl, al7 rfl rfl rfl rfl rfl rfl rfl, al9 (fun _ _ _ => rfl) (fun _ _ _ => rfl) (fun _ _ _ => rfl) (fun q => absurd rfl q) (fun _ q => absurd rfl q) (fun _ _ q => absurd rfl q) (fun _ _ _ => rfl) (fun _ _ _ => rfl) (fun _ _ _ => rfl)⟩
    · show w 0 d = nI (if d < 24 then aN (w 0) d else 0)
      rw [if_pos hd]
      exact (G.2.1 d hd).1
    · show w 0 (26 + d) = _
      unfold inB
      rw [decide_eq_false (Nat.not_lt_zero _), Bool.and_false]
      exact (Int32.add_zero _).symm
    · show w 0 (50 + d) = _
      unfold inB
      rw [decide_eq_false (Nat.not_lt_zero _), Bool.and_false, Bool.false_and]
      exact (Int32.add_zero _).symm
    · show w 0 82 = w 0 82 + nI 0
      rw [nI_0, Int32.add_zero]
    · show 0 = nI (mkN 24 (fun _ => false))
      rw [mkN_F, nI_0]) (Nat.le_refl _)
  obtain ⟨s, es⟩ : ∃ z, z = lpF (ptN (w 0) X) 0 (bX6_printLine_32 w (nI X) (w 0 82) (nI (ptN (w 0) X))) w0 := ⟨_, rfl⟩
  rw [← es] at key
  have e1 : fX6_printLine w (nI X) = tX6_printLine_32 w (nI X) (w 0 82) (nI (ptN (w 0) X)) s := by
    unfold fX6_printLine
    rw [partsOf_6 g1 (by omega), nI_clamp (by omega), ← ew, ← es]
  obtain ⟨c1, c2, c3, c4, c5, c6, c7, c8, c9, c10⟩ := key
  obtain ⟨-, ⟨h75, b1, b2⟩, -, -, -, -, ⟨h80, b3⟩, -⟩ := SI_n g1
  obtain ⟨l1, l2⟩ := sp_le g1 (fun d hd => (G.2.1 d hd).2) hX (ptN (w 0) X)
  have e80 : s 0 80 = nI (aN (w 0) 80) := by rw [c8 80 (by omega) (by omega)]; exact h80
  rw [hu, e1]
  unfold tX6_printLine_32
  dsimp only
  rw [e80]
  have T := pu_pass (v := s) (c := aN (w 0) 75) (t := aN (w 0) 80) (h := (spN (w 0) X (ptN (w 0) X)).1) (by omega) (by omega) (by omega) (fun d => by have := l1 d; omega) (by rw [c8 75 (by omega) (by omega)]; exact h75) c1
  obtain ⟨z, ez⟩ : ∃ z, z = fX6_pass s (nI (aN (w 0) 80)) := ⟨_, rfl⟩
  rw [← ez] at T ⊢
  obtain ⟨t1, t2, t3⟩ := T
  have K := keepLine_v (v := z) (x1 := nI X) (x2 := nI (ptN (w 0) X)) (n := aN (w 0) 87) (by rw [t1, if_neg (by omega), if_neg (by omega), c8 87 (by omega) (by omega)]; exact G.2.2.2.1.1) G.2.2.2.1.2 rfl
  obtain ⟨y, ey⟩ : ∃ y, y = fX6_keepLine z (nI X) (nI (ptN (w 0) X)) := ⟨_, rfl⟩
  rw [← ey] at K ⊢
  obtain ⟨k1, k2, k3, k4, k5, k6, k7, k8⟩ := K
  have m4 : z 8 4 = nI (mkN 24 (spN (w 0) X (ptN (w 0) X)).2.1) := by rw [t3 4 (by omega)]; exact c6
  have y3 : y 8 3 = nI (spE (w 0) X).2.2.2.1 := by rw [k8 3 (by omega), t3 3 (by omega)]; exact c5
  have y5 : y 8 5 = nI (spE (w 0) X).2.2.2.2 := by rw [k8 5 (by omega), t3 5 (by omega)]; exact c7
  have y86 : y 0 86 = nI (aN (w 0) 86) := by rw [k6 86 (by omega), t1, if_neg (by omega), if_neg (by omega), c8 86 (by omega) (by omega)]; exact G.2.2.1.1
  have y82 : y 0 82 = w 0 82 + nI (lnT (w 0) X) := by
    rw [k6 82 (by omega), t1, if_neg (by omega), if_pos rfl, c4, Int32.add_assoc, nI_add]
    rfl
  obtain ⟨Ar, eA⟩ : ∃ a, a = upd (upd (upd (upd (upd (y 0) 25 (y 0 24)) 24 (nI X)) 83 (upd (upd (y 0) 25 (y 0 24)) 24 (nI X) 83 + 1)) 84 (upd (upd (upd (y 0) 25 (y 0 24)) 24 (nI X)) 83 (upd (upd (y 0) 25 (y 0 24)) 24 (nI X) 83 + 1) 84 + nI (ptN (w 0) X))) 85 (upd (upd (upd (upd (y 0) 25 (y 0 24)) 24 (nI X)) 83 (upd (upd (y 0) 25 (y 0 24)) 24 (nI X) 83 + 1)) 84 (upd (upd (upd (y 0) 25 (y 0 24)) 24 (nI X)) 83 (upd (upd (y 0) 25 (y 0 24)) 24 (nI X) 83 + 1) 84 + nI (ptN (w 0) X)) 85 + y 8 3) := ⟨_, rfl⟩
  rw [← eA]
  have a24 : Ar 24 = nI X := by rw [eA, pk_un (by omega), pk_un (by omega), pk_un (by omega), pk_us]
  have a25 : Ar 25 = y 0 24 := by rw [eA, pk_un (by omega), pk_un (by omega), pk_un (by omega), pk_un (by omega), pk_us]
  have a83 : Ar 83 = y 0 83 + 1 := by rw [eA, pk_un (by omega), pk_un (by omega), pk_us, pk_un (by omega), pk_un (by omega)]
  have a84 : Ar 84 = y 0 84 + nI (ptN (w 0) X) := by rw [eA, pk_un (by omega), pk_us, pk_un (by omega), pk_un (by omega), pk_un (by omega)]
  have a85 : Ar 85 = y 0 85 + y 8 3 := by rw [eA, pk_us, pk_un (by omega), pk_un (by omega), pk_un (by omega), pk_un (by omega)]
  have aO : ∀ k, k ≠ 24 → k ≠ 25 → k ≠ 83 → k ≠ 84 → k ≠ 85 → Ar k = y 0 k := fun k h1 h2 h3 h4 h5 => by rw [eA, pk_un h5, pk_un h4, pk_un h3, pk_un h1, pk_un h2]
  have a86 : Ar 86 = nI (aN (w 0) 86) := (aO 86 (by omega) (by omega) (by omega) (by omega) (by omega)).trans y86
  have lh := G.2.2.1.2
  have row : ∀ q : Int32, q = nI (max (aN (w 0) 86) (spE (w 0) X).2.2.2.2) → ∀ k, k < 124 → upd Ar 86 q k = nxt (w 0) X k := by
    intro q hq k hk
    by_cases h1 : k < 24
    · rw [pk_un (by omega), aO k (by omega) (by omega) (by omega) (by omega) (by omega), k6 k (by omega), t1, if_pos h1, nx_h h1]
      rfl
    · by_cases h2 : k = 24
      · rw [h2, pk_un (by omega), a24, nx_24]
      · by_cases h3 : k = 25
        · rw [h3, pk_un (by omega), a25, k6 24 (by omega), t1, if_neg (by omega), if_neg (by omega), c8 24 (by omega) (by omega), nx_25]
        · by_cases h4 : k < 50
          · obtain ⟨d, rfl⟩ : ∃ d, k = 26 + d := ⟨k - 26, by omega⟩
            rw [pk_un (by omega), aO _ (by omega) (by omega) (by omega) (by omega) (by omega), k6 _ (by omega), t1, if_neg (by omega), if_neg (by omega), c2 d (by omega), nx_p (by omega)]
            congr 3
            unfold inB
            cases hb : X.testBit d with
            | false => rfl
            | true => rw [decide_eq_true (pt_lt g1 (by omega) hb)]; rfl
          · by_cases h5 : k < 74
            · obtain ⟨d, rfl⟩ : ∃ d, k = 50 + d := ⟨k - 50, by omega⟩
              rw [pk_un (by omega), aO _ (by omega) (by omega) (by omega) (by omega) (by omega), k6 _ (by omega), t1, if_neg (by omega), if_neg (by omega), c3 d (by omega), nx_f (by omega)]
              unfold inB
              cases hb : X.testBit d with
              | false => rfl
              | true => rw [decide_eq_true (pt_lt g1 (by omega) hb)]; rfl
            · by_cases h6 : k < 82
              · rw [pk_un (by omega), aO _ (by omega) (by omega) (by omega) (by omega) (by omega), k6 _ (by omega), t1, if_neg (by omega), if_neg (by omega), c8 k (by omega) (by omega), nx_s (by omega) h6]
              · by_cases h7 : k < 87
                · have h8 : k = 82 ∨ k = 83 ∨ k = 84 ∨ k = 85 ∨ k = 86 := by omega
                  rcases h8 with h | h | h | h | h
                  · rw [h, pk_un (by omega), aO _ (by omega) (by omega) (by omega) (by omega) (by omega), y82, nx_82]
                  · rw [h, pk_un (by omega), a83, k6 83 (by omega), t1, if_neg (by omega), if_neg (by omega), c8 83 (by omega) (by omega), nx_83]
                  · rw [h, pk_un (by omega), a84, k6 84 (by omega), t1, if_neg (by omega), if_neg (by omega), c8 84 (by omega) (by omega), nx_84]
                  · rw [h, pk_un (by omega), a85, y3, k6 85 (by omega), t1, if_neg (by omega), if_neg (by omega), c8 85 (by omega) (by omega), nx_85]
                  · rw [h, pk_us, hq, nx_86]
                · rw [pk_un (by omega), aO _ (by omega) (by omega) (by omega) (by omega) (by omega)]
                  by_cases h8 : k < 91
                  · have h9 : k = 87 ∨ k = 88 ∨ k = 89 ∨ k = 90 := by omega
                    rcases h9 with h | h | h | h
                    · rw [h, k1, nx_87]
                    · rw [h, k2, m4]; exact nx_88.symm
                    · rw [h, k3, m4, andn_mkN hX]; exact nx_89.symm
                    · rw [h, k4, nx_90]
                  · rw [k5 k (by omega) hk, t1, if_neg (by omega), if_neg (by omega), c8 _ (by omega) (by omega), nx_l (by omega)]
  have r82 : ∀ q : Int32, upd Ar 86 q 82 - w 0 82 = nI (lnT (w 0) X) := fun q => by
    rw [pk_un (by omega), aO 82 (by omega) (by omega) (by omega) (by omega) (by omega), y82, Int32.add_comm, Int32.add_sub_cancel]
  have f7 : ∀ j, 1 ≤ j → j < 8 → y j = w j := fun j j1 j2 => (k7 j j1 j2).trans ((t2 j j1 j2).trans (c9 j j1 j2))
  have f9 : ∀ j, j < 9 → j ≠ 3 → j ≠ 4 → j ≠ 5 → y 8 j = w 8 j := fun j j1 j2 j3 j4 => (k8 j j1).trans ((t3 j j1).trans (c10 j j1 j2 j3 j4))
  rw [y5, a86]
  by_cases q : (spE (w 0) X).2.2.2.2 ≤ aN (w 0) 86
  · rw [if_pos (nI_le q (by omega))]
    refine ⟨row _ ?_, r82 _, y3, rfl, al7 (f7 1 (by omega) (by omega)) (f7 2 (by omega) (by omega)) (f7 3 (by omega) (by omega)) (f7 4 (by omega) (by omega)) (f7 5 (by omega) (by omega)) (f7 6 (by omega) (by omega)) (f7 7 (by omega) (by omega)), al9 (f9 0 (by omega)) (f9 1 (by omega)) (f9 2 (by omega)) (fun a => absurd rfl a) (fun _ a => absurd rfl a) (fun _ _ a => absurd rfl a) (f9 6 (by omega)) (f9 7 (by omega)) (f9 8 (by omega))⟩
    rw [Nat.max_eq_left q]
  · rw [if_neg (nI_ge (by omega) (by have : (spE (w 0) X).2.2.2.2 ≤ 900 := l2; omega))]
    refine ⟨row _ ?_, r82 _, y3, rfl, al7 (f7 1 (by omega) (by omega)) (f7 2 (by omega) (by omega)) (f7 3 (by omega) (by omega)) (f7 4 (by omega) (by omega)) (f7 5 (by omega) (by omega)) (f7 6 (by omega) (by omega)) (f7 7 (by omega) (by omega)), al9 (f9 0 (by omega)) (f9 1 (by omega)) (f9 2 (by omega)) (fun a => absurd rfl a) (fun _ a => absurd rfl a) (fun _ _ a => absurd rfl a) (f9 6 (by omega)) (f9 7 (by omega)) (f9 8 (by omega))⟩
    rw [Nat.max_eq_right (by omega)]
