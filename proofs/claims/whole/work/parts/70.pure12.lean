/-! the reference prints a part -/
def rwPP (A : Nat → Int32) (d : Nat) (H e : Int32) : Nat → Int32 := upd (upd (upd A d H) (26 + d) (upd A d H (26 + d) + 1)) (50 + d) (upd (upd A d H) (26 + d) (upd A d H (26 + d) + 1) (50 + d) + e)
theorem rwPP_v (A : Nat → Int32) {d : Nat} (hd : d < 24) (H e : Int32) : (∀ j, j < 24 → rwPP A d H e j = if j = d then H else A j) ∧ (∀ j, j < 24 → rwPP A d H e (26 + j) = if j = d then A (26 + j) + 1 else A (26 + j)) ∧ (∀ j, j < 24 → rwPP A d H e (50 + j) = if j = d then A (50 + j) + e else A (50 + j)) ∧ (∀ k, (k = 24 ∨ k = 25 ∨ 74 ≤ k) → rwPP A d H e k = A k) := by
  unfold rwPP
  refine ⟨fun j hj => ?_, fun j hj => ?_, fun j hj => ?_, fun k hk => ?_⟩
  · rw [pk_un (by omega), pk_un (by omega)]
    by_cases q : j = d
    · rw [if_pos q, q, pk_us]
    · rw [if_neg q, pk_un q]
  · rw [pk_un (by omega)]
    by_cases q : j = d
    · rw [if_pos q, q, pk_us, pk_un (by omega)]
    · rw [if_neg q, pk_un (by omega), pk_un (by omega)]
  · by_cases q : j = d
    · rw [if_pos q, q, pk_us, pk_un (by omega), pk_un (by omega)]
    · rw [if_neg q, pk_un (by omega), pk_un (by omega), pk_un (by omega)]
  · rw [pk_un (by omega), pk_un (by omega), pk_un (by omega)]
def stPP (u : SV) (d : Nat) (H e o t : Int32) : SV := mkM (rwPP (u 0) d H e) (u 1) (u 2) (u 3) (u 4) (u 5) (u 6) (u 7) (u 8 0) (u 8 1) (u 8 2) (u 8 3) (u 8 4 ||| o) t (u 8 6) (u 8 7) (u 8 8)
theorem pp_85 {v u : SV} {x1 x2 : Int32} {d : Nat} (hd : d < 24) (H dk : Int32) (z z1 : Int32) (R : SV) (hR : R = mkM (upd (u 0) d H) (u 1) (u 2) (u 3) (u 4) (u 5) (u 6) (u 7) (u 8 0) (u 8 1) (u 8 2) (u 8 3) (u 8 4) (u 8 5) (u 8 6) (u 8 7) (u 8 8)) (hdk : fX6_darkHeat (mkM (upd (u 0) d H) (u 1) (u 2) (u 3) (u 4) (u 5) (u 6) (u 7) (u 8 0) (u 8 1) (u 8 2) (u 8 3) (u 8 4) z1 (u 8 6) (u 8 7) (u 8 8)) = dk) :
    tX6_printPart_J85 v x1 x2 d z z1 R = (z, stPP u d H (if H < dk then 1 else 0) (if H < dk then 0 else (1 <<< ((nI d) &&& 31))) z1) := by
  subst hR
  have e1 : upd (u 0) d H d = H := pk_us
  delta tX6_printPart_J85
  show (if upd (u 0) d H d < fX6_darkHeat (mkM (upd (u 0) d H) (u 1) (u 2) (u 3) (u 4) (u 5) (u 6) (u 7) (u 8 0) (u 8 1) (u 8 2) (u 8 3) (u 8 4) z1 (u 8 6) (u 8 7) (u 8 8)) then _ else _) = _
  rw [e1, hdk]
  by_cases q : H < dk
  · rw [if_pos q, if_pos q, if_pos q]
    delta tX6_printPart_J107
    refine (if_pos rfl).trans ?_
    delta tX6_printPart_J127
    exact if_pos rfl
  · rw [if_neg q, if_neg q, if_neg q]
    delta tX6_printPart_J107
    refine (if_neg (by decide)).trans ?_
    delta tX6_printPart_J127
    exact if_neg (by decide)
theorem printPart_6 {w : SV} {X hot : Nat} {h : Nat → Nat} (hI : SI (w 0)) (m D : Nat → Bool) (hh : ∀ d, h d ≤ 900) (hhot : hot ≤ 5000) (h0 : ∀ d, d < 24 → w 0 d = nI (h d)) (h4 : w 8 4 = nI (mkN 24 D)) (h5 : w 8 5 = nI hot) {u : SV × Int32} (hu : u = fX6_printPart w (nI X) (nI (mkN 24 m))) :
    u.2 = nI (mxN 24 m (pN (w 0) X)) ∧ (∀ d, d < 24 → u.1 0 d = nI (h2N m h (pN (w 0) X) d)) ∧ (∀ d, d < 24 → u.1 0 (26 + d) = w 0 (26 + d) + nI (m d).toNat) ∧ (∀ d, d < 24 → u.1 0 (50 + d) = w 0 (50 + d) + nI (m d && !decide (dkN (aN (w 0) 81) ≤ h2N m h (pN (w 0) X) d)).toNat) ∧
    u.1 8 4 = nI (mkN 24 (fun d => D d || (m d && decide (dkN (aN (w 0) 81) ≤ h2N m h (pN (w 0) X) d)))) ∧ u.1 8 5 = nI (max hot (mxN 24 m (h2N m h (pN (w 0) X)))) ∧ (∀ k, (k = 24 ∨ k = 25 ∨ 74 ≤ k) → u.1 0 k = w 0 k) ∧ (∀ k, 1 ≤ k → k < 8 → u.1 k = w k) ∧ (∀ k, k < 9 → k ≠ 4 → k ≠ 5 → u.1 8 k = w 8 k) := by
  rw [hu]
  unfold fX6_printPart tX6_printPart_5
  dsimp only
  have hp : ∀ d, 20 ≤ pN (w 0) X d ∧ pN (w 0) X d ≤ 325 := fun d => (pN_spec hI X d).2
  have hk : dkN (aN (w 0) 81) ≤ 150 := by unfold dkN; split <;> (try split) <;> omega
  have key := lpF_0 (fun i (s : Int32 × SV) => s.1 = nI (mxN i m (pN (w 0) X)) ∧ (∀ d, d < 24 → s.2 0 d = nI (if d < i then h2N m h (pN (w 0) X) d else h d)) ∧ (∀ d, d < 24 → s.2 0 (26 + d) = w 0 (26 + d) + nI (decide (d < i) && m d).toNat) ∧ (∀ d, d < 24 → s.2 0 (50 + d) = w 0 (50 + d) + nI (decide (d < i) && (m d && !decide (dkN (aN (w 0) 81) ≤ h2N m h (pN (w 0) X) d))).toNat) ∧
    s.2 8 4 = nI (mkN 24 D) ||| nI (mkN i (fun d => m d && decide (dkN (aN (w 0) 81) ≤ h2N m h (pN (w 0) X) d))) ∧ s.2 8 5 = nI (max hot (mxN i m (h2N m h (pN (w 0) X)))) ∧ (∀ k, (k = 24 ∨ k = 25 ∨ 74 ≤ k) → s.2 0 k = w 0 k) ∧ (∀ k, 1 ≤ k → k < 8 → s.2 k = w k) ∧ (∀ k, k < 9 → k ≠ 4 → k ≠ 5 → s.2 8 k = w 8 k)) (b := bX6_printPart_5 w (nI X) (nI (mkN 24 m))) 24 (0, w) ?_ ?_
  · obtain ⟨c1, c2, c3, c4, c5, c6, c7, c8, c9⟩ := key
    refine ⟨c1, fun d hd => ?_, fun d hd => ?_, fun d hd => ?_, ?_, c6, c7, c8, c9⟩
    · rw [c2 d hd, if_pos hd]
    · rw [c3 d hd, decide_eq_true hd, Bool.true_and]
    · rw [c4 d hd, decide_eq_true hd, Bool.true_and]
    · rw [c5, nx_or, mkN_or]
  · intro d s hd hs
    obtain ⟨c1, c2, c3, c4, c5, c6, c7, c8, c9⟩ := hs
    have hIs : SI (s.2 0) := SI_congr (fun k k1 k2 => c7 k (by omega)) hI
    have ep : pN (s.2 0) X d = pN (w 0) X d := pN_congr (c7 24 (by omega)) (c7 25 (by omega)) (c7 74 (by omega)) (c7 81 (by omega)) X d
    have hpd := hp d
    have hhd := hh d
    have g1 : mxN d m (h2N m h (pN (w 0) X)) ≤ 1800 := mxN_le d (fun j _ hm => by
      have := (hp j).2
      have := hh j
      rw [h2N_t hm]; omega)
    have g0 : mxN d m (pN (w 0) X) ≤ 325 := mxN_le d (fun j _ _ => (hp j).2)
    unfold bX6_printPart_5
    dsimp only
    rw [bit_eq, bit_mkN m hd]
    by_cases q : m d = true
    · have g4 : h2N m h (pN (w 0) X) d ≤ 1800 := by rw [h2N_t q]; omega
      rw [if_pos ((nb_1 _).mpr q), pulse_6 hIs, ep]
      have e0 : s.2 0 d + nI (pN (w 0) X d) = nI (h2N m h (pN (w 0) X) d) := by rw [c2 d hd, if_neg (by omega), nI_add, h2N_t q]
      have edk : ∀ z1 : Int32, fX6_darkHeat (mkM (upd (s.2 0) d (nI (h2N m h (pN (w 0) X) d))) (s.2 1) (s.2 2) (s.2 3) (s.2 4) (s.2 5) (s.2 6) (s.2 7) (s.2 8 0) (s.2 8 1) (s.2 8 2) (s.2 8 3) (s.2 8 4) z1 (s.2 8 6) (s.2 8 7) (s.2 8 8)) = nI (dkN (aN (w 0) 81)) := fun z1 => by
        rw [darkHeat_6 (SI_upd hIs (by omega))]
        congr 2
        show (upd (s.2 0) d (nI (h2N m h (pN (w 0) X) d)) 81).toNatClampNeg = (w 0 81).toNatClampNeg
        rw [pk_un (by omega), c7 81 (by omega)]
      have J : ∀ z, tX6_printPart_J43 w (nI X) (nI (mkN 24 m)) d (nI (pN (w 0) X d)) z s.2 = (z, stPP s.2 d (nI (h2N m h (pN (w 0) X) d)) (if nI (h2N m h (pN (w 0) X) d) < nI (dkN (aN (w 0) 81)) then 1 else 0) (if nI (h2N m h (pN (w 0) X) d) < nI (dkN (aN (w 0) 81)) then 0 else (1 <<< ((nI d) &&& 31))) (nI (max hot (mxN (d + 1) m (h2N m h (pN (w 0) X)))))) := by
        intro z
        delta tX6_printPart_J43
        dsimp only
        rw [e0, show upd (s.2 0) d (nI (h2N m h (pN (w 0) X) d)) d = nI (h2N m h (pN (w 0) X) d) from pk_us, pp_85 hd _ _ _ _ _ rfl (edk _), pp_85 hd _ _ _ _ _ rfl (edk _), mxN_t q, ← Nat.max_assoc, ← imx2 (a := max hot (mxN d m (h2N m h (pN (w 0) X)))) (b := h2N m h (pN (w 0) X) d) (by omega) (by omega), c6]
        split <;> rfl
      rw [J, J]
      obtain ⟨r1, r2, r3, r4⟩ := rwPP_v (s.2 0) hd (nI (h2N m h (pN (w 0) X) d)) (if nI (h2N m h (pN (w 0) X) d) < nI (dkN (aN (w 0) 81)) then 1 else 0)
      have fin : ∀ z : Int32, z = nI (mxN (d + 1) m (pN (w 0) X)) → (fun (s : Int32 × SV) => s.1 = nI (mxN (d + 1) m (pN (w 0) X)) ∧ (∀ d', d' < 24 → s.2 0 d' = nI (if d' < d + 1 then h2N m h (pN (w 0) X) d' else h d')) ∧ (∀ d', d' < 24 → s.2 0 (26 + d') = w 0 (26 + d') + nI (decide (d' < d + 1) && m d').toNat) ∧ (∀ d', d' < 24 → s.2 0 (50 + d') = w 0 (50 + d') + nI (decide (d' < d + 1) && (m d' && !decide (dkN (aN (w 0) 81) ≤ h2N m h (pN (w 0) X) d'))).toNat) ∧
          s.2 8 4 = nI (mkN 24 D) ||| nI (mkN (d + 1) (fun d => m d && decide (dkN (aN (w 0) 81) ≤ h2N m h (pN (w 0) X) d))) ∧ s.2 8 5 = nI (max hot (mxN (d + 1) m (h2N m h (pN (w 0) X)))) ∧ (∀ k, (k = 24 ∨ k = 25 ∨ 74 ≤ k) → s.2 0 k = w 0 k) ∧ (∀ k, 1 ≤ k → k < 8 → s.2 k = w k) ∧ (∀ k, k < 9 → k ≠ 4 → k ≠ 5 → s.2 8 k = w 8 k)) (z, stPP s.2 d (nI (h2N m h (pN (w 0) X) d)) (if nI (h2N m h (pN (w 0) X) d) < nI (dkN (aN (w 0) 81)) then 1 else 0) (if nI (h2N m h (pN (w 0) X) d) < nI (dkN (aN (w 0) 81)) then 0 else (1 <<< ((nI d) &&& 31))) (nI (max hot (mxN (d + 1) m (h2N m h (pN (w 0) X)))))) := by
        intro z hz
        refine ⟨hz, fun j hj => ?_, fun j hj => ?_, fun j hj => ?_, ?_, rfl, fun k hk => (r4 k hk).trans (c7 k hk), al7 (c8 1 (by omega) (by omega)) (c8 2 (by omega) (by omega)) (c8 3 (by omega) (by omega)) (c8 4 (by omega) (by omega)) (c8 5 (by omega) (by omega)) (c8 6 (by omega) (by omega)) (c8 7 (by omega) (by omega)), al9 (c9 0 (by omega)) (c9 1 (by omega)) (c9 2 (by omega)) (c9 3 (by omega)) (fun a => absurd rfl a) (fun _ a => absurd rfl a) (c9 6 (by omega)) (c9 7 (by omega)) (c9 8 (by omega))⟩
        · refine (r1 j hj).trans ?_
          by_cases z : j = d
          · rw [if_pos z, if_pos (by omega), z]
          · rw [if_neg z, c2 j hj]
            by_cases z2 : j < d
            · rw [if_pos z2, if_pos (by omega)]
            · rw [if_neg z2, if_neg (by omega)]
        · refine (r2 j hj).trans ?_
          by_cases z : j = d
          · subst z
            rw [if_pos rfl, c3 j hj, decide_eq_false (show ¬ j < j by omega), decide_eq_true (show j < j + 1 by omega), q, Int32.add_assoc]
            rfl
          · rw [if_neg z, c3 j hj, show decide (j < d + 1) = decide (j < d) from decide_eq_decide.mpr (by omega)]
        · refine (r3 j hj).trans ?_
          by_cases z : j = d
          · subst z
            rw [if_pos rfl, c4 j hj, decide_eq_false (show ¬ j < j by omega), decide_eq_true (show j < j + 1 by omega), q, Bool.false_and, Bool.true_and, Bool.true_and, Int32.add_assoc]
            by_cases z3 : dkN (aN (w 0) 81) ≤ h2N m h (pN (w 0) X) j
            · rw [if_neg (nI_nlt z3 (by omega)), decide_eq_true z3]
              rfl
            · rw [if_pos (nI_lt (by omega) (by omega)), decide_eq_false z3]
              rfl
          · rw [if_neg z, c4 j hj, show decide (j < d + 1) = decide (j < d) from decide_eq_decide.mpr (by omega)]
        · show s.2 8 4 ||| _ = _
          rw [c5, mkN_step _ d (by omega), q, Bool.true_and, Int32.or_assoc]
          congr 2
          by_cases z3 : dkN (aN (w 0) 81) ≤ h2N m h (pN (w 0) X) d
          · rw [if_neg (nI_nlt z3 (by omega)), if_pos (decide_eq_true z3)]
          · rw [if_pos (nI_lt (by omega) (by omega)), if_neg (by rw [decide_eq_false z3]; decide)]
      have hm := imx2 (a := mxN d m (pN (w 0) X)) (b := pN (w 0) X d) (by omega) (by omega)
      rw [← mxN_t q, ← c1] at hm
      by_cases y : nI (pN (w 0) X d) ≤ s.1
      · rw [if_pos y]
        rw [if_pos y] at hm
        exact fin _ hm
      · rw [if_neg y]
        rw [if_neg y] at hm
        exact fin _ hm
    · rw [if_neg (fun z => q ((nb_1 _).mp z))]
      refine ⟨?_, fun j hj => ?_, fun j hj => ?_, fun j hj => ?_, ?_, ?_, c7, c8, c9⟩
      · rw [mxN_f q]; exact c1
      · rw [c2 j hj]
        by_cases z : j = d
        · subst z
          rw [if_neg (by omega), if_pos (by omega), h2N_f q]
        · by_cases z2 : j < d
          · rw [if_pos z2, if_pos (by omega)]
          · rw [if_neg z2, if_neg (by omega)]
      · rw [c3 j hj]
        by_cases z : j = d
        · subst z
          rw [eq_false_of_ne_true q, Bool.and_false, Bool.and_false]
        · rw [show decide (j < d + 1) = decide (j < d) from decide_eq_decide.mpr (by omega)]
      · rw [c4 j hj]
        by_cases z : j = d
        · subst z
          rw [eq_false_of_ne_true q, Bool.false_and, Bool.and_false, Bool.and_false]
        · rw [show decide (j < d + 1) = decide (j < d) from decide_eq_decide.mpr (by omega)]
      · rw [mkN_step _ d (by omega), if_neg (by rw [eq_false_of_ne_true q, Bool.false_and]; decide), or0]
        exact c5
      · rw [mxN_f q]
        exact c6
  · refine ⟨nI_0.symm, fun d hd => ?_, fun d hd => ?_, fun d hd => ?_, ?_, ?_, fun _ _ => rfl, fun _ _ _ => rfl, fun _ _ _ _ => rfl⟩
    · rw [if_neg (by omega)]
      exact h0 d hd
    · rw [decide_eq_false (by omega), Bool.false_and]
      exact (Int32.add_zero _).symm
    · rw [decide_eq_false (by omega), Bool.false_and]
      exact (Int32.add_zero _).symm
    · show w 8 4 = nI (mkN 24 D) ||| nI 0
      rw [nI_0, or0]
      exact h4
    · show w 8 5 = nI (max hot 0)
      rw [Nat.max_zero]
      exact h5
