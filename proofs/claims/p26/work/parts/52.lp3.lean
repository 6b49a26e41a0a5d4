/-! a part of a line: the heating -/
theorem mkN_cg {p q : Nat → Bool} (n : Nat) (h : ∀ d, d < n → p d = q d) : mkN n p = mkN n q := by
  apply Nat.eq_of_testBit_eq
  intro i
  rw [tb_mkN, tb_mkN]
  by_cases k : i < n
  · rw [h i k]
  · rw [decide_eq_false k]
    rfl
theorem dark_L {w : SV} {p : Nat} (hp : w 4 7 = nI p) (hp2 : p ≤ 2) : fL_dark w = nI (dkN p) := by
  unfold fL_dark
  rw [hp]
  match p, hp2 with
  | 0, _ => decide +kernel
  | 1, _ => decide +kernel
  | 2, _ => decide +kernel
  | p + 3, h => exact absurd h (by omega)
theorem dk_lt {p : Nat} : dkN p < 200 := by
  unfold dkN
  split
  · omega
  · split <;> omega
theorem J341_e {v w : SV} {x6 y6 y8 y12 z0 z1 : Int32} {k d p H : Nat} (hp : w 4 7 = nI p) (hp2 : p ≤ 2) (h0 : w 0 d = nI H) (hH : H < 2 ^ 31) : tL_prints_J341 v x6 y6 y8 k d y12 z0 z1 w = (z0 ||| z1, y12, mkL (w 0) (upd (w 1) d (w 1 d + 1)) (upd (w 2) d (w 2 d + if dkN p ≤ H then 0 else 1)) (w 3) (w 4)) := by
  unfold tL_prints_J341
  dsimp only
  rw [dark_L (w := mkL (w 0) (upd (w 1) d (w 1 d + 1)) (w 2) (w 3) (w 4)) (p := p) hp hp2, h0]
  by_cases q : dkN p ≤ H
  · rw [if_pos (nI_le q hH), if_pos q]
    rfl
  · rw [if_neg (nI_ge (Nat.not_le.mp q) (Nat.lt_trans dk_lt (by omega))), if_neg q]
    rfl
theorem J318_e {v w : SV} {x6 y6 y8 y9 y12 z2 : Int32} {k d p H : Nat} (hp : w 4 7 = nI p) (hp2 : p ≤ 2) (h0 : w 0 d = nI H) (hH : H < 2 ^ 31) : tL_prints_J318 v x6 y6 y8 k d y9 y12 z2 w = (y9 ||| (if dkN p ≤ H then (1 : Int32) <<< (nI d &&& 31) else 0), y12, mkL (w 0) (upd (w 1) d (w 1 d + 1)) (upd (w 2) d (w 2 d + if dkN p ≤ H then 0 else 1)) (w 3) (upd (w 4) 20 z2)) := by
  have hp' : (mkL (w 0) (w 1) (w 2) (w 3) (upd (w 4) 20 z2)) 4 7 = nI p := (show upd (w 4) 20 z2 7 = w 4 7 from pk_un (by decide)).trans hp
  unfold tL_prints_J318
  rw [dark_L hp' hp2, h0]
  by_cases q : dkN p ≤ H
  · rw [if_pos (nI_le q hH), J341_e (H := H) hp' hp2 h0 hH, if_pos q, if_pos q]
    rfl
  · rw [if_neg (nI_ge (Nat.not_le.mp q) (Nat.lt_trans dk_lt (by omega))), J341_e (H := H) hp' hp2 h0 hH, if_neg q, if_neg q]
    rfl
theorem J279_e {v w : SV} {x6 y6 y8 y9 z0 : Int32} {k d p h P hot : Nat} (hp : w 4 7 = nI p) (hp2 : p ≤ 2) (h0 : w 0 d = nI h) (hH : h + P < 2 ^ 31) (h20 : w 4 20 = nI hot) (hhot : hot < 2 ^ 31) : tL_prints_J279 v x6 y6 y8 k d y9 (nI P) z0 w = (y9 ||| (if dkN p ≤ h + P then (1 : Int32) <<< (nI d &&& 31) else 0), z0, mkL (upd (w 0) d (nI (h + P))) (upd (w 1) d (w 1 d + 1)) (upd (w 2) d (w 2 d + if dkN p ≤ h + P then 0 else 1)) (w 3) (upd (w 4) 20 (nI (max hot (h + P))))) := by
  unfold tL_prints_J279
  dsimp only
  rw [ite_ap (fun z => tL_prints_J318 v x6 y6 y8 k d y9 z0 z (mkL (upd (w 0) d (w 0 d + nI P)) (w 1) (w 2) (w 3) (w 4))), pk_us, h0, nI_add, h20, imx2 (a := hot) (b := h + P) hhot hH]
  exact J318_e (w := mkL (upd (w 0) d (nI (h + P))) (w 1) (w 2) (w 3) (w 4)) (H := h + P) hp hp2 (show upd (w 0) d (nI (h + P)) d = _ from pk_us) hH
/-- behind the first i dots -/
def HI (m D : Nat → Bool) (p h : Nat → Nat) (dk hot : Nat) (w1 : SV) (i : Nat) (s : Int32 × Int32 × SV) : Prop :=
  s.1 = nI (mkN 24 (fun d => D d || (decide (d < i) && (m d && decide (dk ≤ h2N m h p d))))) ∧ s.2.1 = nI (mxN i m p) ∧ (∀ d, d < 24 → s.2.2 0 d = nI (if d < i then h2N m h p d else h d)) ∧ s.2.2 4 20 = nI (max hot (mxN i m (h2N m h p))) ∧
  (∀ d, d < 24 → s.2.2 1 d = w1 1 d + nI (decide (d < i) && m d).toNat) ∧ (∀ d, d < 24 → s.2.2 2 d = w1 2 d + nI (decide (d < i) && (m d && !decide (dk ≤ h2N m h p d))).toNat) ∧ s.2.2 3 = w1 3 ∧ ∀ j, j ≠ 20 → s.2.2 4 j = w1 4 j
theorem dlt_s {d i : Nat} (h : ¬ d = i) : decide (d < i + 1) = decide (d < i) := by
  by_cases z : d < i
  · rw [decide_eq_true z, decide_eq_true (by omega)]
  · rw [decide_eq_false z, decide_eq_false (by omega)]
theorem HI_no {m D : Nat → Bool} {p h : Nat → Nat} {dk hot i : Nat} {w1 : SV} {s : Int32 × Int32 × SV} (hm : ¬ m i = true) (a : HI m D p h dk hot w1 i s) : HI m D p h dk hot w1 (i + 1) s := by
  obtain ⟨a1, a2, a3, a4, a5, a6, a7, a8⟩ := a
  have hm2 := eq_false_of_ne_true hm
  refine ⟨a1.trans (congrArg nI (mkN_cg 24 (fun d _ => ?_))), by rw [mxN_f hm]; exact a2, fun d hd => (a3 d hd).trans ?_, by rw [mxN_f hm]; exact a4, fun d hd => (a5 d hd).trans ?_, fun d hd => (a6 d hd).trans ?_, a7, a8⟩
  · by_cases z : d = i
    · subst z; rw [hm2, Bool.false_and, Bool.and_false, Bool.and_false]
    · rw [dlt_s z]
  · by_cases z : d = i
    · subst z; rw [if_neg (Nat.lt_irrefl d), if_pos (by omega), h2N_f hm]
    · by_cases z2 : d < i
      · rw [if_pos z2, if_pos (by omega)]
      · rw [if_neg z2, if_neg (by omega)]
  · by_cases z : d = i
    · subst z; rw [hm2, Bool.and_false, Bool.and_false]
    · rw [dlt_s z]
  · by_cases z : d = i
    · subst z; rw [hm2, Bool.false_and, Bool.and_false, Bool.and_false]
    · rw [dlt_s z]
theorem mkN_set {q : Nat → Bool} {i : Nat} (hi : i < 24) (b : Bool) : nI (mkN 24 q) ||| (if b then (1 : Int32) <<< (nI i &&& 31) else 0) = nI (mkN 24 (fun d => q d || (decide (d = i) && b))) := by
  cases b with
  | false =>
    rw [if_neg (by decide), Int32.or_zero]
    exact congrArg nI (mkN_cg 24 (fun d _ => by rw [Bool.and_false, Bool.or_false]))
  | true =>
    rw [if_pos rfl, one_sh i (by omega), nx_or]
    congr 1
    apply Nat.eq_of_testBit_eq
    intro j
    rw [Nat.testBit_or, tb_mkN, tb_mkN, Nat.testBit_two_pow, Bool.and_true]
    by_cases z : j < 24
    · rw [decide_eq_true z, Bool.true_and, Bool.true_and, show decide (i = j) = decide (j = i) from by simp only [eq_comm]]
    · rw [decide_eq_false z, Bool.false_and, Bool.false_and, decide_eq_false (by omega)]
      rfl
theorem HI_yes {m D : Nat → Bool} {p h : Nat → Nat} {dk hot i : Nat} {w1 : SV} {y9 y12 : Int32} {w : SV} (hi : i < 24) (hm : m i = true) (hd : D i = false) (a : HI m D p h dk hot w1 i (y9, y12, w)) :
    HI m D p h dk hot w1 (i + 1) (y9 ||| (if dk ≤ h i + p i then (1 : Int32) <<< (nI i &&& 31) else 0), nI (max (mxN i m p) (p i)), mkL (upd (w 0) i (nI (h i + p i))) (upd (w 1) i (w 1 i + 1)) (upd (w 2) i (w 2 i + if dk ≤ h i + p i then 0 else 1)) (w 3) (upd (w 4) 20 (nI (max (max hot (mxN i m (h2N m h p))) (h i + p i))))) := by
  obtain ⟨a1, a2, a3, a4, a5, a6, a7, a8⟩ := a
  dsimp only at a1 a2 a3 a4 a5 a6 a7 a8
  have hh : h2N m h p i = h i + p i := h2N_t hm
  refine ⟨?_, ?_, fun d hd2 => ?_, ?_, fun d hd2 => ?_, fun d hd2 => ?_, a7, fun j hj => ?_⟩
  · show y9 ||| _ = _
    have e := mkN_set (q := fun d => D d || (decide (d < i) && (m d && decide (dk ≤ h2N m h p d)))) hi (decide (dk ≤ h i + p i))
    have e2 : (if decide (dk ≤ h i + p i) = true then (1 : Int32) <<< (nI i &&& 31) else 0) = if dk ≤ h i + p i then (1 : Int32) <<< (nI i &&& 31) else 0 := by
      by_cases q : dk ≤ h i + p i
      · rw [if_pos (decide_eq_true q), if_pos q]
      · rw [if_neg (fun z => q (of_decide_eq_true z)), if_neg q]
    rw [a1, ← e2, e]
    refine congrArg nI (mkN_cg 24 (fun d _ => ?_))
    by_cases z : d = i
    · subst z
      rw [hd, hm, hh, decide_eq_false (Nat.lt_irrefl d), decide_eq_true rfl, decide_eq_true (show d < d + 1 by omega)]
      rfl
    · rw [decide_eq_false z, Bool.false_and, Bool.or_false, dlt_s z]
  · show nI _ = nI _
    rw [mxN_t hm]
  · show upd (w 0) i _ d = _
    by_cases z : d = i
    · subst z
      rw [pk_us, if_pos (by omega), hh]
    · rw [pk_un z, a3 d hd2]
      by_cases z2 : d < i
      · rw [if_pos z2, if_pos (by omega)]
      · rw [if_neg z2, if_neg (by omega)]
  · show upd (w 4) 20 (nI (max (max hot (mxN i m (h2N m h p))) (h i + p i))) 20 = nI (max hot (mxN (i + 1) m (h2N m h p)))
    rw [pk_us, mxN_t hm, hh, Nat.max_assoc]
  · show upd (w 1) i _ d = _
    by_cases z : d = i
    · subst z
      rw [pk_us, a5 d hd2, hm, decide_eq_false (Nat.lt_irrefl d), decide_eq_true (show d < d + 1 by omega), Int32.add_assoc]
      rfl
    · rw [pk_un z, a5 d hd2, dlt_s z]
  · show upd (w 2) i _ d = _
    by_cases z : d = i
    · subst z
      rw [pk_us, a6 d hd2, hm, hh, decide_eq_false (Nat.lt_irrefl d), decide_eq_true (show d < d + 1 by omega), Int32.add_assoc]
      by_cases q : dk ≤ h d + p d
      · rw [if_pos q, decide_eq_true q]; rfl
      · rw [if_neg q, decide_eq_false q]; rfl
    · rw [pk_un z, a6 d hd2, dlt_s z]
  · show upd (w 4) 20 _ j = _
    rw [pk_un hj]
    exact a8 j hj
theorem heat_n {v w1 : SV} {r : Nat → Int32} {X k hot : Nat} {y6 y8 y9 : Int32} {D : Nat → Bool} {h : Nat → Nat} (hI : SI r) (hs : SE r w1) (hX : X < 2 ^ 24) (hk : k < ptN r X) (hh : ∀ d, h d ≤ 900) (hhot : hot ≤ 900) (h0 : ∀ d, d < 24 → w1 0 d = nI (h d)) (h9 : y9 = nI (mkN 24 D)) (h20 : w1 4 20 = nI hot) (hD : ∀ d, mbr r X k d = true → D d = false) {z : Int32 × Int32 × SV} (hz : z = lpF 24 0 (bL_prints_218 v (nI X) y6 y8 k) (y9, 0, w1)) :
    HI (mbr r X k) D (pN r X) h (dkN (aN r 81)) hot w1 24 z := by
  obtain ⟨-, -, -, -, -, -, -, ⟨e81, l81⟩⟩ := SI_n hI
  have hp := ptN_le hI X
  rw [hz]
  refine lpF_0 (fun i s => HI (mbr r X k) D (pN r X) h (dkN (aN r 81)) hot w1 i s) 24 (y9, 0, w1) ?_ ⟨?_, nI_0.symm, fun d hd => ?_, ?_, fun d hd => ?_, fun d hd => ?_, rfl, fun _ _ => rfl⟩
  · rintro d ⟨y, y12, w⟩ hd a
    have hsw : SE r w := ⟨fun i hi => (a.2.2.2.2.2.2.2 i (by omega)).trans (hs.1 i hi), (a.2.2.2.2.2.2.2 7 (by omega)).trans hs.2.1, (a.2.2.2.2.2.2.2 13 (by omega)).trans hs.2.2.1, (a.2.2.2.2.2.2.2 14 (by omega)).trans hs.2.2.2⟩
    unfold bL_prints_218
    dsimp only
    by_cases b : X.testBit d = true
    · rw [if_pos ((bit_n1 (by omega) hd).mpr b), partOf_e hI hsw hX hd b]
      have hlt := pt_lt hI hd b
      by_cases e : prt (aN r 79) (ptN r X) (aoN r) X d = k
      · have m := mbr_t b e
        obtain ⟨-, p1, p2⟩ := pN_spec hI X d
        have hh2 := hh d
        have e0 : w 0 d = nI (h d) := (a.2.2.1 d hd).trans (by rw [if_neg (Nat.lt_irrefl d)])
        have e12 : y12 = nI (mxN d (mbr r X k) (pN r X)) := a.2.1
        have hmx : mxN d (mbr r X k) (pN r X) ≤ 325 := mxN_le d (fun j _ _ => (pN_spec hI X j).2.2)
        have hm2 : mxN d (mbr r X k) (h2N (mbr r X k) h (pN r X)) ≤ 1300 := mxN_le d (fun j _ mj => by rw [h2N_t mj]; have := hh j; have := (pN_spec hI X j).2.2; omega)
        rw [e, if_pos rfl, pulse_e hI hsw hd, ite_ap (fun z => tL_prints_J279 v (nI X) y6 y8 k d y (nI (pN r X d)) z w), e12, imx2 (a := mxN d (mbr r X k) (pN r X)) (b := pN r X d) (by omega) (by omega),
          J279_e (p := aN r 81) (h := h d) (P := pN r X d) (hot := max hot (mxN d (mbr r X k) (h2N (mbr r X k) h (pN r X)))) (hsw.2.1.trans e81) l81 e0 (by omega) a.2.2.2.1 (Nat.max_lt.mpr ⟨by omega, by omega⟩)]
        have a' := a
        rw [e12] at a'
        exact HI_yes hd m (hD d m) a'
      · rw [if_neg (fun z => e (by have := congrArg Int32.toNatClampNeg z; rw [nI_clamp (by omega), nI_clamp (by omega)] at this; exact this))]
        exact HI_no (mbr_f2 e) a
    · rw [if_neg (fun z => b ((bit_n1 (by omega) hd).mp z))]
      exact HI_no (mbr_f1 b) a
  · rw [h9]
    exact congrArg nI (mkN_cg 24 (fun d _ => by rw [decide_eq_false (Nat.not_lt_zero d), Bool.false_and, Bool.or_false]))
  · rw [if_neg (Nat.not_lt_zero d)]; exact h0 d hd
  · show w1 4 20 = nI (max hot 0)
    rw [Nat.max_zero]; exact h20
  · rw [decide_eq_false (Nat.not_lt_zero d), Bool.false_and]
    show w1 1 d = w1 1 d + nI 0
    rw [nI_0, Int32.add_zero]
  · rw [decide_eq_false (Nat.not_lt_zero d), Bool.false_and]
    show w1 2 d = w1 2 d + nI 0
    rw [nI_0, Int32.add_zero]
