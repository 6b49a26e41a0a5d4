/-! acts answers 1 -/
theorem save_w {x : HV} (h : le_n (x 9 2 0) 6) : fX5_saveState x 0 = x 0 ∧ le_n (fX5_saveState x 9 2 0) 6 := by
  obtain ⟨-, -, e1, e2, -⟩ := save_5 h.2 (lq h) (y := fX5_saveState x) rfl
  refine ⟨e2, ?_⟩
  rw [e1]
  exact le_n_nI (by omega) (by omega)
theorem RLw_now {B : Nat} {y : HV} {s w : SV} (h : le_n (y 9 2 0) 6) (R : RelS s (rw w)) (G : Gd B (rw w)) : RLw B (mkH s (y 1) (y 2) (y 3) (y 4) (y 5) (y 6) (y 7) (y 8) (y 9 0) (y 9 1) (y 9 2 0) (y 9 2 1) (y 9 2 2)) w := ⟨R, G, h⟩
/-- a line of both -/
theorem line_b {B X : Nat} {s v : SV} (R : RelS s (rw v)) (G : Gd B (rw v)) (hX : X < 2 ^ 24) (hB : B + 1 < 2 ^ 30) : RelS (fX2_printLine s (nI X)).1 (rw (fL_prints v (nI X))) ∧ Gd (B + 1) (rw (fL_prints v (nI X))) ∧ (fX2_printLine s (nI X)).2 = fL_prints v (nI X) 4 16 ∧ fL_prints v (nI X) 4 19 + smF 24 (fun d => rw v (50 + d)) = smF 24 (fun d => rw (fL_prints v (nI X)) (50 + d)) := by
  obtain ⟨p1, p2⟩ := PL2 G R hX (u := fX2_printLine s (nI X)) rfl
  obtain ⟨n0, n16, -, -, n19, -⟩ := PLL G hX
  have e : smF 24 (fun d => rw (fL_prints v (nI X)) (50 + d)) = smF 24 (fun d => rw v (50 + d) + nI (X.testBit d && !(spE (rw v) X).2.1 d).toNat) := smF_congr 24 (fun d hd => (n0 (50 + d) (by omega)).trans (nx_f hd))
  refine ⟨RelS_row n0 p1, Gd_row n0 (Gd_nxt G hX hB), p2.trans n16.symm, ?_⟩
  rw [e, smF_add, n19, Int32.add_comm]
  rfl
theorem lines_b {B X t : Nat} {v0 s0 : SV} {h : HV} {x0 : HV} {x7 x8 : Int32} (R : RelS s0 (rw v0)) (G : Gd B (rw v0)) (hX : X < 2 ^ 24) (hB : B + t < 2 ^ 30) (ed : fL_dots x8 = nI X) :
    RelS (lpF t 0 (bX2_printLines_2 s0 (nI X) (nI t)) s0) (rw (lpF t 0 (bL_acts_205 x0 v0 x7 x8) (0, (v0, h))).2.1) ∧ Gd (B + t) (rw (lpF t 0 (bL_acts_205 x0 v0 x7 x8) (0, (v0, h))).2.1) ∧ (lpF t 0 (bL_acts_205 x0 v0 x7 x8) (0, (v0, h))).1 + smF 24 (fun d => rw v0 (50 + d)) = smF 24 (fun d => rw (lpF t 0 (bL_acts_205 x0 v0 x7 x8) (0, (v0, h))).2.1 (50 + d)) ∧ (lpF t 0 (bL_acts_205 x0 v0 x7 x8) (0, (v0, h))).2.2 = h := by
  refine lpF_2 (fun i (s : SV) (q : Int32 × SV × HV) => RelS s (rw q.2.1) ∧ Gd (B + i) (rw q.2.1) ∧ q.1 + smF 24 (fun d => rw v0 (50 + d)) = smF 24 (fun d => rw q.2.1 (50 + d)) ∧ q.2.2 = h) t s0 (0, (v0, h)) ?_ ⟨R, G, Int32.zero_add _, rfl⟩
  rintro i s ⟨y12, w, hh⟩ hi ⟨a1, a2, a3, a4⟩
  dsimp only at a1 a2 a3 a4
  obtain ⟨b1, b2, b3, b4⟩ := line_b a1 a2 hX (by omega)
  have e : bL_acts_205 x0 v0 x7 x8 i (y12, (w, hh)) = (y12 + fL_prints w (nI X) 4 19, (fL_prints w (nI X), hh)) := by
    unfold bL_acts_205
    dsimp only
    rw [ed]
  rw [e]
  refine ⟨b1, b2, ?_, a4⟩
  show y12 + fL_prints w (nI X) 4 19 + smF 24 (fun d => rw v0 (50 + d)) = _
  rw [Int32.add_assoc, Int32.add_comm (fL_prints w (nI X) 4 19), ← Int32.add_assoc, a3, Int32.add_comm]
  exact b4
/-- time that passes, of both -/
theorem rest_b {B t : Nat} {s v : SV} (R : RelS s (rw v)) (G : Gd B (rw v)) (ht : t < 2 ^ 30) : RelS (fX2_passTime s (nI t)) (rw (fL_passes v (nI t))) ∧ Gd B (rw (fL_passes v (nI t))) := by
  obtain ⟨-, ⟨e75, b3, b4⟩, -⟩ := SI_n G.1
  have g2 := G.2.1
  obtain ⟨h, hdef⟩ : ∃ h : Nat → Nat, h = fun d => if d < 24 then aN (rw v) d else 0 := ⟨_, rfl⟩
  have hh : ∀ d, h d ≤ 900 := fun d => by
    rw [hdef]
    show (if d < 24 then aN (rw v) d else 0) ≤ 900
    split
    · rename_i hd; exact (g2 d hd).2
    · omega
  have h0 : ∀ d, d < 24 → rw v d = nI (h d) := fun d hd => by rw [(g2 d hd).1, hdef]; show _ = nI (if d < 24 then aN (rw v) d else 0); rw [if_pos hd]
  obtain ⟨a1, a2, a3, a4⟩ := pu_time (v := s) (h := h) (c := aN (rw v) 75) (t := t) (by omega) (by omega) ht (fun d => by have := hh d; omega) ((R.2.2.2.2.1 1 (by omega)).trans e75) (fun d hd => (R.1 d hd).trans (h0 d hd))
  have tp := passes_t (w0 := v) (c := aN (rw v) 75) (t := t) (h := h) (by omega) (by omega) ht (fun d => by have := hh d; omega) e75 (fun d hd => (rw_h hd).symm.trans (h0 d hd))
  generalize fL_passes v (nI t) = u at tp ⊢
  obtain ⟨t1, t2, t3, t4, t5, t6⟩ := tp
  have hk : ∀ k, k < 124 → rw u k = if k < 24 then nI (coolN (aN (rw v) 75) t (h k)) else if k = 82 then rw v 82 + nI t else rw v k := by
    refine al124 (fun d hd => ?_) ?_ ?_ (fun d hd => ?_) (fun d hd => ?_) (fun i hi => ?_) ?_ ?_ ?_ ?_ ?_ ?_ ?_ (fun j hj => ?_)
    · rw [if_pos hd, rw_h hd]; exact t1 d hd
    · exact t6 13 (by omega)
    · exact t6 14 (by omega)
    · rw [if_neg (by omega), if_neg (by omega), rw_p hd, rw_p hd, t3]
    · rw [if_neg (by omega), if_neg (by omega), rw_f hd, rw_f hd, t4]
    · rw [if_neg (by omega), if_neg (by omega), rw_s hi, rw_s hi, t6 i (by omega)]
    · exact t6 7 (by omega)
    · exact t2
    · exact t6 9 (by omega)
    · exact t6 10 (by omega)
    · exact t6 11 (by omega)
    · exact t6 12 (by omega)
    · exact t6 15 (by omega)
    · rw [if_neg (by omega), if_neg (by omega), rw_k, rw_k, t5]
  obtain ⟨r', er⟩ : ∃ r' : Nat → Int32, r' = fun k => if k < 24 then nI (coolN (aN (rw v) 75) t (h k)) else if k = 82 then rw v 82 + nI t else rw v k := ⟨_, rfl⟩
  have er : ∀ k, r' k = if k < 24 then nI (coolN (aN (rw v) 75) t (h k)) else if k = 82 then rw v 82 + nI t else rw v k := fun k => by rw [er]
  have hk : ∀ k, k < 124 → rw u k = r' k := fun k h => (hk k h).trans (er k).symm
  refine ⟨RelS_row hk (RelS_time (r := rw v) (x := nI t) (f := fun d => nI (coolN (aN (rw v) 75) t (h d))) R a1 a2 a3 a4 er), Gd_row hk ?_⟩
  have ne : ∀ k, 24 ≤ k → k ≠ 82 → r' k = rw v k := fun k h1 h2 => by rw [er, if_neg (by omega), if_neg h2]
  refine ⟨SI_congr (fun k h1 h2 => ne k (by omega) (by omega)) G.1, fun d hd => ?_, ?_, ?_, fun j hj => ?_, fun d hd => ?_⟩
  · have e : r' d = nI (coolN (aN (rw v) 75) t (h d)) := by rw [er, if_pos hd]
    have hl := coolN_le (aN (rw v) 75) t (h d)
    have := hh d
    exact aN_v e (show coolN (aN (rw v) 75) t (h d) ≤ 900 by omega) (by omega)
  · have e := ne 86 (by omega) (by omega)
    rw [e, aN_e e]; exact G.2.2.1
  · have e := ne 87 (by omega) (by omega)
    rw [e, aN_e e]; exact G.2.2.2.1
  · have e := ne (90 + 3 * j) (by omega) (by omega)
    rw [e, aN_e e]; exact G.2.2.2.2.1 j hj
  · have e := ne (26 + d) (by omega) (by omega)
    have e' := ne (50 + d) (by omega) (by omega)
    rw [e, aN_e e, e', aN_e e']; exact G.2.2.2.2.2 d hd
theorem most_0 {x : HV} {v v0 : SV} {x7 x8 y9 : Int32} {p : SV × HV} {B : Nat} (hp : p.1 = v) (G : Gd B (rw v)) : lpF 24 0 (bL_acts_136 x v0 x7 x8 y9 p) 0 = nI (hoN (rw v)) := by
  have q := lpF_0 (fun i (t : Int32) => t = nI (mxN i (fun _ => true) (aN (rw v)))) (b := bL_acts_136 x v0 x7 x8 y9 p) 24 0 ?_ nI_0.symm
  · exact q
  · rintro d t hd rfl
    have eh := G.2.1 d hd
    have eh0 : p.1 0 d = nI (aN (rw v) d) := by rw [hp]; exact (rw_h hd).symm.trans eh.1
    have hm : mxN d (fun _ => true) (aN (rw v)) ≤ 900 := mxN_le d (fun j hj _ => (G.2.1 j (by omega)).2)
    unfold bL_acts_136 tL_acts_J161
    dsimp only
    rw [eh0, imx2 (by omega) (by omega), mxN_t rfl]
