/-! areDots answers 1 -/
def RLw (B : Nat) (x : HV) (v : SV) : Prop := RelS (x 0) (rw v) ∧ Gd B (rw v) ∧ le_n (x 9 2 0) 6
theorem lpR_0 {σ ρ : Type} (P : Nat → σ → Prop) {b : Nat → σ → σ ⊕ ρ} (n : Nat) (s : σ) (hs : ∀ d t, d < n → P d t → ∃ t', b d t = .inl t' ∧ P (d + 1) t') (h0 : P 0 s) : ∃ t, lpR n 0 b s = .inl t ∧ P n t := by
  have k : ∀ (m i : Nat) (s : σ), i + m = n → P i s → ∃ t, lpR m i b s = .inl t ∧ P n t := by
    intro m
    induction m with
    | zero => intro i s h p; exact ⟨s, rfl, by rw [← h]; exact p⟩
    | succ m ih =>
      intro i s h p
      obtain ⟨t', e, q⟩ := hs i s (by omega) p
      obtain ⟨t, e2, q2⟩ := ih (i + 1) t' (by omega) q
      exact ⟨t, by rw [lpR, e]; exact e2, q2⟩
  exact k n 0 s (Nat.zero_add n) h0
theorem wait53 {x : HV} {v : SV} {d c bd p h : Nat} {y5 y6 y7 y8 : Int32} (h1 : v 4 1 = nI c) (h2 : v 4 2 = nI bd) (hc : 1 ≤ c) (hc2 : c ≤ 200) (hb : bd ≤ 900) (hp : p ≤ bd) (hh : h ≤ 900) (N : Nat) (hN : 1000 ≤ N) :
    (lpB N (bL_areDots_53 x v d y5 y6 y7 y8 (nI p)) (0, nI h)).1 = nI (wN c (bd - p) h) := by
  have hw := wN_le c (bd - p) h
  refine lpB_ind (Q := fun s : Int32 × Int32 => s.1 = nI (wN c (bd - p) h)) (fun i s => s = (nI i, nI (coolN c i h))) (wN c (bd - p) h) ?_ ?_ N 0 _ (Nat.zero_le _) (by omega) (by rw [← nI_0]; rfl)
  · rintro i s hi rfl
    have k1 : bd - p < coolN c i h := Nat.not_le.mp (fun q => Nat.not_le.mpr hi (wN_c.mp q))
    have k2 := coolN_le c i h
    have e : bL_areDots_53 x v d y5 y6 y7 y8 (nI p) (nI i, nI (coolN c i h)) = (true, (nI (i + 1), nI (coolN c (i + 1) h))) := by
      unfold bL_areDots_53
      dsimp only
      rw [nI_add, h1, h2, if_neg (nI_ge (by omega) (by omega)), nI_1, less_n hc (by omega) (by omega), coolN_s]
    rw [e]
    exact ⟨rfl, rfl⟩
  · rintro s rfl
    have k1 : coolN c (wN c (bd - p) h) h ≤ bd - p := wN_c.mpr (Nat.le_refl _)
    have e : bL_areDots_53 x v d y5 y6 y7 y8 (nI p) (nI (wN c (bd - p) h), nI (coolN c (wN c (bd - p) h) h)) = (false, (nI (wN c (bd - p) h), nI (coolN c (wN c (bd - p) h) h))) := by
      unfold bL_areDots_53
      dsimp only
      rw [nI_add, h2, if_pos (nI_le (by omega) (by omega))]
    rw [e]
    exact ⟨rfl, rfl⟩
theorem pulse_0 {v : SV} (hI : SI (rw v)) {d s : Nat} (hd : d < 24) (h1 : 50 ≤ s) (h2 : s ≤ 300) : fL_pulse v 0 (nI d) (nI s) = nI (psN (rw v) 0 d (nI s)) := by
  have hI2 := hI
  obtain ⟨-, -, -, -, -, -, -, p, hp, e⟩ := hI2
  rw [pulse_L (v := v) (p := p) e hp _ _ hd]
  show plI (rw v 81) (rw v 24) (rw v 25) 0 (nI d) (nI s) = _
  exact (psN_spec hI 0 d h1 h2).1
theorem dot_facts {x : HV} {v : SV} {B d : Nat} (R : RLw B x v) (hd : d < 24) :
    fX5_dot x (nI d) 0 = v 0 d ∧ fX5_dot x (nI d) 1 = (v 4 13 >>> (nI d &&& 31)) &&& 1 ∧ fX5_dot x (nI d) 2 = (v 4 14 >>> (nI d &&& 31)) &&& 1 ∧ fX5_dot x (nI d) 3 = v 1 d ∧ fX5_dot x (nI d) 4 = v 2 d ∧ fX5_dot x (nI d) 5 = fL_pulse v 0 (nI d) (v 4 0) ∧
    ∀ (y5 y6 y7 y8 : Int32) (N : Nat), 1000 ≤ N → fX5_dot x (nI d) 6 = (lpB N (bL_areDots_53 x v d y5 y6 y7 y8 (fL_pulse v 0 (nI d) (v 4 0))) (0, v 0 d)).1 := by
  obtain ⟨R, G, -⟩ := R
  obtain ⟨⟨e74, b1, b2⟩, ⟨e75, b3, b4⟩, ⟨e76, b5, b6⟩, -⟩ := SI_n G.1
  have e0 : v 4 0 = nI (aN (rw v) 74) := e74
  have hp := psN_spec G.1 0 d b1 b2
  have a0 : fX5_at 24 ((x 0) 0) (nI d) = v 0 d := (atN _ hd (by omega)).trans ((R.1 d hd).trans (rw_h hd))
  have s0 : fX5_at 7 ((x 0) 2) 0 = nI (aN (rw v) 74) := (at7 _ 0 (by omega)).trans ((R.2.2.2.2.1 0 (by omega)).trans e74)
  have pa : fX2_pulseAlone (x 0) (nI d) (nI (aN (rw v) 74)) = nI (psN (rw v) 0 d (nI (aN (rw v) 74))) := pulseAlone_2 G.1 R b1 b2
  have pl := pulse_0 G.1 hd b1 b2
  have eh := G.2.1 d hd
  have eh0 : v 0 d = nI (aN (rw v) d) := (rw_h hd).symm.trans eh.1
  refine ⟨a0, ?_, ?_, ?_, ?_, ?_, fun y5 y6 y7 y8 N hN => ?_⟩
  · show fX5_bitOf ((x 0) 8 8) (nI d) = _
    rw [R.2.1.1, bitOf_d _ hd]
    rfl
  · show fX5_bitOf ((x 0) 8 9) (nI d) = _
    rw [R.2.1.2, bitOf_d _ hd]
    rfl
  · show fX5_at 24 ((x 0) 6) (nI d) = _
    rw [atN _ hd (by omega), R.2.2.1 d hd, rw_p hd]
  · show fX5_at 24 ((x 0) 7) (nI d) = _
    rw [atN _ hd (by omega), R.2.2.2.1 d hd, rw_f hd]
  · show fX2_pulseAlone (x 0) (nI d) (fX5_at 7 ((x 0) 2) 0) = _
    rw [s0, pa, e0, pl]
  · show fX2_waitFor (x 0) (fX5_at 24 ((x 0) 0) (nI d)) (fX2_pulseAlone (x 0) (nI d) (fX5_at 7 ((x 0) 2) 0)) = _
    rw [s0, pa, a0, e0, pl, eh0, waitFor_2 G.1 R eh.2 hp.2.2, wait53 (c := aN (rw v) 75) (bd := aN (rw v) 76) e75 e76 (by omega) b4 b6 (by omega) eh.2 N hN]
def AD (v : SV) (d : Nat) (s : Int32 × Int32 × Int32 × Int32 × Int32) : Prop := s = (smF d (v 1), smF d (v 2), nI (mxN d (fun _ => true) (aN (rw v))), smF d (v 0), 1)
theorem AD_step {x : HV} {v : SV} {B d : Nat} (R : RLw B x v) (hd : d < 24) (s : Int32 × Int32 × Int32 × Int32 × Int32) (a : AD v d s) : ∃ t, bL_areDots_18 x v d s = .inl t ∧ AD v (d + 1) t := by
  obtain ⟨d0, d1, d2, d3, d4, d5, d6⟩ := dot_facts R hd
  have hmT : 1000 ≤ mT + 1 := by have : mT = 2147483648 := rfl; omega
  have eh := R.2.1.2.1 d hd
  have eh0 : v 0 d = nI (aN (rw v) d) := (rw_h hd).symm.trans eh.1
  have hmx : mxN d (fun _ => true) (aN (rw v)) ≤ 900 := mxN_le d (fun j hj _ => (R.2.1.2.1 j (by omega)).2)
  have k6 := d6 (smF d (v 1)) (smF d (v 2)) (nI (mxN d (fun _ => true) (aN (rw v)))) (smF d (v 0)) (mT + 1) hmT
  have a : s = _ := a
  subst a
  refine ⟨_, ?_, rfl⟩
  unfold bL_areDots_18
  dsimp only
  rw [if_neg (by decide)]
  unfold tL_areDots_53
  dsimp only
  rw [if_pos d0, if_pos d1, if_pos d2, if_pos d3, if_pos d4, if_pos d5, if_pos k6]
  unfold tL_areDots_J194 tL_areDots_J241
  rw [eh0]
  have e := imx2 (a := mxN d (fun _ => true) (aN (rw v))) (b := aN (rw v) d) (by omega) (by omega)
  show _ = Sum.inl (smF d (v 1) + v 1 d, smF d (v 2) + v 2 d, nI (mxN (d + 1) (fun _ => true) (aN (rw v))), smF d (v 0) + v 0 d, 1)
  rw [mxN_t rfl, ← e, eh0]
  split <;> rfl
theorem cnt_i (x : HV) : ∀ i, i < 7 → fX5_count x (11 + nI i) = (x 0) 2 i := by
  intro i hi
  have h : fX5_count x (11 + nI i) = fX2_setting (x 0) (nI i) := by
    match i, hi with
    | 0, _ => rfl
    | 1, _ => rfl
    | 2, _ => rfl
    | 3, _ => rfl
    | 4, _ => rfl
    | 5, _ => rfl
    | 6, _ => rfl
    | i + 7, h => exact absurd h (by omega)
  rw [h]
  exact at7 _ i hi
theorem nn_div (a : Int32) {b : Int32} (h : ¬ b = 0) : FP.Core.val64 (FP.ddiv (FP.i2d a) (FP.i2d b)) ≠ .nan := (FP.Core.notNaN_iff _).mp (FP.Core.ddiv_out (i2d_notNaN a) (i2d_fin' b) (i2d_nz h))
theorem nn_24 (a : Int32) : FP.Core.val32 (FP.fdiv (FP.i2f a) 1103101952) ≠ .nan := by
  refine (FP.Core.notNaN_iff32 _).mp (FP.Core.fdiv_out ?_ ⟨_, _, _, v24⟩ ?_)
  · show FP.Core.fIsNaN (FP.Core.i2f a) = false
    rw [FP.Core.i2f_l2f]
    exact FP.Core.l2f_notNaN _
  · rintro ⟨s, q, e⟩
    rw [v24] at e
    cases e
theorem nn_1 : FP.Core.val64 FP.dconst1 ≠ .nan := by decide +kernel
theorem dself {a : UInt64} (h : FP.Core.val64 a ≠ .nan) : Op.cmpValue (FP.dcmp a a) .l = 0 := by
  rw [show FP.dcmp a a = some .eq from FP.Core.dcmp_self h]
  rfl
theorem fself {a : UInt32} (h : FP.Core.val32 a ≠ .nan) : Op.cmpValue (FP.fcmp a a) .l = 0 := by
  rw [show FP.fcmp a a = some .eq from FP.Core.fcmp_self h]
  rfl
theorem areDots_1 {x : HV} {v : SV} {B : Nat} (R : RLw B x v) (hB : B ≤ 200000) : fL_areDots x v = 1 := by
  obtain ⟨t, e, a⟩ := lpR_0 (AD v) (b := bL_areDots_18 x v) 24 (0, 0, 0, 0, 1) (fun d s hd a => AD_step R hd s a) (by show _ = _; rw [← nI_0]; rfl)
  have a : t = _ := a
  subst a
  unfold fL_areDots
  rw [e, Sum.elim_inl]
  obtain ⟨R, G, -⟩ := R
  obtain ⟨P, F, s1, s2, s3, s4⟩ := sums_n G hB
  obtain ⟨R1, ⟨R2, R3⟩, R4, R5, R6, ⟨R7, R8, R9, R10, R11, R12, R13⟩, R14, R15, R16⟩ := R
  have c1 : smF 24 (v 1) = (x 0) 8 5 := by
    rw [R15]; exact smF_congr 24 (fun d hd => (rw_p hd).symm)
  have c2 : smF 24 (v 2) = (x 0) 8 6 := by
    rw [R16]; exact smF_congr 24 (fun d hd => (rw_f hd).symm)
  have c3 : fX4_dotByDot (x 0) = smF 24 (v 1) := (smF_lp (fun d => (x 0) 6 d) 24).trans (smF_congr 24 (fun d hd => (R4 d hd).trans (rw_p hd)))
  have c4 : fX2_hottestDot (x 0) = nI (mxN 24 (fun _ => true) (aN (rw v))) := hottestDot_2 G R1
  have c5 : smF 24 (v 0) = smF 24 ((x 0) 0) := smF_congr 24 (fun d hd => ((R1 d hd).trans (rw_h hd)).symm)
  have cn : fX5_count x 0 = v 4 8 ∧ fX5_count x 1 = v 4 9 ∧ fX5_count x 2 = v 4 10 ∧ fX5_count x 3 = v 4 11 ∧ fX5_count x 4 = smF 24 (v 1) ∧ fX5_count x 5 = smF 24 (v 1) ∧ fX5_count x 6 = smF 24 (v 2) ∧ fX5_count x 7 = nI (mxN 24 (fun _ => true) (aN (rw v))) ∧ fX5_count x 8 = v 4 12 ∧ fX5_count x 9 = v 4 7 ∧ fX5_count x 10 = v 4 15 :=
    ⟨R8, R9, R10, R11, c1.symm, c3, c2.symm, c4, R12, R7, R13⟩
  obtain ⟨k0, k1, k2, k3, k4, k5, k6, k7, k8, k9, k10⟩ := cn
  have hl : lpF 7 0 (bL_areDots_400 x v (smF 24 (v 1)) (smF 24 (v 2)) (smF 24 (v 0))) 1 = 1 := by
    refine lpF_0 (fun _ s => s = 1) 7 1 ?_ rfl
    rintro d s hd rfl
    unfold bL_areDots_400 tL_areDots_J434
    dsimp only
    rw [if_neg (by decide), if_pos]
    rw [cnt_i x d hd, R6 d hd, rw_s hd]
  have hm : fX5_meanHeat x = FP.fdiv (FP.i2f (smF 24 (v 0))) 1103101952 := by
    rw [c5, ← smF_lp]
    rfl
  have hJ : ∀ z : UInt64, fX5_darkness x = z → FP.Core.val64 z ≠ .nan → tL_areDots_J470 x v (smF 24 (v 0)) (fX5_darkness x) z = 1 := by
    intro z hz hn
    unfold tL_areDots_J470
    rw [hz, if_pos (dself hn), hm, if_pos (fself (nn_24 _))]
  unfold tL_areDots_18
  dsimp only
  rw [if_neg (by decide), if_pos k0, if_pos k1, if_pos k2, if_pos k3, if_pos k4, if_pos k5, if_pos k6, if_pos k7, if_pos k8, if_pos k9, if_pos k10]
  unfold tL_areDots_J395
  rw [hl]
  unfold tL_areDots_400
  dsimp only
  rw [if_neg (by decide)]
  have e5 : (x 0) 8 5 = nI P := by rw [R15]; exact s1
  have e6 : (x 0) 8 6 = nI F := by rw [R16]; exact s2
  by_cases q : P = 0
  · rw [if_pos (by rw [c1, e5, q]; rfl)]
    refine hJ _ ?_ nn_1
    show fX4_darkShare (x 0) = _
    unfold fX4_darkShare
    rw [e5, q, if_neg (by decide)]
  · have hP : ¬ smF 24 (v 1) = 0 := by rw [c1, e5]; exact nI_ne0 (by omega) (by omega)
    rw [if_neg hP]
    refine hJ _ ?_ (nn_div _ hP)
    show fX4_darkShare (x 0) = _
    unfold fX4_darkShare
    rw [if_pos (by rw [e5]; exact nI_le (a := 1) (by omega) (by omega)), c1, c2]
