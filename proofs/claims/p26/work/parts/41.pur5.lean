theorem set_bounds : ∀ i, i < 7 → (∃ a b, a ≤ b ∧ b ≤ 900 ∧ fX5_at 7 st1 (nI i) = nI a ∧ fX5_at 7 st2 (nI i) = nI b ∧ (∀ z, fX5_isWithin z (nI a) (nI b) = fX5_isWithin z (nI a) (nI b)) ∧ ∀ (r : Nat → Int32) (c : Nat), SI r → a ≤ c → c ≤ b → SI (upd r (74 + i) (nI c))) := fun i hi => by
  match i, hi with
  | 0, _ => exact ⟨50, 300, by omega, by omega, by decide +kernel, by decide +kernel, fun z => rfl, fun r c h h1 h2 => ⟨⟨c, h1, h2, rfl⟩, h.2⟩⟩
  | 1, _ => exact ⟨5, 200, by omega, by omega, by decide +kernel, by decide +kernel, fun z => rfl, fun r c h h1 h2 => ⟨h.1, ⟨c, h1, h2, rfl⟩, h.2.2⟩⟩
  | 2, _ => exact ⟨330, 900, by omega, by omega, by decide +kernel, by decide +kernel, fun z => rfl, fun r c h h1 h2 => ⟨h.1, h.2.1, ⟨c, h1, h2, rfl⟩, h.2.2.2⟩⟩
  | 3, _ => exact ⟨1, 20, by omega, by omega, by decide +kernel, by decide +kernel, fun z => rfl, fun r c h h1 h2 => ⟨h.1, h.2.1, h.2.2.1, ⟨c, h1, h2, rfl⟩, h.2.2.2.2⟩⟩
  | 4, _ => exact ⟨1, 200, by omega, by omega, by decide +kernel, by decide +kernel, fun z => rfl, fun r c h h1 h2 => ⟨h.1, h.2.1, h.2.2.1, h.2.2.2.1, ⟨c, h1, h2, rfl⟩, h.2.2.2.2.2⟩⟩
  | 5, _ => exact ⟨0, 1, by omega, by omega, by decide +kernel, by decide +kernel, fun z => rfl, fun r c h h1 h2 => ⟨h.1, h.2.1, h.2.2.1, h.2.2.2.1, h.2.2.2.2.1, ⟨c, h2, rfl⟩, h.2.2.2.2.2.2⟩⟩
  | 6, _ => exact ⟨0, 50, by omega, by omega, by decide +kernel, by decide +kernel, fun z => rfl, fun r c h h1 h2 => ⟨h.1, h.2.1, h.2.2.1, h.2.2.2.1, h.2.2.2.2.1, h.2.2.2.2.2.1, ⟨c, h2, rfl⟩, h.2.2.2.2.2.2.2⟩⟩
  | i + 7, h => exact absurd h (by omega)
/-! from 79.pure21.lean.txt -/
theorem iw_cases (x : Int32) (a b : Nat) (hab : a ≤ b) (hb : b < 2 ^ 31) : fX5_isWithin x (nI a) (nI b) = 0 ∨ ∃ n, a ≤ n ∧ n ≤ b ∧ x = nI n ∧ fX5_isWithin x (nI a) (nI b) = 1 := by
  unfold fX5_isWithin
  by_cases h : x < nI a
  · exact Or.inl (if_pos h)
  · rw [if_neg h]
    by_cases h2 : nI b < x
    · exact Or.inl (if_pos h2)
    · rw [if_neg h2]
      have h3 : ¬ x < 0 := fun z => h (Int32.lt_of_lt_of_le z (by rw [← nI_0]; exact nI_le (Nat.zero_le _) (by omega)))
      obtain ⟨j, hj, rfl⟩ := nI_of h3
      exact Or.inr ⟨j, Nat.not_lt.mp (fun z => h (nI_lt z (by omega))), Nat.not_lt.mp (fun z => h2 (nI_lt z hj)), rfl, rfl⟩
theorem one_ne : ¬ (1 : Int32) = 0 := by decide
/-! from 81.pure23.lean.txt -/
theorem spN_congr {r r' : Nat → Int32} (h : ∀ k, k < 26 ∨ (74 ≤ k ∧ k < 82) → r' k = r k) (X : Nat) : ptN r' X = ptN r X ∧ ∀ k, spN r' X k = spN r X k := by
  obtain ⟨e1, e2⟩ := ptN_congr (h 77 (by omega)) (h 78 (by omega)) X
  refine ⟨e2, fun k => ?_⟩
  induction k with
  | zero =>
    show ((fun d => if d < 24 then aN r' d else 0, fun _ => false, 0, 0, 0) : SP) = (fun d => if d < 24 then aN r d else 0, fun _ => false, 0, 0, 0)
    congr 1
    funext d
    by_cases q : d < 24
    · rw [if_pos q, if_pos q, aN_e (h d (by omega))]
    · rw [if_neg q, if_neg q]
  | succ k ih =>
    rw [spN_s, spN_s, ih, aN_e (h 75 (by omega)), aN_e (h 76 (by omega)), aN_e (h 81 (by omega)), mbr_congr (h 77 (by omega)) (h 78 (by omega)) (h 79 (by omega)), show pN r' X = pN r X from funext fun d => pN_congr (h 24 (by omega)) (h 25 (by omega)) (h 74 (by omega)) (h 81 (by omega)) X d]
theorem spE_congr {r r' : Nat → Int32} (h : ∀ k, k < 26 ∨ (74 ≤ k ∧ k < 82) → r' k = r k) (X : Nat) : ptN r' X = ptN r X ∧ spE r' X = spE r X ∧ lnT r' X = lnT r X := by
  obtain ⟨e1, e2⟩ := spN_congr h X
  have e3 : spE r' X = spE r X := by
    unfold spE
    rw [e1, e2]
  refine ⟨e1, e3, ?_⟩
  unfold lnT
  rw [e3, aN_e (h 80 (by omega))]
def fnN (r : Nat → Int32) (X : Nat) : Int32 := smF 24 (fun d => nI (X.testBit d && !(spE r X).2.1 d).toNat)
/-- the numbers that a line would bring -/
def brN (r : Nat → Int32) (X q : Nat) : Int32 := if q = 0 then nI (lnT r X) else if q = 1 then nI (spE r X).2.2.2.1 else if q = 2 then nI (ptN r X) else if q = 3 then fnN r X else nI (max (hoN r) (spE r X).2.2.2.2)
theorem pick5 {α : Type} (q : Nat) (hq : q < 5) (a b c d e : α) : (if nI q = 0 then a else if nI q = 1 then b else if nI q = 2 then c else if nI q = 3 then d else e) = (if q = 0 then a else if q = 1 then b else if q = 2 then c else if q = 3 then d else e) := by
  match q, hq with
  | 0, _ => rfl
  | 1, _ => rfl
  | 2, _ => rfl
  | 3, _ => rfl
  | 4, _ => rfl
  | q + 5, h => exact absurd h (by omega)
/-- the class: the trial -/
theorem RelS_hot {v : SV} {r : Nat → Int32} (R : RelS v r) (z : Int32) : RelS (mkS (v 0) (v 1) (v 2) (v 3) (v 4) (v 5) (v 6) (v 7) (v 8 0) (v 8 1) (v 8 2) (v 8 3) (v 8 4) (v 8 5) (v 8 6) z (v 8 8) (v 8 9) (v 8 10)) (upd r 86 z) := by
  obtain ⟨R1, ⟨R2, R3⟩, R4, R5, R6, ⟨R7, R8, R9, R10, R11, R12, R13⟩, R14, R15, R16⟩ := R
  have ro : ∀ k, k ≠ 86 → upd r 86 z k = r k := fun k h => pk_un h
  refine ⟨fun d hd => ?_, ⟨?_, ?_⟩, fun d hd => ?_, fun d hd => ?_, fun j hj => ?_, ⟨?_, ?_, ?_, ?_, ?_, ?_, ?_⟩, fun j j1 j2 => ?_, ?_, ?_⟩
  · rw [ro d (by omega)]; exact R1 d hd
  · rw [ro 24 (by omega)]; exact R2
  · rw [ro 25 (by omega)]; exact R3
  · rw [ro (26 + d) (by omega)]; exact R4 d hd
  · rw [ro (50 + d) (by omega)]; exact R5 d hd
  · rw [ro (74 + j) (by omega)]; exact R6 j hj
  · rw [ro 81 (by omega)]; exact R7
  · rw [ro 82 (by omega)]; exact R8
  · rw [ro 83 (by omega)]; exact R9
  · rw [ro 84 (by omega)]; exact R10
  · rw [ro 85 (by omega)]; exact R11
  · exact pk_us.symm
  · rw [ro 87 (by omega)]; exact R13
  · rw [ro 87 (by omega)] at j1
    rw [ro (88 + 3 * j) (by omega), ro (89 + 3 * j) (by omega), ro (90 + 3 * j) (by omega)]; exact R14 j j1 j2
  · exact R15.trans (smF_congr 24 (fun d hd => (ro (26 + d) (by omega)).symm))
  · exact R16.trans (smF_congr 24 (fun d hd => (ro (50 + d) (by omega)).symm))
theorem Gd_hot {B h : Nat} {r : Nat → Int32} (G : Gd B r) (hh : h ≤ 900) : Gd B (upd r 86 (nI h)) := by
  obtain ⟨g1, g2, g3, g4, g5, g6⟩ := G
  have ro : ∀ k, k ≠ 86 → upd r 86 (nI h) k = r k := fun k h => pk_un h
  refine ⟨SI_upd g1 (by omega), fun d hd => ?_, aN_v pk_us hh (by omega), ?_, fun j hj => ?_, fun d hd => ?_⟩
  · rw [aN_e (ro d (by omega)), ro d (by omega)]; exact g2 d hd
  · rw [aN_e (ro 87 (by omega)), ro 87 (by omega)]; exact g4
  · rw [aN_e (ro (90 + 3 * j) (by omega)), ro (90 + 3 * j) (by omega)]; exact g5 j hj
  · rw [aN_e (ro (26 + d) (by omega)), ro (26 + d) (by omega), aN_e (ro (50 + d) (by omega)), ro (50 + d) (by omega)]; exact g6 d hd
/-- the class tries a line with a way: its world, its numbers -/
theorem try_5 {x : HV} {r : Nat → Int32} {B X w : Nat} (R : RelS (x 0) r) (G : Gd B r) (hX : X < 2 ^ 24) (hw : w ≤ 1) (hB : B + 1 < 2 ^ 30) {y : HV} (hy : y = fX5_tryLine x (nI X) (nI w)) :
    (∃ t, y = mkH (x 0) (x 1) t (x 3) (x 4) (x 5) (x 6) (x 7) (x 8) (x 9 0) (x 9 1) (x 9 2 0) (x 9 2 1) (x 9 2 2)) ∧ ∀ q, q < 5 → fX5_tried y (nI q) = brN (upd r 79 (nI w)) X q := by
  obtain ⟨c, ec⟩ : ∃ c, c = fX2_changeSetting (fX2_copyFrom (x 2) (x 0)) 5 (nI w) := ⟨_, rfl⟩
  have Rc : RelS c (upd r 79 (nI w)) := by
    rw [ec]
    exact RelS_set (i := 5) (RelS_copy R) (by omega) (nI w)
  obtain ⟨-, -, -, -, -, -, h6⟩ := set_bounds 5 (by omega)
  have hI : SI (upd r 79 (nI w)) := ⟨G.1.1, G.1.2.1, G.1.2.2.1, G.1.2.2.2.1, G.1.2.2.2.2.1, ⟨w, hw, rfl⟩, G.1.2.2.2.2.2.2⟩
  have Gc : Gd B (upd r 79 (nI w)) := Gd_set (i := 5) G (by omega) hI
  have hho := hottestDot_2 G R.1
  have lho := hoN_le G
  have Rt := RelS_hot Rc (nI (hoN r))
  have Gt := Gd_hot (h := hoN r) Gc lho
  obtain ⟨p, ep⟩ : ∃ p, p = fX2_printLine (mkS (c 0) (c 1) (c 2) (c 3) (c 4) (c 5) (c 6) (c 7) (c 8 0) (c 8 1) (c 8 2) (c 8 3) (c 8 4) (c 8 5) (c 8 6) (nI (hoN r)) (c 8 8) (c 8 9) (c 8 10)) (nI X) := ⟨_, rfl⟩
  obtain ⟨P1, -⟩ := PL2 Gt Rt hX ep
  have e : y = mkH (x 0) (x 1) p.1 (x 3) (x 4) (x 5) (x 6) (x 7) (x 8) (x 9 0) (x 9 1) (x 9 2 0) (x 9 2 1) (x 9 2 2) := by
    rw [hy]
    unfold fX5_tryLine
    dsimp only
    rw [hho, ← ec, ← ep]
  refine ⟨⟨p.1, e⟩, fun q hq => ?_⟩
  have cg : ∀ k, k < 26 ∨ (74 ≤ k ∧ k < 82) → upd (upd r 79 (nI w)) 86 (nI (hoN r)) k = upd r 79 (nI w) k := fun k hk => pk_un (by omega)
  obtain ⟨g1, g2, g3⟩ := spE_congr cg X
  have ehw : hoN (upd r 79 (nI w)) = hoN r := mxN_congr 24 (fun d hd => ⟨rfl, aN_e (pk_un (by omega))⟩)
  obtain ⟨Q7, Q8, Q9, Q10, Q11, Q12, Q13⟩ := P1.2.2.2.2.2.1
  obtain ⟨R7, R8, R9, R10, R11, R12, R13⟩ := R.2.2.2.2.2.1
  rw [e]
  match q, hq with
  | 0, _ =>
    show p.1 8 1 - x 0 8 1 = nI (lnT (upd r 79 (nI w)) X)
    rw [Q8, nx_82, g3, R8, show upd (upd r 79 (nI w)) 86 (nI (hoN r)) 82 = r 82 from (pk_un (by omega)).trans (pk_un (by omega)), Int32.add_comm, Int32.add_sub_cancel]
  | 1, _ =>
    show p.1 8 4 - x 0 8 4 = nI (spE (upd r 79 (nI w)) X).2.2.2.1
    rw [Q11, nx_85, g2, R11, show upd (upd r 79 (nI w)) 86 (nI (hoN r)) 85 = r 85 from (pk_un (by omega)).trans (pk_un (by omega)), Int32.add_comm, Int32.add_sub_cancel]
  | 2, _ =>
    show p.1 8 3 - x 0 8 3 = nI (ptN (upd r 79 (nI w)) X)
    rw [Q10, nx_84, g1, R10, show upd (upd r 79 (nI w)) 86 (nI (hoN r)) 84 = r 84 from (pk_un (by omega)).trans (pk_un (by omega)), Int32.add_comm, Int32.add_sub_cancel]
  | 3, _ =>
    show p.1 8 6 - x 0 8 6 = fnN (upd r 79 (nI w)) X
    have e1 : p.1 8 6 = x 0 8 6 + fnN (upd r 79 (nI w)) X := by
      rw [P1.2.2.2.2.2.2.2.2, R.2.2.2.2.2.2.2.2]
      unfold fnN
      rw [← smF_add]
      refine smF_congr 24 (fun d hd => ?_)
      rw [nx_f hd, g2, show upd (upd r 79 (nI w)) 86 (nI (hoN r)) (50 + d) = r (50 + d) from (pk_un (by omega)).trans (pk_un (by omega))]
    rw [e1, Int32.add_comm, Int32.add_sub_cancel]
  | 4, _ =>
    show p.1 8 7 = nI (max (hoN (upd r 79 (nI w))) (spE (upd r 79 (nI w)) X).2.2.2.2)
    rw [Q12, nx_86, g2, ehw, show aN (upd (upd r 79 (nI w)) 86 (nI (hoN r))) 86 = hoN r from aN_i pk_us (by omega)]
  | q + 5, h => exact absurd h (by omega)
theorem upd_self {f : Nat → Int32} {k : Nat} {z : Int32} (h : f k = z) : upd f k z = f := funext fun j => by
  by_cases q : j = k
  · rw [q, pk_us, h]
  · exact pk_un q
/-! from 84.pure26.lean.txt -/
theorem val_i2d {n : Nat} (h : n < 2 ^ 31) : FP.Core.val64 (FP.i2d (nI n)) = FP.Core.round FP.Core.b64 (.fin false n 0) := by
  rw [FP.Core.val64_i2d, nI_toInt h]
  show FP.Core.round FP.Core.b64 (.fin (decide ((n : Int) < 0)) (n : Int).natAbs 0) = _
  rw [decide_eq_false (by omega), Int.natAbs_natCast]
theorem val_i2f {n : Nat} (h : n < 2 ^ 31) : FP.Core.val32 (FP.i2f (nI n)) = FP.Core.round FP.Core.b32 (.fin false n 0) := by
  rw [FP.Core.val32_i2f, nI_toInt h]
  show FP.Core.round FP.Core.b32 (.fin (decide ((n : Int) < 0)) (n : Int).natAbs 0) = _
  rw [decide_eq_false (by omega), Int.natAbs_natCast]
theorem nn_d {x : UInt64} (h : FP.Core.val64 x ≠ .nan) : fJxe99ae_doubleToLongBits_ccdee x = x.toInt64 := by
  unfold fJxe99ae_doubleToLongBits_ccdee fJxe99ae_isNaN_b9ae7
  rw [show FP.dcmp x x = some .eq from FP.Core.dcmp_self h]
  rfl
/-- the sums of a row -/
theorem sums_n {B : Nat} {r : Nat → Int32} (G : Gd B r) (hB : B ≤ 200000) : ∃ P F, smF 24 (fun d => r (26 + d)) = nI P ∧ smF 24 (fun d => r (50 + d)) = nI F ∧ F ≤ P ∧ P < 2 ^ 23 := by
  refine ⟨smN 24 (fun d => aN r (26 + d)), smN 24 (fun d => aN r (50 + d)), smF_N 24 (fun d hd => (G.2.2.2.2.2 d hd).1), smF_N 24 (fun d hd => (G.2.2.2.2.2 d hd).2.1), smN_mono 24 (fun d hd => (G.2.2.2.2.2 d hd).2.2.1), ?_⟩
  have := smN_le (g := fun d => aN r (26 + d)) 24 (fun d hd => Nat.le_trans (G.2.2.2.2.2 d hd).2.2.2 hB)
  omega
