/-! what a line would bring -/
theorem spN_congr {r r' : Nat → Int32} (h : ∀ k, k < 26 ∨ (74 ≤ k ∧ k < 82) → r' k = r k) (X : Nat) : ptN r' X = ptN r X ∧ ∀ k, spN r' X k = spN r X k := by
  obtain ⟨e1, e2⟩ := ptN_congr (h 77 (by omega)) (h 78 (by omega)) X
  refine ⟨e2, fun k => ?_⟩
  induction k with
  | zero =>
    show ((fun d => if d < 24 then aN r' d else 0, fun _ => false, 0, 0, 0) : SP) = (fun d => if d < 24 then aN r d else 0, fun _ => false, 0, 0, 0)
    congr 1
    funext d
    by_cases q : d < 24
    · rw [if_pos q, if_pos q, aN_e (h d (by omega))]
    · rw [if_neg q, if_neg q]
  | succ k ih =>
    rw [spN_s, spN_s, ih, aN_e (h 75 (by omega)), aN_e (h 76 (by omega)), aN_e (h 81 (by omega)), mbr_congr (h 77 (by omega)) (h 78 (by omega)) (h 79 (by omega)), show pN r' X = pN r X from funext fun d => pN_congr (h 24 (by omega)) (h 25 (by omega)) (h 74 (by omega)) (h 81 (by omega)) X d]
theorem spE_congr {r r' : Nat → Int32} (h : ∀ k, k < 26 ∨ (74 ≤ k ∧ k < 82) → r' k = r k) (X : Nat) : ptN r' X = ptN r X ∧ spE r' X = spE r X ∧ lnT r' X = lnT r X := by
  obtain ⟨e1, e2⟩ := spN_congr h X
  have e3 : spE r' X = spE r X := by
    unfold spE
    rw [e1, e2]
  refine ⟨e1, e3, ?_⟩
  unfold lnT
  rw [e3, aN_e (h 80 (by omega))]
def fnN (r : Nat → Int32) (X : Nat) : Int32 := smF 24 (fun d => nI (X.testBit d && !(spE r X).2.1 d).toNat)
/-- the numbers that a line would bring -/
def brN (r : Nat → Int32) (X q : Nat) : Int32 := if q = 0 then nI (lnT r X) else if q = 1 then nI (spE r X).2.2.2.1 else if q = 2 then nI (ptN r X) else if q = 3 then fnN r X else nI (max (hoN r) (spE r X).2.2.2.2)
theorem pick5 {α : Type} (q : Nat) (hq : q < 5) (a b c d e : α) : (if nI q = 0 then a else if nI q = 1 then b else if nI q = 2 then c else if nI q = 3 then d else e) = (if q = 0 then a else if q = 1 then b else if q = 2 then c else if q = 3 then d else e) := by
  match q, hq with
  | 0, _ => rfl
  | 1, _ => rfl
  | 2, _ => rfl
  | 3, _ => rfl
  | 4, _ => rfl
  | q + 5, h => exact absurd h (by omega)
theorem bring_6 {w : SV} {X B q : Nat} (G : Gd B (w 0)) (hX : X < 2 ^ 24) (hB : B + 1 < 2 ^ 30) (hq : q < 5) {u : SV × Int32} (hu : u = fX6_wouldBring w (nI X) (nI q)) :
    u.2 = brN (w 0) X q ∧ (∀ k, k < 124 → u.1 0 k = w 0 k) ∧ u.1 1 = w 1 ∧ u.1 2 = w 2 ∧ u.1 4 = w 4 ∧ (∀ j, j < 9 → j ≠ 3 → j ≠ 4 → j ≠ 5 → u.1 8 j = w 8 j) := by
  obtain ⟨a, ea⟩ : ∃ a, a = fX6_putAside w := ⟨_, rfl⟩
  obtain ⟨a3, a0, a1, a2, a4, a8⟩ := putAside_loop ea
  have Ga : Gd B (a 0) := by rw [a0]; exact G
  obtain ⟨p, ep⟩ : ∃ p, p = fX6_printLine a (nI X) := ⟨_, rfl⟩
  obtain ⟨p0, p2, p3, p5, p6, p8⟩ := PL6 Ga hX ep
  obtain ⟨z, ez⟩ : ∃ z, z = fX6_putBack p.1 := ⟨_, rfl⟩
  obtain ⟨z0, z1, z8⟩ := putBack_loop ez
  have e : u = (z, if nI q = 0 then p.2 else if nI q = 1 then p.1 8 3 else if nI q = 2 then fX6_partsOf p.1 (nI X) else if nI q = 3 then fX6_sum p.1 50 - fX6_sum a 50 else if p.1 8 5 ≤ fX6_hottestNow a then fX6_hottestNow a else p.1 8 5) := by
    rw [hu]
    unfold fX6_wouldBring
    rw [← ea]
    dsimp only
    rw [← ep, ← ez]
    split
    · rfl
    · split
      · rfl
      · split
        · rfl
        · split
          · rfl
          · split <;> rfl
  rw [e]
  refine ⟨?_, fun k hk => ?_, ?_, ?_, ?_, fun j j1 j2 j3 j4 => ?_⟩
  · show (if nI q = 0 then p.2 else if nI q = 1 then p.1 8 3 else if nI q = 2 then fX6_partsOf p.1 (nI X) else if nI q = 3 then fX6_sum p.1 50 - fX6_sum a 50 else if p.1 8 5 ≤ fX6_hottestNow a then fX6_hottestNow a else p.1 8 5) = brN (w 0) X q
    rw [← a0]
    have e2 : fX6_partsOf p.1 (nI X) = nI (ptN (a 0) X) := by
      have hI : SI (p.1 0) := SI_congr (fun k k1 k2 => (p0 k (by omega)).trans (nx_s k1 (by omega))) Ga.1
      have e1 : fX6_partsOf p.1 (nI X) = nI (ptN (p.1 0) X) := partsOf_6 hI (by omega)
      have e2 := (ptN_congr ((p0 77 (by omega)).trans (nx_s (X := X) (by omega) (by omega))) ((p0 78 (by omega)).trans (nx_s (X := X) (by omega) (by omega))) X).2
      rw [e2] at e1
      exact e1
    have e3 : fX6_sum p.1 50 - fX6_sum a 50 = fnN (a 0) X := by
      have e1 : fX6_sum p.1 50 = fX6_sum a 50 + fnN (a 0) X := by
        rw [sum_6, sum_6]
        unfold fnN
        rw [← smF_add]
        exact smF_congr 24 (fun d hd => (p0 (50 + d) (by omega)).trans (nx_f hd))
      rw [e1, Int32.add_comm, Int32.add_sub_cancel]
    have e4 : (if p.1 8 5 ≤ fX6_hottestNow a then fX6_hottestNow a else p.1 8 5) = nI (max (hoN (a 0)) (spE (a 0) X).2.2.2.2) := by
      have l1 := hoN_le Ga
      obtain ⟨-, l2⟩ := sp_le Ga.1 (fun d hd => (Ga.2.1 d hd).2) hX (ptN (a 0) X)
      rw [p5, hottestNow_6 Ga]
      exact imx2 (by omega) (by have : (spE (a 0) X).2.2.2.2 ≤ 900 := l2; omega)
    rw [pick5 q hq, p2, p3, e2, e3, e4]
    rfl
  · show z 0 k = w 0 k
    rw [z0 k hk, p6 3 (by omega) (by omega), a3 k hk]
  · show z 1 = w 1
    rw [z1 1 (by omega) (by omega), p6 1 (by omega) (by omega), a1]
  · show z 2 = w 2
    rw [z1 2 (by omega) (by omega), p6 2 (by omega) (by omega), a2]
  · show z 4 = w 4
    rw [z1 4 (by omega) (by omega), p6 4 (by omega) (by omega), a4]
  · show z 8 j = w 8 j
    rw [z8 j j1, p8 j j1 j2 j3 j4, a8 j j1]
/-- the class: the trial -/
theorem RelS_hot {v : SV} {r : Nat → Int32} (R : RelS v r) (z : Int32) : RelS (mkS (v 0) (v 1) (v 2) (v 3) (v 4) (v 5) (v 6) (v 7) (v 8 0) (v 8 1) (v 8 2) (v 8 3) (v 8 4) (v 8 5) (v 8 6) z (v 8 8) (v 8 9) (v 8 10)) (upd r 86 z) := by
  obtain ⟨R1, ⟨R2, R3⟩, R4, R5, R6, ⟨R7, R8, R9, R10, R11, R12, R13⟩, R14, R15, R16⟩ := R
  have ro : ∀ k, k ≠ 86 → upd r 86 z k = r k := fun k h => pk_un h
  refine ⟨fun d hd => ?_, ⟨?_, ?_⟩, fun d hd => ?_, fun d hd => ?_, fun j hj => ?_, ⟨?_, ?_, ?_, ?_, ?_, ?_, ?_⟩, fun j j1 j2 => ?_, ?_, ?_⟩
  · rw [ro d (by omega)]; exact R1 d hd
  · rw [ro 24 (by omega)]; exact R2
  · rw [ro 25 (by omega)]; exact R3
  · rw [ro (26 + d) (by omega)]; exact R4 d hd
  · rw [ro (50 + d) (by omega)]; exact R5 d hd
  · rw [ro (74 + j) (by omega)]; exact R6 j hj
  · rw [ro 81 (by omega)]; exact R7
  · rw [ro 82 (by omega)]; exact R8
  · rw [ro 83 (by omega)]; exact R9
  · rw [ro 84 (by omega)]; exact R10
  · rw [ro 85 (by omega)]; exact R11
  · exact pk_us.symm
  · rw [ro 87 (by omega)]; exact R13
  · rw [ro 87 (by omega)] at j1
    rw [ro (88 + 3 * j) (by omega), ro (89 + 3 * j) (by omega), ro (90 + 3 * j) (by omega)]; exact R14 j j1 j2
  · exact R15.trans (smF_congr 24 (fun d hd => (ro (26 + d) (by omega)).symm))
  · exact R16.trans (smF_congr 24 (fun d hd => (ro (50 + d) (by omega)).symm))
theorem Gd_hot {B h : Nat} {r : Nat → Int32} (G : Gd B r) (hh : h ≤ 900) : Gd B (upd r 86 (nI h)) := by
  obtain ⟨g1, g2, g3, g4, g5, g6⟩ := G
  have ro : ∀ k, k ≠ 86 → upd r 86 (nI h) k = r k := fun k h => pk_un h
  refine ⟨SI_upd g1 (by omega), fun d hd => ?_, aN_v pk_us hh (by omega), ?_, fun j hj => ?_, fun d hd => ?_⟩
  · rw [aN_e (ro d (by omega)), ro d (by omega)]; exact g2 d hd
  · rw [aN_e (ro 87 (by omega)), ro 87 (by omega)]; exact g4
  · rw [aN_e (ro (90 + 3 * j) (by omega)), ro (90 + 3 * j) (by omega)]; exact g5 j hj
  · rw [aN_e (ro (26 + d) (by omega)), ro (26 + d) (by omega), aN_e (ro (50 + d) (by omega)), ro (50 + d) (by omega)]; exact g6 d hd
theorem RelH_t {n : Nat} {x : HV} {v : SV} (R : RelH n x v) (t : SV) : RelH n (mkH (x 0) (x 1) t (x 3) (x 4) (x 5) (x 6) (x 7) (x 8) (x 9 0) (x 9 1) (x 9 2 0) (x 9 2 1) (x 9 2 2)) v := by
  obtain ⟨q1, q2, ⟨k, k1, k2, k3, k4⟩, q5, q6⟩ := R
  exact ⟨q1, q2, ⟨k, k1, k2, k3, fun j hj => al6 (P := fun j => j < k → R1 n (mkH (x 0) (x 1) t (x 3) (x 4) (x 5) (x 6) (x 7) (x 8) (x 9 0) (x 9 1) (x 9 2 0) (x 9 2 1) (x 9 2 2) (3 + j)) (fun a => v 1 (124 * j + a))) (k4 0) (k4 1) (k4 2) (k4 3) (k4 4) (k4 5) j (by omega) hj⟩, q5, q6⟩
/-- the class tries a line with a way: its world, its numbers -/
theorem try_5 {x : HV} {r : Nat → Int32} {B X w : Nat} (R : RelS (x 0) r) (G : Gd B r) (hX : X < 2 ^ 24) (hw : w ≤ 1) (hB : B + 1 < 2 ^ 30) {y : HV} (hy : y = fX5_tryLine x (nI X) (nI w)) :
    (∃ t, y = mkH (x 0) (x 1) t (x 3) (x 4) (x 5) (x 6) (x 7) (x 8) (x 9 0) (x 9 1) (x 9 2 0) (x 9 2 1) (x 9 2 2)) ∧ ∀ q, q < 5 → fX5_tried y (nI q) = brN (upd r 79 (nI w)) X q := by
  obtain ⟨c, ec⟩ : ∃ c, c = fX2_changeSetting (fX2_copyFrom (x 2) (x 0)) 5 (nI w) := ⟨_, rfl⟩
  have Rc : RelS c (upd r 79 (nI w)) := by
    rw [ec]
    exact RelS_set (i := 5) (RelS_copy R) (by omega) (nI w)
  obtain ⟨-, -, -, -, -, -, h6⟩ := set_bounds 5 (by omega)
  have hI : SI (upd r 79 (nI w)) := ⟨G.1.1, G.1.2.1, G.1.2.2.1, G.1.2.2.2.1, G.1.2.2.2.2.1, ⟨w, hw, rfl⟩, G.1.2.2.2.2.2.2⟩
  have Gc : Gd B (upd r 79 (nI w)) := Gd_set (i := 5) G (by omega) hI
  have hho := hottestDot_2 G R.1
  have lho := hoN_le G
  have Rt := RelS_hot Rc (nI (hoN r))
  have Gt := Gd_hot (h := hoN r) Gc lho
  obtain ⟨p, ep⟩ : ∃ p, p = fX2_printLine (mkS (c 0) (c 1) (c 2) (c 3) (c 4) (c 5) (c 6) (c 7) (c 8 0) (c 8 1) (c 8 2) (c 8 3) (c 8 4) (c 8 5) (c 8 6) (nI (hoN r)) (c 8 8) (c 8 9) (c 8 10)) (nI X) := ⟨_, rfl⟩
  obtain ⟨P1, -⟩ := PL2 Gt Rt hX ep
  have e : y = mkH (x 0) (x 1) p.1 (x 3) (x 4) (x 5) (x 6) (x 7) (x 8) (x 9 0) (x 9 1) (x 9 2 0) (x 9 2 1) (x 9 2 2) := by
    rw [hy]
    unfold fX5_tryLine
    dsimp only
    rw [hho, ← ec, ← ep]
  refine ⟨⟨p.1, e⟩, fun q hq => ?_⟩
  have cg : ∀ k, k < 26 ∨ (74 ≤ k ∧ k < 82) → upd (upd r 79 (nI w)) 86 (nI (hoN r)) k = upd r 79 (nI w) k := fun k hk => pk_un (by omega)
  obtain ⟨g1, g2, g3⟩ := spE_congr cg X
  have ehw : hoN (upd r 79 (nI w)) = hoN r := mxN_congr 24 (fun d hd => ⟨rfl, aN_e (pk_un (by omega))⟩)
  obtain ⟨Q7, Q8, Q9, Q10, Q11, Q12, Q13⟩ := P1.2.2.2.2.2.1
  obtain ⟨R7, R8, R9, R10, R11, R12, R13⟩ := R.2.2.2.2.2.1
  rw [e]
  match q, hq with
  | 0, _ =>
    show p.1 8 1 - x 0 8 1 = nI (lnT (upd r 79 (nI w)) X)
    rw [Q8, nx_82, g3, R8, show upd (upd r 79 (nI w)) 86 (nI (hoN r)) 82 = r 82 from (pk_un (by omega)).trans (pk_un (by omega)), Int32.add_comm, Int32.add_sub_cancel]
  | 1, _ =>
    show p.1 8 4 - x 0 8 4 = nI (spE (upd r 79 (nI w)) X).2.2.2.1
    rw [Q11, nx_85, g2, R11, show upd (upd r 79 (nI w)) 86 (nI (hoN r)) 85 = r 85 from (pk_un (by omega)).trans (pk_un (by omega)), Int32.add_comm, Int32.add_sub_cancel]
  | 2, _ =>
    show p.1 8 3 - x 0 8 3 = nI (ptN (upd r 79 (nI w)) X)
    rw [Q10, nx_84, g1, R10, show upd (upd r 79 (nI w)) 86 (nI (hoN r)) 84 = r 84 from (pk_un (by omega)).trans (pk_un (by omega)), Int32.add_comm, Int32.add_sub_cancel]
  | 3, _ =>
    show p.1 8 6 - x 0 8 6 = fnN (upd r 79 (nI w)) X
    have e1 : p.1 8 6 = x 0 8 6 + fnN (upd r 79 (nI w)) X := by
      rw [P1.2.2.2.2.2.2.2.2, R.2.2.2.2.2.2.2.2]
      unfold fnN
      rw [← smF_add]
      refine smF_congr 24 (fun d hd => ?_)
      rw [nx_f hd, g2, show upd (upd r 79 (nI w)) 86 (nI (hoN r)) (50 + d) = r (50 + d) from (pk_un (by omega)).trans (pk_un (by omega))]
    rw [e1, Int32.add_comm, Int32.add_sub_cancel]
  | 4, _ =>
    show p.1 8 7 = nI (max (hoN (upd r 79 (nI w))) (spE (upd r 79 (nI w)) X).2.2.2.2)
    rw [Q12, nx_86, g2, ehw, show aN (upd (upd r 79 (nI w)) 86 (nI (hoN r))) 86 = hoN r from aN_i pk_us (by omega)]
  | q + 5, h => exact absurd h (by omega)
theorem upd_self {f : Nat → Int32} {k : Nat} {z : Int32} (h : f k = z) : upd f k z = f := funext fun j => by
  by_cases q : j = k
  · rw [q, pk_us, h]
  · exact pk_un q
theorem op_ifPrinted {n : Nat} {x : HV} {v : SV} (R : RelH n x v) (hn : n < 512) (x1 x2 : Int32) : OKF (n + 1) (fun _ => 1) (fX5_ifPrinted x x1 x2) (fX6_ifPrinted v x1 x2) := by
  have e1 : fX5_ifPrinted x x1 x2 = if fX5_isWithin x1 0 16777215 = 0 then .inr (0, x) else if fX5_isWithin x2 0 4 = 0 then .inr (0, x) else .inl (fX5_tryLine x x1 (fX2_setting (x 0) 5), fX5_tried (fX5_tryLine x x1 (fX2_setting (x 0) 5)) x2) := rfl
  have e2 : fX6_ifPrinted v x1 x2 = if fX5_isWithin x1 0 16777215 = 0 then fX6_fails (thr0 v) 1 else if fX5_isWithin x2 0 4 = 0 then fX6_fails (thr0 v) 1 else ((fX6_wouldBring (thr0 v) x1 x2).1, (fX6_wouldBring (thr0 v) x1 x2).2) := rfl
  rw [e1, e2]
  rcases iw_cases x1 0 16777215 (by omega) (by omega) with h | ⟨X, -, hX, rfl, h⟩
  · have h : fX5_isWithin x1 0 16777215 = 0 := h
    rw [h, if_pos rfl, if_pos rfl]
    exact OKF.out (v := v) R (by omega) rfl rfl rfl rfl rfl rfl rfl rfl (by decide)
  · have h : fX5_isWithin (nI X) 0 16777215 = 1 := h
    rw [h, if_neg one_ne, if_neg one_ne]
    rcases iw_cases x2 0 4 (by omega) (by omega) with g | ⟨q, -, hq, rfl, g⟩
    · have g : fX5_isWithin x2 0 4 = 0 := g
      rw [g, if_pos rfl, if_pos rfl]
      exact OKF.out (v := v) R (by omega) rfl rfl rfl rfl rfl rfl rfl rfl (by decide)
    · have g : fX5_isWithin (nI q) 0 4 = 1 := g
      rw [g, if_neg one_ne, if_neg one_ne]
      obtain ⟨-, -, -, -, -, ⟨h79, hw⟩, -⟩ := SI_n R.1.2.1
      have es : fX2_setting (x 0) 5 = nI (aN (v 0) 79) := ((at7 (x 0 2) 5 (by omega)).trans (R.1.1.2.2.2.2.1 5 (by omega))).trans h79
      rw [es]
      obtain ⟨y, ey⟩ : ∃ y, y = fX5_tryLine x (nI X) (nI (aN (v 0) 79)) := ⟨_, rfl⟩
      obtain ⟨u, eu⟩ : ∃ u, u = fX6_wouldBring (thr0 v) (nI X) (nI q) := ⟨_, rfl⟩
      rw [← ey, ← eu]
      obtain ⟨⟨t, et⟩, y1⟩ := try_5 R.1.1 R.1.2 (by omega) hw (by omega) ey
      obtain ⟨u1, u2, u3, u4, u5, u6⟩ := bring_6 (w := thr0 v) R.1.2 (by omega) (by omega) (by omega) eu
      have RR := RelH_t (RelH_thr (R.mono (Nat.le_succ n))) t
      refine OKF.val ?_ ((u6 2 (by omega) (by omega) (by omega) (by omega)).trans rfl) ?_
      · rw [et]
        obtain ⟨q1, ⟨q2, q3⟩, q4, q5, q6⟩ := RR
        refine ⟨R1.row u2 q1, ⟨by rw [u6 1 (by omega) (by omega) (by omega) (by omega)]; exact q2, by rw [u6 1 (by omega) (by omega) (by omega) (by omega), u4]; exact q3⟩, ?_, ?_, q6⟩
        · unfold RV
          rw [u6 0 (by omega) (by omega) (by omega) (by omega), u3]
          exact q4
        · unfold RB
          rw [u6 6 (by omega) (by omega) (by omega) (by omega), u5]
          exact q5
      · rw [y1 q (by omega), u1, upd_self h79]
        rfl
/-- the reference tells the better way -/
theorem better_6 {w : SV} {X B : Nat} (G : Gd B (w 0)) (hX : X < 2 ^ 24) (hB : B + 1 < 2 ^ 30) {u : SV × Int32} (hu : u = fX6_better w (nI X)) :
    u.2 = (if nI (lnT (upd (w 0) 79 (nI 0)) X) ≤ nI (lnT (upd (w 0) 79 (nI 1)) X) then 0 else 1) ∧ (∀ k, k < 124 → u.1 0 k = w 0 k) ∧ u.1 1 = w 1 ∧ u.1 2 = w 2 ∧ u.1 4 = w 4 ∧ (∀ j, j < 9 → j ≠ 3 → j ≠ 4 → j ≠ 5 → u.1 8 j = w 8 j) := by
  have hI : ∀ z, z ≤ 1 → ∀ r, SI r → SI (upd r 79 (nI z)) := fun z hz r h => ⟨h.1, h.2.1, h.2.2.1, h.2.2.2.1, h.2.2.2.2.1, ⟨z, hz, rfl⟩, h.2.2.2.2.2.2⟩
  obtain ⟨w0, ew0⟩ : ∃ w0, w0 = mkM (upd (w 0) 79 0) (w 1) (w 2) (w 3) (w 4) (w 5) (w 6) (w 7) (w 8 0) (w 8 1) (w 8 2) (w 8 3) (w 8 4) (w 8 5) (w 8 6) (w 8 7) (w 8 8) := ⟨_, rfl⟩
  have k0 : w0 0 = upd (w 0) 79 (nI 0) := by rw [ew0, nI_0]; rfl
  have G0 : Gd B (w0 0) := by rw [k0]; exact Gd_set (i := 5) G (by omega) (hI 0 (by omega) _ G.1)
  obtain ⟨a, ea⟩ : ∃ a, a = fX6_wouldBring w0 (nI X) 0 := ⟨_, rfl⟩
  obtain ⟨a1, a2, a3, a4, a5, a6⟩ := bring_6 (q := 0) G0 hX hB (by omega) (ea.trans (by rw [nI_0]))
  obtain ⟨w1, ew1⟩ : ∃ w1, w1 = mkM (upd (a.1 0) 79 1) (a.1 1) (a.1 2) (a.1 3) (a.1 4) (a.1 5) (a.1 6) (a.1 7) (a.1 8 0) (a.1 8 1) (a.1 8 2) (a.1 8 3) (a.1 8 4) (a.1 8 5) (a.1 8 6) (a.1 8 7) (a.1 8 8) := ⟨_, rfl⟩
  have k1 : ∀ k, k < 124 → w1 0 k = upd (w 0) 79 (nI 1) k := fun k hk => by
    rw [ew1]
    show upd (a.1 0) 79 1 k = _
    by_cases q : k = 79
    · rw [q, pk_us, pk_us]
      rfl
    · rw [pk_un q, pk_un q, a2 k hk, k0, pk_un q]
  have G1 : Gd B (w1 0) := Gd_row k1 (Gd_set (i := 5) G (by omega) (hI 1 (by omega) _ G.1))
  obtain ⟨b, eb⟩ : ∃ b, b = fX6_wouldBring w1 (nI X) 0 := ⟨_, rfl⟩
  obtain ⟨b1, b2, b3, b4, b5, b6⟩ := bring_6 (q := 0) G1 hX hB (by omega) (eb.trans (by rw [nI_0]))
  have lb : b.2 = nI (lnT (upd (w 0) 79 (nI 1)) X) := b1.trans (congrArg nI (spE_congr (fun k hk => k1 k (by omega)) X).2.2)
  have la : a.2 = nI (lnT (upd (w 0) 79 (nI 0)) X) := a1.trans (by rw [k0]; rfl)
  have e : u = (mkM (upd (b.1 0) 79 (w 0 79)) (b.1 1) (b.1 2) (b.1 3) (b.1 4) (b.1 5) (b.1 6) (b.1 7) (b.1 8 0) (b.1 8 1) (b.1 8 2) (b.1 8 3) (b.1 8 4) (b.1 8 5) (b.1 8 6) (b.1 8 7) (b.1 8 8), if a.2 ≤ b.2 then 0 else 1) := by
    rw [hu]
    unfold fX6_better
    rw [← ew0]
    dsimp only
    rw [← ea, ← ew1, ← eb]
    split <;> rfl
  rw [e, la, lb]
  have sc : ∀ j, j < 9 → j ≠ 3 → j ≠ 4 → j ≠ 5 → b.1 8 j = w 8 j := fun j j1 j2 j3 j4 => by
    rw [b6 j j1 j2 j3 j4, ew1]
    refine Eq.trans ?_ ((a6 j j1 j2 j3 j4).trans ?_)
    · exact al9 (P := fun j => mkM (upd (a.1 0) 79 1) (a.1 1) (a.1 2) (a.1 3) (a.1 4) (a.1 5) (a.1 6) (a.1 7) (a.1 8 0) (a.1 8 1) (a.1 8 2) (a.1 8 3) (a.1 8 4) (a.1 8 5) (a.1 8 6) (a.1 8 7) (a.1 8 8) 8 j = a.1 8 j) rfl rfl rfl rfl rfl rfl rfl rfl rfl j j1
    · rw [ew0]
      exact al9 (P := fun j => mkM (upd (w 0) 79 0) (w 1) (w 2) (w 3) (w 4) (w 5) (w 6) (w 7) (w 8 0) (w 8 1) (w 8 2) (w 8 3) (w 8 4) (w 8 5) (w 8 6) (w 8 7) (w 8 8) 8 j = w 8 j) rfl rfl rfl rfl rfl rfl rfl rfl rfl j j1
  refine ⟨rfl, fun k hk => ?_, ?_, ?_, ?_, al9 (sc 0 (by omega)) (sc 1 (by omega)) (sc 2 (by omega)) (fun q => absurd rfl q) (fun _ q => absurd rfl q) (fun _ _ q => absurd rfl q) (sc 6 (by omega)) (sc 7 (by omega)) (sc 8 (by omega))⟩
  · show upd (b.1 0) 79 (w 0 79) k = w 0 k
    by_cases q : k = 79
    · rw [q, pk_us]
    · rw [pk_un q, b2 k hk, k1 k hk, pk_un q]
  · show b.1 1 = w 1
    rw [b3, ew1]
    show a.1 1 = w 1
    rw [a3, ew0]
    rfl
  · show b.1 2 = w 2
    rw [b4, ew1]
    show a.1 2 = w 2
    rw [a4, ew0]
    rfl
  · show b.1 4 = w 4
    rw [b5, ew1]
    show a.1 4 = w 4
    rw [a5, ew0]
    rfl
theorem RelH_u {n : Nat} {x : HV} {v u : SV} (R : RelH n x v) (u2 : ∀ k, k < 124 → u 0 k = v 0 k) (u3 : u 1 = v 1) (u4 : u 2 = v 2) (u5 : u 4 = v 4) (u6 : ∀ j, j < 9 → j ≠ 3 → j ≠ 4 → j ≠ 5 → u 8 j = v 8 j) : RelH n x u := by
  obtain ⟨q1, ⟨q2, q3⟩, q4, q5, q6⟩ := R
  refine ⟨R1.row u2 q1, ⟨by rw [u6 1 (by omega) (by omega) (by omega) (by omega)]; exact q2, by rw [u6 1 (by omega) (by omega) (by omega) (by omega), u4]; exact q3⟩, ?_, ?_, q6⟩
  · unfold RV
    rw [u6 0 (by omega) (by omega) (by omega) (by omega), u3]
    exact q4
  · unfold RB
    rw [u6 6 (by omega) (by omega) (by omega) (by omega), u5]
    exact q5
/-- the class tells the better way -/
theorem better_5 {n : Nat} {x : HV} {v : SV} (R : RelH n x v) (hn : n < 600) {X : Nat} (hX : X < 2 ^ 24) {y : HV × Int32} (hy : y = fX5_fasterWay x (nI X)) :
    (∃ t, y.1 = mkH (x 0) (x 1) t (x 3) (x 4) (x 5) (x 6) (x 7) (x 8) (x 9 0) (x 9 1) (x 9 2 0) (x 9 2 1) (x 9 2 2)) ∧ y.2 = (if nI (lnT (upd (v 0) 79 (nI 0)) X) ≤ nI (lnT (upd (v 0) 79 (nI 1)) X) then 0 else 1) := by
  obtain ⟨a, ea⟩ : ∃ a, a = fX5_tryLine x (nI X) 0 := ⟨_, rfl⟩
  obtain ⟨⟨t, et⟩, a1⟩ := try_5 R.1.1 R.1.2 hX (w := 0) (by omega) (by omega) (ea.trans (by rw [nI_0]))
  obtain ⟨b, eb⟩ : ∃ b, b = fX5_tryLine a (nI X) 1 := ⟨_, rfl⟩
  have Ra : RelS (a 0) (v 0) := by rw [et]; exact R.1.1
  obtain ⟨⟨s, es⟩, b1⟩ := try_5 Ra R.1.2 hX (w := 1) (by omega) (by omega) eb
  have la : fX5_tried a 0 = nI (lnT (upd (v 0) 79 (nI 0)) X) := a1 0 (by omega)
  have lb : fX5_tried b 0 = nI (lnT (upd (v 0) 79 (nI 1)) X) := b1 0 (by omega)
  have e : y = (b, if fX5_tried a 0 ≤ fX5_tried b 0 then 0 else 1) := by
    rw [hy]
    unfold fX5_fasterWay
    rw [← ea]
    dsimp only
    rw [← eb]
    split <;> rfl
  rw [e, la, lb]
  refine ⟨⟨s, ?_⟩, rfl⟩
  show b = _
  rw [es, et]
  rfl
theorem op_betterWay {n : Nat} {x : HV} {v : SV} (R : RelH n x v) (hn : n < 512) (x1 : Int32) : OKF (n + 1) (fun _ => 1) (fX5_betterWay x x1) (fX6_betterWay v x1) := by
  have e1 : fX5_betterWay x x1 = if fX5_isWithin x1 0 16777215 = 0 then .inr (0, x) else .inl ((fX5_fasterWay x x1).1, (fX5_fasterWay x x1).2) := rfl
  have e2 : fX6_betterWay v x1 = if fX5_isWithin x1 0 16777215 = 0 then fX6_fails (thr0 v) 1 else ((fX6_better (thr0 v) x1).1, (fX6_better (thr0 v) x1).2) := rfl
  rw [e1, e2]
  rcases iw_cases x1 0 16777215 (by omega) (by omega) with h | ⟨X, -, hX, rfl, h⟩
  · have h : fX5_isWithin x1 0 16777215 = 0 := h
    rw [h, if_pos rfl, if_pos rfl]
    exact OKF.out (v := v) R (by omega) rfl rfl rfl rfl rfl rfl rfl rfl (by decide)
  · have h : fX5_isWithin (nI X) 0 16777215 = 1 := h
    rw [h, if_neg one_ne, if_neg one_ne]
    obtain ⟨y, ey⟩ : ∃ y, y = fX5_fasterWay x (nI X) := ⟨_, rfl⟩
    obtain ⟨u, eu⟩ : ∃ u, u = fX6_better (thr0 v) (nI X) := ⟨_, rfl⟩
    rw [← ey, ← eu]
    obtain ⟨⟨t, et⟩, y2⟩ := better_5 R (by omega) (by omega) ey
    obtain ⟨u1, u2, u3, u4, u5, u6⟩ := better_6 (w := thr0 v) R.1.2 (by omega) (by omega) eu
    refine OKF.val ?_ ((u6 2 (by omega) (by omega) (by omega) (by omega)).trans rfl) (y2.trans u1.symm)
    rw [et]
    exact RelH_u (RelH_t (RelH_thr (R.mono (Nat.le_succ n))) t) u2 u3 u4 u5 u6
