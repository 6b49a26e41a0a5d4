/-! numbers, dots, parts of a text -/
section PB
variable {c : Nat → Int32} {l : Nat}
def okC (c : Nat → Int32) (l : Nat) : Prop := ∀ i, i < l → ∃ e, 33 ≤ e ∧ e ≤ 126 ∧ c i = nI e
/-- a digit that goes on with the number N -/
def dgO (N mx e : Nat) : Bool := decide (48 ≤ e) && (decide (e ≤ 57) && (decide (1 ≤ 10 * N + (e - 48)) && decide (10 * N + (e - 48) ≤ mx)))
theorem dgO_iff {N mx e : Nat} : dgO N mx e = true ↔ 48 ≤ e ∧ e ≤ 57 ∧ 1 ≤ 10 * N + (e - 48) ∧ 10 * N + (e - 48) ≤ mx := by
  unfold dgO
  simp only [Bool.and_eq_true, decide_eq_true_eq]
theorem iw_n {e a b : Nat} (he : e < 2 ^ 31) (ha : a < 2 ^ 31) (hb : b < 2 ^ 31) : fX5_isWithin (nI e) (nI a) (nI b) = if a ≤ e ∧ e ≤ b then 1 else 0 := by
  unfold fX5_isWithin
  by_cases h1 : e < a
  · rw [if_pos (nI_lt h1 ha), if_neg (by omega)]
  · rw [if_neg (nI_nlt (by omega) he)]
    by_cases h2 : b < e
    · rw [if_pos (nI_lt h2 he), if_neg (by omega)]
    · rw [if_neg (nI_nlt (by omega) hb), if_pos (by omega)]
theorem iw_lit1 {e : Nat} (he : e < 2 ^ 31) : fX5_isWithin (nI e) 48 57 = if 48 ≤ e ∧ e ≤ 57 then 1 else 0 := iw_n (a := 48) (b := 57) he (by omega) (by omega)
theorem iw_lit2 {e : Nat} (he : e < 2 ^ 31) : fX5_isWithin (nI e) 49 57 = if 49 ≤ e ∧ e ≤ 57 then 1 else 0 := iw_n (a := 49) (b := 57) he (by omega) (by omega)
theorem iw_lit3 {e : Nat} (he : e < 2 ^ 31) : fX5_isWithin (nI e) 97 102 = if 97 ≤ e ∧ e ≤ 102 then 1 else 0 := iw_n (a := 97) (b := 102) he (by omega) (by omega)
theorem pe {α β : Type} : ∀ p : α × β, (p.1, p.2) = p := fun ⟨_, _⟩ => rfl
theorem num_take {m w k kd ds dd p : Int32} {N mx e : Nat} (hN : N ≤ 999) (hm : mx ≤ 999) (he : e ≤ 126) (h59 : ¬ e = 59) : fX1_take (mkR 4 m w k kd ds dd p (nI N) (nI mx)) (nI e) = if dgO N mx e then (mkR 4 m w k kd ds dd p (nI (10 * N + (e - 48))) (nI mx), 1) else (mkR 4 m w k kd ds dd p (nI N) (nI mx), 0) := by
  have e1 : fX1_take (mkR 4 m w k kd ds dd p (nI N) (nI mx)) (nI e) = fX1_takeDigit (mkR 4 m w k kd ds dd p (nI N) (nI mx)) (nI e) := by
    unfold fX1_take
    rw [if_neg (show ¬ nI e = (59 : Int32) from fun z => h59 ((nI_eq (b := 59) (by omega) (by omega)).mp z))]
    dsimp only
    refine (if_neg (show ¬ (4 : Int32) = 0 by decide)).trans ((if_neg (show ¬ (4 : Int32) = 1 by decide)).trans ((if_neg (show ¬ (4 : Int32) = 2 by decide)).trans ((if_neg (show ¬ (4 : Int32) = 3 by decide)).trans ((if_pos (show (4 : Int32) = 4 from rfl)).trans ?_))))
    exact pe _
  rw [e1]
  unfold fX1_takeDigit
  rw [iw_lit1 (by omega)]
  by_cases h1 : 48 ≤ e ∧ e ≤ 57
  · have e2 : nI N * 10 + (nI e - 48) = nI (10 * N + (e - 48)) := by
      rw [show nI e - 48 = nI (e - 48) from pk_sub (b := 48) h1.1, show nI N * 10 = nI (N * 10) from pk_mul N 10, nI_add, Nat.mul_comm]
    rw [if_pos h1, if_neg (by decide)]
    show (if fX5_isWithin (nI N * 10 + (nI e - 48)) 1 (nI mx) = 0 then _ else _) = _
    rw [e2, show fX5_isWithin (nI (10 * N + (e - 48))) 1 (nI mx) = if 1 ≤ 10 * N + (e - 48) ∧ 10 * N + (e - 48) ≤ mx then 1 else 0 from iw_n (a := 1) (by omega) (by omega) (by omega)]
    by_cases h2 : 1 ≤ 10 * N + (e - 48) ∧ 10 * N + (e - 48) ≤ mx
    · rw [if_pos h2, if_neg (by decide), if_pos (dgO_iff.mpr ⟨h1.1, h1.2, h2.1, h2.2⟩)]
      exact congrArg (fun z => (mkR 4 m w k kd ds dd p z (nI mx), (1 : Int32))) e2
    · rw [if_neg h2, if_pos rfl, if_neg (fun z => h2 ⟨(dgO_iff.mp z).2.2.1, (dgO_iff.mp z).2.2.2⟩)]
  · rw [if_neg h1, if_pos rfl, if_neg (fun z => h1 ⟨(dgO_iff.mp z).1, (dgO_iff.mp z).2.1⟩)]
theorem num_body {v0 w : SV} {i N mx : Nat} (hl : l ≤ 60) (hc : okC c l) (hN : N ≤ 999) (hm : mx ≤ 999) (h : At c l w i) : (i < l ∧ ∃ e, c i = nI e ∧ e ≤ 126 ∧ dgO N mx e = true ∧ ∃ u, bX6_readNumber_2 v0 (nI mx) (nI N, w) = (true, (nI (10 * N + (e - 48)), u)) ∧ FR7 w u ∧ At c l u (i + 1)) ∨ (bX6_readNumber_2 v0 (nI mx) (nI N, w) = (false, (nI N, w)) ∧ (i < l → ∃ e, c i = nI e ∧ e ≤ 126 ∧ dgO N mx e = false)) := by
  unfold bX6_readNumber_2
  dsimp only
  rw [sign_at hl h]
  have hz : nI N = 0 ↔ N = 0 := by
    rw [← nI_0]
    exact nI_eq (by omega) (by omega)
  by_cases q : i < l
  · obtain ⟨e, he1, he2, hce⟩ := hc i q
    have ecx : cx c l i = nI e := (if_pos q).trans hce
    rw [ecx]
    have a1 : fX6_in (nI e) 49 57 = if 49 ≤ e ∧ e ≤ 57 then 1 else 0 := iw_lit2 (by omega)
    have a2 : fX6_in (nI e) 48 57 = if 48 ≤ e ∧ e ≤ 57 then 1 else 0 := iw_lit1 (by omega)
    rw [a1, a2]
    have e2 : 48 ≤ e → (10 : Int32) * nI N + nI e - 48 = nI (10 * N + (e - 48)) := fun z => by
      rw [show (10 : Int32) * nI N = nI (10 * N) from pk_mul 10 N, nI_add, show nI (10 * N + e) - 48 = nI (10 * N + e - 48) from pk_sub (b := 48) (by omega), show 10 * N + e - 48 = 10 * N + (e - 48) by omega]
    by_cases d : dgO N mx e = true
    · obtain ⟨d1, d2, d3, d4⟩ := dgO_iff.mp d
      refine Or.inl ⟨q, e, hce, he2, d, ?_⟩
      have go : ∃ u, (true, ((10 : Int32) * nI N + nI e - 48, mkM (w 0) (w 1) (w 2) (w 3) (w 4) (w 5) (w 6) (w 7) (w 8 0) (w 8 1) (w 8 2) (w 8 3) (w 8 4) (w 8 5) (w 8 6) (w 8 7 + 1) (w 8 8))) = (true, (nI (10 * N + (e - 48)), u)) ∧ FR7 w u ∧ At c l u (i + 1) := by
        rw [e2 d1]
        exact ⟨_, rfl, FR7.mk w _, h.fr (FR7.mk w _) (by show w 8 7 + 1 = _; rw [h.2.2.1, nI_1]) (by omega)⟩
      by_cases z : N = 0
      · rw [if_pos (hz.mpr z), if_pos (show 49 ≤ e ∧ e ≤ 57 by omega), if_neg one_ne, e2 d1, if_neg (nI_nlt d4 (by omega))]
        rw [e2 d1] at go
        exact go
      · rw [if_neg (fun y => z (hz.mp y)), if_pos (show 48 ≤ e ∧ e ≤ 57 by omega), if_neg one_ne, e2 d1, if_neg (nI_nlt d4 (by omega))]
        rw [e2 d1] at go
        exact go
    · refine Or.inr ⟨?_, fun _ => ⟨e, hce, he2, eq_false_of_ne_true d⟩⟩
      have nd : ¬ (48 ≤ e ∧ e ≤ 57 ∧ 1 ≤ 10 * N + (e - 48) ∧ 10 * N + (e - 48) ≤ mx) := fun z => d (dgO_iff.mpr z)
      by_cases z : N = 0
      · rw [if_pos (hz.mpr z)]
        by_cases y : 49 ≤ e ∧ e ≤ 57
        · rw [if_pos y, if_neg one_ne, e2 (by omega), if_pos (nI_lt (by omega) (by omega))]
        · rw [if_neg y, if_pos rfl]
      · rw [if_neg (fun y => z (hz.mp y))]
        by_cases y : 48 ≤ e ∧ e ≤ 57
        · rw [if_pos y, if_neg one_ne, e2 (by omega), if_pos (nI_lt (by omega) (by omega))]
        · rw [if_neg y, if_pos rfl]
  · have ecx : cx c l i = 0 := if_neg q
    rw [ecx]
    refine Or.inr ⟨?_, fun z => absurd z q⟩
    by_cases z : N = 0
    · rw [if_pos (hz.mpr z), if_pos (by decide)]
    · rw [if_neg (fun y => z (hz.mp y)), if_pos (by decide)]
theorem e59 {N mx e : Nat} (he : e ≤ 126) (h : dgO N mx e = true) : ¬ nI e = (59 : Int32) := fun z => by
  have := (nI_eq (a := e) (b := 59) (by omega) (by omega)).mp z
  have := (dgO_iff.mp h).2.1
  omega
theorem num_loop {v0 : SV} {b mx : Nat} {r0 : Nat → Int32} {m w k kd ds dd p : Int32} (hl : l ≤ 60) (hc : okC c l) (hm : mx ≤ 999) : ∀ (F n N : Nat) (z : SV), Tk c b r0 n (mkR 4 m w k kd ds dd p (nI N) (nI mx)) → At c l z (b + n) → l < b + n + F → N ≤ mx →
    ∃ n' N' u, lpB F (bX6_readNumber_2 v0 (nI mx)) (nI N, z) = (nI N', u) ∧ Tk c b r0 n' (mkR 4 m w k kd ds dd p (nI N') (nI mx)) ∧ At c l u (b + n') ∧ FR7 z u ∧ N' ≤ mx ∧ (b + n' < l → ¬ c (b + n') = 59 → (fX1_take (mkR 4 m w k kd ds dd p (nI N') (nI mx)) (c (b + n'))).2 = 0) := by
  intro F
  induction F with
  | zero =>
    intro n N z hT hA hF hN
    have := hA.2.2.2
    omega
  | succ F ih =>
    intro n N z hT hA hF hN
    show ∃ n' N' u, (bif (bX6_readNumber_2 v0 (nI mx) (nI N, z)).1 then lpB F (bX6_readNumber_2 v0 (nI mx)) (bX6_readNumber_2 v0 (nI mx) (nI N, z)).2 else (bX6_readNumber_2 v0 (nI mx) (nI N, z)).2) = (nI N', u) ∧ _
    rcases num_body (v0 := v0) hl hc (show N ≤ 999 by omega) hm hA with ⟨q, e, hce, he, hd, u, hb, hf, hu⟩ | ⟨hb, hn⟩
    · rw [hb]
      have h59 := e59 he hd
      obtain ⟨n', N', u', k1, k2, k3, k4, k5, k6⟩ := ih (n + 1) (10 * N + (e - 48)) u ⟨_, hT, by rw [hce]; exact h59, by rw [hce, num_take (by omega) hm he (fun z => h59 (by rw [z]; rfl)), if_pos hd]⟩ hu (by omega) (dgO_iff.mp hd).2.2.2
      exact ⟨n', N', u', k1, k2, k3, hf.tr k4, k5, k6⟩
    · rw [hb]
      refine ⟨n, N, z, rfl, hT, hA, FR7.rf z, hN, fun q1 q2 => ?_⟩
      obtain ⟨e, hce, he, hd⟩ := hn q1
      rw [hce, num_take (by omega) hm he (fun z => q2 (by rw [hce, z]; rfl)), if_neg (by rw [hd]; decide)]
theorem num_cpl {m w k kd ds dd p x : Int32} {N : Nat} (hN : N ≤ 999) : fX1_isComplete (mkR 4 m w k kd ds dd p (nI N) x) = if 0 < N then 1 else 0 := by
  show (if nI N ≤ 0 then (0 : Int32) else 1) = _
  by_cases h : 0 < N
  · rw [if_neg (nI_nle h (by omega)), if_pos h]
  · rw [show N = 0 by omega]
    rfl
/-- what a part tells, in the class's reader and in the reference's row -/
def PartOk (r : Nat → Int32) (K W T : Int32) : Prop :=
  (r 4 = 1 ∧ K = 0 ∧ ∃ X t, X < 2 ^ 24 ∧ 1 ≤ t ∧ t ≤ 20 ∧ r 5 = nI X ∧ W = nI X ∧ T = nI t ∧ (if 1 < r 8 then r 8 else 1) = nI t) ∨ (r 4 = 2 ∧ K = 1 ∧ ∃ p, p ≤ 2 ∧ r 7 = nI p ∧ W = nI p) ∨ (r 4 = 3 ∧ K = 2 ∧ ∃ t, t ≤ 999 ∧ r 8 = nI t ∧ W = nI t) ∨ (r 4 = 4 ∧ K = 0 ∧ W = 0 ∧ T = 1)
/-- how a reader of the reference ends that doesn't fail -/
def Fine (c : Nat → Int32) (l b : Nat) (r0 : Nat → Int32) (v : SV) (u : SV × Int32) : Prop := u.2 = 1 ∧ ∃ n r, Tk c b r0 n r ∧ At c l u.1 (b + n) ∧ Dn c l r (b + n) ∧ ∃ K W T, PartOk r K W T ∧ u.1 5 = upd (v 5) (v 8 8).toNatClampNeg K ∧ u.1 6 = upd (v 6) (v 8 8).toNatClampNeg W ∧ u.1 7 = upd (v 7) (v 8 8).toNatClampNeg T ∧ u.1 8 8 = v 8 8 + 1
def Rd (c : Nat → Int32) (l b : Nat) (r0 : Nat → Int32) (v : SV) (u : SV × Int32) : Prop := FRX v u.1 ∧ (Bad c l b r0 u ∨ Fine c l b r0 v u)
theorem Rd.bad {b : Nat} {r0 : Nat → Int32} {v : SV} {u : SV × Int32} (f : FR7 v u.1) (h : Bad c l b r0 u) : Rd c l b r0 v u := ⟨FRX.of7 f, Or.inl h⟩
theorem Rd.from {b : Nat} {r0 : Nat → Int32} {v w : SV} {u : SV × Int32} (f : FR7 v w) (h : Rd c l b r0 w u) : Rd c l b r0 v u := by
  refine ⟨(FRX.of7 f).tr h.1, h.2.imp id ?_⟩
  rintro ⟨h1, n, r, h2, h3, h4, K, W, T, h5, h6, h7, h8, h9⟩
  have e8 := f.2 8 (by omega) (by omega)
  exact ⟨h1, n, r, h2, h3, h4, K, W, T, h5, by rw [h6, e8, f.1 5 (by omega)], by rw [h7, e8, f.1 6 (by omega)], by rw [h8, e8, f.1 7 (by omega)], by rw [h9, e8]⟩
theorem Rd.add {b n : Nat} {r0 r : Nat → Int32} {v w : SV} {K W T : Int32} {u : SV × Int32} (f : FR7 v w) (hT : Tk c b r0 n r) (hA : At c l w (b + n)) (hD : Dn c l r (b + n)) (hP : PartOk r K W T) (hu : u = fX6_addPart w K W T) : Rd c l b r0 v u := by
  refine Rd.from f ?_
  obtain ⟨p7, p6, p8, pj, pk⟩ := PB_ap (u := u.1) (congrArg Prod.fst hu)
  refine ⟨⟨pj, pk⟩, Or.inr ⟨by rw [hu]; rfl, n, r, hT, ⟨fun j hj => by rw [pj 4 (by omega)]; exact hA.1 j hj, p6.trans hA.2.1, p7.trans hA.2.2.1, hA.2.2.2⟩, hD, K, W, T, hP, by rw [hu]; rfl, by rw [hu]; rfl, by rw [hu]; rfl, p8⟩⟩
theorem if01 {u : SV × Int32} (h : u.2 = 0 ∨ u.2 = 1) : (if u.2 = 0 then (u.1, (0 : Int32)) else (u.1, 1)) = u := by
  obtain ⟨a, b⟩ := u
  rcases h with h | h
  · have h : b = 0 := h
    subst h
    rfl
  · have h : b = 1 := h
    subst h
    rfl
theorem Rd.b01 {b : Nat} {r0 : Nat → Int32} {v : SV} {u : SV × Int32} (h : Rd c l b r0 v u) : u.2 = 0 ∨ u.2 = 1 := h.2.imp (fun q => q.1) (fun q => q.1)
theorem rest_sync {v : SV} {b n : Nat} {r0 : Nat → Int32} {m w k p : Int32} (hl : l ≤ 60) (hc : okC c l) (hT : Tk c b r0 n (mkR 4 m w k 3 0 0 p 0 999)) (hA : At c l v (b + n)) {u : SV × Int32} (hu : u = fX6_readRest v) : Rd c l b r0 v u := by
  have hmR : mR = 60 := rfl
  obtain ⟨n', N', z, k1, k2, k3, k4, k5, k6⟩ := num_loop (v0 := v) (mx := 999) hl hc (by omega) (mR + 1) n 0 v hT hA (by omega) (by omega)
  have e1 : fX6_readNumber v 999 = (z, nI N') := by
    show tX6_readNumber_2 v 999 (lpB (mR + 1) (bX6_readNumber_2 v (nI 999)) (nI 0, v)) = _
    rw [k1]
    rfl
  have e2 : u = if nI N' ≤ 0 then (z, 0) else if (fX6_addPart z 2 (nI N') 0).2 = 0 then ((fX6_addPart z 2 (nI N') 0).1, 0) else ((fX6_addPart z 2 (nI N') 0).1, 1) := by
    rw [hu]
    unfold fX6_readRest
    rw [e1]
  have cp := num_cpl (m := m) (w := w) (k := k) (kd := 3) (ds := 0) (dd := 0) (p := p) (x := nI 999) (N := N') (by omega)
  by_cases h : 0 < N'
  · rw [if_neg (nI_nle h (by omega)), if01 (Or.inr rfl)] at e2
    rw [if_pos h] at cp
    exact Rd.add k4 k2 k3 ⟨cp, k6⟩ (Or.inr (Or.inr (Or.inl ⟨rfl, rfl, N', k5, rfl, rfl⟩))) e2
  · rw [if_pos (show nI N' ≤ 0 by rw [show N' = 0 by omega]; decide)] at e2
    rw [if_neg h] at cp
    rw [e2]
    refine Rd.bad k4 ⟨rfl, n', _, k2, k3, ?_⟩
    by_cases q : b + n' < l
    · refine Or.inl ⟨q, ?_⟩
      by_cases y : c (b + n') = 59
      · rw [y, tb_no cp]
      · exact k6 q y
    · exact Or.inr ⟨by have := k3.2.2.2; omega, cp⟩
/-! dots -/
def hxN (e : Nat) : Nat := if e ≤ 57 then e - 48 else e - 87
def hxO (e : Nat) : Bool := (decide (48 ≤ e) && decide (e ≤ 57)) || (decide (97 ≤ e) && decide (e ≤ 102))
theorem hxO_iff {e : Nat} : hxO e = true ↔ (48 ≤ e ∧ e ≤ 57) ∨ (97 ≤ e ∧ e ≤ 102) := by
  unfold hxO
  simp only [Bool.or_eq_true, Bool.and_eq_true, decide_eq_true_eq]
theorem hxN_lt {e : Nat} (h : hxO e = true) : hxN e < 16 := by
  have := hxO_iff.mp h
  unfold hxN
  split <;> omega
theorem hex_n {e : Nat} (he : e ≤ 126) : fX1_hexDigit (nI e) = if hxO e then nI (hxN e) else -1 := by
  unfold fX1_hexDigit hxN
  rw [iw_lit1 (by omega), iw_lit3 (by omega)]
  by_cases h1 : 48 ≤ e ∧ e ≤ 57
  · rw [if_pos h1, if_neg one_ne, if_pos (hxO_iff.mpr (Or.inl h1)), if_pos h1.2]
    exact pk_sub (b := 48) h1.1
  · rw [if_neg h1, if_pos rfl]
    by_cases h2 : 97 ≤ e ∧ e ≤ 102
    · rw [if_pos h2, if_neg one_ne, if_pos (hxO_iff.mpr (Or.inr h2)), if_neg (by omega), show nI e - 97 = nI (e - 97) from pk_sub (b := 97) h2.1, show nI (e - 97) + 10 = nI (e - 97 + 10) from nI_add _ 10, show e - 97 + 10 = e - 87 by omega]
    · rw [if_neg h2, if_pos rfl, if_neg (fun z => by have := hxO_iff.mp z; omega)]
theorem dots_take {m w k p x : Int32} {D d e : Nat} (hd : d < 6) (hD : D < 2 ^ 24) (he : e ≤ 126) (h59 : ¬ e = 59) : fX1_take (mkR 2 m w k 1 (nI D) (nI d) p 0 x) (nI e) = if hxO e then (mkR 2 m w k 1 (nI (16 * D + hxN e)) (nI (d + 1)) p 0 x, 1) else (mkR 2 m w k 1 (nI D) (nI d) p 0 x, 0) := by
  have e1 : fX1_take (mkR 2 m w k 1 (nI D) (nI d) p 0 x) (nI e) = fX1_takeOfDots (mkR 2 m w k 1 (nI D) (nI d) p 0 x) (nI e) := by
    unfold fX1_take
    rw [if_neg (show ¬ nI e = (59 : Int32) from fun z => h59 ((nI_eq (b := 59) (by omega) (by omega)).mp z))]
    rfl
  rw [e1]
  unfold fX1_takeOfDots
  show (if nI d < 6 then _ else _) = _
  rw [if_pos (show nI d < 6 from nI_lt (b := 6) hd (by omega)), hex_n he]
  by_cases h : hxO e = true
  · have := hxN_lt h
    rw [if_pos h, if_pos (nI_pos' (by omega)), if_pos h]
    show (mkR 2 m w k 1 (nI D * 16 + nI (hxN e)) (nI d + 1) p 0 x, (1 : Int32)) = _
    rw [show nI D * 16 = nI (D * 16) from pk_mul D 16, nI_add, nI_1, Nat.mul_comm]
  · rw [if_neg h, if_neg (by decide), if_neg h]
theorem dots_body {v0 w : SV} {i D d : Nat} (hl : l ≤ 60) (hc : okC c l) (hD : D < 2 ^ 24) (h : At c l w i) : (i < l ∧ ∃ e, c i = nI e ∧ e ≤ 126 ∧ hxO e = true ∧ ∃ u, bX6_readLine_4 v0 d (nI D, w) = Sum.inl (nI (16 * D + hxN e), u) ∧ FR7 w u ∧ At c l u (i + 1)) ∨ (bX6_readLine_4 v0 d (nI D, w) = Sum.inr (w, 0) ∧ (i < l → ∃ e, c i = nI e ∧ e ≤ 126 ∧ hxO e = false)) := by
  unfold bX6_readLine_4
  dsimp only
  rw [sign_at hl h]
  by_cases q : i < l
  · obtain ⟨e, he1, he2, hce⟩ := hc i q
    have ecx : cx c l i = nI e := (if_pos q).trans hce
    rw [ecx]
    have a1 : fX6_in (nI e) 48 57 = if 48 ≤ e ∧ e ≤ 57 then 1 else 0 := iw_lit1 (by omega)
    have a2 : fX6_in (nI e) 97 102 = if 97 ≤ e ∧ e ≤ 102 then 1 else 0 := iw_lit3 (by omega)
    rw [a1, a2]
    have go : ∀ y : Int32, y = nI (hxN e) → ∃ u, (Sum.inl ((16 : Int32) * nI D + y, mkM (w 0) (w 1) (w 2) (w 3) (w 4) (w 5) (w 6) (w 7) (w 8 0) (w 8 1) (w 8 2) (w 8 3) (w 8 4) (w 8 5) (w 8 6) (w 8 7 + 1) (w 8 8)) : (Int32 × SV) ⊕ (SV × Int32)) = Sum.inl (nI (16 * D + hxN e), u) ∧ FR7 w u ∧ At c l u (i + 1) := by
      rintro y rfl
      rw [show (16 : Int32) * nI D = nI (16 * D) from pk_mul 16 D, nI_add]
      exact ⟨_, rfl, FR7.mk w _, h.fr (FR7.mk w _) (by show w 8 7 + 1 = _; rw [h.2.2.1, nI_1]) (by omega)⟩
    have nn : ∀ n, n < 2 ^ 31 → ¬ nI n = -1 := fun n hn z => by
      have := nI_pos (n := n) hn
      rw [z] at this
      exact this (by decide)
    by_cases h1 : 48 ≤ e ∧ e ≤ 57
    · have ee : nI e - 48 = nI (hxN e) := by
        unfold hxN
        rw [if_pos h1.2]
        exact pk_sub (b := 48) h1.1
      have hx := hxN_lt (hxO_iff.mpr (Or.inl h1))
      rw [if_pos h1, if_neg one_ne, if_neg (by rw [ee]; exact nn _ (by omega))]
      exact Or.inl ⟨q, e, hce, he2, hxO_iff.mpr (Or.inl h1), go _ ee⟩
    · rw [if_neg h1, if_pos rfl]
      by_cases h2 : 97 ≤ e ∧ e ≤ 102
      · have ee : nI e - 97 + 10 = nI (hxN e) := by
          unfold hxN
          rw [if_neg (by omega), show nI e - 97 = nI (e - 97) from pk_sub (b := 97) h2.1, show nI (e - 97) + 10 = nI (e - 97 + 10) from nI_add _ 10, show e - 97 + 10 = e - 87 by omega]
        have hx := hxN_lt (hxO_iff.mpr (Or.inr h2))
        rw [if_pos h2, if_neg one_ne, if_neg (by rw [ee]; exact nn _ (by omega))]
        exact Or.inl ⟨q, e, hce, he2, hxO_iff.mpr (Or.inr h2), go _ ee⟩
      · rw [if_neg h2, if_pos rfl]
        exact Or.inr ⟨rfl, fun _ => ⟨e, hce, he2, eq_false_of_ne_true (fun z => by have := hxO_iff.mp z; omega)⟩⟩
  · have ecx : cx c l i = 0 := if_neg q
    rw [ecx, if_pos (by decide), if_pos (by decide)]
    exact Or.inr ⟨rfl, fun z => absurd z q⟩
theorem dots_cpl {m w k p x ds : Int32} {d : Nat} (hd : d ≤ 6) : fX1_isComplete (mkR 2 m w k 1 ds (nI d) p 0 x) = if d = 6 then 1 else 0 := by
  show (if nI d = 6 then (1 : Int32) else 0) = _
  by_cases h : d = 6
  · rw [if_pos h, h]
    rfl
  · rw [if_neg h, if_neg (show ¬ nI d = (6 : Int32) from fun z => h ((nI_eq (b := 6) (by omega) (by omega)).mp z))]
theorem dots_loop {v0 : SV} {b : Nat} {r0 : Nat → Int32} {m w k p x : Int32} (hl : l ≤ 60) (hc : okC c l) : ∀ (q d n D : Nat) (z : SV), d + q = 6 → Tk c b r0 n (mkR 2 m w k 1 (nI D) (nI d) p 0 x) → D < 16 ^ d → At c l z (b + n) →
    (∃ u, lpR q d (bX6_readLine_4 v0) (nI D, z) = Sum.inr (u, 0) ∧ FR7 z u ∧ Bad c l b r0 (u, 0)) ∨ (∃ D' u, lpR q d (bX6_readLine_4 v0) (nI D, z) = Sum.inl (nI D', u) ∧ FR7 z u ∧ D' < 2 ^ 24 ∧ Tk c b r0 (n + q) (mkR 2 m w k 1 (nI D') (nI 6) p 0 x) ∧ At c l u (b + (n + q))) := by
  intro q
  induction q with
  | zero =>
    intro d n D z hd hT hD hA
    have e : d = 6 := by omega
    subst e
    exact Or.inr ⟨D, z, rfl, FR7.rf z, by omega, hT, hA⟩
  | succ q ih =>
    intro d n D z hd hT hD hA
    have hp : 16 ^ d ≤ 16 ^ 5 := Nat.pow_le_pow_right (by omega) (by omega)
    rcases dots_body (v0 := v0) (d := d) hl hc (show D < 2 ^ 24 by omega) hA with ⟨h1, e, hce, he, hx, u, hb, hf, hu⟩ | ⟨hb, hn⟩
    · rw [lpR_l hb]
      have hne : ¬ e = 59 := fun y => by have := hxO_iff.mp hx; omega
      have h59 : ¬ nI e = (59 : Int32) := fun y => hne ((nI_eq (b := 59) (by omega) (by omega)).mp y)
      have hlt := hxN_lt hx
      rcases ih (d + 1) (n + 1) (16 * D + hxN e) u (by omega) ⟨_, hT, by rw [hce]; exact h59, by rw [hce, dots_take (by omega) (by omega) he hne, if_pos hx]⟩ (by rw [Nat.pow_succ]; omega) hu with ⟨u', k1, k2, k3⟩ | ⟨D', u', k1, k2, k3, k4, k5⟩
      · exact Or.inl ⟨u', k1, hf.tr k2, k3⟩
      · rw [show n + 1 + q = n + (q + 1) by omega] at k4 k5
        exact Or.inr ⟨D', u', k1, hf.tr k2, k3, k4, k5⟩
    · rw [lpR_r hb]
      have cp : fX1_isComplete (mkR 2 m w k 1 (nI D) (nI d) p 0 x) = 0 := (dots_cpl (by omega)).trans (if_neg (by omega))
      refine Or.inl ⟨z, rfl, FR7.rf z, rfl, n, _, hT, hA, ?_⟩
      by_cases y : b + n < l
      · refine Or.inl ⟨y, ?_⟩
        obtain ⟨e, hce, he, hx⟩ := hn y
        by_cases y2 : e = 59
        · rw [hce, y2]
          exact congrArg Prod.snd (tb_no cp)
        · rw [hce, dots_take (by omega) (by omega) he y2, if_neg (by rw [hx]; decide)]
      · exact Or.inr ⟨by have := hA.2.2.2; omega, cp⟩
theorem star_take {m w k p x ds : Int32} {code : Int32} (h59 : ¬ code = 59) : fX1_take (mkR 2 m w k 1 ds (nI 6) p 0 x) code = if code = 42 then (mkR 4 m w k 1 ds (nI 6) p 0 20, 1) else (mkR 2 m w k 1 ds (nI 6) p 0 x, 0) := by
  have e1 : fX1_take (mkR 2 m w k 1 ds (nI 6) p 0 x) code = fX1_takeStar (mkR 2 m w k 1 ds (nI 6) p 0 x) code := by
    unfold fX1_take
    rw [if_neg h59]
    rfl
  rw [e1]
  unfold fX1_takeStar
  by_cases h : code = 42
  · rw [if_pos h, if_pos h]
    rfl
  · rw [if_neg h, if_neg h]
theorem line_sync {v : SV} {b n : Nat} {r0 : Nat → Int32} {m w k p x : Int32} (hl : l ≤ 60) (hc : okC c l) (hT : Tk c b r0 n (mkR 2 m w k 1 0 0 p 0 x)) (hA : At c l v (b + n)) {u : SV × Int32} (hu : u = fX6_readLine v) : Rd c l b r0 v u := by
  have hmR : mR = 60 := rfl
  rcases dots_loop (v0 := v) hl hc 6 0 n 0 v rfl hT (by decide) hA with ⟨z, k1, k2, k3⟩ | ⟨X, z, k1, k2, k3, k4, k5⟩
  · have e : u = (z, 0) := by
      rw [hu]
      unfold fX6_readLine
      rw [show lpR 6 0 (bX6_readLine_4 v) (0, v) = Sum.inr (z, 0) from k1]
      rfl
    rw [e]
    exact Rd.bad k2 k3
  · obtain ⟨t, et⟩ : ∃ t, t = fX6_takes z 42 := ⟨_, rfl⟩
    have e : u = (if t.2 = 0 then (if (fX6_addPart t.1 0 (nI X) 1).2 = 0 then ((fX6_addPart t.1 0 (nI X) 1).1, 0) else ((fX6_addPart t.1 0 (nI X) 1).1, 1)) else (if (fX6_readNumber t.1 20).2 ≤ 0 then ((fX6_readNumber t.1 20).1, 0) else (if (fX6_addPart (fX6_readNumber t.1 20).1 0 (nI X) (fX6_readNumber t.1 20).2).2 = 0 then ((fX6_addPart (fX6_readNumber t.1 20).1 0 (nI X) (fX6_readNumber t.1 20).2).1, 0) else ((fX6_addPart (fX6_readNumber t.1 20).1 0 (nI X) (fX6_readNumber t.1 20).2).1, 1)))) := by
      rw [hu]
      unfold fX6_readLine
      rw [show lpR 6 0 (bX6_readLine_4 v) (0, v) = Sum.inl (nI X, z) from k1]
      show tX6_readLine_4 v (nI X, z) = _
      unfold tX6_readLine_4
      dsimp only
      rw [← et]
    obtain ⟨f, g⟩ := takes_at hl k5 (a := 42) (by decide) et
    rcases g with ⟨g1, g2, g3, g4⟩ | ⟨g1, g2, g3⟩
    · have hce : c (b + (n + 6)) = 42 := by
        have : cx c l (b + (n + 6)) = c (b + (n + 6)) := if_pos g2
        rw [← this, g1]
      have hT2 : Tk c b r0 (n + 6 + 1) (mkR 4 m w k 1 (nI X) (nI 6) p (nI 0) (nI 20)) := ⟨_, k4, by rw [hce]; decide, by rw [hce, star_take (by decide)]; rfl⟩
      obtain ⟨n', N', y, j1, j2, j3, j4, j5, j6⟩ := num_loop (v0 := t.1) (mx := 20) hl hc (by omega) (mR + 1) (n + 6 + 1) 0 t.1 hT2 g4 (by omega) (by omega)
      have e1 : fX6_readNumber t.1 20 = (y, nI N') := by
        show tX6_readNumber_2 t.1 20 (lpB (mR + 1) (bX6_readNumber_2 t.1 (nI 20)) (nI 0, t.1)) = _
        rw [j1]
        rfl
      rw [g3, if_neg one_ne, e1] at e
      have cp := num_cpl (m := m) (w := w) (k := k) (kd := 1) (ds := nI X) (dd := nI 6) (p := p) (x := nI 20) (N := N') (by omega)
      by_cases h : 0 < N'
      · have e : u = if (fX6_addPart y 0 (nI X) (nI N')).2 = 0 then ((fX6_addPart y 0 (nI X) (nI N')).1, 0) else ((fX6_addPart y 0 (nI X) (nI N')).1, 1) := e.trans (if_neg (nI_nle h (by omega)))
        rw [if01 (Or.inr rfl)] at e
        rw [if_pos h] at cp
        refine Rd.add ((k2.tr f).tr j4) j2 j3 ⟨cp, j6⟩ (Or.inl ⟨rfl, rfl, X, N', k3, h, j5, rfl, rfl, rfl, ?_⟩) e
        show (if (1 : Int32) < nI N' then nI N' else 1) = nI N'
        by_cases z : 1 < N'
        · rw [if_pos (show (1 : Int32) < nI N' from nI_lt (a := 1) z (by omega))]
        · rw [show N' = 1 by omega]
          rfl
      · have e : u = (y, 0) := e.trans (if_pos (show nI N' ≤ 0 by rw [show N' = 0 by omega]; decide))
        rw [if_neg h] at cp
        rw [e]
        refine Rd.bad ((k2.tr f).tr j4) ⟨rfl, n', _, j2, j3, ?_⟩
        by_cases q : b + n' < l
        · refine Or.inl ⟨q, ?_⟩
          by_cases z : c (b + n') = 59
          · rw [z, tb_no cp]
          · exact j6 q z
        · exact Or.inr ⟨by have := j3.2.2.2; omega, cp⟩
    · rw [g2, if_pos rfl, if01 (Or.inr rfl)] at e
      refine Rd.add (k2.tr f) k4 g3 ⟨(dots_cpl (Nat.le_refl 6)).trans (if_pos rfl), fun q1 q2 => ?_⟩ (Or.inl ⟨rfl, rfl, X, 1, k3, by omega, by omega, rfl, rfl, rfl, rfl⟩) e
      rw [star_take q2, if_neg (fun z => g1 (by rw [show cx c l (b + (n + 6)) = c (b + (n + 6)) from if_pos q1]; exact z))]
end PB
