def hdF (b : Nat → Nat) : Nat → Option Nat := fun k => some (b (11 * k))
def hdOX (G : GT) (a b : Nat → Nat) (f : Nat → Option Nat) (x : HV) : va_W :=
  [(a 0, .inr (5, [.ref (a 5), .ref (a 16), .ref (a 27), .ref (a 1), .ref (a 2), .ref (a 4), .int (x 9 2 0), .int (x 9 2 1)])),
   (a 1, .inl (gR G, 6, .inr (.inr (.inr (.inr f))))),
   (a 2, .inr (0, [.ref (a 3), .int (x 9 2 2)])), (a 3, .inl (gI G, 60, .inl (x 9 0))),
   (a 4, .inr (1, [.int (x 9 1 0), .int (x 9 1 1), .ref (gA G (10 + (x 9 1 2).toNatClampNeg)), .int (x 9 1 3), .int (x 9 1 4), .int (x 9 1 5), .int (x 9 1 6), .int (x 9 1 7), .int (x 9 1 8), .int (x 9 1 9)]))]
def hdX (G : GT) (a b : Nat → Nat) (f : Nat → Option Nat) (x : HV) : va_W := hdOX G a b f x ++ (stW G (sA a 0) (x 0) ++ (stW G (sA a 1) (x 1) ++ (stW G (sA a 2) (x 2) ++ hdT G b x)))
theorem hdX_F (G : GT) (a b : Nat → Nat) (x : HV) : hdX G a b (hdF b) x = hdW G a b x := rfl
theorem hdX_D {G : GT} {a b : Nat → Nat} (hq : hdD G a b) (f : Nat → Option Nat) (x : HV) : va_D (hdA a b) (hdX G a b f x) := by
  have h := hdD_D hq x
  have key : ∀ (i : Nat) (p : Nat × va_E), (hdX G a b f x)[i]? = some p → ∃ p', (hdW G a b x)[i]? = some p' ∧ p'.1 = p.1 := by
    intro i p hp
    unfold hdX at hp
    unfold hdW
    by_cases z : i < 5
    · rw [List.getElem?_append_left z] at hp ⊢
      match i, z, hp with
      | 0, _, hp => exact ⟨_, rfl, by cases hp; rfl⟩
      | 1, _, hp => exact ⟨_, rfl, by cases hp; rfl⟩
      | 2, _, hp => exact ⟨_, rfl, by cases hp; rfl⟩
      | 3, _, hp => exact ⟨_, rfl, by cases hp; rfl⟩
      | 4, _, hp => exact ⟨_, rfl, by cases hp; rfl⟩
      | i + 5, z, _ => exact absurd z (by omega)
    · rw [List.getElem?_append_right (Nat.not_lt.mp z)] at hp ⊢
      exact ⟨p, hp, rfl⟩
  refine ⟨fun i j p q hp hq2 e => ?_, fun k q hk => ?_⟩
  · obtain ⟨p', h1, e1⟩ := key i p hp
    obtain ⟨q', h2, e2⟩ := key j q hq2
    exact h.1 i j p' q' h1 h2 (by rw [e1, e2]; exact e)
  · obtain ⟨q', h1, e1⟩ := key k q hk
    rw [← e1]; exact h.2 k q' h1
theorem hdX_slot (G : GT) (a b : Nat → Nat) (f : Nat → Option Nat) (x : HV) (j : Nat) (hj : j < 6) : ∃ vs, (hdX G a b f x)[38 + 11 * j]? = some (b (11 * j), .inr (2, vs)) := by
  have l0 : (hdOX G a b f x).length = 5 := rfl
  have l1 : (stW G (sA a 0) (x 0)).length = 11 := rfl
  have l2 : (stW G (sA a 1) (x 1)).length = 11 := rfl
  have l3 : (stW G (sA a 2) (x 2)).length = 11 := rfl
  unfold hdX
  rw [List.getElem?_append_right (by rw [l0]; omega), l0, List.getElem?_append_right (by rw [l1]; omega), l1, List.getElem?_append_right (by rw [l2]; omega), l2, List.getElem?_append_right (by rw [l3]; omega), l3, show 38 + 11 * j - 5 - 11 - 11 - 11 = 11 * j by omega]
  match j, hj with
  | 0, _ => exact ⟨_, rfl⟩
  | 1, _ => exact ⟨_, rfl⟩
  | 2, _ => exact ⟨_, rfl⟩
  | 3, _ => exact ⟨_, rfl⟩
  | 4, _ => exact ⟨_, rfl⟩
  | 5, _ => exact ⟨_, rfl⟩
  | j + 6, h => exact absurd h (by omega)
/-- the addresses behind a change of the saved ones' places -/
def hdR (G : GT) (a b b' : Nat → Nat) : Prop := hdD G a b' ∧ ∀ z, hdA a b' z → hdA a b z
theorem hdR.rf {G : GT} {a b : Nat → Nat} (h : hdD G a b) : hdR G a b b := ⟨h, fun _ z => z⟩
theorem hdR.tr {G : GT} {a b c d : Nat → Nat} (h1 : hdR G a b c) (h2 : hdR G a c d) : hdR G a b d := ⟨h2.1, fun z hz => h1.2 z (h2.2 z hz)⟩
def rotB (b : Nat → Nat) : Nat → Nat := fun i => b ((i + 11) % 66)
theorem rotB_D {G : GT} {a b : Nat → Nat} (h : hdD G a b) : hdR G a b (rotB b) := by
  refine ⟨⟨h.1, ⟨fun i hi => h.2.1.1 _ (Nat.mod_lt _ (by omega)), fun i j hi hj e => ?_⟩, fun i j hi hj => h.2.2 i _ hi (Nat.mod_lt _ (by omega))⟩, fun z hz => hz.elim Or.inl (fun ⟨i, hi, e⟩ => Or.inr ⟨(i + 11) % 66, Nat.mod_lt _ (by omega), e⟩)⟩
  have := h.2.1.2 _ _ (Nat.mod_lt (i + 11) (by omega)) (Nat.mod_lt (j + 11) (by omega)) e
  omega
theorem stW_congr {G : GT} {q q' : Nat → Nat} (v : SV) (h : ∀ i, i < 11 → q i = q' i) : stW G q v = stW G q' v := by
  unfold stW
  rw [h 0 (by omega), h 1 (by omega), h 2 (by omega), h 3 (by omega), h 4 (by omega), h 5 (by omega), h 6 (by omega), h 7 (by omega), h 8 (by omega), h 9 (by omega), h 10 (by omega)]
theorem rot_lo (b : Nat → Nat) (k : Nat) (hk : k < 5) : ∀ i, i < 11 → sB b (k + 1) i = sB (rotB b) k i := fun i hi => congrArg b (by rw [Nat.mod_eq_of_lt (by omega)]; omega)
theorem rot_hi (b : Nat → Nat) : ∀ i, i < 11 → sB b 0 i = sB (rotB b) 5 i := fun i hi => congrArg b (by omega)
section SVR
variable {p : Program} {l : Launch} {e : Env} {R : Room} {s : State} {m : MethodId} {args : Array Value} {below : List Frame} {meth : Method} {c : Code} {H : Heap} {locs : List Loc} {cells slots : Nat} {Q : State → Prop}
variable {y0 : MethodName} {cc : ByteArray} {nL : Nat} {ret0 : Option FieldType} {rest : List Value} {pc : Nat} {ls : Array Slot} {G : GT} {H0 : Heap} {a b : Nat → Nat} {x x' : HV} {q : Nat} {f : Nat → Option Nat} {A : Nat → Prop}
theorem sv_len (hC : CX p s m meth c y0 cc nL ret0 args) (hKN : KN G s H) (hP : PW G (hdX G a b f x) H) (hdg : decode cc pc = .ok (.arraylength, 1))
    (kk : W p l e R s m args below meth c H locs cells slots Q (F0 m (pc + 1) ls (.int 6 :: rest))) : W p l e R s m args below meth c H locs cells slots Q (F0 m pc ls (.ref (a 1) :: rest)) :=
  va_alen hC.1 hC.2.1 hKN.k hP 1 1 rfl rfl rfl hdg kk
theorem sv_ld (hC : CX p s m meth c y0 cc nL ret0 args) (hKN : KN G s H) (hP : PW G (hdX G a b f x) H) (k : Nat) (hk : k < 6) {i : Int32} (hi : i = nI k) (hf : f k = some q) (hdg : decode cc pc = .ok (.aaload, 1))
    (kk : W p l e R s m args below meth c H locs cells slots Q (F0 m (pc + 1) ls (.ref q :: rest))) : W p l e R s m args below meth c H locs cells slots Q (F0 m pc ls (.int i :: .ref (a 1) :: rest)) := by
  subst hi
  refine va_aldq hC.1 hC.2.1 hKN.k hP 1 1 rfl rfl (vp_in_nI hk (by omega)) hdg ?_
  rw [nI_clamp (by omega), hf]
  exact kk
theorem sv_st (hC : CX p s m meth c y0 cc nL ret0 args) (hKN : KN G s H) (hP : PW G (hdX G a b f x) H) (hq : hdD G a b) (hAb : ∀ z, hdA a b z → A z) (hS : va_S A H0 H locs) (k : Nat) (hk : k < 6) {i : Int32} (hi : i = nI k) (j : Nat) (hj : j < 6) (hdg : decode cc pc = .ok (.aastore, 1))
    (kk : ∀ (H1 : Heap) (locs1 : List Loc), PW G (hdX G a b (va_up f k (some (b (11 * j)))) x) H1 → va_S A H0 H1 locs1 → W p l e R s m args below meth c H1 locs1 cells slots Q (F0 m (pc + 1) ls rest)) : W p l e R s m args below meth c H locs cells slots Q (F0 m pc ls (.ref (b (11 * j)) :: .int i :: .ref (a 1) :: rest)) := by
  subst hi
  obtain ⟨vs, hv⟩ := hdX_slot G a b f x j hj
  refine va_astq hC.1 hC.2.1 hKN.k hP (va_D_mono (hdX_D hq f x) hAb) hS 1 1 (38 + 11 * j) 2 (r := ("HeadDots$State", TX2, 8)) rfl rfl hv rfl (vp_in_nI hk (by omega)) hdg (fun H1 locs1 h1 _ h3 => kk H1 locs1 ?_ h3)
  rw [nI_clamp (by omega)] at h1
  exact h1
theorem pfOX (hC : CX p s m meth c y0 cc nL ret0 args) {C : String} {T : u_T} {N ci index : Nat} {ty : Nat → FieldType} (hw : FW C T N ty) (hKN : KN G s H) (hP : PW G (hdX G a b f x) H) (hq : hdD G a b) (hAb : ∀ z, hdA a b z → A z) (hS : va_S A H0 H locs) (k0 : Nat) (hk0 : k0 < 5) {fs : List Value} (he : (hdOX G a b f x)[k0]? = some (q, .inr (ci, fs))) (hc : vwCl[ci]? = some (C, T, N)) (k : Nat) (hk : k < N) {fo fn fd : String} (hT : T k = (fo, fn, fd, false)) (hlink : Cond.fieldLink y0.cls index fo fn fd ∈ bigW) {v : Value} {tv : FieldType} (ht : ty k = tv) (hn : narrow tv v = v) (hfit : fits tv v = true) (hl : k < fs.length) (hv' : List.set (hdOX G a b f x) k0 (q, .inr (ci, fs.set k v)) = hdOX G a b f x') (hx : hdE x x') (hdg : decode cc pc = .ok (.putfield index, 3))
    (kk : ∀ (H1 : Heap) (locs1 : List Loc), PW G (hdX G a b f x') H1 → va_S A H0 H1 locs1 → W p l e R s m args below meth c H1 locs1 cells slots Q (F0 m (pc + 3) ls rest)) : W p l e R s m args below meth c H locs cells slots Q (F0 m pc ls (v :: .ref q :: rest)) := by
  have he' : (hdX G a b f x)[k0]? = some (q, .inr (ci, fs)) := by
    unfold hdX
    rw [List.getElem?_append_left hk0]
    exact he
  refine pf hC hw hKN hP (va_D_mono (hdX_D hq f x) hAb) hS k0 he' hc k hk hT hlink ht hn hfit hl hdg (fun H1 locs1 h1 h3 => kk H1 locs1 ?_ h3)
  obtain ⟨e0, e1, e2, e3, e4, e5, e6, e7, e8⟩ := hx
  have q : List.set (hdX G a b f x) k0 (q, .inr (ci, fs.set k v)) = hdX G a b f x' := by
    unfold hdX hdT
    have l0 : (hdOX G a b f x).length = 5 := rfl
    rw [List.set_append, l0, if_pos hk0, hv', e0, e1, e2, e3, e4, e5, e6, e7, e8]
  rw [q] at h1
  exact h1
theorem eP_a {F : Value} {v : Nat} {C : String} (hC : CX p s m meth c y0 cc nL (some (.object C)) args) (hF : F = .ref v) (hdg : decode cc pc = .ok (.areturn, 1)) : W p l e R s m args below meth c s.heap [] 0 0 (MQ below (QP F) args s 0 0 (fun _ => False)) (F0 m pc ls [.ref v]) := by
  subst hF; exact W.aret hC.1 hC.2.1 hC.2.2.1 (Or.inl ⟨_, rfl⟩) (Or.inr ⟨_, rfl⟩) (fun t ht _ => ⟨rfl, ht⟩) (fun _ h => nomatch h) hdg hC.2.2.2.2.2.1
end SVR
/-- the saved ones with another at k -/
def sl (x : HV) (k : Nat) (v : SV) (j : Nat) : SV := if j = k then v else x (3 + j)
def hU (x : HV) (k : Nat) (v : SV) : HV := mkH (x 0) (x 1) (x 2) (sl x k v 0) (sl x k v 1) (sl x k v 2) (sl x k v 3) (sl x k v 4) (sl x k v 5) (x 9 0) (x 9 1) (x 9 2 0) (x 9 2 1) (x 9 2 2)
theorem hU_at (x : HV) (k : Nat) (v : SV) (j : Nat) (hj : j < 6) : hU x k v (3 + j) = sl x k v j := by
  match j, hj with
  | 0, _ => rfl
  | 1, _ => rfl
  | 2, _ => rfl
  | 3, _ => rfl
  | 4, _ => rfl
  | 5, _ => rfl
  | j + 6, h => exact absurd h (by omega)
theorem hd_sb {G : GT} {a b : Nat → Nat} {x : HV} {H0 : Heap} (h : PW G (hdW G a b x) H0) {k : Nat} (hk : k < 6) : PW G (stW G (sB b k) (x (3 + k))) H0 := (hd_iff.mp h).2.2 k hk
theorem hd_setU {G : GT} {a b : Nat → Nat} {x : HV} {H0 H1 : Heap} {v' : SV} (hq : hdD G a b) (hP : PW G (hdW G a b x) H0) {k : Nat} (hk6 : k < 6) (h1 : PW G (stW G (sB b k) v') H1) (hk : ∀ q : Nat, q < H0.size → ¬ stA (sB b k) q → H1[q]? = H0[q]?) : PW G (hdW G a b (hU x k v')) H1 := by
  refine hd_setB hq hP k hk6 h1 hk rfl (by rw [hU_at x k v' k hk6]; exact if_pos rfl) (fun i hi n => ?_)
  rcases Nat.lt_or_ge i 3 with z | z
  · match i, z with
    | 0, _ => rfl
    | 1, _ => rfl
    | 2, _ => rfl
    | i + 3, h => exact absurd h (by omega)
  · obtain ⟨j, rfl⟩ : ∃ j, i = 3 + j := ⟨i - 3, by omega⟩
    rw [hU_at x k v' j (by omega)]
    exact if_neg (by omega)
theorem arrV_ext {c : ClassId} {N : Nat} {f g : Nat → Value} (h : ∀ j, j < N → f j = g j) : arrV c N f = arrV c N g := by
  unfold arrV
  rw [show (fun j : Fin N => f j.val) = fun j => g j.val from funext fun j => h j.val j.isLt]
def rotH (x : HV) : HV := mkH (x 0) (x 1) (x 2) (x 4) (x 5) (x 6) (x 7) (x 8) (x 3) (x 9 0) (x 9 1) (x 9 2 0) (x 9 2 1) (x 9 2 2)
theorem drop_end {G : GT} {a b : Nat → Nat} {f : Nat → Option Nat} {x : HV} {H : Heap} (hq : hdD G a b) (hP : PW G (hdX G a b f x) H) (h0 : f 0 = some (b 11)) (h1 : f 1 = some (b 22)) (h2 : f 2 = some (b 33)) (h3 : f 3 = some (b 44)) (h4 : f 4 = some (b 55)) (h5 : f 5 = some (b 0)) : ∃ b', hdR G a b b' ∧ PW G (hdW G a b' (rotH x)) H := by
  refine ⟨rotB b, rotB_D hq, ?_⟩
  have hX := PW_app.mp hP
  have hW : PW G (hdW G a b x) H ∨ True := Or.inr trivial
  have s0 := PW_app.mp hX.2
  have s1 := PW_app.mp s0.2
  have s2 := PW_app.mp s1.2
  have t0 := PW_app.mp s2.2
  have t1 := PW_app.mp t0.2
  have t2 := PW_app.mp t1.2
  have t3 := PW_app.mp t2.2
  have t4 := PW_app.mp t3.2
  refine hd_iff.mpr ⟨fun k p hk => ?_, fun j hj => ?_, fun k hk => ?_⟩
  · match k, hk with
    | 0, hk => exact hX.1 0 p hk
    | 1, hk =>
      cases hk
      have e : H[a 1]? = some (arrV (gR G) 6 (fun j => va_rf (f j))) := hX.1 1 _ rfl
      show H[a 1]? = some (arrV (gR G) 6 (fun j => va_rf (some (rotB b (11 * j)))))
      rw [e]
      refine congrArg some (arrV_ext fun j hj => congrArg va_rf ?_)
      match j, hj with
      | 0, _ => exact h0
      | 1, _ => exact h1
      | 2, _ => exact h2
      | 3, _ => exact h3
      | 4, _ => exact h4
      | 5, _ => exact h5
      | j + 6, h => exact absurd h (by omega)
    | 2, hk => exact hX.1 2 p hk
    | 3, hk => exact hX.1 3 p hk
    | 4, hk => exact hX.1 4 p hk
    | k + 5, hk => exact absurd (hdO_at hk).1 (by omega)
  · match j, hj with
    | 0, _ => exact s0.1
    | 1, _ => exact s1.1
    | 2, _ => exact s2.1
    | j + 3, h => exact absurd h (by omega)
  · match k, hk with
    | 0, _ => rw [← stW_congr _ (rot_lo b 0 (by omega))]; exact t1.1
    | 1, _ => rw [← stW_congr _ (rot_lo b 1 (by omega))]; exact t2.1
    | 2, _ => rw [← stW_congr _ (rot_lo b 2 (by omega))]; exact t3.1
    | 3, _ => rw [← stW_congr _ (rot_lo b 3 (by omega))]; exact t4.1
    | 4, _ => rw [← stW_congr _ (rot_lo b 4 (by omega))]; exact t4.2
    | 5, _ => rw [← stW_congr _ (rot_hi b)]; exact t0.1
    | k + 6, h => exact absurd h (by omega)
