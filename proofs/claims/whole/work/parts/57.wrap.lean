/-! the law's wrappers -/
def wldL (F : (HV × Int32) ⊕ (Nat × HV)) : HV := match F with
  | .inl r => r.1
  | .inr r => r.2
def ansL (F : (HV × Int32) ⊕ (Nat × HV)) (y : Int64) : Int64 := match F with
  | .inl r => r.2.toInt64
  | .inr _ => y
def codeL (t : Nat → Int32) (F : (HV × Int32) ⊕ (Nat × HV)) : Int32 := match F with
  | .inl _ => 0
  | .inr r => t r.1
def wlE (G : GT) (w : Nat) (y : Int64) : Nat × va_E := (w, .inl (gJ G, 1, .inr (.inl (fun _ => y))))
def wlA (a b : Nat → Nat) (w : Nat) : Nat → Prop := fun z => z = w ∨ hdA a b z
theorem PW_cons {G : GT} {x : Nat × va_E} {ws : va_W} {H : Heap} : PW G (x :: ws) H ↔ PW G [x] H ∧ PW G ws H := PW_app (ws := [x])
theorem wl_join {G : GT} {a b0 b' : Nat → Nat} {w : Nat} {y : Int64} {x x' : HV} {H H1 : Heap} (hP : PW G (wlE G w y :: hdW G a b0 x) H) (hne : ∀ z, hdA a b0 z → z ≠ w) (hk : ∀ q : Nat, q < H.size → ¬ hdA a b0 q → H1[q]? = H[q]?) (hP1 : PW G (hdW G a b' x') H1) : PW G (wlE G w y :: hdW G a b' x') H1 :=
  PW_cons.mpr ⟨va_P.kept (PW_cons.mp hP).1 (fun k q h => by
    cases k with
    | zero =>
      cases h
      exact hk _ ((hP 0 _ rfl).lt) (fun z => hne _ z rfl)
    | succ k => cases h), hP1⟩
theorem wl_D {G : GT} {a b0 b' : Nat → Nat} {w : Nat} {y : Int64} {x : HV} (hR : hdR G a b0 b') (hne : ∀ z, hdA a b0 z → z ≠ w) : va_D (wlA a b0 w) (wlE G w y :: hdW G a b' x) := by
  have h := hdD_D hR.1 x
  refine va_D_app (ws := [wlE G w y]) ⟨fun i j p q hi hj _ => ?_, fun k q hk => ?_⟩ (va_D_mono h (fun z hz => Or.inr (hR.2 z hz))) (fun i j p q hi hj e => ?_)
  · have := (List.getElem?_eq_some_iff.mp hi).1
    have := (List.getElem?_eq_some_iff.mp hj).1
    simp at *
    omega
  · cases k with
    | zero => cases hk; exact Or.inl rfl
    | succ k => cases hk
  · cases i with
    | zero => cases hi; exact hne _ (hR.2 _ (h.2 j q hj)) e.symm
    | succ i => cases hi
theorem wl_set {G : GT} {w : Nat} {y v : Int64} {ws : va_W} {H : Heap} (hP : PW G ((wlE G w y :: ws).set 0 (w, .inl (gJ G, 1, .inr (.inl (vp_updL (fun _ => y) (0 : Int32).toNatClampNeg v))))) H) : PW G (wlE G w v :: ws) H := by
  have h := (PW_cons (x := (w, .inl (gJ G, 1, .inr (.inl (vp_updL (fun _ => y) (0 : Int32).toNatClampNeg v))))) (ws := ws)).mp hP
  refine PW_cons.mpr ⟨fun k q hk => ?_, h.2⟩
  cases k with
  | zero =>
    cases hk
    have e : H[w]? = some (arrV (gJ G) 1 (fun j => .long (vp_updL (fun _ => y) (0 : Int32).toNatClampNeg v j))) := h.1 0 _ rfl
    show H[w]? = some (arrV (gJ G) 1 (fun _ => .long v))
    rw [e]
    refine congrArg some (arrV_ext fun j hj => ?_)
    have hj0 : j = 0 := by omega
    subst hj0
    rfl
  | succ k => cases hk
theorem wl_low {G : GT} {a b : Nat → Nat} {w : Nat} (hq : hdD G a b) (hw : gL G ≤ w) : ∀ z, wlA a b w z → gL G ≤ z := fun z h => h.elim (fun e => by rw [e]; exact hw) (hdD_low hq z)
set_option maxRecDepth 100000 in
theorem K_line {x x' : HV} {x1 : Int32} {k : Nat} (h : fX5_line x x1 = .inr (k, x')) : k = 0 := by
  unfold fX5_line at h
  try dsimp only at h
  (repeat' split at h)
  all_goals (first | (cases h; done) | (cases h; first | rfl | exact Or.inl rfl | exact Or.inr rfl))
theorem dL_line_0 : decode cL_line 0 = .ok (.aload_n 2, 1) := by decide +kernel
theorem dL_line_1 : decode cL_line 1 = .ok (.iconst 0, 1) := by decide +kernel
theorem dL_line_2 : decode cL_line 2 = .ok (.aload_n 0, 1) := by decide +kernel
theorem dL_line_3 : decode cL_line 3 = .ok (.iload_n 1, 1) := by decide +kernel
theorem dL_line_4 : decode cL_line 4 = .ok (.invokevirtual 7, 3) := by decide +kernel
theorem dL_line_7 : decode cL_line 7 = .ok (.i2l, 1) := by decide +kernel
theorem dL_line_8 : decode cL_line 8 = .ok (.lastore, 1) := by decide +kernel
theorem dL_line_9 : decode cL_line 9 = .ok (.goto 6, 3) := by decide +kernel
theorem dL_line_12 : decode cL_line 12 = .ok (.astore_n 3, 1) := by decide +kernel
theorem dL_line_13 : decode cL_line 13 = .ok (.iconst 1, 1) := by decide +kernel
theorem dL_line_14 : decode cL_line 14 = .ok (.ireturn, 1) := by decide +kernel
theorem dL_line_15 : decode cL_line 15 = .ok (.iconst 0, 1) := by decide +kernel
theorem dL_line_16 : decode cL_line 16 = .ok (.ireturn, 1) := by decide +kernel
set_option maxHeartbeats 1000000 in
set_option maxRecDepth 100000 in
theorem c_L_line (l : Launch) (hL : l.stackTraces = false) (G : GT) (a b0 : Nat → Nat) (x : HV) (w : Nat) (y : Int64) (x1 : Int32) (hq : hdD G a b0) (hI : le_n (x 9 2 0) 6) (hw : gL G ≤ w) (hne : ∀ z, hdA a b0 z → z ≠ w) : vx_Met l yL_line (Cond.codeWith yL_line cL_line 4 (some .int) [(0, 9, 12, 13)] :: bigW) ({ frames := 7, cells := 1, slots := 6, locals := 135 }) (BP G [.ref (a 0), .int x1, .ref w] (fun _ H => PW G (wlE G w y :: hdW G a b0 x) H)) (QE (some (.int (codeL (fun k => 1) (fX5_line x x1)))) (fun H => ∃ b', hdR G a b0 b' ∧ PW G (wlE G w (ansL (fX5_line x x1) y) :: hdW G a b' (wldL (fX5_line x x1))) H) (wlA a b0 w)) (fun _ _ _ => False) 1 6 (wlA a b0 w) := by
  refine met_ofXH (by decide) (Nat.le_of_ble_eq_true rfl) ?_
  intro p e s m below meth c ls hC hX hKN hP hl
  have hP : PW G (wlE G w y :: hdW G a b0 x) s.heap := hP
  have hl : lv_has ls 4 [(0, .ref (a 0)), (1, .int x1), (2, .ref w)] := hl
  have hS : va_S (wlA a b0 w) s.heap s.heap [] := va_S.rf
  have hAL := wl_low hq hw
  have hPw : PW G (hdW G a b0 x) s.heap := (PW_cons.mp hP).2
  refine lv_aload_n hC.1 hC.2.1 dL_line_0 rfl (lv_at hl 2 rfl) ?_
  refine lv_iconst (v := 0) hC.1 hC.2.1 dL_line_1 (by decide) ?_
  refine lv_aload_n hC.1 hC.2.1 dL_line_2 rfl (lv_at hl 0 rfl) ?_
  refine lv_iload_n hC.1 hC.2.1 dL_line_3 rfl (lv_at hl 1 rfl) ?_
  refine runT (rVT (B := fun U H => PW G (hdW G a b0 x) H) (As := [.int x1]) (rest := [.int 0, .ref w]) hC mwX5_line (c_X5_line l hL G a b0 x x1 hq hI) iwX5_line wd_601 ⟨rfl, rfl⟩ ⟨Nat.le_of_ble_eq_true rfl, Nat.le_of_ble_eq_true rfl⟩ (stb_h (fun H => PW G (hdW G a b0 x) H)) hKN hPw (va_recv hKN.k hPw (ci := 5) (q0 := 0) rfl rfl) rfl hl.1 rfl (Nat.le_of_ble_eq_true rfl) dL_line_4 ⟨Nat.le_of_ble_eq_true rfl, Nat.le_of_ble_eq_true rfl⟩) hS (fun _ h => Or.inr h) (fun _ h => Or.inr h) (fun x' v hF H1 locs1 hB hz hk hS => ?_) (fun k x' hF hk3 ce q9 H1 locs1 hB hz hk hS hc1 hc2 hc3 => ?_)
  · obtain ⟨b', hR, hP1⟩ := hB
    have hPj := wl_join hP hne hk hP1
    refine lv_i2l (v := v.toInt64) hC.1 hC.2.1 dL_line_7 rfl ?_
    refine va_last hC.1 hC.2.1 (KN.k (hKN.go hAL hS)) hPj (wl_D hR hne) hS 0 1 rfl rfl (show vp_in (nI 0) 1 from vp_in_nI (by decide) (by decide)) dL_line_8 (fun H2 locs2 hP2 _ hS => ?_)
    refine lv_goto (tgt := 15) hC.1 hC.2.1 dL_line_9 (by decide) ?_
    refine lv_iconst (v := 0) hC.1 hC.2.1 dL_line_15 (by decide) ?_
    exact vx_ret (eE_i hC (by rw [hF]; rfl) ⟨b', hR, by rw [hF]; exact wl_set hP2⟩ hS dL_line_16)
  · obtain ⟨b', hR, hP1⟩ := hB
    have hPj := wl_join hP hne hk hP1
    have hk0 : k = 0 := K_line hF
    subst hk0
    refine ctch hC (hKN.go hAL hS) hk3 [] ⟨0, 9, 12, 13⟩ [] (hX.trans rfl) (fun z h => nomatch h) rfl (by decide) wd_600 hc1 hc2 hc3 ?_
    refine lv_astore_n (lv' := [(3, .ref q9), (0, .ref (a 0)), (1, .int x1), (2, .ref w)]) hC.1 hC.2.1 dL_line_12 rfl hl (by decide) rfl (fun ls hl => ?_)
    refine lv_iconst (v := 1) hC.1 hC.2.1 dL_line_13 (by decide) ?_
    exact vx_ret (eE_i hC (by rw [hF]; rfl) ⟨b', hR, by rw [hF]; exact hPj⟩ hS dL_line_14)
set_option maxRecDepth 100000 in
theorem K_lines {x x' : HV} {x1 : Int32} {x2 : Int32} {k : Nat} (h : fX5_lines x x1 x2 = .inr (k, x')) : k = 0 := by
  unfold fX5_lines at h
  try dsimp only at h
  (repeat' split at h)
  all_goals (first | (cases h; done) | (cases h; first | rfl | exact Or.inl rfl | exact Or.inr rfl))
theorem dL_lines_0 : decode cL_lines 0 = .ok (.aload_n 3, 1) := by decide +kernel
theorem dL_lines_1 : decode cL_lines 1 = .ok (.iconst 0, 1) := by decide +kernel
theorem dL_lines_2 : decode cL_lines 2 = .ok (.aload_n 0, 1) := by decide +kernel
theorem dL_lines_3 : decode cL_lines 3 = .ok (.iload_n 1, 1) := by decide +kernel
theorem dL_lines_4 : decode cL_lines 4 = .ok (.iload_n 2, 1) := by decide +kernel
theorem dL_lines_5 : decode cL_lines 5 = .ok (.invokevirtual 15, 3) := by decide +kernel
theorem dL_lines_8 : decode cL_lines 8 = .ok (.i2l, 1) := by decide +kernel
theorem dL_lines_9 : decode cL_lines 9 = .ok (.lastore, 1) := by decide +kernel
theorem dL_lines_10 : decode cL_lines 10 = .ok (.goto 7, 3) := by decide +kernel
theorem dL_lines_13 : decode cL_lines 13 = .ok (.astore 4, 2) := by decide +kernel
theorem dL_lines_15 : decode cL_lines 15 = .ok (.iconst 1, 1) := by decide +kernel
theorem dL_lines_16 : decode cL_lines 16 = .ok (.ireturn, 1) := by decide +kernel
theorem dL_lines_17 : decode cL_lines 17 = .ok (.iconst 0, 1) := by decide +kernel
theorem dL_lines_18 : decode cL_lines 18 = .ok (.ireturn, 1) := by decide +kernel
set_option maxHeartbeats 1000000 in
set_option maxRecDepth 100000 in
theorem c_L_lines (l : Launch) (hL : l.stackTraces = false) (G : GT) (a b0 : Nat → Nat) (x : HV) (w : Nat) (y : Int64) (x1 : Int32) (x2 : Int32) (hq : hdD G a b0) (hI : le_n (x 9 2 0) 6) (hw : gL G ≤ w) (hne : ∀ z, hdA a b0 z → z ≠ w) : vx_Met l yL_lines (Cond.codeWith yL_lines cL_lines 5 (some .int) [(0, 10, 13, 13)] :: bigW) ({ frames := 7, cells := 1, slots := 6, locals := 145 }) (BP G [.ref (a 0), .int x1, .int x2, .ref w] (fun _ H => PW G (wlE G w y :: hdW G a b0 x) H)) (QE (some (.int (codeL (fun k => 1) (fX5_lines x x1 x2)))) (fun H => ∃ b', hdR G a b0 b' ∧ PW G (wlE G w (ansL (fX5_lines x x1 x2) y) :: hdW G a b' (wldL (fX5_lines x x1 x2))) H) (wlA a b0 w)) (fun _ _ _ => False) 1 6 (wlA a b0 w) := by
  refine met_ofXH (by decide) (Nat.le_of_ble_eq_true rfl) ?_
  intro p e s m below meth c ls hC hX hKN hP hl
  have hP : PW G (wlE G w y :: hdW G a b0 x) s.heap := hP
  have hl : lv_has ls 5 [(0, .ref (a 0)), (1, .int x1), (2, .int x2), (3, .ref w)] := hl
  have hS : va_S (wlA a b0 w) s.heap s.heap [] := va_S.rf
  have hAL := wl_low hq hw
  have hPw : PW G (hdW G a b0 x) s.heap := (PW_cons.mp hP).2
  refine lv_aload_n hC.1 hC.2.1 dL_lines_0 rfl (lv_at hl 3 rfl) ?_
  refine lv_iconst (v := 0) hC.1 hC.2.1 dL_lines_1 (by decide) ?_
  refine lv_aload_n hC.1 hC.2.1 dL_lines_2 rfl (lv_at hl 0 rfl) ?_
  refine lv_iload_n hC.1 hC.2.1 dL_lines_3 rfl (lv_at hl 1 rfl) ?_
  refine lv_iload_n hC.1 hC.2.1 dL_lines_4 rfl (lv_at hl 2 rfl) ?_
  refine runT (rVT (B := fun U H => PW G (hdW G a b0 x) H) (As := [.int x1, .int x2]) (rest := [.int 0, .ref w]) hC mwX5_lines (c_X5_lines l hL G a b0 x x1 x2 hq hI) iwX5_lines wd_691 ⟨rfl, rfl⟩ ⟨Nat.le_of_ble_eq_true rfl, Nat.le_of_ble_eq_true rfl⟩ (stb_h (fun H => PW G (hdW G a b0 x) H)) hKN hPw (va_recv hKN.k hPw (ci := 5) (q0 := 0) rfl rfl) rfl hl.1 rfl (Nat.le_of_ble_eq_true rfl) dL_lines_5 ⟨Nat.le_of_ble_eq_true rfl, Nat.le_of_ble_eq_true rfl⟩) hS (fun _ h => Or.inr h) (fun _ h => Or.inr h) (fun x' v hF H1 locs1 hB hz hk hS => ?_) (fun k x' hF hk3 ce q9 H1 locs1 hB hz hk hS hc1 hc2 hc3 => ?_)
  · obtain ⟨b', hR, hP1⟩ := hB
    have hPj := wl_join hP hne hk hP1
    refine lv_i2l (v := v.toInt64) hC.1 hC.2.1 dL_lines_8 rfl ?_
    refine va_last hC.1 hC.2.1 (KN.k (hKN.go hAL hS)) hPj (wl_D hR hne) hS 0 1 rfl rfl (show vp_in (nI 0) 1 from vp_in_nI (by decide) (by decide)) dL_lines_9 (fun H2 locs2 hP2 _ hS => ?_)
    refine lv_goto (tgt := 17) hC.1 hC.2.1 dL_lines_10 (by decide) ?_
    refine lv_iconst (v := 0) hC.1 hC.2.1 dL_lines_17 (by decide) ?_
    exact vx_ret (eE_i hC (by rw [hF]; rfl) ⟨b', hR, by rw [hF]; exact wl_set hP2⟩ hS dL_lines_18)
  · obtain ⟨b', hR, hP1⟩ := hB
    have hPj := wl_join hP hne hk hP1
    have hk0 : k = 0 := K_lines hF
    subst hk0
    refine ctch hC (hKN.go hAL hS) hk3 [] ⟨0, 10, 13, 13⟩ [] (hX.trans rfl) (fun z h => nomatch h) rfl (by decide) wd_600 hc1 hc2 hc3 ?_
    refine lv_astore (lv' := [(4, .ref q9), (0, .ref (a 0)), (1, .int x1), (2, .int x2), (3, .ref w)]) hC.1 hC.2.1 dL_lines_13 hl (by decide) rfl (fun ls hl => ?_)
    refine lv_iconst (v := 1) hC.1 hC.2.1 dL_lines_15 (by decide) ?_
    exact vx_ret (eE_i hC (by rw [hF]; rfl) ⟨b', hR, by rw [hF]; exact hPj⟩ hS dL_lines_16)
set_option maxRecDepth 100000 in
theorem K_rest {x x' : HV} {x1 : Int32} {k : Nat} (h : fX5_rest x x1 = .inr (k, x')) : k = 0 := by
  unfold fX5_rest at h
  try dsimp only at h
  (repeat' split at h)
  all_goals (first | (cases h; done) | (cases h; first | rfl | exact Or.inl rfl | exact Or.inr rfl))
theorem dL_rest_0 : decode cL_rest 0 = .ok (.aload_n 2, 1) := by decide +kernel
theorem dL_rest_1 : decode cL_rest 1 = .ok (.iconst 0, 1) := by decide +kernel
theorem dL_rest_2 : decode cL_rest 2 = .ok (.aload_n 0, 1) := by decide +kernel
theorem dL_rest_3 : decode cL_rest 3 = .ok (.iload_n 1, 1) := by decide +kernel
theorem dL_rest_4 : decode cL_rest 4 = .ok (.invokevirtual 19, 3) := by decide +kernel
theorem dL_rest_7 : decode cL_rest 7 = .ok (.i2l, 1) := by decide +kernel
theorem dL_rest_8 : decode cL_rest 8 = .ok (.lastore, 1) := by decide +kernel
theorem dL_rest_9 : decode cL_rest 9 = .ok (.goto 6, 3) := by decide +kernel
theorem dL_rest_12 : decode cL_rest 12 = .ok (.astore_n 3, 1) := by decide +kernel
theorem dL_rest_13 : decode cL_rest 13 = .ok (.iconst 1, 1) := by decide +kernel
theorem dL_rest_14 : decode cL_rest 14 = .ok (.ireturn, 1) := by decide +kernel
theorem dL_rest_15 : decode cL_rest 15 = .ok (.iconst 0, 1) := by decide +kernel
theorem dL_rest_16 : decode cL_rest 16 = .ok (.ireturn, 1) := by decide +kernel
set_option maxHeartbeats 1000000 in
set_option maxRecDepth 100000 in
theorem c_L_rest (l : Launch) (hL : l.stackTraces = false) (G : GT) (a b0 : Nat → Nat) (x : HV) (w : Nat) (y : Int64) (x1 : Int32) (hq : hdD G a b0) (hI : le_n (x 9 2 0) 6) (hw : gL G ≤ w) (hne : ∀ z, hdA a b0 z → z ≠ w) : vx_Met l yL_rest (Cond.codeWith yL_rest cL_rest 4 (some .int) [(0, 9, 12, 13)] :: bigW) ({ frames := 7, cells := 1, slots := 6, locals := 135 }) (BP G [.ref (a 0), .int x1, .ref w] (fun _ H => PW G (wlE G w y :: hdW G a b0 x) H)) (QE (some (.int (codeL (fun k => 1) (fX5_rest x x1)))) (fun H => ∃ b', hdR G a b0 b' ∧ PW G (wlE G w (ansL (fX5_rest x x1) y) :: hdW G a b' (wldL (fX5_rest x x1))) H) (wlA a b0 w)) (fun _ _ _ => False) 1 6 (wlA a b0 w) := by
  refine met_ofXH (by decide) (Nat.le_of_ble_eq_true rfl) ?_
  intro p e s m below meth c ls hC hX hKN hP hl
  have hP : PW G (wlE G w y :: hdW G a b0 x) s.heap := hP
  have hl : lv_has ls 4 [(0, .ref (a 0)), (1, .int x1), (2, .ref w)] := hl
  have hS : va_S (wlA a b0 w) s.heap s.heap [] := va_S.rf
  have hAL := wl_low hq hw
  have hPw : PW G (hdW G a b0 x) s.heap := (PW_cons.mp hP).2
  refine lv_aload_n hC.1 hC.2.1 dL_rest_0 rfl (lv_at hl 2 rfl) ?_
  refine lv_iconst (v := 0) hC.1 hC.2.1 dL_rest_1 (by decide) ?_
  refine lv_aload_n hC.1 hC.2.1 dL_rest_2 rfl (lv_at hl 0 rfl) ?_
  refine lv_iload_n hC.1 hC.2.1 dL_rest_3 rfl (lv_at hl 1 rfl) ?_
  refine runT (rVT (B := fun U H => PW G (hdW G a b0 x) H) (As := [.int x1]) (rest := [.int 0, .ref w]) hC mwX5_rest (c_X5_rest l hL G a b0 x x1 hq hI) iwX5_rest wd_704 ⟨rfl, rfl⟩ ⟨Nat.le_of_ble_eq_true rfl, Nat.le_of_ble_eq_true rfl⟩ (stb_h (fun H => PW G (hdW G a b0 x) H)) hKN hPw (va_recv hKN.k hPw (ci := 5) (q0 := 0) rfl rfl) rfl hl.1 rfl (Nat.le_of_ble_eq_true rfl) dL_rest_4 ⟨Nat.le_of_ble_eq_true rfl, Nat.le_of_ble_eq_true rfl⟩) hS (fun _ h => Or.inr h) (fun _ h => Or.inr h) (fun x' v hF H1 locs1 hB hz hk hS => ?_) (fun k x' hF hk3 ce q9 H1 locs1 hB hz hk hS hc1 hc2 hc3 => ?_)
  · obtain ⟨b', hR, hP1⟩ := hB
    have hPj := wl_join hP hne hk hP1
    refine lv_i2l (v := v.toInt64) hC.1 hC.2.1 dL_rest_7 rfl ?_
    refine va_last hC.1 hC.2.1 (KN.k (hKN.go hAL hS)) hPj (wl_D hR hne) hS 0 1 rfl rfl (show vp_in (nI 0) 1 from vp_in_nI (by decide) (by decide)) dL_rest_8 (fun H2 locs2 hP2 _ hS => ?_)
    refine lv_goto (tgt := 15) hC.1 hC.2.1 dL_rest_9 (by decide) ?_
    refine lv_iconst (v := 0) hC.1 hC.2.1 dL_rest_15 (by decide) ?_
    exact vx_ret (eE_i hC (by rw [hF]; rfl) ⟨b', hR, by rw [hF]; exact wl_set hP2⟩ hS dL_rest_16)
  · obtain ⟨b', hR, hP1⟩ := hB
    have hPj := wl_join hP hne hk hP1
    have hk0 : k = 0 := K_rest hF
    subst hk0
    refine ctch hC (hKN.go hAL hS) hk3 [] ⟨0, 9, 12, 13⟩ [] (hX.trans rfl) (fun z h => nomatch h) rfl (by decide) wd_600 hc1 hc2 hc3 ?_
    refine lv_astore_n (lv' := [(3, .ref q9), (0, .ref (a 0)), (1, .int x1), (2, .ref w)]) hC.1 hC.2.1 dL_rest_12 rfl hl (by decide) rfl (fun ls hl => ?_)
    refine lv_iconst (v := 1) hC.1 hC.2.1 dL_rest_13 (by decide) ?_
    exact vx_ret (eE_i hC (by rw [hF]; rfl) ⟨b', hR, by rw [hF]; exact hPj⟩ hS dL_rest_14)
set_option maxRecDepth 100000 in
theorem K_paper {x x' : HV} {x1 : Int32} {k : Nat} (h : fX5_paper x x1 = .inr (k, x')) : k = 0 := by
  unfold fX5_paper at h
  try dsimp only at h
  (repeat' split at h)
  all_goals (first | (cases h; done) | (cases h; first | rfl | exact Or.inl rfl | exact Or.inr rfl))
theorem dL_paper_0 : decode cL_paper 0 = .ok (.aload_n 2, 1) := by decide +kernel
theorem dL_paper_1 : decode cL_paper 1 = .ok (.iconst 0, 1) := by decide +kernel
theorem dL_paper_2 : decode cL_paper 2 = .ok (.aload_n 0, 1) := by decide +kernel
theorem dL_paper_3 : decode cL_paper 3 = .ok (.iload_n 1, 1) := by decide +kernel
theorem dL_paper_4 : decode cL_paper 4 = .ok (.invokevirtual 22, 3) := by decide +kernel
theorem dL_paper_7 : decode cL_paper 7 = .ok (.i2l, 1) := by decide +kernel
theorem dL_paper_8 : decode cL_paper 8 = .ok (.lastore, 1) := by decide +kernel
theorem dL_paper_9 : decode cL_paper 9 = .ok (.goto 6, 3) := by decide +kernel
theorem dL_paper_12 : decode cL_paper 12 = .ok (.astore_n 3, 1) := by decide +kernel
theorem dL_paper_13 : decode cL_paper 13 = .ok (.iconst 1, 1) := by decide +kernel
theorem dL_paper_14 : decode cL_paper 14 = .ok (.ireturn, 1) := by decide +kernel
theorem dL_paper_15 : decode cL_paper 15 = .ok (.iconst 0, 1) := by decide +kernel
theorem dL_paper_16 : decode cL_paper 16 = .ok (.ireturn, 1) := by decide +kernel
set_option maxHeartbeats 1000000 in
set_option maxRecDepth 100000 in
theorem c_L_paper (l : Launch) (hL : l.stackTraces = false) (G : GT) (a b0 : Nat → Nat) (x : HV) (w : Nat) (y : Int64) (x1 : Int32) (hq : hdD G a b0) (hI : le_n (x 9 2 0) 6) (hw : gL G ≤ w) (hne : ∀ z, hdA a b0 z → z ≠ w) : vx_Met l yL_paper (Cond.codeWith yL_paper cL_paper 4 (some .int) [(0, 9, 12, 13)] :: bigW) ({ frames := 7, cells := 1, slots := 6, locals := 136 }) (BP G [.ref (a 0), .int x1, .ref w] (fun _ H => PW G (wlE G w y :: hdW G a b0 x) H)) (QE (some (.int (codeL (fun k => 1) (fX5_paper x x1)))) (fun H => ∃ b', hdR G a b0 b' ∧ PW G (wlE G w (ansL (fX5_paper x x1) y) :: hdW G a b' (wldL (fX5_paper x x1))) H) (wlA a b0 w)) (fun _ _ _ => False) 1 6 (wlA a b0 w) := by
  refine met_ofXH (by decide) (Nat.le_of_ble_eq_true rfl) ?_
  intro p e s m below meth c ls hC hX hKN hP hl
  have hP : PW G (wlE G w y :: hdW G a b0 x) s.heap := hP
  have hl : lv_has ls 4 [(0, .ref (a 0)), (1, .int x1), (2, .ref w)] := hl
  have hS : va_S (wlA a b0 w) s.heap s.heap [] := va_S.rf
  have hAL := wl_low hq hw
  have hPw : PW G (hdW G a b0 x) s.heap := (PW_cons.mp hP).2
  refine lv_aload_n hC.1 hC.2.1 dL_paper_0 rfl (lv_at hl 2 rfl) ?_
  refine lv_iconst (v := 0) hC.1 hC.2.1 dL_paper_1 (by decide) ?_
  refine lv_aload_n hC.1 hC.2.1 dL_paper_2 rfl (lv_at hl 0 rfl) ?_
  refine lv_iload_n hC.1 hC.2.1 dL_paper_3 rfl (lv_at hl 1 rfl) ?_
  refine runT (rVT (B := fun U H => PW G (hdW G a b0 x) H) (As := [.int x1]) (rest := [.int 0, .ref w]) hC mwX5_paper (c_X5_paper l hL G a b0 x x1 hq hI) iwX5_paper wd_713 ⟨rfl, rfl⟩ ⟨Nat.le_of_ble_eq_true rfl, Nat.le_of_ble_eq_true rfl⟩ (stb_h (fun H => PW G (hdW G a b0 x) H)) hKN hPw (va_recv hKN.k hPw (ci := 5) (q0 := 0) rfl rfl) rfl hl.1 rfl (Nat.le_of_ble_eq_true rfl) dL_paper_4 ⟨Nat.le_of_ble_eq_true rfl, Nat.le_of_ble_eq_true rfl⟩) hS (fun _ h => Or.inr h) (fun _ h => Or.inr h) (fun x' v hF H1 locs1 hB hz hk hS => ?_) (fun k x' hF hk3 ce q9 H1 locs1 hB hz hk hS hc1 hc2 hc3 => ?_)
  · obtain ⟨b', hR, hP1⟩ := hB
    have hPj := wl_join hP hne hk hP1
    refine lv_i2l (v := v.toInt64) hC.1 hC.2.1 dL_paper_7 rfl ?_
    refine va_last hC.1 hC.2.1 (KN.k (hKN.go hAL hS)) hPj (wl_D hR hne) hS 0 1 rfl rfl (show vp_in (nI 0) 1 from vp_in_nI (by decide) (by decide)) dL_paper_8 (fun H2 locs2 hP2 _ hS => ?_)
    refine lv_goto (tgt := 15) hC.1 hC.2.1 dL_paper_9 (by decide) ?_
    refine lv_iconst (v := 0) hC.1 hC.2.1 dL_paper_15 (by decide) ?_
    exact vx_ret (eE_i hC (by rw [hF]; rfl) ⟨b', hR, by rw [hF]; exact wl_set hP2⟩ hS dL_paper_16)
  · obtain ⟨b', hR, hP1⟩ := hB
    have hPj := wl_join hP hne hk hP1
    have hk0 : k = 0 := K_paper hF
    subst hk0
    refine ctch hC (hKN.go hAL hS) hk3 [] ⟨0, 9, 12, 13⟩ [] (hX.trans rfl) (fun z h => nomatch h) rfl (by decide) wd_600 hc1 hc2 hc3 ?_
    refine lv_astore_n (lv' := [(3, .ref q9), (0, .ref (a 0)), (1, .int x1), (2, .ref w)]) hC.1 hC.2.1 dL_paper_12 rfl hl (by decide) rfl (fun ls hl => ?_)
    refine lv_iconst (v := 1) hC.1 hC.2.1 dL_paper_13 (by decide) ?_
    exact vx_ret (eE_i hC (by rw [hF]; rfl) ⟨b', hR, by rw [hF]; exact hPj⟩ hS dL_paper_14)
set_option maxRecDepth 100000 in
theorem K_set {x x' : HV} {x1 : Int32} {x2 : Int32} {k : Nat} (h : fX5_set x x1 x2 = .inr (k, x')) : k = 1 ∨ k = 0 := by
  unfold fX5_set at h
  try dsimp only at h
  (repeat' split at h)
  all_goals (first | (cases h; done) | (cases h; first | rfl | exact Or.inl rfl | exact Or.inr rfl))
theorem dL_set_0 : decode cL_set 0 = .ok (.aload_n 3, 1) := by decide +kernel
theorem dL_set_1 : decode cL_set 1 = .ok (.iconst 0, 1) := by decide +kernel
theorem dL_set_2 : decode cL_set 2 = .ok (.aload_n 0, 1) := by decide +kernel
theorem dL_set_3 : decode cL_set 3 = .ok (.iload_n 1, 1) := by decide +kernel
theorem dL_set_4 : decode cL_set 4 = .ok (.iload_n 2, 1) := by decide +kernel
theorem dL_set_5 : decode cL_set 5 = .ok (.invokevirtual 25, 3) := by decide +kernel
theorem dL_set_8 : decode cL_set 8 = .ok (.i2l, 1) := by decide +kernel
theorem dL_set_9 : decode cL_set 9 = .ok (.lastore, 1) := by decide +kernel
theorem dL_set_10 : decode cL_set 10 = .ok (.goto 11, 3) := by decide +kernel
theorem dL_set_13 : decode cL_set 13 = .ok (.astore 4, 2) := by decide +kernel
theorem dL_set_15 : decode cL_set 15 = .ok (.iconst 1, 1) := by decide +kernel
theorem dL_set_16 : decode cL_set 16 = .ok (.ireturn, 1) := by decide +kernel
theorem dL_set_17 : decode cL_set 17 = .ok (.astore 4, 2) := by decide +kernel
theorem dL_set_19 : decode cL_set 19 = .ok (.iconst 2, 1) := by decide +kernel
theorem dL_set_20 : decode cL_set 20 = .ok (.ireturn, 1) := by decide +kernel
theorem dL_set_21 : decode cL_set 21 = .ok (.iconst 0, 1) := by decide +kernel
theorem dL_set_22 : decode cL_set 22 = .ok (.ireturn, 1) := by decide +kernel
set_option maxHeartbeats 1000000 in
set_option maxRecDepth 100000 in
theorem c_L_set (l : Launch) (hL : l.stackTraces = false) (G : GT) (a b0 : Nat → Nat) (x : HV) (w : Nat) (y : Int64) (x1 : Int32) (x2 : Int32) (hq : hdD G a b0) (hI : le_n (x 9 2 0) 6) (hw : gL G ≤ w) (hne : ∀ z, hdA a b0 z → z ≠ w) : vx_Met l yL_set (Cond.codeWith yL_set cL_set 5 (some .int) [(0, 10, 13, 28), (0, 10, 17, 13)] :: bigW) ({ frames := 7, cells := 1, slots := 6, locals := 137 }) (BP G [.ref (a 0), .int x1, .int x2, .ref w] (fun _ H => PW G (wlE G w y :: hdW G a b0 x) H)) (QE (some (.int (codeL (fun k => if k = 1 then 1 else 2) (fX5_set x x1 x2)))) (fun H => ∃ b', hdR G a b0 b' ∧ PW G (wlE G w (ansL (fX5_set x x1 x2) y) :: hdW G a b' (wldL (fX5_set x x1 x2))) H) (wlA a b0 w)) (fun _ _ _ => False) 1 6 (wlA a b0 w) := by
  refine met_ofXH (by decide) (Nat.le_of_ble_eq_true rfl) ?_
  intro p e s m below meth c ls hC hX hKN hP hl
  have hP : PW G (wlE G w y :: hdW G a b0 x) s.heap := hP
  have hl : lv_has ls 5 [(0, .ref (a 0)), (1, .int x1), (2, .int x2), (3, .ref w)] := hl
  have hS : va_S (wlA a b0 w) s.heap s.heap [] := va_S.rf
  have hAL := wl_low hq hw
  have hPw : PW G (hdW G a b0 x) s.heap := (PW_cons.mp hP).2
  refine lv_aload_n hC.1 hC.2.1 dL_set_0 rfl (lv_at hl 3 rfl) ?_
  refine lv_iconst (v := 0) hC.1 hC.2.1 dL_set_1 (by decide) ?_
  refine lv_aload_n hC.1 hC.2.1 dL_set_2 rfl (lv_at hl 0 rfl) ?_
  refine lv_iload_n hC.1 hC.2.1 dL_set_3 rfl (lv_at hl 1 rfl) ?_
  refine lv_iload_n hC.1 hC.2.1 dL_set_4 rfl (lv_at hl 2 rfl) ?_
  refine runT (rVT (B := fun U H => PW G (hdW G a b0 x) H) (As := [.int x1, .int x2]) (rest := [.int 0, .ref w]) hC mwX5_set (c_X5_set l hL G a b0 x x1 x2 hq hI) iwX5_set wd_726 ⟨rfl, rfl⟩ ⟨Nat.le_of_ble_eq_true rfl, Nat.le_of_ble_eq_true rfl⟩ (stb_h (fun H => PW G (hdW G a b0 x) H)) hKN hPw (va_recv hKN.k hPw (ci := 5) (q0 := 0) rfl rfl) rfl hl.1 rfl (Nat.le_of_ble_eq_true rfl) dL_set_5 ⟨Nat.le_of_ble_eq_true rfl, Nat.le_of_ble_eq_true rfl⟩) hS (fun _ h => Or.inr h) (fun _ h => Or.inr h) (fun x' v hF H1 locs1 hB hz hk hS => ?_) (fun k x' hF hk3 ce q9 H1 locs1 hB hz hk hS hc1 hc2 hc3 => ?_)
  · obtain ⟨b', hR, hP1⟩ := hB
    have hPj := wl_join hP hne hk hP1
    refine lv_i2l (v := v.toInt64) hC.1 hC.2.1 dL_set_8 rfl ?_
    refine va_last hC.1 hC.2.1 (KN.k (hKN.go hAL hS)) hPj (wl_D hR hne) hS 0 1 rfl rfl (show vp_in (nI 0) 1 from vp_in_nI (by decide) (by decide)) dL_set_9 (fun H2 locs2 hP2 _ hS => ?_)
    refine lv_goto (tgt := 21) hC.1 hC.2.1 dL_set_10 (by decide) ?_
    refine lv_iconst (v := 0) hC.1 hC.2.1 dL_set_21 (by decide) ?_
    exact vx_ret (eE_i hC (by rw [hF]; rfl) ⟨b', hR, by rw [hF]; exact wl_set hP2⟩ hS dL_set_22)
  · obtain ⟨b', hR, hP1⟩ := hB
    have hPj := wl_join hP hne hk hP1
    rcases K_set hF with hk0 | hk0
    · subst hk0
      refine ctch hC (hKN.go hAL hS) hk3 [] ⟨0, 10, 13, 28⟩ [⟨0, 10, 17, 13⟩] (hX.trans rfl) (fun z h => nomatch h) rfl (by decide) wd_725 hc1 hc2 hc3 ?_
      refine lv_astore (lv' := [(4, .ref q9), (0, .ref (a 0)), (1, .int x1), (2, .int x2), (3, .ref w)]) hC.1 hC.2.1 dL_set_13 hl (by decide) rfl (fun ls hl => ?_)
      refine lv_iconst (v := 1) hC.1 hC.2.1 dL_set_15 (by decide) ?_
      exact vx_ret (eE_i hC (by rw [hF]; rfl) ⟨b', hR, by rw [hF]; exact hPj⟩ hS dL_set_16)
    · subst hk0
      refine ctch hC (hKN.go hAL hS) hk3 [⟨0, 10, 13, 28⟩] ⟨0, 10, 17, 13⟩ [] (hX.trans rfl) (fun z h => by cases h with | head => exact ⟨by decide, _, wd_725, hKN.2.2.2.2.2.2.1⟩ | tail _ h => nomatch h) rfl (by decide) wd_600 hc1 hc2 hc3 ?_
      refine lv_astore (lv' := [(4, .ref q9), (0, .ref (a 0)), (1, .int x1), (2, .int x2), (3, .ref w)]) hC.1 hC.2.1 dL_set_17 hl (by decide) rfl (fun ls hl => ?_)
      refine lv_iconst (v := 2) hC.1 hC.2.1 dL_set_19 (by decide) ?_
      exact vx_ret (eE_i hC (by rw [hF]; rfl) ⟨b', hR, by rw [hF]; exact hPj⟩ hS dL_set_20)
set_option maxRecDepth 100000 in
theorem K_append {x x' : HV} {x1 : Int32} {k : Nat} (h : fX5_append x x1 = .inr (k, x')) : k = 0 ∨ k = 2 := by
  unfold fX5_append at h
  try dsimp only at h
  (repeat' split at h)
  all_goals (first | (cases h; done) | (cases h; first | rfl | exact Or.inl rfl | exact Or.inr rfl))
theorem dL_append_0 : decode cL_append 0 = .ok (.aload_n 2, 1) := by decide +kernel
theorem dL_append_1 : decode cL_append 1 = .ok (.iconst 0, 1) := by decide +kernel
theorem dL_append_2 : decode cL_append 2 = .ok (.aload_n 0, 1) := by decide +kernel
theorem dL_append_3 : decode cL_append 3 = .ok (.iload_n 1, 1) := by decide +kernel
theorem dL_append_4 : decode cL_append 4 = .ok (.invokevirtual 30, 3) := by decide +kernel
theorem dL_append_7 : decode cL_append 7 = .ok (.i2l, 1) := by decide +kernel
theorem dL_append_8 : decode cL_append 8 = .ok (.lastore, 1) := by decide +kernel
theorem dL_append_9 : decode cL_append 9 = .ok (.goto 9, 3) := by decide +kernel
theorem dL_append_12 : decode cL_append 12 = .ok (.astore_n 3, 1) := by decide +kernel
theorem dL_append_13 : decode cL_append 13 = .ok (.iconst 1, 1) := by decide +kernel
theorem dL_append_14 : decode cL_append 14 = .ok (.ireturn, 1) := by decide +kernel
theorem dL_append_15 : decode cL_append 15 = .ok (.astore_n 3, 1) := by decide +kernel
theorem dL_append_16 : decode cL_append 16 = .ok (.iconst 2, 1) := by decide +kernel
theorem dL_append_17 : decode cL_append 17 = .ok (.ireturn, 1) := by decide +kernel
theorem dL_append_18 : decode cL_append 18 = .ok (.iconst 0, 1) := by decide +kernel
theorem dL_append_19 : decode cL_append 19 = .ok (.ireturn, 1) := by decide +kernel
set_option maxHeartbeats 1000000 in
set_option maxRecDepth 100000 in
theorem c_L_append (l : Launch) (hL : l.stackTraces = false) (G : GT) (a b0 : Nat → Nat) (x : HV) (w : Nat) (y : Int64) (x1 : Int32) (hq : hdD G a b0) (hw : gL G ≤ w) (hne : ∀ z, hdA a b0 z → z ≠ w) : vx_Met l yL_append (Cond.codeWith yL_append cL_append 4 (some .int) [(0, 9, 12, 13), (0, 9, 15, 33)] :: bigW) ({ frames := 7, cells := 1, slots := 6, locals := 103 }) (BP G [.ref (a 0), .int x1, .ref w] (fun _ H => PW G (wlE G w y :: hdW G a b0 x) H)) (QE (some (.int (codeL (fun k => if k = 0 then 1 else 2) (fX5_append x x1)))) (fun H => ∃ b', hdR G a b0 b' ∧ PW G (wlE G w (ansL (fX5_append x x1) y) :: hdW G a b' (wldL (fX5_append x x1))) H) (wlA a b0 w)) (fun _ _ _ => False) 1 6 (wlA a b0 w) := by
  refine met_ofXH (by decide) (Nat.le_of_ble_eq_true rfl) ?_
  intro p e s m below meth c ls hC hX hKN hP hl
  have hP : PW G (wlE G w y :: hdW G a b0 x) s.heap := hP
  have hl : lv_has ls 4 [(0, .ref (a 0)), (1, .int x1), (2, .ref w)] := hl
  have hS : va_S (wlA a b0 w) s.heap s.heap [] := va_S.rf
  have hAL := wl_low hq hw
  have hPw : PW G (hdW G a b0 x) s.heap := (PW_cons.mp hP).2
  refine lv_aload_n hC.1 hC.2.1 dL_append_0 rfl (lv_at hl 2 rfl) ?_
  refine lv_iconst (v := 0) hC.1 hC.2.1 dL_append_1 (by decide) ?_
  refine lv_aload_n hC.1 hC.2.1 dL_append_2 rfl (lv_at hl 0 rfl) ?_
  refine lv_iload_n hC.1 hC.2.1 dL_append_3 rfl (lv_at hl 1 rfl) ?_
  refine runT (rVT (B := fun U H => PW G (hdW G a b0 x) H) (As := [.int x1]) (rest := [.int 0, .ref w]) hC mwX5_append (c_X5_append l hL G a b0 x x1 hq) iwX5_append wd_754 ⟨rfl, rfl⟩ ⟨Nat.le_of_ble_eq_true rfl, Nat.le_of_ble_eq_true rfl⟩ (stb_h (fun H => PW G (hdW G a b0 x) H)) hKN hPw (va_recv hKN.k hPw (ci := 5) (q0 := 0) rfl rfl) rfl hl.1 rfl (Nat.le_of_ble_eq_true rfl) dL_append_4 ⟨Nat.le_of_ble_eq_true rfl, Nat.le_of_ble_eq_true rfl⟩) hS (fun _ h => Or.inr h) (fun _ h => Or.inr h) (fun x' v hF H1 locs1 hB hz hk hS => ?_) (fun k x' hF hk3 ce q9 H1 locs1 hB hz hk hS hc1 hc2 hc3 => ?_)
  · obtain ⟨b', hR, hP1⟩ := hB
    have hPj := wl_join hP hne hk hP1
    refine lv_i2l (v := v.toInt64) hC.1 hC.2.1 dL_append_7 rfl ?_
    refine va_last hC.1 hC.2.1 (KN.k (hKN.go hAL hS)) hPj (wl_D hR hne) hS 0 1 rfl rfl (show vp_in (nI 0) 1 from vp_in_nI (by decide) (by decide)) dL_append_8 (fun H2 locs2 hP2 _ hS => ?_)
    refine lv_goto (tgt := 18) hC.1 hC.2.1 dL_append_9 (by decide) ?_
    refine lv_iconst (v := 0) hC.1 hC.2.1 dL_append_18 (by decide) ?_
    exact vx_ret (eE_i hC (by rw [hF]; rfl) ⟨b', hR, by rw [hF]; exact wl_set hP2⟩ hS dL_append_19)
  · obtain ⟨b', hR, hP1⟩ := hB
    have hPj := wl_join hP hne hk hP1
    rcases K_append hF with hk0 | hk0
    · subst hk0
      refine ctch hC (hKN.go hAL hS) hk3 [] ⟨0, 9, 12, 13⟩ [⟨0, 9, 15, 33⟩] (hX.trans rfl) (fun z h => nomatch h) rfl (by decide) wd_600 hc1 hc2 hc3 ?_
      refine lv_astore_n (lv' := [(3, .ref q9), (0, .ref (a 0)), (1, .int x1), (2, .ref w)]) hC.1 hC.2.1 dL_append_12 rfl hl (by decide) rfl (fun ls hl => ?_)
      refine lv_iconst (v := 1) hC.1 hC.2.1 dL_append_13 (by decide) ?_
      exact vx_ret (eE_i hC (by rw [hF]; rfl) ⟨b', hR, by rw [hF]; exact hPj⟩ hS dL_append_14)
    · subst hk0
      refine ctch hC (hKN.go hAL hS) hk3 [⟨0, 9, 12, 13⟩] ⟨0, 9, 15, 33⟩ [] (hX.trans rfl) (fun z h => by cases h with | head => exact ⟨by decide, _, wd_600, hKN.2.2.2.2.2.2.2.1⟩ | tail _ h => nomatch h) rfl (by decide) wd_753 hc1 hc2 hc3 ?_
      refine lv_astore_n (lv' := [(3, .ref q9), (0, .ref (a 0)), (1, .int x1), (2, .ref w)]) hC.1 hC.2.1 dL_append_15 rfl hl (by decide) rfl (fun ls hl => ?_)
      refine lv_iconst (v := 2) hC.1 hC.2.1 dL_append_16 (by decide) ?_
      exact vx_ret (eE_i hC (by rw [hF]; rfl) ⟨b', hR, by rw [hF]; exact hPj⟩ hS dL_append_17)
set_option maxRecDepth 100000 in
theorem K_print {x x' : HV} {k : Nat} (h : fX5_print x = .inr (k, x')) : k = 0 := by
  unfold fX5_print at h
  try dsimp only at h
  (repeat' split at h)
  all_goals (first | (cases h; done) | (cases h; first | rfl | exact Or.inl rfl | exact Or.inr rfl))
theorem dL_print_0 : decode cL_print 0 = .ok (.aload_n 1, 1) := by decide +kernel
theorem dL_print_1 : decode cL_print 1 = .ok (.iconst 0, 1) := by decide +kernel
theorem dL_print_2 : decode cL_print 2 = .ok (.aload_n 0, 1) := by decide +kernel
theorem dL_print_3 : decode cL_print 3 = .ok (.invokevirtual 35, 3) := by decide +kernel
theorem dL_print_6 : decode cL_print 6 = .ok (.i2l, 1) := by decide +kernel
theorem dL_print_7 : decode cL_print 7 = .ok (.lastore, 1) := by decide +kernel
theorem dL_print_8 : decode cL_print 8 = .ok (.goto 6, 3) := by decide +kernel
theorem dL_print_11 : decode cL_print 11 = .ok (.astore_n 2, 1) := by decide +kernel
theorem dL_print_12 : decode cL_print 12 = .ok (.iconst 1, 1) := by decide +kernel
theorem dL_print_13 : decode cL_print 13 = .ok (.ireturn, 1) := by decide +kernel
theorem dL_print_14 : decode cL_print 14 = .ok (.iconst 0, 1) := by decide +kernel
theorem dL_print_15 : decode cL_print 15 = .ok (.ireturn, 1) := by decide +kernel
set_option maxHeartbeats 1000000 in
set_option maxRecDepth 100000 in
theorem c_L_print (l : Launch) (hL : l.stackTraces = false) (G : GT) (a b0 : Nat → Nat) (x : HV) (w : Nat) (y : Int64) (hq : hdD G a b0) (hI : le_n (x 9 2 0) 6 ∧ (x 9 1 2).toNatClampNeg < 8) (hw : gL G ≤ w) (hne : ∀ z, hdA a b0 z → z ≠ w) : vx_Met l yL_print (Cond.codeWith yL_print cL_print 3 (some .int) [(0, 8, 11, 13)] :: bigW) ({ frames := 8, cells := 1, slots := 6, locals := 172 }) (BP G [.ref (a 0), .ref w] (fun _ H => PW G (wlE G w y :: hdW G a b0 x) H)) (QE (some (.int (codeL (fun k => 1) (fX5_print x)))) (fun H => ∃ b', hdR G a b0 b' ∧ PW G (wlE G w (ansL (fX5_print x) y) :: hdW G a b' (wldL (fX5_print x))) H) (wlA a b0 w)) (fun _ _ _ => False) 1 6 (wlA a b0 w) := by
  refine met_ofXH (by decide) (Nat.le_of_ble_eq_true rfl) ?_
  intro p e s m below meth c ls hC hX hKN hP hl
  have hP : PW G (wlE G w y :: hdW G a b0 x) s.heap := hP
  have hl : lv_has ls 3 [(0, .ref (a 0)), (1, .ref w)] := hl
  have hS : va_S (wlA a b0 w) s.heap s.heap [] := va_S.rf
  have hAL := wl_low hq hw
  have hPw : PW G (hdW G a b0 x) s.heap := (PW_cons.mp hP).2
  refine lv_aload_n hC.1 hC.2.1 dL_print_0 rfl (lv_at hl 1 rfl) ?_
  refine lv_iconst (v := 0) hC.1 hC.2.1 dL_print_1 (by decide) ?_
  refine lv_aload_n hC.1 hC.2.1 dL_print_2 rfl (lv_at hl 0 rfl) ?_
  refine runT (rVT (B := fun U H => PW G (hdW G a b0 x) H) (As := []) (rest := [.int 0, .ref w]) hC mwX5_print (c_X5_print l hL G a b0 x hq hI) iwX5_print wd_787 ⟨rfl, rfl⟩ ⟨Nat.le_of_ble_eq_true rfl, Nat.le_of_ble_eq_true rfl⟩ (stb_h (fun H => PW G (hdW G a b0 x) H)) hKN hPw (va_recv hKN.k hPw (ci := 5) (q0 := 0) rfl rfl) rfl hl.1 rfl (Nat.le_of_ble_eq_true rfl) dL_print_3 ⟨Nat.le_of_ble_eq_true rfl, Nat.le_of_ble_eq_true rfl⟩) hS (fun _ h => Or.inr h) (fun _ h => Or.inr h) (fun x' v hF H1 locs1 hB hz hk hS => ?_) (fun k x' hF hk3 ce q9 H1 locs1 hB hz hk hS hc1 hc2 hc3 => ?_)
  · obtain ⟨b', hR, hP1⟩ := hB
    have hPj := wl_join hP hne hk hP1
    refine lv_i2l (v := v.toInt64) hC.1 hC.2.1 dL_print_6 rfl ?_
    refine va_last hC.1 hC.2.1 (KN.k (hKN.go hAL hS)) hPj (wl_D hR hne) hS 0 1 rfl rfl (show vp_in (nI 0) 1 from vp_in_nI (by decide) (by decide)) dL_print_7 (fun H2 locs2 hP2 _ hS => ?_)
    refine lv_goto (tgt := 14) hC.1 hC.2.1 dL_print_8 (by decide) ?_
    refine lv_iconst (v := 0) hC.1 hC.2.1 dL_print_14 (by decide) ?_
    exact vx_ret (eE_i hC (by rw [hF]; rfl) ⟨b', hR, by rw [hF]; exact wl_set hP2⟩ hS dL_print_15)
  · obtain ⟨b', hR, hP1⟩ := hB
    have hPj := wl_join hP hne hk hP1
    have hk0 : k = 0 := K_print hF
    subst hk0
    refine ctch hC (hKN.go hAL hS) hk3 [] ⟨0, 8, 11, 13⟩ [] (hX.trans rfl) (fun z h => nomatch h) rfl (by decide) wd_600 hc1 hc2 hc3 ?_
    refine lv_astore_n (lv' := [(2, .ref q9), (0, .ref (a 0)), (1, .ref w)]) hC.1 hC.2.1 dL_print_11 rfl hl (by decide) rfl (fun ls hl => ?_)
    refine lv_iconst (v := 1) hC.1 hC.2.1 dL_print_12 (by decide) ?_
    exact vx_ret (eE_i hC (by rw [hF]; rfl) ⟨b', hR, by rw [hF]; exact hPj⟩ hS dL_print_13)
set_option maxRecDepth 100000 in
theorem K_told {x x' : HV} {x1 : Int32} {x2 : Int32} {k : Nat} (h : fX5_told x x1 x2 = .inr (k, x')) : k = 0 := by
  unfold fX5_told at h
  try dsimp only at h
  (repeat' split at h)
  all_goals (first | (cases h; done) | (cases h; first | rfl | exact Or.inl rfl | exact Or.inr rfl))
theorem dL_told_0 : decode cL_told 0 = .ok (.aload_n 3, 1) := by decide +kernel
theorem dL_told_1 : decode cL_told 1 = .ok (.iconst 0, 1) := by decide +kernel
theorem dL_told_2 : decode cL_told 2 = .ok (.aload_n 0, 1) := by decide +kernel
theorem dL_told_3 : decode cL_told 3 = .ok (.iload_n 1, 1) := by decide +kernel
theorem dL_told_4 : decode cL_told 4 = .ok (.iload_n 2, 1) := by decide +kernel
theorem dL_told_5 : decode cL_told 5 = .ok (.invokevirtual 39, 3) := by decide +kernel
theorem dL_told_8 : decode cL_told 8 = .ok (.i2l, 1) := by decide +kernel
theorem dL_told_9 : decode cL_told 9 = .ok (.lastore, 1) := by decide +kernel
theorem dL_told_10 : decode cL_told 10 = .ok (.goto 7, 3) := by decide +kernel
theorem dL_told_13 : decode cL_told 13 = .ok (.astore 4, 2) := by decide +kernel
theorem dL_told_15 : decode cL_told 15 = .ok (.iconst 1, 1) := by decide +kernel
theorem dL_told_16 : decode cL_told 16 = .ok (.ireturn, 1) := by decide +kernel
theorem dL_told_17 : decode cL_told 17 = .ok (.iconst 0, 1) := by decide +kernel
theorem dL_told_18 : decode cL_told 18 = .ok (.ireturn, 1) := by decide +kernel
set_option maxHeartbeats 1000000 in
set_option maxRecDepth 100000 in
theorem c_L_told (l : Launch) (hL : l.stackTraces = false) (G : GT) (a b0 : Nat → Nat) (x : HV) (w : Nat) (y : Int64) (x1 : Int32) (x2 : Int32) (hq : hdD G a b0) (hw : gL G ≤ w) (hne : ∀ z, hdA a b0 z → z ≠ w) : vx_Met l yL_told (Cond.codeWith yL_told cL_told 5 (some .int) [(0, 10, 13, 13)] :: bigW) ({ frames := 7, cells := 1, slots := 6, locals := 104 }) (BP G [.ref (a 0), .int x1, .int x2, .ref w] (fun _ H => PW G (wlE G w y :: hdW G a b0 x) H)) (QE (some (.int (codeL (fun k => 1) (fX5_told x x1 x2)))) (fun H => ∃ b', hdR G a b0 b' ∧ PW G (wlE G w (ansL (fX5_told x x1 x2) y) :: hdW G a b' (wldL (fX5_told x x1 x2))) H) (wlA a b0 w)) (fun _ _ _ => False) 1 6 (wlA a b0 w) := by
  refine met_ofXH (by decide) (Nat.le_of_ble_eq_true rfl) ?_
  intro p e s m below meth c ls hC hX hKN hP hl
  have hP : PW G (wlE G w y :: hdW G a b0 x) s.heap := hP
  have hl : lv_has ls 5 [(0, .ref (a 0)), (1, .int x1), (2, .int x2), (3, .ref w)] := hl
  have hS : va_S (wlA a b0 w) s.heap s.heap [] := va_S.rf
  have hAL := wl_low hq hw
  have hPw : PW G (hdW G a b0 x) s.heap := (PW_cons.mp hP).2
  refine lv_aload_n hC.1 hC.2.1 dL_told_0 rfl (lv_at hl 3 rfl) ?_
  refine lv_iconst (v := 0) hC.1 hC.2.1 dL_told_1 (by decide) ?_
  refine lv_aload_n hC.1 hC.2.1 dL_told_2 rfl (lv_at hl 0 rfl) ?_
  refine lv_iload_n hC.1 hC.2.1 dL_told_3 rfl (lv_at hl 1 rfl) ?_
  refine lv_iload_n hC.1 hC.2.1 dL_told_4 rfl (lv_at hl 2 rfl) ?_
  refine runT (rVT (B := fun U H => PW G (hdW G a b0 x) H) (As := [.int x1, .int x2]) (rest := [.int 0, .ref w]) hC mwX5_told (c_X5_told l hL G a b0 x x1 x2 hq) iwX5_told wd_803 ⟨rfl, rfl⟩ ⟨Nat.le_of_ble_eq_true rfl, Nat.le_of_ble_eq_true rfl⟩ (stb_h (fun H => PW G (hdW G a b0 x) H)) hKN hPw (va_recv hKN.k hPw (ci := 5) (q0 := 0) rfl rfl) rfl hl.1 rfl (Nat.le_of_ble_eq_true rfl) dL_told_5 ⟨Nat.le_of_ble_eq_true rfl, Nat.le_of_ble_eq_true rfl⟩) hS (fun _ h => Or.inr h) (fun _ h => Or.inr h) (fun x' v hF H1 locs1 hB hz hk hS => ?_) (fun k x' hF hk3 ce q9 H1 locs1 hB hz hk hS hc1 hc2 hc3 => ?_)
  · obtain ⟨b', hR, hP1⟩ := hB
    have hPj := wl_join hP hne hk hP1
    refine lv_i2l (v := v.toInt64) hC.1 hC.2.1 dL_told_8 rfl ?_
    refine va_last hC.1 hC.2.1 (KN.k (hKN.go hAL hS)) hPj (wl_D hR hne) hS 0 1 rfl rfl (show vp_in (nI 0) 1 from vp_in_nI (by decide) (by decide)) dL_told_9 (fun H2 locs2 hP2 _ hS => ?_)
    refine lv_goto (tgt := 17) hC.1 hC.2.1 dL_told_10 (by decide) ?_
    refine lv_iconst (v := 0) hC.1 hC.2.1 dL_told_17 (by decide) ?_
    exact vx_ret (eE_i hC (by rw [hF]; rfl) ⟨b', hR, by rw [hF]; exact wl_set hP2⟩ hS dL_told_18)
  · obtain ⟨b', hR, hP1⟩ := hB
    have hPj := wl_join hP hne hk hP1
    have hk0 : k = 0 := K_told hF
    subst hk0
    refine ctch hC (hKN.go hAL hS) hk3 [] ⟨0, 10, 13, 13⟩ [] (hX.trans rfl) (fun z h => nomatch h) rfl (by decide) wd_600 hc1 hc2 hc3 ?_
    refine lv_astore (lv' := [(4, .ref q9), (0, .ref (a 0)), (1, .int x1), (2, .int x2), (3, .ref w)]) hC.1 hC.2.1 dL_told_13 hl (by decide) rfl (fun ls hl => ?_)
    refine lv_iconst (v := 1) hC.1 hC.2.1 dL_told_15 (by decide) ?_
    exact vx_ret (eE_i hC (by rw [hF]; rfl) ⟨b', hR, by rw [hF]; exact hPj⟩ hS dL_told_16)
set_option maxRecDepth 100000 in
theorem K_undo {x x' : HV} {k : Nat} (h : fX5_undo x = .inr (k, x')) : k = 2 := by
  unfold fX5_undo at h
  try dsimp only at h
  (repeat' split at h)
  all_goals (first | (cases h; done) | (cases h; first | rfl | exact Or.inl rfl | exact Or.inr rfl))
theorem dL_undo_0 : decode cL_undo 0 = .ok (.aload_n 1, 1) := by decide +kernel
theorem dL_undo_1 : decode cL_undo 1 = .ok (.iconst 0, 1) := by decide +kernel
theorem dL_undo_2 : decode cL_undo 2 = .ok (.aload_n 0, 1) := by decide +kernel
theorem dL_undo_3 : decode cL_undo 3 = .ok (.invokevirtual 42, 3) := by decide +kernel
theorem dL_undo_6 : decode cL_undo 6 = .ok (.i2l, 1) := by decide +kernel
theorem dL_undo_7 : decode cL_undo 7 = .ok (.lastore, 1) := by decide +kernel
theorem dL_undo_8 : decode cL_undo 8 = .ok (.goto 6, 3) := by decide +kernel
theorem dL_undo_11 : decode cL_undo 11 = .ok (.astore_n 2, 1) := by decide +kernel
theorem dL_undo_12 : decode cL_undo 12 = .ok (.iconst 1, 1) := by decide +kernel
theorem dL_undo_13 : decode cL_undo 13 = .ok (.ireturn, 1) := by decide +kernel
theorem dL_undo_14 : decode cL_undo 14 = .ok (.iconst 0, 1) := by decide +kernel
theorem dL_undo_15 : decode cL_undo 15 = .ok (.ireturn, 1) := by decide +kernel
set_option maxHeartbeats 1000000 in
set_option maxRecDepth 100000 in
theorem c_L_undo (l : Launch) (hL : l.stackTraces = false) (G : GT) (a b0 : Nat → Nat) (x : HV) (w : Nat) (y : Int64) (hq : hdD G a b0) (hI : le_n (x 9 2 0) 6) (hw : gL G ≤ w) (hne : ∀ z, hdA a b0 z → z ≠ w) : vx_Met l yL_undo (Cond.codeWith yL_undo cL_undo 3 (some .int) [(0, 8, 11, 33)] :: bigW) ({ frames := 7, cells := 1, slots := 6, locals := 114 }) (BP G [.ref (a 0), .ref w] (fun _ H => PW G (wlE G w y :: hdW G a b0 x) H)) (QE (some (.int (codeL (fun k => 1) (fX5_undo x)))) (fun H => ∃ b', hdR G a b0 b' ∧ PW G (wlE G w (ansL (fX5_undo x) y) :: hdW G a b' (wldL (fX5_undo x))) H) (wlA a b0 w)) (fun _ _ _ => False) 1 6 (wlA a b0 w) := by
  refine met_ofXH (by decide) (Nat.le_of_ble_eq_true rfl) ?_
  intro p e s m below meth c ls hC hX hKN hP hl
  have hP : PW G (wlE G w y :: hdW G a b0 x) s.heap := hP
  have hl : lv_has ls 3 [(0, .ref (a 0)), (1, .ref w)] := hl
  have hS : va_S (wlA a b0 w) s.heap s.heap [] := va_S.rf
  have hAL := wl_low hq hw
  have hPw : PW G (hdW G a b0 x) s.heap := (PW_cons.mp hP).2
  refine lv_aload_n hC.1 hC.2.1 dL_undo_0 rfl (lv_at hl 1 rfl) ?_
  refine lv_iconst (v := 0) hC.1 hC.2.1 dL_undo_1 (by decide) ?_
  refine lv_aload_n hC.1 hC.2.1 dL_undo_2 rfl (lv_at hl 0 rfl) ?_
  refine runT (rVT (B := fun U H => PW G (hdW G a b0 x) H) (As := []) (rest := [.int 0, .ref w]) hC mwX5_undo (c_X5_undo l hL G a b0 x hq hI) iwX5_undo wd_811 ⟨rfl, rfl⟩ ⟨Nat.le_of_ble_eq_true rfl, Nat.le_of_ble_eq_true rfl⟩ (stb_h (fun H => PW G (hdW G a b0 x) H)) hKN hPw (va_recv hKN.k hPw (ci := 5) (q0 := 0) rfl rfl) rfl hl.1 rfl (Nat.le_of_ble_eq_true rfl) dL_undo_3 ⟨Nat.le_of_ble_eq_true rfl, Nat.le_of_ble_eq_true rfl⟩) hS (fun _ h => Or.inr h) (fun _ h => Or.inr h) (fun x' v hF H1 locs1 hB hz hk hS => ?_) (fun k x' hF hk3 ce q9 H1 locs1 hB hz hk hS hc1 hc2 hc3 => ?_)
  · obtain ⟨b', hR, hP1⟩ := hB
    have hPj := wl_join hP hne hk hP1
    refine lv_i2l (v := v.toInt64) hC.1 hC.2.1 dL_undo_6 rfl ?_
    refine va_last hC.1 hC.2.1 (KN.k (hKN.go hAL hS)) hPj (wl_D hR hne) hS 0 1 rfl rfl (show vp_in (nI 0) 1 from vp_in_nI (by decide) (by decide)) dL_undo_7 (fun H2 locs2 hP2 _ hS => ?_)
    refine lv_goto (tgt := 14) hC.1 hC.2.1 dL_undo_8 (by decide) ?_
    refine lv_iconst (v := 0) hC.1 hC.2.1 dL_undo_14 (by decide) ?_
    exact vx_ret (eE_i hC (by rw [hF]; rfl) ⟨b', hR, by rw [hF]; exact wl_set hP2⟩ hS dL_undo_15)
  · obtain ⟨b', hR, hP1⟩ := hB
    have hPj := wl_join hP hne hk hP1
    have hk0 : k = 2 := K_undo hF
    subst hk0
    refine ctch hC (hKN.go hAL hS) hk3 [] ⟨0, 8, 11, 33⟩ [] (hX.trans rfl) (fun z h => nomatch h) rfl (by decide) wd_753 hc1 hc2 hc3 ?_
    refine lv_astore_n (lv' := [(2, .ref q9), (0, .ref (a 0)), (1, .ref w)]) hC.1 hC.2.1 dL_undo_11 rfl hl (by decide) rfl (fun ls hl => ?_)
    refine lv_iconst (v := 1) hC.1 hC.2.1 dL_undo_12 (by decide) ?_
    exact vx_ret (eE_i hC (by rw [hF]; rfl) ⟨b', hR, by rw [hF]; exact hPj⟩ hS dL_undo_13)
set_option maxRecDepth 100000 in
theorem K_restore {x x' : HV} {k : Nat} (h : fX5_restore x = .inr (k, x')) : k = 2 := by
  unfold fX5_restore at h
  try dsimp only at h
  (repeat' split at h)
  all_goals (first | (cases h; done) | (cases h; first | rfl | exact Or.inl rfl | exact Or.inr rfl))
theorem dL_restore_0 : decode cL_restore 0 = .ok (.aload_n 1, 1) := by decide +kernel
theorem dL_restore_1 : decode cL_restore 1 = .ok (.iconst 0, 1) := by decide +kernel
theorem dL_restore_2 : decode cL_restore 2 = .ok (.aload_n 0, 1) := by decide +kernel
theorem dL_restore_3 : decode cL_restore 3 = .ok (.invokevirtual 45, 3) := by decide +kernel
theorem dL_restore_6 : decode cL_restore 6 = .ok (.i2l, 1) := by decide +kernel
theorem dL_restore_7 : decode cL_restore 7 = .ok (.lastore, 1) := by decide +kernel
theorem dL_restore_8 : decode cL_restore 8 = .ok (.goto 6, 3) := by decide +kernel
theorem dL_restore_11 : decode cL_restore 11 = .ok (.astore_n 2, 1) := by decide +kernel
theorem dL_restore_12 : decode cL_restore 12 = .ok (.iconst 1, 1) := by decide +kernel
theorem dL_restore_13 : decode cL_restore 13 = .ok (.ireturn, 1) := by decide +kernel
theorem dL_restore_14 : decode cL_restore 14 = .ok (.iconst 0, 1) := by decide +kernel
theorem dL_restore_15 : decode cL_restore 15 = .ok (.ireturn, 1) := by decide +kernel
set_option maxHeartbeats 1000000 in
set_option maxRecDepth 100000 in
theorem c_L_restore (l : Launch) (hL : l.stackTraces = false) (G : GT) (a b0 : Nat → Nat) (x : HV) (w : Nat) (y : Int64) (hq : hdD G a b0) (hI : le_n (x 9 2 0) 6) (hw : gL G ≤ w) (hne : ∀ z, hdA a b0 z → z ≠ w) : vx_Met l yL_restore (Cond.codeWith yL_restore cL_restore 3 (some .int) [(0, 8, 11, 33)] :: bigW) ({ frames := 7, cells := 1, slots := 6, locals := 134 }) (BP G [.ref (a 0), .ref w] (fun _ H => PW G (wlE G w y :: hdW G a b0 x) H)) (QE (some (.int (codeL (fun k => 1) (fX5_restore x)))) (fun H => ∃ b', hdR G a b0 b' ∧ PW G (wlE G w (ansL (fX5_restore x) y) :: hdW G a b' (wldL (fX5_restore x))) H) (wlA a b0 w)) (fun _ _ _ => False) 1 6 (wlA a b0 w) := by
  refine met_ofXH (by decide) (Nat.le_of_ble_eq_true rfl) ?_
  intro p e s m below meth c ls hC hX hKN hP hl
  have hP : PW G (wlE G w y :: hdW G a b0 x) s.heap := hP
  have hl : lv_has ls 3 [(0, .ref (a 0)), (1, .ref w)] := hl
  have hS : va_S (wlA a b0 w) s.heap s.heap [] := va_S.rf
  have hAL := wl_low hq hw
  have hPw : PW G (hdW G a b0 x) s.heap := (PW_cons.mp hP).2
  refine lv_aload_n hC.1 hC.2.1 dL_restore_0 rfl (lv_at hl 1 rfl) ?_
  refine lv_iconst (v := 0) hC.1 hC.2.1 dL_restore_1 (by decide) ?_
  refine lv_aload_n hC.1 hC.2.1 dL_restore_2 rfl (lv_at hl 0 rfl) ?_
  refine runT (rVT (B := fun U H => PW G (hdW G a b0 x) H) (As := []) (rest := [.int 0, .ref w]) hC mwX5_restore (c_X5_restore l hL G a b0 x hq hI) iwX5_restore wd_819 ⟨rfl, rfl⟩ ⟨Nat.le_of_ble_eq_true rfl, Nat.le_of_ble_eq_true rfl⟩ (stb_h (fun H => PW G (hdW G a b0 x) H)) hKN hPw (va_recv hKN.k hPw (ci := 5) (q0 := 0) rfl rfl) rfl hl.1 rfl (Nat.le_of_ble_eq_true rfl) dL_restore_3 ⟨Nat.le_of_ble_eq_true rfl, Nat.le_of_ble_eq_true rfl⟩) hS (fun _ h => Or.inr h) (fun _ h => Or.inr h) (fun x' v hF H1 locs1 hB hz hk hS => ?_) (fun k x' hF hk3 ce q9 H1 locs1 hB hz hk hS hc1 hc2 hc3 => ?_)
  · obtain ⟨b', hR, hP1⟩ := hB
    have hPj := wl_join hP hne hk hP1
    refine lv_i2l (v := v.toInt64) hC.1 hC.2.1 dL_restore_6 rfl ?_
    refine va_last hC.1 hC.2.1 (KN.k (hKN.go hAL hS)) hPj (wl_D hR hne) hS 0 1 rfl rfl (show vp_in (nI 0) 1 from vp_in_nI (by decide) (by decide)) dL_restore_7 (fun H2 locs2 hP2 _ hS => ?_)
    refine lv_goto (tgt := 14) hC.1 hC.2.1 dL_restore_8 (by decide) ?_
    refine lv_iconst (v := 0) hC.1 hC.2.1 dL_restore_14 (by decide) ?_
    exact vx_ret (eE_i hC (by rw [hF]; rfl) ⟨b', hR, by rw [hF]; exact wl_set hP2⟩ hS dL_restore_15)
  · obtain ⟨b', hR, hP1⟩ := hB
    have hPj := wl_join hP hne hk hP1
    have hk0 : k = 2 := K_restore hF
    subst hk0
    refine ctch hC (hKN.go hAL hS) hk3 [] ⟨0, 8, 11, 33⟩ [] (hX.trans rfl) (fun z h => nomatch h) rfl (by decide) wd_753 hc1 hc2 hc3 ?_
    refine lv_astore_n (lv' := [(2, .ref q9), (0, .ref (a 0)), (1, .ref w)]) hC.1 hC.2.1 dL_restore_11 rfl hl (by decide) rfl (fun ls hl => ?_)
    refine lv_iconst (v := 1) hC.1 hC.2.1 dL_restore_12 (by decide) ?_
    exact vx_ret (eE_i hC (by rw [hF]; rfl) ⟨b', hR, by rw [hF]; exact hPj⟩ hS dL_restore_13)
set_option maxRecDepth 100000 in
theorem K_dot {x x' : HV} {x1 : Int32} {x2 : Int32} {k : Nat} (h : fX5_dot x x1 x2 = .inr (k, x')) : k = 1 ∨ k = 0 := by
  unfold fX5_dot at h
  try dsimp only at h
  (repeat' split at h)
  all_goals (first | (cases h; done) | (cases h; first | rfl | exact Or.inl rfl | exact Or.inr rfl))
theorem dL_dot_0 : decode cL_dot 0 = .ok (.aload_n 3, 1) := by decide +kernel
theorem dL_dot_1 : decode cL_dot 1 = .ok (.iconst 0, 1) := by decide +kernel
theorem dL_dot_2 : decode cL_dot 2 = .ok (.aload_n 0, 1) := by decide +kernel
theorem dL_dot_3 : decode cL_dot 3 = .ok (.iload_n 1, 1) := by decide +kernel
theorem dL_dot_4 : decode cL_dot 4 = .ok (.iload_n 2, 1) := by decide +kernel
theorem dL_dot_5 : decode cL_dot 5 = .ok (.invokevirtual 48, 3) := by decide +kernel
theorem dL_dot_8 : decode cL_dot 8 = .ok (.i2l, 1) := by decide +kernel
theorem dL_dot_9 : decode cL_dot 9 = .ok (.lastore, 1) := by decide +kernel
theorem dL_dot_10 : decode cL_dot 10 = .ok (.goto 11, 3) := by decide +kernel
theorem dL_dot_13 : decode cL_dot 13 = .ok (.astore 4, 2) := by decide +kernel
theorem dL_dot_15 : decode cL_dot 15 = .ok (.iconst 1, 1) := by decide +kernel
theorem dL_dot_16 : decode cL_dot 16 = .ok (.ireturn, 1) := by decide +kernel
theorem dL_dot_17 : decode cL_dot 17 = .ok (.astore 4, 2) := by decide +kernel
theorem dL_dot_19 : decode cL_dot 19 = .ok (.iconst 2, 1) := by decide +kernel
theorem dL_dot_20 : decode cL_dot 20 = .ok (.ireturn, 1) := by decide +kernel
theorem dL_dot_21 : decode cL_dot 21 = .ok (.iconst 0, 1) := by decide +kernel
theorem dL_dot_22 : decode cL_dot 22 = .ok (.ireturn, 1) := by decide +kernel
set_option maxHeartbeats 1000000 in
set_option maxRecDepth 100000 in
theorem c_L_dot (l : Launch) (hL : l.stackTraces = false) (G : GT) (a b0 : Nat → Nat) (x : HV) (w : Nat) (y : Int64) (x1 : Int32) (x2 : Int32) (hq : hdD G a b0) (hw : gL G ≤ w) (hne : ∀ z, hdA a b0 z → z ≠ w) : vx_Met l yL_dot (Cond.codeWith yL_dot cL_dot 5 (some .int) [(0, 10, 13, 28), (0, 10, 17, 13)] :: bigW) ({ frames := 7, cells := 1, slots := 6, locals := 114 }) (BP G [.ref (a 0), .int x1, .int x2, .ref w] (fun _ H => PW G (wlE G w y :: hdW G a b0 x) H)) (QE (some (.int (codeL (fun k => if k = 1 then 1 else 2) (fX5_dot x x1 x2)))) (fun H => ∃ b', hdR G a b0 b' ∧ PW G (wlE G w (ansL (fX5_dot x x1 x2) y) :: hdW G a b' (wldL (fX5_dot x x1 x2))) H) (wlA a b0 w)) (fun _ _ _ => False) 1 6 (wlA a b0 w) := by
  refine met_ofXH (by decide) (Nat.le_of_ble_eq_true rfl) ?_
  intro p e s m below meth c ls hC hX hKN hP hl
  have hP : PW G (wlE G w y :: hdW G a b0 x) s.heap := hP
  have hl : lv_has ls 5 [(0, .ref (a 0)), (1, .int x1), (2, .int x2), (3, .ref w)] := hl
  have hS : va_S (wlA a b0 w) s.heap s.heap [] := va_S.rf
  have hAL := wl_low hq hw
  have hPw : PW G (hdW G a b0 x) s.heap := (PW_cons.mp hP).2
  refine lv_aload_n hC.1 hC.2.1 dL_dot_0 rfl (lv_at hl 3 rfl) ?_
  refine lv_iconst (v := 0) hC.1 hC.2.1 dL_dot_1 (by decide) ?_
  refine lv_aload_n hC.1 hC.2.1 dL_dot_2 rfl (lv_at hl 0 rfl) ?_
  refine lv_iload_n hC.1 hC.2.1 dL_dot_3 rfl (lv_at hl 1 rfl) ?_
  refine lv_iload_n hC.1 hC.2.1 dL_dot_4 rfl (lv_at hl 2 rfl) ?_
  refine runT (rVT (B := fun U H => PW G (hdW G a b0 x) H) (As := [.int x1, .int x2]) (rest := [.int 0, .ref w]) hC mwX5_dot (c_X5_dot l hL G a b0 x x1 x2 hq) iwX5_dot wd_827 ⟨rfl, rfl⟩ ⟨Nat.le_of_ble_eq_true rfl, Nat.le_of_ble_eq_true rfl⟩ (stb_h (fun H => PW G (hdW G a b0 x) H)) hKN hPw (va_recv hKN.k hPw (ci := 5) (q0 := 0) rfl rfl) rfl hl.1 rfl (Nat.le_of_ble_eq_true rfl) dL_dot_5 ⟨Nat.le_of_ble_eq_true rfl, Nat.le_of_ble_eq_true rfl⟩) hS (fun _ h => Or.inr h) (fun _ h => Or.inr h) (fun x' v hF H1 locs1 hB hz hk hS => ?_) (fun k x' hF hk3 ce q9 H1 locs1 hB hz hk hS hc1 hc2 hc3 => ?_)
  · obtain ⟨b', hR, hP1⟩ := hB
    have hPj := wl_join hP hne hk hP1
    refine lv_i2l (v := v.toInt64) hC.1 hC.2.1 dL_dot_8 rfl ?_
    refine va_last hC.1 hC.2.1 (KN.k (hKN.go hAL hS)) hPj (wl_D hR hne) hS 0 1 rfl rfl (show vp_in (nI 0) 1 from vp_in_nI (by decide) (by decide)) dL_dot_9 (fun H2 locs2 hP2 _ hS => ?_)
    refine lv_goto (tgt := 21) hC.1 hC.2.1 dL_dot_10 (by decide) ?_
    refine lv_iconst (v := 0) hC.1 hC.2.1 dL_dot_21 (by decide) ?_
    exact vx_ret (eE_i hC (by rw [hF]; rfl) ⟨b', hR, by rw [hF]; exact wl_set hP2⟩ hS dL_dot_22)
  · obtain ⟨b', hR, hP1⟩ := hB
    have hPj := wl_join hP hne hk hP1
    rcases K_dot hF with hk0 | hk0
    · subst hk0
      refine ctch hC (hKN.go hAL hS) hk3 [] ⟨0, 10, 13, 28⟩ [⟨0, 10, 17, 13⟩] (hX.trans rfl) (fun z h => nomatch h) rfl (by decide) wd_725 hc1 hc2 hc3 ?_
      refine lv_astore (lv' := [(4, .ref q9), (0, .ref (a 0)), (1, .int x1), (2, .int x2), (3, .ref w)]) hC.1 hC.2.1 dL_dot_13 hl (by decide) rfl (fun ls hl => ?_)
      refine lv_iconst (v := 1) hC.1 hC.2.1 dL_dot_15 (by decide) ?_
      exact vx_ret (eE_i hC (by rw [hF]; rfl) ⟨b', hR, by rw [hF]; exact hPj⟩ hS dL_dot_16)
    · subst hk0
      refine ctch hC (hKN.go hAL hS) hk3 [⟨0, 10, 13, 28⟩] ⟨0, 10, 17, 13⟩ [] (hX.trans rfl) (fun z h => by cases h with | head => exact ⟨by decide, _, wd_725, hKN.2.2.2.2.2.2.1⟩ | tail _ h => nomatch h) rfl (by decide) wd_600 hc1 hc2 hc3 ?_
      refine lv_astore (lv' := [(4, .ref q9), (0, .ref (a 0)), (1, .int x1), (2, .int x2), (3, .ref w)]) hC.1 hC.2.1 dL_dot_17 hl (by decide) rfl (fun ls hl => ?_)
      refine lv_iconst (v := 2) hC.1 hC.2.1 dL_dot_19 (by decide) ?_
      exact vx_ret (eE_i hC (by rw [hF]; rfl) ⟨b', hR, by rw [hF]; exact hPj⟩ hS dL_dot_20)
set_option maxRecDepth 100000 in
theorem K_kept {x x' : HV} {x1 : Int32} {x2 : Int32} {k : Nat} (h : fX5_kept x x1 x2 = .inr (k, x')) : k = 0 := by
  unfold fX5_kept at h
  try dsimp only at h
  (repeat' split at h)
  all_goals (first | (cases h; done) | (cases h; first | rfl | exact Or.inl rfl | exact Or.inr rfl))
theorem dL_kept_0 : decode cL_kept 0 = .ok (.aload_n 3, 1) := by decide +kernel
theorem dL_kept_1 : decode cL_kept 1 = .ok (.iconst 0, 1) := by decide +kernel
theorem dL_kept_2 : decode cL_kept 2 = .ok (.aload_n 0, 1) := by decide +kernel
theorem dL_kept_3 : decode cL_kept 3 = .ok (.iload_n 1, 1) := by decide +kernel
theorem dL_kept_4 : decode cL_kept 4 = .ok (.iload_n 2, 1) := by decide +kernel
theorem dL_kept_5 : decode cL_kept 5 = .ok (.invokevirtual 51, 3) := by decide +kernel
theorem dL_kept_8 : decode cL_kept 8 = .ok (.i2l, 1) := by decide +kernel
theorem dL_kept_9 : decode cL_kept 9 = .ok (.lastore, 1) := by decide +kernel
theorem dL_kept_10 : decode cL_kept 10 = .ok (.goto 7, 3) := by decide +kernel
theorem dL_kept_13 : decode cL_kept 13 = .ok (.astore 4, 2) := by decide +kernel
theorem dL_kept_15 : decode cL_kept 15 = .ok (.iconst 1, 1) := by decide +kernel
theorem dL_kept_16 : decode cL_kept 16 = .ok (.ireturn, 1) := by decide +kernel
theorem dL_kept_17 : decode cL_kept 17 = .ok (.iconst 0, 1) := by decide +kernel
theorem dL_kept_18 : decode cL_kept 18 = .ok (.ireturn, 1) := by decide +kernel
set_option maxHeartbeats 1000000 in
set_option maxRecDepth 100000 in
theorem c_L_kept (l : Launch) (hL : l.stackTraces = false) (G : GT) (a b0 : Nat → Nat) (x : HV) (w : Nat) (y : Int64) (x1 : Int32) (x2 : Int32) (hq : hdD G a b0) (hw : gL G ≤ w) (hne : ∀ z, hdA a b0 z → z ≠ w) : vx_Met l yL_kept (Cond.codeWith yL_kept cL_kept 5 (some .int) [(0, 10, 13, 13)] :: bigW) ({ frames := 7, cells := 1, slots := 6, locals := 104 }) (BP G [.ref (a 0), .int x1, .int x2, .ref w] (fun _ H => PW G (wlE G w y :: hdW G a b0 x) H)) (QE (some (.int (codeL (fun k => 1) (fX5_kept x x1 x2)))) (fun H => ∃ b', hdR G a b0 b' ∧ PW G (wlE G w (ansL (fX5_kept x x1 x2) y) :: hdW G a b' (wldL (fX5_kept x x1 x2))) H) (wlA a b0 w)) (fun _ _ _ => False) 1 6 (wlA a b0 w) := by
  refine met_ofXH (by decide) (Nat.le_of_ble_eq_true rfl) ?_
  intro p e s m below meth c ls hC hX hKN hP hl
  have hP : PW G (wlE G w y :: hdW G a b0 x) s.heap := hP
  have hl : lv_has ls 5 [(0, .ref (a 0)), (1, .int x1), (2, .int x2), (3, .ref w)] := hl
  have hS : va_S (wlA a b0 w) s.heap s.heap [] := va_S.rf
  have hAL := wl_low hq hw
  have hPw : PW G (hdW G a b0 x) s.heap := (PW_cons.mp hP).2
  refine lv_aload_n hC.1 hC.2.1 dL_kept_0 rfl (lv_at hl 3 rfl) ?_
  refine lv_iconst (v := 0) hC.1 hC.2.1 dL_kept_1 (by decide) ?_
  refine lv_aload_n hC.1 hC.2.1 dL_kept_2 rfl (lv_at hl 0 rfl) ?_
  refine lv_iload_n hC.1 hC.2.1 dL_kept_3 rfl (lv_at hl 1 rfl) ?_
  refine lv_iload_n hC.1 hC.2.1 dL_kept_4 rfl (lv_at hl 2 rfl) ?_
  refine runT (rVT (B := fun U H => PW G (hdW G a b0 x) H) (As := [.int x1, .int x2]) (rest := [.int 0, .ref w]) hC mwX5_kept (c_X5_kept l hL G a b0 x x1 x2 hq) iwX5_kept wd_839 ⟨rfl, rfl⟩ ⟨Nat.le_of_ble_eq_true rfl, Nat.le_of_ble_eq_true rfl⟩ (stb_h (fun H => PW G (hdW G a b0 x) H)) hKN hPw (va_recv hKN.k hPw (ci := 5) (q0 := 0) rfl rfl) rfl hl.1 rfl (Nat.le_of_ble_eq_true rfl) dL_kept_5 ⟨Nat.le_of_ble_eq_true rfl, Nat.le_of_ble_eq_true rfl⟩) hS (fun _ h => Or.inr h) (fun _ h => Or.inr h) (fun x' v hF H1 locs1 hB hz hk hS => ?_) (fun k x' hF hk3 ce q9 H1 locs1 hB hz hk hS hc1 hc2 hc3 => ?_)
  · obtain ⟨b', hR, hP1⟩ := hB
    have hPj := wl_join hP hne hk hP1
    refine lv_i2l (v := v.toInt64) hC.1 hC.2.1 dL_kept_8 rfl ?_
    refine va_last hC.1 hC.2.1 (KN.k (hKN.go hAL hS)) hPj (wl_D hR hne) hS 0 1 rfl rfl (show vp_in (nI 0) 1 from vp_in_nI (by decide) (by decide)) dL_kept_9 (fun H2 locs2 hP2 _ hS => ?_)
    refine lv_goto (tgt := 17) hC.1 hC.2.1 dL_kept_10 (by decide) ?_
    refine lv_iconst (v := 0) hC.1 hC.2.1 dL_kept_17 (by decide) ?_
    exact vx_ret (eE_i hC (by rw [hF]; rfl) ⟨b', hR, by rw [hF]; exact wl_set hP2⟩ hS dL_kept_18)
  · obtain ⟨b', hR, hP1⟩ := hB
    have hPj := wl_join hP hne hk hP1
    have hk0 : k = 0 := K_kept hF
    subst hk0
    refine ctch hC (hKN.go hAL hS) hk3 [] ⟨0, 10, 13, 13⟩ [] (hX.trans rfl) (fun z h => nomatch h) rfl (by decide) wd_600 hc1 hc2 hc3 ?_
    refine lv_astore (lv' := [(4, .ref q9), (0, .ref (a 0)), (1, .int x1), (2, .int x2), (3, .ref w)]) hC.1 hC.2.1 dL_kept_13 hl (by decide) rfl (fun ls hl => ?_)
    refine lv_iconst (v := 1) hC.1 hC.2.1 dL_kept_15 (by decide) ?_
    exact vx_ret (eE_i hC (by rw [hF]; rfl) ⟨b', hR, by rw [hF]; exact hPj⟩ hS dL_kept_16)
set_option maxRecDepth 100000 in
theorem K_count {x x' : HV} {x1 : Int32} {k : Nat} (h : fX5_count x x1 = .inr (k, x')) : k = 0 := by
  unfold fX5_count at h
  try dsimp only at h
  (repeat' split at h)
  all_goals (first | (cases h; done) | (cases h; first | rfl | exact Or.inl rfl | exact Or.inr rfl))
theorem dL_count_0 : decode cL_count 0 = .ok (.aload_n 2, 1) := by decide +kernel
theorem dL_count_1 : decode cL_count 1 = .ok (.iconst 0, 1) := by decide +kernel
theorem dL_count_2 : decode cL_count 2 = .ok (.aload_n 0, 1) := by decide +kernel
theorem dL_count_3 : decode cL_count 3 = .ok (.iload_n 1, 1) := by decide +kernel
theorem dL_count_4 : decode cL_count 4 = .ok (.invokevirtual 54, 3) := by decide +kernel
theorem dL_count_7 : decode cL_count 7 = .ok (.i2l, 1) := by decide +kernel
theorem dL_count_8 : decode cL_count 8 = .ok (.lastore, 1) := by decide +kernel
theorem dL_count_9 : decode cL_count 9 = .ok (.goto 6, 3) := by decide +kernel
theorem dL_count_12 : decode cL_count 12 = .ok (.astore_n 3, 1) := by decide +kernel
theorem dL_count_13 : decode cL_count 13 = .ok (.iconst 1, 1) := by decide +kernel
theorem dL_count_14 : decode cL_count 14 = .ok (.ireturn, 1) := by decide +kernel
theorem dL_count_15 : decode cL_count 15 = .ok (.iconst 0, 1) := by decide +kernel
theorem dL_count_16 : decode cL_count 16 = .ok (.ireturn, 1) := by decide +kernel
set_option maxHeartbeats 1000000 in
set_option maxRecDepth 100000 in
theorem c_L_count (l : Launch) (hL : l.stackTraces = false) (G : GT) (a b0 : Nat → Nat) (x : HV) (w : Nat) (y : Int64) (x1 : Int32) (hq : hdD G a b0) (hw : gL G ≤ w) (hne : ∀ z, hdA a b0 z → z ≠ w) : vx_Met l yL_count (Cond.codeWith yL_count cL_count 4 (some .int) [(0, 9, 12, 13)] :: bigW) ({ frames := 7, cells := 1, slots := 6, locals := 103 }) (BP G [.ref (a 0), .int x1, .ref w] (fun _ H => PW G (wlE G w y :: hdW G a b0 x) H)) (QE (some (.int (codeL (fun k => 1) (fX5_count x x1)))) (fun H => ∃ b', hdR G a b0 b' ∧ PW G (wlE G w (ansL (fX5_count x x1) y) :: hdW G a b' (wldL (fX5_count x x1))) H) (wlA a b0 w)) (fun _ _ _ => False) 1 6 (wlA a b0 w) := by
  refine met_ofXH (by decide) (Nat.le_of_ble_eq_true rfl) ?_
  intro p e s m below meth c ls hC hX hKN hP hl
  have hP : PW G (wlE G w y :: hdW G a b0 x) s.heap := hP
  have hl : lv_has ls 4 [(0, .ref (a 0)), (1, .int x1), (2, .ref w)] := hl
  have hS : va_S (wlA a b0 w) s.heap s.heap [] := va_S.rf
  have hAL := wl_low hq hw
  have hPw : PW G (hdW G a b0 x) s.heap := (PW_cons.mp hP).2
  refine lv_aload_n hC.1 hC.2.1 dL_count_0 rfl (lv_at hl 2 rfl) ?_
  refine lv_iconst (v := 0) hC.1 hC.2.1 dL_count_1 (by decide) ?_
  refine lv_aload_n hC.1 hC.2.1 dL_count_2 rfl (lv_at hl 0 rfl) ?_
  refine lv_iload_n hC.1 hC.2.1 dL_count_3 rfl (lv_at hl 1 rfl) ?_
  refine runT (rVT (B := fun U H => PW G (hdW G a b0 x) H) (As := [.int x1]) (rest := [.int 0, .ref w]) hC mwX5_count (c_X5_count l hL G a b0 x x1 hq) iwX5_count wd_847 ⟨rfl, rfl⟩ ⟨Nat.le_of_ble_eq_true rfl, Nat.le_of_ble_eq_true rfl⟩ (stb_h (fun H => PW G (hdW G a b0 x) H)) hKN hPw (va_recv hKN.k hPw (ci := 5) (q0 := 0) rfl rfl) rfl hl.1 rfl (Nat.le_of_ble_eq_true rfl) dL_count_4 ⟨Nat.le_of_ble_eq_true rfl, Nat.le_of_ble_eq_true rfl⟩) hS (fun _ h => Or.inr h) (fun _ h => Or.inr h) (fun x' v hF H1 locs1 hB hz hk hS => ?_) (fun k x' hF hk3 ce q9 H1 locs1 hB hz hk hS hc1 hc2 hc3 => ?_)
  · obtain ⟨b', hR, hP1⟩ := hB
    have hPj := wl_join hP hne hk hP1
    refine lv_i2l (v := v.toInt64) hC.1 hC.2.1 dL_count_7 rfl ?_
    refine va_last hC.1 hC.2.1 (KN.k (hKN.go hAL hS)) hPj (wl_D hR hne) hS 0 1 rfl rfl (show vp_in (nI 0) 1 from vp_in_nI (by decide) (by decide)) dL_count_8 (fun H2 locs2 hP2 _ hS => ?_)
    refine lv_goto (tgt := 15) hC.1 hC.2.1 dL_count_9 (by decide) ?_
    refine lv_iconst (v := 0) hC.1 hC.2.1 dL_count_15 (by decide) ?_
    exact vx_ret (eE_i hC (by rw [hF]; rfl) ⟨b', hR, by rw [hF]; exact wl_set hP2⟩ hS dL_count_16)
  · obtain ⟨b', hR, hP1⟩ := hB
    have hPj := wl_join hP hne hk hP1
    have hk0 : k = 0 := K_count hF
    subst hk0
    refine ctch hC (hKN.go hAL hS) hk3 [] ⟨0, 9, 12, 13⟩ [] (hX.trans rfl) (fun z h => nomatch h) rfl (by decide) wd_600 hc1 hc2 hc3 ?_
    refine lv_astore_n (lv' := [(3, .ref q9), (0, .ref (a 0)), (1, .int x1), (2, .ref w)]) hC.1 hC.2.1 dL_count_12 rfl hl (by decide) rfl (fun ls hl => ?_)
    refine lv_iconst (v := 1) hC.1 hC.2.1 dL_count_13 (by decide) ?_
    exact vx_ret (eE_i hC (by rw [hF]; rfl) ⟨b', hR, by rw [hF]; exact hPj⟩ hS dL_count_14)
set_option maxRecDepth 100000 in
theorem K_ifPrinted {x x' : HV} {x1 : Int32} {x2 : Int32} {k : Nat} (h : fX5_ifPrinted x x1 x2 = .inr (k, x')) : k = 0 := by
  unfold fX5_ifPrinted at h
  try dsimp only at h
  (repeat' split at h)
  all_goals (first | (cases h; done) | (cases h; first | rfl | exact Or.inl rfl | exact Or.inr rfl))
theorem dL_ifPrinted_0 : decode cL_ifPrinted 0 = .ok (.aload_n 3, 1) := by decide +kernel
theorem dL_ifPrinted_1 : decode cL_ifPrinted 1 = .ok (.iconst 0, 1) := by decide +kernel
theorem dL_ifPrinted_2 : decode cL_ifPrinted 2 = .ok (.aload_n 0, 1) := by decide +kernel
theorem dL_ifPrinted_3 : decode cL_ifPrinted 3 = .ok (.iload_n 1, 1) := by decide +kernel
theorem dL_ifPrinted_4 : decode cL_ifPrinted 4 = .ok (.iload_n 2, 1) := by decide +kernel
theorem dL_ifPrinted_5 : decode cL_ifPrinted 5 = .ok (.invokevirtual 57, 3) := by decide +kernel
theorem dL_ifPrinted_8 : decode cL_ifPrinted 8 = .ok (.i2l, 1) := by decide +kernel
theorem dL_ifPrinted_9 : decode cL_ifPrinted 9 = .ok (.lastore, 1) := by decide +kernel
theorem dL_ifPrinted_10 : decode cL_ifPrinted 10 = .ok (.goto 7, 3) := by decide +kernel
theorem dL_ifPrinted_13 : decode cL_ifPrinted 13 = .ok (.astore 4, 2) := by decide +kernel
theorem dL_ifPrinted_15 : decode cL_ifPrinted 15 = .ok (.iconst 1, 1) := by decide +kernel
theorem dL_ifPrinted_16 : decode cL_ifPrinted 16 = .ok (.ireturn, 1) := by decide +kernel
theorem dL_ifPrinted_17 : decode cL_ifPrinted 17 = .ok (.iconst 0, 1) := by decide +kernel
theorem dL_ifPrinted_18 : decode cL_ifPrinted 18 = .ok (.ireturn, 1) := by decide +kernel
set_option maxHeartbeats 1000000 in
set_option maxRecDepth 100000 in
theorem c_L_ifPrinted (l : Launch) (hL : l.stackTraces = false) (G : GT) (a b0 : Nat → Nat) (x : HV) (w : Nat) (y : Int64) (x1 : Int32) (x2 : Int32) (hq : hdD G a b0) (hw : gL G ≤ w) (hne : ∀ z, hdA a b0 z → z ≠ w) : vx_Met l yL_ifPrinted (Cond.codeWith yL_ifPrinted cL_ifPrinted 5 (some .int) [(0, 10, 13, 13)] :: bigW) ({ frames := 7, cells := 1, slots := 6, locals := 143 }) (BP G [.ref (a 0), .int x1, .int x2, .ref w] (fun _ H => PW G (wlE G w y :: hdW G a b0 x) H)) (QE (some (.int (codeL (fun k => 1) (fX5_ifPrinted x x1 x2)))) (fun H => ∃ b', hdR G a b0 b' ∧ PW G (wlE G w (ansL (fX5_ifPrinted x x1 x2) y) :: hdW G a b' (wldL (fX5_ifPrinted x x1 x2))) H) (wlA a b0 w)) (fun _ _ _ => False) 1 6 (wlA a b0 w) := by
  refine met_ofXH (by decide) (Nat.le_of_ble_eq_true rfl) ?_
  intro p e s m below meth c ls hC hX hKN hP hl
  have hP : PW G (wlE G w y :: hdW G a b0 x) s.heap := hP
  have hl : lv_has ls 5 [(0, .ref (a 0)), (1, .int x1), (2, .int x2), (3, .ref w)] := hl
  have hS : va_S (wlA a b0 w) s.heap s.heap [] := va_S.rf
  have hAL := wl_low hq hw
  have hPw : PW G (hdW G a b0 x) s.heap := (PW_cons.mp hP).2
  refine lv_aload_n hC.1 hC.2.1 dL_ifPrinted_0 rfl (lv_at hl 3 rfl) ?_
  refine lv_iconst (v := 0) hC.1 hC.2.1 dL_ifPrinted_1 (by decide) ?_
  refine lv_aload_n hC.1 hC.2.1 dL_ifPrinted_2 rfl (lv_at hl 0 rfl) ?_
  refine lv_iload_n hC.1 hC.2.1 dL_ifPrinted_3 rfl (lv_at hl 1 rfl) ?_
  refine lv_iload_n hC.1 hC.2.1 dL_ifPrinted_4 rfl (lv_at hl 2 rfl) ?_
  refine runT (rVT (B := fun U H => PW G (hdW G a b0 x) H) (As := [.int x1, .int x2]) (rest := [.int 0, .ref w]) hC mwX5_ifPrinted (c_X5_ifPrinted l hL G a b0 x x1 x2 hq) iwX5_ifPrinted wd_854 ⟨rfl, rfl⟩ ⟨Nat.le_of_ble_eq_true rfl, Nat.le_of_ble_eq_true rfl⟩ (stb_h (fun H => PW G (hdW G a b0 x) H)) hKN hPw (va_recv hKN.k hPw (ci := 5) (q0 := 0) rfl rfl) rfl hl.1 rfl (Nat.le_of_ble_eq_true rfl) dL_ifPrinted_5 ⟨Nat.le_of_ble_eq_true rfl, Nat.le_of_ble_eq_true rfl⟩) hS (fun _ h => Or.inr h) (fun _ h => Or.inr h) (fun x' v hF H1 locs1 hB hz hk hS => ?_) (fun k x' hF hk3 ce q9 H1 locs1 hB hz hk hS hc1 hc2 hc3 => ?_)
  · obtain ⟨b', hR, hP1⟩ := hB
    have hPj := wl_join hP hne hk hP1
    refine lv_i2l (v := v.toInt64) hC.1 hC.2.1 dL_ifPrinted_8 rfl ?_
    refine va_last hC.1 hC.2.1 (KN.k (hKN.go hAL hS)) hPj (wl_D hR hne) hS 0 1 rfl rfl (show vp_in (nI 0) 1 from vp_in_nI (by decide) (by decide)) dL_ifPrinted_9 (fun H2 locs2 hP2 _ hS => ?_)
    refine lv_goto (tgt := 17) hC.1 hC.2.1 dL_ifPrinted_10 (by decide) ?_
    refine lv_iconst (v := 0) hC.1 hC.2.1 dL_ifPrinted_17 (by decide) ?_
    exact vx_ret (eE_i hC (by rw [hF]; rfl) ⟨b', hR, by rw [hF]; exact wl_set hP2⟩ hS dL_ifPrinted_18)
  · obtain ⟨b', hR, hP1⟩ := hB
    have hPj := wl_join hP hne hk hP1
    have hk0 : k = 0 := K_ifPrinted hF
    subst hk0
    refine ctch hC (hKN.go hAL hS) hk3 [] ⟨0, 10, 13, 13⟩ [] (hX.trans rfl) (fun z h => nomatch h) rfl (by decide) wd_600 hc1 hc2 hc3 ?_
    refine lv_astore (lv' := [(4, .ref q9), (0, .ref (a 0)), (1, .int x1), (2, .int x2), (3, .ref w)]) hC.1 hC.2.1 dL_ifPrinted_13 hl (by decide) rfl (fun ls hl => ?_)
    refine lv_iconst (v := 1) hC.1 hC.2.1 dL_ifPrinted_15 (by decide) ?_
    exact vx_ret (eE_i hC (by rw [hF]; rfl) ⟨b', hR, by rw [hF]; exact hPj⟩ hS dL_ifPrinted_16)
set_option maxRecDepth 100000 in
theorem K_betterWay {x x' : HV} {x1 : Int32} {k : Nat} (h : fX5_betterWay x x1 = .inr (k, x')) : k = 0 := by
  unfold fX5_betterWay at h
  try dsimp only at h
  (repeat' split at h)
  all_goals (first | (cases h; done) | (cases h; first | rfl | exact Or.inl rfl | exact Or.inr rfl))
theorem dL_betterWay_0 : decode cL_betterWay 0 = .ok (.aload_n 2, 1) := by decide +kernel
theorem dL_betterWay_1 : decode cL_betterWay 1 = .ok (.iconst 0, 1) := by decide +kernel
theorem dL_betterWay_2 : decode cL_betterWay 2 = .ok (.aload_n 0, 1) := by decide +kernel
theorem dL_betterWay_3 : decode cL_betterWay 3 = .ok (.iload_n 1, 1) := by decide +kernel
theorem dL_betterWay_4 : decode cL_betterWay 4 = .ok (.invokevirtual 60, 3) := by decide +kernel
theorem dL_betterWay_7 : decode cL_betterWay 7 = .ok (.i2l, 1) := by decide +kernel
theorem dL_betterWay_8 : decode cL_betterWay 8 = .ok (.lastore, 1) := by decide +kernel
theorem dL_betterWay_9 : decode cL_betterWay 9 = .ok (.goto 6, 3) := by decide +kernel
theorem dL_betterWay_12 : decode cL_betterWay 12 = .ok (.astore_n 3, 1) := by decide +kernel
theorem dL_betterWay_13 : decode cL_betterWay 13 = .ok (.iconst 1, 1) := by decide +kernel
theorem dL_betterWay_14 : decode cL_betterWay 14 = .ok (.ireturn, 1) := by decide +kernel
theorem dL_betterWay_15 : decode cL_betterWay 15 = .ok (.iconst 0, 1) := by decide +kernel
theorem dL_betterWay_16 : decode cL_betterWay 16 = .ok (.ireturn, 1) := by decide +kernel
set_option maxHeartbeats 1000000 in
set_option maxRecDepth 100000 in
theorem c_L_betterWay (l : Launch) (hL : l.stackTraces = false) (G : GT) (a b0 : Nat → Nat) (x : HV) (w : Nat) (y : Int64) (x1 : Int32) (hq : hdD G a b0) (hw : gL G ≤ w) (hne : ∀ z, hdA a b0 z → z ≠ w) : vx_Met l yL_betterWay (Cond.codeWith yL_betterWay cL_betterWay 4 (some .int) [(0, 9, 12, 13)] :: bigW) ({ frames := 7, cells := 1, slots := 6, locals := 164 }) (BP G [.ref (a 0), .int x1, .ref w] (fun _ H => PW G (wlE G w y :: hdW G a b0 x) H)) (QE (some (.int (codeL (fun k => 1) (fX5_betterWay x x1)))) (fun H => ∃ b', hdR G a b0 b' ∧ PW G (wlE G w (ansL (fX5_betterWay x x1) y) :: hdW G a b' (wldL (fX5_betterWay x x1))) H) (wlA a b0 w)) (fun _ _ _ => False) 1 6 (wlA a b0 w) := by
  refine met_ofXH (by decide) (Nat.le_of_ble_eq_true rfl) ?_
  intro p e s m below meth c ls hC hX hKN hP hl
  have hP : PW G (wlE G w y :: hdW G a b0 x) s.heap := hP
  have hl : lv_has ls 4 [(0, .ref (a 0)), (1, .int x1), (2, .ref w)] := hl
  have hS : va_S (wlA a b0 w) s.heap s.heap [] := va_S.rf
  have hAL := wl_low hq hw
  have hPw : PW G (hdW G a b0 x) s.heap := (PW_cons.mp hP).2
  refine lv_aload_n hC.1 hC.2.1 dL_betterWay_0 rfl (lv_at hl 2 rfl) ?_
  refine lv_iconst (v := 0) hC.1 hC.2.1 dL_betterWay_1 (by decide) ?_
  refine lv_aload_n hC.1 hC.2.1 dL_betterWay_2 rfl (lv_at hl 0 rfl) ?_
  refine lv_iload_n hC.1 hC.2.1 dL_betterWay_3 rfl (lv_at hl 1 rfl) ?_
  refine runT (rVT (B := fun U H => PW G (hdW G a b0 x) H) (As := [.int x1]) (rest := [.int 0, .ref w]) hC mwX5_betterWay (c_X5_betterWay l hL G a b0 x x1 hq) iwX5_betterWay wd_862 ⟨rfl, rfl⟩ ⟨Nat.le_of_ble_eq_true rfl, Nat.le_of_ble_eq_true rfl⟩ (stb_h (fun H => PW G (hdW G a b0 x) H)) hKN hPw (va_recv hKN.k hPw (ci := 5) (q0 := 0) rfl rfl) rfl hl.1 rfl (Nat.le_of_ble_eq_true rfl) dL_betterWay_4 ⟨Nat.le_of_ble_eq_true rfl, Nat.le_of_ble_eq_true rfl⟩) hS (fun _ h => Or.inr h) (fun _ h => Or.inr h) (fun x' v hF H1 locs1 hB hz hk hS => ?_) (fun k x' hF hk3 ce q9 H1 locs1 hB hz hk hS hc1 hc2 hc3 => ?_)
  · obtain ⟨b', hR, hP1⟩ := hB
    have hPj := wl_join hP hne hk hP1
    refine lv_i2l (v := v.toInt64) hC.1 hC.2.1 dL_betterWay_7 rfl ?_
    refine va_last hC.1 hC.2.1 (KN.k (hKN.go hAL hS)) hPj (wl_D hR hne) hS 0 1 rfl rfl (show vp_in (nI 0) 1 from vp_in_nI (by decide) (by decide)) dL_betterWay_8 (fun H2 locs2 hP2 _ hS => ?_)
    refine lv_goto (tgt := 15) hC.1 hC.2.1 dL_betterWay_9 (by decide) ?_
    refine lv_iconst (v := 0) hC.1 hC.2.1 dL_betterWay_15 (by decide) ?_
    exact vx_ret (eE_i hC (by rw [hF]; rfl) ⟨b', hR, by rw [hF]; exact wl_set hP2⟩ hS dL_betterWay_16)
  · obtain ⟨b', hR, hP1⟩ := hB
    have hPj := wl_join hP hne hk hP1
    have hk0 : k = 0 := K_betterWay hF
    subst hk0
    refine ctch hC (hKN.go hAL hS) hk3 [] ⟨0, 9, 12, 13⟩ [] (hX.trans rfl) (fun z h => nomatch h) rfl (by decide) wd_600 hc1 hc2 hc3 ?_
    refine lv_astore_n (lv' := [(3, .ref q9), (0, .ref (a 0)), (1, .int x1), (2, .ref w)]) hC.1 hC.2.1 dL_betterWay_12 rfl hl (by decide) rfl (fun ls hl => ?_)
    refine lv_iconst (v := 1) hC.1 hC.2.1 dL_betterWay_13 (by decide) ?_
    exact vx_ret (eE_i hC (by rw [hF]; rfl) ⟨b', hR, by rw [hF]; exact hPj⟩ hS dL_betterWay_14)
set_option maxRecDepth 100000 in
theorem K_coolIn {x x' : HV} {x1 : Int32} {k : Nat} (h : fX5_coolIn x x1 = .inr (k, x')) : k = 0 := by
  unfold fX5_coolIn at h
  try dsimp only at h
  (repeat' split at h)
  all_goals (first | (cases h; done) | (cases h; first | rfl | exact Or.inl rfl | exact Or.inr rfl))
theorem dL_coolIn_0 : decode cL_coolIn 0 = .ok (.aload_n 2, 1) := by decide +kernel
theorem dL_coolIn_1 : decode cL_coolIn 1 = .ok (.iconst 0, 1) := by decide +kernel
theorem dL_coolIn_2 : decode cL_coolIn 2 = .ok (.aload_n 0, 1) := by decide +kernel
theorem dL_coolIn_3 : decode cL_coolIn 3 = .ok (.iload_n 1, 1) := by decide +kernel
theorem dL_coolIn_4 : decode cL_coolIn 4 = .ok (.invokevirtual 63, 3) := by decide +kernel
theorem dL_coolIn_7 : decode cL_coolIn 7 = .ok (.i2l, 1) := by decide +kernel
theorem dL_coolIn_8 : decode cL_coolIn 8 = .ok (.lastore, 1) := by decide +kernel
theorem dL_coolIn_9 : decode cL_coolIn 9 = .ok (.goto 6, 3) := by decide +kernel
theorem dL_coolIn_12 : decode cL_coolIn 12 = .ok (.astore_n 3, 1) := by decide +kernel
theorem dL_coolIn_13 : decode cL_coolIn 13 = .ok (.iconst 1, 1) := by decide +kernel
theorem dL_coolIn_14 : decode cL_coolIn 14 = .ok (.ireturn, 1) := by decide +kernel
theorem dL_coolIn_15 : decode cL_coolIn 15 = .ok (.iconst 0, 1) := by decide +kernel
theorem dL_coolIn_16 : decode cL_coolIn 16 = .ok (.ireturn, 1) := by decide +kernel
set_option maxHeartbeats 1000000 in
set_option maxRecDepth 100000 in
theorem c_L_coolIn (l : Launch) (hL : l.stackTraces = false) (G : GT) (a b0 : Nat → Nat) (x : HV) (w : Nat) (y : Int64) (x1 : Int32) (hq : hdD G a b0) (hw : gL G ≤ w) (hne : ∀ z, hdA a b0 z → z ≠ w) : vx_Met l yL_coolIn (Cond.codeWith yL_coolIn cL_coolIn 4 (some .int) [(0, 9, 12, 13)] :: bigW) ({ frames := 7, cells := 1, slots := 6, locals := 103 }) (BP G [.ref (a 0), .int x1, .ref w] (fun _ H => PW G (wlE G w y :: hdW G a b0 x) H)) (QE (some (.int (codeL (fun k => 1) (fX5_coolIn x x1)))) (fun H => ∃ b', hdR G a b0 b' ∧ PW G (wlE G w (ansL (fX5_coolIn x x1) y) :: hdW G a b' (wldL (fX5_coolIn x x1))) H) (wlA a b0 w)) (fun _ _ _ => False) 1 6 (wlA a b0 w) := by
  refine met_ofXH (by decide) (Nat.le_of_ble_eq_true rfl) ?_
  intro p e s m below meth c ls hC hX hKN hP hl
  have hP : PW G (wlE G w y :: hdW G a b0 x) s.heap := hP
  have hl : lv_has ls 4 [(0, .ref (a 0)), (1, .int x1), (2, .ref w)] := hl
  have hS : va_S (wlA a b0 w) s.heap s.heap [] := va_S.rf
  have hAL := wl_low hq hw
  have hPw : PW G (hdW G a b0 x) s.heap := (PW_cons.mp hP).2
  refine lv_aload_n hC.1 hC.2.1 dL_coolIn_0 rfl (lv_at hl 2 rfl) ?_
  refine lv_iconst (v := 0) hC.1 hC.2.1 dL_coolIn_1 (by decide) ?_
  refine lv_aload_n hC.1 hC.2.1 dL_coolIn_2 rfl (lv_at hl 0 rfl) ?_
  refine lv_iload_n hC.1 hC.2.1 dL_coolIn_3 rfl (lv_at hl 1 rfl) ?_
  refine runT (rVT (B := fun U H => PW G (hdW G a b0 x) H) (As := [.int x1]) (rest := [.int 0, .ref w]) hC mwX5_coolIn (c_X5_coolIn l hL G a b0 x x1 hq) iwX5_coolIn wd_869 ⟨rfl, rfl⟩ ⟨Nat.le_of_ble_eq_true rfl, Nat.le_of_ble_eq_true rfl⟩ (stb_h (fun H => PW G (hdW G a b0 x) H)) hKN hPw (va_recv hKN.k hPw (ci := 5) (q0 := 0) rfl rfl) rfl hl.1 rfl (Nat.le_of_ble_eq_true rfl) dL_coolIn_4 ⟨Nat.le_of_ble_eq_true rfl, Nat.le_of_ble_eq_true rfl⟩) hS (fun _ h => Or.inr h) (fun _ h => Or.inr h) (fun x' v hF H1 locs1 hB hz hk hS => ?_) (fun k x' hF hk3 ce q9 H1 locs1 hB hz hk hS hc1 hc2 hc3 => ?_)
  · obtain ⟨b', hR, hP1⟩ := hB
    have hPj := wl_join hP hne hk hP1
    refine lv_i2l (v := v.toInt64) hC.1 hC.2.1 dL_coolIn_7 rfl ?_
    refine va_last hC.1 hC.2.1 (KN.k (hKN.go hAL hS)) hPj (wl_D hR hne) hS 0 1 rfl rfl (show vp_in (nI 0) 1 from vp_in_nI (by decide) (by decide)) dL_coolIn_8 (fun H2 locs2 hP2 _ hS => ?_)
    refine lv_goto (tgt := 15) hC.1 hC.2.1 dL_coolIn_9 (by decide) ?_
    refine lv_iconst (v := 0) hC.1 hC.2.1 dL_coolIn_15 (by decide) ?_
    exact vx_ret (eE_i hC (by rw [hF]; rfl) ⟨b', hR, by rw [hF]; exact wl_set hP2⟩ hS dL_coolIn_16)
  · obtain ⟨b', hR, hP1⟩ := hB
    have hPj := wl_join hP hne hk hP1
    have hk0 : k = 0 := K_coolIn hF
    subst hk0
    refine ctch hC (hKN.go hAL hS) hk3 [] ⟨0, 9, 12, 13⟩ [] (hX.trans rfl) (fun z h => nomatch h) rfl (by decide) wd_600 hc1 hc2 hc3 ?_
    refine lv_astore_n (lv' := [(3, .ref q9), (0, .ref (a 0)), (1, .int x1), (2, .ref w)]) hC.1 hC.2.1 dL_coolIn_12 rfl hl (by decide) rfl (fun ls hl => ?_)
    refine lv_iconst (v := 1) hC.1 hC.2.1 dL_coolIn_13 (by decide) ?_
    exact vx_ret (eE_i hC (by rw [hF]; rfl) ⟨b', hR, by rw [hF]; exact hPj⟩ hS dL_coolIn_14)
set_option maxRecDepth 100000 in
theorem K_darkFrom {x x' : HV} {x1 : Int32} {k : Nat} (h : fX5_darkFrom x x1 = .inr (k, x')) : k = 1 := by
  unfold fX5_darkFrom at h
  try dsimp only at h
  (repeat' split at h)
  all_goals (first | (cases h; done) | (cases h; first | rfl | exact Or.inl rfl | exact Or.inr rfl))
theorem dL_darkFrom_0 : decode cL_darkFrom 0 = .ok (.aload_n 2, 1) := by decide +kernel
theorem dL_darkFrom_1 : decode cL_darkFrom 1 = .ok (.iconst 0, 1) := by decide +kernel
theorem dL_darkFrom_2 : decode cL_darkFrom 2 = .ok (.aload_n 0, 1) := by decide +kernel
theorem dL_darkFrom_3 : decode cL_darkFrom 3 = .ok (.iload_n 1, 1) := by decide +kernel
theorem dL_darkFrom_4 : decode cL_darkFrom 4 = .ok (.invokevirtual 66, 3) := by decide +kernel
theorem dL_darkFrom_7 : decode cL_darkFrom 7 = .ok (.i2l, 1) := by decide +kernel
theorem dL_darkFrom_8 : decode cL_darkFrom 8 = .ok (.lastore, 1) := by decide +kernel
theorem dL_darkFrom_9 : decode cL_darkFrom 9 = .ok (.goto 6, 3) := by decide +kernel
theorem dL_darkFrom_12 : decode cL_darkFrom 12 = .ok (.astore_n 3, 1) := by decide +kernel
theorem dL_darkFrom_13 : decode cL_darkFrom 13 = .ok (.iconst 1, 1) := by decide +kernel
theorem dL_darkFrom_14 : decode cL_darkFrom 14 = .ok (.ireturn, 1) := by decide +kernel
theorem dL_darkFrom_15 : decode cL_darkFrom 15 = .ok (.iconst 0, 1) := by decide +kernel
theorem dL_darkFrom_16 : decode cL_darkFrom 16 = .ok (.ireturn, 1) := by decide +kernel
set_option maxHeartbeats 1000000 in
set_option maxRecDepth 100000 in
theorem c_L_darkFrom (l : Launch) (hL : l.stackTraces = false) (G : GT) (a b0 : Nat → Nat) (x : HV) (w : Nat) (y : Int64) (x1 : Int32) (hq : hdD G a b0) (hw : gL G ≤ w) (hne : ∀ z, hdA a b0 z → z ≠ w) : vx_Met l yL_darkFrom (Cond.codeWith yL_darkFrom cL_darkFrom 4 (some .int) [(0, 9, 12, 28)] :: bigW) ({ frames := 7, cells := 1, slots := 6, locals := 116 }) (BP G [.ref (a 0), .int x1, .ref w] (fun _ H => PW G (wlE G w y :: hdW G a b0 x) H)) (QE (some (.int (codeL (fun k => 1) (fX5_darkFrom x x1)))) (fun H => ∃ b', hdR G a b0 b' ∧ PW G (wlE G w (ansL (fX5_darkFrom x x1) y) :: hdW G a b' (wldL (fX5_darkFrom x x1))) H) (wlA a b0 w)) (fun _ _ _ => False) 1 6 (wlA a b0 w) := by
  refine met_ofXH (by decide) (Nat.le_of_ble_eq_true rfl) ?_
  intro p e s m below meth c ls hC hX hKN hP hl
  have hP : PW G (wlE G w y :: hdW G a b0 x) s.heap := hP
  have hl : lv_has ls 4 [(0, .ref (a 0)), (1, .int x1), (2, .ref w)] := hl
  have hS : va_S (wlA a b0 w) s.heap s.heap [] := va_S.rf
  have hAL := wl_low hq hw
  have hPw : PW G (hdW G a b0 x) s.heap := (PW_cons.mp hP).2
  refine lv_aload_n hC.1 hC.2.1 dL_darkFrom_0 rfl (lv_at hl 2 rfl) ?_
  refine lv_iconst (v := 0) hC.1 hC.2.1 dL_darkFrom_1 (by decide) ?_
  refine lv_aload_n hC.1 hC.2.1 dL_darkFrom_2 rfl (lv_at hl 0 rfl) ?_
  refine lv_iload_n hC.1 hC.2.1 dL_darkFrom_3 rfl (lv_at hl 1 rfl) ?_
  refine runT (rVT (B := fun U H => PW G (hdW G a b0 x) H) (As := [.int x1]) (rest := [.int 0, .ref w]) hC mwX5_darkFrom (c_X5_darkFrom l hL G a b0 x x1 hq) iwX5_darkFrom wd_877 ⟨rfl, rfl⟩ ⟨Nat.le_of_ble_eq_true rfl, Nat.le_of_ble_eq_true rfl⟩ (stb_h (fun H => PW G (hdW G a b0 x) H)) hKN hPw (va_recv hKN.k hPw (ci := 5) (q0 := 0) rfl rfl) rfl hl.1 rfl (Nat.le_of_ble_eq_true rfl) dL_darkFrom_4 ⟨Nat.le_of_ble_eq_true rfl, Nat.le_of_ble_eq_true rfl⟩) hS (fun _ h => Or.inr h) (fun _ h => Or.inr h) (fun x' v hF H1 locs1 hB hz hk hS => ?_) (fun k x' hF hk3 ce q9 H1 locs1 hB hz hk hS hc1 hc2 hc3 => ?_)
  · obtain ⟨b', hR, hP1⟩ := hB
    have hPj := wl_join hP hne hk hP1
    refine lv_i2l (v := v.toInt64) hC.1 hC.2.1 dL_darkFrom_7 rfl ?_
    refine va_last hC.1 hC.2.1 (KN.k (hKN.go hAL hS)) hPj (wl_D hR hne) hS 0 1 rfl rfl (show vp_in (nI 0) 1 from vp_in_nI (by decide) (by decide)) dL_darkFrom_8 (fun H2 locs2 hP2 _ hS => ?_)
    refine lv_goto (tgt := 15) hC.1 hC.2.1 dL_darkFrom_9 (by decide) ?_
    refine lv_iconst (v := 0) hC.1 hC.2.1 dL_darkFrom_15 (by decide) ?_
    exact vx_ret (eE_i hC (by rw [hF]; rfl) ⟨b', hR, by rw [hF]; exact wl_set hP2⟩ hS dL_darkFrom_16)
  · obtain ⟨b', hR, hP1⟩ := hB
    have hPj := wl_join hP hne hk hP1
    have hk0 : k = 1 := K_darkFrom hF
    subst hk0
    refine ctch hC (hKN.go hAL hS) hk3 [] ⟨0, 9, 12, 28⟩ [] (hX.trans rfl) (fun z h => nomatch h) rfl (by decide) wd_725 hc1 hc2 hc3 ?_
    refine lv_astore_n (lv' := [(3, .ref q9), (0, .ref (a 0)), (1, .int x1), (2, .ref w)]) hC.1 hC.2.1 dL_darkFrom_12 rfl hl (by decide) rfl (fun ls hl => ?_)
    refine lv_iconst (v := 1) hC.1 hC.2.1 dL_darkFrom_13 (by decide) ?_
    exact vx_ret (eE_i hC (by rw [hF]; rfl) ⟨b', hR, by rw [hF]; exact hPj⟩ hS dL_darkFrom_14)
