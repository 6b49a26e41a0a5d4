/-! the law's wrappers -/
def wldL (F : (HV × Int32) ⊕ (Nat × HV)) : HV := match F with
  | .inl r => r.1
  | .inr r => r.2
def ansL (F : (HV × Int32) ⊕ (Nat × HV)) (y : Int64) : Int64 := match F with
  | .inl r => r.2.toInt64
  | .inr _ => y
def codeL (t : Nat → Int32) (F : (HV × Int32) ⊕ (Nat × HV)) : Int32 := match F with
  | .inl _ => 0
  | .inr r => t r.1
def wlE (G : GT) (w : Nat) (y : Int64) : Nat × va_E := (w, .inl (gJ G, 1, .inr (.inl (fun _ => y))))
def wlA (a b : Nat → Nat) (w : Nat) : Nat → Prop := fun z => z = w ∨ hdA a b z
theorem PW_cons {G : GT} {x : Nat × va_E} {ws : va_W} {H : Heap} : PW G (x :: ws) H ↔ PW G [x] H ∧ PW G ws H := PW_app (ws := [x])
theorem wl_join {G : GT} {a b0 b' : Nat → Nat} {w : Nat} {y : Int64} {x x' : HV} {H H1 : Heap} (hP : PW G (wlE G w y :: hdW G a b0 x) H) (hne : ∀ z, hdA a b0 z → z ≠ w) (hk : ∀ q : Nat, q < H.size → ¬ hdA a b0 q → H1[q]? = H[q]?) (hP1 : PW G (hdW G a b' x') H1) : PW G (wlE G w y :: hdW G a b' x') H1 :=
  PW_cons.mpr ⟨va_P.kept (PW_cons.mp hP).1 (fun k q h => by
    cases k with
    | zero =>
      cases h
      exact hk _ ((hP 0 _ rfl).lt) (fun z => hne _ z rfl)
    | succ k => cases h), hP1⟩
theorem wl_D {G : GT} {a b0 b' : Nat → Nat} {w : Nat} {y : Int64} {x : HV} (hR : hdR G a b0 b') (hne : ∀ z, hdA a b0 z → z ≠ w) : va_D (wlA a b0 w) (wlE G w y :: hdW G a b' x) := by
  have h := hdD_D hR.1 x
  refine va_D_app (ws := [wlE G w y]) ⟨fun i j p q hi hj _ => ?_, fun k q hk => ?_⟩ (va_D_mono h (fun z hz => Or.inr (hR.2 z hz))) (fun i j p q hi hj e => ?_)
  · have := (List.getElem?_eq_some_iff.mp hi).1
    have := (List.getElem?_eq_some_iff.mp hj).1
    simp at *
    omega
  · cases k with
    | zero => cases hk; exact Or.inl rfl
    | succ k => cases hk
  · cases i with
    | zero => cases hi; exact hne _ (hR.2 _ (h.2 j q hj)) e.symm
    | succ i => cases hi
theorem wl_set {G : GT} {w : Nat} {y v : Int64} {ws : va_W} {H : Heap} (hP : PW G ((wlE G w y :: ws).set 0 (w, .inl (gJ G, 1, .inr (.inl (vp_updL (fun _ => y) (0 : Int32).toNatClampNeg v))))) H) : PW G (wlE G w v :: ws) H := by
  have h := PW_cons.mp (x := (w, .inl (gJ G, 1, .inr (.inl (vp_updL (fun _ => y) (0 : Int32).toNatClampNeg v))))) (ws := ws) hP
  refine PW_cons.mpr ⟨fun k q hk => ?_, h.2⟩
  cases k with
  | zero =>
    cases hk
    have e : H[w]? = some (arrV (gJ G) 1 (fun j => .long (vp_updL (fun _ => y) (0 : Int32).toNatClampNeg v j))) := h.1 0 _ rfl
    show H[w]? = some (arrV (gJ G) 1 (fun _ => .long v))
    rw [e]
    refine congrArg some (arrV_ext fun j hj => ?_)
    have hj0 : j = 0 := by omega
    subst hj0
    rfl
  | succ k => cases hk
theorem wl_low {G : GT} {a b : Nat → Nat} {w : Nat} (hq : hdD G a b) (hw : gL G ≤ w) : ∀ z, wlA a b w z → gL G ≤ z := fun z h => h.elim (fun e => by rw [e]; exact hw) (hdD_low hq z)
set_option maxRecDepth 100000 in
theorem K_line {x x' : HV} {x1 : Int32} {k : Nat} (h : fX5_line x x1 = .inr (k, x')) : k = 0 := by
  unfold fX5_line at h
  dsimp only at h
  (repeat (first | (cases h; first | rfl | exact Or.inl rfl | exact Or.inr rfl) | split at h))
theorem dL_line_0 : decode cL_line 0 = .ok (.aload_n 2, 1) := by decide +kernel
theorem dL_line_1 : decode cL_line 1 = .ok (.iconst 0, 1) := by decide +kernel
theorem dL_line_2 : decode cL_line 2 = .ok (.aload_n 0, 1) := by decide +kernel
theorem dL_line_3 : decode cL_line 3 = .ok (.iload_n 1, 1) := by decide +kernel
theorem dL_line_4 : decode cL_line 4 = .ok (.invokevirtual 7, 3) := by decide +kernel
theorem dL_line_7 : decode cL_line 7 = .ok (.i2l, 1) := by decide +kernel
theorem dL_line_8 : decode cL_line 8 = .ok (.lastore, 1) := by decide +kernel
theorem dL_line_9 : decode cL_line 9 = .ok (.goto 6, 3) := by decide +kernel
theorem dL_line_12 : decode cL_line 12 = .ok (.astore_n 3, 1) := by decide +kernel
theorem dL_line_13 : decode cL_line 13 = .ok (.iconst 1, 1) := by decide +kernel
theorem dL_line_14 : decode cL_line 14 = .ok (.ireturn, 1) := by decide +kernel
theorem dL_line_15 : decode cL_line 15 = .ok (.iconst 0, 1) := by decide +kernel
theorem dL_line_16 : decode cL_line 16 = .ok (.ireturn, 1) := by decide +kernel
set_option maxHeartbeats 1000000 in
set_option maxRecDepth 100000 in
theorem c_L_line (l : Launch) (hL : l.stackTraces = false) (G : GT) (a b0 : Nat → Nat) (x : HV) (w : Nat) (y : Int64) (x1 : Int32) (hq : hdD G a b0) (hI : le_n (x 9 2 0) 6) (hw : gL G ≤ w) (hne : ∀ z, hdA a b0 z → z ≠ w) : vx_Met l yL_line (Cond.codeWith yL_line cL_line 4 (some .int) [(0, 9, 12, 13)] :: bigW) ({ frames := 7, cells := 1, slots := 6, locals := 135 }) (BP G [.ref (a 0), .int x1, .ref w] (fun _ H => PW G (wlE G w y :: hdW G a b0 x) H)) (QE (some (.int (codeL (fun k => 1) (fX5_line x x1)))) (fun H => ∃ b', hdR G a b0 b' ∧ PW G (wlE G w (ansL (fX5_line x x1) y) :: hdW G a b' (wldL (fX5_line x x1))) H) (wlA a b0 w)) (fun _ _ _ => False) 1 6 (wlA a b0 w) := by
  refine met_ofXH (by decide) (Nat.le_of_ble_eq_true rfl) ?_
  intro p e s m below meth c ls hC hX hKN hP hl
  have hP : PW G (wlE G w y :: hdW G a b0 x) s.heap := hP
  have hl : lv_has ls 4 [(0, .ref (a 0)), (1, .int x1), (2, .ref w)] := hl
  have hS : va_S (wlA a b0 w) s.heap s.heap [] := va_S.rf
  have hAL := wl_low hq hw
  have hPw : PW G (hdW G a b0 x) s.heap := (PW_cons.mp hP).2
  refine lv_aload_n hC.1 hC.2.1 dL_line_0 rfl (lv_at hl 2 rfl) ?_
  refine lv_iconst (v := 0) hC.1 hC.2.1 dL_line_1 (by decide) ?_
  refine lv_aload_n hC.1 hC.2.1 dL_line_2 rfl (lv_at hl 0 rfl) ?_
  refine lv_iload_n hC.1 hC.2.1 dL_line_3 rfl (lv_at hl 1 rfl) ?_
  refine runT (rVT (B := fun U H => PW G (hdW G a b0 x) H) (As := [.int x1]) (rest := [.int 0, .ref w]) hC mwX5_line (c_X5_line l hL G a b0 x x1 hq hI) iwX5_line wd_601 ⟨rfl, rfl⟩ ⟨Nat.le_of_ble_eq_true rfl, Nat.le_of_ble_eq_true rfl⟩ (stb_h (fun H => PW G (hdW G a b0 x) H)) hKN hPw (va_recv hKN.k hPw (ci := 5) (q0 := 0) rfl rfl) rfl hl.1 rfl (Nat.le_of_ble_eq_true rfl) dL_line_4 ⟨Nat.le_of_ble_eq_true rfl, Nat.le_of_ble_eq_true rfl⟩) hS (fun _ h => Or.inr h) (fun _ h => Or.inr h) (fun x' v hF H1 locs1 hB hz hk hS => ?_) (fun k x' hF hk3 ce q9 H1 locs1 hB hz hk hS hc1 hc2 hc3 => ?_)
  · obtain ⟨b', hR, hP1⟩ := hB
    have hPj := wl_join hP hne hk hP1
    refine lv_i2l (v := v.toInt64) hC.1 hC.2.1 dL_line_7 rfl ?_
    refine va_last hC.1 hC.2.1 (KN.k (hKN.go hAL hS)) hPj (wl_D hR hne) hS 0 1 rfl rfl (show vp_in (nI 0) 1 from vp_in_nI (by decide) (by decide)) dL_line_8 (fun H2 locs2 hP2 _ hS => ?_)
    refine lv_goto (tgt := 15) hC.1 hC.2.1 dL_line_9 (by decide) ?_
    refine lv_iconst (v := 0) hC.1 hC.2.1 dL_line_15 (by decide) ?_
    exact vx_ret (eE_i hC (by rw [hF]; rfl) ⟨b', hR, by rw [hF]; exact wl_set hP2⟩ hS dL_line_16)
  · obtain ⟨b', hR, hP1⟩ := hB
    have hPj := wl_join hP hne hk hP1
    have hk0 : k = 0 := K_line hF
    subst hk0
    refine ctch hC (hKN.go hAL hS) hk3 [] ⟨0, 9, 12, 13⟩ [] (hX.trans rfl) (fun z h => nomatch h) rfl (by decide) wd_600 hc1 hc2 hc3 ?_
    refine lv_astore_n (lv' := [(3, .ref q9), (0, .ref (a 0)), (1, .int x1), (2, .ref w)]) hC.1 hC.2.1 dL_line_12 rfl hl (by decide) rfl (fun ls hl => ?_)
    refine lv_iconst (v := 1) hC.1 hC.2.1 dL_line_13 (by decide) ?_
    exact vx_ret (eE_i hC (by rw [hF]; rfl) ⟨b', hR, by rw [hF]; exact hPj⟩ hS dL_line_14)
