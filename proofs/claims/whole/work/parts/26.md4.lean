def tX6_save_51 (v : SV) (s : SV) : SV := let v_51 := s; let w_1 : Int32 := (v_51 8 0) + 1; mkM (v_51 0) (v_51 1) (v_51 2) (v_51 3) (v_51 4) (v_51 5) (v_51 6) (v_51 7) w_1 (v_51 8 1) (v_51 8 2) (v_51 8 3) (v_51 8 4) (v_51 8 5) (v_51 8 6) (v_51 8 7) (v_51 8 8)
def bX6_save_51 (v : SV) (d51 : Nat) (s : SV) : SV := let v_51 := s; let w_4 : Int32 := (v_51 0) d51; mkM (v_51 0) (upd (v_51 1) ((124 * ((v_51 8 0).toNatClampNeg)) + d51) w_4) (v_51 2) (v_51 3) (v_51 4) (v_51 5) (v_51 6) (v_51 7) (v_51 8 0) (v_51 8 1) (v_51 8 2) (v_51 8 3) (v_51 8 4) (v_51 8 5) (v_51 8 6) (v_51 8 7) (v_51 8 8)
def tX6_save_J49 (v : SV) (v_49 : SV) : SV := tX6_save_51 v (lpF 124 0 (bX6_save_51 v) v_49)
def tX6_save_11 (v : SV) (s : SV) : SV := let v_11 := s; let w_9 : Int32 := (v_11 8 0) - 1; tX6_save_J49 v (mkM (v_11 0) (v_11 1) (v_11 2) (v_11 3) (v_11 4) (v_11 5) (v_11 6) (v_11 7) w_9 (v_11 8 1) (v_11 8 2) (v_11 8 3) (v_11 8 4) (v_11 8 5) (v_11 8 6) (v_11 8 7) (v_11 8 8))
def bX6_save_11 (v : SV) (d11 : Nat) (s : SV) : SV := let v_11 := s; let w_12 : Int32 := (v_11 1) (d11 + 124); mkM (v_11 0) (upd (v_11 1) d11 w_12) (v_11 2) (v_11 3) (v_11 4) (v_11 5) (v_11 6) (v_11 7) (v_11 8 0) (v_11 8 1) (v_11 8 2) (v_11 8 3) (v_11 8 4) (v_11 8 5) (v_11 8 6) (v_11 8 7) (v_11 8 8)
def fX6_save (v : SV) : SV := if (v 8 0) = 6 then (tX6_save_11 v (lpF 620 0 (bX6_save_11 v) v)) else (tX6_save_J49 v v)
def tX6_undo_30 (v : SV) (s : SV) : SV × Int32 := let v_30 := s; (v_30, v_30 8 0)
def bX6_undo_30 (v : SV) (d30 : Nat) (s : SV) : SV := let v_30 := s; let w_5 : Int32 := (v_30 1) ((124 * ((v_30 8 0).toNatClampNeg)) + d30); mkM (upd (v_30 0) d30 w_5) (v_30 1) (v_30 2) (v_30 3) (v_30 4) (v_30 5) (v_30 6) (v_30 7) (v_30 8 0) (v_30 8 1) (v_30 8 2) (v_30 8 3) (v_30 8 4) (v_30 8 5) (v_30 8 6) (v_30 8 7) (v_30 8 8)
def fX6_undo (v : SV) : SV × Int32 := if (v 8 0) = 0 then (let r_10 := fX6_fails (mkM (v 0) (v 1) (v 2) (v 3) (v 4) (v 5) (v 6) (v 7) (v 8 0) (v 8 1) 0 (v 8 3) (v 8 4) (v 8 5) (v 8 6) (v 8 7) (v 8 8)) 1
  (r_10.1, r_10.2)) else (let w_2 : Int32 := (v 8 0) - 1; tX6_undo_30 v (lpF 124 0 (bX6_undo_30 v) (mkM (v 0) (v 1) (v 2) (v 3) (v 4) (v 5) (v 6) (v 7) w_2 (v 8 1) 0 (v 8 3) (v 8 4) (v 8 5) (v 8 6) (v 8 7) (v 8 8))))
def tX6_keep_7 (v : SV) (s : SV) : SV × Int32 := let v_7 := s; (mkM (v_7 0) (v_7 1) (v_7 2) (v_7 3) (v_7 4) (v_7 5) (v_7 6) (v_7 7) (v_7 8 0) 1 (v_7 8 2) (v_7 8 3) (v_7 8 4) (v_7 8 5) (v_7 8 6) (v_7 8 7) (v_7 8 8), (v_7 0) 83)
def bX6_keep_7 (v : SV) (d7 : Nat) (s : SV) : SV := let v_7 := s; let w_4 : Int32 := (v_7 0) d7; mkM (v_7 0) (v_7 1) (upd (v_7 2) d7 w_4) (v_7 3) (v_7 4) (v_7 5) (v_7 6) (v_7 7) (v_7 8 0) (v_7 8 1) (v_7 8 2) (v_7 8 3) (v_7 8 4) (v_7 8 5) (v_7 8 6) (v_7 8 7) (v_7 8 8)
def fX6_keep (v : SV) : SV × Int32 := tX6_keep_7 v (lpF 124 0 (bX6_keep_7 v) (mkM (v 0) (v 1) (v 2) (v 3) (v 4) (v 5) (v 6) (v 7) (v 8 0) (v 8 1) 0 (v 8 3) (v 8 4) (v 8 5) (v 8 6) (v 8 7) (v 8 8)))
def tX6_restore_24 (v : SV) (s : SV) : SV × Int32 := let v_24 := s; (v_24, (v_24 0) 83)
def bX6_restore_24 (v : SV) (d24 : Nat) (s : SV) : SV := let v_24 := s; let w_5 : Int32 := (v_24 2) d24; mkM (upd (v_24 0) d24 w_5) (v_24 1) (v_24 2) (v_24 3) (v_24 4) (v_24 5) (v_24 6) (v_24 7) (v_24 8 0) (v_24 8 1) (v_24 8 2) (v_24 8 3) (v_24 8 4) (v_24 8 5) (v_24 8 6) (v_24 8 7) (v_24 8 8)
def fX6_restore (v : SV) : SV × Int32 := if (v 8 1) = 0 then (let r_10 := fX6_fails (mkM (v 0) (v 1) (v 2) (v 3) (v 4) (v 5) (v 6) (v 7) (v 8 0) (v 8 1) 0 (v 8 3) (v 8 4) (v 8 5) (v 8 6) (v 8 7) (v 8 8)) 1
  (r_10.1, r_10.2)) else (let r_3 := fX6_save (mkM (v 0) (v 1) (v 2) (v 3) (v 4) (v 5) (v 6) (v 7) (v 8 0) (v 8 1) 0 (v 8 3) (v 8 4) (v 8 5) (v 8 6) (v 8 7) (v 8 8))
  tX6_restore_24 v (lpF 124 0 (bX6_restore_24 v) r_3))
def tX6_paperNow_18 (v : SV) (x1 : Int32) (y2_18 : Int32) (s : SV) : SV × Int32 := let v_18 := s; (mkM (upd (v_18 0) 87 0) (v_18 1) (v_18 2) (v_18 3) (v_18 4) (v_18 5) (v_18 6) (v_18 7) (v_18 8 0) (v_18 8 1) (v_18 8 2) (v_18 8 3) (v_18 8 4) (v_18 8 5) (v_18 8 6) (v_18 8 7) (v_18 8 8), y2_18)
def bX6_paperNow_18 (v : SV) (x1 : Int32) (y2_18 : Int32) (d18 : Nat) (s : SV) : SV := let v_18 := s; mkM (upd (v_18 0) (88 + d18) 0) (v_18 1) (v_18 2) (v_18 3) (v_18 4) (v_18 5) (v_18 6) (v_18 7) (v_18 8 0) (v_18 8 1) (v_18 8 2) (v_18 8 3) (v_18 8 4) (v_18 8 5) (v_18 8 6) (v_18 8 7) (v_18 8 8)
def fX6_paperNow (v : SV) (x1 : Int32) : SV × Int32 := tX6_paperNow_18 v x1 ((v 0) 87) (lpF 36 0 (bX6_paperNow_18 v x1 ((v 0) 87)) (mkM (upd (v 0) 81 x1) (v 1) (v 2) (v 3) (v 4) (v 5) (v 6) (v 7) (v 8 0) (v 8 1) (v 8 2) (v 8 3) (v 8 4) (v 8 5) (v 8 6) (v 8 7) (v 8 8)))
def tX6_printSome_10 (v : SV) (x1 : Int32) (x2 : Int32) (y3_10 : Int32) (s : SV) : SV × Int32 := let v_10 := s; (v_10, (fX6_sum v_10 50) - y3_10)
def bX6_printSome_10 (v : SV) (x1 : Int32) (x2 : Int32) (y3_10 : Int32) (d10 : Nat) (s : SV) : SV := let v_10 := s; let r_3 := fX6_printLine v_10 x1
  r_3.1
def fX6_printSome (v : SV) (x1 : Int32) (x2 : Int32) : SV × Int32 := tX6_printSome_10 v x1 x2 (fX6_sum v 50) (lpF x2.toNatClampNeg 0 (bX6_printSome_10 v x1 x2 (fX6_sum v 50)) v)
def fX6_line (v : SV) (x1 : Int32) : SV × Int32 := if (fX6_isLine x1) = 0 then (let r_8 := fX6_fails (mkM (v 0) (v 1) (v 2) (v 3) (v 4) (v 5) (v 6) (v 7) (v 8 0) (v 8 1) 0 (v 8 3) (v 8 4) (v 8 5) (v 8 6) (v 8 7) (v 8 8)) 1
  (r_8.1, r_8.2)) else (let r_3 := fX6_save (mkM (v 0) (v 1) (v 2) (v 3) (v 4) (v 5) (v 6) (v 7) (v 8 0) (v 8 1) 0 (v 8 3) (v 8 4) (v 8 5) (v 8 6) (v 8 7) (v 8 8))
  let r_5 := fX6_printLine r_3 x1
  (r_5.1, r_5.2))
def fX6_lines (v : SV) (x1 : Int32) (x2 : Int32) : SV × Int32 := if (fX6_isLine x1) = 0 then (let r_3 := fX6_fails (mkM (v 0) (v 1) (v 2) (v 3) (v 4) (v 5) (v 6) (v 7) (v 8 0) (v 8 1) 0 (v 8 3) (v 8 4) (v 8 5) (v 8 6) (v 8 7) (v 8 8)) 1
  (r_3.1, r_3.2)) else (if (fX6_in x2 1 20) = 0 then (let r_11 := fX6_fails (mkM (v 0) (v 1) (v 2) (v 3) (v 4) (v 5) (v 6) (v 7) (v 8 0) (v 8 1) 0 (v 8 3) (v 8 4) (v 8 5) (v 8 6) (v 8 7) (v 8 8)) 1
  (r_11.1, r_11.2)) else (let r_6 := fX6_save (mkM (v 0) (v 1) (v 2) (v 3) (v 4) (v 5) (v 6) (v 7) (v 8 0) (v 8 1) 0 (v 8 3) (v 8 4) (v 8 5) (v 8 6) (v 8 7) (v 8 8))
  let r_8 := fX6_printSome r_6 x1 x2
  (r_8.1, r_8.2)))
def fX6_rest (v : SV) (x1 : Int32) : SV × Int32 := if (fX6_in x1 1 999) = 0 then (let r_8 := fX6_fails (mkM (v 0) (v 1) (v 2) (v 3) (v 4) (v 5) (v 6) (v 7) (v 8 0) (v 8 1) 0 (v 8 3) (v 8 4) (v 8 5) (v 8 6) (v 8 7) (v 8 8)) 1
  (r_8.1, r_8.2)) else (let r_3 := fX6_save (mkM (v 0) (v 1) (v 2) (v 3) (v 4) (v 5) (v 6) (v 7) (v 8 0) (v 8 1) 0 (v 8 3) (v 8 4) (v 8 5) (v 8 6) (v 8 7) (v 8 8))
  let r_5 := fX6_pass r_3 x1
  (r_5, fX6_hottestNow r_5))
def fX6_paper (v : SV) (x1 : Int32) : SV × Int32 := if (fX6_in x1 0 2) = 0 then (let r_8 := fX6_fails (mkM (v 0) (v 1) (v 2) (v 3) (v 4) (v 5) (v 6) (v 7) (v 8 0) (v 8 1) 0 (v 8 3) (v 8 4) (v 8 5) (v 8 6) (v 8 7) (v 8 8)) 1
  (r_8.1, r_8.2)) else (let r_3 := fX6_save (mkM (v 0) (v 1) (v 2) (v 3) (v 4) (v 5) (v 6) (v 7) (v 8 0) (v 8 1) 0 (v 8 3) (v 8 4) (v 8 5) (v 8 6) (v 8 7) (v 8 8))
  let r_5 := fX6_paperNow r_3 x1
  (r_5.1, r_5.2))
def fX6_maySet (x1 : Int32) (x2 : Int32) : Int32 := if x1 = 0 then (fX6_in x2 50 300) else if x1 = 1 then (fX6_in x2 5 200) else if x1 = 2 then (fX6_in x2 330 900) else if x1 = 3 then (fX6_in x2 1 20) else if x1 = 4 then (fX6_in x2 1 200) else if x1 = 5 then (fX6_in x2 0 1) else (fX6_in x2 0 50)
def fX6_set (v : SV) (x1 : Int32) (x2 : Int32) : SV × Int32 := if (fX6_in x1 0 6) = 0 then (let r_12 := fX6_fails (mkM (v 0) (v 1) (v 2) (v 3) (v 4) (v 5) (v 6) (v 7) (v 8 0) (v 8 1) 0 (v 8 3) (v 8 4) (v 8 5) (v 8 6) (v 8 7) (v 8 8)) 1
  (r_12.1, r_12.2)) else (if (fX6_maySet x1 x2) = 0 then (let r_9 := fX6_fails (mkM (v 0) (v 1) (v 2) (v 3) (v 4) (v 5) (v 6) (v 7) (v 8 0) (v 8 1) 0 (v 8 3) (v 8 4) (v 8 5) (v 8 6) (v 8 7) (v 8 8)) 2
  (r_9.1, r_9.2)) else (let r_3 := fX6_save (mkM (v 0) (v 1) (v 2) (v 3) (v 4) (v 5) (v 6) (v 7) (v 8 0) (v 8 1) 0 (v 8 3) (v 8 4) (v 8 5) (v 8 6) (v 8 7) (v 8 8))
  (mkM (upd (r_3 0) (74 + x1.toNatClampNeg) x2) (r_3 1) (r_3 2) (r_3 3) (r_3 4) (r_3 5) (r_3 6) (r_3 7) (r_3 8 0) (r_3 8 1) (r_3 8 2) (r_3 8 3) (r_3 8 4) (r_3 8 5) (r_3 8 6) (r_3 8 7) (r_3 8 8), (r_3 0) (74 + x1.toNatClampNeg))))
def fX6_append (v : SV) (x1 : Int32) : SV × Int32 := if (fX6_in x1 33 126) = 0 then (let r_11 := fX6_fails (mkM (v 0) (v 1) (v 2) (v 3) (v 4) (v 5) (v 6) (v 7) (v 8 0) (v 8 1) 0 (v 8 3) (v 8 4) (v 8 5) (v 8 6) (v 8 7) (v 8 8)) 1
  (r_11.1, r_11.2)) else (if (v 8 6) = 60 then (let r_8 := fX6_fails (mkM (v 0) (v 1) (v 2) (v 3) (v 4) (v 5) (v 6) (v 7) (v 8 0) (v 8 1) 0 (v 8 3) (v 8 4) (v 8 5) (v 8 6) (v 8 7) (v 8 8)) 2
  (r_8.1, r_8.2)) else (let w_4 : Int32 := (v 8 6) + 1; (mkM (v 0) (v 1) (v 2) (v 3) (upd (v 4) ((v 8 6).toNatClampNeg) x1) (v 5) (v 6) (v 7) (v 8 0) (v 8 1) 0 (v 8 3) (v 8 4) (v 8 5) w_4 (v 8 7) (v 8 8), w_4)))
def fX6_clearBuffer (v : SV) : SV × Int32 := (mkM (v 0) (v 1) (v 2) (v 3) (v 4) (v 5) (v 6) (v 7) (v 8 0) (v 8 1) 0 (v 8 3) (v 8 4) (v 8 5) 0 (v 8 7) (v 8 8), v 8 6)
theorem EqS.tr {a b c : Nat → Int32} (h1 : EqS a b) (h2 : EqS b c) : EqS a c := fun k x y => (h2 k x y).trans (h1 k x y)
theorem bb_S {w r : SV} {f : Bool × SV} (e : f = (true, bbP r)) (h : EqS (w 0) (r 0)) : EqS (w 0) (f.2 0) := by
  rw [e]; exact h
theorem bn_S {w : SV} {f : Bool × SV} (e : f = (false, w)) : EqS (w 0) (f.2 0) := by
  rw [e]; exact EqS.rf _
theorem pl47_S (v : SV) (x1 y2 y3 : Int32) (d : Nat) (y5 : Int32) (w : SV) : EqS (w 0) ((bX6_printLine_47 v x1 y2 y3 d y5 w).2 0) := by
  by_cases q : fX6_isCool w x1 y5 = 0
  · exact bb_S (ite_go (pl47_eq v x1 y2 y3 d y5 w) q) (S_pass w 1)
  · exact bn_S (pl47_no v x1 y2 y3 d y5 w q)
theorem t47_S (v : SV) (x1 y2 y3 : Int32) (d : Nat) (y5 : Int32) (w : SV) : EqS (w 0) ((tX6_printLine_47 v x1 y2 y3 d y5 w) 0) := (S_printPart w x1 y5).tr (S_pass _ _)
theorem pl32_S (v : SV) (x1 y2 y3 : Int32) (d : Nat) (w : SV) : EqS (w 0) ((bX6_printLine_32 v x1 y2 y3 d w) 0) := by
  have h : ∀ y5 n, EqS (w 0) ((lpB n (bX6_printLine_47 v x1 y2 y3 d y5) w) 0) := fun y5 n => lpB_inv (fun s : SV => EqS (w 0) (s 0)) (fun s hs => hs.tr (pl47_S v x1 y2 y3 d y5 s)) n w (EqS.rf _)
  exact (h _ (mT + 1)).tr (t47_S v x1 y2 y3 d _ _)
theorem u6 {a r : Nat → Int32} (h : EqS a r) (x1 x2 x3 x4 x5 x6 : Int32) : EqS a (upd (upd (upd (upd (upd (upd r 25 x1) 24 x2) 83 x3) 84 x4) 85 x5) 86 x6) :=
  (((((h.u (Or.inl (by omega))).u (Or.inl (by omega))).u (Or.inr (by omega))).u (Or.inr (by omega))).u (Or.inr (by omega))).u (Or.inr (by omega))
def t32k (x1 y2 : Int32) (r_7 : SV) : SV × Int32 := let w_8 : Int32 := (r_7 0) 24; let w_11 : Int32 := ((upd (upd (r_7 0) 25 w_8) 24 x1) 83) + 1; let w_13 : Int32 := y2; let w_15 : Int32 := 0; (r_7, w_8 + w_11 + w_13 + w_15)
theorem t32_S (v : SV) (x1 y2 y3 : Int32) (w : SV) : EqS (w 0) ((tX6_printLine_32 v x1 y2 y3 w).1 0) := by
  have h : EqS (w 0) ((fX6_keepLine (fX6_pass w ((w 0) 80)) x1 y3) 0) := (S_pass w _).tr (S_keepLine _ _ _)
  unfold tX6_printLine_32
  dsimp only
  generalize fX6_keepLine (fX6_pass w ((w 0) 80)) x1 y3 = r at h ⊢
  split
  · exact u6 h _ _ _ _ _ _
  · exact u6 h _ _ _ _ _ _
theorem S_printLine (v : SV) (x1 : Int32) : EqS (v 0) ((fX6_printLine v x1).1 0) := by
  have h : ∀ n y2 y3 (w : SV), EqS (v 0) (w 0) → EqS (v 0) ((lpF n 0 (bX6_printLine_32 v x1 y2 y3) w) 0) := fun n y2 y3 w hw => lpF_inv (fun s : SV => EqS (v 0) (s 0)) n 0 w (fun d s _ _ hs => hs.tr (pl32_S v x1 y2 y3 d s)) hw
  refine EqS.tr (h _ _ _ _ ?_) (t32_S v x1 _ _ _)
  exact EqS.rf _
theorem S_printSome (v : SV) (x1 x2 : Int32) : EqS (v 0) ((fX6_printSome v x1 x2).1 0) := by
  have h : ∀ n y, EqS (v 0) ((lpF n 0 (bX6_printSome_10 v x1 x2 y) v) 0) := fun n y => lpF_inv (fun s : SV => EqS (v 0) (s 0)) n 0 v (fun d s _ _ hs => hs.tr (S_printLine s x1)) (EqS.rf _)
  exact h _ _
/-- all but the row, the waits, the dark dots and the hottest -/
def FRM (v w : SV) : Prop := w 1 = v 1 ∧ w 2 = v 2 ∧ w 3 = v 3 ∧ w 4 = v 4 ∧ w 5 = v 5 ∧ w 6 = v 6 ∧ w 7 = v 7 ∧ w 8 0 = v 8 0 ∧ w 8 1 = v 8 1 ∧ w 8 2 = v 8 2 ∧ w 8 6 = v 8 6 ∧ w 8 7 = v 8 7 ∧ w 8 8 = v 8 8
theorem FRM.rf (v : SV) : FRM v v := ⟨rfl, rfl, rfl, rfl, rfl, rfl, rfl, rfl, rfl, rfl, rfl, rfl, rfl⟩
theorem FRM.tr {a b c : SV} (h1 : FRM a b) (h2 : FRM b c) : FRM a c := by
  obtain ⟨a1, a2, a3, a4, a5, a6, a7, a8, a9, b1, b2, b3, b4⟩ := h1
  obtain ⟨c1, c2, c3, c4, c5, c6, c7, c8, c9, d1, d2, d3, d4⟩ := h2
  exact ⟨c1.trans a1, c2.trans a2, c3.trans a3, c4.trans a4, c5.trans a5, c6.trans a6, c7.trans a7, c8.trans a8, c9.trans a9, d1.trans b1, d2.trans b2, d3.trans b3, d4.trans b4⟩
theorem FRM.mk (v : SV) (r : Nat → Int32) (x y z : Int32) : FRM v (mkM r (v 1) (v 2) (v 3) (v 4) (v 5) (v 6) (v 7) (v 8 0) (v 8 1) (v 8 2) x y z (v 8 6) (v 8 7) (v 8 8)) := ⟨rfl, rfl, rfl, rfl, rfl, rfl, rfl, rfl, rfl, rfl, rfl, rfl, rfl⟩
theorem F_pass (v : SV) (t : Int32) : FRM v (fX6_pass v t) := by
  have h : ∀ n, FRM v (lpF n 0 (bX6_pass_2 v t) v) := fun n => lpF_inv (fun s : SV => FRM v s) n 0 v (fun d2 s _ _ hs => lpF_inv (fun s : SV => FRM v s) 24 0 s (fun d9 s' _ _ hs' => hs'.tr (FRM.mk s' _ _ _ _)) hs) (FRM.rf v)
  exact (h _).tr (FRM.mk _ _ _ _ _)
theorem F_keepLine (v : SV) (x1 x2 : Int32) : FRM v (fX6_keepLine v x1 x2) := by
  have h : FRM v (lpD 33 (bX6_keepLine_3 v x1 x2) v) := lpD_inv (fun s : SV => FRM v s) 33 v (fun d s _ _ hs => hs.tr (FRM.mk s _ _ _ _)) (FRM.rf v)
  have e : ∀ s : SV, FRM s (tX6_keepLine_3 v x1 x2 s) := by
    intro s
    unfold tX6_keepLine_3
    dsimp only
    split
    · exact FRM.mk s _ _ _ _
    · exact FRM.mk s _ _ _ _
  exact h.tr (e _)
theorem F_printPart (v : SV) (x1 x2 : Int32) : FRM v (fX6_printPart v x1 x2).1 := by
  have h : FRM v (lpF 24 0 (bX6_printPart_5 v x1 x2) (0, v)).2 := by
    refine lpF_inv (fun s : Int32 × SV => FRM v s.2) 24 0 (0, v) (fun d s _ hd hs => ?_) (FRM.rf _)
    obtain ⟨y, w⟩ := s
    have k127 : ∀ (y3 y6 z1 z2 : Int32) (w : SV), FRM v w → FRM v (tX6_printPart_J127 v x1 x2 d y3 y6 z1 z2 w).2 := by
      intro y3 y6 z1 z2 w hw
      unfold tX6_printPart_J127
      dsimp only
      split
      · exact hw.tr (FRM.mk w _ _ _ _)
      · exact hw.tr (FRM.mk w _ _ _ _)
    have k107 : ∀ (y3 z : Int32) (w : SV), FRM v w → FRM v (tX6_printPart_J107 v x1 x2 d y3 z w).2 := by
      intro y3 z w hw
      unfold tX6_printPart_J107
      split
      · exact k127 _ _ _ _ _ hw
      · exact k127 _ _ _ _ _ hw
    have k85 : ∀ (y3 z : Int32) (w : SV), FRM v w → FRM v (tX6_printPart_J85 v x1 x2 d y3 z w).2 := by
      intro y3 z w hw
      unfold tX6_printPart_J85
      split
      · exact k107 _ _ _ (hw.tr (FRM.mk w _ _ _ _))
      · exact k107 _ _ _ (hw.tr (FRM.mk w _ _ _ _))
    have k43 : ∀ (y5 z : Int32) (w : SV), FRM v w → FRM v (tX6_printPart_J43 v x1 x2 d y5 z w).2 := by
      intro y5 z w hw
      unfold tX6_printPart_J43
      dsimp only
      split
      · exact k85 _ _ _ (hw.tr (FRM.mk w _ _ _ _))
      · exact k85 _ _ _ (hw.tr (FRM.mk w _ _ _ _))
    show FRM v (bX6_printPart_5 v x1 x2 d (y, w)).2
    unfold bX6_printPart_5
    dsimp only
    split
    · split
      · exact k43 _ _ _ hs
      · exact k43 _ _ _ hs
    · exact hs
  exact h
theorem bb_F {w r : SV} {f : Bool × SV} (e : f = (true, bbP r)) (h : FRM w r) : FRM w f.2 := by
  rw [e]; exact h.tr (FRM.mk r _ _ _ _)
theorem bn_F {w : SV} {f : Bool × SV} (e : f = (false, w)) : FRM w f.2 := by
  rw [e]; exact FRM.rf _
theorem pl47_F (v : SV) (x1 y2 y3 : Int32) (d : Nat) (y5 : Int32) (w : SV) : FRM w (bX6_printLine_47 v x1 y2 y3 d y5 w).2 := by
  by_cases q : fX6_isCool w x1 y5 = 0
  · exact bb_F (ite_go (pl47_eq v x1 y2 y3 d y5 w) q) (F_pass w 1)
  · exact bn_F (pl47_no v x1 y2 y3 d y5 w q)
theorem t47_F (v : SV) (x1 y2 y3 : Int32) (d : Nat) (y5 : Int32) (w : SV) : FRM w (tX6_printLine_47 v x1 y2 y3 d y5 w) := (F_printPart w x1 y5).tr (F_pass _ _)
theorem pl32_F (v : SV) (x1 y2 y3 : Int32) (d : Nat) (w : SV) : FRM w (bX6_printLine_32 v x1 y2 y3 d w) := by
  have h : ∀ y5 n, FRM w (lpB n (bX6_printLine_47 v x1 y2 y3 d y5) w) := fun y5 n => lpB_inv (fun s : SV => FRM w s) (fun s hs => hs.tr (pl47_F v x1 y2 y3 d y5 s)) n w (FRM.rf _)
  exact (h _ (mT + 1)).tr (t47_F v x1 y2 y3 d _ _)
theorem t32_F (v : SV) (x1 y2 y3 : Int32) (w : SV) : FRM w (tX6_printLine_32 v x1 y2 y3 w).1 := by
  have h : FRM w (fX6_keepLine (fX6_pass w ((w 0) 80)) x1 y3) := (F_pass w _).tr (F_keepLine _ _ _)
  unfold tX6_printLine_32
  dsimp only
  generalize fX6_keepLine (fX6_pass w ((w 0) 80)) x1 y3 = r at h ⊢
  split
  · exact h.tr (FRM.mk r _ _ _ _)
  · exact h.tr (FRM.mk r _ _ _ _)
theorem F_printLine (v : SV) (x1 : Int32) : FRM v (fX6_printLine v x1).1 := by
  have h : ∀ n y2 y3 (w : SV), FRM v w → FRM v (lpF n 0 (bX6_printLine_32 v x1 y2 y3) w) := fun n y2 y3 w hw => lpF_inv (fun s : SV => FRM v s) n 0 w (fun d s _ _ hs => hs.tr (pl32_F v x1 y2 y3 d s)) hw
  exact (h _ _ _ _ (FRM.mk v _ _ _ _)).tr (t32_F v x1 _ _ _)
theorem F_printSome (v : SV) (x1 x2 : Int32) : FRM v (fX6_printSome v x1 x2).1 := by
  have h : ∀ n y, FRM v (lpF n 0 (bX6_printSome_10 v x1 x2 y) v) := fun n y => lpF_inv (fun s : SV => FRM v s) n 0 v (fun d s _ _ hs => hs.tr (F_printLine s x1)) (FRM.rf _)
  exact h _ _
theorem F_paperNow (v : SV) (x1 : Int32) : FRM v (fX6_paperNow v x1).1 := by
  have h : ∀ n y w, FRM v w → FRM v (lpF n 0 (bX6_paperNow_18 v x1 y) w) := fun n y w hw => lpF_inv (fun s : SV => FRM v s) n 0 w (fun d s _ _ hs => hs.tr (FRM.mk s _ _ _ _)) hw
  exact (h _ _ _ (FRM.mk v _ _ _ _)).tr (FRM.mk _ _ _ _ _)
/-- a number from 0 to b -/
def le_n (x : Int32) (b : Nat) : Prop := ¬ x < 0 ∧ x.toNatClampNeg ≤ b
theorem lq {x : Int32} {b : Nat} (h : le_n x b) : x = nI x.toNatClampNeg := (i_clamp h.1).1
theorem le_n_nI {k b : Nat} (h : k ≤ b) (hb : b < 2 ^ 31) : le_n (nI k) b := ⟨nI_nlt (a := k) (b := 0) (Nat.zero_le _) (by omega), by rw [nI_clamp (by omega)]; exact h⟩
theorem lt_n {x : Int32} {b : Nat} (h : le_n x b) (k : ¬ x = nI b) : x.toNatClampNeg < b := by
  rcases Nat.lt_or_ge x.toNatClampNeg b with z | z
  · exact z
  · exact absurd ((lq h).trans (congrArg nI (Nat.le_antisymm h.2 z))) k
theorem SM5_dec {x y : Int32} (e : y = x - 1) (h : x = nI 6) : le_n y 5 := by
  rw [e, h]; exact ⟨by decide, by decide⟩
theorem le_n_lt {x : Int32} {b : Nat} (h : le_n x (b + 1)) (k : ¬ x = nI (b + 1)) : le_n x b := ⟨h.1, Nat.le_of_lt_succ (lt_n h k)⟩
theorem le_n_dec {x y : Int32} {b : Nat} (hb : b + 1 < 2 ^ 31) (e : y = x - 1) (k : ¬ x = 0) (h : le_n x (b + 1)) : le_n y b := by
  have h1 := lq h
  have h2 := h.2
  rw [e, h1]
  generalize x.toNatClampNeg = n at h1 h2 ⊢
  cases n with
  | zero => exact absurd h1 k
  | succ n => rw [show nI (n + 1) - 1 = nI n from nE_sub (a := n + 1) (b := 1) rfl rfl (by omega)]; exact le_n_nI (by omega) (by omega)
theorem in_nat {x : Int32} {b : Nat} (hb : b < 2 ^ 31) (h : ¬ fX6_in x 0 (nI b) = 0) : le_n x b := by
  unfold fX6_in at h
  by_cases h1 : x < 0
  · rw [if_pos h1] at h; exact absurd rfl h
  · rw [if_neg h1] at h
    by_cases h2 : nI b < x
    · rw [if_pos h2] at h; exact absurd rfl h
    · refine ⟨h1, ?_⟩
      obtain ⟨e, hj⟩ := i_clamp h1
      rw [e] at h2
      exact Nat.not_lt.mp fun z => h2 (nI_lt z hj)
theorem in_ex {x : Int32} {b : Nat} (hb : b < 2 ^ 31) (h : ¬ fX6_in x 0 (nI b) = 0) : ∃ c, c ≤ b ∧ x = nI c := ⟨x.toNatClampNeg, (in_nat hb h).2, lq (in_nat hb h)⟩
abbrev MI (v : SV) : Prop := SI (v 0) ∧ le_n (v 8 0) 6
theorem save_0 (v : SV) : (fX6_save v) 0 = v 0 := by
  have h1 : ∀ n (s : SV), s 0 = v 0 → (lpF n 0 (bX6_save_11 v) s) 0 = v 0 := fun n s hs => lpF_inv (fun s : SV => s 0 = v 0) n 0 s (fun d s _ _ hs => hs) hs
  have h2 : ∀ n (s : SV), s 0 = v 0 → (lpF n 0 (bX6_save_51 v) s) 0 = v 0 := fun n s hs => lpF_inv (fun s : SV => s 0 = v 0) n 0 s (fun d s _ _ hs => hs) hs
  have h0 : ∀ s : SV, (tX6_save_51 v s) 0 = s 0 := fun s => rfl
  have h3 : ∀ s : SV, s 0 = v 0 → (tX6_save_J49 v s) 0 = v 0 := fun s hs => (h0 _).trans (h2 124 s hs)
  have h4 : ∀ s : SV, s 0 = v 0 → (tX6_save_11 v s) 0 = v 0 := fun s hs => h3 _ hs
  unfold fX6_save
  split
  · exact h4 _ (h1 _ _ rfl)
  · exact h3 _ rfl
theorem SI_save {v : SV} (h : SI (v 0)) : SI ((fX6_save v) 0) := by rw [save_0]; exact h
theorem dX6_save_0 : decode cX6_save 0 = .ok (.aload_n 0, 1) := by decide +kernel
theorem dX6_save_1 : decode cX6_save 1 = .ok (.getfield 43, 3) := by decide +kernel
theorem dX6_save_4 : decode cX6_save 4 = .ok (.bipush 6, 2) := by decide +kernel
theorem dX6_save_6 : decode cX6_save 6 = .ok (.if_icmp .ne 43, 3) := by decide +kernel
theorem dX6_save_9 : decode cX6_save 9 = .ok (.iconst 0, 1) := by decide +kernel
theorem dX6_save_10 : decode cX6_save 10 = .ok (.istore_n 1, 1) := by decide +kernel
theorem dX6_save_11 : decode cX6_save 11 = .ok (.iload_n 1, 1) := by decide +kernel
theorem dX6_save_12 : decode cX6_save 12 = .ok (.sipush 620, 3) := by decide +kernel
theorem dX6_save_15 : decode cX6_save 15 = .ok (.if_icmp .ge 24, 3) := by decide +kernel
theorem dX6_save_18 : decode cX6_save 18 = .ok (.aload_n 0, 1) := by decide +kernel
theorem dX6_save_19 : decode cX6_save 19 = .ok (.getfield 13, 3) := by decide +kernel
theorem dX6_save_22 : decode cX6_save 22 = .ok (.iload_n 1, 1) := by decide +kernel
theorem dX6_save_23 : decode cX6_save 23 = .ok (.aload_n 0, 1) := by decide +kernel
theorem dX6_save_24 : decode cX6_save 24 = .ok (.getfield 13, 3) := by decide +kernel
theorem dX6_save_27 : decode cX6_save 27 = .ok (.iload_n 1, 1) := by decide +kernel
theorem dX6_save_28 : decode cX6_save 28 = .ok (.bipush 124, 2) := by decide +kernel
theorem dX6_save_30 : decode cX6_save 30 = .ok (.iadd, 1) := by decide +kernel
theorem dX6_save_31 : decode cX6_save 31 = .ok (.iaload, 1) := by decide +kernel
theorem dX6_save_32 : decode cX6_save 32 = .ok (.iastore, 1) := by decide +kernel
theorem dX6_save_33 : decode cX6_save 33 = .ok (.iinc 1 1, 3) := by decide +kernel
theorem dX6_save_36 : decode cX6_save 36 = .ok (.goto (-25), 3) := by decide +kernel
theorem dX6_save_39 : decode cX6_save 39 = .ok (.aload_n 0, 1) := by decide +kernel
theorem dX6_save_40 : decode cX6_save 40 = .ok (.dup, 1) := by decide +kernel
theorem dX6_save_41 : decode cX6_save 41 = .ok (.getfield 43, 3) := by decide +kernel
theorem dX6_save_44 : decode cX6_save 44 = .ok (.iconst 1, 1) := by decide +kernel
theorem dX6_save_45 : decode cX6_save 45 = .ok (.isub, 1) := by decide +kernel
theorem dX6_save_46 : decode cX6_save 46 = .ok (.putfield 43, 3) := by decide +kernel
theorem dX6_save_49 : decode cX6_save 49 = .ok (.iconst 0, 1) := by decide +kernel
theorem dX6_save_50 : decode cX6_save 50 = .ok (.istore_n 1, 1) := by decide +kernel
theorem dX6_save_51 : decode cX6_save 51 = .ok (.iload_n 1, 1) := by decide +kernel
theorem dX6_save_52 : decode cX6_save 52 = .ok (.bipush 124, 2) := by decide +kernel
theorem dX6_save_54 : decode cX6_save 54 = .ok (.if_icmp .ge 29, 3) := by decide +kernel
theorem dX6_save_57 : decode cX6_save 57 = .ok (.aload_n 0, 1) := by decide +kernel
theorem dX6_save_58 : decode cX6_save 58 = .ok (.getfield 13, 3) := by decide +kernel
theorem dX6_save_61 : decode cX6_save 61 = .ok (.bipush 124, 2) := by decide +kernel
theorem dX6_save_63 : decode cX6_save 63 = .ok (.aload_n 0, 1) := by decide +kernel
theorem dX6_save_64 : decode cX6_save 64 = .ok (.getfield 43, 3) := by decide +kernel
theorem dX6_save_67 : decode cX6_save 67 = .ok (.imul, 1) := by decide +kernel
theorem dX6_save_68 : decode cX6_save 68 = .ok (.iload_n 1, 1) := by decide +kernel
theorem dX6_save_69 : decode cX6_save 69 = .ok (.iadd, 1) := by decide +kernel
theorem dX6_save_70 : decode cX6_save 70 = .ok (.aload_n 0, 1) := by decide +kernel
theorem dX6_save_71 : decode cX6_save 71 = .ok (.getfield 7, 3) := by decide +kernel
theorem dX6_save_74 : decode cX6_save 74 = .ok (.iload_n 1, 1) := by decide +kernel
theorem dX6_save_75 : decode cX6_save 75 = .ok (.iaload, 1) := by decide +kernel
theorem dX6_save_76 : decode cX6_save 76 = .ok (.iastore, 1) := by decide +kernel
theorem dX6_save_77 : decode cX6_save 77 = .ok (.iinc 1 1, 3) := by decide +kernel
theorem dX6_save_80 : decode cX6_save 80 = .ok (.goto (-29), 3) := by decide +kernel
theorem dX6_save_83 : decode cX6_save 83 = .ok (.aload_n 0, 1) := by decide +kernel
theorem dX6_save_84 : decode cX6_save 84 = .ok (.dup, 1) := by decide +kernel
theorem dX6_save_85 : decode cX6_save 85 = .ok (.getfield 43, 3) := by decide +kernel
theorem dX6_save_88 : decode cX6_save 88 = .ok (.iconst 1, 1) := by decide +kernel
theorem dX6_save_89 : decode cX6_save 89 = .ok (.iadd, 1) := by decide +kernel
theorem dX6_save_90 : decode cX6_save 90 = .ok (.putfield 43, 3) := by decide +kernel
theorem dX6_save_93 : decode cX6_save 93 = .ok (.return_, 1) := by decide +kernel
set_option maxHeartbeats 1000000 in
set_option maxRecDepth 100000 in
theorem c_X6_save (l : Launch) (G : GT) (q : Nat → Nat) (v : SV) (hs : Int64) (hq : mdD G q) (hI : le_n (v 8 0) 6) : Met l yX6_save (Cond.code yX6_save cX6_save 2 none :: bigW) ({ frames := 0, cells := 0, slots := 0, locals := 0 }) (BP G [.ref (q 0)] (fun U H => PW G (mdW G q v hs) H)) (QE (none) (fun H => PW G (mdW G q (fX6_save v) hs) H) (mdA q)) 0 0 (mdA q) := by
  refine met_of (by decide) (Nat.le_of_ble_eq_true rfl) ?_
  intro p e s m below meth c ls hC hKN hB0 hl
  have hP := hB0
  have hl : lv_has ls 2 [(0, .ref (q 0))] := hl
  have hS : va_S (mdA q) s.heap s.heap [] := va_S.rf
  have hAL : ∀ a, (mdA q) a → gL G ≤ a := mdD_low hq
  have hg : fX6_save v = fX6_save v := rfl
  refine lv_aload_n hC.1 hC.2.1 dX6_save_0 rfl (lv_at hl 0 rfl) ?_
  refine gf (v := .int (v 8 0)) hC fwX6 hKN hP 0 rfl rfl 2 (by decide) rfl wd_889 rfl dX6_save_1 ?_
  refine lv_bipush (v := 6) hC.1 hC.2.1 dX6_save_4 (by decide +kernel) ?_
  have J49 : ∀ (v_49 : SV), fX6_save v = tX6_save_J49 v v_49 → le_n (v_49 8 0) 5 → ∀ (H : Heap) (locs : List Loc), PW G (mdW G q v_49 hs) H → va_S (mdA q) s.heap H locs → ∀ (ls : Array Slot), lv_has ls 2 [(0, .ref (q 0))] → W p l e ({ frames := 0, cells := 0, slots := 0, locals := 0 }) s m ([.ref (q 0)] : List Value).toArray below meth c H locs 0 0 (MQ below (QE (none) (fun H => PW G (mdW G q (fX6_save v) hs) H) (mdA q)) ([.ref (q 0)] : List Value).toArray s 0 0 (mdA q)) (F0 m 49 ls []) := by
    intro v_49 hg hI H locs hP hS ls hl
    refine lv_iconst (v := 0) hC.1 hC.2.1 dX6_save_49 (by decide) ?_
    refine lv_istore_n (lv' := [(1, .int 0), (0, .ref (q 0))]) hC.1 hC.2.1 dX6_save_50 rfl hl (by decide) rfl (fun ls hl => ?_)
    have A51 : ∀ (v_51 : SV), fX6_save v = (tX6_save_51 v v_51) → le_n (v_51 8 0) 5 → ∀ (H : Heap) (locs : List Loc), PW G (mdW G q v_51 hs) H → va_S (mdA q) s.heap H locs → ∀ (ls : Array Slot), lv_has ls 2 [(0, .ref (q 0))] → W p l e ({ frames := 0, cells := 0, slots := 0, locals := 0 }) s m ([.ref (q 0)] : List Value).toArray below meth c H locs 0 0 (MQ below (QE (none) (fun H => PW G (mdW G q (fX6_save v) hs) H) (mdA q)) ([.ref (q 0)] : List Value).toArray s 0 0 (mdA q)) (F0 m 83 ls []) := by
      intro  v_51 hg hI H locs hP hS ls hl
      refine lv_aload_n hC.1 hC.2.1 dX6_save_83 rfl (lv_at hl 0 rfl) ?_
      refine lv_dup hC.1 hC.2.1 dX6_save_84 rfl ?_
      refine gf (v := .int (v_51 8 0)) hC fwX6 (hKN.go hAL hS) hP 0 rfl rfl 2 (by decide) rfl wd_889 rfl dX6_save_85 ?_
      refine lv_iconst (v := 1) hC.1 hC.2.1 dX6_save_88 (by decide) ?_
      refine lv_iadd hC.1 hC.2.1 dX6_save_89 ?_
      refine lv_topi (fun w_1 ew_1 => ?_)
      refine pf (v := .int w_1) (tv := .int) hC fwX6 (hKN.go hAL hS) hP (mdD_D hq v_51 hs) hS 0 rfl rfl 2 (by decide) rfl wd_889 rfl rfl rfl (Nat.le_of_ble_eq_true rfl) dX6_save_90 (fun H locs hq_2 hS => ?_)
      have hP : PW G (mdW G q (mkM (v_51 0) (v_51 1) (v_51 2) (v_51 3) (v_51 4) (v_51 5) (v_51 6) (v_51 7) w_1 (v_51 8 1) (v_51 8 2) (v_51 8 3) (v_51 8 4) (v_51 8 5) (v_51 8 6) (v_51 8 7) (v_51 8 8)) hs) H := hq_2
      have hI : True := trivial
      have e_3 : tX6_save_51 v v_51 = mkM (v_51 0) (v_51 1) (v_51 2) (v_51 3) (v_51 4) (v_51 5) (v_51 6) (v_51 7) w_1 (v_51 8 1) (v_51 8 2) (v_51 8 3) (v_51 8 4) (v_51 8 5) (v_51 8 6) (v_51 8 7) (v_51 8 8) := by subst ew_1; exact rfl
      have hg : fX6_save v = mkM (v_51 0) (v_51 1) (v_51 2) (v_51 3) (v_51 4) (v_51 5) (v_51 6) (v_51 7) w_1 (v_51 8 1) (v_51 8 2) (v_51 8 3) (v_51 8 4) (v_51 8 5) (v_51 8 6) (v_51 8 7) (v_51 8 8) := hg.trans (congrArg (fun z => z) e_3)
      exact eE_v hC (by show PW G (mdW G q (fX6_save v) hs) H; rw [hg]; exact hP) hS dX6_save_93
    have L51 : ∀ (n51 d51 : Nat), ∀ (v_51 : SV), d51 + n51 = 124 → fX6_save v = (tX6_save_51 v (lpF n51 d51 (bX6_save_51 v) v_51)) → le_n (v_51 8 0) 5 → ∀ (H : Heap) (locs : List Loc), PW G (mdW G q v_51 hs) H → va_S (mdA q) s.heap H locs → ∀ (ls : Array Slot), lv_has ls 2 [(0, .ref (q 0)), (1, .int (nI d51))] → W p l e ({ frames := 0, cells := 0, slots := 0, locals := 0 }) s m ([.ref (q 0)] : List Value).toArray below meth c H locs 0 0 (MQ below (QE (none) (fun H => PW G (mdW G q (fX6_save v) hs) H) (mdA q)) ([.ref (q 0)] : List Value).toArray s 0 0 (mdA q)) (F0 m 51 ls []) := by
      intro n51
      induction n51 with
      | zero =>
        intro d51 v_51 hd hg hI H locs hP hS ls hl
        refine lv_iload_n hC.1 hC.2.1 dX6_save_51 rfl (lv_at hl 1 rfl) ?_
        refine lv_bipush (v := 124) hC.1 hC.2.1 dX6_save_52 (by decide +kernel) ?_
        refine lv_icmp_ge (tgt := 83) hC.1 hC.2.1 dX6_save_54 (by decide) (fun k54 => ?_) (fun k54 => ?_)
        · exact A51  v_51 hg hI _ _ hP hS _ (lv_sub hl [0] rfl)
        · exact absurd (nI_le (a := 124) (b := d51) (by omega) (by omega)) k54
      | succ n51 ih =>
        intro d51 v_51 hd hg hI H locs hP hS ls hl
        have hg : fX6_save v = (tX6_save_51 v (lpF n51 (d51 + 1) (bX6_save_51 v) (bX6_save_51 v d51 v_51))) := hg
        refine lv_iload_n hC.1 hC.2.1 dX6_save_51 rfl (lv_at hl 1 rfl) ?_
        refine lv_bipush (v := 124) hC.1 hC.2.1 dX6_save_52 (by decide +kernel) ?_
        refine lv_icmp_ge (tgt := 83) hC.1 hC.2.1 dX6_save_54 (by decide) (fun k54 => ?_) (fun k54 => ?_)
        · exact absurd k54 (nI_ge (a := d51) (b := 124) (by omega) (by omega))
        · refine lv_aload_n hC.1 hC.2.1 dX6_save_57 rfl (lv_at hl 0 rfl) ?_
          refine gf (v := .ref (q 2)) hC fwX6 (hKN.go hAL hS) hP 0 rfl rfl 1 (by decide) rfl wd_888 rfl dX6_save_58 ?_
          refine lv_bipush (v := 124) hC.1 hC.2.1 dX6_save_61 (by decide +kernel) ?_
          refine lv_aload_n hC.1 hC.2.1 dX6_save_63 rfl (lv_at hl 0 rfl) ?_
          refine gf (v := .int (v_51 8 0)) hC fwX6 (hKN.go hAL hS) hP 0 rfl rfl 2 (by decide) rfl wd_889 rfl dX6_save_64 ?_
          rw [show v_51 8 0 = nI ((v_51 8 0).toNatClampNeg) from lq hI]
          refine lv_imul hC.1 hC.2.1 dX6_save_67 ?_
          refine lv_iload_n hC.1 hC.2.1 dX6_save_68 rfl (lv_at hl 1 rfl) ?_
          refine lv_iadd hC.1 hC.2.1 dX6_save_69 ?_
          refine lv_aload_n hC.1 hC.2.1 dX6_save_70 rfl (lv_at hl 0 rfl) ?_
          refine gf (v := .ref (q 1)) hC fwX6 (hKN.go hAL hS) hP 0 rfl rfl 0 (by decide) rfl wd_887 rfl dX6_save_71 ?_
          refine lv_iload_n hC.1 hC.2.1 dX6_save_74 rfl (lv_at hl 1 rfl) ?_
          refine iald_k hC (hKN.go hAL hS) hP 1 rfl (n := 124) (f := (v_51 0)) d51 (rfl) (by omega) (by decide) dX6_save_75 ?_
          refine lv_topi (fun w_4 ew_4 => ?_)
          refine iast_k hC (hKN.go hAL hS) hP (mdD_D hq v_51 hs) hS 2 rfl (n := 744) (f := (v_51 1)) ((124 * ((v_51 8 0).toNatClampNeg)) + d51) (nE_add (nE_mul (rfl) (rfl)) (rfl)) (by have := hI.2; omega) (by decide) dX6_save_76 (fun H locs hq_5 hS => ?_)
          have hP : PW G (mdW G q (mkM (v_51 0) (upd (v_51 1) ((124 * ((v_51 8 0).toNatClampNeg)) + d51) w_4) (v_51 2) (v_51 3) (v_51 4) (v_51 5) (v_51 6) (v_51 7) (v_51 8 0) (v_51 8 1) (v_51 8 2) (v_51 8 3) (v_51 8 4) (v_51 8 5) (v_51 8 6) (v_51 8 7) (v_51 8 8)) hs) H := hq_5
          have hI : le_n ((mkM (v_51 0) (upd (v_51 1) ((124 * ((v_51 8 0).toNatClampNeg)) + d51) w_4) (v_51 2) (v_51 3) (v_51 4) (v_51 5) (v_51 6) (v_51 7) (v_51 8 0) (v_51 8 1) (v_51 8 2) (v_51 8 3) (v_51 8 4) (v_51 8 5) (v_51 8 6) (v_51 8 7) (v_51 8 8)) 8 0) 5 := hI
          refine lv_iinc (v := nI (d51 + 1)) (lv' := [(1, .int (nI (d51 + 1))), (0, .ref (q 0))]) hC.1 hC.2.1 dX6_save_77 hl (k := 1) rfl (nI_1 _) (by decide) rfl (fun ls hl => ?_)
          refine lv_goto (tgt := 51) hC.1 hC.2.1 dX6_save_80 (by decide) ?_
          have e_6 : bX6_save_51 v d51 v_51 = mkM (v_51 0) (upd (v_51 1) ((124 * ((v_51 8 0).toNatClampNeg)) + d51) w_4) (v_51 2) (v_51 3) (v_51 4) (v_51 5) (v_51 6) (v_51 7) (v_51 8 0) (v_51 8 1) (v_51 8 2) (v_51 8 3) (v_51 8 4) (v_51 8 5) (v_51 8 6) (v_51 8 7) (v_51 8 8) := by subst ew_4; exact rfl
          have hg : fX6_save v = (tX6_save_51 v (lpF n51 (d51 + 1) (bX6_save_51 v) (mkM (v_51 0) (upd (v_51 1) ((124 * ((v_51 8 0).toNatClampNeg)) + d51) w_4) (v_51 2) (v_51 3) (v_51 4) (v_51 5) (v_51 6) (v_51 7) (v_51 8 0) (v_51 8 1) (v_51 8 2) (v_51 8 3) (v_51 8 4) (v_51 8 5) (v_51 8 6) (v_51 8 7) (v_51 8 8)))) := hg.trans (congrArg (fun z => (tX6_save_51 v (lpF n51 (d51 + 1) (bX6_save_51 v) z))) e_6)
          exact ih (d51 + 1) (mkM (v_51 0) (upd (v_51 1) ((124 * ((v_51 8 0).toNatClampNeg)) + d51) w_4) (v_51 2) (v_51 3) (v_51 4) (v_51 5) (v_51 6) (v_51 7) (v_51 8 0) (v_51 8 1) (v_51 8 2) (v_51 8 3) (v_51 8 4) (v_51 8 5) (v_51 8 6) (v_51 8 7) (v_51 8 8)) (by omega) hg hI _ _ hP hS _ (lv_sub hl [1, 0] rfl)
    have e_7 : tX6_save_J49 v v_49 = tX6_save_51 v (lpF 124 0 (bX6_save_51 v) v_49) := by exact rfl
    have hg : fX6_save v = (tX6_save_51 v (lpF 124 0 (bX6_save_51 v) v_49)) := hg.trans (congrArg (fun z => z) e_7)
    exact L51  124 0 v_49 (by omega) hg hI _ _ hP hS _ (lv_sub hl [1, 0] rfl)
  refine lv_icmp_ne (tgt := 49) hC.1 hC.2.1 dX6_save_6 (by decide) (fun k6 => ?_) (fun k6 => ?_)
  · have e_8 : fX6_save v = tX6_save_J49 v v := by exact Eq.trans (if_neg k6) rfl
    have hg : fX6_save v = tX6_save_J49 v v := hg.trans (congrArg (fun z => z) e_8)
    exact J49 v hg (by first | exact le_n_lt (b := 5) hI k6 | exact hI) _ _ hP hS _ (lv_sub hl [0] rfl)
  · refine lv_iconst (v := 0) hC.1 hC.2.1 dX6_save_9 (by decide) ?_
    refine lv_istore_n (lv' := [(1, .int 0), (0, .ref (q 0))]) hC.1 hC.2.1 dX6_save_10 rfl hl (by decide) rfl (fun ls hl => ?_)
    have A11 : ∀ (v_11 : SV), fX6_save v = (tX6_save_11 v v_11) → v_11 8 0 = nI 6 → ∀ (H : Heap) (locs : List Loc), PW G (mdW G q v_11 hs) H → va_S (mdA q) s.heap H locs → ∀ (ls : Array Slot), lv_has ls 2 [(0, .ref (q 0))] → W p l e ({ frames := 0, cells := 0, slots := 0, locals := 0 }) s m ([.ref (q 0)] : List Value).toArray below meth c H locs 0 0 (MQ below (QE (none) (fun H => PW G (mdW G q (fX6_save v) hs) H) (mdA q)) ([.ref (q 0)] : List Value).toArray s 0 0 (mdA q)) (F0 m 39 ls []) := by
      intro  v_11 hg hI H locs hP hS ls hl
      refine lv_aload_n hC.1 hC.2.1 dX6_save_39 rfl (lv_at hl 0 rfl) ?_
      refine lv_dup hC.1 hC.2.1 dX6_save_40 rfl ?_
      refine gf (v := .int (v_11 8 0)) hC fwX6 (hKN.go hAL hS) hP 0 rfl rfl 2 (by decide) rfl wd_889 rfl dX6_save_41 ?_
      refine lv_iconst (v := 1) hC.1 hC.2.1 dX6_save_44 (by decide) ?_
      refine lv_isub hC.1 hC.2.1 dX6_save_45 ?_
      refine lv_topi (fun w_9 ew_9 => ?_)
      refine pf (v := .int w_9) (tv := .int) hC fwX6 (hKN.go hAL hS) hP (mdD_D hq v_11 hs) hS 0 rfl rfl 2 (by decide) rfl wd_889 rfl rfl rfl (Nat.le_of_ble_eq_true rfl) dX6_save_46 (fun H locs hq_10 hS => ?_)
      have hP : PW G (mdW G q (mkM (v_11 0) (v_11 1) (v_11 2) (v_11 3) (v_11 4) (v_11 5) (v_11 6) (v_11 7) w_9 (v_11 8 1) (v_11 8 2) (v_11 8 3) (v_11 8 4) (v_11 8 5) (v_11 8 6) (v_11 8 7) (v_11 8 8)) hs) H := hq_10
      have hI : le_n ((mkM (v_11 0) (v_11 1) (v_11 2) (v_11 3) (v_11 4) (v_11 5) (v_11 6) (v_11 7) w_9 (v_11 8 1) (v_11 8 2) (v_11 8 3) (v_11 8 4) (v_11 8 5) (v_11 8 6) (v_11 8 7) (v_11 8 8)) 8 0) 5 := (SM5_dec ew_9 hI)
      have e_11 : tX6_save_11 v v_11 = tX6_save_J49 v (mkM (v_11 0) (v_11 1) (v_11 2) (v_11 3) (v_11 4) (v_11 5) (v_11 6) (v_11 7) w_9 (v_11 8 1) (v_11 8 2) (v_11 8 3) (v_11 8 4) (v_11 8 5) (v_11 8 6) (v_11 8 7) (v_11 8 8)) := by subst ew_9; exact rfl
      have hg : fX6_save v = tX6_save_J49 v (mkM (v_11 0) (v_11 1) (v_11 2) (v_11 3) (v_11 4) (v_11 5) (v_11 6) (v_11 7) w_9 (v_11 8 1) (v_11 8 2) (v_11 8 3) (v_11 8 4) (v_11 8 5) (v_11 8 6) (v_11 8 7) (v_11 8 8)) := hg.trans (congrArg (fun z => z) e_11)
      exact J49 (mkM (v_11 0) (v_11 1) (v_11 2) (v_11 3) (v_11 4) (v_11 5) (v_11 6) (v_11 7) w_9 (v_11 8 1) (v_11 8 2) (v_11 8 3) (v_11 8 4) (v_11 8 5) (v_11 8 6) (v_11 8 7) (v_11 8 8)) hg (by first | exact le_n_lt (b := 5) hI k6 | exact hI) _ _ hP hS _ (lv_sub hl [0] rfl)
    have L11 : ∀ (n11 d11 : Nat), ∀ (v_11 : SV), d11 + n11 = 620 → fX6_save v = (tX6_save_11 v (lpF n11 d11 (bX6_save_11 v) v_11)) → v_11 8 0 = nI 6 → ∀ (H : Heap) (locs : List Loc), PW G (mdW G q v_11 hs) H → va_S (mdA q) s.heap H locs → ∀ (ls : Array Slot), lv_has ls 2 [(0, .ref (q 0)), (1, .int (nI d11))] → W p l e ({ frames := 0, cells := 0, slots := 0, locals := 0 }) s m ([.ref (q 0)] : List Value).toArray below meth c H locs 0 0 (MQ below (QE (none) (fun H => PW G (mdW G q (fX6_save v) hs) H) (mdA q)) ([.ref (q 0)] : List Value).toArray s 0 0 (mdA q)) (F0 m 11 ls []) := by
      intro n11
      induction n11 with
      | zero =>
        intro d11 v_11 hd hg hI H locs hP hS ls hl
        refine lv_iload_n hC.1 hC.2.1 dX6_save_11 rfl (lv_at hl 1 rfl) ?_
        refine lv_sipush (v := 620) hC.1 hC.2.1 dX6_save_12 (by decide +kernel) ?_
        refine lv_icmp_ge (tgt := 39) hC.1 hC.2.1 dX6_save_15 (by decide) (fun k15 => ?_) (fun k15 => ?_)
        · exact A11  v_11 hg hI _ _ hP hS _ (lv_sub hl [0] rfl)
        · exact absurd (nI_le (a := 620) (b := d11) (by omega) (by omega)) k15
      | succ n11 ih =>
        intro d11 v_11 hd hg hI H locs hP hS ls hl
        have hg : fX6_save v = (tX6_save_11 v (lpF n11 (d11 + 1) (bX6_save_11 v) (bX6_save_11 v d11 v_11))) := hg
        refine lv_iload_n hC.1 hC.2.1 dX6_save_11 rfl (lv_at hl 1 rfl) ?_
        refine lv_sipush (v := 620) hC.1 hC.2.1 dX6_save_12 (by decide +kernel) ?_
        refine lv_icmp_ge (tgt := 39) hC.1 hC.2.1 dX6_save_15 (by decide) (fun k15 => ?_) (fun k15 => ?_)
        · exact absurd k15 (nI_ge (a := d11) (b := 620) (by omega) (by omega))
        · refine lv_aload_n hC.1 hC.2.1 dX6_save_18 rfl (lv_at hl 0 rfl) ?_
          refine gf (v := .ref (q 2)) hC fwX6 (hKN.go hAL hS) hP 0 rfl rfl 1 (by decide) rfl wd_888 rfl dX6_save_19 ?_
          refine lv_iload_n hC.1 hC.2.1 dX6_save_22 rfl (lv_at hl 1 rfl) ?_
          refine lv_aload_n hC.1 hC.2.1 dX6_save_23 rfl (lv_at hl 0 rfl) ?_
          refine gf (v := .ref (q 2)) hC fwX6 (hKN.go hAL hS) hP 0 rfl rfl 1 (by decide) rfl wd_888 rfl dX6_save_24 ?_
          refine lv_iload_n hC.1 hC.2.1 dX6_save_27 rfl (lv_at hl 1 rfl) ?_
          refine lv_bipush (v := 124) hC.1 hC.2.1 dX6_save_28 (by decide +kernel) ?_
          refine lv_iadd hC.1 hC.2.1 dX6_save_30 ?_
          refine iald_k hC (hKN.go hAL hS) hP 2 rfl (n := 744) (f := (v_11 1)) (d11 + 124) (nE_add (rfl) (rfl)) (by omega) (by decide) dX6_save_31 ?_
          refine lv_topi (fun w_12 ew_12 => ?_)
          refine iast_k hC (hKN.go hAL hS) hP (mdD_D hq v_11 hs) hS 2 rfl (n := 744) (f := (v_11 1)) d11 (rfl) (by omega) (by decide) dX6_save_32 (fun H locs hq_13 hS => ?_)
          have hP : PW G (mdW G q (mkM (v_11 0) (upd (v_11 1) d11 w_12) (v_11 2) (v_11 3) (v_11 4) (v_11 5) (v_11 6) (v_11 7) (v_11 8 0) (v_11 8 1) (v_11 8 2) (v_11 8 3) (v_11 8 4) (v_11 8 5) (v_11 8 6) (v_11 8 7) (v_11 8 8)) hs) H := hq_13
          have hI : (mkM (v_11 0) (upd (v_11 1) d11 w_12) (v_11 2) (v_11 3) (v_11 4) (v_11 5) (v_11 6) (v_11 7) (v_11 8 0) (v_11 8 1) (v_11 8 2) (v_11 8 3) (v_11 8 4) (v_11 8 5) (v_11 8 6) (v_11 8 7) (v_11 8 8)) 8 0 = nI 6 := hI
          refine lv_iinc (v := nI (d11 + 1)) (lv' := [(1, .int (nI (d11 + 1))), (0, .ref (q 0))]) hC.1 hC.2.1 dX6_save_33 hl (k := 1) rfl (nI_1 _) (by decide) rfl (fun ls hl => ?_)
          refine lv_goto (tgt := 11) hC.1 hC.2.1 dX6_save_36 (by decide) ?_
          have e_14 : bX6_save_11 v d11 v_11 = mkM (v_11 0) (upd (v_11 1) d11 w_12) (v_11 2) (v_11 3) (v_11 4) (v_11 5) (v_11 6) (v_11 7) (v_11 8 0) (v_11 8 1) (v_11 8 2) (v_11 8 3) (v_11 8 4) (v_11 8 5) (v_11 8 6) (v_11 8 7) (v_11 8 8) := by subst ew_12; exact rfl
          have hg : fX6_save v = (tX6_save_11 v (lpF n11 (d11 + 1) (bX6_save_11 v) (mkM (v_11 0) (upd (v_11 1) d11 w_12) (v_11 2) (v_11 3) (v_11 4) (v_11 5) (v_11 6) (v_11 7) (v_11 8 0) (v_11 8 1) (v_11 8 2) (v_11 8 3) (v_11 8 4) (v_11 8 5) (v_11 8 6) (v_11 8 7) (v_11 8 8)))) := hg.trans (congrArg (fun z => (tX6_save_11 v (lpF n11 (d11 + 1) (bX6_save_11 v) z))) e_14)
          exact ih (d11 + 1) (mkM (v_11 0) (upd (v_11 1) d11 w_12) (v_11 2) (v_11 3) (v_11 4) (v_11 5) (v_11 6) (v_11 7) (v_11 8 0) (v_11 8 1) (v_11 8 2) (v_11 8 3) (v_11 8 4) (v_11 8 5) (v_11 8 6) (v_11 8 7) (v_11 8 8)) (by omega) hg (by first | exact k6 | exact hI) _ _ hP hS _ (lv_sub hl [1, 0] rfl)
    have e_15 : fX6_save v = tX6_save_11 v (lpF 620 0 (bX6_save_11 v) v) := by exact Eq.trans (if_pos k6) rfl
    have hg : fX6_save v = (tX6_save_11 v (lpF 620 0 (bX6_save_11 v) v)) := hg.trans (congrArg (fun z => z) e_15)
    exact L11  620 0 v (by omega) hg (by first | exact k6 | exact hI) _ _ hP hS _ (lv_sub hl [1, 0] rfl)

theorem dX6_undo_0 : decode cX6_undo 0 = .ok (.aload_n 0, 1) := by decide +kernel
theorem dX6_undo_1 : decode cX6_undo 1 = .ok (.iconst 0, 1) := by decide +kernel
theorem dX6_undo_2 : decode cX6_undo 2 = .ok (.putfield 34, 3) := by decide +kernel
theorem dX6_undo_5 : decode cX6_undo 5 = .ok (.aload_n 0, 1) := by decide +kernel
theorem dX6_undo_6 : decode cX6_undo 6 = .ok (.getfield 43, 3) := by decide +kernel
theorem dX6_undo_9 : decode cX6_undo 9 = .ok (.ifCond .ne 9, 3) := by decide +kernel
theorem dX6_undo_12 : decode cX6_undo 12 = .ok (.aload_n 0, 1) := by decide +kernel
theorem dX6_undo_13 : decode cX6_undo 13 = .ok (.iconst 1, 1) := by decide +kernel
theorem dX6_undo_14 : decode cX6_undo 14 = .ok (.invokevirtual 46, 3) := by decide +kernel
theorem dX6_undo_17 : decode cX6_undo 17 = .ok (.ireturn, 1) := by decide +kernel
theorem dX6_undo_18 : decode cX6_undo 18 = .ok (.aload_n 0, 1) := by decide +kernel
theorem dX6_undo_19 : decode cX6_undo 19 = .ok (.dup, 1) := by decide +kernel
theorem dX6_undo_20 : decode cX6_undo 20 = .ok (.getfield 43, 3) := by decide +kernel
theorem dX6_undo_23 : decode cX6_undo 23 = .ok (.iconst 1, 1) := by decide +kernel
theorem dX6_undo_24 : decode cX6_undo 24 = .ok (.isub, 1) := by decide +kernel
theorem dX6_undo_25 : decode cX6_undo 25 = .ok (.putfield 43, 3) := by decide +kernel
theorem dX6_undo_28 : decode cX6_undo 28 = .ok (.iconst 0, 1) := by decide +kernel
theorem dX6_undo_29 : decode cX6_undo 29 = .ok (.istore_n 1, 1) := by decide +kernel
theorem dX6_undo_30 : decode cX6_undo 30 = .ok (.iload_n 1, 1) := by decide +kernel
theorem dX6_undo_31 : decode cX6_undo 31 = .ok (.bipush 124, 2) := by decide +kernel
theorem dX6_undo_33 : decode cX6_undo 33 = .ok (.if_icmp .ge 29, 3) := by decide +kernel
theorem dX6_undo_36 : decode cX6_undo 36 = .ok (.aload_n 0, 1) := by decide +kernel
theorem dX6_undo_37 : decode cX6_undo 37 = .ok (.getfield 7, 3) := by decide +kernel
theorem dX6_undo_40 : decode cX6_undo 40 = .ok (.iload_n 1, 1) := by decide +kernel
theorem dX6_undo_41 : decode cX6_undo 41 = .ok (.aload_n 0, 1) := by decide +kernel
theorem dX6_undo_42 : decode cX6_undo 42 = .ok (.getfield 13, 3) := by decide +kernel
theorem dX6_undo_45 : decode cX6_undo 45 = .ok (.bipush 124, 2) := by decide +kernel
theorem dX6_undo_47 : decode cX6_undo 47 = .ok (.aload_n 0, 1) := by decide +kernel
theorem dX6_undo_48 : decode cX6_undo 48 = .ok (.getfield 43, 3) := by decide +kernel
theorem dX6_undo_51 : decode cX6_undo 51 = .ok (.imul, 1) := by decide +kernel
theorem dX6_undo_52 : decode cX6_undo 52 = .ok (.iload_n 1, 1) := by decide +kernel
theorem dX6_undo_53 : decode cX6_undo 53 = .ok (.iadd, 1) := by decide +kernel
theorem dX6_undo_54 : decode cX6_undo 54 = .ok (.iaload, 1) := by decide +kernel
theorem dX6_undo_55 : decode cX6_undo 55 = .ok (.iastore, 1) := by decide +kernel
theorem dX6_undo_56 : decode cX6_undo 56 = .ok (.iinc 1 1, 3) := by decide +kernel
theorem dX6_undo_59 : decode cX6_undo 59 = .ok (.goto (-29), 3) := by decide +kernel
theorem dX6_undo_62 : decode cX6_undo 62 = .ok (.aload_n 0, 1) := by decide +kernel
theorem dX6_undo_63 : decode cX6_undo 63 = .ok (.getfield 43, 3) := by decide +kernel
theorem dX6_undo_66 : decode cX6_undo 66 = .ok (.ireturn, 1) := by decide +kernel
set_option maxHeartbeats 1000000 in
set_option maxRecDepth 100000 in
theorem c_X6_undo (l : Launch) (G : GT) (q : Nat → Nat) (v : SV) (hs : Int64) (hq : mdD G q) (hI : le_n (v 8 0) 6) : Met l yX6_undo (Cond.code yX6_undo cX6_undo 2 (some .int) :: bigW) ({ frames := 1, cells := 0, slots := 0, locals := 21 }) (BP G [.ref (q 0)] (fun U H => PW G (mdW G q v hs) H)) (QE (some (.int (fX6_undo v).2)) (fun H => PW G (mdW G q (fX6_undo v).1 hs) H) (mdA q)) 0 0 (mdA q) := by
  refine met_of (by decide) (Nat.le_of_ble_eq_true rfl) ?_
  intro p e s m below meth c ls hC hKN hB0 hl
  have hP := hB0
  have hl : lv_has ls 2 [(0, .ref (q 0))] := hl
  have hS : va_S (mdA q) s.heap s.heap [] := va_S.rf
  have hAL : ∀ a, (mdA q) a → gL G ≤ a := mdD_low hq
  have hg : fX6_undo v = fX6_undo v := rfl
  refine lv_aload_n hC.1 hC.2.1 dX6_undo_0 rfl (lv_at hl 0 rfl) ?_
  refine lv_iconst (v := 0) hC.1 hC.2.1 dX6_undo_1 (by decide) ?_
  refine pf (v := .int 0) (tv := .int) hC fwX6 hKN hP (mdD_D hq v hs) hS 0 rfl rfl 6 (by decide) rfl wd_893 rfl rfl rfl (Nat.le_of_ble_eq_true rfl) dX6_undo_2 (fun H locs hq_1 hS => ?_)
  have hP : PW G (mdW G q (mkM (v 0) (v 1) (v 2) (v 3) (v 4) (v 5) (v 6) (v 7) (v 8 0) (v 8 1) 0 (v 8 3) (v 8 4) (v 8 5) (v 8 6) (v 8 7) (v 8 8)) hs) H := hq_1
  have hI : le_n ((mkM (v 0) (v 1) (v 2) (v 3) (v 4) (v 5) (v 6) (v 7) (v 8 0) (v 8 1) 0 (v 8 3) (v 8 4) (v 8 5) (v 8 6) (v 8 7) (v 8 8)) 8 0) 6 := hI
  refine lv_aload_n hC.1 hC.2.1 dX6_undo_5 rfl (lv_at hl 0 rfl) ?_
  refine gf (v := .int (v 8 0)) hC fwX6 (hKN.go hAL hS) hP 0 rfl rfl 2 (by decide) rfl wd_889 rfl dX6_undo_6 ?_
  refine lv_if_ne (tgt := 18) hC.1 hC.2.1 dX6_undo_9 (by decide) (fun k9 => ?_) (fun k9 => ?_)
  · refine lv_aload_n hC.1 hC.2.1 dX6_undo_18 rfl (lv_at hl 0 rfl) ?_
    refine lv_dup hC.1 hC.2.1 dX6_undo_19 rfl ?_
    refine gf (v := .int (v 8 0)) hC fwX6 (hKN.go hAL hS) hP 0 rfl rfl 2 (by decide) rfl wd_889 rfl dX6_undo_20 ?_
    refine lv_iconst (v := 1) hC.1 hC.2.1 dX6_undo_23 (by decide) ?_
    refine lv_isub hC.1 hC.2.1 dX6_undo_24 ?_
    refine lv_topi (fun w_2 ew_2 => ?_)
    refine pf (v := .int w_2) (tv := .int) hC fwX6 (hKN.go hAL hS) hP (mdD_D hq (mkM (v 0) (v 1) (v 2) (v 3) (v 4) (v 5) (v 6) (v 7) (v 8 0) (v 8 1) 0 (v 8 3) (v 8 4) (v 8 5) (v 8 6) (v 8 7) (v 8 8)) hs) hS 0 rfl rfl 2 (by decide) rfl wd_889 rfl rfl rfl (Nat.le_of_ble_eq_true rfl) dX6_undo_25 (fun H locs hq_3 hS => ?_)
    have hP : PW G (mdW G q (mkM (v 0) (v 1) (v 2) (v 3) (v 4) (v 5) (v 6) (v 7) w_2 (v 8 1) 0 (v 8 3) (v 8 4) (v 8 5) (v 8 6) (v 8 7) (v 8 8)) hs) H := hq_3
    have hI : le_n ((mkM (v 0) (v 1) (v 2) (v 3) (v 4) (v 5) (v 6) (v 7) w_2 (v 8 1) 0 (v 8 3) (v 8 4) (v 8 5) (v 8 6) (v 8 7) (v 8 8)) 8 0) 5 := (le_n_dec (b := 5) (by omega) ew_2 k9 hI)
    refine lv_iconst (v := 0) hC.1 hC.2.1 dX6_undo_28 (by decide) ?_
    refine lv_istore_n (lv' := [(1, .int 0), (0, .ref (q 0))]) hC.1 hC.2.1 dX6_undo_29 rfl hl (by decide) rfl (fun ls hl => ?_)
    have A30 : ∀ (v_30 : SV), fX6_undo v = (tX6_undo_30 v v_30) → le_n (v_30 8 0) 5 → ∀ (H : Heap) (locs : List Loc), PW G (mdW G q v_30 hs) H → va_S (mdA q) s.heap H locs → ∀ (ls : Array Slot), lv_has ls 2 [(0, .ref (q 0))] → W p l e ({ frames := 1, cells := 0, slots := 0, locals := 21 }) s m ([.ref (q 0)] : List Value).toArray below meth c H locs 0 0 (MQ below (QE (some (.int (fX6_undo v).2)) (fun H => PW G (mdW G q (fX6_undo v).1 hs) H) (mdA q)) ([.ref (q 0)] : List Value).toArray s 0 0 (mdA q)) (F0 m 62 ls []) := by
      intro  v_30 hg hI H locs hP hS ls hl
      refine lv_aload_n hC.1 hC.2.1 dX6_undo_62 rfl (lv_at hl 0 rfl) ?_
      refine gf (v := .int (v_30 8 0)) hC fwX6 (hKN.go hAL hS) hP 0 rfl rfl 2 (by decide) rfl wd_889 rfl dX6_undo_63 ?_
      have e_4 : tX6_undo_30 v v_30 = (v_30, v_30 8 0) := by exact rfl
      have hg : fX6_undo v = (v_30, v_30 8 0) := hg.trans (congrArg (fun z => z) e_4)
      exact eE_i hC (by rw [hg]) (by show PW G (mdW G q (fX6_undo v).1 hs) H; rw [hg]; exact hP) hS dX6_undo_66
    have L30 : ∀ (n30 d30 : Nat), ∀ (v_30 : SV), d30 + n30 = 124 → fX6_undo v = (tX6_undo_30 v (lpF n30 d30 (bX6_undo_30 v) v_30)) → le_n (v_30 8 0) 5 → ∀ (H : Heap) (locs : List Loc), PW G (mdW G q v_30 hs) H → va_S (mdA q) s.heap H locs → ∀ (ls : Array Slot), lv_has ls 2 [(0, .ref (q 0)), (1, .int (nI d30))] → W p l e ({ frames := 1, cells := 0, slots := 0, locals := 21 }) s m ([.ref (q 0)] : List Value).toArray below meth c H locs 0 0 (MQ below (QE (some (.int (fX6_undo v).2)) (fun H => PW G (mdW G q (fX6_undo v).1 hs) H) (mdA q)) ([.ref (q 0)] : List Value).toArray s 0 0 (mdA q)) (F0 m 30 ls []) := by
      intro n30
      induction n30 with
      | zero =>
        intro d30 v_30 hd hg hI H locs hP hS ls hl
        refine lv_iload_n hC.1 hC.2.1 dX6_undo_30 rfl (lv_at hl 1 rfl) ?_
        refine lv_bipush (v := 124) hC.1 hC.2.1 dX6_undo_31 (by decide +kernel) ?_
        refine lv_icmp_ge (tgt := 62) hC.1 hC.2.1 dX6_undo_33 (by decide) (fun k33 => ?_) (fun k33 => ?_)
        · exact A30  v_30 hg hI _ _ hP hS _ (lv_sub hl [0] rfl)
        · exact absurd (nI_le (a := 124) (b := d30) (by omega) (by omega)) k33
      | succ n30 ih =>
        intro d30 v_30 hd hg hI H locs hP hS ls hl
        have hg : fX6_undo v = (tX6_undo_30 v (lpF n30 (d30 + 1) (bX6_undo_30 v) (bX6_undo_30 v d30 v_30))) := hg
        refine lv_iload_n hC.1 hC.2.1 dX6_undo_30 rfl (lv_at hl 1 rfl) ?_
        refine lv_bipush (v := 124) hC.1 hC.2.1 dX6_undo_31 (by decide +kernel) ?_
        refine lv_icmp_ge (tgt := 62) hC.1 hC.2.1 dX6_undo_33 (by decide) (fun k33 => ?_) (fun k33 => ?_)
        · exact absurd k33 (nI_ge (a := d30) (b := 124) (by omega) (by omega))
        · refine lv_aload_n hC.1 hC.2.1 dX6_undo_36 rfl (lv_at hl 0 rfl) ?_
          refine gf (v := .ref (q 1)) hC fwX6 (hKN.go hAL hS) hP 0 rfl rfl 0 (by decide) rfl wd_887 rfl dX6_undo_37 ?_
          refine lv_iload_n hC.1 hC.2.1 dX6_undo_40 rfl (lv_at hl 1 rfl) ?_
          refine lv_aload_n hC.1 hC.2.1 dX6_undo_41 rfl (lv_at hl 0 rfl) ?_
          refine gf (v := .ref (q 2)) hC fwX6 (hKN.go hAL hS) hP 0 rfl rfl 1 (by decide) rfl wd_888 rfl dX6_undo_42 ?_
          refine lv_bipush (v := 124) hC.1 hC.2.1 dX6_undo_45 (by decide +kernel) ?_
          refine lv_aload_n hC.1 hC.2.1 dX6_undo_47 rfl (lv_at hl 0 rfl) ?_
          refine gf (v := .int (v_30 8 0)) hC fwX6 (hKN.go hAL hS) hP 0 rfl rfl 2 (by decide) rfl wd_889 rfl dX6_undo_48 ?_
          rw [show v_30 8 0 = nI ((v_30 8 0).toNatClampNeg) from lq hI]
          refine lv_imul hC.1 hC.2.1 dX6_undo_51 ?_
          refine lv_iload_n hC.1 hC.2.1 dX6_undo_52 rfl (lv_at hl 1 rfl) ?_
          refine lv_iadd hC.1 hC.2.1 dX6_undo_53 ?_
          refine iald_k hC (hKN.go hAL hS) hP 2 rfl (n := 744) (f := (v_30 1)) ((124 * ((v_30 8 0).toNatClampNeg)) + d30) (nE_add (nE_mul (rfl) (rfl)) (rfl)) (by have := hI.2; omega) (by decide) dX6_undo_54 ?_
          refine lv_topi (fun w_5 ew_5 => ?_)
          refine iast_k hC (hKN.go hAL hS) hP (mdD_D hq v_30 hs) hS 1 rfl (n := 124) (f := (v_30 0)) d30 (rfl) (by omega) (by decide) dX6_undo_55 (fun H locs hq_6 hS => ?_)
          have hP : PW G (mdW G q (mkM (upd (v_30 0) d30 w_5) (v_30 1) (v_30 2) (v_30 3) (v_30 4) (v_30 5) (v_30 6) (v_30 7) (v_30 8 0) (v_30 8 1) (v_30 8 2) (v_30 8 3) (v_30 8 4) (v_30 8 5) (v_30 8 6) (v_30 8 7) (v_30 8 8)) hs) H := hq_6
          have hI : le_n ((mkM (upd (v_30 0) d30 w_5) (v_30 1) (v_30 2) (v_30 3) (v_30 4) (v_30 5) (v_30 6) (v_30 7) (v_30 8 0) (v_30 8 1) (v_30 8 2) (v_30 8 3) (v_30 8 4) (v_30 8 5) (v_30 8 6) (v_30 8 7) (v_30 8 8)) 8 0) 5 := hI
          refine lv_iinc (v := nI (d30 + 1)) (lv' := [(1, .int (nI (d30 + 1))), (0, .ref (q 0))]) hC.1 hC.2.1 dX6_undo_56 hl (k := 1) rfl (nI_1 _) (by decide) rfl (fun ls hl => ?_)
          refine lv_goto (tgt := 30) hC.1 hC.2.1 dX6_undo_59 (by decide) ?_
          have e_7 : bX6_undo_30 v d30 v_30 = mkM (upd (v_30 0) d30 w_5) (v_30 1) (v_30 2) (v_30 3) (v_30 4) (v_30 5) (v_30 6) (v_30 7) (v_30 8 0) (v_30 8 1) (v_30 8 2) (v_30 8 3) (v_30 8 4) (v_30 8 5) (v_30 8 6) (v_30 8 7) (v_30 8 8) := by subst ew_5; exact rfl
          have hg : fX6_undo v = (tX6_undo_30 v (lpF n30 (d30 + 1) (bX6_undo_30 v) (mkM (upd (v_30 0) d30 w_5) (v_30 1) (v_30 2) (v_30 3) (v_30 4) (v_30 5) (v_30 6) (v_30 7) (v_30 8 0) (v_30 8 1) (v_30 8 2) (v_30 8 3) (v_30 8 4) (v_30 8 5) (v_30 8 6) (v_30 8 7) (v_30 8 8)))) := hg.trans (congrArg (fun z => (tX6_undo_30 v (lpF n30 (d30 + 1) (bX6_undo_30 v) z))) e_7)
          exact ih (d30 + 1) (mkM (upd (v_30 0) d30 w_5) (v_30 1) (v_30 2) (v_30 3) (v_30 4) (v_30 5) (v_30 6) (v_30 7) (v_30 8 0) (v_30 8 1) (v_30 8 2) (v_30 8 3) (v_30 8 4) (v_30 8 5) (v_30 8 6) (v_30 8 7) (v_30 8 8)) (by omega) hg hI _ _ hP hS _ (lv_sub hl [1, 0] rfl)
    have e_8 : fX6_undo v = tX6_undo_30 v (lpF 124 0 (bX6_undo_30 v) (mkM (v 0) (v 1) (v 2) (v 3) (v 4) (v 5) (v 6) (v 7) w_2 (v 8 1) 0 (v 8 3) (v 8 4) (v 8 5) (v 8 6) (v 8 7) (v 8 8))) := by subst ew_2; exact Eq.trans (if_neg k9) rfl
    have hg : fX6_undo v = (tX6_undo_30 v (lpF 124 0 (bX6_undo_30 v) (mkM (v 0) (v 1) (v 2) (v 3) (v 4) (v 5) (v 6) (v 7) w_2 (v 8 1) 0 (v 8 3) (v 8 4) (v 8 5) (v 8 6) (v 8 7) (v 8 8)))) := hg.trans (congrArg (fun z => z) e_8)
    exact L30  124 0 (mkM (v 0) (v 1) (v 2) (v 3) (v 4) (v 5) (v 6) (v 7) w_2 (v 8 1) 0 (v 8 3) (v 8 4) (v 8 5) (v 8 6) (v 8 7) (v 8 8)) (by omega) hg hI _ _ hP hS _ (lv_sub hl [1, 0] rfl)
  · refine lv_aload_n hC.1 hC.2.1 dX6_undo_12 rfl (lv_at hl 0 rfl) ?_
    refine lv_iconst (v := 1) hC.1 hC.2.1 dX6_undo_13 (by decide) ?_
    refine runE (rV (B := fun U H => PW G (mdW G q (mkM (v 0) (v 1) (v 2) (v 3) (v 4) (v 5) (v 6) (v 7) (v 8 0) (v 8 1) 0 (v 8 3) (v 8 4) (v 8 5) (v 8 6) (v 8 7) (v 8 8)) hs) H) (As := [.int 1]) (rest := []) hC mwX6_fails (c_X6_fails l G q (mkM (v 0) (v 1) (v 2) (v 3) (v 4) (v 5) (v 6) (v 7) (v 8 0) (v 8 1) 0 (v 8 3) (v 8 4) (v 8 5) (v 8 6) (v 8 7) (v 8 8)) hs 1 hq) iwX6_fails wd_950 ⟨rfl, rfl⟩ ⟨Nat.le_of_ble_eq_true rfl, Nat.le_of_ble_eq_true rfl⟩ (stb_h (fun H => PW G (mdW G q (mkM (v 0) (v 1) (v 2) (v 3) (v 4) (v 5) (v 6) (v 7) (v 8 0) (v 8 1) 0 (v 8 3) (v 8 4) (v 8 5) (v 8 6) (v 8 7) (v 8 8)) hs) H)) (hKN.go hAL hS) hP (va_recv (hKN.go hAL hS).k hP (ci := 6) (q0 := 0) rfl rfl) rfl hl.1 rfl (Nat.le_of_ble_eq_true rfl) dX6_undo_14 ⟨Nat.zero_le _, Nat.zero_le _⟩) hS (fun _ h => h) (fun _ h => h) (fun H locs hq_9 _ _ hS => ?_)
    have hP : PW G (mdW G q ((fX6_fails (mkM (v 0) (v 1) (v 2) (v 3) (v 4) (v 5) (v 6) (v 7) (v 8 0) (v 8 1) 0 (v 8 3) (v 8 4) (v 8 5) (v 8 6) (v 8 7) (v 8 8)) 1).1) hs) H := hq_9
    obtain ⟨r_10, er_10⟩ : ∃ z, z = fX6_fails (mkM (v 0) (v 1) (v 2) (v 3) (v 4) (v 5) (v 6) (v 7) (v 8 0) (v 8 1) 0 (v 8 3) (v 8 4) (v 8 5) (v 8 6) (v 8 7) (v 8 8)) 1 := ⟨_, rfl⟩
    rw [← er_10] at hP
    show W p l e ({ frames := 1, cells := 0, slots := 0, locals := 21 }) s m ([.ref (q 0)] : List Value).toArray below meth c H locs (0 + 0) (0 + 0) _ (F0 m (14 + 3) ls [.int ((fX6_fails (mkM (v 0) (v 1) (v 2) (v 3) (v 4) (v 5) (v 6) (v 7) (v 8 0) (v 8 1) 0 (v 8 3) (v 8 4) (v 8 5) (v 8 6) (v 8 7) (v 8 8)) 1).2)])
    rw [← er_10]
    have hI : True := trivial
    have e_11 : fX6_undo v = (r_10.1, r_10.2) := by subst er_10; exact Eq.trans (if_pos k9) rfl
    have hg : fX6_undo v = (r_10.1, r_10.2) := hg.trans (congrArg (fun z => z) e_11)
    exact eE_i hC (by rw [hg]) (by show PW G (mdW G q (fX6_undo v).1 hs) H; rw [hg]; exact hP) hS dX6_undo_17

theorem dX6_keep_0 : decode cX6_keep 0 = .ok (.aload_n 0, 1) := by decide +kernel
theorem dX6_keep_1 : decode cX6_keep 1 = .ok (.iconst 0, 1) := by decide +kernel
theorem dX6_keep_2 : decode cX6_keep 2 = .ok (.putfield 34, 3) := by decide +kernel
theorem dX6_keep_5 : decode cX6_keep 5 = .ok (.iconst 0, 1) := by decide +kernel
theorem dX6_keep_6 : decode cX6_keep 6 = .ok (.istore_n 1, 1) := by decide +kernel
theorem dX6_keep_7 : decode cX6_keep 7 = .ok (.iload_n 1, 1) := by decide +kernel
theorem dX6_keep_8 : decode cX6_keep 8 = .ok (.bipush 124, 2) := by decide +kernel
theorem dX6_keep_10 : decode cX6_keep 10 = .ok (.if_icmp .ge 21, 3) := by decide +kernel
theorem dX6_keep_13 : decode cX6_keep 13 = .ok (.aload_n 0, 1) := by decide +kernel
theorem dX6_keep_14 : decode cX6_keep 14 = .ok (.getfield 16, 3) := by decide +kernel
theorem dX6_keep_17 : decode cX6_keep 17 = .ok (.iload_n 1, 1) := by decide +kernel
theorem dX6_keep_18 : decode cX6_keep 18 = .ok (.aload_n 0, 1) := by decide +kernel
theorem dX6_keep_19 : decode cX6_keep 19 = .ok (.getfield 7, 3) := by decide +kernel
theorem dX6_keep_22 : decode cX6_keep 22 = .ok (.iload_n 1, 1) := by decide +kernel
theorem dX6_keep_23 : decode cX6_keep 23 = .ok (.iaload, 1) := by decide +kernel
theorem dX6_keep_24 : decode cX6_keep 24 = .ok (.iastore, 1) := by decide +kernel
theorem dX6_keep_25 : decode cX6_keep 25 = .ok (.iinc 1 1, 3) := by decide +kernel
theorem dX6_keep_28 : decode cX6_keep 28 = .ok (.goto (-21), 3) := by decide +kernel
theorem dX6_keep_31 : decode cX6_keep 31 = .ok (.aload_n 0, 1) := by decide +kernel
theorem dX6_keep_32 : decode cX6_keep 32 = .ok (.iconst 1, 1) := by decide +kernel
theorem dX6_keep_33 : decode cX6_keep 33 = .ok (.putfield 50, 3) := by decide +kernel
theorem dX6_keep_36 : decode cX6_keep 36 = .ok (.aload_n 0, 1) := by decide +kernel
theorem dX6_keep_37 : decode cX6_keep 37 = .ok (.getfield 7, 3) := by decide +kernel
theorem dX6_keep_40 : decode cX6_keep 40 = .ok (.bipush 83, 2) := by decide +kernel
theorem dX6_keep_42 : decode cX6_keep 42 = .ok (.iaload, 1) := by decide +kernel
theorem dX6_keep_43 : decode cX6_keep 43 = .ok (.ireturn, 1) := by decide +kernel
set_option maxHeartbeats 1000000 in
set_option maxRecDepth 100000 in
theorem c_X6_keep (l : Launch) (G : GT) (q : Nat → Nat) (v : SV) (hs : Int64) (hq : mdD G q) : Met l yX6_keep (Cond.code yX6_keep cX6_keep 2 (some .int) :: bigW) ({ frames := 0, cells := 0, slots := 0, locals := 0 }) (BP G [.ref (q 0)] (fun U H => PW G (mdW G q v hs) H)) (QE (some (.int (fX6_keep v).2)) (fun H => PW G (mdW G q (fX6_keep v).1 hs) H) (mdA q)) 0 0 (mdA q) := by
  refine met_of (by decide) (Nat.le_of_ble_eq_true rfl) ?_
  intro p e s m below meth c ls hC hKN hB0 hl
  have hP := hB0
  have hl : lv_has ls 2 [(0, .ref (q 0))] := hl
  have hS : va_S (mdA q) s.heap s.heap [] := va_S.rf
  have hAL : ∀ a, (mdA q) a → gL G ≤ a := mdD_low hq
  have hg : fX6_keep v = fX6_keep v := rfl
  refine lv_aload_n hC.1 hC.2.1 dX6_keep_0 rfl (lv_at hl 0 rfl) ?_
  refine lv_iconst (v := 0) hC.1 hC.2.1 dX6_keep_1 (by decide) ?_
  refine pf (v := .int 0) (tv := .int) hC fwX6 hKN hP (mdD_D hq v hs) hS 0 rfl rfl 6 (by decide) rfl wd_893 rfl rfl rfl (Nat.le_of_ble_eq_true rfl) dX6_keep_2 (fun H locs hq_1 hS => ?_)
  have hP : PW G (mdW G q (mkM (v 0) (v 1) (v 2) (v 3) (v 4) (v 5) (v 6) (v 7) (v 8 0) (v 8 1) 0 (v 8 3) (v 8 4) (v 8 5) (v 8 6) (v 8 7) (v 8 8)) hs) H := hq_1
  refine lv_iconst (v := 0) hC.1 hC.2.1 dX6_keep_5 (by decide) ?_
  refine lv_istore_n (lv' := [(1, .int 0), (0, .ref (q 0))]) hC.1 hC.2.1 dX6_keep_6 rfl hl (by decide) rfl (fun ls hl => ?_)
  have A7 : ∀ (v_7 : SV), fX6_keep v = (tX6_keep_7 v v_7) → ∀ (H : Heap) (locs : List Loc), PW G (mdW G q v_7 hs) H → va_S (mdA q) s.heap H locs → ∀ (ls : Array Slot), lv_has ls 2 [(0, .ref (q 0))] → W p l e ({ frames := 0, cells := 0, slots := 0, locals := 0 }) s m ([.ref (q 0)] : List Value).toArray below meth c H locs 0 0 (MQ below (QE (some (.int (fX6_keep v).2)) (fun H => PW G (mdW G q (fX6_keep v).1 hs) H) (mdA q)) ([.ref (q 0)] : List Value).toArray s 0 0 (mdA q)) (F0 m 31 ls []) := by
    intro  v_7 hg H locs hP hS ls hl
    refine lv_aload_n hC.1 hC.2.1 dX6_keep_31 rfl (lv_at hl 0 rfl) ?_
    refine lv_iconst (v := 1) hC.1 hC.2.1 dX6_keep_32 (by decide) ?_
    refine pf (v := .int 1) (tv := .boolean) hC fwX6 (hKN.go hAL hS) hP (mdD_D hq v_7 hs) hS 0 rfl rfl 4 (by decide) rfl wd_891 rfl rfl rfl (Nat.le_of_ble_eq_true rfl) dX6_keep_33 (fun H locs hq_2 hS => ?_)
    have hP : PW G (mdW G q (mkM (v_7 0) (v_7 1) (v_7 2) (v_7 3) (v_7 4) (v_7 5) (v_7 6) (v_7 7) (v_7 8 0) 1 (v_7 8 2) (v_7 8 3) (v_7 8 4) (v_7 8 5) (v_7 8 6) (v_7 8 7) (v_7 8 8)) hs) H := hq_2
    refine lv_aload_n hC.1 hC.2.1 dX6_keep_36 rfl (lv_at hl 0 rfl) ?_
    refine gf (v := .ref (q 1)) hC fwX6 (hKN.go hAL hS) hP 0 rfl rfl 0 (by decide) rfl wd_887 rfl dX6_keep_37 ?_
    refine lv_bipush (v := 83) hC.1 hC.2.1 dX6_keep_40 (by decide +kernel) ?_
    refine iald_k hC (hKN.go hAL hS) hP 1 rfl (n := 124) (f := (v_7 0)) 83 (rfl) (by omega) (by decide) dX6_keep_42 ?_
    have e_3 : tX6_keep_7 v v_7 = (mkM (v_7 0) (v_7 1) (v_7 2) (v_7 3) (v_7 4) (v_7 5) (v_7 6) (v_7 7) (v_7 8 0) 1 (v_7 8 2) (v_7 8 3) (v_7 8 4) (v_7 8 5) (v_7 8 6) (v_7 8 7) (v_7 8 8), (v_7 0) 83) := by exact rfl
    have hg : fX6_keep v = (mkM (v_7 0) (v_7 1) (v_7 2) (v_7 3) (v_7 4) (v_7 5) (v_7 6) (v_7 7) (v_7 8 0) 1 (v_7 8 2) (v_7 8 3) (v_7 8 4) (v_7 8 5) (v_7 8 6) (v_7 8 7) (v_7 8 8), (v_7 0) 83) := hg.trans (congrArg (fun z => z) e_3)
    exact eE_i hC (by rw [hg]) (by show PW G (mdW G q (fX6_keep v).1 hs) H; rw [hg]; exact hP) hS dX6_keep_43
  have L7 : ∀ (n7 d7 : Nat), ∀ (v_7 : SV), d7 + n7 = 124 → fX6_keep v = (tX6_keep_7 v (lpF n7 d7 (bX6_keep_7 v) v_7)) → ∀ (H : Heap) (locs : List Loc), PW G (mdW G q v_7 hs) H → va_S (mdA q) s.heap H locs → ∀ (ls : Array Slot), lv_has ls 2 [(0, .ref (q 0)), (1, .int (nI d7))] → W p l e ({ frames := 0, cells := 0, slots := 0, locals := 0 }) s m ([.ref (q 0)] : List Value).toArray below meth c H locs 0 0 (MQ below (QE (some (.int (fX6_keep v).2)) (fun H => PW G (mdW G q (fX6_keep v).1 hs) H) (mdA q)) ([.ref (q 0)] : List Value).toArray s 0 0 (mdA q)) (F0 m 7 ls []) := by
    intro n7
    induction n7 with
    | zero =>
      intro d7 v_7 hd hg H locs hP hS ls hl
      refine lv_iload_n hC.1 hC.2.1 dX6_keep_7 rfl (lv_at hl 1 rfl) ?_
      refine lv_bipush (v := 124) hC.1 hC.2.1 dX6_keep_8 (by decide +kernel) ?_
      refine lv_icmp_ge (tgt := 31) hC.1 hC.2.1 dX6_keep_10 (by decide) (fun k10 => ?_) (fun k10 => ?_)
      · exact A7  v_7 hg _ _ hP hS _ (lv_sub hl [0] rfl)
      · exact absurd (nI_le (a := 124) (b := d7) (by omega) (by omega)) k10
    | succ n7 ih =>
      intro d7 v_7 hd hg H locs hP hS ls hl
      have hg : fX6_keep v = (tX6_keep_7 v (lpF n7 (d7 + 1) (bX6_keep_7 v) (bX6_keep_7 v d7 v_7))) := hg
      refine lv_iload_n hC.1 hC.2.1 dX6_keep_7 rfl (lv_at hl 1 rfl) ?_
      refine lv_bipush (v := 124) hC.1 hC.2.1 dX6_keep_8 (by decide +kernel) ?_
      refine lv_icmp_ge (tgt := 31) hC.1 hC.2.1 dX6_keep_10 (by decide) (fun k10 => ?_) (fun k10 => ?_)
      · exact absurd k10 (nI_ge (a := d7) (b := 124) (by omega) (by omega))
      · refine lv_aload_n hC.1 hC.2.1 dX6_keep_13 rfl (lv_at hl 0 rfl) ?_
        refine gf (v := .ref (q 3)) hC fwX6 (hKN.go hAL hS) hP 0 rfl rfl 3 (by decide) rfl wd_890 rfl dX6_keep_14 ?_
        refine lv_iload_n hC.1 hC.2.1 dX6_keep_17 rfl (lv_at hl 1 rfl) ?_
        refine lv_aload_n hC.1 hC.2.1 dX6_keep_18 rfl (lv_at hl 0 rfl) ?_
        refine gf (v := .ref (q 1)) hC fwX6 (hKN.go hAL hS) hP 0 rfl rfl 0 (by decide) rfl wd_887 rfl dX6_keep_19 ?_
        refine lv_iload_n hC.1 hC.2.1 dX6_keep_22 rfl (lv_at hl 1 rfl) ?_
        refine iald_k hC (hKN.go hAL hS) hP 1 rfl (n := 124) (f := (v_7 0)) d7 (rfl) (by omega) (by decide) dX6_keep_23 ?_
        refine lv_topi (fun w_4 ew_4 => ?_)
        refine iast_k hC (hKN.go hAL hS) hP (mdD_D hq v_7 hs) hS 3 rfl (n := 124) (f := (v_7 2)) d7 (rfl) (by omega) (by decide) dX6_keep_24 (fun H locs hq_5 hS => ?_)
        have hP : PW G (mdW G q (mkM (v_7 0) (v_7 1) (upd (v_7 2) d7 w_4) (v_7 3) (v_7 4) (v_7 5) (v_7 6) (v_7 7) (v_7 8 0) (v_7 8 1) (v_7 8 2) (v_7 8 3) (v_7 8 4) (v_7 8 5) (v_7 8 6) (v_7 8 7) (v_7 8 8)) hs) H := hq_5
        refine lv_iinc (v := nI (d7 + 1)) (lv' := [(1, .int (nI (d7 + 1))), (0, .ref (q 0))]) hC.1 hC.2.1 dX6_keep_25 hl (k := 1) rfl (nI_1 _) (by decide) rfl (fun ls hl => ?_)
        refine lv_goto (tgt := 7) hC.1 hC.2.1 dX6_keep_28 (by decide) ?_
        have e_6 : bX6_keep_7 v d7 v_7 = mkM (v_7 0) (v_7 1) (upd (v_7 2) d7 w_4) (v_7 3) (v_7 4) (v_7 5) (v_7 6) (v_7 7) (v_7 8 0) (v_7 8 1) (v_7 8 2) (v_7 8 3) (v_7 8 4) (v_7 8 5) (v_7 8 6) (v_7 8 7) (v_7 8 8) := by subst ew_4; exact rfl
        have hg : fX6_keep v = (tX6_keep_7 v (lpF n7 (d7 + 1) (bX6_keep_7 v) (mkM (v_7 0) (v_7 1) (upd (v_7 2) d7 w_4) (v_7 3) (v_7 4) (v_7 5) (v_7 6) (v_7 7) (v_7 8 0) (v_7 8 1) (v_7 8 2) (v_7 8 3) (v_7 8 4) (v_7 8 5) (v_7 8 6) (v_7 8 7) (v_7 8 8)))) := hg.trans (congrArg (fun z => (tX6_keep_7 v (lpF n7 (d7 + 1) (bX6_keep_7 v) z))) e_6)
        exact ih (d7 + 1) (mkM (v_7 0) (v_7 1) (upd (v_7 2) d7 w_4) (v_7 3) (v_7 4) (v_7 5) (v_7 6) (v_7 7) (v_7 8 0) (v_7 8 1) (v_7 8 2) (v_7 8 3) (v_7 8 4) (v_7 8 5) (v_7 8 6) (v_7 8 7) (v_7 8 8)) (by omega) hg _ _ hP hS _ (lv_sub hl [1, 0] rfl)
  have e_7 : fX6_keep v = tX6_keep_7 v (lpF 124 0 (bX6_keep_7 v) (mkM (v 0) (v 1) (v 2) (v 3) (v 4) (v 5) (v 6) (v 7) (v 8 0) (v 8 1) 0 (v 8 3) (v 8 4) (v 8 5) (v 8 6) (v 8 7) (v 8 8))) := by exact rfl
  have hg : fX6_keep v = (tX6_keep_7 v (lpF 124 0 (bX6_keep_7 v) (mkM (v 0) (v 1) (v 2) (v 3) (v 4) (v 5) (v 6) (v 7) (v 8 0) (v 8 1) 0 (v 8 3) (v 8 4) (v 8 5) (v 8 6) (v 8 7) (v 8 8)))) := hg.trans (congrArg (fun z => z) e_7)
  exact L7  124 0 (mkM (v 0) (v 1) (v 2) (v 3) (v 4) (v 5) (v 6) (v 7) (v 8 0) (v 8 1) 0 (v 8 3) (v 8 4) (v 8 5) (v 8 6) (v 8 7) (v 8 8)) (by omega) hg _ _ hP hS _ (lv_sub hl [1, 0] rfl)

theorem dX6_restore_0 : decode cX6_restore 0 = .ok (.aload_n 0, 1) := by decide +kernel
theorem dX6_restore_1 : decode cX6_restore 1 = .ok (.iconst 0, 1) := by decide +kernel
theorem dX6_restore_2 : decode cX6_restore 2 = .ok (.putfield 34, 3) := by decide +kernel
theorem dX6_restore_5 : decode cX6_restore 5 = .ok (.aload_n 0, 1) := by decide +kernel
theorem dX6_restore_6 : decode cX6_restore 6 = .ok (.getfield 50, 3) := by decide +kernel
theorem dX6_restore_9 : decode cX6_restore 9 = .ok (.ifCond .ne 9, 3) := by decide +kernel
theorem dX6_restore_12 : decode cX6_restore 12 = .ok (.aload_n 0, 1) := by decide +kernel
theorem dX6_restore_13 : decode cX6_restore 13 = .ok (.iconst 1, 1) := by decide +kernel
theorem dX6_restore_14 : decode cX6_restore 14 = .ok (.invokevirtual 46, 3) := by decide +kernel
theorem dX6_restore_17 : decode cX6_restore 17 = .ok (.ireturn, 1) := by decide +kernel
theorem dX6_restore_18 : decode cX6_restore 18 = .ok (.aload_n 0, 1) := by decide +kernel
theorem dX6_restore_19 : decode cX6_restore 19 = .ok (.invokevirtual 54, 3) := by decide +kernel
theorem dX6_restore_22 : decode cX6_restore 22 = .ok (.iconst 0, 1) := by decide +kernel
theorem dX6_restore_23 : decode cX6_restore 23 = .ok (.istore_n 1, 1) := by decide +kernel
theorem dX6_restore_24 : decode cX6_restore 24 = .ok (.iload_n 1, 1) := by decide +kernel
theorem dX6_restore_25 : decode cX6_restore 25 = .ok (.bipush 124, 2) := by decide +kernel
theorem dX6_restore_27 : decode cX6_restore 27 = .ok (.if_icmp .ge 21, 3) := by decide +kernel
theorem dX6_restore_30 : decode cX6_restore 30 = .ok (.aload_n 0, 1) := by decide +kernel
theorem dX6_restore_31 : decode cX6_restore 31 = .ok (.getfield 7, 3) := by decide +kernel
theorem dX6_restore_34 : decode cX6_restore 34 = .ok (.iload_n 1, 1) := by decide +kernel
theorem dX6_restore_35 : decode cX6_restore 35 = .ok (.aload_n 0, 1) := by decide +kernel
theorem dX6_restore_36 : decode cX6_restore 36 = .ok (.getfield 16, 3) := by decide +kernel
theorem dX6_restore_39 : decode cX6_restore 39 = .ok (.iload_n 1, 1) := by decide +kernel
theorem dX6_restore_40 : decode cX6_restore 40 = .ok (.iaload, 1) := by decide +kernel
theorem dX6_restore_41 : decode cX6_restore 41 = .ok (.iastore, 1) := by decide +kernel
theorem dX6_restore_42 : decode cX6_restore 42 = .ok (.iinc 1 1, 3) := by decide +kernel
theorem dX6_restore_45 : decode cX6_restore 45 = .ok (.goto (-21), 3) := by decide +kernel
theorem dX6_restore_48 : decode cX6_restore 48 = .ok (.aload_n 0, 1) := by decide +kernel
theorem dX6_restore_49 : decode cX6_restore 49 = .ok (.getfield 7, 3) := by decide +kernel
theorem dX6_restore_52 : decode cX6_restore 52 = .ok (.bipush 83, 2) := by decide +kernel
theorem dX6_restore_54 : decode cX6_restore 54 = .ok (.iaload, 1) := by decide +kernel
theorem dX6_restore_55 : decode cX6_restore 55 = .ok (.ireturn, 1) := by decide +kernel
set_option maxHeartbeats 1000000 in
set_option maxRecDepth 100000 in
theorem c_X6_restore (l : Launch) (G : GT) (q : Nat → Nat) (v : SV) (hs : Int64) (hq : mdD G q) (hI : le_n (v 8 0) 6) : Met l yX6_restore (Cond.code yX6_restore cX6_restore 2 (some .int) :: bigW) ({ frames := 1, cells := 0, slots := 0, locals := 21 }) (BP G [.ref (q 0)] (fun U H => PW G (mdW G q v hs) H)) (QE (some (.int (fX6_restore v).2)) (fun H => PW G (mdW G q (fX6_restore v).1 hs) H) (mdA q)) 0 0 (mdA q) := by
  refine met_of (by decide) (Nat.le_of_ble_eq_true rfl) ?_
  intro p e s m below meth c ls hC hKN hB0 hl
  have hP := hB0
  have hl : lv_has ls 2 [(0, .ref (q 0))] := hl
  have hS : va_S (mdA q) s.heap s.heap [] := va_S.rf
  have hAL : ∀ a, (mdA q) a → gL G ≤ a := mdD_low hq
  have hg : fX6_restore v = fX6_restore v := rfl
  refine lv_aload_n hC.1 hC.2.1 dX6_restore_0 rfl (lv_at hl 0 rfl) ?_
  refine lv_iconst (v := 0) hC.1 hC.2.1 dX6_restore_1 (by decide) ?_
  refine pf (v := .int 0) (tv := .int) hC fwX6 hKN hP (mdD_D hq v hs) hS 0 rfl rfl 6 (by decide) rfl wd_893 rfl rfl rfl (Nat.le_of_ble_eq_true rfl) dX6_restore_2 (fun H locs hq_1 hS => ?_)
  have hP : PW G (mdW G q (mkM (v 0) (v 1) (v 2) (v 3) (v 4) (v 5) (v 6) (v 7) (v 8 0) (v 8 1) 0 (v 8 3) (v 8 4) (v 8 5) (v 8 6) (v 8 7) (v 8 8)) hs) H := hq_1
  have hI : le_n ((mkM (v 0) (v 1) (v 2) (v 3) (v 4) (v 5) (v 6) (v 7) (v 8 0) (v 8 1) 0 (v 8 3) (v 8 4) (v 8 5) (v 8 6) (v 8 7) (v 8 8)) 8 0) 6 := hI
  refine lv_aload_n hC.1 hC.2.1 dX6_restore_5 rfl (lv_at hl 0 rfl) ?_
  refine gf (v := .int (v 8 1)) hC fwX6 (hKN.go hAL hS) hP 0 rfl rfl 4 (by decide) rfl wd_891 rfl dX6_restore_6 ?_
  refine lv_if_ne (tgt := 18) hC.1 hC.2.1 dX6_restore_9 (by decide) (fun k9 => ?_) (fun k9 => ?_)
  · refine lv_aload_n hC.1 hC.2.1 dX6_restore_18 rfl (lv_at hl 0 rfl) ?_
    refine runE (rV (B := fun U H => PW G (mdW G q (mkM (v 0) (v 1) (v 2) (v 3) (v 4) (v 5) (v 6) (v 7) (v 8 0) (v 8 1) 0 (v 8 3) (v 8 4) (v 8 5) (v 8 6) (v 8 7) (v 8 8)) hs) H) (As := []) (rest := []) hC mwX6_save (c_X6_save l G q (mkM (v 0) (v 1) (v 2) (v 3) (v 4) (v 5) (v 6) (v 7) (v 8 0) (v 8 1) 0 (v 8 3) (v 8 4) (v 8 5) (v 8 6) (v 8 7) (v 8 8)) hs hq hI) iwX6_save wd_962 ⟨rfl, rfl⟩ ⟨Nat.le_of_ble_eq_true rfl, Nat.le_of_ble_eq_true rfl⟩ (stb_h (fun H => PW G (mdW G q (mkM (v 0) (v 1) (v 2) (v 3) (v 4) (v 5) (v 6) (v 7) (v 8 0) (v 8 1) 0 (v 8 3) (v 8 4) (v 8 5) (v 8 6) (v 8 7) (v 8 8)) hs) H)) (hKN.go hAL hS) hP (va_recv (hKN.go hAL hS).k hP (ci := 6) (q0 := 0) rfl rfl) rfl hl.1 rfl (Nat.le_of_ble_eq_true rfl) dX6_restore_19 ⟨Nat.zero_le _, Nat.zero_le _⟩) hS (fun _ h => h) (fun _ h => h) (fun H locs hq_2 _ _ hS => ?_)
    have hP : PW G (mdW G q (fX6_save (mkM (v 0) (v 1) (v 2) (v 3) (v 4) (v 5) (v 6) (v 7) (v 8 0) (v 8 1) 0 (v 8 3) (v 8 4) (v 8 5) (v 8 6) (v 8 7) (v 8 8))) hs) H := hq_2
    obtain ⟨r_3, er_3⟩ : ∃ z, z = fX6_save (mkM (v 0) (v 1) (v 2) (v 3) (v 4) (v 5) (v 6) (v 7) (v 8 0) (v 8 1) 0 (v 8 3) (v 8 4) (v 8 5) (v 8 6) (v 8 7) (v 8 8)) := ⟨_, rfl⟩
    rw [← er_3] at hP
    have hI : True := trivial
    refine lv_iconst (v := 0) hC.1 hC.2.1 dX6_restore_22 (by decide) ?_
    refine lv_istore_n (lv' := [(1, .int 0), (0, .ref (q 0))]) hC.1 hC.2.1 dX6_restore_23 rfl hl (by decide) rfl (fun ls hl => ?_)
    have A24 : ∀ (v_24 : SV), fX6_restore v = (tX6_restore_24 v v_24) → True → ∀ (H : Heap) (locs : List Loc), PW G (mdW G q v_24 hs) H → va_S (mdA q) s.heap H locs → ∀ (ls : Array Slot), lv_has ls 2 [(0, .ref (q 0))] → W p l e ({ frames := 1, cells := 0, slots := 0, locals := 21 }) s m ([.ref (q 0)] : List Value).toArray below meth c H locs 0 0 (MQ below (QE (some (.int (fX6_restore v).2)) (fun H => PW G (mdW G q (fX6_restore v).1 hs) H) (mdA q)) ([.ref (q 0)] : List Value).toArray s 0 0 (mdA q)) (F0 m 48 ls []) := by
      intro  v_24 hg hI H locs hP hS ls hl
      refine lv_aload_n hC.1 hC.2.1 dX6_restore_48 rfl (lv_at hl 0 rfl) ?_
      refine gf (v := .ref (q 1)) hC fwX6 (hKN.go hAL hS) hP 0 rfl rfl 0 (by decide) rfl wd_887 rfl dX6_restore_49 ?_
      refine lv_bipush (v := 83) hC.1 hC.2.1 dX6_restore_52 (by decide +kernel) ?_
      refine iald_k hC (hKN.go hAL hS) hP 1 rfl (n := 124) (f := (v_24 0)) 83 (rfl) (by omega) (by decide) dX6_restore_54 ?_
      have e_4 : tX6_restore_24 v v_24 = (v_24, (v_24 0) 83) := by exact rfl
      have hg : fX6_restore v = (v_24, (v_24 0) 83) := hg.trans (congrArg (fun z => z) e_4)
      exact eE_i hC (by rw [hg]) (by show PW G (mdW G q (fX6_restore v).1 hs) H; rw [hg]; exact hP) hS dX6_restore_55
    have L24 : ∀ (n24 d24 : Nat), ∀ (v_24 : SV), d24 + n24 = 124 → fX6_restore v = (tX6_restore_24 v (lpF n24 d24 (bX6_restore_24 v) v_24)) → True → ∀ (H : Heap) (locs : List Loc), PW G (mdW G q v_24 hs) H → va_S (mdA q) s.heap H locs → ∀ (ls : Array Slot), lv_has ls 2 [(0, .ref (q 0)), (1, .int (nI d24))] → W p l e ({ frames := 1, cells := 0, slots := 0, locals := 21 }) s m ([.ref (q 0)] : List Value).toArray below meth c H locs 0 0 (MQ below (QE (some (.int (fX6_restore v).2)) (fun H => PW G (mdW G q (fX6_restore v).1 hs) H) (mdA q)) ([.ref (q 0)] : List Value).toArray s 0 0 (mdA q)) (F0 m 24 ls []) := by
      intro n24
      induction n24 with
      | zero =>
        intro d24 v_24 hd hg hI H locs hP hS ls hl
        refine lv_iload_n hC.1 hC.2.1 dX6_restore_24 rfl (lv_at hl 1 rfl) ?_
        refine lv_bipush (v := 124) hC.1 hC.2.1 dX6_restore_25 (by decide +kernel) ?_
        refine lv_icmp_ge (tgt := 48) hC.1 hC.2.1 dX6_restore_27 (by decide) (fun k27 => ?_) (fun k27 => ?_)
        · exact A24  v_24 hg hI _ _ hP hS _ (lv_sub hl [0] rfl)
        · exact absurd (nI_le (a := 124) (b := d24) (by omega) (by omega)) k27
      | succ n24 ih =>
        intro d24 v_24 hd hg hI H locs hP hS ls hl
        have hg : fX6_restore v = (tX6_restore_24 v (lpF n24 (d24 + 1) (bX6_restore_24 v) (bX6_restore_24 v d24 v_24))) := hg
        refine lv_iload_n hC.1 hC.2.1 dX6_restore_24 rfl (lv_at hl 1 rfl) ?_
        refine lv_bipush (v := 124) hC.1 hC.2.1 dX6_restore_25 (by decide +kernel) ?_
        refine lv_icmp_ge (tgt := 48) hC.1 hC.2.1 dX6_restore_27 (by decide) (fun k27 => ?_) (fun k27 => ?_)
        · exact absurd k27 (nI_ge (a := d24) (b := 124) (by omega) (by omega))
        · refine lv_aload_n hC.1 hC.2.1 dX6_restore_30 rfl (lv_at hl 0 rfl) ?_
          refine gf (v := .ref (q 1)) hC fwX6 (hKN.go hAL hS) hP 0 rfl rfl 0 (by decide) rfl wd_887 rfl dX6_restore_31 ?_
          refine lv_iload_n hC.1 hC.2.1 dX6_restore_34 rfl (lv_at hl 1 rfl) ?_
          refine lv_aload_n hC.1 hC.2.1 dX6_restore_35 rfl (lv_at hl 0 rfl) ?_
          refine gf (v := .ref (q 3)) hC fwX6 (hKN.go hAL hS) hP 0 rfl rfl 3 (by decide) rfl wd_890 rfl dX6_restore_36 ?_
          refine lv_iload_n hC.1 hC.2.1 dX6_restore_39 rfl (lv_at hl 1 rfl) ?_
          refine iald_k hC (hKN.go hAL hS) hP 3 rfl (n := 124) (f := (v_24 2)) d24 (rfl) (by omega) (by decide) dX6_restore_40 ?_
          refine lv_topi (fun w_5 ew_5 => ?_)
          refine iast_k hC (hKN.go hAL hS) hP (mdD_D hq v_24 hs) hS 1 rfl (n := 124) (f := (v_24 0)) d24 (rfl) (by omega) (by decide) dX6_restore_41 (fun H locs hq_6 hS => ?_)
          have hP : PW G (mdW G q (mkM (upd (v_24 0) d24 w_5) (v_24 1) (v_24 2) (v_24 3) (v_24 4) (v_24 5) (v_24 6) (v_24 7) (v_24 8 0) (v_24 8 1) (v_24 8 2) (v_24 8 3) (v_24 8 4) (v_24 8 5) (v_24 8 6) (v_24 8 7) (v_24 8 8)) hs) H := hq_6
          have hI : True := trivial
          refine lv_iinc (v := nI (d24 + 1)) (lv' := [(1, .int (nI (d24 + 1))), (0, .ref (q 0))]) hC.1 hC.2.1 dX6_restore_42 hl (k := 1) rfl (nI_1 _) (by decide) rfl (fun ls hl => ?_)
          refine lv_goto (tgt := 24) hC.1 hC.2.1 dX6_restore_45 (by decide) ?_
          have e_7 : bX6_restore_24 v d24 v_24 = mkM (upd (v_24 0) d24 w_5) (v_24 1) (v_24 2) (v_24 3) (v_24 4) (v_24 5) (v_24 6) (v_24 7) (v_24 8 0) (v_24 8 1) (v_24 8 2) (v_24 8 3) (v_24 8 4) (v_24 8 5) (v_24 8 6) (v_24 8 7) (v_24 8 8) := by subst ew_5; exact rfl
          have hg : fX6_restore v = (tX6_restore_24 v (lpF n24 (d24 + 1) (bX6_restore_24 v) (mkM (upd (v_24 0) d24 w_5) (v_24 1) (v_24 2) (v_24 3) (v_24 4) (v_24 5) (v_24 6) (v_24 7) (v_24 8 0) (v_24 8 1) (v_24 8 2) (v_24 8 3) (v_24 8 4) (v_24 8 5) (v_24 8 6) (v_24 8 7) (v_24 8 8)))) := hg.trans (congrArg (fun z => (tX6_restore_24 v (lpF n24 (d24 + 1) (bX6_restore_24 v) z))) e_7)
          exact ih (d24 + 1) (mkM (upd (v_24 0) d24 w_5) (v_24 1) (v_24 2) (v_24 3) (v_24 4) (v_24 5) (v_24 6) (v_24 7) (v_24 8 0) (v_24 8 1) (v_24 8 2) (v_24 8 3) (v_24 8 4) (v_24 8 5) (v_24 8 6) (v_24 8 7) (v_24 8 8)) (by omega) hg hI _ _ hP hS _ (lv_sub hl [1, 0] rfl)
    have e_8 : fX6_restore v = tX6_restore_24 v (lpF 124 0 (bX6_restore_24 v) r_3) := by subst er_3; exact Eq.trans (if_neg k9) rfl
    have hg : fX6_restore v = (tX6_restore_24 v (lpF 124 0 (bX6_restore_24 v) r_3)) := hg.trans (congrArg (fun z => z) e_8)
    exact L24  124 0 r_3 (by omega) hg hI _ _ hP hS _ (lv_sub hl [1, 0] rfl)
  · refine lv_aload_n hC.1 hC.2.1 dX6_restore_12 rfl (lv_at hl 0 rfl) ?_
    refine lv_iconst (v := 1) hC.1 hC.2.1 dX6_restore_13 (by decide) ?_
    refine runE (rV (B := fun U H => PW G (mdW G q (mkM (v 0) (v 1) (v 2) (v 3) (v 4) (v 5) (v 6) (v 7) (v 8 0) (v 8 1) 0 (v 8 3) (v 8 4) (v 8 5) (v 8 6) (v 8 7) (v 8 8)) hs) H) (As := [.int 1]) (rest := []) hC mwX6_fails (c_X6_fails l G q (mkM (v 0) (v 1) (v 2) (v 3) (v 4) (v 5) (v 6) (v 7) (v 8 0) (v 8 1) 0 (v 8 3) (v 8 4) (v 8 5) (v 8 6) (v 8 7) (v 8 8)) hs 1 hq) iwX6_fails wd_950 ⟨rfl, rfl⟩ ⟨Nat.le_of_ble_eq_true rfl, Nat.le_of_ble_eq_true rfl⟩ (stb_h (fun H => PW G (mdW G q (mkM (v 0) (v 1) (v 2) (v 3) (v 4) (v 5) (v 6) (v 7) (v 8 0) (v 8 1) 0 (v 8 3) (v 8 4) (v 8 5) (v 8 6) (v 8 7) (v 8 8)) hs) H)) (hKN.go hAL hS) hP (va_recv (hKN.go hAL hS).k hP (ci := 6) (q0 := 0) rfl rfl) rfl hl.1 rfl (Nat.le_of_ble_eq_true rfl) dX6_restore_14 ⟨Nat.zero_le _, Nat.zero_le _⟩) hS (fun _ h => h) (fun _ h => h) (fun H locs hq_9 _ _ hS => ?_)
    have hP : PW G (mdW G q ((fX6_fails (mkM (v 0) (v 1) (v 2) (v 3) (v 4) (v 5) (v 6) (v 7) (v 8 0) (v 8 1) 0 (v 8 3) (v 8 4) (v 8 5) (v 8 6) (v 8 7) (v 8 8)) 1).1) hs) H := hq_9
    obtain ⟨r_10, er_10⟩ : ∃ z, z = fX6_fails (mkM (v 0) (v 1) (v 2) (v 3) (v 4) (v 5) (v 6) (v 7) (v 8 0) (v 8 1) 0 (v 8 3) (v 8 4) (v 8 5) (v 8 6) (v 8 7) (v 8 8)) 1 := ⟨_, rfl⟩
    rw [← er_10] at hP
    show W p l e ({ frames := 1, cells := 0, slots := 0, locals := 21 }) s m ([.ref (q 0)] : List Value).toArray below meth c H locs (0 + 0) (0 + 0) _ (F0 m (14 + 3) ls [.int ((fX6_fails (mkM (v 0) (v 1) (v 2) (v 3) (v 4) (v 5) (v 6) (v 7) (v 8 0) (v 8 1) 0 (v 8 3) (v 8 4) (v 8 5) (v 8 6) (v 8 7) (v 8 8)) 1).2)])
    rw [← er_10]
    have hI : True := trivial
    have e_11 : fX6_restore v = (r_10.1, r_10.2) := by subst er_10; exact Eq.trans (if_pos k9) rfl
    have hg : fX6_restore v = (r_10.1, r_10.2) := hg.trans (congrArg (fun z => z) e_11)
    exact eE_i hC (by rw [hg]) (by show PW G (mdW G q (fX6_restore v).1 hs) H; rw [hg]; exact hP) hS dX6_restore_17

theorem dX6_paperNow_0 : decode cX6_paperNow 0 = .ok (.aload_n 0, 1) := by decide +kernel
theorem dX6_paperNow_1 : decode cX6_paperNow 1 = .ok (.getfield 7, 3) := by decide +kernel
theorem dX6_paperNow_4 : decode cX6_paperNow 4 = .ok (.bipush 87, 2) := by decide +kernel
theorem dX6_paperNow_6 : decode cX6_paperNow 6 = .ok (.iaload, 1) := by decide +kernel
theorem dX6_paperNow_7 : decode cX6_paperNow 7 = .ok (.istore_n 2, 1) := by decide +kernel
theorem dX6_paperNow_8 : decode cX6_paperNow 8 = .ok (.aload_n 0, 1) := by decide +kernel
theorem dX6_paperNow_9 : decode cX6_paperNow 9 = .ok (.getfield 7, 3) := by decide +kernel
theorem dX6_paperNow_12 : decode cX6_paperNow 12 = .ok (.bipush 81, 2) := by decide +kernel
theorem dX6_paperNow_14 : decode cX6_paperNow 14 = .ok (.iload_n 1, 1) := by decide +kernel
theorem dX6_paperNow_15 : decode cX6_paperNow 15 = .ok (.iastore, 1) := by decide +kernel
theorem dX6_paperNow_16 : decode cX6_paperNow 16 = .ok (.iconst 0, 1) := by decide +kernel
theorem dX6_paperNow_17 : decode cX6_paperNow 17 = .ok (.istore_n 3, 1) := by decide +kernel
theorem dX6_paperNow_18 : decode cX6_paperNow 18 = .ok (.iload_n 3, 1) := by decide +kernel
theorem dX6_paperNow_19 : decode cX6_paperNow 19 = .ok (.bipush 36, 2) := by decide +kernel
theorem dX6_paperNow_21 : decode cX6_paperNow 21 = .ok (.if_icmp .ge 19, 3) := by decide +kernel
theorem dX6_paperNow_24 : decode cX6_paperNow 24 = .ok (.aload_n 0, 1) := by decide +kernel
theorem dX6_paperNow_25 : decode cX6_paperNow 25 = .ok (.getfield 7, 3) := by decide +kernel
theorem dX6_paperNow_28 : decode cX6_paperNow 28 = .ok (.bipush 88, 2) := by decide +kernel
theorem dX6_paperNow_30 : decode cX6_paperNow 30 = .ok (.iload_n 3, 1) := by decide +kernel
theorem dX6_paperNow_31 : decode cX6_paperNow 31 = .ok (.iadd, 1) := by decide +kernel
theorem dX6_paperNow_32 : decode cX6_paperNow 32 = .ok (.iconst 0, 1) := by decide +kernel
theorem dX6_paperNow_33 : decode cX6_paperNow 33 = .ok (.iastore, 1) := by decide +kernel
theorem dX6_paperNow_34 : decode cX6_paperNow 34 = .ok (.iinc 3 1, 3) := by decide +kernel
theorem dX6_paperNow_37 : decode cX6_paperNow 37 = .ok (.goto (-19), 3) := by decide +kernel
theorem dX6_paperNow_40 : decode cX6_paperNow 40 = .ok (.aload_n 0, 1) := by decide +kernel
theorem dX6_paperNow_41 : decode cX6_paperNow 41 = .ok (.getfield 7, 3) := by decide +kernel
theorem dX6_paperNow_44 : decode cX6_paperNow 44 = .ok (.bipush 87, 2) := by decide +kernel
theorem dX6_paperNow_46 : decode cX6_paperNow 46 = .ok (.iconst 0, 1) := by decide +kernel
theorem dX6_paperNow_47 : decode cX6_paperNow 47 = .ok (.iastore, 1) := by decide +kernel
theorem dX6_paperNow_48 : decode cX6_paperNow 48 = .ok (.iload_n 2, 1) := by decide +kernel
theorem dX6_paperNow_49 : decode cX6_paperNow 49 = .ok (.ireturn, 1) := by decide +kernel
set_option maxHeartbeats 1000000 in
set_option maxRecDepth 100000 in
theorem c_X6_paperNow (l : Launch) (G : GT) (q : Nat → Nat) (v : SV) (hs : Int64) (x1 : Int32) (hq : mdD G q) (hI : SI (v 0)) (hp : ∃ c, c ≤ 2 ∧ x1 = nI c) : Met l yX6_paperNow (Cond.code yX6_paperNow cX6_paperNow 4 (some .int) :: bigW) ({ frames := 0, cells := 0, slots := 0, locals := 0 }) (BP G [.ref (q 0), .int x1] (fun U H => PW G (mdW G q v hs) H)) (QE (some (.int (fX6_paperNow v x1).2)) (fun H => PW G (mdW G q (fX6_paperNow v x1).1 hs) H) (mdA q)) 0 0 (mdA q) := by
  refine met_of (by decide) (Nat.le_of_ble_eq_true rfl) ?_
  intro p e s m below meth c ls hC hKN hB0 hl
  have hP := hB0
  have hl : lv_has ls 4 [(0, .ref (q 0)), (1, .int x1)] := hl
  have hS : va_S (mdA q) s.heap s.heap [] := va_S.rf
  have hAL : ∀ a, (mdA q) a → gL G ≤ a := mdD_low hq
  have hg : fX6_paperNow v x1 = fX6_paperNow v x1 := rfl
  refine lv_aload_n hC.1 hC.2.1 dX6_paperNow_0 rfl (lv_at hl 0 rfl) ?_
  refine gf (v := .ref (q 1)) hC fwX6 hKN hP 0 rfl rfl 0 (by decide) rfl wd_887 rfl dX6_paperNow_1 ?_
  refine lv_bipush (v := 87) hC.1 hC.2.1 dX6_paperNow_4 (by decide +kernel) ?_
  refine iald_k hC hKN hP 1 rfl (n := 124) (f := (v 0)) 87 (rfl) (by omega) (by decide) dX6_paperNow_6 ?_
  refine lv_istore_n (lv' := [(2, .int ((v 0) 87)), (0, .ref (q 0)), (1, .int x1)]) hC.1 hC.2.1 dX6_paperNow_7 rfl hl (by decide) rfl (fun ls hl => ?_)
  refine lv_aload_n hC.1 hC.2.1 dX6_paperNow_8 rfl (lv_at hl 1 rfl) ?_
  refine gf (v := .ref (q 1)) hC fwX6 hKN hP 0 rfl rfl 0 (by decide) rfl wd_887 rfl dX6_paperNow_9 ?_
  refine lv_bipush (v := 81) hC.1 hC.2.1 dX6_paperNow_12 (by decide +kernel) ?_
  refine lv_iload_n hC.1 hC.2.1 dX6_paperNow_14 rfl (lv_at hl 2 rfl) ?_
  refine iast_k hC hKN hP (mdD_D hq v hs) hS 1 rfl (n := 124) (f := (v 0)) 81 (rfl) (by omega) (by decide) dX6_paperNow_15 (fun H locs hq_1 hS => ?_)
  have hP : PW G (mdW G q (mkM (upd (v 0) 81 x1) (v 1) (v 2) (v 3) (v 4) (v 5) (v 6) (v 7) (v 8 0) (v 8 1) (v 8 2) (v 8 3) (v 8 4) (v 8 5) (v 8 6) (v 8 7) (v 8 8)) hs) H := hq_1
  have hI : SI ((mkM (upd (v 0) 81 x1) (v 1) (v 2) (v 3) (v 4) (v 5) (v 6) (v 7) (v 8 0) (v 8 1) (v 8 2) (v 8 3) (v 8 4) (v 8 5) (v 8 6) (v 8 7) (v 8 8)) 0) := (SI_paper hI hp)
  refine lv_iconst (v := 0) hC.1 hC.2.1 dX6_paperNow_16 (by decide) ?_
  refine lv_istore_n (lv' := [(3, .int 0), (2, .int ((v 0) 87)), (0, .ref (q 0)), (1, .int x1)]) hC.1 hC.2.1 dX6_paperNow_17 rfl hl (by decide) rfl (fun ls hl => ?_)
  have A18 : ∀ (y2_18 : Int32), ∀ (v_18 : SV), fX6_paperNow v x1 = (tX6_paperNow_18 v x1 y2_18 v_18) → SI (v_18 0) → ∀ (H : Heap) (locs : List Loc), PW G (mdW G q v_18 hs) H → va_S (mdA q) s.heap H locs → ∀ (ls : Array Slot), lv_has ls 4 [(0, .ref (q 0)), (2, .int y2_18)] → W p l e ({ frames := 0, cells := 0, slots := 0, locals := 0 }) s m ([.ref (q 0), .int x1] : List Value).toArray below meth c H locs 0 0 (MQ below (QE (some (.int (fX6_paperNow v x1).2)) (fun H => PW G (mdW G q (fX6_paperNow v x1).1 hs) H) (mdA q)) ([.ref (q 0), .int x1] : List Value).toArray s 0 0 (mdA q)) (F0 m 40 ls []) := by
    intro y2_18 v_18 hg hI H locs hP hS ls hl
    refine lv_aload_n hC.1 hC.2.1 dX6_paperNow_40 rfl (lv_at hl 0 rfl) ?_
    refine gf (v := .ref (q 1)) hC fwX6 (hKN.go hAL hS) hP 0 rfl rfl 0 (by decide) rfl wd_887 rfl dX6_paperNow_41 ?_
    refine lv_bipush (v := 87) hC.1 hC.2.1 dX6_paperNow_44 (by decide +kernel) ?_
    refine lv_iconst (v := 0) hC.1 hC.2.1 dX6_paperNow_46 (by decide) ?_
    refine iast_k hC (hKN.go hAL hS) hP (mdD_D hq v_18 hs) hS 1 rfl (n := 124) (f := (v_18 0)) 87 (rfl) (by omega) (by decide) dX6_paperNow_47 (fun H locs hq_2 hS => ?_)
    have hP : PW G (mdW G q (mkM (upd (v_18 0) 87 0) (v_18 1) (v_18 2) (v_18 3) (v_18 4) (v_18 5) (v_18 6) (v_18 7) (v_18 8 0) (v_18 8 1) (v_18 8 2) (v_18 8 3) (v_18 8 4) (v_18 8 5) (v_18 8 6) (v_18 8 7) (v_18 8 8)) hs) H := hq_2
    have hI : SI ((mkM (upd (v_18 0) 87 0) (v_18 1) (v_18 2) (v_18 3) (v_18 4) (v_18 5) (v_18 6) (v_18 7) (v_18 8 0) (v_18 8 1) (v_18 8 2) (v_18 8 3) (v_18 8 4) (v_18 8 5) (v_18 8 6) (v_18 8 7) (v_18 8 8)) 0) := (SI_upd hI (Or.inr (by omega)))
    refine lv_iload_n hC.1 hC.2.1 dX6_paperNow_48 rfl (lv_at hl 1 rfl) ?_
    have e_3 : tX6_paperNow_18 v x1 y2_18 v_18 = (mkM (upd (v_18 0) 87 0) (v_18 1) (v_18 2) (v_18 3) (v_18 4) (v_18 5) (v_18 6) (v_18 7) (v_18 8 0) (v_18 8 1) (v_18 8 2) (v_18 8 3) (v_18 8 4) (v_18 8 5) (v_18 8 6) (v_18 8 7) (v_18 8 8), y2_18) := by exact rfl
    have hg : fX6_paperNow v x1 = (mkM (upd (v_18 0) 87 0) (v_18 1) (v_18 2) (v_18 3) (v_18 4) (v_18 5) (v_18 6) (v_18 7) (v_18 8 0) (v_18 8 1) (v_18 8 2) (v_18 8 3) (v_18 8 4) (v_18 8 5) (v_18 8 6) (v_18 8 7) (v_18 8 8), y2_18) := hg.trans (congrArg (fun z => z) e_3)
    exact eE_i hC (by rw [hg]) (by show PW G (mdW G q (fX6_paperNow v x1).1 hs) H; rw [hg]; exact hP) hS dX6_paperNow_49
  have L18 : ∀ (y2_18 : Int32), ∀ (n18 d18 : Nat), ∀ (v_18 : SV), d18 + n18 = 36 → fX6_paperNow v x1 = (tX6_paperNow_18 v x1 y2_18 (lpF n18 d18 (bX6_paperNow_18 v x1 y2_18) v_18)) → SI (v_18 0) → ∀ (H : Heap) (locs : List Loc), PW G (mdW G q v_18 hs) H → va_S (mdA q) s.heap H locs → ∀ (ls : Array Slot), lv_has ls 4 [(0, .ref (q 0)), (2, .int y2_18), (3, .int (nI d18))] → W p l e ({ frames := 0, cells := 0, slots := 0, locals := 0 }) s m ([.ref (q 0), .int x1] : List Value).toArray below meth c H locs 0 0 (MQ below (QE (some (.int (fX6_paperNow v x1).2)) (fun H => PW G (mdW G q (fX6_paperNow v x1).1 hs) H) (mdA q)) ([.ref (q 0), .int x1] : List Value).toArray s 0 0 (mdA q)) (F0 m 18 ls []) := by
    intro y2_18
    intro n18
    induction n18 with
    | zero =>
      intro d18 v_18 hd hg hI H locs hP hS ls hl
      refine lv_iload_n hC.1 hC.2.1 dX6_paperNow_18 rfl (lv_at hl 2 rfl) ?_
      refine lv_bipush (v := 36) hC.1 hC.2.1 dX6_paperNow_19 (by decide +kernel) ?_
      refine lv_icmp_ge (tgt := 40) hC.1 hC.2.1 dX6_paperNow_21 (by decide) (fun k21 => ?_) (fun k21 => ?_)
      · exact A18 y2_18 v_18 hg hI _ _ hP hS _ (lv_sub hl [0, 1] rfl)
      · exact absurd (nI_le (a := 36) (b := d18) (by omega) (by omega)) k21
    | succ n18 ih =>
      intro d18 v_18 hd hg hI H locs hP hS ls hl
      have hg : fX6_paperNow v x1 = (tX6_paperNow_18 v x1 y2_18 (lpF n18 (d18 + 1) (bX6_paperNow_18 v x1 y2_18) (bX6_paperNow_18 v x1 y2_18 d18 v_18))) := hg
      refine lv_iload_n hC.1 hC.2.1 dX6_paperNow_18 rfl (lv_at hl 2 rfl) ?_
      refine lv_bipush (v := 36) hC.1 hC.2.1 dX6_paperNow_19 (by decide +kernel) ?_
      refine lv_icmp_ge (tgt := 40) hC.1 hC.2.1 dX6_paperNow_21 (by decide) (fun k21 => ?_) (fun k21 => ?_)
      · exact absurd k21 (nI_ge (a := d18) (b := 36) (by omega) (by omega))
      · refine lv_aload_n hC.1 hC.2.1 dX6_paperNow_24 rfl (lv_at hl 0 rfl) ?_
        refine gf (v := .ref (q 1)) hC fwX6 (hKN.go hAL hS) hP 0 rfl rfl 0 (by decide) rfl wd_887 rfl dX6_paperNow_25 ?_
        refine lv_bipush (v := 88) hC.1 hC.2.1 dX6_paperNow_28 (by decide +kernel) ?_
        refine lv_iload_n hC.1 hC.2.1 dX6_paperNow_30 rfl (lv_at hl 2 rfl) ?_
        refine lv_iadd hC.1 hC.2.1 dX6_paperNow_31 ?_
        refine lv_iconst (v := 0) hC.1 hC.2.1 dX6_paperNow_32 (by decide) ?_
        refine iast_k hC (hKN.go hAL hS) hP (mdD_D hq v_18 hs) hS 1 rfl (n := 124) (f := (v_18 0)) (88 + d18) (nE_add (rfl) (rfl)) (by omega) (by decide) dX6_paperNow_33 (fun H locs hq_4 hS => ?_)
        have hP : PW G (mdW G q (mkM (upd (v_18 0) (88 + d18) 0) (v_18 1) (v_18 2) (v_18 3) (v_18 4) (v_18 5) (v_18 6) (v_18 7) (v_18 8 0) (v_18 8 1) (v_18 8 2) (v_18 8 3) (v_18 8 4) (v_18 8 5) (v_18 8 6) (v_18 8 7) (v_18 8 8)) hs) H := hq_4
        have hI : SI ((mkM (upd (v_18 0) (88 + d18) 0) (v_18 1) (v_18 2) (v_18 3) (v_18 4) (v_18 5) (v_18 6) (v_18 7) (v_18 8 0) (v_18 8 1) (v_18 8 2) (v_18 8 3) (v_18 8 4) (v_18 8 5) (v_18 8 6) (v_18 8 7) (v_18 8 8)) 0) := (SI_upd hI (Or.inr (by omega)))
        refine lv_iinc (v := nI (d18 + 1)) (lv' := [(3, .int (nI (d18 + 1))), (0, .ref (q 0)), (2, .int y2_18)]) hC.1 hC.2.1 dX6_paperNow_34 hl (k := 2) rfl (nI_1 _) (by decide) rfl (fun ls hl => ?_)
        refine lv_goto (tgt := 18) hC.1 hC.2.1 dX6_paperNow_37 (by decide) ?_
        have e_5 : bX6_paperNow_18 v x1 y2_18 d18 v_18 = mkM (upd (v_18 0) (88 + d18) 0) (v_18 1) (v_18 2) (v_18 3) (v_18 4) (v_18 5) (v_18 6) (v_18 7) (v_18 8 0) (v_18 8 1) (v_18 8 2) (v_18 8 3) (v_18 8 4) (v_18 8 5) (v_18 8 6) (v_18 8 7) (v_18 8 8) := by exact rfl
        have hg : fX6_paperNow v x1 = (tX6_paperNow_18 v x1 y2_18 (lpF n18 (d18 + 1) (bX6_paperNow_18 v x1 y2_18) (mkM (upd (v_18 0) (88 + d18) 0) (v_18 1) (v_18 2) (v_18 3) (v_18 4) (v_18 5) (v_18 6) (v_18 7) (v_18 8 0) (v_18 8 1) (v_18 8 2) (v_18 8 3) (v_18 8 4) (v_18 8 5) (v_18 8 6) (v_18 8 7) (v_18 8 8)))) := hg.trans (congrArg (fun z => (tX6_paperNow_18 v x1 y2_18 (lpF n18 (d18 + 1) (bX6_paperNow_18 v x1 y2_18) z))) e_5)
        exact ih (d18 + 1) (mkM (upd (v_18 0) (88 + d18) 0) (v_18 1) (v_18 2) (v_18 3) (v_18 4) (v_18 5) (v_18 6) (v_18 7) (v_18 8 0) (v_18 8 1) (v_18 8 2) (v_18 8 3) (v_18 8 4) (v_18 8 5) (v_18 8 6) (v_18 8 7) (v_18 8 8)) (by omega) hg hI _ _ hP hS _ (lv_sub hl [1, 2, 0] rfl)
  have e_6 : fX6_paperNow v x1 = tX6_paperNow_18 v x1 ((v 0) 87) (lpF 36 0 (bX6_paperNow_18 v x1 ((v 0) 87)) (mkM (upd (v 0) 81 x1) (v 1) (v 2) (v 3) (v 4) (v 5) (v 6) (v 7) (v 8 0) (v 8 1) (v 8 2) (v 8 3) (v 8 4) (v 8 5) (v 8 6) (v 8 7) (v 8 8))) := by exact rfl
  have hg : fX6_paperNow v x1 = (tX6_paperNow_18 v x1 ((v 0) 87) (lpF 36 0 (bX6_paperNow_18 v x1 ((v 0) 87)) (mkM (upd (v 0) 81 x1) (v 1) (v 2) (v 3) (v 4) (v 5) (v 6) (v 7) (v 8 0) (v 8 1) (v 8 2) (v 8 3) (v 8 4) (v 8 5) (v 8 6) (v 8 7) (v 8 8)))) := hg.trans (congrArg (fun z => z) e_6)
  exact L18 ((v 0) 87) 36 0 (mkM (upd (v 0) 81 x1) (v 1) (v 2) (v 3) (v 4) (v 5) (v 6) (v 7) (v 8 0) (v 8 1) (v 8 2) (v 8 3) (v 8 4) (v 8 5) (v 8 6) (v 8 7) (v 8 8)) (by omega) hg hI _ _ hP hS _ (lv_sub hl [2, 1, 0] rfl)

theorem dX6_printSome_0 : decode cX6_printSome 0 = .ok (.aload_n 0, 1) := by decide +kernel
theorem dX6_printSome_1 : decode cX6_printSome 1 = .ok (.bipush 50, 2) := by decide +kernel
theorem dX6_printSome_3 : decode cX6_printSome 3 = .ok (.invokevirtual 118, 3) := by decide +kernel
theorem dX6_printSome_6 : decode cX6_printSome 6 = .ok (.istore_n 3, 1) := by decide +kernel
theorem dX6_printSome_7 : decode cX6_printSome 7 = .ok (.iconst 0, 1) := by decide +kernel
theorem dX6_printSome_8 : decode cX6_printSome 8 = .ok (.istore 4, 2) := by decide +kernel
theorem dX6_printSome_10 : decode cX6_printSome 10 = .ok (.iload 4, 2) := by decide +kernel
theorem dX6_printSome_12 : decode cX6_printSome 12 = .ok (.iload_n 2, 1) := by decide +kernel
theorem dX6_printSome_13 : decode cX6_printSome 13 = .ok (.if_icmp .ge 16, 3) := by decide +kernel
theorem dX6_printSome_16 : decode cX6_printSome 16 = .ok (.aload_n 0, 1) := by decide +kernel
theorem dX6_printSome_17 : decode cX6_printSome 17 = .ok (.iload_n 1, 1) := by decide +kernel
theorem dX6_printSome_18 : decode cX6_printSome 18 = .ok (.invokevirtual 115, 3) := by decide +kernel
theorem dX6_printSome_21 : decode cX6_printSome 21 = .ok (.istore 5, 2) := by decide +kernel
theorem dX6_printSome_23 : decode cX6_printSome 23 = .ok (.iinc 4 1, 3) := by decide +kernel
theorem dX6_printSome_26 : decode cX6_printSome 26 = .ok (.goto (-16), 3) := by decide +kernel
theorem dX6_printSome_29 : decode cX6_printSome 29 = .ok (.aload_n 0, 1) := by decide +kernel
theorem dX6_printSome_30 : decode cX6_printSome 30 = .ok (.bipush 50, 2) := by decide +kernel
theorem dX6_printSome_32 : decode cX6_printSome 32 = .ok (.invokevirtual 118, 3) := by decide +kernel
theorem dX6_printSome_35 : decode cX6_printSome 35 = .ok (.iload_n 3, 1) := by decide +kernel
theorem dX6_printSome_36 : decode cX6_printSome 36 = .ok (.isub, 1) := by decide +kernel
theorem dX6_printSome_37 : decode cX6_printSome 37 = .ok (.ireturn, 1) := by decide +kernel
set_option maxHeartbeats 1000000 in
set_option maxRecDepth 100000 in
theorem c_X6_printSome (l : Launch) (G : GT) (q : Nat → Nat) (v : SV) (hs : Int64) (x1 : Int32) (x2 : Int32) (hq : mdD G q) (hI : SI (v 0)) : Met l yX6_printSome (Cond.code yX6_printSome cX6_printSome 6 (some .int) :: bigW) ({ frames := 6, cells := 0, slots := 0, locals := 141 }) (BP G [.ref (q 0), .int x1, .int x2] (fun U H => PW G (mdW G q v hs) H)) (QE (some (.int (fX6_printSome v x1 x2).2)) (fun H => PW G (mdW G q (fX6_printSome v x1 x2).1 hs) H) (mdA q)) 0 0 (mdA q) := by
  refine met_of (by decide) (Nat.le_of_ble_eq_true rfl) ?_
  intro p e s m below meth c ls hC hKN hB0 hl
  have hP := hB0
  have hl : lv_has ls 6 [(0, .ref (q 0)), (1, .int x1), (2, .int x2)] := hl
  have hS : va_S (mdA q) s.heap s.heap [] := va_S.rf
  have hAL : ∀ a, (mdA q) a → gL G ≤ a := mdD_low hq
  have hg : fX6_printSome v x1 x2 = fX6_printSome v x1 x2 := rfl
  refine lv_aload_n hC.1 hC.2.1 dX6_printSome_0 rfl (lv_at hl 0 rfl) ?_
  refine lv_bipush (v := 50) hC.1 hC.2.1 dX6_printSome_1 (by decide +kernel) ?_
  refine runP (rV (B := fun U H => PW G (mdW G q v hs) H) (As := [.int 50]) (rest := []) hC mwX6_sum (c_X6_sum l G q v hs 50 (by decide)) iwX6_sum wd_1039 ⟨rfl, rfl⟩ ⟨Nat.le_of_ble_eq_true rfl, Nat.le_of_ble_eq_true rfl⟩ (stb_h (fun H => PW G (mdW G q v hs) H)) hKN hP (va_recv hKN.k hP (ci := 6) (q0 := 0) rfl rfl) rfl hl.1 rfl (Nat.le_of_ble_eq_true rfl) dX6_printSome_3 ⟨Nat.zero_le _, Nat.zero_le _⟩) ?_
  refine lv_istore_n (lv' := [(3, .int (fX6_sum v 50)), (0, .ref (q 0)), (1, .int x1), (2, .int x2)]) hC.1 hC.2.1 dX6_printSome_6 rfl hl (by decide) rfl (fun ls hl => ?_)
  refine lv_iconst (v := 0) hC.1 hC.2.1 dX6_printSome_7 (by decide) ?_
  refine lv_istore (lv' := [(4, .int 0), (3, .int (fX6_sum v 50)), (0, .ref (q 0)), (1, .int x1), (2, .int x2)]) hC.1 hC.2.1 dX6_printSome_8 hl (by decide) rfl (fun ls hl => ?_)
  have A10 : ∀ (y3_10 : Int32), ∀ (v_10 : SV), fX6_printSome v x1 x2 = (tX6_printSome_10 v x1 x2 y3_10 v_10) → SI (v_10 0) → ∀ (H : Heap) (locs : List Loc), PW G (mdW G q v_10 hs) H → va_S (mdA q) s.heap H locs → ∀ (ls : Array Slot), lv_has ls 6 [(0, .ref (q 0)), (3, .int y3_10)] → W p l e ({ frames := 6, cells := 0, slots := 0, locals := 141 }) s m ([.ref (q 0), .int x1, .int x2] : List Value).toArray below meth c H locs 0 0 (MQ below (QE (some (.int (fX6_printSome v x1 x2).2)) (fun H => PW G (mdW G q (fX6_printSome v x1 x2).1 hs) H) (mdA q)) ([.ref (q 0), .int x1, .int x2] : List Value).toArray s 0 0 (mdA q)) (F0 m 29 ls []) := by
    intro y3_10 v_10 hg hI H locs hP hS ls hl
    refine lv_aload_n hC.1 hC.2.1 dX6_printSome_29 rfl (lv_at hl 0 rfl) ?_
    refine lv_bipush (v := 50) hC.1 hC.2.1 dX6_printSome_30 (by decide +kernel) ?_
    refine runP (rV (B := fun U H => PW G (mdW G q v_10 hs) H) (As := [.int 50]) (rest := []) hC mwX6_sum (c_X6_sum l G q v_10 hs 50 (by decide)) iwX6_sum wd_1039 ⟨rfl, rfl⟩ ⟨Nat.le_of_ble_eq_true rfl, Nat.le_of_ble_eq_true rfl⟩ (stb_h (fun H => PW G (mdW G q v_10 hs) H)) (hKN.go hAL hS) hP (va_recv (hKN.go hAL hS).k hP (ci := 6) (q0 := 0) rfl rfl) rfl hl.1 rfl (Nat.le_of_ble_eq_true rfl) dX6_printSome_32 ⟨Nat.zero_le _, Nat.zero_le _⟩) ?_
    refine lv_iload_n hC.1 hC.2.1 dX6_printSome_35 rfl (lv_at hl 1 rfl) ?_
    refine lv_isub hC.1 hC.2.1 dX6_printSome_36 ?_
    have e_1 : tX6_printSome_10 v x1 x2 y3_10 v_10 = (v_10, (fX6_sum v_10 50) - y3_10) := by exact rfl
    have hg : fX6_printSome v x1 x2 = (v_10, (fX6_sum v_10 50) - y3_10) := hg.trans (congrArg (fun z => z) e_1)
    exact eE_i hC (by rw [hg]) (by show PW G (mdW G q (fX6_printSome v x1 x2).1 hs) H; rw [hg]; exact hP) hS dX6_printSome_37
  have L10 : ∀ (y3_10 : Int32), ∀ (n10 d10 : Nat), ∀ (v_10 : SV), d10 + n10 = x2.toNatClampNeg → fX6_printSome v x1 x2 = (tX6_printSome_10 v x1 x2 y3_10 (lpF n10 d10 (bX6_printSome_10 v x1 x2 y3_10) v_10)) → SI (v_10 0) → ∀ (H : Heap) (locs : List Loc), PW G (mdW G q v_10 hs) H → va_S (mdA q) s.heap H locs → ∀ (ls : Array Slot), lv_has ls 6 [(0, .ref (q 0)), (1, .int x1), (2, .int x2), (3, .int y3_10), (4, .int (nI d10))] → W p l e ({ frames := 6, cells := 0, slots := 0, locals := 141 }) s m ([.ref (q 0), .int x1, .int x2] : List Value).toArray below meth c H locs 0 0 (MQ below (QE (some (.int (fX6_printSome v x1 x2).2)) (fun H => PW G (mdW G q (fX6_printSome v x1 x2).1 hs) H) (mdA q)) ([.ref (q 0), .int x1, .int x2] : List Value).toArray s 0 0 (mdA q)) (F0 m 10 ls []) := by
    intro y3_10
    intro n10
    induction n10 with
    | zero =>
      intro d10 v_10 hd hg hI H locs hP hS ls hl
      refine lv_iload hC.1 hC.2.1 dX6_printSome_10 (lv_at hl 4 rfl) ?_
      refine lv_iload_n hC.1 hC.2.1 dX6_printSome_12 rfl (lv_at hl 2 rfl) ?_
      refine lv_icmp_ge (tgt := 29) hC.1 hC.2.1 dX6_printSome_13 (by decide) (fun k13 => ?_) (fun k13 => ?_)
      · exact A10 y3_10 v_10 hg hI _ _ hP hS _ (lv_sub hl [0, 3] rfl)
      · exact absurd (cl_le (by omega) (by have := cl_lt x2; omega)) k13
    | succ n10 ih =>
      intro d10 v_10 hd hg hI H locs hP hS ls hl
      have hg : fX6_printSome v x1 x2 = (tX6_printSome_10 v x1 x2 y3_10 (lpF n10 (d10 + 1) (bX6_printSome_10 v x1 x2 y3_10) (bX6_printSome_10 v x1 x2 y3_10 d10 v_10))) := hg
      refine lv_iload hC.1 hC.2.1 dX6_printSome_10 (lv_at hl 4 rfl) ?_
      refine lv_iload_n hC.1 hC.2.1 dX6_printSome_12 rfl (lv_at hl 2 rfl) ?_
      refine lv_icmp_ge (tgt := 29) hC.1 hC.2.1 dX6_printSome_13 (by decide) (fun k13 => ?_) (fun k13 => ?_)
      · exact absurd k13 (cl_nle (by omega))
      · refine lv_aload_n hC.1 hC.2.1 dX6_printSome_16 rfl (lv_at hl 0 rfl) ?_
        refine lv_iload_n hC.1 hC.2.1 dX6_printSome_17 rfl (lv_at hl 1 rfl) ?_
        refine runE (rV (B := fun U H => PW G (mdW G q v_10 hs) H) (As := [.int x1]) (rest := []) hC mwX6_printLine (c_X6_printLine l G q v_10 hs x1 hq hI) iwX6_printLine wd_977 ⟨rfl, rfl⟩ ⟨Nat.le_of_ble_eq_true rfl, Nat.le_of_ble_eq_true rfl⟩ (stb_h (fun H => PW G (mdW G q v_10 hs) H)) (hKN.go hAL hS) hP (va_recv (hKN.go hAL hS).k hP (ci := 6) (q0 := 0) rfl rfl) rfl hl.1 rfl (Nat.le_of_ble_eq_true rfl) dX6_printSome_18 ⟨Nat.zero_le _, Nat.zero_le _⟩) hS (fun _ h => h) (fun _ h => h) (fun H locs hq_2 _ _ hS => ?_)
        have hP : PW G (mdW G q ((fX6_printLine v_10 x1).1) hs) H := hq_2
        obtain ⟨r_3, er_3⟩ : ∃ z, z = fX6_printLine v_10 x1 := ⟨_, rfl⟩
        rw [← er_3] at hP
        show W p l e ({ frames := 6, cells := 0, slots := 0, locals := 141 }) s m ([.ref (q 0), .int x1, .int x2] : List Value).toArray below meth c H locs (0 + 0) (0 + 0) _ (F0 m (18 + 3) ls [.int ((fX6_printLine v_10 x1).2)])
        rw [← er_3]
        have hI : SI (r_3.1 0) := by rw [er_3]; exact (KS (S_printLine _ _) hI)
        refine lv_istore (lv' := [(5, .int r_3.2), (0, .ref (q 0)), (1, .int x1), (2, .int x2), (3, .int y3_10), (4, .int (nI d10))]) hC.1 hC.2.1 dX6_printSome_21 hl (by decide) rfl (fun ls hl => ?_)
        refine lv_iinc (v := nI (d10 + 1)) (lv' := [(4, .int (nI (d10 + 1))), (5, .int r_3.2), (0, .ref (q 0)), (1, .int x1), (2, .int x2), (3, .int y3_10)]) hC.1 hC.2.1 dX6_printSome_23 hl (k := 5) rfl (nI_1 _) (by decide) rfl (fun ls hl => ?_)
        refine lv_goto (tgt := 10) hC.1 hC.2.1 dX6_printSome_26 (by decide) ?_
        have e_4 : bX6_printSome_10 v x1 x2 y3_10 d10 v_10 = r_3.1 := by subst er_3; exact rfl
        have hg : fX6_printSome v x1 x2 = (tX6_printSome_10 v x1 x2 y3_10 (lpF n10 (d10 + 1) (bX6_printSome_10 v x1 x2 y3_10) r_3.1)) := hg.trans (congrArg (fun z => (tX6_printSome_10 v x1 x2 y3_10 (lpF n10 (d10 + 1) (bX6_printSome_10 v x1 x2 y3_10) z))) e_4)
        exact ih (d10 + 1) r_3.1 (by omega) hg hI _ _ hP hS _ (lv_sub hl [2, 3, 4, 5, 0] rfl)
  have e_5 : fX6_printSome v x1 x2 = tX6_printSome_10 v x1 x2 (fX6_sum v 50) (lpF x2.toNatClampNeg 0 (bX6_printSome_10 v x1 x2 (fX6_sum v 50)) v) := by exact rfl
  have hg : fX6_printSome v x1 x2 = (tX6_printSome_10 v x1 x2 (fX6_sum v 50) (lpF x2.toNatClampNeg 0 (bX6_printSome_10 v x1 x2 (fX6_sum v 50)) v)) := hg.trans (congrArg (fun z => z) e_5)
  exact L10 (fX6_sum v 50) x2.toNatClampNeg 0 v (by omega) hg hI _ _ hP hS _ (lv_sub hl [2, 3, 4, 1, 0] rfl)

theorem dX6_line_0 : decode cX6_line 0 = .ok (.aload_n 0, 1) := by decide +kernel
theorem dX6_line_1 : decode cX6_line 1 = .ok (.iconst 0, 1) := by decide +kernel
theorem dX6_line_2 : decode cX6_line 2 = .ok (.putfield 34, 3) := by decide +kernel
theorem dX6_line_5 : decode cX6_line 5 = .ok (.iload_n 1, 1) := by decide +kernel
theorem dX6_line_6 : decode cX6_line 6 = .ok (.invokestatic 111, 3) := by decide +kernel
theorem dX6_line_9 : decode cX6_line 9 = .ok (.ifCond .ne 9, 3) := by decide +kernel
theorem dX6_line_12 : decode cX6_line 12 = .ok (.aload_n 0, 1) := by decide +kernel
theorem dX6_line_13 : decode cX6_line 13 = .ok (.iconst 1, 1) := by decide +kernel
theorem dX6_line_14 : decode cX6_line 14 = .ok (.invokevirtual 46, 3) := by decide +kernel
theorem dX6_line_17 : decode cX6_line 17 = .ok (.ireturn, 1) := by decide +kernel
theorem dX6_line_18 : decode cX6_line 18 = .ok (.aload_n 0, 1) := by decide +kernel
theorem dX6_line_19 : decode cX6_line 19 = .ok (.invokevirtual 54, 3) := by decide +kernel
theorem dX6_line_22 : decode cX6_line 22 = .ok (.aload_n 0, 1) := by decide +kernel
theorem dX6_line_23 : decode cX6_line 23 = .ok (.iload_n 1, 1) := by decide +kernel
theorem dX6_line_24 : decode cX6_line 24 = .ok (.invokevirtual 115, 3) := by decide +kernel
theorem dX6_line_27 : decode cX6_line 27 = .ok (.ireturn, 1) := by decide +kernel
set_option maxHeartbeats 1000000 in
set_option maxRecDepth 100000 in
theorem c_X6_line (l : Launch) (G : GT) (q : Nat → Nat) (v : SV) (hs : Int64) (x1 : Int32) (hq : mdD G q) (hI : MI v) : Met l yX6_line (Cond.code yX6_line cX6_line 2 (some .int) :: bigW) ({ frames := 6, cells := 0, slots := 0, locals := 141 }) (BP G [.ref (q 0), .int x1] (fun U H => PW G (mdW G q v hs) H)) (QE (some (.int (fX6_line v x1).2)) (fun H => PW G (mdW G q (fX6_line v x1).1 hs) H) (mdA q)) 0 0 (mdA q) := by
  refine met_of (by decide) (Nat.le_of_ble_eq_true rfl) ?_
  intro p e s m below meth c ls hC hKN hB0 hl
  have hP := hB0
  have hl : lv_has ls 2 [(0, .ref (q 0)), (1, .int x1)] := hl
  have hS : va_S (mdA q) s.heap s.heap [] := va_S.rf
  have hAL : ∀ a, (mdA q) a → gL G ≤ a := mdD_low hq
  have hg : fX6_line v x1 = fX6_line v x1 := rfl
  refine lv_aload_n hC.1 hC.2.1 dX6_line_0 rfl (lv_at hl 0 rfl) ?_
  refine lv_iconst (v := 0) hC.1 hC.2.1 dX6_line_1 (by decide) ?_
  refine pf (v := .int 0) (tv := .int) hC fwX6 hKN hP (mdD_D hq v hs) hS 0 rfl rfl 6 (by decide) rfl wd_893 rfl rfl rfl (Nat.le_of_ble_eq_true rfl) dX6_line_2 (fun H locs hq_1 hS => ?_)
  have hP : PW G (mdW G q (mkM (v 0) (v 1) (v 2) (v 3) (v 4) (v 5) (v 6) (v 7) (v 8 0) (v 8 1) 0 (v 8 3) (v 8 4) (v 8 5) (v 8 6) (v 8 7) (v 8 8)) hs) H := hq_1
  have hI : MI (mkM (v 0) (v 1) (v 2) (v 3) (v 4) (v 5) (v 6) (v 7) (v 8 0) (v 8 1) 0 (v 8 3) (v 8 4) (v 8 5) (v 8 6) (v 8 7) (v 8 8)) := hI
  refine lv_iload_n hC.1 hC.2.1 dX6_line_5 rfl (lv_at hl 1 rfl) ?_
  refine runP (rS (B := fun U H => True) (As := [.int x1]) (rest := []) hC mwX6_isLine (c_X6_isLine l G x1) wd_971 wd_970 ⟨rfl, rfl⟩ ⟨Nat.le_of_ble_eq_true rfl, Nat.le_of_ble_eq_true rfl⟩ (fun _ _ _ _ h => h) (hKN.go hAL hS) trivial rfl hl.1 rfl (Nat.le_of_ble_eq_true rfl) dX6_line_6 ⟨Nat.zero_le _, Nat.zero_le _⟩) ?_
  refine lv_if_ne (tgt := 18) hC.1 hC.2.1 dX6_line_9 (by decide) (fun k9 => ?_) (fun k9 => ?_)
  · refine lv_aload_n hC.1 hC.2.1 dX6_line_18 rfl (lv_at hl 0 rfl) ?_
    refine runE (rV (B := fun U H => PW G (mdW G q (mkM (v 0) (v 1) (v 2) (v 3) (v 4) (v 5) (v 6) (v 7) (v 8 0) (v 8 1) 0 (v 8 3) (v 8 4) (v 8 5) (v 8 6) (v 8 7) (v 8 8)) hs) H) (As := []) (rest := []) hC mwX6_save (c_X6_save l G q (mkM (v 0) (v 1) (v 2) (v 3) (v 4) (v 5) (v 6) (v 7) (v 8 0) (v 8 1) 0 (v 8 3) (v 8 4) (v 8 5) (v 8 6) (v 8 7) (v 8 8)) hs hq hI.2) iwX6_save wd_962 ⟨rfl, rfl⟩ ⟨Nat.le_of_ble_eq_true rfl, Nat.le_of_ble_eq_true rfl⟩ (stb_h (fun H => PW G (mdW G q (mkM (v 0) (v 1) (v 2) (v 3) (v 4) (v 5) (v 6) (v 7) (v 8 0) (v 8 1) 0 (v 8 3) (v 8 4) (v 8 5) (v 8 6) (v 8 7) (v 8 8)) hs) H)) (hKN.go hAL hS) hP (va_recv (hKN.go hAL hS).k hP (ci := 6) (q0 := 0) rfl rfl) rfl hl.1 rfl (Nat.le_of_ble_eq_true rfl) dX6_line_19 ⟨Nat.zero_le _, Nat.zero_le _⟩) hS (fun _ h => h) (fun _ h => h) (fun H locs hq_2 _ _ hS => ?_)
    have hP : PW G (mdW G q (fX6_save (mkM (v 0) (v 1) (v 2) (v 3) (v 4) (v 5) (v 6) (v 7) (v 8 0) (v 8 1) 0 (v 8 3) (v 8 4) (v 8 5) (v 8 6) (v 8 7) (v 8 8))) hs) H := hq_2
    obtain ⟨r_3, er_3⟩ : ∃ z, z = fX6_save (mkM (v 0) (v 1) (v 2) (v 3) (v 4) (v 5) (v 6) (v 7) (v 8 0) (v 8 1) 0 (v 8 3) (v 8 4) (v 8 5) (v 8 6) (v 8 7) (v 8 8)) := ⟨_, rfl⟩
    rw [← er_3] at hP
    have hI : SI (r_3 0) := by rw [er_3]; exact (SI_save hI.1)
    refine lv_aload_n hC.1 hC.2.1 dX6_line_22 rfl (lv_at hl 0 rfl) ?_
    refine lv_iload_n hC.1 hC.2.1 dX6_line_23 rfl (lv_at hl 1 rfl) ?_
    refine runE (rV (B := fun U H => PW G (mdW G q r_3 hs) H) (As := [.int x1]) (rest := []) hC mwX6_printLine (c_X6_printLine l G q r_3 hs x1 hq hI) iwX6_printLine wd_977 ⟨rfl, rfl⟩ ⟨Nat.le_of_ble_eq_true rfl, Nat.le_of_ble_eq_true rfl⟩ (stb_h (fun H => PW G (mdW G q r_3 hs) H)) (hKN.go hAL hS) hP (va_recv (hKN.go hAL hS).k hP (ci := 6) (q0 := 0) rfl rfl) rfl hl.1 rfl (Nat.le_of_ble_eq_true rfl) dX6_line_24 ⟨Nat.zero_le _, Nat.zero_le _⟩) hS (fun _ h => h) (fun _ h => h) (fun H locs hq_4 _ _ hS => ?_)
    have hP : PW G (mdW G q ((fX6_printLine r_3 x1).1) hs) H := hq_4
    obtain ⟨r_5, er_5⟩ : ∃ z, z = fX6_printLine r_3 x1 := ⟨_, rfl⟩
    rw [← er_5] at hP
    show W p l e ({ frames := 6, cells := 0, slots := 0, locals := 141 }) s m ([.ref (q 0), .int x1] : List Value).toArray below meth c H locs (0 + 0) (0 + 0) _ (F0 m (24 + 3) ls [.int ((fX6_printLine r_3 x1).2)])
    rw [← er_5]
    have hI : True := trivial
    have e_6 : fX6_line v x1 = (r_5.1, r_5.2) := by subst er_5; subst er_3; exact Eq.trans (if_neg k9) rfl
    have hg : fX6_line v x1 = (r_5.1, r_5.2) := hg.trans (congrArg (fun z => z) e_6)
    exact eE_i hC (by rw [hg]) (by show PW G (mdW G q (fX6_line v x1).1 hs) H; rw [hg]; exact hP) hS dX6_line_27
  · refine lv_aload_n hC.1 hC.2.1 dX6_line_12 rfl (lv_at hl 0 rfl) ?_
    refine lv_iconst (v := 1) hC.1 hC.2.1 dX6_line_13 (by decide) ?_
    refine runE (rV (B := fun U H => PW G (mdW G q (mkM (v 0) (v 1) (v 2) (v 3) (v 4) (v 5) (v 6) (v 7) (v 8 0) (v 8 1) 0 (v 8 3) (v 8 4) (v 8 5) (v 8 6) (v 8 7) (v 8 8)) hs) H) (As := [.int 1]) (rest := []) hC mwX6_fails (c_X6_fails l G q (mkM (v 0) (v 1) (v 2) (v 3) (v 4) (v 5) (v 6) (v 7) (v 8 0) (v 8 1) 0 (v 8 3) (v 8 4) (v 8 5) (v 8 6) (v 8 7) (v 8 8)) hs 1 hq) iwX6_fails wd_950 ⟨rfl, rfl⟩ ⟨Nat.le_of_ble_eq_true rfl, Nat.le_of_ble_eq_true rfl⟩ (stb_h (fun H => PW G (mdW G q (mkM (v 0) (v 1) (v 2) (v 3) (v 4) (v 5) (v 6) (v 7) (v 8 0) (v 8 1) 0 (v 8 3) (v 8 4) (v 8 5) (v 8 6) (v 8 7) (v 8 8)) hs) H)) (hKN.go hAL hS) hP (va_recv (hKN.go hAL hS).k hP (ci := 6) (q0 := 0) rfl rfl) rfl hl.1 rfl (Nat.le_of_ble_eq_true rfl) dX6_line_14 ⟨Nat.zero_le _, Nat.zero_le _⟩) hS (fun _ h => h) (fun _ h => h) (fun H locs hq_7 _ _ hS => ?_)
    have hP : PW G (mdW G q ((fX6_fails (mkM (v 0) (v 1) (v 2) (v 3) (v 4) (v 5) (v 6) (v 7) (v 8 0) (v 8 1) 0 (v 8 3) (v 8 4) (v 8 5) (v 8 6) (v 8 7) (v 8 8)) 1).1) hs) H := hq_7
    obtain ⟨r_8, er_8⟩ : ∃ z, z = fX6_fails (mkM (v 0) (v 1) (v 2) (v 3) (v 4) (v 5) (v 6) (v 7) (v 8 0) (v 8 1) 0 (v 8 3) (v 8 4) (v 8 5) (v 8 6) (v 8 7) (v 8 8)) 1 := ⟨_, rfl⟩
    rw [← er_8] at hP
    show W p l e ({ frames := 6, cells := 0, slots := 0, locals := 141 }) s m ([.ref (q 0), .int x1] : List Value).toArray below meth c H locs (0 + 0) (0 + 0) _ (F0 m (14 + 3) ls [.int ((fX6_fails (mkM (v 0) (v 1) (v 2) (v 3) (v 4) (v 5) (v 6) (v 7) (v 8 0) (v 8 1) 0 (v 8 3) (v 8 4) (v 8 5) (v 8 6) (v 8 7) (v 8 8)) 1).2)])
    rw [← er_8]
    have hI : True := trivial
    have e_9 : fX6_line v x1 = (r_8.1, r_8.2) := by subst er_8; exact Eq.trans (if_pos k9) rfl
    have hg : fX6_line v x1 = (r_8.1, r_8.2) := hg.trans (congrArg (fun z => z) e_9)
    exact eE_i hC (by rw [hg]) (by show PW G (mdW G q (fX6_line v x1).1 hs) H; rw [hg]; exact hP) hS dX6_line_17

theorem dX6_lines_0 : decode cX6_lines 0 = .ok (.aload_n 0, 1) := by decide +kernel
theorem dX6_lines_1 : decode cX6_lines 1 = .ok (.iconst 0, 1) := by decide +kernel
theorem dX6_lines_2 : decode cX6_lines 2 = .ok (.putfield 34, 3) := by decide +kernel
theorem dX6_lines_5 : decode cX6_lines 5 = .ok (.iload_n 1, 1) := by decide +kernel
theorem dX6_lines_6 : decode cX6_lines 6 = .ok (.invokestatic 111, 3) := by decide +kernel
theorem dX6_lines_9 : decode cX6_lines 9 = .ok (.ifCond .eq 13, 3) := by decide +kernel
theorem dX6_lines_12 : decode cX6_lines 12 = .ok (.iload_n 2, 1) := by decide +kernel
theorem dX6_lines_13 : decode cX6_lines 13 = .ok (.iconst 1, 1) := by decide +kernel
theorem dX6_lines_14 : decode cX6_lines 14 = .ok (.bipush 20, 2) := by decide +kernel
theorem dX6_lines_16 : decode cX6_lines 16 = .ok (.invokestatic 39, 3) := by decide +kernel
theorem dX6_lines_19 : decode cX6_lines 19 = .ok (.ifCond .ne 9, 3) := by decide +kernel
theorem dX6_lines_22 : decode cX6_lines 22 = .ok (.aload_n 0, 1) := by decide +kernel
theorem dX6_lines_23 : decode cX6_lines 23 = .ok (.iconst 1, 1) := by decide +kernel
theorem dX6_lines_24 : decode cX6_lines 24 = .ok (.invokevirtual 46, 3) := by decide +kernel
theorem dX6_lines_27 : decode cX6_lines 27 = .ok (.ireturn, 1) := by decide +kernel
theorem dX6_lines_28 : decode cX6_lines 28 = .ok (.aload_n 0, 1) := by decide +kernel
theorem dX6_lines_29 : decode cX6_lines 29 = .ok (.invokevirtual 54, 3) := by decide +kernel
theorem dX6_lines_32 : decode cX6_lines 32 = .ok (.aload_n 0, 1) := by decide +kernel
theorem dX6_lines_33 : decode cX6_lines 33 = .ok (.iload_n 1, 1) := by decide +kernel
theorem dX6_lines_34 : decode cX6_lines 34 = .ok (.iload_n 2, 1) := by decide +kernel
theorem dX6_lines_35 : decode cX6_lines 35 = .ok (.invokevirtual 121, 3) := by decide +kernel
theorem dX6_lines_38 : decode cX6_lines 38 = .ok (.ireturn, 1) := by decide +kernel
set_option maxHeartbeats 1000000 in
set_option maxRecDepth 100000 in
theorem c_X6_lines (l : Launch) (G : GT) (q : Nat → Nat) (v : SV) (hs : Int64) (x1 : Int32) (x2 : Int32) (hq : mdD G q) (hI : MI v) : Met l yX6_lines (Cond.code yX6_lines cX6_lines 3 (some .int) :: bigW) ({ frames := 7, cells := 0, slots := 0, locals := 166 }) (BP G [.ref (q 0), .int x1, .int x2] (fun U H => PW G (mdW G q v hs) H)) (QE (some (.int (fX6_lines v x1 x2).2)) (fun H => PW G (mdW G q (fX6_lines v x1 x2).1 hs) H) (mdA q)) 0 0 (mdA q) := by
  refine met_of (by decide) (Nat.le_of_ble_eq_true rfl) ?_
  intro p e s m below meth c ls hC hKN hB0 hl
  have hP := hB0
  have hl : lv_has ls 3 [(0, .ref (q 0)), (1, .int x1), (2, .int x2)] := hl
  have hS : va_S (mdA q) s.heap s.heap [] := va_S.rf
  have hAL : ∀ a, (mdA q) a → gL G ≤ a := mdD_low hq
  have hg : fX6_lines v x1 x2 = fX6_lines v x1 x2 := rfl
  refine lv_aload_n hC.1 hC.2.1 dX6_lines_0 rfl (lv_at hl 0 rfl) ?_
  refine lv_iconst (v := 0) hC.1 hC.2.1 dX6_lines_1 (by decide) ?_
  refine pf (v := .int 0) (tv := .int) hC fwX6 hKN hP (mdD_D hq v hs) hS 0 rfl rfl 6 (by decide) rfl wd_893 rfl rfl rfl (Nat.le_of_ble_eq_true rfl) dX6_lines_2 (fun H locs hq_1 hS => ?_)
  have hP : PW G (mdW G q (mkM (v 0) (v 1) (v 2) (v 3) (v 4) (v 5) (v 6) (v 7) (v 8 0) (v 8 1) 0 (v 8 3) (v 8 4) (v 8 5) (v 8 6) (v 8 7) (v 8 8)) hs) H := hq_1
  have hI : MI (mkM (v 0) (v 1) (v 2) (v 3) (v 4) (v 5) (v 6) (v 7) (v 8 0) (v 8 1) 0 (v 8 3) (v 8 4) (v 8 5) (v 8 6) (v 8 7) (v 8 8)) := hI
  refine lv_iload_n hC.1 hC.2.1 dX6_lines_5 rfl (lv_at hl 1 rfl) ?_
  refine runP (rS (B := fun U H => True) (As := [.int x1]) (rest := []) hC mwX6_isLine (c_X6_isLine l G x1) wd_971 wd_970 ⟨rfl, rfl⟩ ⟨Nat.le_of_ble_eq_true rfl, Nat.le_of_ble_eq_true rfl⟩ (fun _ _ _ _ h => h) (hKN.go hAL hS) trivial rfl hl.1 rfl (Nat.le_of_ble_eq_true rfl) dX6_lines_6 ⟨Nat.zero_le _, Nat.zero_le _⟩) ?_
  refine lv_if_eq (tgt := 22) hC.1 hC.2.1 dX6_lines_9 (by decide) (fun k9 => ?_) (fun k9 => ?_)
  · refine lv_aload_n hC.1 hC.2.1 dX6_lines_22 rfl (lv_at hl 0 rfl) ?_
    refine lv_iconst (v := 1) hC.1 hC.2.1 dX6_lines_23 (by decide) ?_
    refine runE (rV (B := fun U H => PW G (mdW G q (mkM (v 0) (v 1) (v 2) (v 3) (v 4) (v 5) (v 6) (v 7) (v 8 0) (v 8 1) 0 (v 8 3) (v 8 4) (v 8 5) (v 8 6) (v 8 7) (v 8 8)) hs) H) (As := [.int 1]) (rest := []) hC mwX6_fails (c_X6_fails l G q (mkM (v 0) (v 1) (v 2) (v 3) (v 4) (v 5) (v 6) (v 7) (v 8 0) (v 8 1) 0 (v 8 3) (v 8 4) (v 8 5) (v 8 6) (v 8 7) (v 8 8)) hs 1 hq) iwX6_fails wd_950 ⟨rfl, rfl⟩ ⟨Nat.le_of_ble_eq_true rfl, Nat.le_of_ble_eq_true rfl⟩ (stb_h (fun H => PW G (mdW G q (mkM (v 0) (v 1) (v 2) (v 3) (v 4) (v 5) (v 6) (v 7) (v 8 0) (v 8 1) 0 (v 8 3) (v 8 4) (v 8 5) (v 8 6) (v 8 7) (v 8 8)) hs) H)) (hKN.go hAL hS) hP (va_recv (hKN.go hAL hS).k hP (ci := 6) (q0 := 0) rfl rfl) rfl hl.1 rfl (Nat.le_of_ble_eq_true rfl) dX6_lines_24 ⟨Nat.zero_le _, Nat.zero_le _⟩) hS (fun _ h => h) (fun _ h => h) (fun H locs hq_2 _ _ hS => ?_)
    have hP : PW G (mdW G q ((fX6_fails (mkM (v 0) (v 1) (v 2) (v 3) (v 4) (v 5) (v 6) (v 7) (v 8 0) (v 8 1) 0 (v 8 3) (v 8 4) (v 8 5) (v 8 6) (v 8 7) (v 8 8)) 1).1) hs) H := hq_2
    obtain ⟨r_3, er_3⟩ : ∃ z, z = fX6_fails (mkM (v 0) (v 1) (v 2) (v 3) (v 4) (v 5) (v 6) (v 7) (v 8 0) (v 8 1) 0 (v 8 3) (v 8 4) (v 8 5) (v 8 6) (v 8 7) (v 8 8)) 1 := ⟨_, rfl⟩
    rw [← er_3] at hP
    show W p l e ({ frames := 7, cells := 0, slots := 0, locals := 166 }) s m ([.ref (q 0), .int x1, .int x2] : List Value).toArray below meth c H locs (0 + 0) (0 + 0) _ (F0 m (24 + 3) ls [.int ((fX6_fails (mkM (v 0) (v 1) (v 2) (v 3) (v 4) (v 5) (v 6) (v 7) (v 8 0) (v 8 1) 0 (v 8 3) (v 8 4) (v 8 5) (v 8 6) (v 8 7) (v 8 8)) 1).2)])
    rw [← er_3]
    have hI : True := trivial
    have e_4 : fX6_lines v x1 x2 = (r_3.1, r_3.2) := by subst er_3; exact Eq.trans (if_pos k9) rfl
    have hg : fX6_lines v x1 x2 = (r_3.1, r_3.2) := hg.trans (congrArg (fun z => z) e_4)
    exact eE_i hC (by rw [hg]) (by show PW G (mdW G q (fX6_lines v x1 x2).1 hs) H; rw [hg]; exact hP) hS dX6_lines_27
  · refine lv_iload_n hC.1 hC.2.1 dX6_lines_12 rfl (lv_at hl 2 rfl) ?_
    refine lv_iconst (v := 1) hC.1 hC.2.1 dX6_lines_13 (by decide) ?_
    refine lv_bipush (v := 20) hC.1 hC.2.1 dX6_lines_14 (by decide +kernel) ?_
    refine runP (rS (B := fun U H => True) (As := [.int x2, .int 1, .int 20]) (rest := []) hC mwX6_in (c_X6_in l G x2 1 20) wd_975 wd_974 ⟨rfl, rfl⟩ ⟨Nat.le_of_ble_eq_true rfl, Nat.le_of_ble_eq_true rfl⟩ (fun _ _ _ _ h => h) (hKN.go hAL hS) trivial rfl hl.1 rfl (Nat.le_of_ble_eq_true rfl) dX6_lines_16 ⟨Nat.zero_le _, Nat.zero_le _⟩) ?_
    refine lv_if_ne (tgt := 28) hC.1 hC.2.1 dX6_lines_19 (by decide) (fun k19 => ?_) (fun k19 => ?_)
    · refine lv_aload_n hC.1 hC.2.1 dX6_lines_28 rfl (lv_at hl 0 rfl) ?_
      refine runE (rV (B := fun U H => PW G (mdW G q (mkM (v 0) (v 1) (v 2) (v 3) (v 4) (v 5) (v 6) (v 7) (v 8 0) (v 8 1) 0 (v 8 3) (v 8 4) (v 8 5) (v 8 6) (v 8 7) (v 8 8)) hs) H) (As := []) (rest := []) hC mwX6_save (c_X6_save l G q (mkM (v 0) (v 1) (v 2) (v 3) (v 4) (v 5) (v 6) (v 7) (v 8 0) (v 8 1) 0 (v 8 3) (v 8 4) (v 8 5) (v 8 6) (v 8 7) (v 8 8)) hs hq hI.2) iwX6_save wd_962 ⟨rfl, rfl⟩ ⟨Nat.le_of_ble_eq_true rfl, Nat.le_of_ble_eq_true rfl⟩ (stb_h (fun H => PW G (mdW G q (mkM (v 0) (v 1) (v 2) (v 3) (v 4) (v 5) (v 6) (v 7) (v 8 0) (v 8 1) 0 (v 8 3) (v 8 4) (v 8 5) (v 8 6) (v 8 7) (v 8 8)) hs) H)) (hKN.go hAL hS) hP (va_recv (hKN.go hAL hS).k hP (ci := 6) (q0 := 0) rfl rfl) rfl hl.1 rfl (Nat.le_of_ble_eq_true rfl) dX6_lines_29 ⟨Nat.zero_le _, Nat.zero_le _⟩) hS (fun _ h => h) (fun _ h => h) (fun H locs hq_5 _ _ hS => ?_)
      have hP : PW G (mdW G q (fX6_save (mkM (v 0) (v 1) (v 2) (v 3) (v 4) (v 5) (v 6) (v 7) (v 8 0) (v 8 1) 0 (v 8 3) (v 8 4) (v 8 5) (v 8 6) (v 8 7) (v 8 8))) hs) H := hq_5
      obtain ⟨r_6, er_6⟩ : ∃ z, z = fX6_save (mkM (v 0) (v 1) (v 2) (v 3) (v 4) (v 5) (v 6) (v 7) (v 8 0) (v 8 1) 0 (v 8 3) (v 8 4) (v 8 5) (v 8 6) (v 8 7) (v 8 8)) := ⟨_, rfl⟩
      rw [← er_6] at hP
      have hI : SI (r_6 0) := by rw [er_6]; exact (SI_save hI.1)
      refine lv_aload_n hC.1 hC.2.1 dX6_lines_32 rfl (lv_at hl 0 rfl) ?_
      refine lv_iload_n hC.1 hC.2.1 dX6_lines_33 rfl (lv_at hl 1 rfl) ?_
      refine lv_iload_n hC.1 hC.2.1 dX6_lines_34 rfl (lv_at hl 2 rfl) ?_
      refine runE (rV (B := fun U H => PW G (mdW G q r_6 hs) H) (As := [.int x1, .int x2]) (rest := []) hC mwX6_printSome (c_X6_printSome l G q r_6 hs x1 x2 hq hI) iwX6_printSome wd_1035 ⟨rfl, rfl⟩ ⟨Nat.le_of_ble_eq_true rfl, Nat.le_of_ble_eq_true rfl⟩ (stb_h (fun H => PW G (mdW G q r_6 hs) H)) (hKN.go hAL hS) hP (va_recv (hKN.go hAL hS).k hP (ci := 6) (q0 := 0) rfl rfl) rfl hl.1 rfl (Nat.le_of_ble_eq_true rfl) dX6_lines_35 ⟨Nat.zero_le _, Nat.zero_le _⟩) hS (fun _ h => h) (fun _ h => h) (fun H locs hq_7 _ _ hS => ?_)
      have hP : PW G (mdW G q ((fX6_printSome r_6 x1 x2).1) hs) H := hq_7
      obtain ⟨r_8, er_8⟩ : ∃ z, z = fX6_printSome r_6 x1 x2 := ⟨_, rfl⟩
      rw [← er_8] at hP
      show W p l e ({ frames := 7, cells := 0, slots := 0, locals := 166 }) s m ([.ref (q 0), .int x1, .int x2] : List Value).toArray below meth c H locs (0 + 0) (0 + 0) _ (F0 m (35 + 3) ls [.int ((fX6_printSome r_6 x1 x2).2)])
      rw [← er_8]
      have hI : True := trivial
      have e_9 : fX6_lines v x1 x2 = (r_8.1, r_8.2) := by subst er_8; subst er_6; exact Eq.trans (if_neg k9) (Eq.trans (if_neg k19) rfl)
      have hg : fX6_lines v x1 x2 = (r_8.1, r_8.2) := hg.trans (congrArg (fun z => z) e_9)
      exact eE_i hC (by rw [hg]) (by show PW G (mdW G q (fX6_lines v x1 x2).1 hs) H; rw [hg]; exact hP) hS dX6_lines_38
    · refine lv_aload_n hC.1 hC.2.1 dX6_lines_22 rfl (lv_at hl 0 rfl) ?_
      refine lv_iconst (v := 1) hC.1 hC.2.1 dX6_lines_23 (by decide) ?_
      refine runE (rV (B := fun U H => PW G (mdW G q (mkM (v 0) (v 1) (v 2) (v 3) (v 4) (v 5) (v 6) (v 7) (v 8 0) (v 8 1) 0 (v 8 3) (v 8 4) (v 8 5) (v 8 6) (v 8 7) (v 8 8)) hs) H) (As := [.int 1]) (rest := []) hC mwX6_fails (c_X6_fails l G q (mkM (v 0) (v 1) (v 2) (v 3) (v 4) (v 5) (v 6) (v 7) (v 8 0) (v 8 1) 0 (v 8 3) (v 8 4) (v 8 5) (v 8 6) (v 8 7) (v 8 8)) hs 1 hq) iwX6_fails wd_950 ⟨rfl, rfl⟩ ⟨Nat.le_of_ble_eq_true rfl, Nat.le_of_ble_eq_true rfl⟩ (stb_h (fun H => PW G (mdW G q (mkM (v 0) (v 1) (v 2) (v 3) (v 4) (v 5) (v 6) (v 7) (v 8 0) (v 8 1) 0 (v 8 3) (v 8 4) (v 8 5) (v 8 6) (v 8 7) (v 8 8)) hs) H)) (hKN.go hAL hS) hP (va_recv (hKN.go hAL hS).k hP (ci := 6) (q0 := 0) rfl rfl) rfl hl.1 rfl (Nat.le_of_ble_eq_true rfl) dX6_lines_24 ⟨Nat.zero_le _, Nat.zero_le _⟩) hS (fun _ h => h) (fun _ h => h) (fun H locs hq_10 _ _ hS => ?_)
      have hP : PW G (mdW G q ((fX6_fails (mkM (v 0) (v 1) (v 2) (v 3) (v 4) (v 5) (v 6) (v 7) (v 8 0) (v 8 1) 0 (v 8 3) (v 8 4) (v 8 5) (v 8 6) (v 8 7) (v 8 8)) 1).1) hs) H := hq_10
      obtain ⟨r_11, er_11⟩ : ∃ z, z = fX6_fails (mkM (v 0) (v 1) (v 2) (v 3) (v 4) (v 5) (v 6) (v 7) (v 8 0) (v 8 1) 0 (v 8 3) (v 8 4) (v 8 5) (v 8 6) (v 8 7) (v 8 8)) 1 := ⟨_, rfl⟩
      rw [← er_11] at hP
      show W p l e ({ frames := 7, cells := 0, slots := 0, locals := 166 }) s m ([.ref (q 0), .int x1, .int x2] : List Value).toArray below meth c H locs (0 + 0) (0 + 0) _ (F0 m (24 + 3) ls [.int ((fX6_fails (mkM (v 0) (v 1) (v 2) (v 3) (v 4) (v 5) (v 6) (v 7) (v 8 0) (v 8 1) 0 (v 8 3) (v 8 4) (v 8 5) (v 8 6) (v 8 7) (v 8 8)) 1).2)])
      rw [← er_11]
      have hI : True := trivial
      have e_12 : fX6_lines v x1 x2 = (r_11.1, r_11.2) := by subst er_11; exact Eq.trans (if_neg k9) (Eq.trans (if_pos k19) rfl)
      have hg : fX6_lines v x1 x2 = (r_11.1, r_11.2) := hg.trans (congrArg (fun z => z) e_12)
      exact eE_i hC (by rw [hg]) (by show PW G (mdW G q (fX6_lines v x1 x2).1 hs) H; rw [hg]; exact hP) hS dX6_lines_27

theorem dX6_rest_0 : decode cX6_rest 0 = .ok (.aload_n 0, 1) := by decide +kernel
theorem dX6_rest_1 : decode cX6_rest 1 = .ok (.iconst 0, 1) := by decide +kernel
theorem dX6_rest_2 : decode cX6_rest 2 = .ok (.putfield 34, 3) := by decide +kernel
theorem dX6_rest_5 : decode cX6_rest 5 = .ok (.iload_n 1, 1) := by decide +kernel
theorem dX6_rest_6 : decode cX6_rest 6 = .ok (.iconst 1, 1) := by decide +kernel
theorem dX6_rest_7 : decode cX6_rest 7 = .ok (.sipush 999, 3) := by decide +kernel
theorem dX6_rest_10 : decode cX6_rest 10 = .ok (.invokestatic 39, 3) := by decide +kernel
theorem dX6_rest_13 : decode cX6_rest 13 = .ok (.ifCond .ne 9, 3) := by decide +kernel
theorem dX6_rest_16 : decode cX6_rest 16 = .ok (.aload_n 0, 1) := by decide +kernel
theorem dX6_rest_17 : decode cX6_rest 17 = .ok (.iconst 1, 1) := by decide +kernel
theorem dX6_rest_18 : decode cX6_rest 18 = .ok (.invokevirtual 46, 3) := by decide +kernel
theorem dX6_rest_21 : decode cX6_rest 21 = .ok (.ireturn, 1) := by decide +kernel
theorem dX6_rest_22 : decode cX6_rest 22 = .ok (.aload_n 0, 1) := by decide +kernel
theorem dX6_rest_23 : decode cX6_rest 23 = .ok (.invokevirtual 54, 3) := by decide +kernel
theorem dX6_rest_26 : decode cX6_rest 26 = .ok (.aload_n 0, 1) := by decide +kernel
theorem dX6_rest_27 : decode cX6_rest 27 = .ok (.iload_n 1, 1) := by decide +kernel
theorem dX6_rest_28 : decode cX6_rest 28 = .ok (.invokevirtual 100, 3) := by decide +kernel
theorem dX6_rest_31 : decode cX6_rest 31 = .ok (.aload_n 0, 1) := by decide +kernel
theorem dX6_rest_32 : decode cX6_rest 32 = .ok (.invokevirtual 124, 3) := by decide +kernel
theorem dX6_rest_35 : decode cX6_rest 35 = .ok (.ireturn, 1) := by decide +kernel
set_option maxHeartbeats 1000000 in
set_option maxRecDepth 100000 in
theorem c_X6_rest (l : Launch) (G : GT) (q : Nat → Nat) (v : SV) (hs : Int64) (x1 : Int32) (hq : mdD G q) (hI : MI v) : Met l yX6_rest (Cond.code yX6_rest cX6_rest 2 (some .int) :: bigW) ({ frames := 2, cells := 0, slots := 0, locals := 45 }) (BP G [.ref (q 0), .int x1] (fun U H => PW G (mdW G q v hs) H)) (QE (some (.int (fX6_rest v x1).2)) (fun H => PW G (mdW G q (fX6_rest v x1).1 hs) H) (mdA q)) 0 0 (mdA q) := by
  refine met_of (by decide) (Nat.le_of_ble_eq_true rfl) ?_
  intro p e s m below meth c ls hC hKN hB0 hl
  have hP := hB0
  have hl : lv_has ls 2 [(0, .ref (q 0)), (1, .int x1)] := hl
  have hS : va_S (mdA q) s.heap s.heap [] := va_S.rf
  have hAL : ∀ a, (mdA q) a → gL G ≤ a := mdD_low hq
  have hg : fX6_rest v x1 = fX6_rest v x1 := rfl
  refine lv_aload_n hC.1 hC.2.1 dX6_rest_0 rfl (lv_at hl 0 rfl) ?_
  refine lv_iconst (v := 0) hC.1 hC.2.1 dX6_rest_1 (by decide) ?_
  refine pf (v := .int 0) (tv := .int) hC fwX6 hKN hP (mdD_D hq v hs) hS 0 rfl rfl 6 (by decide) rfl wd_893 rfl rfl rfl (Nat.le_of_ble_eq_true rfl) dX6_rest_2 (fun H locs hq_1 hS => ?_)
  have hP : PW G (mdW G q (mkM (v 0) (v 1) (v 2) (v 3) (v 4) (v 5) (v 6) (v 7) (v 8 0) (v 8 1) 0 (v 8 3) (v 8 4) (v 8 5) (v 8 6) (v 8 7) (v 8 8)) hs) H := hq_1
  have hI : MI (mkM (v 0) (v 1) (v 2) (v 3) (v 4) (v 5) (v 6) (v 7) (v 8 0) (v 8 1) 0 (v 8 3) (v 8 4) (v 8 5) (v 8 6) (v 8 7) (v 8 8)) := hI
  refine lv_iload_n hC.1 hC.2.1 dX6_rest_5 rfl (lv_at hl 1 rfl) ?_
  refine lv_iconst (v := 1) hC.1 hC.2.1 dX6_rest_6 (by decide) ?_
  refine lv_sipush (v := 999) hC.1 hC.2.1 dX6_rest_7 (by decide +kernel) ?_
  refine runP (rS (B := fun U H => True) (As := [.int x1, .int 1, .int 999]) (rest := []) hC mwX6_in (c_X6_in l G x1 1 999) wd_975 wd_974 ⟨rfl, rfl⟩ ⟨Nat.le_of_ble_eq_true rfl, Nat.le_of_ble_eq_true rfl⟩ (fun _ _ _ _ h => h) (hKN.go hAL hS) trivial rfl hl.1 rfl (Nat.le_of_ble_eq_true rfl) dX6_rest_10 ⟨Nat.zero_le _, Nat.zero_le _⟩) ?_
  refine lv_if_ne (tgt := 22) hC.1 hC.2.1 dX6_rest_13 (by decide) (fun k13 => ?_) (fun k13 => ?_)
  · refine lv_aload_n hC.1 hC.2.1 dX6_rest_22 rfl (lv_at hl 0 rfl) ?_
    refine runE (rV (B := fun U H => PW G (mdW G q (mkM (v 0) (v 1) (v 2) (v 3) (v 4) (v 5) (v 6) (v 7) (v 8 0) (v 8 1) 0 (v 8 3) (v 8 4) (v 8 5) (v 8 6) (v 8 7) (v 8 8)) hs) H) (As := []) (rest := []) hC mwX6_save (c_X6_save l G q (mkM (v 0) (v 1) (v 2) (v 3) (v 4) (v 5) (v 6) (v 7) (v 8 0) (v 8 1) 0 (v 8 3) (v 8 4) (v 8 5) (v 8 6) (v 8 7) (v 8 8)) hs hq hI.2) iwX6_save wd_962 ⟨rfl, rfl⟩ ⟨Nat.le_of_ble_eq_true rfl, Nat.le_of_ble_eq_true rfl⟩ (stb_h (fun H => PW G (mdW G q (mkM (v 0) (v 1) (v 2) (v 3) (v 4) (v 5) (v 6) (v 7) (v 8 0) (v 8 1) 0 (v 8 3) (v 8 4) (v 8 5) (v 8 6) (v 8 7) (v 8 8)) hs) H)) (hKN.go hAL hS) hP (va_recv (hKN.go hAL hS).k hP (ci := 6) (q0 := 0) rfl rfl) rfl hl.1 rfl (Nat.le_of_ble_eq_true rfl) dX6_rest_23 ⟨Nat.zero_le _, Nat.zero_le _⟩) hS (fun _ h => h) (fun _ h => h) (fun H locs hq_2 _ _ hS => ?_)
    have hP : PW G (mdW G q (fX6_save (mkM (v 0) (v 1) (v 2) (v 3) (v 4) (v 5) (v 6) (v 7) (v 8 0) (v 8 1) 0 (v 8 3) (v 8 4) (v 8 5) (v 8 6) (v 8 7) (v 8 8))) hs) H := hq_2
    obtain ⟨r_3, er_3⟩ : ∃ z, z = fX6_save (mkM (v 0) (v 1) (v 2) (v 3) (v 4) (v 5) (v 6) (v 7) (v 8 0) (v 8 1) 0 (v 8 3) (v 8 4) (v 8 5) (v 8 6) (v 8 7) (v 8 8)) := ⟨_, rfl⟩
    rw [← er_3] at hP
    have hI : SI (r_3 0) := by rw [er_3]; exact (SI_save hI.1)
    refine lv_aload_n hC.1 hC.2.1 dX6_rest_26 rfl (lv_at hl 0 rfl) ?_
    refine lv_iload_n hC.1 hC.2.1 dX6_rest_27 rfl (lv_at hl 1 rfl) ?_
    refine runE (rV (B := fun U H => PW G (mdW G q r_3 hs) H) (As := [.int x1]) (rest := []) hC mwX6_pass (c_X6_pass l G q r_3 hs x1 hq hI) iwX6_pass wd_1011 ⟨rfl, rfl⟩ ⟨Nat.le_of_ble_eq_true rfl, Nat.le_of_ble_eq_true rfl⟩ (stb_h (fun H => PW G (mdW G q r_3 hs) H)) (hKN.go hAL hS) hP (va_recv (hKN.go hAL hS).k hP (ci := 6) (q0 := 0) rfl rfl) rfl hl.1 rfl (Nat.le_of_ble_eq_true rfl) dX6_rest_28 ⟨Nat.zero_le _, Nat.zero_le _⟩) hS (fun _ h => h) (fun _ h => h) (fun H locs hq_4 _ _ hS => ?_)
    have hP : PW G (mdW G q (fX6_pass r_3 x1) hs) H := hq_4
    obtain ⟨r_5, er_5⟩ : ∃ z, z = fX6_pass r_3 x1 := ⟨_, rfl⟩
    rw [← er_5] at hP
    have hI : True := trivial
    refine lv_aload_n hC.1 hC.2.1 dX6_rest_31 rfl (lv_at hl 0 rfl) ?_
    refine runP (rV (B := fun U H => PW G (mdW G q r_5 hs) H) (As := []) (rest := []) hC mwX6_hottestNow (c_X6_hottestNow l G q r_5 hs) iwX6_hottestNow wd_1047 ⟨rfl, rfl⟩ ⟨Nat.le_of_ble_eq_true rfl, Nat.le_of_ble_eq_true rfl⟩ (stb_h (fun H => PW G (mdW G q r_5 hs) H)) (hKN.go hAL hS) hP (va_recv (hKN.go hAL hS).k hP (ci := 6) (q0 := 0) rfl rfl) rfl hl.1 rfl (Nat.le_of_ble_eq_true rfl) dX6_rest_32 ⟨Nat.zero_le _, Nat.zero_le _⟩) ?_
    have e_6 : fX6_rest v x1 = (r_5, fX6_hottestNow r_5) := by subst er_5; subst er_3; exact Eq.trans (if_neg k13) rfl
    have hg : fX6_rest v x1 = (r_5, fX6_hottestNow r_5) := hg.trans (congrArg (fun z => z) e_6)
    exact eE_i hC (by rw [hg]) (by show PW G (mdW G q (fX6_rest v x1).1 hs) H; rw [hg]; exact hP) hS dX6_rest_35
  · refine lv_aload_n hC.1 hC.2.1 dX6_rest_16 rfl (lv_at hl 0 rfl) ?_
    refine lv_iconst (v := 1) hC.1 hC.2.1 dX6_rest_17 (by decide) ?_
    refine runE (rV (B := fun U H => PW G (mdW G q (mkM (v 0) (v 1) (v 2) (v 3) (v 4) (v 5) (v 6) (v 7) (v 8 0) (v 8 1) 0 (v 8 3) (v 8 4) (v 8 5) (v 8 6) (v 8 7) (v 8 8)) hs) H) (As := [.int 1]) (rest := []) hC mwX6_fails (c_X6_fails l G q (mkM (v 0) (v 1) (v 2) (v 3) (v 4) (v 5) (v 6) (v 7) (v 8 0) (v 8 1) 0 (v 8 3) (v 8 4) (v 8 5) (v 8 6) (v 8 7) (v 8 8)) hs 1 hq) iwX6_fails wd_950 ⟨rfl, rfl⟩ ⟨Nat.le_of_ble_eq_true rfl, Nat.le_of_ble_eq_true rfl⟩ (stb_h (fun H => PW G (mdW G q (mkM (v 0) (v 1) (v 2) (v 3) (v 4) (v 5) (v 6) (v 7) (v 8 0) (v 8 1) 0 (v 8 3) (v 8 4) (v 8 5) (v 8 6) (v 8 7) (v 8 8)) hs) H)) (hKN.go hAL hS) hP (va_recv (hKN.go hAL hS).k hP (ci := 6) (q0 := 0) rfl rfl) rfl hl.1 rfl (Nat.le_of_ble_eq_true rfl) dX6_rest_18 ⟨Nat.zero_le _, Nat.zero_le _⟩) hS (fun _ h => h) (fun _ h => h) (fun H locs hq_7 _ _ hS => ?_)
    have hP : PW G (mdW G q ((fX6_fails (mkM (v 0) (v 1) (v 2) (v 3) (v 4) (v 5) (v 6) (v 7) (v 8 0) (v 8 1) 0 (v 8 3) (v 8 4) (v 8 5) (v 8 6) (v 8 7) (v 8 8)) 1).1) hs) H := hq_7
    obtain ⟨r_8, er_8⟩ : ∃ z, z = fX6_fails (mkM (v 0) (v 1) (v 2) (v 3) (v 4) (v 5) (v 6) (v 7) (v 8 0) (v 8 1) 0 (v 8 3) (v 8 4) (v 8 5) (v 8 6) (v 8 7) (v 8 8)) 1 := ⟨_, rfl⟩
    rw [← er_8] at hP
    show W p l e ({ frames := 2, cells := 0, slots := 0, locals := 45 }) s m ([.ref (q 0), .int x1] : List Value).toArray below meth c H locs (0 + 0) (0 + 0) _ (F0 m (18 + 3) ls [.int ((fX6_fails (mkM (v 0) (v 1) (v 2) (v 3) (v 4) (v 5) (v 6) (v 7) (v 8 0) (v 8 1) 0 (v 8 3) (v 8 4) (v 8 5) (v 8 6) (v 8 7) (v 8 8)) 1).2)])
    rw [← er_8]
    have hI : True := trivial
    have e_9 : fX6_rest v x1 = (r_8.1, r_8.2) := by subst er_8; exact Eq.trans (if_pos k13) rfl
    have hg : fX6_rest v x1 = (r_8.1, r_8.2) := hg.trans (congrArg (fun z => z) e_9)
    exact eE_i hC (by rw [hg]) (by show PW G (mdW G q (fX6_rest v x1).1 hs) H; rw [hg]; exact hP) hS dX6_rest_21

theorem dX6_paper_0 : decode cX6_paper 0 = .ok (.aload_n 0, 1) := by decide +kernel
theorem dX6_paper_1 : decode cX6_paper 1 = .ok (.iconst 0, 1) := by decide +kernel
theorem dX6_paper_2 : decode cX6_paper 2 = .ok (.putfield 34, 3) := by decide +kernel
theorem dX6_paper_5 : decode cX6_paper 5 = .ok (.iload_n 1, 1) := by decide +kernel
theorem dX6_paper_6 : decode cX6_paper 6 = .ok (.iconst 0, 1) := by decide +kernel
theorem dX6_paper_7 : decode cX6_paper 7 = .ok (.iconst 2, 1) := by decide +kernel
theorem dX6_paper_8 : decode cX6_paper 8 = .ok (.invokestatic 39, 3) := by decide +kernel
theorem dX6_paper_11 : decode cX6_paper 11 = .ok (.ifCond .ne 9, 3) := by decide +kernel
theorem dX6_paper_14 : decode cX6_paper 14 = .ok (.aload_n 0, 1) := by decide +kernel
theorem dX6_paper_15 : decode cX6_paper 15 = .ok (.iconst 1, 1) := by decide +kernel
theorem dX6_paper_16 : decode cX6_paper 16 = .ok (.invokevirtual 46, 3) := by decide +kernel
theorem dX6_paper_19 : decode cX6_paper 19 = .ok (.ireturn, 1) := by decide +kernel
theorem dX6_paper_20 : decode cX6_paper 20 = .ok (.aload_n 0, 1) := by decide +kernel
theorem dX6_paper_21 : decode cX6_paper 21 = .ok (.invokevirtual 54, 3) := by decide +kernel
theorem dX6_paper_24 : decode cX6_paper 24 = .ok (.aload_n 0, 1) := by decide +kernel
theorem dX6_paper_25 : decode cX6_paper 25 = .ok (.iload_n 1, 1) := by decide +kernel
theorem dX6_paper_26 : decode cX6_paper 26 = .ok (.invokevirtual 127, 3) := by decide +kernel
theorem dX6_paper_29 : decode cX6_paper 29 = .ok (.ireturn, 1) := by decide +kernel
set_option maxHeartbeats 1000000 in
set_option maxRecDepth 100000 in
theorem c_X6_paper (l : Launch) (G : GT) (q : Nat → Nat) (v : SV) (hs : Int64) (x1 : Int32) (hq : mdD G q) (hI : MI v) : Met l yX6_paper (Cond.code yX6_paper cX6_paper 2 (some .int) :: bigW) ({ frames := 1, cells := 0, slots := 0, locals := 23 }) (BP G [.ref (q 0), .int x1] (fun U H => PW G (mdW G q v hs) H)) (QE (some (.int (fX6_paper v x1).2)) (fun H => PW G (mdW G q (fX6_paper v x1).1 hs) H) (mdA q)) 0 0 (mdA q) := by
  refine met_of (by decide) (Nat.le_of_ble_eq_true rfl) ?_
  intro p e s m below meth c ls hC hKN hB0 hl
  have hP := hB0
  have hl : lv_has ls 2 [(0, .ref (q 0)), (1, .int x1)] := hl
  have hS : va_S (mdA q) s.heap s.heap [] := va_S.rf
  have hAL : ∀ a, (mdA q) a → gL G ≤ a := mdD_low hq
  have hg : fX6_paper v x1 = fX6_paper v x1 := rfl
  refine lv_aload_n hC.1 hC.2.1 dX6_paper_0 rfl (lv_at hl 0 rfl) ?_
  refine lv_iconst (v := 0) hC.1 hC.2.1 dX6_paper_1 (by decide) ?_
  refine pf (v := .int 0) (tv := .int) hC fwX6 hKN hP (mdD_D hq v hs) hS 0 rfl rfl 6 (by decide) rfl wd_893 rfl rfl rfl (Nat.le_of_ble_eq_true rfl) dX6_paper_2 (fun H locs hq_1 hS => ?_)
  have hP : PW G (mdW G q (mkM (v 0) (v 1) (v 2) (v 3) (v 4) (v 5) (v 6) (v 7) (v 8 0) (v 8 1) 0 (v 8 3) (v 8 4) (v 8 5) (v 8 6) (v 8 7) (v 8 8)) hs) H := hq_1
  have hI : MI (mkM (v 0) (v 1) (v 2) (v 3) (v 4) (v 5) (v 6) (v 7) (v 8 0) (v 8 1) 0 (v 8 3) (v 8 4) (v 8 5) (v 8 6) (v 8 7) (v 8 8)) := hI
  refine lv_iload_n hC.1 hC.2.1 dX6_paper_5 rfl (lv_at hl 1 rfl) ?_
  refine lv_iconst (v := 0) hC.1 hC.2.1 dX6_paper_6 (by decide) ?_
  refine lv_iconst (v := 2) hC.1 hC.2.1 dX6_paper_7 (by decide) ?_
  refine runP (rS (B := fun U H => True) (As := [.int x1, .int 0, .int 2]) (rest := []) hC mwX6_in (c_X6_in l G x1 0 2) wd_975 wd_974 ⟨rfl, rfl⟩ ⟨Nat.le_of_ble_eq_true rfl, Nat.le_of_ble_eq_true rfl⟩ (fun _ _ _ _ h => h) (hKN.go hAL hS) trivial rfl hl.1 rfl (Nat.le_of_ble_eq_true rfl) dX6_paper_8 ⟨Nat.zero_le _, Nat.zero_le _⟩) ?_
  refine lv_if_ne (tgt := 20) hC.1 hC.2.1 dX6_paper_11 (by decide) (fun k11 => ?_) (fun k11 => ?_)
  · refine lv_aload_n hC.1 hC.2.1 dX6_paper_20 rfl (lv_at hl 0 rfl) ?_
    refine runE (rV (B := fun U H => PW G (mdW G q (mkM (v 0) (v 1) (v 2) (v 3) (v 4) (v 5) (v 6) (v 7) (v 8 0) (v 8 1) 0 (v 8 3) (v 8 4) (v 8 5) (v 8 6) (v 8 7) (v 8 8)) hs) H) (As := []) (rest := []) hC mwX6_save (c_X6_save l G q (mkM (v 0) (v 1) (v 2) (v 3) (v 4) (v 5) (v 6) (v 7) (v 8 0) (v 8 1) 0 (v 8 3) (v 8 4) (v 8 5) (v 8 6) (v 8 7) (v 8 8)) hs hq hI.2) iwX6_save wd_962 ⟨rfl, rfl⟩ ⟨Nat.le_of_ble_eq_true rfl, Nat.le_of_ble_eq_true rfl⟩ (stb_h (fun H => PW G (mdW G q (mkM (v 0) (v 1) (v 2) (v 3) (v 4) (v 5) (v 6) (v 7) (v 8 0) (v 8 1) 0 (v 8 3) (v 8 4) (v 8 5) (v 8 6) (v 8 7) (v 8 8)) hs) H)) (hKN.go hAL hS) hP (va_recv (hKN.go hAL hS).k hP (ci := 6) (q0 := 0) rfl rfl) rfl hl.1 rfl (Nat.le_of_ble_eq_true rfl) dX6_paper_21 ⟨Nat.zero_le _, Nat.zero_le _⟩) hS (fun _ h => h) (fun _ h => h) (fun H locs hq_2 _ _ hS => ?_)
    have hP : PW G (mdW G q (fX6_save (mkM (v 0) (v 1) (v 2) (v 3) (v 4) (v 5) (v 6) (v 7) (v 8 0) (v 8 1) 0 (v 8 3) (v 8 4) (v 8 5) (v 8 6) (v 8 7) (v 8 8))) hs) H := hq_2
    obtain ⟨r_3, er_3⟩ : ∃ z, z = fX6_save (mkM (v 0) (v 1) (v 2) (v 3) (v 4) (v 5) (v 6) (v 7) (v 8 0) (v 8 1) 0 (v 8 3) (v 8 4) (v 8 5) (v 8 6) (v 8 7) (v 8 8)) := ⟨_, rfl⟩
    rw [← er_3] at hP
    have hI : SI (r_3 0) := by rw [er_3]; exact (SI_save hI.1)
    refine lv_aload_n hC.1 hC.2.1 dX6_paper_24 rfl (lv_at hl 0 rfl) ?_
    refine lv_iload_n hC.1 hC.2.1 dX6_paper_25 rfl (lv_at hl 1 rfl) ?_
    refine runE (rV (B := fun U H => PW G (mdW G q r_3 hs) H) (As := [.int x1]) (rest := []) hC mwX6_paperNow (c_X6_paperNow l G q r_3 hs x1 hq hI (in_ex (b := 2) (by omega) k11)) iwX6_paperNow wd_1055 ⟨rfl, rfl⟩ ⟨Nat.le_of_ble_eq_true rfl, Nat.le_of_ble_eq_true rfl⟩ (stb_h (fun H => PW G (mdW G q r_3 hs) H)) (hKN.go hAL hS) hP (va_recv (hKN.go hAL hS).k hP (ci := 6) (q0 := 0) rfl rfl) rfl hl.1 rfl (Nat.le_of_ble_eq_true rfl) dX6_paper_26 ⟨Nat.zero_le _, Nat.zero_le _⟩) hS (fun _ h => h) (fun _ h => h) (fun H locs hq_4 _ _ hS => ?_)
    have hP : PW G (mdW G q ((fX6_paperNow r_3 x1).1) hs) H := hq_4
    obtain ⟨r_5, er_5⟩ : ∃ z, z = fX6_paperNow r_3 x1 := ⟨_, rfl⟩
    rw [← er_5] at hP
    show W p l e ({ frames := 1, cells := 0, slots := 0, locals := 23 }) s m ([.ref (q 0), .int x1] : List Value).toArray below meth c H locs (0 + 0) (0 + 0) _ (F0 m (26 + 3) ls [.int ((fX6_paperNow r_3 x1).2)])
    rw [← er_5]
    have hI : True := trivial
    have e_6 : fX6_paper v x1 = (r_5.1, r_5.2) := by subst er_5; subst er_3; exact Eq.trans (if_neg k11) rfl
    have hg : fX6_paper v x1 = (r_5.1, r_5.2) := hg.trans (congrArg (fun z => z) e_6)
    exact eE_i hC (by rw [hg]) (by show PW G (mdW G q (fX6_paper v x1).1 hs) H; rw [hg]; exact hP) hS dX6_paper_29
  · refine lv_aload_n hC.1 hC.2.1 dX6_paper_14 rfl (lv_at hl 0 rfl) ?_
    refine lv_iconst (v := 1) hC.1 hC.2.1 dX6_paper_15 (by decide) ?_
    refine runE (rV (B := fun U H => PW G (mdW G q (mkM (v 0) (v 1) (v 2) (v 3) (v 4) (v 5) (v 6) (v 7) (v 8 0) (v 8 1) 0 (v 8 3) (v 8 4) (v 8 5) (v 8 6) (v 8 7) (v 8 8)) hs) H) (As := [.int 1]) (rest := []) hC mwX6_fails (c_X6_fails l G q (mkM (v 0) (v 1) (v 2) (v 3) (v 4) (v 5) (v 6) (v 7) (v 8 0) (v 8 1) 0 (v 8 3) (v 8 4) (v 8 5) (v 8 6) (v 8 7) (v 8 8)) hs 1 hq) iwX6_fails wd_950 ⟨rfl, rfl⟩ ⟨Nat.le_of_ble_eq_true rfl, Nat.le_of_ble_eq_true rfl⟩ (stb_h (fun H => PW G (mdW G q (mkM (v 0) (v 1) (v 2) (v 3) (v 4) (v 5) (v 6) (v 7) (v 8 0) (v 8 1) 0 (v 8 3) (v 8 4) (v 8 5) (v 8 6) (v 8 7) (v 8 8)) hs) H)) (hKN.go hAL hS) hP (va_recv (hKN.go hAL hS).k hP (ci := 6) (q0 := 0) rfl rfl) rfl hl.1 rfl (Nat.le_of_ble_eq_true rfl) dX6_paper_16 ⟨Nat.zero_le _, Nat.zero_le _⟩) hS (fun _ h => h) (fun _ h => h) (fun H locs hq_7 _ _ hS => ?_)
    have hP : PW G (mdW G q ((fX6_fails (mkM (v 0) (v 1) (v 2) (v 3) (v 4) (v 5) (v 6) (v 7) (v 8 0) (v 8 1) 0 (v 8 3) (v 8 4) (v 8 5) (v 8 6) (v 8 7) (v 8 8)) 1).1) hs) H := hq_7
    obtain ⟨r_8, er_8⟩ : ∃ z, z = fX6_fails (mkM (v 0) (v 1) (v 2) (v 3) (v 4) (v 5) (v 6) (v 7) (v 8 0) (v 8 1) 0 (v 8 3) (v 8 4) (v 8 5) (v 8 6) (v 8 7) (v 8 8)) 1 := ⟨_, rfl⟩
    rw [← er_8] at hP
    show W p l e ({ frames := 1, cells := 0, slots := 0, locals := 23 }) s m ([.ref (q 0), .int x1] : List Value).toArray below meth c H locs (0 + 0) (0 + 0) _ (F0 m (16 + 3) ls [.int ((fX6_fails (mkM (v 0) (v 1) (v 2) (v 3) (v 4) (v 5) (v 6) (v 7) (v 8 0) (v 8 1) 0 (v 8 3) (v 8 4) (v 8 5) (v 8 6) (v 8 7) (v 8 8)) 1).2)])
    rw [← er_8]
    have hI : True := trivial
    have e_9 : fX6_paper v x1 = (r_8.1, r_8.2) := by subst er_8; exact Eq.trans (if_pos k11) rfl
    have hg : fX6_paper v x1 = (r_8.1, r_8.2) := hg.trans (congrArg (fun z => z) e_9)
    exact eE_i hC (by rw [hg]) (by show PW G (mdW G q (fX6_paper v x1).1 hs) H; rw [hg]; exact hP) hS dX6_paper_19

theorem dX6_maySet_0 : decode cX6_maySet 0 = .ok (.iload_n 0, 1) := by decide +kernel
theorem dX6_maySet_1 : decode cX6_maySet 1 = .ok (.tableswitch 93 0 5 #[39, 49, 58, 69, 77, 86], 39) := by decide +kernel
theorem dX6_maySet_40 : decode cX6_maySet 40 = .ok (.iload_n 1, 1) := by decide +kernel
theorem dX6_maySet_41 : decode cX6_maySet 41 = .ok (.bipush 50, 2) := by decide +kernel
theorem dX6_maySet_43 : decode cX6_maySet 43 = .ok (.sipush 300, 3) := by decide +kernel
theorem dX6_maySet_46 : decode cX6_maySet 46 = .ok (.invokestatic 39, 3) := by decide +kernel
theorem dX6_maySet_49 : decode cX6_maySet 49 = .ok (.ireturn, 1) := by decide +kernel
theorem dX6_maySet_50 : decode cX6_maySet 50 = .ok (.iload_n 1, 1) := by decide +kernel
theorem dX6_maySet_51 : decode cX6_maySet 51 = .ok (.iconst 5, 1) := by decide +kernel
theorem dX6_maySet_52 : decode cX6_maySet 52 = .ok (.sipush 200, 3) := by decide +kernel
theorem dX6_maySet_55 : decode cX6_maySet 55 = .ok (.invokestatic 39, 3) := by decide +kernel
theorem dX6_maySet_58 : decode cX6_maySet 58 = .ok (.ireturn, 1) := by decide +kernel
theorem dX6_maySet_59 : decode cX6_maySet 59 = .ok (.iload_n 1, 1) := by decide +kernel
theorem dX6_maySet_60 : decode cX6_maySet 60 = .ok (.sipush 330, 3) := by decide +kernel
theorem dX6_maySet_63 : decode cX6_maySet 63 = .ok (.sipush 900, 3) := by decide +kernel
theorem dX6_maySet_66 : decode cX6_maySet 66 = .ok (.invokestatic 39, 3) := by decide +kernel
theorem dX6_maySet_69 : decode cX6_maySet 69 = .ok (.ireturn, 1) := by decide +kernel
theorem dX6_maySet_70 : decode cX6_maySet 70 = .ok (.iload_n 1, 1) := by decide +kernel
theorem dX6_maySet_71 : decode cX6_maySet 71 = .ok (.iconst 1, 1) := by decide +kernel
theorem dX6_maySet_72 : decode cX6_maySet 72 = .ok (.bipush 20, 2) := by decide +kernel
theorem dX6_maySet_74 : decode cX6_maySet 74 = .ok (.invokestatic 39, 3) := by decide +kernel
theorem dX6_maySet_77 : decode cX6_maySet 77 = .ok (.ireturn, 1) := by decide +kernel
theorem dX6_maySet_78 : decode cX6_maySet 78 = .ok (.iload_n 1, 1) := by decide +kernel
theorem dX6_maySet_79 : decode cX6_maySet 79 = .ok (.iconst 1, 1) := by decide +kernel
theorem dX6_maySet_80 : decode cX6_maySet 80 = .ok (.sipush 200, 3) := by decide +kernel
theorem dX6_maySet_83 : decode cX6_maySet 83 = .ok (.invokestatic 39, 3) := by decide +kernel
theorem dX6_maySet_86 : decode cX6_maySet 86 = .ok (.ireturn, 1) := by decide +kernel
theorem dX6_maySet_87 : decode cX6_maySet 87 = .ok (.iload_n 1, 1) := by decide +kernel
theorem dX6_maySet_88 : decode cX6_maySet 88 = .ok (.iconst 0, 1) := by decide +kernel
theorem dX6_maySet_89 : decode cX6_maySet 89 = .ok (.iconst 1, 1) := by decide +kernel
theorem dX6_maySet_90 : decode cX6_maySet 90 = .ok (.invokestatic 39, 3) := by decide +kernel
theorem dX6_maySet_93 : decode cX6_maySet 93 = .ok (.ireturn, 1) := by decide +kernel
theorem dX6_maySet_94 : decode cX6_maySet 94 = .ok (.iload_n 1, 1) := by decide +kernel
theorem dX6_maySet_95 : decode cX6_maySet 95 = .ok (.iconst 0, 1) := by decide +kernel
theorem dX6_maySet_96 : decode cX6_maySet 96 = .ok (.bipush 50, 2) := by decide +kernel
theorem dX6_maySet_98 : decode cX6_maySet 98 = .ok (.invokestatic 39, 3) := by decide +kernel
theorem dX6_maySet_101 : decode cX6_maySet 101 = .ok (.ireturn, 1) := by decide +kernel
set_option maxHeartbeats 1000000 in
set_option maxRecDepth 100000 in
theorem c_X6_maySet (l : Launch) (G : GT) (x1 : Int32) (x2 : Int32) : Met l yX6_maySet (Cond.code yX6_maySet cX6_maySet 2 (some .boolean) :: bigW) ({ frames := 1, cells := 0, slots := 0, locals := 22 }) (BP G [.int x1, .int x2] (fun U H => True)) (QP (.int (fX6_maySet x1 x2))) 0 0 (fun _ => False) := by
  refine met_of (by decide) (Nat.le_of_ble_eq_true rfl) ?_
  intro p e s m below meth c ls hC hKN hB0 hl
  have hl : lv_has ls 2 [(0, .int x1), (1, .int x2)] := hl
  have hg : fX6_maySet x1 x2 = fX6_maySet x1 x2 := rfl
  refine lv_iload_n hC.1 hC.2.1 dX6_maySet_0 rfl (lv_at hl 0 rfl) ?_
  by_cases k1_0 : x1 = 0
  · refine swIn hC (tgt := 40) 0 k1_0 dX6_maySet_1 (by decide) (by decide) rfl (by decide) ?_
    refine lv_iload_n hC.1 hC.2.1 dX6_maySet_40 rfl (lv_at hl 1 rfl) ?_
    refine lv_bipush (v := 50) hC.1 hC.2.1 dX6_maySet_41 (by decide +kernel) ?_
    refine lv_sipush (v := 300) hC.1 hC.2.1 dX6_maySet_43 (by decide +kernel) ?_
    refine runP (rS (B := fun U H => True) (As := [.int x2, .int 50, .int 300]) (rest := []) hC mwX6_in (c_X6_in l G x2 50 300) wd_975 wd_974 ⟨rfl, rfl⟩ ⟨Nat.le_of_ble_eq_true rfl, Nat.le_of_ble_eq_true rfl⟩ (fun _ _ _ _ h => h) hKN trivial rfl hl.1 rfl (Nat.le_of_ble_eq_true rfl) dX6_maySet_46 ⟨Nat.zero_le _, Nat.zero_le _⟩) ?_
    have e_1 : fX6_maySet x1 x2 = fX6_in x2 50 300 := by exact Eq.trans (if_pos k1_0) rfl
    have hg : fX6_maySet x1 x2 = fX6_in x2 50 300 := hg.trans (congrArg (fun z => z) e_1)
    exact eP_z hC (congrArg Value.int hg) (nb01 (in_01 _ _ _)) dX6_maySet_49
  · skip
    by_cases k1_1 : x1 = 1
    · refine swIn hC (tgt := 50) 1 k1_1 dX6_maySet_1 (by decide) (by decide) rfl (by decide) ?_
      refine lv_iload_n hC.1 hC.2.1 dX6_maySet_50 rfl (lv_at hl 1 rfl) ?_
      refine lv_iconst (v := 5) hC.1 hC.2.1 dX6_maySet_51 (by decide) ?_
      refine lv_sipush (v := 200) hC.1 hC.2.1 dX6_maySet_52 (by decide +kernel) ?_
      refine runP (rS (B := fun U H => True) (As := [.int x2, .int 5, .int 200]) (rest := []) hC mwX6_in (c_X6_in l G x2 5 200) wd_975 wd_974 ⟨rfl, rfl⟩ ⟨Nat.le_of_ble_eq_true rfl, Nat.le_of_ble_eq_true rfl⟩ (fun _ _ _ _ h => h) hKN trivial rfl hl.1 rfl (Nat.le_of_ble_eq_true rfl) dX6_maySet_55 ⟨Nat.zero_le _, Nat.zero_le _⟩) ?_
      have e_2 : fX6_maySet x1 x2 = fX6_in x2 5 200 := by exact Eq.trans (if_neg k1_0) (Eq.trans (if_pos k1_1) rfl)
      have hg : fX6_maySet x1 x2 = fX6_in x2 5 200 := hg.trans (congrArg (fun z => z) e_2)
      exact eP_z hC (congrArg Value.int hg) (nb01 (in_01 _ _ _)) dX6_maySet_58
    · skip
      by_cases k1_2 : x1 = 2
      · refine swIn hC (tgt := 59) 2 k1_2 dX6_maySet_1 (by decide) (by decide) rfl (by decide) ?_
        refine lv_iload_n hC.1 hC.2.1 dX6_maySet_59 rfl (lv_at hl 1 rfl) ?_
        refine lv_sipush (v := 330) hC.1 hC.2.1 dX6_maySet_60 (by decide +kernel) ?_
        refine lv_sipush (v := 900) hC.1 hC.2.1 dX6_maySet_63 (by decide +kernel) ?_
        refine runP (rS (B := fun U H => True) (As := [.int x2, .int 330, .int 900]) (rest := []) hC mwX6_in (c_X6_in l G x2 330 900) wd_975 wd_974 ⟨rfl, rfl⟩ ⟨Nat.le_of_ble_eq_true rfl, Nat.le_of_ble_eq_true rfl⟩ (fun _ _ _ _ h => h) hKN trivial rfl hl.1 rfl (Nat.le_of_ble_eq_true rfl) dX6_maySet_66 ⟨Nat.zero_le _, Nat.zero_le _⟩) ?_
        have e_3 : fX6_maySet x1 x2 = fX6_in x2 330 900 := by exact Eq.trans (if_neg k1_0) (Eq.trans (if_neg k1_1) (Eq.trans (if_pos k1_2) rfl))
        have hg : fX6_maySet x1 x2 = fX6_in x2 330 900 := hg.trans (congrArg (fun z => z) e_3)
        exact eP_z hC (congrArg Value.int hg) (nb01 (in_01 _ _ _)) dX6_maySet_69
      · skip
        by_cases k1_3 : x1 = 3
        · refine swIn hC (tgt := 70) 3 k1_3 dX6_maySet_1 (by decide) (by decide) rfl (by decide) ?_
          refine lv_iload_n hC.1 hC.2.1 dX6_maySet_70 rfl (lv_at hl 1 rfl) ?_
          refine lv_iconst (v := 1) hC.1 hC.2.1 dX6_maySet_71 (by decide) ?_
          refine lv_bipush (v := 20) hC.1 hC.2.1 dX6_maySet_72 (by decide +kernel) ?_
          refine runP (rS (B := fun U H => True) (As := [.int x2, .int 1, .int 20]) (rest := []) hC mwX6_in (c_X6_in l G x2 1 20) wd_975 wd_974 ⟨rfl, rfl⟩ ⟨Nat.le_of_ble_eq_true rfl, Nat.le_of_ble_eq_true rfl⟩ (fun _ _ _ _ h => h) hKN trivial rfl hl.1 rfl (Nat.le_of_ble_eq_true rfl) dX6_maySet_74 ⟨Nat.zero_le _, Nat.zero_le _⟩) ?_
          have e_4 : fX6_maySet x1 x2 = fX6_in x2 1 20 := by exact Eq.trans (if_neg k1_0) (Eq.trans (if_neg k1_1) (Eq.trans (if_neg k1_2) (Eq.trans (if_pos k1_3) rfl)))
          have hg : fX6_maySet x1 x2 = fX6_in x2 1 20 := hg.trans (congrArg (fun z => z) e_4)
          exact eP_z hC (congrArg Value.int hg) (nb01 (in_01 _ _ _)) dX6_maySet_77
        · skip
          by_cases k1_4 : x1 = 4
          · refine swIn hC (tgt := 78) 4 k1_4 dX6_maySet_1 (by decide) (by decide) rfl (by decide) ?_
            refine lv_iload_n hC.1 hC.2.1 dX6_maySet_78 rfl (lv_at hl 1 rfl) ?_
            refine lv_iconst (v := 1) hC.1 hC.2.1 dX6_maySet_79 (by decide) ?_
            refine lv_sipush (v := 200) hC.1 hC.2.1 dX6_maySet_80 (by decide +kernel) ?_
            refine runP (rS (B := fun U H => True) (As := [.int x2, .int 1, .int 200]) (rest := []) hC mwX6_in (c_X6_in l G x2 1 200) wd_975 wd_974 ⟨rfl, rfl⟩ ⟨Nat.le_of_ble_eq_true rfl, Nat.le_of_ble_eq_true rfl⟩ (fun _ _ _ _ h => h) hKN trivial rfl hl.1 rfl (Nat.le_of_ble_eq_true rfl) dX6_maySet_83 ⟨Nat.zero_le _, Nat.zero_le _⟩) ?_
            have e_5 : fX6_maySet x1 x2 = fX6_in x2 1 200 := by exact Eq.trans (if_neg k1_0) (Eq.trans (if_neg k1_1) (Eq.trans (if_neg k1_2) (Eq.trans (if_neg k1_3) (Eq.trans (if_pos k1_4) rfl))))
            have hg : fX6_maySet x1 x2 = fX6_in x2 1 200 := hg.trans (congrArg (fun z => z) e_5)
            exact eP_z hC (congrArg Value.int hg) (nb01 (in_01 _ _ _)) dX6_maySet_86
          · skip
            by_cases k1_5 : x1 = 5
            · refine swIn hC (tgt := 87) 5 k1_5 dX6_maySet_1 (by decide) (by decide) rfl (by decide) ?_
              refine lv_iload_n hC.1 hC.2.1 dX6_maySet_87 rfl (lv_at hl 1 rfl) ?_
              refine lv_iconst (v := 0) hC.1 hC.2.1 dX6_maySet_88 (by decide) ?_
              refine lv_iconst (v := 1) hC.1 hC.2.1 dX6_maySet_89 (by decide) ?_
              refine runP (rS (B := fun U H => True) (As := [.int x2, .int 0, .int 1]) (rest := []) hC mwX6_in (c_X6_in l G x2 0 1) wd_975 wd_974 ⟨rfl, rfl⟩ ⟨Nat.le_of_ble_eq_true rfl, Nat.le_of_ble_eq_true rfl⟩ (fun _ _ _ _ h => h) hKN trivial rfl hl.1 rfl (Nat.le_of_ble_eq_true rfl) dX6_maySet_90 ⟨Nat.zero_le _, Nat.zero_le _⟩) ?_
              have e_6 : fX6_maySet x1 x2 = fX6_in x2 0 1 := by exact Eq.trans (if_neg k1_0) (Eq.trans (if_neg k1_1) (Eq.trans (if_neg k1_2) (Eq.trans (if_neg k1_3) (Eq.trans (if_neg k1_4) (Eq.trans (if_pos k1_5) rfl)))))
              have hg : fX6_maySet x1 x2 = fX6_in x2 0 1 := hg.trans (congrArg (fun z => z) e_6)
              exact eP_z hC (congrArg Value.int hg) (nb01 (in_01 _ _ _)) dX6_maySet_93
            · skip
              refine lv_tableOut (tgt := 94) hC.1 hC.2.1 dX6_maySet_1 (sw_out 0 5 (by decide) (fun k h1 h2 => by match k, h1, h2 with  | 0, _, _ => exact k1_0 | 1, _, _ => exact k1_1 | 2, _, _ => exact k1_2 | 3, _, _ => exact k1_3 | 4, _, _ => exact k1_4 | 5, _, _ => exact k1_5 | k + 6, _, h => exact absurd h (by omega))) (by decide) ?_
              refine lv_iload_n hC.1 hC.2.1 dX6_maySet_94 rfl (lv_at hl 1 rfl) ?_
              refine lv_iconst (v := 0) hC.1 hC.2.1 dX6_maySet_95 (by decide) ?_
              refine lv_bipush (v := 50) hC.1 hC.2.1 dX6_maySet_96 (by decide +kernel) ?_
              refine runP (rS (B := fun U H => True) (As := [.int x2, .int 0, .int 50]) (rest := []) hC mwX6_in (c_X6_in l G x2 0 50) wd_975 wd_974 ⟨rfl, rfl⟩ ⟨Nat.le_of_ble_eq_true rfl, Nat.le_of_ble_eq_true rfl⟩ (fun _ _ _ _ h => h) hKN trivial rfl hl.1 rfl (Nat.le_of_ble_eq_true rfl) dX6_maySet_98 ⟨Nat.zero_le _, Nat.zero_le _⟩) ?_
              have e_7 : fX6_maySet x1 x2 = fX6_in x2 0 50 := by exact Eq.trans (if_neg k1_0) (Eq.trans (if_neg k1_1) (Eq.trans (if_neg k1_2) (Eq.trans (if_neg k1_3) (Eq.trans (if_neg k1_4) (Eq.trans (if_neg k1_5) rfl)))))
              have hg : fX6_maySet x1 x2 = fX6_in x2 0 50 := hg.trans (congrArg (fun z => z) e_7)
              exact eP_z hC (congrArg Value.int hg) (nb01 (in_01 _ _ _)) dX6_maySet_101

theorem dX6_set_0 : decode cX6_set 0 = .ok (.aload_n 0, 1) := by decide +kernel
theorem dX6_set_1 : decode cX6_set 1 = .ok (.iconst 0, 1) := by decide +kernel
theorem dX6_set_2 : decode cX6_set 2 = .ok (.putfield 34, 3) := by decide +kernel
theorem dX6_set_5 : decode cX6_set 5 = .ok (.iload_n 1, 1) := by decide +kernel
theorem dX6_set_6 : decode cX6_set 6 = .ok (.iconst 0, 1) := by decide +kernel
theorem dX6_set_7 : decode cX6_set 7 = .ok (.bipush 6, 2) := by decide +kernel
theorem dX6_set_9 : decode cX6_set 9 = .ok (.invokestatic 39, 3) := by decide +kernel
theorem dX6_set_12 : decode cX6_set 12 = .ok (.ifCond .ne 9, 3) := by decide +kernel
theorem dX6_set_15 : decode cX6_set 15 = .ok (.aload_n 0, 1) := by decide +kernel
theorem dX6_set_16 : decode cX6_set 16 = .ok (.iconst 1, 1) := by decide +kernel
theorem dX6_set_17 : decode cX6_set 17 = .ok (.invokevirtual 46, 3) := by decide +kernel
theorem dX6_set_20 : decode cX6_set 20 = .ok (.ireturn, 1) := by decide +kernel
theorem dX6_set_21 : decode cX6_set 21 = .ok (.iload_n 1, 1) := by decide +kernel
theorem dX6_set_22 : decode cX6_set 22 = .ok (.iload_n 2, 1) := by decide +kernel
theorem dX6_set_23 : decode cX6_set 23 = .ok (.invokestatic 130, 3) := by decide +kernel
theorem dX6_set_26 : decode cX6_set 26 = .ok (.ifCond .ne 9, 3) := by decide +kernel
theorem dX6_set_29 : decode cX6_set 29 = .ok (.aload_n 0, 1) := by decide +kernel
theorem dX6_set_30 : decode cX6_set 30 = .ok (.iconst 2, 1) := by decide +kernel
theorem dX6_set_31 : decode cX6_set 31 = .ok (.invokevirtual 46, 3) := by decide +kernel
theorem dX6_set_34 : decode cX6_set 34 = .ok (.ireturn, 1) := by decide +kernel
theorem dX6_set_35 : decode cX6_set 35 = .ok (.aload_n 0, 1) := by decide +kernel
theorem dX6_set_36 : decode cX6_set 36 = .ok (.invokevirtual 54, 3) := by decide +kernel
theorem dX6_set_39 : decode cX6_set 39 = .ok (.aload_n 0, 1) := by decide +kernel
theorem dX6_set_40 : decode cX6_set 40 = .ok (.getfield 7, 3) := by decide +kernel
theorem dX6_set_43 : decode cX6_set 43 = .ok (.bipush 74, 2) := by decide +kernel
theorem dX6_set_45 : decode cX6_set 45 = .ok (.iload_n 1, 1) := by decide +kernel
theorem dX6_set_46 : decode cX6_set 46 = .ok (.iadd, 1) := by decide +kernel
theorem dX6_set_47 : decode cX6_set 47 = .ok (.iaload, 1) := by decide +kernel
theorem dX6_set_48 : decode cX6_set 48 = .ok (.istore_n 3, 1) := by decide +kernel
theorem dX6_set_49 : decode cX6_set 49 = .ok (.aload_n 0, 1) := by decide +kernel
theorem dX6_set_50 : decode cX6_set 50 = .ok (.getfield 7, 3) := by decide +kernel
theorem dX6_set_53 : decode cX6_set 53 = .ok (.bipush 74, 2) := by decide +kernel
theorem dX6_set_55 : decode cX6_set 55 = .ok (.iload_n 1, 1) := by decide +kernel
theorem dX6_set_56 : decode cX6_set 56 = .ok (.iadd, 1) := by decide +kernel
theorem dX6_set_57 : decode cX6_set 57 = .ok (.iload_n 2, 1) := by decide +kernel
theorem dX6_set_58 : decode cX6_set 58 = .ok (.iastore, 1) := by decide +kernel
theorem dX6_set_59 : decode cX6_set 59 = .ok (.iload_n 3, 1) := by decide +kernel
theorem dX6_set_60 : decode cX6_set 60 = .ok (.ireturn, 1) := by decide +kernel
set_option maxHeartbeats 1000000 in
set_option maxRecDepth 100000 in
theorem c_X6_set (l : Launch) (G : GT) (q : Nat → Nat) (v : SV) (hs : Int64) (x1 : Int32) (x2 : Int32) (hq : mdD G q) (hI : MI v) : Met l yX6_set (Cond.code yX6_set cX6_set 4 (some .int) :: bigW) ({ frames := 2, cells := 0, slots := 0, locals := 43 }) (BP G [.ref (q 0), .int x1, .int x2] (fun U H => PW G (mdW G q v hs) H)) (QE (some (.int (fX6_set v x1 x2).2)) (fun H => PW G (mdW G q (fX6_set v x1 x2).1 hs) H) (mdA q)) 0 0 (mdA q) := by
  refine met_of (by decide) (Nat.le_of_ble_eq_true rfl) ?_
  intro p e s m below meth c ls hC hKN hB0 hl
  have hP := hB0
  have hl : lv_has ls 4 [(0, .ref (q 0)), (1, .int x1), (2, .int x2)] := hl
  have hS : va_S (mdA q) s.heap s.heap [] := va_S.rf
  have hAL : ∀ a, (mdA q) a → gL G ≤ a := mdD_low hq
  have hg : fX6_set v x1 x2 = fX6_set v x1 x2 := rfl
  refine lv_aload_n hC.1 hC.2.1 dX6_set_0 rfl (lv_at hl 0 rfl) ?_
  refine lv_iconst (v := 0) hC.1 hC.2.1 dX6_set_1 (by decide) ?_
  refine pf (v := .int 0) (tv := .int) hC fwX6 hKN hP (mdD_D hq v hs) hS 0 rfl rfl 6 (by decide) rfl wd_893 rfl rfl rfl (Nat.le_of_ble_eq_true rfl) dX6_set_2 (fun H locs hq_1 hS => ?_)
  have hP : PW G (mdW G q (mkM (v 0) (v 1) (v 2) (v 3) (v 4) (v 5) (v 6) (v 7) (v 8 0) (v 8 1) 0 (v 8 3) (v 8 4) (v 8 5) (v 8 6) (v 8 7) (v 8 8)) hs) H := hq_1
  have hI : MI (mkM (v 0) (v 1) (v 2) (v 3) (v 4) (v 5) (v 6) (v 7) (v 8 0) (v 8 1) 0 (v 8 3) (v 8 4) (v 8 5) (v 8 6) (v 8 7) (v 8 8)) := hI
  refine lv_iload_n hC.1 hC.2.1 dX6_set_5 rfl (lv_at hl 1 rfl) ?_
  refine lv_iconst (v := 0) hC.1 hC.2.1 dX6_set_6 (by decide) ?_
  refine lv_bipush (v := 6) hC.1 hC.2.1 dX6_set_7 (by decide +kernel) ?_
  refine runP (rS (B := fun U H => True) (As := [.int x1, .int 0, .int 6]) (rest := []) hC mwX6_in (c_X6_in l G x1 0 6) wd_975 wd_974 ⟨rfl, rfl⟩ ⟨Nat.le_of_ble_eq_true rfl, Nat.le_of_ble_eq_true rfl⟩ (fun _ _ _ _ h => h) (hKN.go hAL hS) trivial rfl hl.1 rfl (Nat.le_of_ble_eq_true rfl) dX6_set_9 ⟨Nat.zero_le _, Nat.zero_le _⟩) ?_
  refine lv_if_ne (tgt := 21) hC.1 hC.2.1 dX6_set_12 (by decide) (fun k12 => ?_) (fun k12 => ?_)
  · refine lv_iload_n hC.1 hC.2.1 dX6_set_21 rfl (lv_at hl 1 rfl) ?_
    refine lv_iload_n hC.1 hC.2.1 dX6_set_22 rfl (lv_at hl 2 rfl) ?_
    refine runP (rS (B := fun U H => True) (As := [.int x1, .int x2]) (rest := []) hC mwX6_maySet (c_X6_maySet l G x1 x2) wd_1064 wd_1063 ⟨rfl, rfl⟩ ⟨Nat.le_of_ble_eq_true rfl, Nat.le_of_ble_eq_true rfl⟩ (fun _ _ _ _ h => h) (hKN.go hAL hS) trivial rfl hl.1 rfl (Nat.le_of_ble_eq_true rfl) dX6_set_23 ⟨Nat.zero_le _, Nat.zero_le _⟩) ?_
    refine lv_if_ne (tgt := 35) hC.1 hC.2.1 dX6_set_26 (by decide) (fun k26 => ?_) (fun k26 => ?_)
    · refine lv_aload_n hC.1 hC.2.1 dX6_set_35 rfl (lv_at hl 0 rfl) ?_
      refine runE (rV (B := fun U H => PW G (mdW G q (mkM (v 0) (v 1) (v 2) (v 3) (v 4) (v 5) (v 6) (v 7) (v 8 0) (v 8 1) 0 (v 8 3) (v 8 4) (v 8 5) (v 8 6) (v 8 7) (v 8 8)) hs) H) (As := []) (rest := []) hC mwX6_save (c_X6_save l G q (mkM (v 0) (v 1) (v 2) (v 3) (v 4) (v 5) (v 6) (v 7) (v 8 0) (v 8 1) 0 (v 8 3) (v 8 4) (v 8 5) (v 8 6) (v 8 7) (v 8 8)) hs hq hI.2) iwX6_save wd_962 ⟨rfl, rfl⟩ ⟨Nat.le_of_ble_eq_true rfl, Nat.le_of_ble_eq_true rfl⟩ (stb_h (fun H => PW G (mdW G q (mkM (v 0) (v 1) (v 2) (v 3) (v 4) (v 5) (v 6) (v 7) (v 8 0) (v 8 1) 0 (v 8 3) (v 8 4) (v 8 5) (v 8 6) (v 8 7) (v 8 8)) hs) H)) (hKN.go hAL hS) hP (va_recv (hKN.go hAL hS).k hP (ci := 6) (q0 := 0) rfl rfl) rfl hl.1 rfl (Nat.le_of_ble_eq_true rfl) dX6_set_36 ⟨Nat.zero_le _, Nat.zero_le _⟩) hS (fun _ h => h) (fun _ h => h) (fun H locs hq_2 _ _ hS => ?_)
      have hP : PW G (mdW G q (fX6_save (mkM (v 0) (v 1) (v 2) (v 3) (v 4) (v 5) (v 6) (v 7) (v 8 0) (v 8 1) 0 (v 8 3) (v 8 4) (v 8 5) (v 8 6) (v 8 7) (v 8 8))) hs) H := hq_2
      obtain ⟨r_3, er_3⟩ : ∃ z, z = fX6_save (mkM (v 0) (v 1) (v 2) (v 3) (v 4) (v 5) (v 6) (v 7) (v 8 0) (v 8 1) 0 (v 8 3) (v 8 4) (v 8 5) (v 8 6) (v 8 7) (v 8 8)) := ⟨_, rfl⟩
      rw [← er_3] at hP
      have hI : SI (r_3 0) := by rw [er_3]; exact (SI_save hI.1)
      refine lv_aload_n hC.1 hC.2.1 dX6_set_39 rfl (lv_at hl 0 rfl) ?_
      refine gf (v := .ref (q 1)) hC fwX6 (hKN.go hAL hS) hP 0 rfl rfl 0 (by decide) rfl wd_887 rfl dX6_set_40 ?_
      refine lv_bipush (v := 74) hC.1 hC.2.1 dX6_set_43 (by decide +kernel) ?_
      refine lv_iload_n hC.1 hC.2.1 dX6_set_45 rfl (lv_at hl 1 rfl) ?_
      refine lv_topi (fun w_4 ew_4 => ?_)
      rw [show w_4 = nI x1.toNatClampNeg from ew_4.trans (lq (in_nat (b := 6) (by omega) k12))]
      refine lv_iadd hC.1 hC.2.1 dX6_set_46 ?_
      refine iald_k hC (hKN.go hAL hS) hP 1 rfl (n := 124) (f := (r_3 0)) (74 + x1.toNatClampNeg) (nE_add (rfl) (rfl)) (by have := (in_nat (b := 6) (by omega) k12).2; omega) (by decide) dX6_set_47 ?_
      refine lv_istore_n (lv' := [(3, .int ((r_3 0) (74 + x1.toNatClampNeg))), (0, .ref (q 0)), (1, .int x1), (2, .int x2)]) hC.1 hC.2.1 dX6_set_48 rfl hl (by decide) rfl (fun ls hl => ?_)
      refine lv_aload_n hC.1 hC.2.1 dX6_set_49 rfl (lv_at hl 1 rfl) ?_
      refine gf (v := .ref (q 1)) hC fwX6 (hKN.go hAL hS) hP 0 rfl rfl 0 (by decide) rfl wd_887 rfl dX6_set_50 ?_
      refine lv_bipush (v := 74) hC.1 hC.2.1 dX6_set_53 (by decide +kernel) ?_
      refine lv_iload_n hC.1 hC.2.1 dX6_set_55 rfl (lv_at hl 2 rfl) ?_
      refine lv_topi (fun w_5 ew_5 => ?_)
      rw [show w_5 = nI x1.toNatClampNeg from ew_5.trans (lq (in_nat (b := 6) (by omega) k12))]
      refine lv_iadd hC.1 hC.2.1 dX6_set_56 ?_
      refine lv_iload_n hC.1 hC.2.1 dX6_set_57 rfl (lv_at hl 3 rfl) ?_
      refine iast_k hC (hKN.go hAL hS) hP (mdD_D hq r_3 hs) hS 1 rfl (n := 124) (f := (r_3 0)) (74 + x1.toNatClampNeg) (nE_add (rfl) (rfl)) (by have := (in_nat (b := 6) (by omega) k12).2; omega) (by decide) dX6_set_58 (fun H locs hq_6 hS => ?_)
      have hP : PW G (mdW G q (mkM (upd (r_3 0) (74 + x1.toNatClampNeg) x2) (r_3 1) (r_3 2) (r_3 3) (r_3 4) (r_3 5) (r_3 6) (r_3 7) (r_3 8 0) (r_3 8 1) (r_3 8 2) (r_3 8 3) (r_3 8 4) (r_3 8 5) (r_3 8 6) (r_3 8 7) (r_3 8 8)) hs) H := hq_6
      have hI : True := trivial
      refine lv_iload_n hC.1 hC.2.1 dX6_set_59 rfl (lv_at hl 0 rfl) ?_
      have e_7 : fX6_set v x1 x2 = (mkM (upd (r_3 0) (74 + x1.toNatClampNeg) x2) (r_3 1) (r_3 2) (r_3 3) (r_3 4) (r_3 5) (r_3 6) (r_3 7) (r_3 8 0) (r_3 8 1) (r_3 8 2) (r_3 8 3) (r_3 8 4) (r_3 8 5) (r_3 8 6) (r_3 8 7) (r_3 8 8), (r_3 0) (74 + x1.toNatClampNeg)) := by subst er_3; exact Eq.trans (if_neg k12) (Eq.trans (if_neg k26) rfl)
      have hg : fX6_set v x1 x2 = (mkM (upd (r_3 0) (74 + x1.toNatClampNeg) x2) (r_3 1) (r_3 2) (r_3 3) (r_3 4) (r_3 5) (r_3 6) (r_3 7) (r_3 8 0) (r_3 8 1) (r_3 8 2) (r_3 8 3) (r_3 8 4) (r_3 8 5) (r_3 8 6) (r_3 8 7) (r_3 8 8), (r_3 0) (74 + x1.toNatClampNeg)) := hg.trans (congrArg (fun z => z) e_7)
      exact eE_i hC (by rw [hg]) (by show PW G (mdW G q (fX6_set v x1 x2).1 hs) H; rw [hg]; exact hP) hS dX6_set_60
    · refine lv_aload_n hC.1 hC.2.1 dX6_set_29 rfl (lv_at hl 0 rfl) ?_
      refine lv_iconst (v := 2) hC.1 hC.2.1 dX6_set_30 (by decide) ?_
      refine runE (rV (B := fun U H => PW G (mdW G q (mkM (v 0) (v 1) (v 2) (v 3) (v 4) (v 5) (v 6) (v 7) (v 8 0) (v 8 1) 0 (v 8 3) (v 8 4) (v 8 5) (v 8 6) (v 8 7) (v 8 8)) hs) H) (As := [.int 2]) (rest := []) hC mwX6_fails (c_X6_fails l G q (mkM (v 0) (v 1) (v 2) (v 3) (v 4) (v 5) (v 6) (v 7) (v 8 0) (v 8 1) 0 (v 8 3) (v 8 4) (v 8 5) (v 8 6) (v 8 7) (v 8 8)) hs 2 hq) iwX6_fails wd_950 ⟨rfl, rfl⟩ ⟨Nat.le_of_ble_eq_true rfl, Nat.le_of_ble_eq_true rfl⟩ (stb_h (fun H => PW G (mdW G q (mkM (v 0) (v 1) (v 2) (v 3) (v 4) (v 5) (v 6) (v 7) (v 8 0) (v 8 1) 0 (v 8 3) (v 8 4) (v 8 5) (v 8 6) (v 8 7) (v 8 8)) hs) H)) (hKN.go hAL hS) hP (va_recv (hKN.go hAL hS).k hP (ci := 6) (q0 := 0) rfl rfl) rfl hl.1 rfl (Nat.le_of_ble_eq_true rfl) dX6_set_31 ⟨Nat.zero_le _, Nat.zero_le _⟩) hS (fun _ h => h) (fun _ h => h) (fun H locs hq_8 _ _ hS => ?_)
      have hP : PW G (mdW G q ((fX6_fails (mkM (v 0) (v 1) (v 2) (v 3) (v 4) (v 5) (v 6) (v 7) (v 8 0) (v 8 1) 0 (v 8 3) (v 8 4) (v 8 5) (v 8 6) (v 8 7) (v 8 8)) 2).1) hs) H := hq_8
      obtain ⟨r_9, er_9⟩ : ∃ z, z = fX6_fails (mkM (v 0) (v 1) (v 2) (v 3) (v 4) (v 5) (v 6) (v 7) (v 8 0) (v 8 1) 0 (v 8 3) (v 8 4) (v 8 5) (v 8 6) (v 8 7) (v 8 8)) 2 := ⟨_, rfl⟩
      rw [← er_9] at hP
      show W p l e ({ frames := 2, cells := 0, slots := 0, locals := 43 }) s m ([.ref (q 0), .int x1, .int x2] : List Value).toArray below meth c H locs (0 + 0) (0 + 0) _ (F0 m (31 + 3) ls [.int ((fX6_fails (mkM (v 0) (v 1) (v 2) (v 3) (v 4) (v 5) (v 6) (v 7) (v 8 0) (v 8 1) 0 (v 8 3) (v 8 4) (v 8 5) (v 8 6) (v 8 7) (v 8 8)) 2).2)])
      rw [← er_9]
      have hI : True := trivial
      have e_10 : fX6_set v x1 x2 = (r_9.1, r_9.2) := by subst er_9; exact Eq.trans (if_neg k12) (Eq.trans (if_pos k26) rfl)
      have hg : fX6_set v x1 x2 = (r_9.1, r_9.2) := hg.trans (congrArg (fun z => z) e_10)
      exact eE_i hC (by rw [hg]) (by show PW G (mdW G q (fX6_set v x1 x2).1 hs) H; rw [hg]; exact hP) hS dX6_set_34
  · refine lv_aload_n hC.1 hC.2.1 dX6_set_15 rfl (lv_at hl 0 rfl) ?_
    refine lv_iconst (v := 1) hC.1 hC.2.1 dX6_set_16 (by decide) ?_
    refine runE (rV (B := fun U H => PW G (mdW G q (mkM (v 0) (v 1) (v 2) (v 3) (v 4) (v 5) (v 6) (v 7) (v 8 0) (v 8 1) 0 (v 8 3) (v 8 4) (v 8 5) (v 8 6) (v 8 7) (v 8 8)) hs) H) (As := [.int 1]) (rest := []) hC mwX6_fails (c_X6_fails l G q (mkM (v 0) (v 1) (v 2) (v 3) (v 4) (v 5) (v 6) (v 7) (v 8 0) (v 8 1) 0 (v 8 3) (v 8 4) (v 8 5) (v 8 6) (v 8 7) (v 8 8)) hs 1 hq) iwX6_fails wd_950 ⟨rfl, rfl⟩ ⟨Nat.le_of_ble_eq_true rfl, Nat.le_of_ble_eq_true rfl⟩ (stb_h (fun H => PW G (mdW G q (mkM (v 0) (v 1) (v 2) (v 3) (v 4) (v 5) (v 6) (v 7) (v 8 0) (v 8 1) 0 (v 8 3) (v 8 4) (v 8 5) (v 8 6) (v 8 7) (v 8 8)) hs) H)) (hKN.go hAL hS) hP (va_recv (hKN.go hAL hS).k hP (ci := 6) (q0 := 0) rfl rfl) rfl hl.1 rfl (Nat.le_of_ble_eq_true rfl) dX6_set_17 ⟨Nat.zero_le _, Nat.zero_le _⟩) hS (fun _ h => h) (fun _ h => h) (fun H locs hq_11 _ _ hS => ?_)
    have hP : PW G (mdW G q ((fX6_fails (mkM (v 0) (v 1) (v 2) (v 3) (v 4) (v 5) (v 6) (v 7) (v 8 0) (v 8 1) 0 (v 8 3) (v 8 4) (v 8 5) (v 8 6) (v 8 7) (v 8 8)) 1).1) hs) H := hq_11
    obtain ⟨r_12, er_12⟩ : ∃ z, z = fX6_fails (mkM (v 0) (v 1) (v 2) (v 3) (v 4) (v 5) (v 6) (v 7) (v 8 0) (v 8 1) 0 (v 8 3) (v 8 4) (v 8 5) (v 8 6) (v 8 7) (v 8 8)) 1 := ⟨_, rfl⟩
    rw [← er_12] at hP
    show W p l e ({ frames := 2, cells := 0, slots := 0, locals := 43 }) s m ([.ref (q 0), .int x1, .int x2] : List Value).toArray below meth c H locs (0 + 0) (0 + 0) _ (F0 m (17 + 3) ls [.int ((fX6_fails (mkM (v 0) (v 1) (v 2) (v 3) (v 4) (v 5) (v 6) (v 7) (v 8 0) (v 8 1) 0 (v 8 3) (v 8 4) (v 8 5) (v 8 6) (v 8 7) (v 8 8)) 1).2)])
    rw [← er_12]
    have hI : True := trivial
    have e_13 : fX6_set v x1 x2 = (r_12.1, r_12.2) := by subst er_12; exact Eq.trans (if_pos k12) rfl
    have hg : fX6_set v x1 x2 = (r_12.1, r_12.2) := hg.trans (congrArg (fun z => z) e_13)
    exact eE_i hC (by rw [hg]) (by show PW G (mdW G q (fX6_set v x1 x2).1 hs) H; rw [hg]; exact hP) hS dX6_set_20

theorem dX6_append_0 : decode cX6_append 0 = .ok (.aload_n 0, 1) := by decide +kernel
theorem dX6_append_1 : decode cX6_append 1 = .ok (.iconst 0, 1) := by decide +kernel
theorem dX6_append_2 : decode cX6_append 2 = .ok (.putfield 34, 3) := by decide +kernel
theorem dX6_append_5 : decode cX6_append 5 = .ok (.iload_n 1, 1) := by decide +kernel
theorem dX6_append_6 : decode cX6_append 6 = .ok (.bipush 33, 2) := by decide +kernel
theorem dX6_append_8 : decode cX6_append 8 = .ok (.bipush 126, 2) := by decide +kernel
theorem dX6_append_10 : decode cX6_append 10 = .ok (.invokestatic 39, 3) := by decide +kernel
theorem dX6_append_13 : decode cX6_append 13 = .ok (.ifCond .ne 9, 3) := by decide +kernel
theorem dX6_append_16 : decode cX6_append 16 = .ok (.aload_n 0, 1) := by decide +kernel
theorem dX6_append_17 : decode cX6_append 17 = .ok (.iconst 1, 1) := by decide +kernel
theorem dX6_append_18 : decode cX6_append 18 = .ok (.invokevirtual 46, 3) := by decide +kernel
theorem dX6_append_21 : decode cX6_append 21 = .ok (.ireturn, 1) := by decide +kernel
theorem dX6_append_22 : decode cX6_append 22 = .ok (.aload_n 0, 1) := by decide +kernel
theorem dX6_append_23 : decode cX6_append 23 = .ok (.getfield 133, 3) := by decide +kernel
theorem dX6_append_26 : decode cX6_append 26 = .ok (.bipush 60, 2) := by decide +kernel
theorem dX6_append_28 : decode cX6_append 28 = .ok (.if_icmp .ne 9, 3) := by decide +kernel
theorem dX6_append_31 : decode cX6_append 31 = .ok (.aload_n 0, 1) := by decide +kernel
theorem dX6_append_32 : decode cX6_append 32 = .ok (.iconst 2, 1) := by decide +kernel
theorem dX6_append_33 : decode cX6_append 33 = .ok (.invokevirtual 46, 3) := by decide +kernel
theorem dX6_append_36 : decode cX6_append 36 = .ok (.ireturn, 1) := by decide +kernel
theorem dX6_append_37 : decode cX6_append 37 = .ok (.aload_n 0, 1) := by decide +kernel
theorem dX6_append_38 : decode cX6_append 38 = .ok (.getfield 22, 3) := by decide +kernel
theorem dX6_append_41 : decode cX6_append 41 = .ok (.aload_n 0, 1) := by decide +kernel
theorem dX6_append_42 : decode cX6_append 42 = .ok (.getfield 133, 3) := by decide +kernel
theorem dX6_append_45 : decode cX6_append 45 = .ok (.iload_n 1, 1) := by decide +kernel
theorem dX6_append_46 : decode cX6_append 46 = .ok (.iastore, 1) := by decide +kernel
theorem dX6_append_47 : decode cX6_append 47 = .ok (.aload_n 0, 1) := by decide +kernel
theorem dX6_append_48 : decode cX6_append 48 = .ok (.dup, 1) := by decide +kernel
theorem dX6_append_49 : decode cX6_append 49 = .ok (.getfield 133, 3) := by decide +kernel
theorem dX6_append_52 : decode cX6_append 52 = .ok (.iconst 1, 1) := by decide +kernel
theorem dX6_append_53 : decode cX6_append 53 = .ok (.iadd, 1) := by decide +kernel
theorem dX6_append_54 : decode cX6_append 54 = .ok (.putfield 133, 3) := by decide +kernel
theorem dX6_append_57 : decode cX6_append 57 = .ok (.aload_n 0, 1) := by decide +kernel
theorem dX6_append_58 : decode cX6_append 58 = .ok (.getfield 133, 3) := by decide +kernel
theorem dX6_append_61 : decode cX6_append 61 = .ok (.ireturn, 1) := by decide +kernel
set_option maxHeartbeats 1000000 in
set_option maxRecDepth 100000 in
theorem c_X6_append (l : Launch) (G : GT) (q : Nat → Nat) (v : SV) (hs : Int64) (x1 : Int32) (hq : mdD G q) (hI : le_n (v 8 6) 60) : Met l yX6_append (Cond.code yX6_append cX6_append 2 (some .int) :: bigW) ({ frames := 1, cells := 0, slots := 0, locals := 22 }) (BP G [.ref (q 0), .int x1] (fun U H => PW G (mdW G q v hs) H)) (QE (some (.int (fX6_append v x1).2)) (fun H => PW G (mdW G q (fX6_append v x1).1 hs) H) (mdA q)) 0 0 (mdA q) := by
  refine met_of (by decide) (Nat.le_of_ble_eq_true rfl) ?_
  intro p e s m below meth c ls hC hKN hB0 hl
  have hP := hB0
  have hl : lv_has ls 2 [(0, .ref (q 0)), (1, .int x1)] := hl
  have hS : va_S (mdA q) s.heap s.heap [] := va_S.rf
  have hAL : ∀ a, (mdA q) a → gL G ≤ a := mdD_low hq
  have hg : fX6_append v x1 = fX6_append v x1 := rfl
  refine lv_aload_n hC.1 hC.2.1 dX6_append_0 rfl (lv_at hl 0 rfl) ?_
  refine lv_iconst (v := 0) hC.1 hC.2.1 dX6_append_1 (by decide) ?_
  refine pf (v := .int 0) (tv := .int) hC fwX6 hKN hP (mdD_D hq v hs) hS 0 rfl rfl 6 (by decide) rfl wd_893 rfl rfl rfl (Nat.le_of_ble_eq_true rfl) dX6_append_2 (fun H locs hq_1 hS => ?_)
  have hP : PW G (mdW G q (mkM (v 0) (v 1) (v 2) (v 3) (v 4) (v 5) (v 6) (v 7) (v 8 0) (v 8 1) 0 (v 8 3) (v 8 4) (v 8 5) (v 8 6) (v 8 7) (v 8 8)) hs) H := hq_1
  have hI : le_n ((mkM (v 0) (v 1) (v 2) (v 3) (v 4) (v 5) (v 6) (v 7) (v 8 0) (v 8 1) 0 (v 8 3) (v 8 4) (v 8 5) (v 8 6) (v 8 7) (v 8 8)) 8 6) 60 := hI
  refine lv_iload_n hC.1 hC.2.1 dX6_append_5 rfl (lv_at hl 1 rfl) ?_
  refine lv_bipush (v := 33) hC.1 hC.2.1 dX6_append_6 (by decide +kernel) ?_
  refine lv_bipush (v := 126) hC.1 hC.2.1 dX6_append_8 (by decide +kernel) ?_
  refine runP (rS (B := fun U H => True) (As := [.int x1, .int 33, .int 126]) (rest := []) hC mwX6_in (c_X6_in l G x1 33 126) wd_975 wd_974 ⟨rfl, rfl⟩ ⟨Nat.le_of_ble_eq_true rfl, Nat.le_of_ble_eq_true rfl⟩ (fun _ _ _ _ h => h) (hKN.go hAL hS) trivial rfl hl.1 rfl (Nat.le_of_ble_eq_true rfl) dX6_append_10 ⟨Nat.zero_le _, Nat.zero_le _⟩) ?_
  refine lv_if_ne (tgt := 22) hC.1 hC.2.1 dX6_append_13 (by decide) (fun k13 => ?_) (fun k13 => ?_)
  · refine lv_aload_n hC.1 hC.2.1 dX6_append_22 rfl (lv_at hl 0 rfl) ?_
    refine gf (v := .int (v 8 6)) hC fwX6 (hKN.go hAL hS) hP 0 rfl rfl 11 (by decide) rfl wd_898 rfl dX6_append_23 ?_
    refine lv_bipush (v := 60) hC.1 hC.2.1 dX6_append_26 (by decide +kernel) ?_
    refine lv_icmp_ne (tgt := 37) hC.1 hC.2.1 dX6_append_28 (by decide) (fun k28 => ?_) (fun k28 => ?_)
    · refine lv_aload_n hC.1 hC.2.1 dX6_append_37 rfl (lv_at hl 0 rfl) ?_
      refine gf (v := .ref (q 5)) hC fwX6 (hKN.go hAL hS) hP 0 rfl rfl 10 (by decide) rfl wd_897 rfl dX6_append_38 ?_
      refine lv_aload_n hC.1 hC.2.1 dX6_append_41 rfl (lv_at hl 0 rfl) ?_
      refine gf (v := .int (v 8 6)) hC fwX6 (hKN.go hAL hS) hP 0 rfl rfl 11 (by decide) rfl wd_898 rfl dX6_append_42 ?_
      refine lv_topi (fun w_2 ew_2 => ?_)
      rw [show w_2 = nI ((v 8 6).toNatClampNeg) from ew_2.trans (lq hI)]
      refine lv_iload_n hC.1 hC.2.1 dX6_append_45 rfl (lv_at hl 1 rfl) ?_
      refine iast_k hC (hKN.go hAL hS) hP (mdD_D hq (mkM (v 0) (v 1) (v 2) (v 3) (v 4) (v 5) (v 6) (v 7) (v 8 0) (v 8 1) 0 (v 8 3) (v 8 4) (v 8 5) (v 8 6) (v 8 7) (v 8 8)) hs) hS 5 rfl (n := 60) (f := (v 4)) ((v 8 6).toNatClampNeg) (rfl) (lt_n hI k28) (by decide) dX6_append_46 (fun H locs hq_3 hS => ?_)
      have hP : PW G (mdW G q (mkM (v 0) (v 1) (v 2) (v 3) (upd (v 4) ((v 8 6).toNatClampNeg) x1) (v 5) (v 6) (v 7) (v 8 0) (v 8 1) 0 (v 8 3) (v 8 4) (v 8 5) (v 8 6) (v 8 7) (v 8 8)) hs) H := hq_3
      have hI : le_n ((mkM (v 0) (v 1) (v 2) (v 3) (upd (v 4) ((v 8 6).toNatClampNeg) x1) (v 5) (v 6) (v 7) (v 8 0) (v 8 1) 0 (v 8 3) (v 8 4) (v 8 5) (v 8 6) (v 8 7) (v 8 8)) 8 6) 60 := hI
      refine lv_aload_n hC.1 hC.2.1 dX6_append_47 rfl (lv_at hl 0 rfl) ?_
      refine lv_dup hC.1 hC.2.1 dX6_append_48 rfl ?_
      refine gf (v := .int (v 8 6)) hC fwX6 (hKN.go hAL hS) hP 0 rfl rfl 11 (by decide) rfl wd_898 rfl dX6_append_49 ?_
      refine lv_iconst (v := 1) hC.1 hC.2.1 dX6_append_52 (by decide) ?_
      refine lv_iadd hC.1 hC.2.1 dX6_append_53 ?_
      refine lv_topi (fun w_4 ew_4 => ?_)
      refine pf (v := .int w_4) (tv := .int) hC fwX6 (hKN.go hAL hS) hP (mdD_D hq (mkM (v 0) (v 1) (v 2) (v 3) (upd (v 4) ((v 8 6).toNatClampNeg) x1) (v 5) (v 6) (v 7) (v 8 0) (v 8 1) 0 (v 8 3) (v 8 4) (v 8 5) (v 8 6) (v 8 7) (v 8 8)) hs) hS 0 rfl rfl 11 (by decide) rfl wd_898 rfl rfl rfl (Nat.le_of_ble_eq_true rfl) dX6_append_54 (fun H locs hq_5 hS => ?_)
      have hP : PW G (mdW G q (mkM (v 0) (v 1) (v 2) (v 3) (upd (v 4) ((v 8 6).toNatClampNeg) x1) (v 5) (v 6) (v 7) (v 8 0) (v 8 1) 0 (v 8 3) (v 8 4) (v 8 5) w_4 (v 8 7) (v 8 8)) hs) H := hq_5
      have hI : True := trivial
      refine lv_aload_n hC.1 hC.2.1 dX6_append_57 rfl (lv_at hl 0 rfl) ?_
      refine gf (v := .int w_4) hC fwX6 (hKN.go hAL hS) hP 0 rfl rfl 11 (by decide) rfl wd_898 rfl dX6_append_58 ?_
      have e_6 : fX6_append v x1 = (mkM (v 0) (v 1) (v 2) (v 3) (upd (v 4) ((v 8 6).toNatClampNeg) x1) (v 5) (v 6) (v 7) (v 8 0) (v 8 1) 0 (v 8 3) (v 8 4) (v 8 5) w_4 (v 8 7) (v 8 8), w_4) := by subst ew_4; exact Eq.trans (if_neg k13) (Eq.trans (if_neg k28) rfl)
      have hg : fX6_append v x1 = (mkM (v 0) (v 1) (v 2) (v 3) (upd (v 4) ((v 8 6).toNatClampNeg) x1) (v 5) (v 6) (v 7) (v 8 0) (v 8 1) 0 (v 8 3) (v 8 4) (v 8 5) w_4 (v 8 7) (v 8 8), w_4) := hg.trans (congrArg (fun z => z) e_6)
      exact eE_i hC (by rw [hg]) (by show PW G (mdW G q (fX6_append v x1).1 hs) H; rw [hg]; exact hP) hS dX6_append_61
    · refine lv_aload_n hC.1 hC.2.1 dX6_append_31 rfl (lv_at hl 0 rfl) ?_
      refine lv_iconst (v := 2) hC.1 hC.2.1 dX6_append_32 (by decide) ?_
      refine runE (rV (B := fun U H => PW G (mdW G q (mkM (v 0) (v 1) (v 2) (v 3) (v 4) (v 5) (v 6) (v 7) (v 8 0) (v 8 1) 0 (v 8 3) (v 8 4) (v 8 5) (v 8 6) (v 8 7) (v 8 8)) hs) H) (As := [.int 2]) (rest := []) hC mwX6_fails (c_X6_fails l G q (mkM (v 0) (v 1) (v 2) (v 3) (v 4) (v 5) (v 6) (v 7) (v 8 0) (v 8 1) 0 (v 8 3) (v 8 4) (v 8 5) (v 8 6) (v 8 7) (v 8 8)) hs 2 hq) iwX6_fails wd_950 ⟨rfl, rfl⟩ ⟨Nat.le_of_ble_eq_true rfl, Nat.le_of_ble_eq_true rfl⟩ (stb_h (fun H => PW G (mdW G q (mkM (v 0) (v 1) (v 2) (v 3) (v 4) (v 5) (v 6) (v 7) (v 8 0) (v 8 1) 0 (v 8 3) (v 8 4) (v 8 5) (v 8 6) (v 8 7) (v 8 8)) hs) H)) (hKN.go hAL hS) hP (va_recv (hKN.go hAL hS).k hP (ci := 6) (q0 := 0) rfl rfl) rfl hl.1 rfl (Nat.le_of_ble_eq_true rfl) dX6_append_33 ⟨Nat.zero_le _, Nat.zero_le _⟩) hS (fun _ h => h) (fun _ h => h) (fun H locs hq_7 _ _ hS => ?_)
      have hP : PW G (mdW G q ((fX6_fails (mkM (v 0) (v 1) (v 2) (v 3) (v 4) (v 5) (v 6) (v 7) (v 8 0) (v 8 1) 0 (v 8 3) (v 8 4) (v 8 5) (v 8 6) (v 8 7) (v 8 8)) 2).1) hs) H := hq_7
      obtain ⟨r_8, er_8⟩ : ∃ z, z = fX6_fails (mkM (v 0) (v 1) (v 2) (v 3) (v 4) (v 5) (v 6) (v 7) (v 8 0) (v 8 1) 0 (v 8 3) (v 8 4) (v 8 5) (v 8 6) (v 8 7) (v 8 8)) 2 := ⟨_, rfl⟩
      rw [← er_8] at hP
      show W p l e ({ frames := 1, cells := 0, slots := 0, locals := 22 }) s m ([.ref (q 0), .int x1] : List Value).toArray below meth c H locs (0 + 0) (0 + 0) _ (F0 m (33 + 3) ls [.int ((fX6_fails (mkM (v 0) (v 1) (v 2) (v 3) (v 4) (v 5) (v 6) (v 7) (v 8 0) (v 8 1) 0 (v 8 3) (v 8 4) (v 8 5) (v 8 6) (v 8 7) (v 8 8)) 2).2)])
      rw [← er_8]
      have hI : True := trivial
      have e_9 : fX6_append v x1 = (r_8.1, r_8.2) := by subst er_8; exact Eq.trans (if_neg k13) (Eq.trans (if_pos k28) rfl)
      have hg : fX6_append v x1 = (r_8.1, r_8.2) := hg.trans (congrArg (fun z => z) e_9)
      exact eE_i hC (by rw [hg]) (by show PW G (mdW G q (fX6_append v x1).1 hs) H; rw [hg]; exact hP) hS dX6_append_36
  · refine lv_aload_n hC.1 hC.2.1 dX6_append_16 rfl (lv_at hl 0 rfl) ?_
    refine lv_iconst (v := 1) hC.1 hC.2.1 dX6_append_17 (by decide) ?_
    refine runE (rV (B := fun U H => PW G (mdW G q (mkM (v 0) (v 1) (v 2) (v 3) (v 4) (v 5) (v 6) (v 7) (v 8 0) (v 8 1) 0 (v 8 3) (v 8 4) (v 8 5) (v 8 6) (v 8 7) (v 8 8)) hs) H) (As := [.int 1]) (rest := []) hC mwX6_fails (c_X6_fails l G q (mkM (v 0) (v 1) (v 2) (v 3) (v 4) (v 5) (v 6) (v 7) (v 8 0) (v 8 1) 0 (v 8 3) (v 8 4) (v 8 5) (v 8 6) (v 8 7) (v 8 8)) hs 1 hq) iwX6_fails wd_950 ⟨rfl, rfl⟩ ⟨Nat.le_of_ble_eq_true rfl, Nat.le_of_ble_eq_true rfl⟩ (stb_h (fun H => PW G (mdW G q (mkM (v 0) (v 1) (v 2) (v 3) (v 4) (v 5) (v 6) (v 7) (v 8 0) (v 8 1) 0 (v 8 3) (v 8 4) (v 8 5) (v 8 6) (v 8 7) (v 8 8)) hs) H)) (hKN.go hAL hS) hP (va_recv (hKN.go hAL hS).k hP (ci := 6) (q0 := 0) rfl rfl) rfl hl.1 rfl (Nat.le_of_ble_eq_true rfl) dX6_append_18 ⟨Nat.zero_le _, Nat.zero_le _⟩) hS (fun _ h => h) (fun _ h => h) (fun H locs hq_10 _ _ hS => ?_)
    have hP : PW G (mdW G q ((fX6_fails (mkM (v 0) (v 1) (v 2) (v 3) (v 4) (v 5) (v 6) (v 7) (v 8 0) (v 8 1) 0 (v 8 3) (v 8 4) (v 8 5) (v 8 6) (v 8 7) (v 8 8)) 1).1) hs) H := hq_10
    obtain ⟨r_11, er_11⟩ : ∃ z, z = fX6_fails (mkM (v 0) (v 1) (v 2) (v 3) (v 4) (v 5) (v 6) (v 7) (v 8 0) (v 8 1) 0 (v 8 3) (v 8 4) (v 8 5) (v 8 6) (v 8 7) (v 8 8)) 1 := ⟨_, rfl⟩
    rw [← er_11] at hP
    show W p l e ({ frames := 1, cells := 0, slots := 0, locals := 22 }) s m ([.ref (q 0), .int x1] : List Value).toArray below meth c H locs (0 + 0) (0 + 0) _ (F0 m (18 + 3) ls [.int ((fX6_fails (mkM (v 0) (v 1) (v 2) (v 3) (v 4) (v 5) (v 6) (v 7) (v 8 0) (v 8 1) 0 (v 8 3) (v 8 4) (v 8 5) (v 8 6) (v 8 7) (v 8 8)) 1).2)])
    rw [← er_11]
    have hI : True := trivial
    have e_12 : fX6_append v x1 = (r_11.1, r_11.2) := by subst er_11; exact Eq.trans (if_pos k13) rfl
    have hg : fX6_append v x1 = (r_11.1, r_11.2) := hg.trans (congrArg (fun z => z) e_12)
    exact eE_i hC (by rw [hg]) (by show PW G (mdW G q (fX6_append v x1).1 hs) H; rw [hg]; exact hP) hS dX6_append_21

theorem dX6_clearBuffer_0 : decode cX6_clearBuffer 0 = .ok (.aload_n 0, 1) := by decide +kernel
theorem dX6_clearBuffer_1 : decode cX6_clearBuffer 1 = .ok (.iconst 0, 1) := by decide +kernel
theorem dX6_clearBuffer_2 : decode cX6_clearBuffer 2 = .ok (.putfield 34, 3) := by decide +kernel
theorem dX6_clearBuffer_5 : decode cX6_clearBuffer 5 = .ok (.aload_n 0, 1) := by decide +kernel
theorem dX6_clearBuffer_6 : decode cX6_clearBuffer 6 = .ok (.getfield 133, 3) := by decide +kernel
theorem dX6_clearBuffer_9 : decode cX6_clearBuffer 9 = .ok (.istore_n 1, 1) := by decide +kernel
theorem dX6_clearBuffer_10 : decode cX6_clearBuffer 10 = .ok (.aload_n 0, 1) := by decide +kernel
theorem dX6_clearBuffer_11 : decode cX6_clearBuffer 11 = .ok (.iconst 0, 1) := by decide +kernel
theorem dX6_clearBuffer_12 : decode cX6_clearBuffer 12 = .ok (.putfield 133, 3) := by decide +kernel
theorem dX6_clearBuffer_15 : decode cX6_clearBuffer 15 = .ok (.iload_n 1, 1) := by decide +kernel
theorem dX6_clearBuffer_16 : decode cX6_clearBuffer 16 = .ok (.ireturn, 1) := by decide +kernel
set_option maxHeartbeats 1000000 in
set_option maxRecDepth 100000 in
theorem c_X6_clearBuffer (l : Launch) (G : GT) (q : Nat → Nat) (v : SV) (hs : Int64) (hq : mdD G q) : Met l yX6_clearBuffer (Cond.code yX6_clearBuffer cX6_clearBuffer 2 (some .int) :: bigW) ({ frames := 0, cells := 0, slots := 0, locals := 0 }) (BP G [.ref (q 0)] (fun U H => PW G (mdW G q v hs) H)) (QE (some (.int (fX6_clearBuffer v).2)) (fun H => PW G (mdW G q (fX6_clearBuffer v).1 hs) H) (mdA q)) 0 0 (mdA q) := by
  refine met_of (by decide) (Nat.le_of_ble_eq_true rfl) ?_
  intro p e s m below meth c ls hC hKN hB0 hl
  have hP := hB0
  have hl : lv_has ls 2 [(0, .ref (q 0))] := hl
  have hS : va_S (mdA q) s.heap s.heap [] := va_S.rf
  have hAL : ∀ a, (mdA q) a → gL G ≤ a := mdD_low hq
  have hg : fX6_clearBuffer v = fX6_clearBuffer v := rfl
  refine lv_aload_n hC.1 hC.2.1 dX6_clearBuffer_0 rfl (lv_at hl 0 rfl) ?_
  refine lv_iconst (v := 0) hC.1 hC.2.1 dX6_clearBuffer_1 (by decide) ?_
  refine pf (v := .int 0) (tv := .int) hC fwX6 hKN hP (mdD_D hq v hs) hS 0 rfl rfl 6 (by decide) rfl wd_893 rfl rfl rfl (Nat.le_of_ble_eq_true rfl) dX6_clearBuffer_2 (fun H locs hq_1 hS => ?_)
  have hP : PW G (mdW G q (mkM (v 0) (v 1) (v 2) (v 3) (v 4) (v 5) (v 6) (v 7) (v 8 0) (v 8 1) 0 (v 8 3) (v 8 4) (v 8 5) (v 8 6) (v 8 7) (v 8 8)) hs) H := hq_1
  refine lv_aload_n hC.1 hC.2.1 dX6_clearBuffer_5 rfl (lv_at hl 0 rfl) ?_
  refine gf (v := .int (v 8 6)) hC fwX6 (hKN.go hAL hS) hP 0 rfl rfl 11 (by decide) rfl wd_898 rfl dX6_clearBuffer_6 ?_
  refine lv_istore_n (lv' := [(1, .int (v 8 6)), (0, .ref (q 0))]) hC.1 hC.2.1 dX6_clearBuffer_9 rfl hl (by decide) rfl (fun ls hl => ?_)
  refine lv_aload_n hC.1 hC.2.1 dX6_clearBuffer_10 rfl (lv_at hl 1 rfl) ?_
  refine lv_iconst (v := 0) hC.1 hC.2.1 dX6_clearBuffer_11 (by decide) ?_
  refine pf (v := .int 0) (tv := .int) hC fwX6 (hKN.go hAL hS) hP (mdD_D hq (mkM (v 0) (v 1) (v 2) (v 3) (v 4) (v 5) (v 6) (v 7) (v 8 0) (v 8 1) 0 (v 8 3) (v 8 4) (v 8 5) (v 8 6) (v 8 7) (v 8 8)) hs) hS 0 rfl rfl 11 (by decide) rfl wd_898 rfl rfl rfl (Nat.le_of_ble_eq_true rfl) dX6_clearBuffer_12 (fun H locs hq_2 hS => ?_)
  have hP : PW G (mdW G q (mkM (v 0) (v 1) (v 2) (v 3) (v 4) (v 5) (v 6) (v 7) (v 8 0) (v 8 1) 0 (v 8 3) (v 8 4) (v 8 5) 0 (v 8 7) (v 8 8)) hs) H := hq_2
  refine lv_iload_n hC.1 hC.2.1 dX6_clearBuffer_15 rfl (lv_at hl 0 rfl) ?_
  have e_3 : fX6_clearBuffer v = (mkM (v 0) (v 1) (v 2) (v 3) (v 4) (v 5) (v 6) (v 7) (v 8 0) (v 8 1) 0 (v 8 3) (v 8 4) (v 8 5) 0 (v 8 7) (v 8 8), v 8 6) := by exact rfl
  have hg : fX6_clearBuffer v = (mkM (v 0) (v 1) (v 2) (v 3) (v 4) (v 5) (v 6) (v 7) (v 8 0) (v 8 1) 0 (v 8 3) (v 8 4) (v 8 5) 0 (v 8 7) (v 8 8), v 8 6) := hg.trans (congrArg (fun z => z) e_3)
  exact eE_i hC (by rw [hg]) (by show PW G (mdW G q (fX6_clearBuffer v).1 hs) H; rw [hg]; exact hP) hS dX6_clearBuffer_16
